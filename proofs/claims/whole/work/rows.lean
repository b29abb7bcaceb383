section
-- ===== PART A: goes FIRST, ahead of the names: the tables' words, and 'selects' of the private methods out of them =====
/-- a private method of a class that the tables say can be made, by its rows of tables_1 -/
def lw_okq (q : MethodName × Nat) : Prop := (q.1.cls ≠ "java/lang/invoke/MethodHandle" ∧ q.1.cls ≠ "java/lang/invoke/VarHandle") ∧ Cond.instantiable q.1.cls q.2 ∈ tables_1 ∧ Cond.privateMethod q.1 ∈ tables_1 ∧ Cond.instanceMethod q.1 ∈ tables_1
theorem lw_p0 : lw_okq (⟨"HeavyGifts$Town", "lightest", "(I)I"⟩, 16) := ⟨⟨by decide +kernel, by decide +kernel⟩, List.mem_of_getElem? (i := 30) (by decide +kernel), List.mem_of_getElem? (i := 288) (by decide +kernel), List.mem_of_getElem? (i := 289) (by decide +kernel)⟩
theorem lw_p1 : lw_okq (⟨"HeavyGifts$Town", "heaviest", "(I)I"⟩, 16) := ⟨⟨by decide +kernel, by decide +kernel⟩, List.mem_of_getElem? (i := 30) (by decide +kernel), List.mem_of_getElem? (i := 295) (by decide +kernel), List.mem_of_getElem? (i := 296) (by decide +kernel)⟩
theorem lw_p2 : lw_okq (⟨"HeavyGifts", "makeGiftByBook", "(IIII)V"⟩, 18) := ⟨⟨by decide +kernel, by decide +kernel⟩, List.mem_of_getElem? (i := 22) (by decide +kernel), List.mem_of_getElem? (i := 303) (by decide +kernel), List.mem_of_getElem? (i := 304) (by decide +kernel)⟩
theorem lw_p3 : lw_okq (⟨"HeavyGifts$Town", "cheapestFit", "(I)I"⟩, 16) := ⟨⟨by decide +kernel, by decide +kernel⟩, List.mem_of_getElem? (i := 30) (by decide +kernel), List.mem_of_getElem? (i := 360) (by decide +kernel), List.mem_of_getElem? (i := 361) (by decide +kernel)⟩
theorem lw_p4 : lw_okq (⟨"HeavyGifts$Town", "nextSet", "(IIII)I"⟩, 16) := ⟨⟨by decide +kernel, by decide +kernel⟩, List.mem_of_getElem? (i := 30) (by decide +kernel), List.mem_of_getElem? (i := 364) (by decide +kernel), List.mem_of_getElem? (i := 365) (by decide +kernel)⟩
theorem lw_p5 : lw_okq (⟨"HeavyGifts$Town", "leastFitOf", "(II)I"⟩, 16) := ⟨⟨by decide +kernel, by decide +kernel⟩, List.mem_of_getElem? (i := 30) (by decide +kernel), List.mem_of_getElem? (i := 381) (by decide +kernel), List.mem_of_getElem? (i := 382) (by decide +kernel)⟩
theorem lw_p6 : lw_okq (⟨"HeavyGifts$Town", "waits", "(I)Z"⟩, 16) := ⟨⟨by decide +kernel, by decide +kernel⟩, List.mem_of_getElem? (i := 30) (by decide +kernel), List.mem_of_getElem? (i := 385) (by decide +kernel), List.mem_of_getElem? (i := 386) (by decide +kernel)⟩
theorem lw_p7 : lw_okq (⟨"java/lang/Throwable", "fillInStackTrace", "(I)Ljava/lang/Throwable;"⟩, 6) := ⟨⟨by decide +kernel, by decide +kernel⟩, List.mem_of_getElem? (i := 480) (by decide +kernel), List.mem_of_getElem? (i := 478) (by decide +kernel), List.mem_of_getElem? (i := 479) (by decide +kernel)⟩
theorem lw_p8 : lw_okq (⟨"HeavyGifts$Tape", "step", "()V"⟩, 13) := ⟨⟨by decide +kernel, by decide +kernel⟩, List.mem_of_getElem? (i := 127) (by decide +kernel), List.mem_of_getElem? (i := 519) (by decide +kernel), List.mem_of_getElem? (i := 520) (by decide +kernel)⟩
theorem lw_p9 : lw_okq (⟨"HeavyGifts$Tape", "isLetter", "(I)Z"⟩, 13) := ⟨⟨by decide +kernel, by decide +kernel⟩, List.mem_of_getElem? (i := 127) (by decide +kernel), List.mem_of_getElem? (i := 523) (by decide +kernel), List.mem_of_getElem? (i := 524) (by decide +kernel)⟩
theorem lw_p10 : lw_okq (⟨"HeavyGifts$Tape", "stepWord", "(I)V"⟩, 13) := ⟨⟨by decide +kernel, by decide +kernel⟩, List.mem_of_getElem? (i := 127) (by decide +kernel), List.mem_of_getElem? (i := 527) (by decide +kernel), List.mem_of_getElem? (i := 528) (by decide +kernel)⟩
theorem lw_p11 : lw_okq (⟨"HeavyGifts$Tape", "isDigit", "(I)Z"⟩, 13) := ⟨⟨by decide +kernel, by decide +kernel⟩, List.mem_of_getElem? (i := 127) (by decide +kernel), List.mem_of_getElem? (i := 531) (by decide +kernel), List.mem_of_getElem? (i := 532) (by decide +kernel)⟩
theorem lw_p12 : lw_okq (⟨"HeavyGifts$Tape", "stepNumber", "(I)V"⟩, 13) := ⟨⟨by decide +kernel, by decide +kernel⟩, List.mem_of_getElem? (i := 127) (by decide +kernel), List.mem_of_getElem? (i := 535) (by decide +kernel), List.mem_of_getElem? (i := 536) (by decide +kernel)⟩
theorem lw_p13 : lw_okq (⟨"HeavyGifts$Tape", "readLine", "()Z"⟩, 13) := ⟨⟨by decide +kernel, by decide +kernel⟩, List.mem_of_getElem? (i := 127) (by decide +kernel), List.mem_of_getElem? (i := 539) (by decide +kernel), List.mem_of_getElem? (i := 540) (by decide +kernel)⟩
theorem lw_p14 : lw_okq (⟨"HeavyGifts$Tape", "isWord", "(Ljava/lang/String;)Z"⟩, 13) := ⟨⟨by decide +kernel, by decide +kernel⟩, List.mem_of_getElem? (i := 127) (by decide +kernel), List.mem_of_getElem? (i := 544) (by decide +kernel), List.mem_of_getElem? (i := 545) (by decide +kernel)⟩
theorem lw_p15 : lw_okq (⟨"HeavyGifts$Tape", "readPerson", "()Z"⟩, 13) := ⟨⟨by decide +kernel, by decide +kernel⟩, List.mem_of_getElem? (i := 127) (by decide +kernel), List.mem_of_getElem? (i := 596) (by decide +kernel), List.mem_of_getElem? (i := 597) (by decide +kernel)⟩
def lw_privs_1 : List (MethodName × Nat) := [(⟨"HeavyGifts$Town", "lightest", "(I)I"⟩, 16), (⟨"HeavyGifts$Town", "heaviest", "(I)I"⟩, 16), (⟨"HeavyGifts", "makeGiftByBook", "(IIII)V"⟩, 18), (⟨"HeavyGifts$Town", "cheapestFit", "(I)I"⟩, 16), (⟨"HeavyGifts$Town", "nextSet", "(IIII)I"⟩, 16), (⟨"HeavyGifts$Town", "leastFitOf", "(II)I"⟩, 16), (⟨"HeavyGifts$Town", "waits", "(I)Z"⟩, 16), (⟨"java/lang/Throwable", "fillInStackTrace", "(I)Ljava/lang/Throwable;"⟩, 6), (⟨"HeavyGifts$Tape", "step", "()V"⟩, 13), (⟨"HeavyGifts$Tape", "isLetter", "(I)Z"⟩, 13), (⟨"HeavyGifts$Tape", "stepWord", "(I)V"⟩, 13), (⟨"HeavyGifts$Tape", "isDigit", "(I)Z"⟩, 13), (⟨"HeavyGifts$Tape", "stepNumber", "(I)V"⟩, 13), (⟨"HeavyGifts$Tape", "readLine", "()Z"⟩, 13), (⟨"HeavyGifts$Tape", "isWord", "(Ljava/lang/String;)Z"⟩, 13), (⟨"HeavyGifts$Tape", "readPerson", "()Z"⟩, 13)]
theorem lw_r1 : ∀ q ∈ lw_privs_1, lw_okq q := List.forall_mem_cons.mpr ⟨lw_p0, List.forall_mem_cons.mpr ⟨lw_p1, List.forall_mem_cons.mpr ⟨lw_p2, List.forall_mem_cons.mpr ⟨lw_p3, List.forall_mem_cons.mpr ⟨lw_p4, List.forall_mem_cons.mpr ⟨lw_p5, List.forall_mem_cons.mpr ⟨lw_p6, List.forall_mem_cons.mpr ⟨lw_p7, List.forall_mem_cons.mpr ⟨lw_p8, List.forall_mem_cons.mpr ⟨lw_p9, List.forall_mem_cons.mpr ⟨lw_p10, List.forall_mem_cons.mpr ⟨lw_p11, List.forall_mem_cons.mpr ⟨lw_p12, List.forall_mem_cons.mpr ⟨lw_p13, List.forall_mem_cons.mpr ⟨lw_p14, List.forall_mem_cons.mpr ⟨lw_p15, fun _ h => absurd h List.not_mem_nil⟩⟩⟩⟩⟩⟩⟩⟩⟩⟩⟩⟩⟩⟩⟩⟩
theorem lw_p16 : lw_okq (⟨"HeavyGifts$Tape", "refuse", "(I)Z"⟩, 13) := ⟨⟨by decide +kernel, by decide +kernel⟩, List.mem_of_getElem? (i := 127) (by decide +kernel), List.mem_of_getElem? (i := 600) (by decide +kernel), List.mem_of_getElem? (i := 601) (by decide +kernel)⟩
theorem lw_p17 : lw_okq (⟨"HeavyGifts$Tape", "skipWord", "(Ljava/lang/String;)Z"⟩, 13) := ⟨⟨by decide +kernel, by decide +kernel⟩, List.mem_of_getElem? (i := 127) (by decide +kernel), List.mem_of_getElem? (i := 605) (by decide +kernel), List.mem_of_getElem? (i := 606) (by decide +kernel)⟩
theorem lw_p18 : lw_okq (⟨"HeavyGifts$Tape", "takeNumber", "(II)Z"⟩, 13) := ⟨⟨by decide +kernel, by decide +kernel⟩, List.mem_of_getElem? (i := 127) (by decide +kernel), List.mem_of_getElem? (i := 609) (by decide +kernel), List.mem_of_getElem? (i := 610) (by decide +kernel)⟩
theorem lw_p19 : lw_okq (⟨"HeavyGifts$Tape", "kindTold", "()I"⟩, 13) := ⟨⟨by decide +kernel, by decide +kernel⟩, List.mem_of_getElem? (i := 127) (by decide +kernel), List.mem_of_getElem? (i := 613) (by decide +kernel), List.mem_of_getElem? (i := 614) (by decide +kernel)⟩
theorem lw_p20 : lw_okq (⟨"HeavyGifts$Tape", "takeStop", "()Z"⟩, 13) := ⟨⟨by decide +kernel, by decide +kernel⟩, List.mem_of_getElem? (i := 127) (by decide +kernel), List.mem_of_getElem? (i := 626) (by decide +kernel), List.mem_of_getElem? (i := 627) (by decide +kernel)⟩
theorem lw_p21 : lw_okq (⟨"HeavyGifts$Tape", "readThing", "()Z"⟩, 13) := ⟨⟨by decide +kernel, by decide +kernel⟩, List.mem_of_getElem? (i := 127) (by decide +kernel), List.mem_of_getElem? (i := 631) (by decide +kernel), List.mem_of_getElem? (i := 632) (by decide +kernel)⟩
theorem lw_p22 : lw_okq (⟨"HeavyGifts$Tape", "takePerson", "(I)Z"⟩, 13) := ⟨⟨by decide +kernel, by decide +kernel⟩, List.mem_of_getElem? (i := 127) (by decide +kernel), List.mem_of_getElem? (i := 635) (by decide +kernel), List.mem_of_getElem? (i := 636) (by decide +kernel)⟩
theorem lw_p23 : lw_okq (⟨"HeavyGifts$Tape", "personTold", "()Z"⟩, 13) := ⟨⟨by decide +kernel, by decide +kernel⟩, List.mem_of_getElem? (i := 127) (by decide +kernel), List.mem_of_getElem? (i := 639) (by decide +kernel), List.mem_of_getElem? (i := 640) (by decide +kernel)⟩
theorem lw_p24 : lw_okq (⟨"HeavyGifts$Tape", "readOwes", "()Z"⟩, 13) := ⟨⟨by decide +kernel, by decide +kernel⟩, List.mem_of_getElem? (i := 127) (by decide +kernel), List.mem_of_getElem? (i := 649) (by decide +kernel), List.mem_of_getElem? (i := 650) (by decide +kernel)⟩
theorem lw_p25 : lw_okq (⟨"HeavyGifts$Tape", "readLaw", "()Z"⟩, 13) := ⟨⟨by decide +kernel, by decide +kernel⟩, List.mem_of_getElem? (i := 127) (by decide +kernel), List.mem_of_getElem? (i := 655) (by decide +kernel), List.mem_of_getElem? (i := 656) (by decide +kernel)⟩
theorem lw_p26 : lw_okq (⟨"HeavyGifts$Tape", "readWithin", "()Z"⟩, 13) := ⟨⟨by decide +kernel, by decide +kernel⟩, List.mem_of_getElem? (i := 127) (by decide +kernel), List.mem_of_getElem? (i := 662) (by decide +kernel), List.mem_of_getElem? (i := 663) (by decide +kernel)⟩
theorem lw_p27 : lw_okq (⟨"HeavyGifts", "requirePerson", "(I)V"⟩, 18) := ⟨⟨by decide +kernel, by decide +kernel⟩, List.mem_of_getElem? (i := 22) (by decide +kernel), List.mem_of_getElem? (i := 705) (by decide +kernel), List.mem_of_getElem? (i := 706) (by decide +kernel)⟩
theorem lw_p28 : lw_okq (⟨"HeavyGifts", "requireThing", "(I)V"⟩, 18) := ⟨⟨by decide +kernel, by decide +kernel⟩, List.mem_of_getElem? (i := 22) (by decide +kernel), List.mem_of_getElem? (i := 718) (by decide +kernel), List.mem_of_getElem? (i := 719) (by decide +kernel)⟩
theorem lw_p29 : lw_okq (⟨"HeavyGifts", "requireWhat", "(II)V"⟩, 18) := ⟨⟨by decide +kernel, by decide +kernel⟩, List.mem_of_getElem? (i := 22) (by decide +kernel), List.mem_of_getElem? (i := 752) (by decide +kernel), List.mem_of_getElem? (i := 753) (by decide +kernel)⟩
theorem lw_p30 : lw_okq (⟨"HeavyGifts$Week", "tryRest", "(II)Z"⟩, 5) := ⟨⟨by decide +kernel, by decide +kernel⟩, List.mem_of_getElem? (i := 177) (by decide +kernel), List.mem_of_getElem? (i := 784) (by decide +kernel), List.mem_of_getElem? (i := 785) (by decide +kernel)⟩
theorem lw_p31 : lw_okq (⟨"HeavyGifts$Week", "tryTurn", "(III)Z"⟩, 5) := ⟨⟨by decide +kernel, by decide +kernel⟩, List.mem_of_getElem? (i := 177) (by decide +kernel), List.mem_of_getElem? (i := 793) (by decide +kernel), List.mem_of_getElem? (i := 794) (by decide +kernel)⟩
def lw_privs_2 : List (MethodName × Nat) := [(⟨"HeavyGifts$Tape", "refuse", "(I)Z"⟩, 13), (⟨"HeavyGifts$Tape", "skipWord", "(Ljava/lang/String;)Z"⟩, 13), (⟨"HeavyGifts$Tape", "takeNumber", "(II)Z"⟩, 13), (⟨"HeavyGifts$Tape", "kindTold", "()I"⟩, 13), (⟨"HeavyGifts$Tape", "takeStop", "()Z"⟩, 13), (⟨"HeavyGifts$Tape", "readThing", "()Z"⟩, 13), (⟨"HeavyGifts$Tape", "takePerson", "(I)Z"⟩, 13), (⟨"HeavyGifts$Tape", "personTold", "()Z"⟩, 13), (⟨"HeavyGifts$Tape", "readOwes", "()Z"⟩, 13), (⟨"HeavyGifts$Tape", "readLaw", "()Z"⟩, 13), (⟨"HeavyGifts$Tape", "readWithin", "()Z"⟩, 13), (⟨"HeavyGifts", "requirePerson", "(I)V"⟩, 18), (⟨"HeavyGifts", "requireThing", "(I)V"⟩, 18), (⟨"HeavyGifts", "requireWhat", "(II)V"⟩, 18), (⟨"HeavyGifts$Week", "tryRest", "(II)Z"⟩, 5), (⟨"HeavyGifts$Week", "tryTurn", "(III)Z"⟩, 5)]
theorem lw_r2 : ∀ q ∈ lw_privs_2, lw_okq q := List.forall_mem_cons.mpr ⟨lw_p16, List.forall_mem_cons.mpr ⟨lw_p17, List.forall_mem_cons.mpr ⟨lw_p18, List.forall_mem_cons.mpr ⟨lw_p19, List.forall_mem_cons.mpr ⟨lw_p20, List.forall_mem_cons.mpr ⟨lw_p21, List.forall_mem_cons.mpr ⟨lw_p22, List.forall_mem_cons.mpr ⟨lw_p23, List.forall_mem_cons.mpr ⟨lw_p24, List.forall_mem_cons.mpr ⟨lw_p25, List.forall_mem_cons.mpr ⟨lw_p26, List.forall_mem_cons.mpr ⟨lw_p27, List.forall_mem_cons.mpr ⟨lw_p28, List.forall_mem_cons.mpr ⟨lw_p29, List.forall_mem_cons.mpr ⟨lw_p30, List.forall_mem_cons.mpr ⟨lw_p31, fun _ h => absurd h List.not_mem_nil⟩⟩⟩⟩⟩⟩⟩⟩⟩⟩⟩⟩⟩⟩⟩⟩
theorem lw_p32 : lw_okq (⟨"HeavyGifts", "keepOrder", "()V"⟩, 18) := ⟨⟨by decide +kernel, by decide +kernel⟩, List.mem_of_getElem? (i := 22) (by decide +kernel), List.mem_of_getElem? (i := 801) (by decide +kernel), List.mem_of_getElem? (i := 802) (by decide +kernel)⟩
theorem lw_p33 : lw_okq (⟨"HeavyGifts$Getting", "noteState", "()V"⟩, 6) := ⟨⟨by decide +kernel, by decide +kernel⟩, List.mem_of_getElem? (i := 837) (by decide +kernel), List.mem_of_getElem? (i := 874) (by decide +kernel), List.mem_of_getElem? (i := 875) (by decide +kernel)⟩
theorem lw_p34 : lw_okq (⟨"HeavyGifts$Getting", "pack", "()V"⟩, 6) := ⟨⟨by decide +kernel, by decide +kernel⟩, List.mem_of_getElem? (i := 837) (by decide +kernel), List.mem_of_getElem? (i := 878) (by decide +kernel), List.mem_of_getElem? (i := 879) (by decide +kernel)⟩
theorem lw_p35 : lw_okq (⟨"HeavyGifts$Getting", "sumOfPacked", "()I"⟩, 6) := ⟨⟨by decide +kernel, by decide +kernel⟩, List.mem_of_getElem? (i := 837) (by decide +kernel), List.mem_of_getElem? (i := 882) (by decide +kernel), List.mem_of_getElem? (i := 883) (by decide +kernel)⟩
theorem lw_p36 : lw_okq (⟨"HeavyGifts$Getting", "isPacked", "(I)Z"⟩, 6) := ⟨⟨by decide +kernel, by decide +kernel⟩, List.mem_of_getElem? (i := 837) (by decide +kernel), List.mem_of_getElem? (i := 887) (by decide +kernel), List.mem_of_getElem? (i := 888) (by decide +kernel)⟩
theorem lw_p37 : lw_okq (⟨"HeavyGifts$Getting", "load", "(I)V"⟩, 6) := ⟨⟨by decide +kernel, by decide +kernel⟩, List.mem_of_getElem? (i := 837) (by decide +kernel), List.mem_of_getElem? (i := 892) (by decide +kernel), List.mem_of_getElem? (i := 893) (by decide +kernel)⟩
theorem lw_p38 : lw_okq (⟨"HeavyGifts$Getting", "spread", "(II)V"⟩, 6) := ⟨⟨by decide +kernel, by decide +kernel⟩, List.mem_of_getElem? (i := 837) (by decide +kernel), List.mem_of_getElem? (i := 897) (by decide +kernel), List.mem_of_getElem? (i := 898) (by decide +kernel)⟩
theorem lw_p39 : lw_okq (⟨"HeavyGifts$Getting", "spreadBySets", "(II)V"⟩, 6) := ⟨⟨by decide +kernel, by decide +kernel⟩, List.mem_of_getElem? (i := 837) (by decide +kernel), List.mem_of_getElem? (i := 901) (by decide +kernel), List.mem_of_getElem? (i := 902) (by decide +kernel)⟩
theorem lw_p40 : lw_okq (⟨"HeavyGifts$Getting", "spreadSet", "(III)V"⟩, 6) := ⟨⟨by decide +kernel, by decide +kernel⟩, List.mem_of_getElem? (i := 837) (by decide +kernel), List.mem_of_getElem? (i := 906) (by decide +kernel), List.mem_of_getElem? (i := 907) (by decide +kernel)⟩
theorem lw_p41 : lw_okq (⟨"HeavyGifts$Town", "fitsWithPart", "(III)Z"⟩, 16) := ⟨⟨by decide +kernel, by decide +kernel⟩, List.mem_of_getElem? (i := 30) (by decide +kernel), List.mem_of_getElem? (i := 926) (by decide +kernel), List.mem_of_getElem? (i := 927) (by decide +kernel)⟩
theorem lw_p42 : lw_okq (⟨"HeavyGifts", "requireWeights", "(I)V"⟩, 18) := ⟨⟨by decide +kernel, by decide +kernel⟩, List.mem_of_getElem? (i := 22) (by decide +kernel), List.mem_of_getElem? (i := 937) (by decide +kernel), List.mem_of_getElem? (i := 938) (by decide +kernel)⟩
theorem lw_p43 : lw_okq (⟨"HeavyGifts", "sortByWeight", "()V"⟩, 18) := ⟨⟨by decide +kernel, by decide +kernel⟩, List.mem_of_getElem? (i := 22) (by decide +kernel), List.mem_of_getElem? (i := 948) (by decide +kernel), List.mem_of_getElem? (i := 949) (by decide +kernel)⟩
theorem lw_p44 : lw_okq (⟨"HeavyGifts", "makesAllTo", "(II)Z"⟩, 18) := ⟨⟨by decide +kernel, by decide +kernel⟩, List.mem_of_getElem? (i := 22) (by decide +kernel), List.mem_of_getElem? (i := 953) (by decide +kernel), List.mem_of_getElem? (i := 954) (by decide +kernel)⟩
theorem lw_p45 : lw_okq (⟨"HeavyGifts", "markMadeByThings", "(II)V"⟩, 18) := ⟨⟨by decide +kernel, by decide +kernel⟩, List.mem_of_getElem? (i := 22) (by decide +kernel), List.mem_of_getElem? (i := 964) (by decide +kernel), List.mem_of_getElem? (i := 965) (by decide +kernel)⟩
theorem lw_p46 : lw_okq (⟨"HeavyGifts", "passDayByBook", "()V"⟩, 18) := ⟨⟨by decide +kernel, by decide +kernel⟩, List.mem_of_getElem? (i := 22) (by decide +kernel), List.mem_of_getElem? (i := 983) (by decide +kernel), List.mem_of_getElem? (i := 984) (by decide +kernel)⟩
theorem lw_p47 : lw_okq (⟨"HeavyGiftsModel", "fail", "(I)I"⟩, 55) := ⟨⟨by decide +kernel, by decide +kernel⟩, List.mem_of_getElem? (i := 987) (by decide +kernel), List.mem_of_getElem? (i := 1182) (by decide +kernel), List.mem_of_getElem? (i := 1183) (by decide +kernel)⟩
def lw_privs_3 : List (MethodName × Nat) := [(⟨"HeavyGifts", "keepOrder", "()V"⟩, 18), (⟨"HeavyGifts$Getting", "noteState", "()V"⟩, 6), (⟨"HeavyGifts$Getting", "pack", "()V"⟩, 6), (⟨"HeavyGifts$Getting", "sumOfPacked", "()I"⟩, 6), (⟨"HeavyGifts$Getting", "isPacked", "(I)Z"⟩, 6), (⟨"HeavyGifts$Getting", "load", "(I)V"⟩, 6), (⟨"HeavyGifts$Getting", "spread", "(II)V"⟩, 6), (⟨"HeavyGifts$Getting", "spreadBySets", "(II)V"⟩, 6), (⟨"HeavyGifts$Getting", "spreadSet", "(III)V"⟩, 6), (⟨"HeavyGifts$Town", "fitsWithPart", "(III)Z"⟩, 16), (⟨"HeavyGifts", "requireWeights", "(I)V"⟩, 18), (⟨"HeavyGifts", "sortByWeight", "()V"⟩, 18), (⟨"HeavyGifts", "makesAllTo", "(II)Z"⟩, 18), (⟨"HeavyGifts", "markMadeByThings", "(II)V"⟩, 18), (⟨"HeavyGifts", "passDayByBook", "()V"⟩, 18), (⟨"HeavyGiftsModel", "fail", "(I)I"⟩, 55)]
theorem lw_r3 : ∀ q ∈ lw_privs_3, lw_okq q := List.forall_mem_cons.mpr ⟨lw_p32, List.forall_mem_cons.mpr ⟨lw_p33, List.forall_mem_cons.mpr ⟨lw_p34, List.forall_mem_cons.mpr ⟨lw_p35, List.forall_mem_cons.mpr ⟨lw_p36, List.forall_mem_cons.mpr ⟨lw_p37, List.forall_mem_cons.mpr ⟨lw_p38, List.forall_mem_cons.mpr ⟨lw_p39, List.forall_mem_cons.mpr ⟨lw_p40, List.forall_mem_cons.mpr ⟨lw_p41, List.forall_mem_cons.mpr ⟨lw_p42, List.forall_mem_cons.mpr ⟨lw_p43, List.forall_mem_cons.mpr ⟨lw_p44, List.forall_mem_cons.mpr ⟨lw_p45, List.forall_mem_cons.mpr ⟨lw_p46, List.forall_mem_cons.mpr ⟨lw_p47, fun _ h => absurd h List.not_mem_nil⟩⟩⟩⟩⟩⟩⟩⟩⟩⟩⟩⟩⟩⟩⟩⟩
theorem lw_p48 : lw_okq (⟨"HeavyGiftsModel", "stepOn", "()V"⟩, 55) := ⟨⟨by decide +kernel, by decide +kernel⟩, List.mem_of_getElem? (i := 987) (by decide +kernel), List.mem_of_getElem? (i := 1186) (by decide +kernel), List.mem_of_getElem? (i := 1187) (by decide +kernel)⟩
theorem lw_p49 : lw_okq (⟨"HeavyGiftsModel", "byteAt", "(I)I"⟩, 55) := ⟨⟨by decide +kernel, by decide +kernel⟩, List.mem_of_getElem? (i := 987) (by decide +kernel), List.mem_of_getElem? (i := 1190) (by decide +kernel), List.mem_of_getElem? (i := 1191) (by decide +kernel)⟩
theorem lw_p50 : lw_okq (⟨"HeavyGiftsModel", "readLine", "(I)I"⟩, 55) := ⟨⟨by decide +kernel, by decide +kernel⟩, List.mem_of_getElem? (i := 987) (by decide +kernel), List.mem_of_getElem? (i := 1202) (by decide +kernel), List.mem_of_getElem? (i := 1203) (by decide +kernel)⟩
theorem lw_p51 : lw_okq (⟨"HeavyGiftsModel", "is", "(Ljava/lang/String;)Z"⟩, 55) := ⟨⟨by decide +kernel, by decide +kernel⟩, List.mem_of_getElem? (i := 987) (by decide +kernel), List.mem_of_getElem? (i := 1207) (by decide +kernel), List.mem_of_getElem? (i := 1208) (by decide +kernel)⟩
theorem lw_p52 : lw_okq (⟨"HeavyGiftsModel", "wrong", "(I)V"⟩, 55) := ⟨⟨by decide +kernel, by decide +kernel⟩, List.mem_of_getElem? (i := 987) (by decide +kernel), List.mem_of_getElem? (i := 1214) (by decide +kernel), List.mem_of_getElem? (i := 1215) (by decide +kernel)⟩
theorem lw_p53 : lw_okq (⟨"HeavyGiftsModel", "readOne", "()V"⟩, 55) := ⟨⟨by decide +kernel, by decide +kernel⟩, List.mem_of_getElem? (i := 987) (by decide +kernel), List.mem_of_getElem? (i := 1219) (by decide +kernel), List.mem_of_getElem? (i := 1220) (by decide +kernel)⟩
theorem lw_p54 : lw_okq (⟨"HeavyGiftsModel", "passes", "(Ljava/lang/String;)Z"⟩, 55) := ⟨⟨by decide +kernel, by decide +kernel⟩, List.mem_of_getElem? (i := 987) (by decide +kernel), List.mem_of_getElem? (i := 1224) (by decide +kernel), List.mem_of_getElem? (i := 1225) (by decide +kernel)⟩
theorem lw_p55 : lw_okq (⟨"HeavyGiftsModel", "readNumber", "(II)I"⟩, 55) := ⟨⟨by decide +kernel, by decide +kernel⟩, List.mem_of_getElem? (i := 987) (by decide +kernel), List.mem_of_getElem? (i := 1228) (by decide +kernel), List.mem_of_getElem? (i := 1229) (by decide +kernel)⟩
theorem lw_p56 : lw_okq (⟨"HeavyGiftsModel", "readThing", "()V"⟩, 55) := ⟨⟨by decide +kernel, by decide +kernel⟩, List.mem_of_getElem? (i := 987) (by decide +kernel), List.mem_of_getElem? (i := 1233) (by decide +kernel), List.mem_of_getElem? (i := 1234) (by decide +kernel)⟩
theorem lw_p57 : lw_okq (⟨"HeavyGiftsModel", "readPerson", "()I"⟩, 55) := ⟨⟨by decide +kernel, by decide +kernel⟩, List.mem_of_getElem? (i := 987) (by decide +kernel), List.mem_of_getElem? (i := 1237) (by decide +kernel), List.mem_of_getElem? (i := 1238) (by decide +kernel)⟩
theorem lw_p58 : lw_okq (⟨"HeavyGiftsModel", "personNow", "()I"⟩, 55) := ⟨⟨by decide +kernel, by decide +kernel⟩, List.mem_of_getElem? (i := 987) (by decide +kernel), List.mem_of_getElem? (i := 1241) (by decide +kernel), List.mem_of_getElem? (i := 1242) (by decide +kernel)⟩
theorem lw_p59 : lw_okq (⟨"HeavyGiftsModel", "readOwes", "()V"⟩, 55) := ⟨⟨by decide +kernel, by decide +kernel⟩, List.mem_of_getElem? (i := 987) (by decide +kernel), List.mem_of_getElem? (i := 1247) (by decide +kernel), List.mem_of_getElem? (i := 1248) (by decide +kernel)⟩
theorem lw_p60 : lw_okq (⟨"HeavyGiftsModel", "readLaw", "()V"⟩, 55) := ⟨⟨by decide +kernel, by decide +kernel⟩, List.mem_of_getElem? (i := 987) (by decide +kernel), List.mem_of_getElem? (i := 1252) (by decide +kernel), List.mem_of_getElem? (i := 1253) (by decide +kernel)⟩
theorem lw_p61 : lw_okq (⟨"HeavyGiftsModel", "isPerson", "(I)Z"⟩, 55) := ⟨⟨by decide +kernel, by decide +kernel⟩, List.mem_of_getElem? (i := 987) (by decide +kernel), List.mem_of_getElem? (i := 1276) (by decide +kernel), List.mem_of_getElem? (i := 1277) (by decide +kernel)⟩
theorem lw_p62 : lw_okq (⟨"HeavyGiftsModel", "hasOf", "([II)I"⟩, 55) := ⟨⟨by decide +kernel, by decide +kernel⟩, List.mem_of_getElem? (i := 987) (by decide +kernel), List.mem_of_getElem? (i := 1280) (by decide +kernel), List.mem_of_getElem? (i := 1281) (by decide +kernel)⟩
theorem lw_p63 : lw_okq (⟨"HeavyGiftsModel", "worthOf", "(I)I"⟩, 55) := ⟨⟨by decide +kernel, by decide +kernel⟩, List.mem_of_getElem? (i := 987) (by decide +kernel), List.mem_of_getElem? (i := 1284) (by decide +kernel), List.mem_of_getElem? (i := 1285) (by decide +kernel)⟩
def lw_privs_4 : List (MethodName × Nat) := [(⟨"HeavyGiftsModel", "stepOn", "()V"⟩, 55), (⟨"HeavyGiftsModel", "byteAt", "(I)I"⟩, 55), (⟨"HeavyGiftsModel", "readLine", "(I)I"⟩, 55), (⟨"HeavyGiftsModel", "is", "(Ljava/lang/String;)Z"⟩, 55), (⟨"HeavyGiftsModel", "wrong", "(I)V"⟩, 55), (⟨"HeavyGiftsModel", "readOne", "()V"⟩, 55), (⟨"HeavyGiftsModel", "passes", "(Ljava/lang/String;)Z"⟩, 55), (⟨"HeavyGiftsModel", "readNumber", "(II)I"⟩, 55), (⟨"HeavyGiftsModel", "readThing", "()V"⟩, 55), (⟨"HeavyGiftsModel", "readPerson", "()I"⟩, 55), (⟨"HeavyGiftsModel", "personNow", "()I"⟩, 55), (⟨"HeavyGiftsModel", "readOwes", "()V"⟩, 55), (⟨"HeavyGiftsModel", "readLaw", "()V"⟩, 55), (⟨"HeavyGiftsModel", "isPerson", "(I)Z"⟩, 55), (⟨"HeavyGiftsModel", "hasOf", "([II)I"⟩, 55), (⟨"HeavyGiftsModel", "worthOf", "(I)I"⟩, 55)]
theorem lw_r4 : ∀ q ∈ lw_privs_4, lw_okq q := List.forall_mem_cons.mpr ⟨lw_p48, List.forall_mem_cons.mpr ⟨lw_p49, List.forall_mem_cons.mpr ⟨lw_p50, List.forall_mem_cons.mpr ⟨lw_p51, List.forall_mem_cons.mpr ⟨lw_p52, List.forall_mem_cons.mpr ⟨lw_p53, List.forall_mem_cons.mpr ⟨lw_p54, List.forall_mem_cons.mpr ⟨lw_p55, List.forall_mem_cons.mpr ⟨lw_p56, List.forall_mem_cons.mpr ⟨lw_p57, List.forall_mem_cons.mpr ⟨lw_p58, List.forall_mem_cons.mpr ⟨lw_p59, List.forall_mem_cons.mpr ⟨lw_p60, List.forall_mem_cons.mpr ⟨lw_p61, List.forall_mem_cons.mpr ⟨lw_p62, List.forall_mem_cons.mpr ⟨lw_p63, fun _ h => absurd h List.not_mem_nil⟩⟩⟩⟩⟩⟩⟩⟩⟩⟩⟩⟩⟩⟩⟩⟩
theorem lw_p64 : lw_okq (⟨"HeavyGiftsModel", "weightOf", "(I)I"⟩, 55) := ⟨⟨by decide +kernel, by decide +kernel⟩, List.mem_of_getElem? (i := 987) (by decide +kernel), List.mem_of_getElem? (i := 1288) (by decide +kernel), List.mem_of_getElem? (i := 1289) (by decide +kernel)⟩
theorem lw_p65 : lw_okq (⟨"HeavyGiftsModel", "isThing", "(I)Z"⟩, 55) := ⟨⟨by decide +kernel, by decide +kernel⟩, List.mem_of_getElem? (i := 987) (by decide +kernel), List.mem_of_getElem? (i := 1296) (by decide +kernel), List.mem_of_getElem? (i := 1297) (by decide +kernel)⟩
theorem lw_p66 : lw_okq (⟨"HeavyGiftsModel", "troubleOf", "(IIII)I"⟩, 55) := ⟨⟨by decide +kernel, by decide +kernel⟩, List.mem_of_getElem? (i := 987) (by decide +kernel), List.mem_of_getElem? (i := 1304) (by decide +kernel), List.mem_of_getElem? (i := 1305) (by decide +kernel)⟩
theorem lw_p67 : lw_okq (⟨"HeavyGiftsModel", "lightest", "(I)I"⟩, 55) := ⟨⟨by decide +kernel, by decide +kernel⟩, List.mem_of_getElem? (i := 987) (by decide +kernel), List.mem_of_getElem? (i := 1308) (by decide +kernel), List.mem_of_getElem? (i := 1309) (by decide +kernel)⟩
theorem lw_p68 : lw_okq (⟨"HeavyGiftsModel", "makeNow", "(IIII)V"⟩, 55) := ⟨⟨by decide +kernel, by decide +kernel⟩, List.mem_of_getElem? (i := 987) (by decide +kernel), List.mem_of_getElem? (i := 1317) (by decide +kernel), List.mem_of_getElem? (i := 1318) (by decide +kernel)⟩
theorem lw_p69 : lw_okq (⟨"HeavyGiftsModel", "make", "([IIIII)I"⟩, 55) := ⟨⟨by decide +kernel, by decide +kernel⟩, List.mem_of_getElem? (i := 987) (by decide +kernel), List.mem_of_getElem? (i := 1321) (by decide +kernel), List.mem_of_getElem? (i := 1322) (by decide +kernel)⟩
theorem lw_p70 : lw_okq (⟨"HeavyGiftsModel", "fits", "([III)Z"⟩, 55) := ⟨⟨by decide +kernel, by decide +kernel⟩, List.mem_of_getElem? (i := 987) (by decide +kernel), List.mem_of_getElem? (i := 1337) (by decide +kernel), List.mem_of_getElem? (i := 1338) (by decide +kernel)⟩
theorem lw_p71 : lw_okq (⟨"HeavyGiftsModel", "sandFor", "([IIII)I"⟩, 55) := ⟨⟨by decide +kernel, by decide +kernel⟩, List.mem_of_getElem? (i := 987) (by decide +kernel), List.mem_of_getElem? (i := 1341) (by decide +kernel), List.mem_of_getElem? (i := 1342) (by decide +kernel)⟩
theorem lw_p72 : lw_okq (⟨"HeavyGiftsModel", "choiceOf", "([III)I"⟩, 55) := ⟨⟨by decide +kernel, by decide +kernel⟩, List.mem_of_getElem? (i := 987) (by decide +kernel), List.mem_of_getElem? (i := 1349) (by decide +kernel), List.mem_of_getElem? (i := 1350) (by decide +kernel)⟩
theorem lw_p73 : lw_okq (⟨"HeavyGiftsModel", "rankOf", "(II)I"⟩, 55) := ⟨⟨by decide +kernel, by decide +kernel⟩, List.mem_of_getElem? (i := 987) (by decide +kernel), List.mem_of_getElem? (i := 1353) (by decide +kernel), List.mem_of_getElem? (i := 1354) (by decide +kernel)⟩
theorem lw_p74 : lw_okq (⟨"HeavyGiftsModel", "whomOf", "([III)I"⟩, 55) := ⟨⟨by decide +kernel, by decide +kernel⟩, List.mem_of_getElem? (i := 987) (by decide +kernel), List.mem_of_getElem? (i := 1360) (by decide +kernel), List.mem_of_getElem? (i := 1361) (by decide +kernel)⟩
theorem lw_p75 : lw_okq (⟨"HeavyGiftsModel", "weekOn", "(II)V"⟩, 55) := ⟨⟨by decide +kernel, by decide +kernel⟩, List.mem_of_getElem? (i := 987) (by decide +kernel), List.mem_of_getElem? (i := 1375) (by decide +kernel), List.mem_of_getElem? (i := 1376) (by decide +kernel)⟩
theorem lw_p76 : lw_okq (⟨"HeavyGiftsModel", "answerOn", "(III)V"⟩, 55) := ⟨⟨by decide +kernel, by decide +kernel⟩, List.mem_of_getElem? (i := 987) (by decide +kernel), List.mem_of_getElem? (i := 1379) (by decide +kernel), List.mem_of_getElem? (i := 1380) (by decide +kernel)⟩
theorem lw_p77 : lw_okq (⟨"HeavyGiftsModel", "loadRow", "(I)V"⟩, 55) := ⟨⟨by decide +kernel, by decide +kernel⟩, List.mem_of_getElem? (i := 987) (by decide +kernel), List.mem_of_getElem? (i := 1383) (by decide +kernel), List.mem_of_getElem? (i := 1384) (by decide +kernel)⟩
theorem lw_p78 : lw_okq (⟨"HeavyGiftsModel", "come", "([II)V"⟩, 55) := ⟨⟨by decide +kernel, by decide +kernel⟩, List.mem_of_getElem? (i := 987) (by decide +kernel), List.mem_of_getElem? (i := 1395) (by decide +kernel), List.mem_of_getElem? (i := 1396) (by decide +kernel)⟩
theorem lw_p79 : lw_okq (⟨"HeavyGiftsModel", "isState", "(I[I)Z"⟩, 55) := ⟨⟨by decide +kernel, by decide +kernel⟩, List.mem_of_getElem? (i := 987) (by decide +kernel), List.mem_of_getElem? (i := 1402) (by decide +kernel), List.mem_of_getElem? (i := 1403) (by decide +kernel)⟩
def lw_privs_5 : List (MethodName × Nat) := [(⟨"HeavyGiftsModel", "weightOf", "(I)I"⟩, 55), (⟨"HeavyGiftsModel", "isThing", "(I)Z"⟩, 55), (⟨"HeavyGiftsModel", "troubleOf", "(IIII)I"⟩, 55), (⟨"HeavyGiftsModel", "lightest", "(I)I"⟩, 55), (⟨"HeavyGiftsModel", "makeNow", "(IIII)V"⟩, 55), (⟨"HeavyGiftsModel", "make", "([IIIII)I"⟩, 55), (⟨"HeavyGiftsModel", "fits", "([III)Z"⟩, 55), (⟨"HeavyGiftsModel", "sandFor", "([IIII)I"⟩, 55), (⟨"HeavyGiftsModel", "choiceOf", "([III)I"⟩, 55), (⟨"HeavyGiftsModel", "rankOf", "(II)I"⟩, 55), (⟨"HeavyGiftsModel", "whomOf", "([III)I"⟩, 55), (⟨"HeavyGiftsModel", "weekOn", "(II)V"⟩, 55), (⟨"HeavyGiftsModel", "answerOn", "(III)V"⟩, 55), (⟨"HeavyGiftsModel", "loadRow", "(I)V"⟩, 55), (⟨"HeavyGiftsModel", "come", "([II)V"⟩, 55), (⟨"HeavyGiftsModel", "isState", "(I[I)Z"⟩, 55)]
theorem lw_r5 : ∀ q ∈ lw_privs_5, lw_okq q := List.forall_mem_cons.mpr ⟨lw_p64, List.forall_mem_cons.mpr ⟨lw_p65, List.forall_mem_cons.mpr ⟨lw_p66, List.forall_mem_cons.mpr ⟨lw_p67, List.forall_mem_cons.mpr ⟨lw_p68, List.forall_mem_cons.mpr ⟨lw_p69, List.forall_mem_cons.mpr ⟨lw_p70, List.forall_mem_cons.mpr ⟨lw_p71, List.forall_mem_cons.mpr ⟨lw_p72, List.forall_mem_cons.mpr ⟨lw_p73, List.forall_mem_cons.mpr ⟨lw_p74, List.forall_mem_cons.mpr ⟨lw_p75, List.forall_mem_cons.mpr ⟨lw_p76, List.forall_mem_cons.mpr ⟨lw_p77, List.forall_mem_cons.mpr ⟨lw_p78, List.forall_mem_cons.mpr ⟨lw_p79, fun _ h => absurd h List.not_mem_nil⟩⟩⟩⟩⟩⟩⟩⟩⟩⟩⟩⟩⟩⟩⟩⟩
theorem lw_p80 : lw_okq (⟨"HeavyGiftsModel", "goOn", "(III)V"⟩, 55) := ⟨⟨by decide +kernel, by decide +kernel⟩, List.mem_of_getElem? (i := 987) (by decide +kernel), List.mem_of_getElem? (i := 1406) (by decide +kernel), List.mem_of_getElem? (i := 1407) (by decide +kernel)⟩
theorem lw_p81 : lw_okq (⟨"HeavyGiftsModel", "giveOn", "(IIII)V"⟩, 55) := ⟨⟨by decide +kernel, by decide +kernel⟩, List.mem_of_getElem? (i := 987) (by decide +kernel), List.mem_of_getElem? (i := 1410) (by decide +kernel), List.mem_of_getElem? (i := 1411) (by decide +kernel)⟩
theorem lw_p82 : lw_okq (⟨"HeavyGiftsModel", "anyFits", "(I)Z"⟩, 55) := ⟨⟨by decide +kernel, by decide +kernel⟩, List.mem_of_getElem? (i := 987) (by decide +kernel), List.mem_of_getElem? (i := 1418) (by decide +kernel), List.mem_of_getElem? (i := 1419) (by decide +kernel)⟩
theorem lw_p83 : lw_okq (⟨"HeavyGiftsModel", "fitsWith", "(III)Z"⟩, 55) := ⟨⟨by decide +kernel, by decide +kernel⟩, List.mem_of_getElem? (i := 987) (by decide +kernel), List.mem_of_getElem? (i := 1422) (by decide +kernel), List.mem_of_getElem? (i := 1423) (by decide +kernel)⟩
theorem lw_p84 : lw_okq (⟨"HeavyGiftsModel", "tellWeights", "(II)V"⟩, 55) := ⟨⟨by decide +kernel, by decide +kernel⟩, List.mem_of_getElem? (i := 987) (by decide +kernel), List.mem_of_getElem? (i := 1434) (by decide +kernel), List.mem_of_getElem? (i := 1435) (by decide +kernel)⟩
theorem lw_p85 : lw_okq (⟨"HeavyGiftsModel", "madeUpTo", "(I)I"⟩, 55) := ⟨⟨by decide +kernel, by decide +kernel⟩, List.mem_of_getElem? (i := 987) (by decide +kernel), List.mem_of_getElem? (i := 1438) (by decide +kernel), List.mem_of_getElem? (i := 1439) (by decide +kernel)⟩
theorem lw_p86 : lw_okq (⟨"HeavyGiftsModel", "dry", "()V"⟩, 55) := ⟨⟨by decide +kernel, by decide +kernel⟩, List.mem_of_getElem? (i := 987) (by decide +kernel), List.mem_of_getElem? (i := 1454) (by decide +kernel), List.mem_of_getElem? (i := 1455) (by decide +kernel)⟩
theorem lw_p87 : lw_okq (⟨"HeavyGiftsModel", "stillFrom", "()I"⟩, 55) := ⟨⟨by decide +kernel, by decide +kernel⟩, List.mem_of_getElem? (i := 987) (by decide +kernel), List.mem_of_getElem? (i := 1462) (by decide +kernel), List.mem_of_getElem? (i := 1463) (by decide +kernel)⟩
theorem lw_p88 : lw_okq (⟨"HeavyGiftsModel", "isStill", "([II)Z"⟩, 55) := ⟨⟨by decide +kernel, by decide +kernel⟩, List.mem_of_getElem? (i := 987) (by decide +kernel), List.mem_of_getElem? (i := 1466) (by decide +kernel), List.mem_of_getElem? (i := 1467) (by decide +kernel)⟩
def lw_privs_6 : List (MethodName × Nat) := [(⟨"HeavyGiftsModel", "goOn", "(III)V"⟩, 55), (⟨"HeavyGiftsModel", "giveOn", "(IIII)V"⟩, 55), (⟨"HeavyGiftsModel", "anyFits", "(I)Z"⟩, 55), (⟨"HeavyGiftsModel", "fitsWith", "(III)Z"⟩, 55), (⟨"HeavyGiftsModel", "tellWeights", "(II)V"⟩, 55), (⟨"HeavyGiftsModel", "madeUpTo", "(I)I"⟩, 55), (⟨"HeavyGiftsModel", "dry", "()V"⟩, 55), (⟨"HeavyGiftsModel", "stillFrom", "()I"⟩, 55), (⟨"HeavyGiftsModel", "isStill", "([II)Z"⟩, 55)]
theorem lw_r6 : ∀ q ∈ lw_privs_6, lw_okq q := List.forall_mem_cons.mpr ⟨lw_p80, List.forall_mem_cons.mpr ⟨lw_p81, List.forall_mem_cons.mpr ⟨lw_p82, List.forall_mem_cons.mpr ⟨lw_p83, List.forall_mem_cons.mpr ⟨lw_p84, List.forall_mem_cons.mpr ⟨lw_p85, List.forall_mem_cons.mpr ⟨lw_p86, List.forall_mem_cons.mpr ⟨lw_p87, List.forall_mem_cons.mpr ⟨lw_p88, fun _ h => absurd h List.not_mem_nil⟩⟩⟩⟩⟩⟩⟩⟩⟩
def lw_privs : List (MethodName × Nat) := lw_privs_1 ++ (lw_privs_2 ++ (lw_privs_3 ++ (lw_privs_4 ++ (lw_privs_5 ++ (lw_privs_6)))))
def lw_tbl : List Cond := k2_sels lw_privs ++ tables_1
theorem lw_privs_ok : ∀ q ∈ lw_privs, lw_okq q := by
  show ∀ q ∈ lw_privs_1 ++ (lw_privs_2 ++ (lw_privs_3 ++ (lw_privs_4 ++ (lw_privs_5 ++ (lw_privs_6))))), lw_okq q
  exact List.forall_mem_append.mpr ⟨lw_r1, List.forall_mem_append.mpr ⟨lw_r2, List.forall_mem_append.mpr ⟨lw_r3, List.forall_mem_append.mpr ⟨lw_r4, List.forall_mem_append.mpr ⟨lw_r5, lw_r6⟩⟩⟩⟩⟩
-- ===== end of PART A; then your names; then what follows =====
end
section
/-! ===== BEGIN printed: names, fields, word lists, decode rows ===== -/
def RX0 : String := "HeavyGifts$Book"
def TX0 : u_T := fun k => match k with
  | 0 => ("HeavyGifts$Book", "gifts", "I", false)
  | _ => ("HeavyGifts$Book", "rows", "[I", true)
def tyX0 : Nat → FieldType := fun k => match k with
  | 0 => .int
  | _ => .array .int
abbrev wsX00 : List Cond := u_ws RX0 TX0 2
theorem nmX0 : ∀ a, a < 2 → ∀ b, b < 2 → a ≠ b → (TX0 a).2.1 ≠ (TX0 b).2.1 := by decide +kernel
theorem tyX0_ok : ∀ k, k < 2 → parseFieldDescriptor (TX0 k).2.2.1 = some (tyX0 k) := by decide +kernel
abbrev cX0_init : ByteArray := prog_2_method_1_code
def yX0_init : MethodName := ⟨RX0, "<init>", "()V"⟩
abbrev cX0_length : ByteArray := prog_2_method_2_code
def yX0_length : MethodName := ⟨RX0, "length", "()I"⟩
abbrev cX0_isFull : ByteArray := prog_2_method_3_code
def yX0_isFull : MethodName := ⟨RX0, "isFull", "()Z"⟩
abbrev cX0_clear : ByteArray := prog_2_method_4_code
def yX0_clear : MethodName := ⟨RX0, "clear", "()V"⟩
abbrev cX0_entry : ByteArray := prog_2_method_5_code
def yX0_entry : MethodName := ⟨RX0, "entry", "(II)I"⟩
abbrev cX0_copyFrom : ByteArray := prog_2_method_6_code
def yX0_copyFrom : MethodName := ⟨RX0, "copyFrom", "(LHeavyGifts$Book;)V"⟩
abbrev cX0_write : ByteArray := prog_2_method_7_code
def yX0_write : MethodName := ⟨RX0, "write", "(LHeavyGifts$Town;IIII)V"⟩
abbrev cX0_takeBackLast : ByteArray := prog_2_method_8_code
def yX0_takeBackLast : MethodName := ⟨RX0, "takeBackLast", "(LHeavyGifts$Town;)V"⟩
def RX1 : String := "HeavyGifts$Getting"
def TX1 : u_T := fun k => match k with
  | 0 => ("HeavyGifts$Getting", "states", "[J", true)
  | 1 => ("HeavyGifts$Getting", "slots", "[S", true)
  | 2 => ("HeavyGifts$Getting", "packed", "[J", true)
  | 3 => ("HeavyGifts$Getting", "town", "LHeavyGifts$Town;", true)
  | 4 => ("HeavyGifts$Getting", "found", "I", false)
  | _ => ("HeavyGifts$Getting", "spent", "Z", false)
def tyX1 : Nat → FieldType := fun k => match k with
  | 0 => .array .long
  | 1 => .array .short
  | 2 => .array .long
  | 3 => .object "HeavyGifts$Town"
  | 4 => .int
  | _ => .boolean
abbrev wsX10 : List Cond := u_ws RX1 TX1 6
theorem nmX1 : ∀ a, a < 6 → ∀ b, b < 6 → a ≠ b → (TX1 a).2.1 ≠ (TX1 b).2.1 := by decide +kernel
theorem tyX1_ok : ∀ k, k < 6 → parseFieldDescriptor (TX1 k).2.2.1 = some (tyX1 k) := by decide +kernel
abbrev cX1_init : ByteArray := prog_3_method_1_code
def yX1_init : MethodName := ⟨RX1, "<init>", "()V"⟩
abbrev cX1_fewestGifts : ByteArray := prog_3_method_2_code
def yX1_fewestGifts : MethodName := ⟨RX1, "fewestGifts", "(LHeavyGifts$Town;II)I"⟩
abbrev cX1_spread : ByteArray := prog_3_method_3_code
def yX1_spread : MethodName := ⟨RX1, "spread", "(II)V"⟩
abbrev cX1_spreadBySets : ByteArray := prog_3_method_4_code
def yX1_spreadBySets : MethodName := ⟨RX1, "spreadBySets", "(II)V"⟩
abbrev cX1_spreadSet : ByteArray := prog_3_method_5_code
def yX1_spreadSet : MethodName := ⟨RX1, "spreadSet", "(III)V"⟩
abbrev cX1_noteState : ByteArray := prog_3_method_6_code
def yX1_noteState : MethodName := ⟨RX1, "noteState", "()V"⟩
abbrev cX1_pack : ByteArray := prog_3_method_7_code
def yX1_pack : MethodName := ⟨RX1, "pack", "()V"⟩
abbrev cX1_load : ByteArray := prog_3_method_8_code
def yX1_load : MethodName := ⟨RX1, "load", "(I)V"⟩
abbrev cX1_isPacked : ByteArray := prog_3_method_9_code
def yX1_isPacked : MethodName := ⟨RX1, "isPacked", "(I)Z"⟩
abbrev cX1_sumOfPacked : ByteArray := prog_3_method_10_code
def yX1_sumOfPacked : MethodName := ⟨RX1, "sumOfPacked", "()I"⟩
def RX2 : String := "HeavyGifts$Tape"
def TX2 : u_T := fun k => match k with
  | 0 => ("HeavyGifts$Tape", "town", "LHeavyGifts$Town;", true)
  | 1 => ("HeavyGifts$Tape", "text", "[B", true)
  | 2 => ("HeavyGifts$Tape", "fed", "I", false)
  | 3 => ("HeavyGifts$Tape", "length", "I", false)
  | 4 => ("HeavyGifts$Tape", "lawTold", "Z", false)
  | 5 => ("HeavyGifts$Tape", "withinTold", "Z", false)
  | 6 => ("HeavyGifts$Tape", "fault", "I", false)
  | 7 => ("HeavyGifts$Tape", "token", "I", false)
  | 8 => ("HeavyGifts$Tape", "start", "I", false)
  | 9 => ("HeavyGifts$Tape", "end", "I", false)
  | 10 => ("HeavyGifts$Tape", "digits", "I", false)
  | 11 => ("HeavyGifts$Tape", "value", "I", false)
  | _ => ("HeavyGifts$Tape", "taken", "I", false)
def tyX2 : Nat → FieldType := fun k => match k with
  | 0 => .object "HeavyGifts$Town"
  | 1 => .array .byte
  | 2 => .int
  | 3 => .int
  | 4 => .boolean
  | 5 => .boolean
  | 6 => .int
  | 7 => .int
  | 8 => .int
  | 9 => .int
  | 10 => .int
  | 11 => .int
  | _ => .int
abbrev wsX20 : List Cond := u_ws RX2 TX2 13
theorem nmX2 : ∀ a, a < 13 → ∀ b, b < 13 → a ≠ b → (TX2 a).2.1 ≠ (TX2 b).2.1 := by decide +kernel
theorem tyX2_ok : ∀ k, k < 13 → parseFieldDescriptor (TX2 k).2.2.1 = some (tyX2 k) := by decide +kernel
abbrev cX2_init : ByteArray := prog_4_method_1_code
def yX2_init : MethodName := ⟨RX2, "<init>", "()V"⟩
abbrev cX2_length : ByteArray := prog_4_method_2_code
def yX2_length : MethodName := ⟨RX2, "length", "()I"⟩
abbrev cX2_hasRoomFor : ByteArray := prog_4_method_3_code
def yX2_hasRoomFor : MethodName := ⟨RX2, "hasRoomFor", "(I)Z"⟩
abbrev cX2_putBytes : ByteArray := prog_4_method_4_code
def yX2_putBytes : MethodName := ⟨RX2, "putBytes", "(I)V"⟩
abbrev cX2_readTown : ByteArray := prog_4_method_5_code
def yX2_readTown : MethodName := ⟨RX2, "readTown", "(I)I"⟩
abbrev cX2_place : ByteArray := prog_4_method_6_code
def yX2_place : MethodName := ⟨RX2, "place", "()I"⟩
abbrev cX2_readLine : ByteArray := prog_4_method_7_code
def yX2_readLine : MethodName := ⟨RX2, "readLine", "()Z"⟩
abbrev cX2_readPerson : ByteArray := prog_4_method_8_code
def yX2_readPerson : MethodName := ⟨RX2, "readPerson", "()Z"⟩
abbrev cX2_kindTold : ByteArray := prog_4_method_9_code
def yX2_kindTold : MethodName := ⟨RX2, "kindTold", "()I"⟩
abbrev cX2_readThing : ByteArray := prog_4_method_10_code
def yX2_readThing : MethodName := ⟨RX2, "readThing", "()Z"⟩
abbrev cX2_readOwes : ByteArray := prog_4_method_11_code
def yX2_readOwes : MethodName := ⟨RX2, "readOwes", "()Z"⟩
abbrev cX2_readLaw : ByteArray := prog_4_method_12_code
def yX2_readLaw : MethodName := ⟨RX2, "readLaw", "()Z"⟩
abbrev cX2_readWithin : ByteArray := prog_4_method_13_code
def yX2_readWithin : MethodName := ⟨RX2, "readWithin", "()Z"⟩
abbrev cX2_takeNumber : ByteArray := prog_4_method_14_code
def yX2_takeNumber : MethodName := ⟨RX2, "takeNumber", "(II)Z"⟩
abbrev cX2_takePerson : ByteArray := prog_4_method_15_code
def yX2_takePerson : MethodName := ⟨RX2, "takePerson", "(I)Z"⟩
abbrev cX2_personTold : ByteArray := prog_4_method_16_code
def yX2_personTold : MethodName := ⟨RX2, "personTold", "()Z"⟩
abbrev cX2_takeStop : ByteArray := prog_4_method_17_code
def yX2_takeStop : MethodName := ⟨RX2, "takeStop", "()Z"⟩
abbrev cX2_refuse : ByteArray := prog_4_method_18_code
def yX2_refuse : MethodName := ⟨RX2, "refuse", "(I)Z"⟩
abbrev cX2_skipWord : ByteArray := prog_4_method_19_code
def yX2_skipWord : MethodName := ⟨RX2, "skipWord", "(Ljava/lang/String;)Z"⟩
abbrev cX2_isWord : ByteArray := prog_4_method_20_code
def yX2_isWord : MethodName := ⟨RX2, "isWord", "(Ljava/lang/String;)Z"⟩
abbrev cX2_step : ByteArray := prog_4_method_21_code
def yX2_step : MethodName := ⟨RX2, "step", "()V"⟩
abbrev cX2_stepWord : ByteArray := prog_4_method_22_code
def yX2_stepWord : MethodName := ⟨RX2, "stepWord", "(I)V"⟩
abbrev cX2_stepNumber : ByteArray := prog_4_method_23_code
def yX2_stepNumber : MethodName := ⟨RX2, "stepNumber", "(I)V"⟩
abbrev cX2_isLetter : ByteArray := prog_4_method_24_code
def yX2_isLetter : MethodName := ⟨RX2, "isLetter", "(I)Z"⟩
abbrev cX2_isDigit : ByteArray := prog_4_method_25_code
def yX2_isDigit : MethodName := ⟨RX2, "isDigit", "(I)Z"⟩
def RX3 : String := "HeavyGifts$Town"
def TX3 : u_T := fun k => match k with
  | 0 => ("HeavyGifts$Town", "people", "I", false)
  | 1 => ("HeavyGifts$Town", "things", "I", false)
  | 2 => ("HeavyGifts$Town", "law", "I", false)
  | 3 => ("HeavyGifts$Town", "within", "I", false)
  | 4 => ("HeavyGifts$Town", "day", "I", false)
  | 5 => ("HeavyGifts$Town", "wet", "I", false)
  | 6 => ("HeavyGifts$Town", "kind", "[I", true)
  | 7 => ("HeavyGifts$Town", "goal", "[I", true)
  | 8 => ("HeavyGifts$Town", "sand", "[I", true)
  | 9 => ("HeavyGifts$Town", "owed", "[I", true)
  | 10 => ("HeavyGifts$Town", "owedTo", "[I", true)
  | 11 => ("HeavyGifts$Town", "has", "[I", true)
  | 12 => ("HeavyGifts$Town", "weight", "[I", true)
  | 13 => ("HeavyGifts$Town", "worth", "[I", true)
  | 14 => ("HeavyGifts$Town", "lowWeights", "[I", true)
  | _ => ("HeavyGifts$Town", "highWeights", "[I", true)
def tyX3 : Nat → FieldType := fun k => match k with
  | 0 => .int
  | 1 => .int
  | 2 => .int
  | 3 => .int
  | 4 => .int
  | 5 => .int
  | 6 => .array .int
  | 7 => .array .int
  | 8 => .array .int
  | 9 => .array .int
  | 10 => .array .int
  | 11 => .array .int
  | 12 => .array .int
  | 13 => .array .int
  | 14 => .array .int
  | _ => .array .int
abbrev wsX30 : List Cond := u_ws RX3 TX3 16
theorem nmX3 : ∀ a, a < 16 → ∀ b, b < 16 → a ≠ b → (TX3 a).2.1 ≠ (TX3 b).2.1 := by decide +kernel
theorem tyX3_ok : ∀ k, k < 16 → parseFieldDescriptor (TX3 k).2.2.1 = some (tyX3 k) := by decide +kernel
abbrev cX3_init : ByteArray := prog_5_method_1_code
def yX3_init : MethodName := ⟨RX3, "<init>", "()V"⟩
abbrev cX3_clear : ByteArray := prog_5_method_2_code
def yX3_clear : MethodName := ⟨RX3, "clear", "()V"⟩
abbrev cX3_copyFrom : ByteArray := prog_5_method_3_code
def yX3_copyFrom : MethodName := ⟨RX3, "copyFrom", "(LHeavyGifts$Town;)V"⟩
abbrev cX3_addPerson : ByteArray := prog_5_method_4_code
def yX3_addPerson : MethodName := ⟨RX3, "addPerson", "(III)V"⟩
abbrev cX3_addThing : ByteArray := prog_5_method_5_code
def yX3_addThing : MethodName := ⟨RX3, "addThing", "(IIIZ)V"⟩
abbrev cX3_weighSets : ByteArray := prog_5_method_6_code
def yX3_weighSets : MethodName := ⟨RX3, "weighSets", "()V"⟩
abbrev cX3_weightOf : ByteArray := prog_5_method_7_code
def yX3_weightOf : MethodName := ⟨RX3, "weightOf", "(I)I"⟩
abbrev cX3_worthOf : ByteArray := prog_5_method_8_code
def yX3_worthOf : MethodName := ⟨RX3, "worthOf", "(I)I"⟩
abbrev cX3_holds : ByteArray := prog_5_method_9_code
def yX3_holds : MethodName := ⟨RX3, "holds", "(II)Z"⟩
abbrev cX3_holderOf : ByteArray := prog_5_method_10_code
def yX3_holderOf : MethodName := ⟨RX3, "holderOf", "(I)I"⟩
abbrev cX3_troubleOf : ByteArray := prog_5_method_11_code
def yX3_troubleOf : MethodName := ⟨RX3, "troubleOf", "(IIII)I"⟩
abbrev cX3_lightest : ByteArray := prog_5_method_12_code
def yX3_lightest : MethodName := ⟨RX3, "lightest", "(I)I"⟩
abbrev cX3_heaviest : ByteArray := prog_5_method_13_code
def yX3_heaviest : MethodName := ⟨RX3, "heaviest", "(I)I"⟩
abbrev cX3_mayAnswer : ByteArray := prog_5_method_14_code
def yX3_mayAnswer : MethodName := ⟨RX3, "mayAnswer", "(I)Z"⟩
abbrev cX3_nextFit : ByteArray := prog_5_method_15_code
def yX3_nextFit : MethodName := ⟨RX3, "nextFit", "(II)I"⟩
abbrev cX3_nextSet : ByteArray := prog_5_method_16_code
def yX3_nextSet : MethodName := ⟨RX3, "nextSet", "(IIII)I"⟩
abbrev cX3_stepUp : ByteArray := prog_5_method_17_code
def yX3_stepUp : MethodName := ⟨RX3, "stepUp", "(II)I"⟩
abbrev cX3_sandFor : ByteArray := prog_5_method_18_code
def yX3_sandFor : MethodName := ⟨RX3, "sandFor", "(II)I"⟩
abbrev cX3_takerFor : ByteArray := prog_5_method_19_code
def yX3_takerFor : MethodName := ⟨RX3, "takerFor", "(I)I"⟩
abbrev cX3_chosenSet : ByteArray := prog_5_method_20_code
def yX3_chosenSet : MethodName := ⟨RX3, "chosenSet", "(I)I"⟩
abbrev cX3_leastFitOf : ByteArray := prog_5_method_21_code
def yX3_leastFitOf : MethodName := ⟨RX3, "leastFitOf", "(II)I"⟩
abbrev cX3_cheapestFit : ByteArray := prog_5_method_22_code
def yX3_cheapestFit : MethodName := ⟨RX3, "cheapestFit", "(I)I"⟩
abbrev cX3_waits : ByteArray := prog_5_method_23_code
def yX3_waits : MethodName := ⟨RX3, "waits", "(I)Z"⟩
abbrev cX3_someoneWaits : ByteArray := prog_5_method_24_code
def yX3_someoneWaits : MethodName := ⟨RX3, "someoneWaits", "()Z"⟩
abbrev cX3_somethingDries : ByteArray := prog_5_method_25_code
def yX3_somethingDries : MethodName := ⟨RX3, "somethingDries", "()Z"⟩
abbrev cX3_endDay : ByteArray := prog_5_method_26_code
def yX3_endDay : MethodName := ⟨RX3, "endDay", "()V"⟩
abbrev cX3_hand : ByteArray := prog_5_method_27_code
def yX3_hand : MethodName := ⟨RX3, "hand", "(IIII)V"⟩
abbrev cX3_makeGift : ByteArray := prog_5_method_28_code
def yX3_makeGift : MethodName := ⟨RX3, "makeGift", "(IIII)V"⟩
abbrev cX3_giveByChoice : ByteArray := prog_5_method_29_code
def yX3_giveByChoice : MethodName := ⟨RX3, "giveByChoice", "(I)Z"⟩
abbrev cX3_nearestOff : ByteArray := prog_5_method_30_code
def yX3_nearestOff : MethodName := ⟨RX3, "nearestOff", "(I)I"⟩
abbrev cX3_cutHelps : ByteArray := prog_5_method_31_code
def yX3_cutHelps : MethodName := ⟨RX3, "cutHelps", "(III)Z"⟩
abbrev cX3_fitsWithPart : ByteArray := prog_5_method_32_code
def yX3_fitsWithPart : MethodName := ⟨RX3, "fitsWithPart", "(III)Z"⟩
def RX4 : String := "HeavyGifts$Week"
def TX4 : u_T := fun k => match k with
  | 0 => ("HeavyGifts$Week", "town", "LHeavyGifts$Town;", true)
  | 1 => ("HeavyGifts$Week", "row", "[I", true)
  | 2 => ("HeavyGifts$Week", "owing", "I", false)
  | 3 => ("HeavyGifts$Week", "tries", "I", false)
  | _ => ("HeavyGifts$Week", "most", "I", false)
def tyX4 : Nat → FieldType := fun k => match k with
  | 0 => .object "HeavyGifts$Town"
  | 1 => .array .int
  | 2 => .int
  | 3 => .int
  | _ => .int
abbrev wsX40 : List Cond := u_ws RX4 TX4 5
theorem nmX4 : ∀ a, a < 5 → ∀ b, b < 5 → a ≠ b → (TX4 a).2.1 ≠ (TX4 b).2.1 := by decide +kernel
theorem tyX4_ok : ∀ k, k < 5 → parseFieldDescriptor (TX4 k).2.2.1 = some (tyX4 k) := by decide +kernel
abbrev cX4_init : ByteArray := prog_6_method_1_code
def yX4_init : MethodName := ⟨RX4, "<init>", "()V"⟩
abbrev cX4_tryAll : ByteArray := prog_6_method_2_code
def yX4_tryAll : MethodName := ⟨RX4, "tryAll", "(LHeavyGifts$Town;)Z"⟩
abbrev cX4_length : ByteArray := prog_6_method_3_code
def yX4_length : MethodName := ⟨RX4, "length", "()I"⟩
abbrev cX4_personAt : ByteArray := prog_6_method_4_code
def yX4_personAt : MethodName := ⟨RX4, "personAt", "(I)I"⟩
abbrev cX4_most : ByteArray := prog_6_method_5_code
def yX4_most : MethodName := ⟨RX4, "most", "()I"⟩
abbrev cX4_tries : ByteArray := prog_6_method_6_code
def yX4_tries : MethodName := ⟨RX4, "tries", "()I"⟩
abbrev cX4_isSpent : ByteArray := prog_6_method_7_code
def yX4_isSpent : MethodName := ⟨RX4, "isSpent", "()Z"⟩
abbrev cX4_tryRest : ByteArray := prog_6_method_8_code
def yX4_tryRest : MethodName := ⟨RX4, "tryRest", "(II)Z"⟩
abbrev cX4_tryTurn : ByteArray := prog_6_method_9_code
def yX4_tryTurn : MethodName := ⟨RX4, "tryTurn", "(III)Z"⟩
def RX5 : String := "HeavyGifts"
def TX5 : u_T := fun k => match k with
  | 0 => ("HeavyGifts", "town", "LHeavyGifts$Town;", true)
  | 1 => ("HeavyGifts", "spare", "LHeavyGifts$Town;", true)
  | 2 => ("HeavyGifts", "book", "LHeavyGifts$Book;", true)
  | 3 => ("HeavyGifts", "refusedTexts", "I", false)
  | 4 => ("HeavyGifts", "refusedGifts", "I", false)
  | 5 => ("HeavyGifts", "imageKept", "Z", false)
  | 6 => ("HeavyGifts", "imageTown", "LHeavyGifts$Town;", true)
  | 7 => ("HeavyGifts", "imageBook", "LHeavyGifts$Book;", true)
  | 8 => ("HeavyGifts", "imageTexts", "I", false)
  | 9 => ("HeavyGifts", "imageGifts", "I", false)
  | 10 => ("HeavyGifts", "tape", "LHeavyGifts$Tape;", true)
  | 11 => ("HeavyGifts", "faultPlace", "I", false)
  | 12 => ("HeavyGifts", "weekSearch", "LHeavyGifts$Week;", true)
  | 13 => ("HeavyGifts", "keptOrder", "[I", true)
  | 14 => ("HeavyGifts", "keptOrderLength", "I", false)
  | 15 => ("HeavyGifts", "getting", "LHeavyGifts$Getting;", false)
  | 16 => ("HeavyGifts", "made", "[I", true)
  | _ => ("HeavyGifts", "byWeight", "[I", true)
def tyX5 : Nat → FieldType := fun k => match k with
  | 0 => .object "HeavyGifts$Town"
  | 1 => .object "HeavyGifts$Town"
  | 2 => .object "HeavyGifts$Book"
  | 3 => .int
  | 4 => .int
  | 5 => .boolean
  | 6 => .object "HeavyGifts$Town"
  | 7 => .object "HeavyGifts$Book"
  | 8 => .int
  | 9 => .int
  | 10 => .object "HeavyGifts$Tape"
  | 11 => .int
  | 12 => .object "HeavyGifts$Week"
  | 13 => .array .int
  | 14 => .int
  | 15 => .object "HeavyGifts$Getting"
  | 16 => .array .int
  | _ => .array .int
abbrev wsX50 : List Cond := u_ws RX5 TX5 18
theorem nmX5 : ∀ a, a < 18 → ∀ b, b < 18 → a ≠ b → (TX5 a).2.1 ≠ (TX5 b).2.1 := by decide +kernel
theorem tyX5_ok : ∀ k, k < 18 → parseFieldDescriptor (TX5 k).2.2.1 = some (tyX5 k) := by decide +kernel
abbrev cX5_init : ByteArray := prog_1_method_1_code
def yX5_init : MethodName := ⟨RX5, "<init>", "()V"⟩
abbrev cX5_feed : ByteArray := prog_1_method_2_code
def yX5_feed : MethodName := ⟨RX5, "feed", "(IIIII)I"⟩
abbrev cX5_town : ByteArray := prog_1_method_3_code
def yX5_town : MethodName := ⟨RX5, "town", "(I)I"⟩
abbrev cX5_fault : ByteArray := prog_1_method_4_code
def yX5_fault : MethodName := ⟨RX5, "fault", "()I"⟩
abbrev cX5_count : ByteArray := prog_1_method_5_code
def yX5_count : MethodName := ⟨RX5, "count", "(I)I"⟩
abbrev cX5_person : ByteArray := prog_1_method_6_code
def yX5_person : MethodName := ⟨RX5, "person", "(II)I"⟩
abbrev cX5_thing : ByteArray := prog_1_method_7_code
def yX5_thing : MethodName := ⟨RX5, "thing", "(II)I"⟩
abbrev cX5_give : ByteArray := prog_1_method_8_code
def yX5_give : MethodName := ⟨RX5, "give", "(IIII)I"⟩
abbrev cX5_makeGiftByBook : ByteArray := prog_1_method_9_code
def yX5_makeGiftByBook : MethodName := ⟨RX5, "makeGiftByBook", "(IIII)V"⟩
abbrev cX5_judge : ByteArray := prog_1_method_10_code
def yX5_judge : MethodName := ⟨RX5, "judge", "(IIII)I"⟩
abbrev cX5_undo : ByteArray := prog_1_method_11_code
def yX5_undo : MethodName := ⟨RX5, "undo", "()I"⟩
abbrev cX5_gift : ByteArray := prog_1_method_12_code
def yX5_gift : MethodName := ⟨RX5, "gift", "(II)I"⟩
abbrev cX5_sets : ByteArray := prog_1_method_13_code
def yX5_sets : MethodName := ⟨RX5, "sets", "(I)I"⟩
abbrev cX5_choice : ByteArray := prog_1_method_14_code
def yX5_choice : MethodName := ⟨RX5, "choice", "(II)I"⟩
abbrev cX5_gap : ByteArray := prog_1_method_15_code
def yX5_gap : MethodName := ⟨RX5, "gap", "(I)I"⟩
abbrev cX5_week : ByteArray := prog_1_method_16_code
def yX5_week : MethodName := ⟨RX5, "week", "(I)I"⟩
abbrev cX5_keepOrder : ByteArray := prog_1_method_17_code
def yX5_keepOrder : MethodName := ⟨RX5, "keepOrder", "()V"⟩
abbrev cX5_order : ByteArray := prog_1_method_18_code
def yX5_order : MethodName := ⟨RX5, "order", "(I)I"⟩
abbrev cX5_get : ByteArray := prog_1_method_19_code
def yX5_get : MethodName := ⟨RX5, "get", "(II)I"⟩
abbrev cX5_cut : ByteArray := prog_1_method_20_code
def yX5_cut : MethodName := ⟨RX5, "cut", "(II)I"⟩
abbrev cX5_keep : ByteArray := prog_1_method_21_code
def yX5_keep : MethodName := ⟨RX5, "keep", "(II)I"⟩
abbrev cX5_fewest : ByteArray := prog_1_method_22_code
def yX5_fewest : MethodName := ⟨RX5, "fewest", "(I)I"⟩
abbrev cX5_sortByWeight : ByteArray := prog_1_method_23_code
def yX5_sortByWeight : MethodName := ⟨RX5, "sortByWeight", "()V"⟩
abbrev cX5_makesAllTo : ByteArray := prog_1_method_24_code
def yX5_makesAllTo : MethodName := ⟨RX5, "makesAllTo", "(II)Z"⟩
abbrev cX5_answers : ByteArray := prog_1_method_25_code
def yX5_answers : MethodName := ⟨RX5, "answers", "(IIZ)I"⟩
abbrev cX5_markMadeByThings : ByteArray := prog_1_method_26_code
def yX5_markMadeByThings : MethodName := ⟨RX5, "markMadeByThings", "(II)V"⟩
abbrev cX5_round : ByteArray := prog_1_method_27_code
def yX5_round : MethodName := ⟨RX5, "round", "(II)I"⟩
abbrev cX5_days : ByteArray := prog_1_method_28_code
def yX5_days : MethodName := ⟨RX5, "days", "(I)I"⟩
abbrev cX5_passDayByBook : ByteArray := prog_1_method_29_code
def yX5_passDayByBook : MethodName := ⟨RX5, "passDayByBook", "()V"⟩
abbrev cX5_still : ByteArray := prog_1_method_30_code
def yX5_still : MethodName := ⟨RX5, "still", "()I"⟩
abbrev cX5_image : ByteArray := prog_1_method_31_code
def yX5_image : MethodName := ⟨RX5, "image", "()V"⟩
abbrev cX5_restore : ByteArray := prog_1_method_32_code
def yX5_restore : MethodName := ⟨RX5, "restore", "()Z"⟩
abbrev cX5_requirePerson : ByteArray := prog_1_method_33_code
def yX5_requirePerson : MethodName := ⟨RX5, "requirePerson", "(I)V"⟩
abbrev cX5_requireThing : ByteArray := prog_1_method_34_code
def yX5_requireThing : MethodName := ⟨RX5, "requireThing", "(I)V"⟩
abbrev cX5_requireWhat : ByteArray := prog_1_method_35_code
def yX5_requireWhat : MethodName := ⟨RX5, "requireWhat", "(II)V"⟩
abbrev cX5_requireWeights : ByteArray := prog_1_method_36_code
def yX5_requireWeights : MethodName := ⟨RX5, "requireWeights", "(I)V"⟩
def RX6 : String := "HeavyGiftsModel"
def TX6 : u_T := fun k => match k with
  | 0 => ("HeavyGiftsModel", "kinds", "[Ljava/lang/String;", true)
  | 1 => ("HeavyGiftsModel", "code", "I", false)
  | 2 => ("HeavyGiftsModel", "told", "[I", true)
  | 3 => ("HeavyGiftsModel", "kind", "[I", true)
  | 4 => ("HeavyGiftsModel", "kindBy", "[I", true)
  | 5 => ("HeavyGiftsModel", "worth", "[I", true)
  | 6 => ("HeavyGiftsModel", "status", "[I", true)
  | 7 => ("HeavyGiftsModel", "now", "[I", true)
  | 8 => ("HeavyGiftsModel", "read", "[I", true)
  | 9 => ("HeavyGiftsModel", "weight", "[I", true)
  | 10 => ("HeavyGiftsModel", "readWeight", "[I", true)
  | 11 => ("HeavyGiftsModel", "isWet", "[Z", true)
  | 12 => ("HeavyGiftsModel", "day", "I", false)
  | 13 => ("HeavyGiftsModel", "tape", "[I", true)
  | 14 => ("HeavyGiftsModel", "taped", "I", false)
  | 15 => ("HeavyGiftsModel", "at", "I", false)
  | 16 => ("HeavyGiftsModel", "size", "I", false)
  | 17 => ("HeavyGiftsModel", "token", "I", false)
  | 18 => ("HeavyGiftsModel", "number", "I", false)
  | 19 => ("HeavyGiftsModel", "begins", "I", false)
  | 20 => ("HeavyGiftsModel", "ends", "I", false)
  | 21 => ("HeavyGiftsModel", "bad", "I", false)
  | 22 => ("HeavyGiftsModel", "badPlace", "I", false)
  | 23 => ("HeavyGiftsModel", "faultPlace", "I", false)
  | 24 => ("HeavyGiftsModel", "gifts", "I", false)
  | 25 => ("HeavyGiftsModel", "book", "[I", true)
  | 26 => ("HeavyGiftsModel", "weekRows", "[I", true)
  | 27 => ("HeavyGiftsModel", "weekRow", "[I", true)
  | 28 => ("HeavyGiftsModel", "weekOwes", "[I", true)
  | 29 => ("HeavyGiftsModel", "weekTo", "[I", true)
  | 30 => ("HeavyGiftsModel", "orderTry", "[I", true)
  | 31 => ("HeavyGiftsModel", "order", "[I", true)
  | 32 => ("HeavyGiftsModel", "orderMany", "I", false)
  | 33 => ("HeavyGiftsModel", "weekMany", "I", false)
  | 34 => ("HeavyGiftsModel", "tries", "I", false)
  | 35 => ("HeavyGiftsModel", "mostAnswered", "I", false)
  | 36 => ("HeavyGiftsModel", "isSpent", "Z", false)
  | 37 => ("HeavyGiftsModel", "isAll", "Z", false)
  | 38 => ("HeavyGiftsModel", "states", "[I", true)
  | 39 => ("HeavyGiftsModel", "steps", "[I", true)
  | 40 => ("HeavyGiftsModel", "next", "[I", true)
  | 41 => ("HeavyGiftsModel", "heads", "[I", true)
  | 42 => ("HeavyGiftsModel", "row", "[I", true)
  | 43 => ("HeavyGiftsModel", "then", "[I", true)
  | 44 => ("HeavyGiftsModel", "stateMany", "I", false)
  | 45 => ("HeavyGiftsModel", "isTooMany", "Z", false)
  | 46 => ("HeavyGiftsModel", "canMake", "[Z", true)
  | 47 => ("HeavyGiftsModel", "weightNow", "[I", true)
  | 48 => ("HeavyGiftsModel", "hasImage", "Z", false)
  | 49 => ("HeavyGiftsModel", "giftsThen", "I", false)
  | 50 => ("HeavyGiftsModel", "dayThen", "I", false)
  | 51 => ("HeavyGiftsModel", "nowThen", "[I", true)
  | 52 => ("HeavyGiftsModel", "weightThen", "[I", true)
  | 53 => ("HeavyGiftsModel", "bookThen", "[I", true)
  | _ => ("HeavyGiftsModel", "statusThen", "[I", true)
def tyX6 : Nat → FieldType := fun k => match k with
  | 0 => .array (.object "java/lang/String")
  | 1 => .int
  | 2 => .array .int
  | 3 => .array .int
  | 4 => .array .int
  | 5 => .array .int
  | 6 => .array .int
  | 7 => .array .int
  | 8 => .array .int
  | 9 => .array .int
  | 10 => .array .int
  | 11 => .array .boolean
  | 12 => .int
  | 13 => .array .int
  | 14 => .int
  | 15 => .int
  | 16 => .int
  | 17 => .int
  | 18 => .int
  | 19 => .int
  | 20 => .int
  | 21 => .int
  | 22 => .int
  | 23 => .int
  | 24 => .int
  | 25 => .array .int
  | 26 => .array .int
  | 27 => .array .int
  | 28 => .array .int
  | 29 => .array .int
  | 30 => .array .int
  | 31 => .array .int
  | 32 => .int
  | 33 => .int
  | 34 => .int
  | 35 => .int
  | 36 => .boolean
  | 37 => .boolean
  | 38 => .array .int
  | 39 => .array .int
  | 40 => .array .int
  | 41 => .array .int
  | 42 => .array .int
  | 43 => .array .int
  | 44 => .int
  | 45 => .boolean
  | 46 => .array .boolean
  | 47 => .array .int
  | 48 => .boolean
  | 49 => .int
  | 50 => .int
  | 51 => .array .int
  | 52 => .array .int
  | 53 => .array .int
  | _ => .array .int
abbrev wsX60 : List Cond := u_ws RX6 TX6 55
theorem nmX6 : ∀ a, a < 55 → ∀ b, b < 55 → a ≠ b → (TX6 a).2.1 ≠ (TX6 b).2.1 := by decide +kernel
theorem tyX6_ok : ∀ k, k < 55 → parseFieldDescriptor (TX6 k).2.2.1 = some (tyX6 k) := by decide +kernel
abbrev cX6_init : ByteArray := prog_8_method_1_code
def yX6_init : MethodName := ⟨RX6, "<init>", "()V"⟩
abbrev cX6_thrown : ByteArray := prog_8_method_2_code
def yX6_thrown : MethodName := ⟨RX6, "thrown", "()I"⟩
abbrev cX6_fail : ByteArray := prog_8_method_3_code
def yX6_fail : MethodName := ⟨RX6, "fail", "(I)I"⟩
abbrev cX6_isIn : ByteArray := prog_8_method_4_code
def yX6_isIn : MethodName := ⟨RX6, "isIn", "(III)Z"⟩
abbrev cX6_begin : ByteArray := prog_8_method_5_code
def yX6_begin : MethodName := ⟨RX6, "begin", "([I)V"⟩
abbrev cX6_isPerson : ByteArray := prog_8_method_6_code
def yX6_isPerson : MethodName := ⟨RX6, "isPerson", "(I)Z"⟩
abbrev cX6_isThing : ByteArray := prog_8_method_7_code
def yX6_isThing : MethodName := ⟨RX6, "isThing", "(I)Z"⟩
abbrev cX6_feed : ByteArray := prog_8_method_8_code
def yX6_feed : MethodName := ⟨RX6, "feed", "(IIIII)I"⟩
abbrev cX6_byteAt : ByteArray := prog_8_method_9_code
def yX6_byteAt : MethodName := ⟨RX6, "byteAt", "(I)I"⟩
abbrev cX6_isLetter : ByteArray := prog_8_method_10_code
def yX6_isLetter : MethodName := ⟨RX6, "isLetter", "(I)Z"⟩
abbrev cX6_isDigit : ByteArray := prog_8_method_11_code
def yX6_isDigit : MethodName := ⟨RX6, "isDigit", "(I)Z"⟩
abbrev cX6_stepOn : ByteArray := prog_8_method_12_code
def yX6_stepOn : MethodName := ⟨RX6, "stepOn", "()V"⟩
abbrev cX6_wrong : ByteArray := prog_8_method_13_code
def yX6_wrong : MethodName := ⟨RX6, "wrong", "(I)V"⟩
abbrev cX6_is : ByteArray := prog_8_method_14_code
def yX6_is : MethodName := ⟨RX6, "is", "(Ljava/lang/String;)Z"⟩
abbrev cX6_passes : ByteArray := prog_8_method_15_code
def yX6_passes : MethodName := ⟨RX6, "passes", "(Ljava/lang/String;)Z"⟩
abbrev cX6_readNumber : ByteArray := prog_8_method_16_code
def yX6_readNumber : MethodName := ⟨RX6, "readNumber", "(II)I"⟩
abbrev cX6_personNow : ByteArray := prog_8_method_17_code
def yX6_personNow : MethodName := ⟨RX6, "personNow", "()I"⟩
abbrev cX6_readPerson : ByteArray := prog_8_method_18_code
def yX6_readPerson : MethodName := ⟨RX6, "readPerson", "()I"⟩
abbrev cX6_readOne : ByteArray := prog_8_method_19_code
def yX6_readOne : MethodName := ⟨RX6, "readOne", "()V"⟩
abbrev cX6_readThing : ByteArray := prog_8_method_20_code
def yX6_readThing : MethodName := ⟨RX6, "readThing", "()V"⟩
abbrev cX6_readOwes : ByteArray := prog_8_method_21_code
def yX6_readOwes : MethodName := ⟨RX6, "readOwes", "()V"⟩
abbrev cX6_readLaw : ByteArray := prog_8_method_22_code
def yX6_readLaw : MethodName := ⟨RX6, "readLaw", "()V"⟩
abbrev cX6_readLine : ByteArray := prog_8_method_23_code
def yX6_readLine : MethodName := ⟨RX6, "readLine", "(I)I"⟩
abbrev cX6_town : ByteArray := prog_8_method_24_code
def yX6_town : MethodName := ⟨RX6, "town", "(I)I"⟩
abbrev cX6_copy : ByteArray := prog_8_method_25_code
def yX6_copy : MethodName := ⟨RX6, "copy", "([I[I)V"⟩
abbrev cX6_fault : ByteArray := prog_8_method_26_code
def yX6_fault : MethodName := ⟨RX6, "fault", "()I"⟩
abbrev cX6_count : ByteArray := prog_8_method_27_code
def yX6_count : MethodName := ⟨RX6, "count", "(I)I"⟩
abbrev cX6_hasOf : ByteArray := prog_8_method_28_code
def yX6_hasOf : MethodName := ⟨RX6, "hasOf", "([II)I"⟩
abbrev cX6_weightOf : ByteArray := prog_8_method_29_code
def yX6_weightOf : MethodName := ⟨RX6, "weightOf", "(I)I"⟩
abbrev cX6_worthOf : ByteArray := prog_8_method_30_code
def yX6_worthOf : MethodName := ⟨RX6, "worthOf", "(I)I"⟩
abbrev cX6_person : ByteArray := prog_8_method_31_code
def yX6_person : MethodName := ⟨RX6, "person", "(II)I"⟩
abbrev cX6_thing : ByteArray := prog_8_method_32_code
def yX6_thing : MethodName := ⟨RX6, "thing", "(II)I"⟩
abbrev cX6_troubleOf : ByteArray := prog_8_method_33_code
def yX6_troubleOf : MethodName := ⟨RX6, "troubleOf", "(IIII)I"⟩
abbrev cX6_lightest : ByteArray := prog_8_method_34_code
def yX6_lightest : MethodName := ⟨RX6, "lightest", "(I)I"⟩
abbrev cX6_make : ByteArray := prog_8_method_35_code
def yX6_make : MethodName := ⟨RX6, "make", "([IIIII)I"⟩
abbrev cX6_makeNow : ByteArray := prog_8_method_36_code
def yX6_makeNow : MethodName := ⟨RX6, "makeNow", "(IIII)V"⟩
abbrev cX6_judge : ByteArray := prog_8_method_37_code
def yX6_judge : MethodName := ⟨RX6, "judge", "(IIII)I"⟩
abbrev cX6_give : ByteArray := prog_8_method_38_code
def yX6_give : MethodName := ⟨RX6, "give", "(IIII)I"⟩
abbrev cX6_undo : ByteArray := prog_8_method_39_code
def yX6_undo : MethodName := ⟨RX6, "undo", "()I"⟩
abbrev cX6_gift : ByteArray := prog_8_method_40_code
def yX6_gift : MethodName := ⟨RX6, "gift", "(II)I"⟩
abbrev cX6_sandFor : ByteArray := prog_8_method_41_code
def yX6_sandFor : MethodName := ⟨RX6, "sandFor", "([IIII)I"⟩
abbrev cX6_fits : ByteArray := prog_8_method_42_code
def yX6_fits : MethodName := ⟨RX6, "fits", "([III)Z"⟩
abbrev cX6_sets : ByteArray := prog_8_method_43_code
def yX6_sets : MethodName := ⟨RX6, "sets", "(I)I"⟩
abbrev cX6_bitsOf : ByteArray := prog_8_method_44_code
def yX6_bitsOf : MethodName := ⟨RX6, "bitsOf", "(I)I"⟩
abbrev cX6_rankOf : ByteArray := prog_8_method_45_code
def yX6_rankOf : MethodName := ⟨RX6, "rankOf", "(II)I"⟩
abbrev cX6_choiceOf : ByteArray := prog_8_method_46_code
def yX6_choiceOf : MethodName := ⟨RX6, "choiceOf", "([III)I"⟩
abbrev cX6_whomOf : ByteArray := prog_8_method_47_code
def yX6_whomOf : MethodName := ⟨RX6, "whomOf", "([III)I"⟩
abbrev cX6_choice : ByteArray := prog_8_method_48_code
def yX6_choice : MethodName := ⟨RX6, "choice", "(II)I"⟩
abbrev cX6_gap : ByteArray := prog_8_method_49_code
def yX6_gap : MethodName := ⟨RX6, "gap", "(I)I"⟩
abbrev cX6_loadRow : ByteArray := prog_8_method_50_code
def yX6_loadRow : MethodName := ⟨RX6, "loadRow", "(I)V"⟩
abbrev cX6_weekOn : ByteArray := prog_8_method_51_code
def yX6_weekOn : MethodName := ⟨RX6, "weekOn", "(II)V"⟩
abbrev cX6_answerOn : ByteArray := prog_8_method_52_code
def yX6_answerOn : MethodName := ⟨RX6, "answerOn", "(III)V"⟩
abbrev cX6_week : ByteArray := prog_8_method_53_code
def yX6_week : MethodName := ⟨RX6, "week", "(I)I"⟩
abbrev cX6_order : ByteArray := prog_8_method_54_code
def yX6_order : MethodName := ⟨RX6, "order", "(I)I"⟩
abbrev cX6_foldOf : ByteArray := prog_8_method_55_code
def yX6_foldOf : MethodName := ⟨RX6, "foldOf", "([I)I"⟩
abbrev cX6_isState : ByteArray := prog_8_method_56_code
def yX6_isState : MethodName := ⟨RX6, "isState", "(I[I)Z"⟩
abbrev cX6_come : ByteArray := prog_8_method_57_code
def yX6_come : MethodName := ⟨RX6, "come", "([II)V"⟩
abbrev cX6_giveOn : ByteArray := prog_8_method_58_code
def yX6_giveOn : MethodName := ⟨RX6, "giveOn", "(IIII)V"⟩
abbrev cX6_goOn : ByteArray := prog_8_method_59_code
def yX6_goOn : MethodName := ⟨RX6, "goOn", "(III)V"⟩
abbrev cX6_get : ByteArray := prog_8_method_60_code
def yX6_get : MethodName := ⟨RX6, "get", "(II)I"⟩
abbrev cX6_anyFits : ByteArray := prog_8_method_61_code
def yX6_anyFits : MethodName := ⟨RX6, "anyFits", "(I)Z"⟩
abbrev cX6_fitsWith : ByteArray := prog_8_method_62_code
def yX6_fitsWith : MethodName := ⟨RX6, "fitsWith", "(III)Z"⟩
abbrev cX6_cut : ByteArray := prog_8_method_63_code
def yX6_cut : MethodName := ⟨RX6, "cut", "(II)I"⟩
abbrev cX6_keep : ByteArray := prog_8_method_64_code
def yX6_keep : MethodName := ⟨RX6, "keep", "(II)I"⟩
abbrev cX6_tellWeights : ByteArray := prog_8_method_65_code
def yX6_tellWeights : MethodName := ⟨RX6, "tellWeights", "(II)V"⟩
abbrev cX6_madeUpTo : ByteArray := prog_8_method_66_code
def yX6_madeUpTo : MethodName := ⟨RX6, "madeUpTo", "(I)I"⟩
abbrev cX6_fewest : ByteArray := prog_8_method_67_code
def yX6_fewest : MethodName := ⟨RX6, "fewest", "(I)I"⟩
abbrev cX6_answers : ByteArray := prog_8_method_68_code
def yX6_answers : MethodName := ⟨RX6, "answers", "(IIZ)I"⟩
abbrev cX6_round : ByteArray := prog_8_method_69_code
def yX6_round : MethodName := ⟨RX6, "round", "(II)I"⟩
abbrev cX6_dry : ByteArray := prog_8_method_70_code
def yX6_dry : MethodName := ⟨RX6, "dry", "()V"⟩
abbrev cX6_days : ByteArray := prog_8_method_71_code
def yX6_days : MethodName := ⟨RX6, "days", "(I)I"⟩
abbrev cX6_isStill : ByteArray := prog_8_method_72_code
def yX6_isStill : MethodName := ⟨RX6, "isStill", "([II)Z"⟩
abbrev cX6_stillFrom : ByteArray := prog_8_method_73_code
def yX6_stillFrom : MethodName := ⟨RX6, "stillFrom", "()I"⟩
abbrev cX6_still : ByteArray := prog_8_method_74_code
def yX6_still : MethodName := ⟨RX6, "still", "()I"⟩
abbrev cX6_image : ByteArray := prog_8_method_75_code
def yX6_image : MethodName := ⟨RX6, "image", "()V"⟩
abbrev cX6_restore : ByteArray := prog_8_method_76_code
def yX6_restore : MethodName := ⟨RX6, "restore", "()Z"⟩
def RJx145de : String := "java/io/Serializable"
def TJx145de : u_T := fun k => match k with
  | _ => ("", "", "", false)
def tyJx145de : Nat → FieldType := fun k => match k with
  | _ => .int
abbrev wsJx145de0 : List Cond := u_ws RJx145de TJx145de 0
theorem nmJx145de : ∀ a, a < 0 → ∀ b, b < 0 → a ≠ b → (TJx145de a).2.1 ≠ (TJx145de b).2.1 := by decide +kernel
theorem tyJx145de_ok : ∀ k, k < 0 → parseFieldDescriptor (TJx145de k).2.2.1 = some (tyJx145de k) := by decide +kernel
def RJx9f9b0 : String := "java/lang/CharSequence"
def TJx9f9b0 : u_T := fun k => match k with
  | _ => ("", "", "", false)
def tyJx9f9b0 : Nat → FieldType := fun k => match k with
  | _ => .int
abbrev wsJx9f9b00 : List Cond := u_ws RJx9f9b0 TJx9f9b0 0
theorem nmJx9f9b0 : ∀ a, a < 0 → ∀ b, b < 0 → a ≠ b → (TJx9f9b0 a).2.1 ≠ (TJx9f9b0 b).2.1 := by decide +kernel
theorem tyJx9f9b0_ok : ∀ k, k < 0 → parseFieldDescriptor (TJx9f9b0 k).2.2.1 = some (tyJx9f9b0 k) := by decide +kernel
def RJxb160c : String := "java/lang/Comparable"
def TJxb160c : u_T := fun k => match k with
  | _ => ("", "", "", false)
def tyJxb160c : Nat → FieldType := fun k => match k with
  | _ => .int
abbrev wsJxb160c0 : List Cond := u_ws RJxb160c TJxb160c 0
theorem nmJxb160c : ∀ a, a < 0 → ∀ b, b < 0 → a ≠ b → (TJxb160c a).2.1 ≠ (TJxb160c b).2.1 := by decide +kernel
theorem tyJxb160c_ok : ∀ k, k < 0 → parseFieldDescriptor (TJxb160c k).2.2.1 = some (tyJxb160c k) := by decide +kernel
def RJ6 : String := "java/lang/Integer"
def TJ6 : u_T := fun k => match k with
  | _ => ("", "", "", false)
def tyJ6 : Nat → FieldType := fun k => match k with
  | _ => .int
abbrev wsJ60 : List Cond := u_ws RJ6 TJ6 0
theorem nmJ6 : ∀ a, a < 0 → ∀ b, b < 0 → a ≠ b → (TJ6 a).2.1 ≠ (TJ6 b).2.1 := by decide +kernel
theorem tyJ6_ok : ∀ k, k < 0 → parseFieldDescriptor (TJ6 k).2.2.1 = some (tyJ6 k) := by decide +kernel
abbrev cJ6_bitCount_0f7a4 : ByteArray := prog_14_method_49_code
def yJ6_bitCount_0f7a4 : MethodName := ⟨RJ6, "bitCount", "(I)I"⟩
def RJ9 : String := "java/lang/Math"
def TJ9 : u_T := fun k => match k with
  | _ => ("", "", "", false)
def tyJ9 : Nat → FieldType := fun k => match k with
  | _ => .int
abbrev wsJ90 : List Cond := u_ws RJ9 TJ9 0
theorem nmJ9 : ∀ a, a < 0 → ∀ b, b < 0 → a ≠ b → (TJ9 a).2.1 ≠ (TJ9 b).2.1 := by decide +kernel
theorem tyJ9_ok : ∀ k, k < 0 → parseFieldDescriptor (TJ9 k).2.2.1 = some (tyJ9 k) := by decide +kernel
abbrev cJ9_abs_0f7a4 : ByteArray := prog_15_method_59_code
def yJ9_abs_0f7a4 : MethodName := ⟨RJ9, "abs", "(I)I"⟩
abbrev cJ9_max_7cf53 : ByteArray := prog_15_method_65_code
def yJ9_max_7cf53 : MethodName := ⟨RJ9, "max", "(II)I"⟩
abbrev cJ9_min_7cf53 : ByteArray := prog_15_method_69_code
def yJ9_min_7cf53 : MethodName := ⟨RJ9, "min", "(II)I"⟩
def RJ0 : String := "java/lang/String"
def TJ0 : u_T := fun k => match k with
  | _ => ("", "", "", false)
def tyJ0 : Nat → FieldType := fun k => match k with
  | _ => .int
abbrev wsJ00 : List Cond := u_ws RJ0 TJ0 0
theorem nmJ0 : ∀ a, a < 0 → ∀ b, b < 0 → a ≠ b → (TJ0 a).2.1 ≠ (TJ0 b).2.1 := by decide +kernel
theorem tyJ0_ok : ∀ k, k < 0 → parseFieldDescriptor (TJ0 k).2.2.1 = some (tyJ0 k) := by decide +kernel
abbrev cJ0_length_8abf5 : ByteArray := prog_17_method_54_code
def yJ0_length_8abf5 : MethodName := ⟨RJ0, "length", "()I"⟩
abbrev cJ0_charAt_5068e : ByteArray := prog_17_method_56_code
def yJ0_charAt_5068e : MethodName := ⟨RJ0, "charAt", "(I)C"⟩
abbrev cJ0_coder_7d493 : ByteArray := prog_17_method_152_code
def yJ0_coder_7d493 : MethodName := ⟨RJ0, "coder", "()B"⟩
abbrev cJ0_isLatin1_aae02 : ByteArray := prog_17_method_154_code
def yJ0_isLatin1_aae02 : MethodName := ⟨RJ0, "isLatin1", "()Z"⟩
abbrev cJ0_checkIndex_df160 : ByteArray := prog_17_method_155_code
def yJ0_checkIndex_df160 : MethodName := ⟨RJ0, "checkIndex", "(II)V"⟩
def RJ1 : String := "java/lang/StringLatin1"
def TJ1 : u_T := fun k => match k with
  | _ => ("", "", "", false)
def tyJ1 : Nat → FieldType := fun k => match k with
  | _ => .int
abbrev wsJ10 : List Cond := u_ws RJ1 TJ1 0
theorem nmJ1 : ∀ a, a < 0 → ∀ b, b < 0 → a ≠ b → (TJ1 a).2.1 ≠ (TJ1 b).2.1 := by decide +kernel
theorem tyJ1_ok : ∀ k, k < 0 → parseFieldDescriptor (TJ1 k).2.2.1 = some (tyJ1 k) := by decide +kernel
abbrev cJ1_charAt_3b067 : ByteArray := prog_18_method_2_code
def yJ1_charAt_3b067 : MethodName := ⟨RJ1, "charAt", "([BI)C"⟩
def RJ2 : String := "java/lang/StringUTF16"
def TJ2 : u_T := fun k => match k with
  | _ => ("", "", "", false)
def tyJ2 : Nat → FieldType := fun k => match k with
  | _ => .int
abbrev wsJ20 : List Cond := u_ws RJ2 TJ2 0
theorem nmJ2 : ∀ a, a < 0 → ∀ b, b < 0 → a ≠ b → (TJ2 a).2.1 ≠ (TJ2 b).2.1 := by decide +kernel
theorem tyJ2_ok : ∀ k, k < 0 → parseFieldDescriptor (TJ2 k).2.2.1 = some (tyJ2 k) := by decide +kernel
abbrev cJ2_getChar_3b067 : ByteArray := prog_19_method_5_code
def yJ2_getChar_3b067 : MethodName := ⟨RJ2, "getChar", "([BI)C"⟩
abbrev cJ2_length_9d52b : ByteArray := prog_19_method_6_code
def yJ2_length_9d52b : MethodName := ⟨RJ2, "length", "([B)I"⟩
abbrev cJ2_charAt_3b067 : ByteArray := prog_19_method_83_code
def yJ2_charAt_3b067 : MethodName := ⟨RJ2, "charAt", "([BI)C"⟩
abbrev cJ2_checkIndex_2214a : ByteArray := prog_19_method_91_code
def yJ2_checkIndex_2214a : MethodName := ⟨RJ2, "checkIndex", "(I[B)V"⟩
def RJ10 : String := "java/lang/System"
def TJ10 : u_T := fun k => match k with
  | _ => ("", "", "", false)
def tyJ10 : Nat → FieldType := fun k => match k with
  | _ => .int
abbrev wsJ100 : List Cond := u_ws RJ10 TJ10 0
theorem nmJ10 : ∀ a, a < 0 → ∀ b, b < 0 → a ≠ b → (TJ10 a).2.1 ≠ (TJ10 b).2.1 := by decide +kernel
theorem tyJ10_ok : ∀ k, k < 0 → parseFieldDescriptor (TJ10 k).2.2.1 = some (tyJ10 k) := by decide +kernel
def RJxfd54e : String := "java/lang/constant/Constable"
def TJxfd54e : u_T := fun k => match k with
  | _ => ("", "", "", false)
def tyJxfd54e : Nat → FieldType := fun k => match k with
  | _ => .int
abbrev wsJxfd54e0 : List Cond := u_ws RJxfd54e TJxfd54e 0
theorem nmJxfd54e : ∀ a, a < 0 → ∀ b, b < 0 → a ≠ b → (TJxfd54e a).2.1 ≠ (TJxfd54e b).2.1 := by decide +kernel
theorem tyJxfd54e_ok : ∀ k, k < 0 → parseFieldDescriptor (TJxfd54e k).2.2.1 = some (tyJxfd54e k) := by decide +kernel
def RJx3cf43 : String := "java/lang/constant/ConstantDesc"
def TJx3cf43 : u_T := fun k => match k with
  | _ => ("", "", "", false)
def tyJx3cf43 : Nat → FieldType := fun k => match k with
  | _ => .int
abbrev wsJx3cf430 : List Cond := u_ws RJx3cf43 TJx3cf43 0
theorem nmJx3cf43 : ∀ a, a < 0 → ∀ b, b < 0 → a ≠ b → (TJx3cf43 a).2.1 ≠ (TJx3cf43 b).2.1 := by decide +kernel
theorem tyJx3cf43_ok : ∀ k, k < 0 → parseFieldDescriptor (TJx3cf43 k).2.2.1 = some (tyJx3cf43 k) := by decide +kernel
def RJ7 : String := "java/util/Arrays"
def TJ7 : u_T := fun k => match k with
  | _ => ("", "", "", false)
def tyJ7 : Nat → FieldType := fun k => match k with
  | _ => .int
abbrev wsJ70 : List Cond := u_ws RJ7 TJ7 0
theorem nmJ7 : ∀ a, a < 0 → ∀ b, b < 0 → a ≠ b → (TJ7 a).2.1 ≠ (TJ7 b).2.1 := by decide +kernel
theorem tyJ7_ok : ∀ k, k < 0 → parseFieldDescriptor (TJ7 k).2.2.1 = some (tyJ7 k) := by decide +kernel
abbrev cJ7_fill_53178 : ByteArray := prog_24_method_103_code
def yJ7_fill_53178 : MethodName := ⟨RJ7, "fill", "([II)V"⟩
abbrev cJ7_fill_fb410 : ByteArray := prog_24_method_105_code
def yJ7_fill_fb410 : MethodName := ⟨RJ7, "fill", "([SS)V"⟩
def RJ3 : String := "jdk/internal/util/Preconditions"
def TJ3 : u_T := fun k => match k with
  | _ => ("", "", "", false)
def tyJ3 : Nat → FieldType := fun k => match k with
  | _ => .int
abbrev wsJ30 : List Cond := u_ws RJ3 TJ3 0
theorem nmJ3 : ∀ a, a < 0 → ∀ b, b < 0 → a ≠ b → (TJ3 a).2.1 ≠ (TJ3 b).2.1 := by decide +kernel
theorem tyJ3_ok : ∀ k, k < 0 → parseFieldDescriptor (TJ3 k).2.2.1 = some (tyJ3 k) := by decide +kernel
abbrev cJ3_checkIndex_8e157 : ByteArray := prog_26_method_11_code
def yJ3_checkIndex_8e157 : MethodName := ⟨RJ3, "checkIndex", "(IILjava/util/function/BiFunction;)I"⟩
def RL : String := "HeavyGiftsLaw"
abbrev cL_town : ByteArray := method_3_code
def yL_town : MethodName := ⟨RL, "town", "(LHeavyGifts;I[J)I"⟩
abbrev cL_count : ByteArray := method_4_code
def yL_count : MethodName := ⟨RL, "count", "(LHeavyGifts;I[J)I"⟩
abbrev cL_person : ByteArray := method_5_code
def yL_person : MethodName := ⟨RL, "person", "(LHeavyGifts;II[J)I"⟩
abbrev cL_thing : ByteArray := method_6_code
def yL_thing : MethodName := ⟨RL, "thing", "(LHeavyGifts;II[J)I"⟩
abbrev cL_gift : ByteArray := method_7_code
def yL_gift : MethodName := ⟨RL, "gift", "(LHeavyGifts;II[J)I"⟩
abbrev cL_sets : ByteArray := method_8_code
def yL_sets : MethodName := ⟨RL, "sets", "(LHeavyGifts;I[J)I"⟩
abbrev cL_choice : ByteArray := method_9_code
def yL_choice : MethodName := ⟨RL, "choice", "(LHeavyGifts;II[J)I"⟩
abbrev cL_gap : ByteArray := method_10_code
def yL_gap : MethodName := ⟨RL, "gap", "(LHeavyGifts;I[J)I"⟩
abbrev cL_week : ByteArray := method_11_code
def yL_week : MethodName := ⟨RL, "week", "(LHeavyGifts;I[J)I"⟩
abbrev cL_order : ByteArray := method_12_code
def yL_order : MethodName := ⟨RL, "order", "(LHeavyGifts;I[J)I"⟩
abbrev cL_get : ByteArray := method_13_code
def yL_get : MethodName := ⟨RL, "get", "(LHeavyGifts;II[J)I"⟩
abbrev cL_cut : ByteArray := method_14_code
def yL_cut : MethodName := ⟨RL, "cut", "(LHeavyGifts;II[J)I"⟩
abbrev cL_keep : ByteArray := method_15_code
def yL_keep : MethodName := ⟨RL, "keep", "(LHeavyGifts;II[J)I"⟩
abbrev cL_fewest : ByteArray := method_16_code
def yL_fewest : MethodName := ⟨RL, "fewest", "(LHeavyGifts;I[J)I"⟩
abbrev cL_answers : ByteArray := method_17_code
def yL_answers : MethodName := ⟨RL, "answers", "(LHeavyGifts;IIZ[J)I"⟩
abbrev cL_round : ByteArray := method_18_code
def yL_round : MethodName := ⟨RL, "round", "(LHeavyGifts;II[J)I"⟩
abbrev cL_days : ByteArray := method_19_code
def yL_days : MethodName := ⟨RL, "days", "(LHeavyGifts;I[J)I"⟩
abbrev cL_law : ByteArray := code
def yL_law : MethodName := ⟨RL, "law", "([I)Z"⟩
abbrev vwCl : List vw_C := [(RX0, TX0, 2), (RX1, TX1, 6), (RX2, TX2, 13), (RX3, TX3, 16), (RX4, TX4, 5), (RX5, TX5, 18), (RX6, TX6, 55)]
end
section
/-! the world of the whole system: objects by numbers, whole numbers in two tables; a judgement G at a frame; contracts Ct -/
def g_UW : List Cond := lw_tbl.filter goodWord
theorem g_uw {w : Cond} (i : Nat) (h : (lw_tbl[i]?).any (fun x => decide (x = w)) = true) (hg : goodWord w = true) : w ∈ g_UW := by
  refine List.mem_filter.mpr ⟨?_, hg⟩
  cases h1 : lw_tbl[i]? with
  | none => rw [h1] at h; cases h
  | some x =>
    rw [h1] at h
    have h2 : x = w := by simpa using h
    subst h2
    exact List.mem_of_getElem? h1
theorem g_uw_good {ws : List Cond} (h : ∀ w ∈ ws, w ∈ g_UW) : GoodIn g_UW ws := fun w hw => ⟨h w hw, good_of_word (List.mem_filter.mp (h w hw)).2⟩
abbrev gM : Type := (Nat → Nat → Int32) × (Nat → Nat → Int64)
abbrev gT : Type := List (Option (Option Nat))
abbrev gS : Type := Nat → (Nat × gT) ⊕ (Nat × Nat)
abbrev gW : Type := va_G × (Nat → ClassId) × (Nat → Nat) × List Nat × gS
abbrev gY : Type := ByteArray × String × Nat × Option FieldType
def g_v (ad : Nat → Nat) : Value → Value
  | .ref a => .ref (ad a)
  | v => v
def g_fv (ad : Nat → Nat) (x : Int32) : Option (Option Nat) → Value
  | none => .int x
  | some none => .null
  | some (some j) => .ref (ad j)
def g_fs (ad : Nat → Nat) (t : gT) (f : Nat → Int32) : List Value := t.mapIdx (fun k o => g_fv ad (f k) o)
def g_E (Γ : gW) (M : gM) (i : Nat) : va_E := match Γ.2.2.2.2 i with
  | .inl (ci, t) => .inr (ci, g_fs Γ.2.2.1 t (M.1 i))
  | .inr (tc, n) => .inl (Γ.2.1 tc, n, if tc = 2 then .inr (.inl (M.2 i)) else .inl (M.1 i))
def g_ws (Γ : gW) (M : gM) : va_W := Γ.2.2.2.1.map (fun i => (Γ.2.2.1 i, g_E Γ M i))
def g_T (Γ : gW) : List (ClassId × FieldType) := [(Γ.2.1 0, .byte), (Γ.2.1 1, .int), (Γ.2.1 2, .long), (Γ.2.1 3, .short), (Γ.2.1 4, .boolean)]
def g_o (Γ : gW) (i : Nat) (sh : (Nat × gT) ⊕ (Nat × Nat)) : Prop := i ∈ Γ.2.2.2.1 ∧ Γ.2.2.2.2 i = sh
def g_u (M : gM) (i k : Nat) (x : Int32) : gM := (fun a b => if a = i ∧ b = k then x else M.1 a b, M.2)
def g_ul (M : gM) (i k : Nat) (x : Int64) : gM := (M.1, fun a b => if a = i ∧ b = k then x else M.2 a b)
def g_L (Γ : gW) (ls : Array Slot) (nL : Nat) (lv : List (Option Value)) : Prop := ls.size = nL ∧ lv_wf ls ∧ lv.length = nL ∧ ∀ (k : Nat) (v : Value), lv[k]? = some (some v) → ls[k]? = some (.val (g_v Γ.2.2.1 v))
def g_R (d : Nat) : Room := { frames := d + 1, cells := 0, slots := 0, locals := 12 + 50 * d }
def g_Q (Γ : gW) (Q : Option Value → gM → Prop) (A : Nat → Prop) : Array Value → State → Outcome → State → Prop := fun _ st oc t => (∃ (v : Option Value) (M' : gM), oc = .returned (v.map (g_v Γ.2.2.1)) ∧ Q v M' ∧ va_P Γ.1 vwCl (g_ws Γ M') t.heap) ∧ va_F A st t
abbrev gZ : Type := List Frame → Array Value → State → (Nat → Prop) → State → Prop
def g_Z (Γ : gW) (Q : Option Value → gM → Prop) : gZ := fun below args s A => MQ below (g_Q Γ Q A) args s 0 0 A
/-- what stays during a method -/
def g_F (Γ : gW) (μ : gY) (R : Room) (kn : Nat × Nat) (p : Program) (s : State) (m : MethodId) (args : Array Value) (meth : Method) (c : Code) (A : Nat → Prop) : Prop :=
  p.tables.exec = Jvm.exec ∧ c.code = μ.1 ∧ meth.sig.returnType = μ.2.2.2 ∧ meth.locks = false ∧ c.maxLocals = μ.2.2.1 ∧ s.vm.findClass μ.2.1 = some m.cls ∧ (∀ w ∈ g_UW, w.before args s = true) ∧ va_K Γ.1 vwCl (g_T Γ) s ∧ (∀ q : Nat, s.heap.size ≤ q → A q) ∧ kn.1 ≤ R.cells ∧ kn.2 ≤ R.slots
/-- what moves -/
def g_X (Γ : gW) (μ : gY) (s : State) (H : Heap) (locs : List Loc) (A : Nat → Prop) (ls : Array Slot) (lv : List (Option Value)) (M : gM) : Prop :=
  va_P Γ.1 vwCl (g_ws Γ M) H ∧ va_D A (g_ws Γ M) ∧ va_S A s.heap H locs ∧ g_L Γ ls μ.2.2.1 lv
def G (Γ : gW) (μ : gY) (R : Room) (kn : Nat × Nat) (Z : gZ) (pc : Nat) (lv : List (Option Value)) (st : List Value) (M : gM) : Prop :=
  ∀ (p : Program) (l : Launch) (e : Env) (s : State) (m : MethodId) (args : Array Value) (below : List Frame) (meth : Method) (c : Code) (H : Heap) (locs : List Loc) (A : Nat → Prop) (ls : Array Slot),
    g_F Γ μ R kn p s m args meth c A → g_X Γ μ s H locs A ls lv M → W p l e R s m args below meth c H locs kn.1 kn.2 (Z below args s A) (F0 m pc ls (st.map (g_v Γ.2.2.1)))
def Ct (Γ : gW) (y : MethodName) (μ : gY) (d : Nat) (av : List Value) (M : gM) (Q : Option Value → gM → Prop) : Prop :=
  ∀ (l : Launch) (sz : Nat), Met l y (.code y μ.1 μ.2.2.1 μ.2.2.2 :: g_UW) (g_R d) (va_Pc (av.map (g_v Γ.2.2.1)) (fun U => U.heap.size = sz ∧ va_P Γ.1 vwCl (g_ws Γ M) U.heap ∧ va_K Γ.1 vwCl (g_T Γ) U ∧ va_D (fun _ => True) (g_ws Γ M))) (g_Q Γ Q (va_A (g_ws Γ M) sz)) 0 0 (va_A (g_ws Γ M) sz)
/-! lookups -/
theorem g_ws_at {Γ : gW} {M : gM} {i : Nat} (h : i ∈ Γ.2.2.2.1) : ∃ q0 : Nat, Γ.2.2.2.1[q0]? = some i ∧ (g_ws Γ M)[q0]? = some (Γ.2.2.1 i, g_E Γ M i) := by
  obtain ⟨q0, hq⟩ := List.getElem?_of_mem h
  exact ⟨q0, hq, by simp [g_ws, hq]⟩
theorem g_ws_set {Γ : gW} {M M' : gM} {A : Nat → Prop} {i q0 : Nat} {x : va_E} (hD : va_D A (g_ws Γ M)) (hq : Γ.2.2.2.1[q0]? = some i) (hx : g_E Γ M' i = x) (ho : ∀ j, j ≠ i → g_E Γ M' j = g_E Γ M j) : (g_ws Γ M).set q0 (Γ.2.2.1 i, x) = g_ws Γ M' := by
  have hat : (g_ws Γ M)[q0]? = some (Γ.2.2.1 i, g_E Γ M i) := by simp [g_ws, hq]
  have hlt : q0 < (g_ws Γ M).length := (List.getElem?_eq_some_iff.mp hat).1
  refine List.ext_getElem? fun q => ?_
  by_cases h : q0 = q
  · subst h
    rw [List.getElem?_set_self hlt]
    simp [g_ws, hq, hx]
  · rw [List.getElem?_set_ne h]
    cases hj : Γ.2.2.2.1[q]? with
    | none => simp [g_ws, hj]
    | some j =>
      have hat2 : (g_ws Γ M)[q]? = some (Γ.2.2.1 j, g_E Γ M j) := by simp [g_ws, hj]
      by_cases hji : j = i
      · subst hji
        exact absurd (hD.1 q0 q _ _ hat hat2 rfl) h
      · rw [hat2]
        simp [g_ws, hj, ho j hji]
theorem g_D_any {Γ : gW} {M M' : gM} {A : Nat → Prop} (hD : va_D A (g_ws Γ M)) : va_D A (g_ws Γ M') := by
  have at' : ∀ (k : Nat) (q : Nat × va_E), (g_ws Γ M')[k]? = some q → ∃ q' : Nat × va_E, (g_ws Γ M)[k]? = some q' ∧ q'.1 = q.1 := by
    intro k q h
    cases hj : Γ.2.2.2.1[k]? with
    | none => simp [g_ws, hj] at h
    | some j =>
      simp [g_ws, hj] at h
      exact ⟨(Γ.2.2.1 j, g_E Γ M j), by simp [g_ws, hj], by rw [← h]⟩
  refine ⟨fun i j p q h1 h2 he => ?_, fun k q h => ?_⟩
  · obtain ⟨p', a1, b1⟩ := at' i p h1
    obtain ⟨q', a2, b2⟩ := at' j q h2
    exact hD.1 i j p' q' a1 a2 (by rw [b1, b2, he])
  · obtain ⟨q', a2, b2⟩ := at' k q h
    rw [← b2]
    exact hD.2 k q' a2
/-! locals -/
def g_pairs (ad : Nat → Nat) (lv : List (Option Value)) : List (Nat × Value) := lv.zipIdx.filterMap (fun q => q.1.map (fun v => (q.2, g_v ad v)))
theorem g_mem_pairs {ad : Nat → Nat} {lv : List (Option Value)} {k : Nat} {w : Value} : (k, w) ∈ g_pairs ad lv ↔ ∃ v, lv[k]? = some (some v) ∧ w = g_v ad v := by
  unfold g_pairs
  rw [List.mem_filterMap]
  constructor
  · rintro ⟨⟨o, j⟩, h1, h2⟩
    rw [List.mk_mem_zipIdx_iff_getElem?] at h1
    cases o with
    | none => cases h2
    | some v =>
      simp only [Option.map_some, Option.some.injEq, Prod.mk.injEq] at h2
      obtain ⟨rfl, rfl⟩ := h2
      exact ⟨v, h1, rfl⟩
  · rintro ⟨v, h, rfl⟩
    exact ⟨(some v, k), (List.mk_mem_zipIdx_iff_getElem?).mpr h, rfl⟩
theorem g_L_has {Γ : gW} {ls : Array Slot} {nL : Nat} {lv : List (Option Value)} (h : g_L Γ ls nL lv) : lv_has ls nL (g_pairs Γ.2.2.1 lv) := by
  refine ⟨h.1, h.2.1, fun q hq => ?_⟩
  obtain ⟨v, h1, h2⟩ := g_mem_pairs.mp (show (q.1, q.2) ∈ _ from hq)
  rw [h2]
  exact h.2.2.2 _ _ h1
def g_c1 : Option Value → Bool
  | some v => !(v.category == 2)
  | none => true
theorem g_cat {ad : Nat → Nat} (v : Value) : (g_v ad v).category = v.category := by cases v <;> rfl
def g_nl (lv : List (Option Value)) (i : Nat) : Bool := match i with
  | 0 => true
  | j + 1 => g_c1 (lv.getD j none)
theorem g_L_set {Γ : gW} {ls' : Array Slot} {nL i : Nat} {lv : List (Option Value)} {x : Value} (hlen : lv.length = nL) (hn : g_nl lv i = true)
    (h : lv_has ls' nL ((i, g_v Γ.2.2.1 x) :: (g_pairs Γ.2.2.1 lv).filter (fun q => !(q.1 == i) && !(q.1 + 1 == i && q.2.category == 2)))) : g_L Γ ls' nL (lv.set i (some x)) := by
  refine ⟨h.1, h.2.1, by simp [hlen], fun k v hk => ?_⟩
  by_cases hki : k = i
  · subst hki
    rw [List.getElem?_set] at hk
    simp only [if_true] at hk
    split at hk
    · simp only [Option.some.injEq] at hk
      subst hk
      exact h.2.2 (k, _) List.mem_cons_self
    · cases hk
  · rw [List.getElem?_set_ne (fun e => hki e.symm)] at hk
    refine h.2.2 (k, g_v Γ.2.2.1 v) (List.mem_cons_of_mem _ (List.mem_filter.mpr ⟨g_mem_pairs.mpr ⟨v, hk, rfl⟩, ?_⟩))
    have h1 : (k == i) = false := by simpa using hki
    by_cases h2 : k + 1 = i
    · subst h2
      have h3 : (v.category == 2) = false := by
        have := hn
        simp only [g_nl, List.getD_eq_getElem?_getD, hk, Option.getD_some, g_c1, Bool.not_eq_true'] at this
        exact this
      simp [h1, g_cat, h3]
    · have h3 : (k + 1 == i) = false := by simpa using h2
      simp [h1, h3]
theorem g_L_set2 {Γ : gW} {ls' : Array Slot} {nL i : Nat} {lv : List (Option Value)} {x : Value} (hlen : lv.length = nL) (hn : g_nl lv i = true)
    (h : lv_has ls' nL ((i, g_v Γ.2.2.1 x) :: (g_pairs Γ.2.2.1 lv).filter (fun q => !(q.1 == i) && (!(q.1 == i + 1) && !(q.1 + 1 == i && q.2.category == 2))))) : g_L Γ ls' nL ((lv.set (i + 1) none).set i (some x)) := by
  refine ⟨h.1, h.2.1, by simp [hlen], fun k v hk => ?_⟩
  by_cases hki : k = i
  · subst hki
    rw [List.getElem?_set] at hk
    simp only [if_true] at hk
    split at hk
    · simp only [Option.some.injEq] at hk
      subst hk
      exact h.2.2 (k, _) List.mem_cons_self
    · cases hk
  · rw [List.getElem?_set_ne (fun e => hki e.symm)] at hk
    by_cases hk1 : k = i + 1
    · subst hk1
      rw [List.getElem?_set] at hk
      simp only [if_true] at hk
      split at hk <;> cases hk
    rw [List.getElem?_set_ne (fun e => hk1 e.symm)] at hk
    refine h.2.2 (k, g_v Γ.2.2.1 v) (List.mem_cons_of_mem _ (List.mem_filter.mpr ⟨g_mem_pairs.mpr ⟨v, hk, rfl⟩, ?_⟩))
    have h1 : (k == i) = false := by simpa using hki
    have h1b : (k == i + 1) = false := by simpa using hk1
    by_cases h2 : k + 1 = i
    · subst h2
      have h3 : (v.category == 2) = false := by
        have := hn
        simp only [g_nl, List.getD_eq_getElem?_getD, hk, Option.getD_some, g_c1, Bool.not_eq_true'] at this
        exact this
      simp [h1, h1b, g_cat, h3]
    · have h3 : (k + 1 == i) = false := by simpa using h2
      simp [h1, h1b, h3]
end
section
section GRows
variable {Γ : gW} {μ : gY} {R : Room} {kn : Nat × Nat} {Z : gZ} {pc q : Nat} {lv : List (Option Value)} {st : List Value} {M : gM}
theorem g_iadd {x y : Int32} (hd : decode μ.1 pc = .ok (.iadd, 1)) (hq : pc + 1 = q)  (k : G Γ μ R kn Z q lv (.int (x + y) :: st) M) : G Γ μ R kn Z pc lv (.int y :: .int x :: st) M := by
  subst hq
  exact fun p l e s m args below meth c H locs A ls F X => lv_iadd F.1 F.2.1 hd  (k p l e s m args below meth c H locs A ls F X)
theorem g_isub {x y : Int32} (hd : decode μ.1 pc = .ok (.isub, 1)) (hq : pc + 1 = q)  (k : G Γ μ R kn Z q lv (.int (x - y) :: st) M) : G Γ μ R kn Z pc lv (.int y :: .int x :: st) M := by
  subst hq
  exact fun p l e s m args below meth c H locs A ls F X => lv_isub F.1 F.2.1 hd  (k p l e s m args below meth c H locs A ls F X)
theorem g_imul {x y : Int32} (hd : decode μ.1 pc = .ok (.imul, 1)) (hq : pc + 1 = q)  (k : G Γ μ R kn Z q lv (.int (x * y) :: st) M) : G Γ μ R kn Z pc lv (.int y :: .int x :: st) M := by
  subst hq
  exact fun p l e s m args below meth c H locs A ls F X => lv_imul F.1 F.2.1 hd  (k p l e s m args below meth c H locs A ls F X)
theorem g_iand {x y : Int32} (hd : decode μ.1 pc = .ok (.iand, 1)) (hq : pc + 1 = q)  (k : G Γ μ R kn Z q lv (.int (x &&& y) :: st) M) : G Γ μ R kn Z pc lv (.int y :: .int x :: st) M := by
  subst hq
  exact fun p l e s m args below meth c H locs A ls F X => lv_iand F.1 F.2.1 hd  (k p l e s m args below meth c H locs A ls F X)
theorem g_ior {x y : Int32} (hd : decode μ.1 pc = .ok (.ior, 1)) (hq : pc + 1 = q)  (k : G Γ μ R kn Z q lv (.int (x ||| y) :: st) M) : G Γ μ R kn Z pc lv (.int y :: .int x :: st) M := by
  subst hq
  exact fun p l e s m args below meth c H locs A ls F X => lv_ior F.1 F.2.1 hd  (k p l e s m args below meth c H locs A ls F X)
theorem g_ixor {x y : Int32} (hd : decode μ.1 pc = .ok (.ixor, 1)) (hq : pc + 1 = q)  (k : G Γ μ R kn Z q lv (.int (x ^^^ y) :: st) M) : G Γ μ R kn Z pc lv (.int y :: .int x :: st) M := by
  subst hq
  exact fun p l e s m args below meth c H locs A ls F X => lv_ixor F.1 F.2.1 hd  (k p l e s m args below meth c H locs A ls F X)
theorem g_ishl {x y : Int32} (hd : decode μ.1 pc = .ok (.ishl, 1)) (hq : pc + 1 = q)  (k : G Γ μ R kn Z q lv (.int (x <<< (y &&& 31)) :: st) M) : G Γ μ R kn Z pc lv (.int y :: .int x :: st) M := by
  subst hq
  exact fun p l e s m args below meth c H locs A ls F X => lv_ishl F.1 F.2.1 hd  (k p l e s m args below meth c H locs A ls F X)
theorem g_ishr {x y : Int32} (hd : decode μ.1 pc = .ok (.ishr, 1)) (hq : pc + 1 = q)  (k : G Γ μ R kn Z q lv (.int (x >>> (y &&& 31)) :: st) M) : G Γ μ R kn Z pc lv (.int y :: .int x :: st) M := by
  subst hq
  exact fun p l e s m args below meth c H locs A ls F X => lv_ishr F.1 F.2.1 hd  (k p l e s m args below meth c H locs A ls F X)
theorem g_iushr {x y v : Int32} (hd : decode μ.1 pc = .ok (.iushr, 1)) (hq : pc + 1 = q) (hv : (x.toUInt32 >>> (y.toUInt32 &&& Int32.toUInt32 31)).toInt32 = v) (k : G Γ μ R kn Z q lv (.int v :: st) M) : G Γ μ R kn Z pc lv (.int y :: .int x :: st) M := by
  subst hq
  exact fun p l e s m args below meth c H locs A ls F X => lv_iushr F.1 F.2.1 hd hv (k p l e s m args below meth c H locs A ls F X)
theorem g_idiv {x y : Int32} (hd : decode μ.1 pc = .ok (.idiv, 1)) (hq : pc + 1 = q) (hne : ¬ y = 0) (k : G Γ μ R kn Z q lv (.int (x / y) :: st) M) : G Γ μ R kn Z pc lv (.int y :: .int x :: st) M := by
  subst hq
  exact fun p l e s m args below meth c H locs A ls F X => lv_idiv F.1 F.2.1 hd hne (k p l e s m args below meth c H locs A ls F X)
theorem g_irem {x y : Int32} (hd : decode μ.1 pc = .ok (.irem, 1)) (hq : pc + 1 = q) (hne : ¬ y = 0) (k : G Γ μ R kn Z q lv (.int (x - x / y * y) :: st) M) : G Γ μ R kn Z pc lv (.int y :: .int x :: st) M := by
  subst hq
  exact fun p l e s m args below meth c H locs A ls F X => lv_irem F.1 F.2.1 hd hne (k p l e s m args below meth c H locs A ls F X)
theorem g_ineg {x : Int32} (hd : decode μ.1 pc = .ok (.ineg, 1)) (hq : pc + 1 = q)  (k : G Γ μ R kn Z q lv (.int (-x) :: st) M) : G Γ μ R kn Z pc lv (.int x :: st) M := by
  subst hq
  exact fun p l e s m args below meth c H locs A ls F X => lv_ineg F.1 F.2.1 hd  (k p l e s m args below meth c H locs A ls F X)
theorem g_i2b {x : Int32} (hd : decode μ.1 pc = .ok (.i2b, 1)) (hq : pc + 1 = q)  (k : G Γ μ R kn Z q lv (.int (x.toInt8.toInt32) :: st) M) : G Γ μ R kn Z pc lv (.int x :: st) M := by
  subst hq
  exact fun p l e s m args below meth c H locs A ls F X => lv_i2b F.1 F.2.1 hd rfl (k p l e s m args below meth c H locs A ls F X)
theorem g_i2s {x : Int32} (hd : decode μ.1 pc = .ok (.i2s, 1)) (hq : pc + 1 = q)  (k : G Γ μ R kn Z q lv (.int (x.toInt16.toInt32) :: st) M) : G Γ μ R kn Z pc lv (.int x :: st) M := by
  subst hq
  exact fun p l e s m args below meth c H locs A ls F X => lv_i2s F.1 F.2.1 hd rfl (k p l e s m args below meth c H locs A ls F X)
theorem g_i2l {x : Int32} (hd : decode μ.1 pc = .ok (.i2l, 1)) (hq : pc + 1 = q)  (k : G Γ μ R kn Z q lv (.long (x.toInt64) :: st) M) : G Γ μ R kn Z pc lv (.int x :: st) M := by
  subst hq
  exact fun p l e s m args below meth c H locs A ls F X => lv_i2l F.1 F.2.1 hd rfl (k p l e s m args below meth c H locs A ls F X)
theorem g_l2i {x : Int64} (hd : decode μ.1 pc = .ok (.l2i, 1)) (hq : pc + 1 = q)  (k : G Γ μ R kn Z q lv (.int (x.toInt32) :: st) M) : G Γ μ R kn Z pc lv (.long x :: st) M := by
  subst hq
  exact fun p l e s m args below meth c H locs A ls F X => lv_l2i F.1 F.2.1 hd rfl (k p l e s m args below meth c H locs A ls F X)
theorem g_lor {x y : Int64} (hd : decode μ.1 pc = .ok (.lor, 1)) (hq : pc + 1 = q)  (k : G Γ μ R kn Z q lv (.long (x ||| y) :: st) M) : G Γ μ R kn Z pc lv (.long y :: .long x :: st) M := by
  subst hq
  exact fun p l e s m args below meth c H locs A ls F X => lv_lor F.1 F.2.1 hd  (k p l e s m args below meth c H locs A ls F X)
theorem g_lxor {x y : Int64} (hd : decode μ.1 pc = .ok (.lxor, 1)) (hq : pc + 1 = q)  (k : G Γ μ R kn Z q lv (.long (x ^^^ y) :: st) M) : G Γ μ R kn Z pc lv (.long y :: .long x :: st) M := by
  subst hq
  exact fun p l e s m args below meth c H locs A ls F X => lv_lxor F.1 F.2.1 hd  (k p l e s m args below meth c H locs A ls F X)
theorem g_lmul {x y : Int64} (hd : decode μ.1 pc = .ok (.lmul, 1)) (hq : pc + 1 = q)  (k : G Γ μ R kn Z q lv (.long (x * y) :: st) M) : G Γ μ R kn Z pc lv (.long y :: .long x :: st) M := by
  subst hq
  exact fun p l e s m args below meth c H locs A ls F X => lv_lmul F.1 F.2.1 hd  (k p l e s m args below meth c H locs A ls F X)
theorem g_land {x y : Int64} (hd : decode μ.1 pc = .ok (.land, 1)) (hq : pc + 1 = q)  (k : G Γ μ R kn Z q lv (.long (x &&& y) :: st) M) : G Γ μ R kn Z pc lv (.long y :: .long x :: st) M := by
  subst hq
  exact fun p l e s m args below meth c H locs A ls F X => lv_land F.1 F.2.1 hd  (k p l e s m args below meth c H locs A ls F X)
theorem g_ladd {x y : Int64} (hd : decode μ.1 pc = .ok (.ladd, 1)) (hq : pc + 1 = q)  (k : G Γ μ R kn Z q lv (.long (x + y) :: st) M) : G Γ μ R kn Z pc lv (.long y :: .long x :: st) M := by
  subst hq
  exact fun p l e s m args below meth c H locs A ls F X => lv_ladd F.1 F.2.1 hd  (k p l e s m args below meth c H locs A ls F X)
theorem g_lushr {x : Int64} {y : Int32} (hd : decode μ.1 pc = .ok (.lushr, 1)) (hq : pc + 1 = q)  (k : G Γ μ R kn Z q lv (.long (x.toUInt64 >>> (y.toInt64.toUInt64 &&& Int64.toUInt64 63)).toInt64 :: st) M) : G Γ μ R kn Z pc lv (.int y :: .long x :: st) M := by
  subst hq
  exact fun p l e s m args below meth c H locs A ls F X => lv_lushr F.1 F.2.1 hd rfl (k p l e s m args below meth c H locs A ls F X)
theorem g_lshl {x : Int64} {y : Int32} (hd : decode μ.1 pc = .ok (.lshl, 1)) (hq : pc + 1 = q)  (k : G Γ μ R kn Z q lv (.long (x <<< (y.toInt64 &&& 63)) :: st) M) : G Γ μ R kn Z pc lv (.int y :: .long x :: st) M := by
  subst hq
  exact fun p l e s m args below meth c H locs A ls F X => lv_lshl F.1 F.2.1 hd rfl (k p l e s m args below meth c H locs A ls F X)
theorem g_lcmp {x y : Int64} (hd : decode μ.1 pc = .ok (.lcmp, 1)) (hq : pc + 1 = q)  (k : G Γ μ R kn Z q lv (.int (lg_cmp x y) :: st) M) : G Γ μ R kn Z pc lv (.long y :: .long x :: st) M := by
  subst hq
  exact fun p l e s m args below meth c H locs A ls F X => W.lcmp F.1 F.2.1 hd  (k p l e s m args below meth c H locs A ls F X)
theorem g_iconst {n : Int} {v : Int32} (hd : decode μ.1 pc = .ok (.iconst n, 1)) (hq : pc + 1 = q) (hv : Int32.ofInt n = v) (k : G Γ μ R kn Z q lv (.int v :: st) M) : G Γ μ R kn Z pc lv st M := by
  subst hq
  exact fun p l e s m args below meth c H locs A ls F X => lv_iconst F.1 F.2.1 hd hv (k p l e s m args below meth c H locs A ls F X)
theorem g_bipush {n : Int} {v : Int32} (hd : decode μ.1 pc = .ok (.bipush n, 2)) (hq : pc + 2 = q) (hv : (Int8.ofInt n).toInt32 = v) (k : G Γ μ R kn Z q lv (.int v :: st) M) : G Γ μ R kn Z pc lv st M := by
  subst hq
  exact fun p l e s m args below meth c H locs A ls F X => lv_bipush F.1 F.2.1 hd hv (k p l e s m args below meth c H locs A ls F X)
theorem g_sipush {n : Int} {v : Int32} (hd : decode μ.1 pc = .ok (.sipush n, 3)) (hq : pc + 3 = q) (hv : (Int16.ofInt n).toInt32 = v) (k : G Γ μ R kn Z q lv (.int v :: st) M) : G Γ μ R kn Z pc lv st M := by
  subst hq
  exact fun p l e s m args below meth c H locs A ls F X => lv_sipush F.1 F.2.1 hd hv (k p l e s m args below meth c H locs A ls F X)
theorem g_lconst {n : Fin 2} {v : Int64} (hd : decode μ.1 pc = .ok (.lconst n, 1)) (hq : pc + 1 = q) (hv : Int64.ofNat (n : Nat) = v) (k : G Γ μ R kn Z q lv (.long v :: st) M) : G Γ μ R kn Z pc lv st M := by
  subst hq
  exact fun p l e s m args below meth c H locs A ls F X => lv_lconst F.1 F.2.1 hd hv (k p l e s m args below meth c H locs A ls F X)
theorem g_dup {v : Value} (hd : decode μ.1 pc = .ok (.dup, 1)) (hq : pc + 1 = q) (hc : v.category = 1) (k : G Γ μ R kn Z q lv (v :: v :: st) M) : G Γ μ R kn Z pc lv (v :: st) M := by
  subst hq
  exact fun p l e s m args below meth c H locs A ls F X => lv_dup F.1 F.2.1 hd (by rw [g_cat]; exact hc) (k p l e s m args below meth c H locs A ls F X)
theorem g_dup2 {v w : Value} (hd : decode μ.1 pc = .ok (.dup2, 1)) (hq : pc + 1 = q) (hc : v.category = 1) (hc2 : w.category = 1) (k : G Γ μ R kn Z q lv (v :: w :: v :: w :: st) M) : G Γ μ R kn Z pc lv (v :: w :: st) M := by
  subst hq
  exact fun p l e s m args below meth c H locs A ls F X => lv_dup2_11 F.1 F.2.1 hd (by rw [g_cat]; exact hc) (by rw [g_cat]; exact hc2) (k p l e s m args below meth c H locs A ls F X)
theorem g_pop {v : Value} (hd : decode μ.1 pc = .ok (.pop, 1)) (hq : pc + 1 = q) (hc : v.category = 1) (k : G Γ μ R kn Z q lv st M) : G Γ μ R kn Z pc lv (v :: st) M := by
  subst hq
  exact fun p l e s m args below meth c H locs A ls F X => lv_pop F.1 F.2.1 hd (by rw [g_cat]; exact hc) (k p l e s m args below meth c H locs A ls F X)
theorem g_ldc {i : Nat} {v : Int32} (hd : decode μ.1 pc = .ok (.ldc i, 2)) (hq : pc + 2 = q) (hc : Cond.constant μ.2.1 i v ∈ g_UW) (k : G Γ μ R kn Z q lv (.int v :: st) M) : G Γ μ R kn Z pc lv st M := by
  subst hq
  exact fun p l e s m args below meth c H locs A ls F X => lv_ldc F.1 F.2.1 F.2.2.2.2.2.1 (F.2.2.2.2.2.2.1 _ hc) hd (k p l e s m args below meth c H locs A ls F X)
theorem g_ldcw {i : Nat} {v : Int32} (hd : decode μ.1 pc = .ok (.ldc_w i, 3)) (hq : pc + 3 = q) (hc : Cond.constant μ.2.1 i v ∈ g_UW) (k : G Γ μ R kn Z q lv (.int v :: st) M) : G Γ μ R kn Z pc lv st M := by
  subst hq
  exact fun p l e s m args below meth c H locs A ls F X => lv_ldcw F.1 F.2.1 F.2.2.2.2.2.1 (F.2.2.2.2.2.2.1 _ hc) hd (k p l e s m args below meth c H locs A ls F X)
theorem g_ldc2 {i : Nat} {v : Int64} (hd : decode μ.1 pc = .ok (.ldc2_w i, 3)) (hq : pc + 3 = q) (hc : Cond.constantLong μ.2.1 i v ∈ g_UW) (k : G Γ μ R kn Z q lv (.long v :: st) M) : G Γ μ R kn Z pc lv st M := by
  subst hq
  exact fun p l e s m args below meth c H locs A ls F X => lv_ldc2 F.1 F.2.1 F.2.2.2.2.2.1 (F.2.2.2.2.2.2.1 _ hc) hd (k p l e s m args below meth c H locs A ls F X)
theorem g_if_eq {x : Int32} {off : Int} {t : Nat} (hd : decode μ.1 pc = .ok (.ifCond .eq off, 3)) (ht : (pc : Int) + off = (t : Int)) (hq : pc + 3 = q) (kt : x = 0 → G Γ μ R kn Z t lv st M) (kf : ¬ x = 0 → G Γ μ R kn Z q lv st M) : G Γ μ R kn Z pc lv (.int x :: st) M := by
  subst hq
  exact fun p l e s m args below meth c H locs A ls F X => lv_if_eq F.1 F.2.1 hd ht (fun h => kt h p l e s m args below meth c H locs A ls F X) (fun h => kf h p l e s m args below meth c H locs A ls F X)
theorem g_if_ne {x : Int32} {off : Int} {t : Nat} (hd : decode μ.1 pc = .ok (.ifCond .ne off, 3)) (ht : (pc : Int) + off = (t : Int)) (hq : pc + 3 = q) (kt : ¬ x = 0 → G Γ μ R kn Z t lv st M) (kf : x = 0 → G Γ μ R kn Z q lv st M) : G Γ μ R kn Z pc lv (.int x :: st) M := by
  subst hq
  exact fun p l e s m args below meth c H locs A ls F X => lv_if_ne F.1 F.2.1 hd ht (fun h => kt h p l e s m args below meth c H locs A ls F X) (fun h => kf h p l e s m args below meth c H locs A ls F X)
theorem g_if_lt {x : Int32} {off : Int} {t : Nat} (hd : decode μ.1 pc = .ok (.ifCond .lt off, 3)) (ht : (pc : Int) + off = (t : Int)) (hq : pc + 3 = q) (kt : x < 0 → G Γ μ R kn Z t lv st M) (kf : ¬ x < 0 → G Γ μ R kn Z q lv st M) : G Γ μ R kn Z pc lv (.int x :: st) M := by
  subst hq
  exact fun p l e s m args below meth c H locs A ls F X => lv_if_lt F.1 F.2.1 hd ht (fun h => kt h p l e s m args below meth c H locs A ls F X) (fun h => kf h p l e s m args below meth c H locs A ls F X)
theorem g_if_ge {x : Int32} {off : Int} {t : Nat} (hd : decode μ.1 pc = .ok (.ifCond .ge off, 3)) (ht : (pc : Int) + off = (t : Int)) (hq : pc + 3 = q) (kt : 0 ≤ x → G Γ μ R kn Z t lv st M) (kf : ¬ 0 ≤ x → G Γ μ R kn Z q lv st M) : G Γ μ R kn Z pc lv (.int x :: st) M := by
  subst hq
  exact fun p l e s m args below meth c H locs A ls F X => lv_if_ge F.1 F.2.1 hd ht (fun h => kt h p l e s m args below meth c H locs A ls F X) (fun h => kf h p l e s m args below meth c H locs A ls F X)
theorem g_if_gt {x : Int32} {off : Int} {t : Nat} (hd : decode μ.1 pc = .ok (.ifCond .gt off, 3)) (ht : (pc : Int) + off = (t : Int)) (hq : pc + 3 = q) (kt : 0 < x → G Γ μ R kn Z t lv st M) (kf : ¬ 0 < x → G Γ μ R kn Z q lv st M) : G Γ μ R kn Z pc lv (.int x :: st) M := by
  subst hq
  exact fun p l e s m args below meth c H locs A ls F X => lv_if_gt F.1 F.2.1 hd ht (fun h => kt h p l e s m args below meth c H locs A ls F X) (fun h => kf h p l e s m args below meth c H locs A ls F X)
theorem g_if_le {x : Int32} {off : Int} {t : Nat} (hd : decode μ.1 pc = .ok (.ifCond .le off, 3)) (ht : (pc : Int) + off = (t : Int)) (hq : pc + 3 = q) (kt : x ≤ 0 → G Γ μ R kn Z t lv st M) (kf : ¬ x ≤ 0 → G Γ μ R kn Z q lv st M) : G Γ μ R kn Z pc lv (.int x :: st) M := by
  subst hq
  exact fun p l e s m args below meth c H locs A ls F X => lv_if_le F.1 F.2.1 hd ht (fun h => kt h p l e s m args below meth c H locs A ls F X) (fun h => kf h p l e s m args below meth c H locs A ls F X)
theorem g_icmp_eq {x y : Int32} {off : Int} {t : Nat} (hd : decode μ.1 pc = .ok (.if_icmp .eq off, 3)) (ht : (pc : Int) + off = (t : Int)) (hq : pc + 3 = q) (kt : x = y → G Γ μ R kn Z t lv st M) (kf : ¬ x = y → G Γ μ R kn Z q lv st M) : G Γ μ R kn Z pc lv (.int y :: .int x :: st) M := by
  subst hq
  exact fun p l e s m args below meth c H locs A ls F X => lv_icmp_eq F.1 F.2.1 hd ht (fun h => kt h p l e s m args below meth c H locs A ls F X) (fun h => kf h p l e s m args below meth c H locs A ls F X)
theorem g_icmp_ne {x y : Int32} {off : Int} {t : Nat} (hd : decode μ.1 pc = .ok (.if_icmp .ne off, 3)) (ht : (pc : Int) + off = (t : Int)) (hq : pc + 3 = q) (kt : ¬ x = y → G Γ μ R kn Z t lv st M) (kf : x = y → G Γ μ R kn Z q lv st M) : G Γ μ R kn Z pc lv (.int y :: .int x :: st) M := by
  subst hq
  exact fun p l e s m args below meth c H locs A ls F X => lv_icmp_ne F.1 F.2.1 hd ht (fun h => kt h p l e s m args below meth c H locs A ls F X) (fun h => kf h p l e s m args below meth c H locs A ls F X)
theorem g_icmp_lt {x y : Int32} {off : Int} {t : Nat} (hd : decode μ.1 pc = .ok (.if_icmp .lt off, 3)) (ht : (pc : Int) + off = (t : Int)) (hq : pc + 3 = q) (kt : x < y → G Γ μ R kn Z t lv st M) (kf : ¬ x < y → G Γ μ R kn Z q lv st M) : G Γ μ R kn Z pc lv (.int y :: .int x :: st) M := by
  subst hq
  exact fun p l e s m args below meth c H locs A ls F X => lv_icmp_lt F.1 F.2.1 hd ht (fun h => kt h p l e s m args below meth c H locs A ls F X) (fun h => kf h p l e s m args below meth c H locs A ls F X)
theorem g_icmp_ge {x y : Int32} {off : Int} {t : Nat} (hd : decode μ.1 pc = .ok (.if_icmp .ge off, 3)) (ht : (pc : Int) + off = (t : Int)) (hq : pc + 3 = q) (kt : y ≤ x → G Γ μ R kn Z t lv st M) (kf : ¬ y ≤ x → G Γ μ R kn Z q lv st M) : G Γ μ R kn Z pc lv (.int y :: .int x :: st) M := by
  subst hq
  exact fun p l e s m args below meth c H locs A ls F X => lv_icmp_ge F.1 F.2.1 hd ht (fun h => kt h p l e s m args below meth c H locs A ls F X) (fun h => kf h p l e s m args below meth c H locs A ls F X)
theorem g_icmp_gt {x y : Int32} {off : Int} {t : Nat} (hd : decode μ.1 pc = .ok (.if_icmp .gt off, 3)) (ht : (pc : Int) + off = (t : Int)) (hq : pc + 3 = q) (kt : y < x → G Γ μ R kn Z t lv st M) (kf : ¬ y < x → G Γ μ R kn Z q lv st M) : G Γ μ R kn Z pc lv (.int y :: .int x :: st) M := by
  subst hq
  exact fun p l e s m args below meth c H locs A ls F X => lv_icmp_gt F.1 F.2.1 hd ht (fun h => kt h p l e s m args below meth c H locs A ls F X) (fun h => kf h p l e s m args below meth c H locs A ls F X)
theorem g_icmp_le {x y : Int32} {off : Int} {t : Nat} (hd : decode μ.1 pc = .ok (.if_icmp .le off, 3)) (ht : (pc : Int) + off = (t : Int)) (hq : pc + 3 = q) (kt : x ≤ y → G Γ μ R kn Z t lv st M) (kf : ¬ x ≤ y → G Γ μ R kn Z q lv st M) : G Γ μ R kn Z pc lv (.int y :: .int x :: st) M := by
  subst hq
  exact fun p l e s m args below meth c H locs A ls F X => lv_icmp_le F.1 F.2.1 hd ht (fun h => kt h p l e s m args below meth c H locs A ls F X) (fun h => kf h p l e s m args below meth c H locs A ls F X)
theorem g_goto {off : Int} {t : Nat} (hd : decode μ.1 pc = .ok (.goto off, 3)) (ht : (pc : Int) + off = (t : Int)) (k : G Γ μ R kn Z t lv st M) : G Γ μ R kn Z pc lv st M := fun p l e s m args below meth c H locs A ls F X => lv_goto F.1 F.2.1 hd ht (k p l e s m args below meth c H locs A ls F X)
theorem g_tableIn {dflt lo hi : Int} {offs : Array Int} {len : Nat} {x : Int32} {off : Int} {t : Nat} (hd : decode μ.1 pc = .ok (.tableswitch dflt lo hi offs, len)) (h1 : ¬ x.toInt < lo) (h2 : ¬ hi < x.toInt) (ho : offs[(x.toInt - lo).toNat]? = some off) (ht : (pc : Int) + off = (t : Int)) (k : G Γ μ R kn Z t lv st M) : G Γ μ R kn Z pc lv (.int x :: st) M := fun p l e s m args below meth c H locs A ls F X => lv_tableIn F.1 F.2.1 hd h1 h2 ho ht (k p l e s m args below meth c H locs A ls F X)
theorem g_tableOut {dflt lo hi : Int} {offs : Array Int} {len : Nat} {x : Int32} {t : Nat} (hd : decode μ.1 pc = .ok (.tableswitch dflt lo hi offs, len)) (h : x.toInt < lo ∨ hi < x.toInt) (ht : (pc : Int) + dflt = (t : Int)) (k : G Γ μ R kn Z t lv st M) : G Γ μ R kn Z pc lv (.int x :: st) M := fun p l e s m args below meth c H locs A ls F X => lv_tableOut F.1 F.2.1 hd h ht (k p l e s m args below meth c H locs A ls F X)
theorem g_lookup {dflt : Int} {ps : Array (Int × Int)} {len : Nat} {x : Int32} {off : Int} {t : Nat} (hd : decode μ.1 pc = .ok (.lookupswitch dflt ps, len)) (hp : (ps.toList.zip (ps.toList.drop 1)).all (fun (a, next) => a.1 < next.1) = true) (ho : Op.lookupswitch.offset ps.toList dflt x.toInt = off) (ht : (pc : Int) + off = (t : Int)) (k : G Γ μ R kn Z t lv st M) : G Γ μ R kn Z pc lv (.int x :: st) M := fun p l e s m args below meth c H locs A ls F X => lv_lookup F.1 F.2.1 hd hp ho ht (k p l e s m args below meth c H locs A ls F X)
theorem g_iload_n {j : Fin 4} {i : Nat} {x : Int32} (hd : decode μ.1 pc = .ok (.iload_n j, 1)) (hq : pc + 1 = q) (hj : (j : Nat) = i) (hl : lv[i]? = some (some (.int x))) (k : G Γ μ R kn Z q lv (.int x :: st) M) : G Γ μ R kn Z pc lv st M := by
  subst hq
  exact fun p l e s m args below meth c H locs A ls F X => lv_iload_n F.1 F.2.1 hd hj (X.2.2.2.2.2.2 _ _ hl) (k p l e s m args below meth c H locs A ls F X)
theorem g_iload {i : Nat} {x : Int32} (hd : decode μ.1 pc = .ok (.iload i, 2)) (hq : pc + 2 = q)  (hl : lv[i]? = some (some (.int x))) (k : G Γ μ R kn Z q lv (.int x :: st) M) : G Γ μ R kn Z pc lv st M := by
  subst hq
  exact fun p l e s m args below meth c H locs A ls F X => lv_iload F.1 F.2.1 hd  (X.2.2.2.2.2.2 _ _ hl) (k p l e s m args below meth c H locs A ls F X)
theorem g_aload_n {j : Fin 4} {i : Nat} {x : Nat} (hd : decode μ.1 pc = .ok (.aload_n j, 1)) (hq : pc + 1 = q) (hj : (j : Nat) = i) (hl : lv[i]? = some (some (.ref x))) (k : G Γ μ R kn Z q lv (.ref x :: st) M) : G Γ μ R kn Z pc lv st M := by
  subst hq
  exact fun p l e s m args below meth c H locs A ls F X => lv_aload_n F.1 F.2.1 hd hj (X.2.2.2.2.2.2 _ _ hl) (k p l e s m args below meth c H locs A ls F X)
theorem g_aload {i : Nat} {x : Nat} (hd : decode μ.1 pc = .ok (.aload i, 2)) (hq : pc + 2 = q)  (hl : lv[i]? = some (some (.ref x))) (k : G Γ μ R kn Z q lv (.ref x :: st) M) : G Γ μ R kn Z pc lv st M := by
  subst hq
  exact fun p l e s m args below meth c H locs A ls F X => lv_aload F.1 F.2.1 hd  (X.2.2.2.2.2.2 _ _ hl) (k p l e s m args below meth c H locs A ls F X)
theorem g_lload_n {j : Fin 4} {i : Nat} {x : Int64} (hd : decode μ.1 pc = .ok (.lload_n j, 1)) (hq : pc + 1 = q) (hj : (j : Nat) = i) (hl : lv[i]? = some (some (.long x))) (k : G Γ μ R kn Z q lv (.long x :: st) M) : G Γ μ R kn Z pc lv st M := by
  subst hq
  exact fun p l e s m args below meth c H locs A ls F X => lv_lload_n F.1 F.2.1 hd hj (X.2.2.2.2.2.2 _ _ hl) (k p l e s m args below meth c H locs A ls F X)
theorem g_lload {i : Nat} {x : Int64} (hd : decode μ.1 pc = .ok (.lload i, 2)) (hq : pc + 2 = q)  (hl : lv[i]? = some (some (.long x))) (k : G Γ μ R kn Z q lv (.long x :: st) M) : G Γ μ R kn Z pc lv st M := by
  subst hq
  exact fun p l e s m args below meth c H locs A ls F X => lv_lload F.1 F.2.1 hd  (X.2.2.2.2.2.2 _ _ hl) (k p l e s m args below meth c H locs A ls F X)
theorem g_istore_n {j : Fin 4} {i : Nat} {x : Int32} (hd : decode μ.1 pc = .ok (.istore_n j, 1)) (hq : pc + 1 = q) (hj : (j : Nat) = i) (hi : i < lv.length) (hn : g_nl lv i = true) (k : G Γ μ R kn Z q (lv.set i (some (.int x))) st M) : G Γ μ R kn Z pc lv (.int x :: st) M := by
  subst hq
  intro p l e s m args below meth c H locs A ls F X
  obtain ⟨hP, hD, hS, hL⟩ := X
  exact lv_istore_n F.1 F.2.1 hd hj (g_L_has hL) (by rw [← hL.2.2.1]; exact hi) rfl (fun ls' hl => k p l e s m args below meth c H locs A ls' F ⟨hP, hD, hS, g_L_set (x := .int x) hL.2.2.1 hn hl⟩)
theorem g_istore {i : Nat} {x : Int32} (hd : decode μ.1 pc = .ok (.istore i, 2)) (hq : pc + 2 = q)  (hi : i < lv.length) (hn : g_nl lv i = true) (k : G Γ μ R kn Z q (lv.set i (some (.int x))) st M) : G Γ μ R kn Z pc lv (.int x :: st) M := by
  subst hq
  intro p l e s m args below meth c H locs A ls F X
  obtain ⟨hP, hD, hS, hL⟩ := X
  exact lv_istore F.1 F.2.1 hd  (g_L_has hL) (by rw [← hL.2.2.1]; exact hi) rfl (fun ls' hl => k p l e s m args below meth c H locs A ls' F ⟨hP, hD, hS, g_L_set (x := .int x) hL.2.2.1 hn hl⟩)
theorem g_astore_n {j : Fin 4} {i : Nat} {x : Nat} (hd : decode μ.1 pc = .ok (.astore_n j, 1)) (hq : pc + 1 = q) (hj : (j : Nat) = i) (hi : i < lv.length) (hn : g_nl lv i = true) (k : G Γ μ R kn Z q (lv.set i (some (.ref x))) st M) : G Γ μ R kn Z pc lv (.ref x :: st) M := by
  subst hq
  intro p l e s m args below meth c H locs A ls F X
  obtain ⟨hP, hD, hS, hL⟩ := X
  exact lv_astore_n F.1 F.2.1 hd hj (g_L_has hL) (by rw [← hL.2.2.1]; exact hi) rfl (fun ls' hl => k p l e s m args below meth c H locs A ls' F ⟨hP, hD, hS, g_L_set (x := .ref x) hL.2.2.1 hn hl⟩)
theorem g_astore {i : Nat} {x : Nat} (hd : decode μ.1 pc = .ok (.astore i, 2)) (hq : pc + 2 = q)  (hi : i < lv.length) (hn : g_nl lv i = true) (k : G Γ μ R kn Z q (lv.set i (some (.ref x))) st M) : G Γ μ R kn Z pc lv (.ref x :: st) M := by
  subst hq
  intro p l e s m args below meth c H locs A ls F X
  obtain ⟨hP, hD, hS, hL⟩ := X
  exact lv_astore F.1 F.2.1 hd  (g_L_has hL) (by rw [← hL.2.2.1]; exact hi) rfl (fun ls' hl => k p l e s m args below meth c H locs A ls' F ⟨hP, hD, hS, g_L_set (x := .ref x) hL.2.2.1 hn hl⟩)
theorem g_lstore_n {j : Fin 4} {i : Nat} {x : Int64} (hd : decode μ.1 pc = .ok (.lstore_n j, 1)) (hq : pc + 1 = q) (hj : (j : Nat) = i) (hi : i + 1 < lv.length) (hn : g_nl lv i = true) (k : G Γ μ R kn Z q ((lv.set (i + 1) none).set i (some (.long x))) st M) : G Γ μ R kn Z pc lv (.long x :: st) M := by
  subst hq
  intro p l e s m args below meth c H locs A ls F X
  obtain ⟨hP, hD, hS, hL⟩ := X
  exact lv_lstore_n F.1 F.2.1 hd hj (g_L_has hL) (by rw [← hL.2.2.1]; exact hi) rfl (fun ls' hl => k p l e s m args below meth c H locs A ls' F ⟨hP, hD, hS, g_L_set2 (x := .long x) hL.2.2.1 hn hl⟩)
theorem g_lstore {i : Nat} {x : Int64} (hd : decode μ.1 pc = .ok (.lstore i, 2)) (hq : pc + 2 = q)  (hi : i + 1 < lv.length) (hn : g_nl lv i = true) (k : G Γ μ R kn Z q ((lv.set (i + 1) none).set i (some (.long x))) st M) : G Γ μ R kn Z pc lv (.long x :: st) M := by
  subst hq
  intro p l e s m args below meth c H locs A ls F X
  obtain ⟨hP, hD, hS, hL⟩ := X
  exact lv_lstore F.1 F.2.1 hd  (g_L_has hL) (by rw [← hL.2.2.1]; exact hi) rfl (fun ls' hl => k p l e s m args below meth c H locs A ls' F ⟨hP, hD, hS, g_L_set2 (x := .long x) hL.2.2.1 hn hl⟩)
theorem g_iinc {i : Nat} {n : Int} {x w : Int32} (hd : decode μ.1 pc = .ok (.iinc i n, 3)) (hq : pc + 3 = q) (hl : lv[i]? = some (some (.int x))) (hw : Int32.ofInt n = w) (hi : i < lv.length) (hn : g_nl lv i = true) (k : G Γ μ R kn Z q (lv.set i (some (.int (x + w)))) st M) : G Γ μ R kn Z pc lv st M := by
  subst hq; subst hw
  intro p l e s m args below meth c H locs A ls F X
  obtain ⟨hP, hD, hS, hL⟩ := X
  obtain ⟨k0, hk0⟩ := List.getElem?_of_mem (g_mem_pairs.mpr ⟨_, hl, rfl⟩ : (i, g_v Γ.2.2.1 (.int x)) ∈ g_pairs Γ.2.2.1 lv)
  exact lv_iinc F.1 F.2.1 hd (g_L_has hL) hk0 rfl (by rw [← hL.2.2.1]; exact hi) rfl (fun ls' hl => k p l e s m args below meth c H locs A ls' F ⟨hP, hD, hS, g_L_set (x := .int _) hL.2.2.1 hn hl⟩)
theorem g_iload_n0 {x : Int32} (hd : decode μ.1 pc = .ok (.iload_n 0, 1)) (hq : pc + 1 = q) (k : G Γ μ R kn Z q (some (.int x) :: lv) (.int x :: st) M) : G Γ μ R kn Z pc (some (.int x) :: lv) st M := g_iload_n (j := 0) (i := 0) hd hq rfl rfl k
theorem g_iload0 {x : Int32} (hd : decode μ.1 pc = .ok (.iload 0, 2)) (hq : pc + 2 = q) (k : G Γ μ R kn Z q (some (.int x) :: lv) (.int x :: st) M) : G Γ μ R kn Z pc (some (.int x) :: lv) st M := g_iload (i := 0) hd hq rfl k
theorem g_aload_n0 {x : Nat} (hd : decode μ.1 pc = .ok (.aload_n 0, 1)) (hq : pc + 1 = q) (k : G Γ μ R kn Z q (some (.ref x) :: lv) (.ref x :: st) M) : G Γ μ R kn Z pc (some (.ref x) :: lv) st M := g_aload_n (j := 0) (i := 0) hd hq rfl rfl k
theorem g_aload0 {x : Nat} (hd : decode μ.1 pc = .ok (.aload 0, 2)) (hq : pc + 2 = q) (k : G Γ μ R kn Z q (some (.ref x) :: lv) (.ref x :: st) M) : G Γ μ R kn Z pc (some (.ref x) :: lv) st M := g_aload (i := 0) hd hq rfl k
theorem g_lload_n0 {x : Int64} (hd : decode μ.1 pc = .ok (.lload_n 0, 1)) (hq : pc + 1 = q) (k : G Γ μ R kn Z q (some (.long x) :: lv) (.long x :: st) M) : G Γ μ R kn Z pc (some (.long x) :: lv) st M := g_lload_n (j := 0) (i := 0) hd hq rfl rfl k
theorem g_lload0 {x : Int64} (hd : decode μ.1 pc = .ok (.lload 0, 2)) (hq : pc + 2 = q) (k : G Γ μ R kn Z q (some (.long x) :: lv) (.long x :: st) M) : G Γ μ R kn Z pc (some (.long x) :: lv) st M := g_lload (i := 0) hd hq rfl k
theorem g_istore_n0 {z : Option Value} {x : Int32} (hd : decode μ.1 pc = .ok (.istore_n 0, 1)) (hq : pc + 1 = q)  (k : G Γ μ R kn Z q (some (.int x) :: lv) st M) : G Γ μ R kn Z pc (z :: lv) (.int x :: st) M := g_istore_n (j := 0) (i := 0) hd hq rfl (by simp) rfl k
theorem g_istore0 {z : Option Value} {x : Int32} (hd : decode μ.1 pc = .ok (.istore 0, 2)) (hq : pc + 2 = q)  (k : G Γ μ R kn Z q (some (.int x) :: lv) st M) : G Γ μ R kn Z pc (z :: lv) (.int x :: st) M := g_istore (i := 0) hd hq (by simp) rfl k
theorem g_astore_n0 {z : Option Value} {x : Nat} (hd : decode μ.1 pc = .ok (.astore_n 0, 1)) (hq : pc + 1 = q)  (k : G Γ μ R kn Z q (some (.ref x) :: lv) st M) : G Γ μ R kn Z pc (z :: lv) (.ref x :: st) M := g_astore_n (j := 0) (i := 0) hd hq rfl (by simp) rfl k
theorem g_astore0 {z : Option Value} {x : Nat} (hd : decode μ.1 pc = .ok (.astore 0, 2)) (hq : pc + 2 = q)  (k : G Γ μ R kn Z q (some (.ref x) :: lv) st M) : G Γ μ R kn Z pc (z :: lv) (.ref x :: st) M := g_astore (i := 0) hd hq (by simp) rfl k
theorem g_lstore_n0 {z z2 : Option Value} {x : Int64} (hd : decode μ.1 pc = .ok (.lstore_n 0, 1)) (hq : pc + 1 = q)  (k : G Γ μ R kn Z q (some (.long x) :: none :: lv) st M) : G Γ μ R kn Z pc (z :: z2 :: lv) (.long x :: st) M := g_lstore_n (j := 0) (i := 0) hd hq rfl (by simp) rfl k
theorem g_lstore0 {z z2 : Option Value} {x : Int64} (hd : decode μ.1 pc = .ok (.lstore 0, 2)) (hq : pc + 2 = q)  (k : G Γ μ R kn Z q (some (.long x) :: none :: lv) st M) : G Γ μ R kn Z pc (z :: z2 :: lv) (.long x :: st) M := g_lstore (i := 0) hd hq (by simp) rfl k
theorem g_iinc0 {n : Int} {x w : Int32} (hd : decode μ.1 pc = .ok (.iinc 0 n, 3)) (hq : pc + 3 = q)  (hw : Int32.ofInt n = w) (k : G Γ μ R kn Z q (some (.int (x + w)) :: lv) st M) : G Γ μ R kn Z pc (some (.int x) :: lv) st M := g_iinc (i := 0) hd hq rfl hw (by simp) rfl k
theorem g_iload_n1 {a0 : Option Value} {x : Int32} (hd : decode μ.1 pc = .ok (.iload_n 1, 1)) (hq : pc + 1 = q) (k : G Γ μ R kn Z q (a0 :: some (.int x) :: lv) (.int x :: st) M) : G Γ μ R kn Z pc (a0 :: some (.int x) :: lv) st M := g_iload_n (j := 1) (i := 1) hd hq rfl rfl k
theorem g_iload1 {a0 : Option Value} {x : Int32} (hd : decode μ.1 pc = .ok (.iload 1, 2)) (hq : pc + 2 = q) (k : G Γ μ R kn Z q (a0 :: some (.int x) :: lv) (.int x :: st) M) : G Γ μ R kn Z pc (a0 :: some (.int x) :: lv) st M := g_iload (i := 1) hd hq rfl k
theorem g_aload_n1 {a0 : Option Value} {x : Nat} (hd : decode μ.1 pc = .ok (.aload_n 1, 1)) (hq : pc + 1 = q) (k : G Γ μ R kn Z q (a0 :: some (.ref x) :: lv) (.ref x :: st) M) : G Γ μ R kn Z pc (a0 :: some (.ref x) :: lv) st M := g_aload_n (j := 1) (i := 1) hd hq rfl rfl k
theorem g_aload1 {a0 : Option Value} {x : Nat} (hd : decode μ.1 pc = .ok (.aload 1, 2)) (hq : pc + 2 = q) (k : G Γ μ R kn Z q (a0 :: some (.ref x) :: lv) (.ref x :: st) M) : G Γ μ R kn Z pc (a0 :: some (.ref x) :: lv) st M := g_aload (i := 1) hd hq rfl k
theorem g_lload_n1 {a0 : Option Value} {x : Int64} (hd : decode μ.1 pc = .ok (.lload_n 1, 1)) (hq : pc + 1 = q) (k : G Γ μ R kn Z q (a0 :: some (.long x) :: lv) (.long x :: st) M) : G Γ μ R kn Z pc (a0 :: some (.long x) :: lv) st M := g_lload_n (j := 1) (i := 1) hd hq rfl rfl k
theorem g_lload1 {a0 : Option Value} {x : Int64} (hd : decode μ.1 pc = .ok (.lload 1, 2)) (hq : pc + 2 = q) (k : G Γ μ R kn Z q (a0 :: some (.long x) :: lv) (.long x :: st) M) : G Γ μ R kn Z pc (a0 :: some (.long x) :: lv) st M := g_lload (i := 1) hd hq rfl k
theorem g_istore_n1 {a0 : Option Value} {z : Option Value} {x : Int32} (hd : decode μ.1 pc = .ok (.istore_n 1, 1)) (hq : pc + 1 = q) (hn : g_c1 a0 = true) (k : G Γ μ R kn Z q (a0 :: some (.int x) :: lv) st M) : G Γ μ R kn Z pc (a0 :: z :: lv) (.int x :: st) M := g_istore_n (j := 1) (i := 1) hd hq rfl (by simp) hn k
theorem g_istore1 {a0 : Option Value} {z : Option Value} {x : Int32} (hd : decode μ.1 pc = .ok (.istore 1, 2)) (hq : pc + 2 = q) (hn : g_c1 a0 = true) (k : G Γ μ R kn Z q (a0 :: some (.int x) :: lv) st M) : G Γ μ R kn Z pc (a0 :: z :: lv) (.int x :: st) M := g_istore (i := 1) hd hq (by simp) hn k
theorem g_astore_n1 {a0 : Option Value} {z : Option Value} {x : Nat} (hd : decode μ.1 pc = .ok (.astore_n 1, 1)) (hq : pc + 1 = q) (hn : g_c1 a0 = true) (k : G Γ μ R kn Z q (a0 :: some (.ref x) :: lv) st M) : G Γ μ R kn Z pc (a0 :: z :: lv) (.ref x :: st) M := g_astore_n (j := 1) (i := 1) hd hq rfl (by simp) hn k
theorem g_astore1 {a0 : Option Value} {z : Option Value} {x : Nat} (hd : decode μ.1 pc = .ok (.astore 1, 2)) (hq : pc + 2 = q) (hn : g_c1 a0 = true) (k : G Γ μ R kn Z q (a0 :: some (.ref x) :: lv) st M) : G Γ μ R kn Z pc (a0 :: z :: lv) (.ref x :: st) M := g_astore (i := 1) hd hq (by simp) hn k
theorem g_lstore_n1 {a0 : Option Value} {z z2 : Option Value} {x : Int64} (hd : decode μ.1 pc = .ok (.lstore_n 1, 1)) (hq : pc + 1 = q) (hn : g_c1 a0 = true) (k : G Γ μ R kn Z q (a0 :: some (.long x) :: none :: lv) st M) : G Γ μ R kn Z pc (a0 :: z :: z2 :: lv) (.long x :: st) M := g_lstore_n (j := 1) (i := 1) hd hq rfl (by simp) hn k
theorem g_lstore1 {a0 : Option Value} {z z2 : Option Value} {x : Int64} (hd : decode μ.1 pc = .ok (.lstore 1, 2)) (hq : pc + 2 = q) (hn : g_c1 a0 = true) (k : G Γ μ R kn Z q (a0 :: some (.long x) :: none :: lv) st M) : G Γ μ R kn Z pc (a0 :: z :: z2 :: lv) (.long x :: st) M := g_lstore (i := 1) hd hq (by simp) hn k
theorem g_iinc1 {a0 : Option Value} {n : Int} {x w : Int32} (hd : decode μ.1 pc = .ok (.iinc 1 n, 3)) (hq : pc + 3 = q) (hn : g_c1 a0 = true) (hw : Int32.ofInt n = w) (k : G Γ μ R kn Z q (a0 :: some (.int (x + w)) :: lv) st M) : G Γ μ R kn Z pc (a0 :: some (.int x) :: lv) st M := g_iinc (i := 1) hd hq rfl hw (by simp) hn k
theorem g_iload_n2 {a0 a1 : Option Value} {x : Int32} (hd : decode μ.1 pc = .ok (.iload_n 2, 1)) (hq : pc + 1 = q) (k : G Γ μ R kn Z q (a0 :: a1 :: some (.int x) :: lv) (.int x :: st) M) : G Γ μ R kn Z pc (a0 :: a1 :: some (.int x) :: lv) st M := g_iload_n (j := 2) (i := 2) hd hq rfl rfl k
theorem g_iload2 {a0 a1 : Option Value} {x : Int32} (hd : decode μ.1 pc = .ok (.iload 2, 2)) (hq : pc + 2 = q) (k : G Γ μ R kn Z q (a0 :: a1 :: some (.int x) :: lv) (.int x :: st) M) : G Γ μ R kn Z pc (a0 :: a1 :: some (.int x) :: lv) st M := g_iload (i := 2) hd hq rfl k
theorem g_aload_n2 {a0 a1 : Option Value} {x : Nat} (hd : decode μ.1 pc = .ok (.aload_n 2, 1)) (hq : pc + 1 = q) (k : G Γ μ R kn Z q (a0 :: a1 :: some (.ref x) :: lv) (.ref x :: st) M) : G Γ μ R kn Z pc (a0 :: a1 :: some (.ref x) :: lv) st M := g_aload_n (j := 2) (i := 2) hd hq rfl rfl k
theorem g_aload2 {a0 a1 : Option Value} {x : Nat} (hd : decode μ.1 pc = .ok (.aload 2, 2)) (hq : pc + 2 = q) (k : G Γ μ R kn Z q (a0 :: a1 :: some (.ref x) :: lv) (.ref x :: st) M) : G Γ μ R kn Z pc (a0 :: a1 :: some (.ref x) :: lv) st M := g_aload (i := 2) hd hq rfl k
theorem g_lload_n2 {a0 a1 : Option Value} {x : Int64} (hd : decode μ.1 pc = .ok (.lload_n 2, 1)) (hq : pc + 1 = q) (k : G Γ μ R kn Z q (a0 :: a1 :: some (.long x) :: lv) (.long x :: st) M) : G Γ μ R kn Z pc (a0 :: a1 :: some (.long x) :: lv) st M := g_lload_n (j := 2) (i := 2) hd hq rfl rfl k
theorem g_lload2 {a0 a1 : Option Value} {x : Int64} (hd : decode μ.1 pc = .ok (.lload 2, 2)) (hq : pc + 2 = q) (k : G Γ μ R kn Z q (a0 :: a1 :: some (.long x) :: lv) (.long x :: st) M) : G Γ μ R kn Z pc (a0 :: a1 :: some (.long x) :: lv) st M := g_lload (i := 2) hd hq rfl k
theorem g_istore_n2 {a0 a1 : Option Value} {z : Option Value} {x : Int32} (hd : decode μ.1 pc = .ok (.istore_n 2, 1)) (hq : pc + 1 = q) (hn : g_c1 a1 = true) (k : G Γ μ R kn Z q (a0 :: a1 :: some (.int x) :: lv) st M) : G Γ μ R kn Z pc (a0 :: a1 :: z :: lv) (.int x :: st) M := g_istore_n (j := 2) (i := 2) hd hq rfl (by simp) hn k
theorem g_istore2 {a0 a1 : Option Value} {z : Option Value} {x : Int32} (hd : decode μ.1 pc = .ok (.istore 2, 2)) (hq : pc + 2 = q) (hn : g_c1 a1 = true) (k : G Γ μ R kn Z q (a0 :: a1 :: some (.int x) :: lv) st M) : G Γ μ R kn Z pc (a0 :: a1 :: z :: lv) (.int x :: st) M := g_istore (i := 2) hd hq (by simp) hn k
theorem g_astore_n2 {a0 a1 : Option Value} {z : Option Value} {x : Nat} (hd : decode μ.1 pc = .ok (.astore_n 2, 1)) (hq : pc + 1 = q) (hn : g_c1 a1 = true) (k : G Γ μ R kn Z q (a0 :: a1 :: some (.ref x) :: lv) st M) : G Γ μ R kn Z pc (a0 :: a1 :: z :: lv) (.ref x :: st) M := g_astore_n (j := 2) (i := 2) hd hq rfl (by simp) hn k
theorem g_astore2 {a0 a1 : Option Value} {z : Option Value} {x : Nat} (hd : decode μ.1 pc = .ok (.astore 2, 2)) (hq : pc + 2 = q) (hn : g_c1 a1 = true) (k : G Γ μ R kn Z q (a0 :: a1 :: some (.ref x) :: lv) st M) : G Γ μ R kn Z pc (a0 :: a1 :: z :: lv) (.ref x :: st) M := g_astore (i := 2) hd hq (by simp) hn k
theorem g_lstore_n2 {a0 a1 : Option Value} {z z2 : Option Value} {x : Int64} (hd : decode μ.1 pc = .ok (.lstore_n 2, 1)) (hq : pc + 1 = q) (hn : g_c1 a1 = true) (k : G Γ μ R kn Z q (a0 :: a1 :: some (.long x) :: none :: lv) st M) : G Γ μ R kn Z pc (a0 :: a1 :: z :: z2 :: lv) (.long x :: st) M := g_lstore_n (j := 2) (i := 2) hd hq rfl (by simp) hn k
theorem g_lstore2 {a0 a1 : Option Value} {z z2 : Option Value} {x : Int64} (hd : decode μ.1 pc = .ok (.lstore 2, 2)) (hq : pc + 2 = q) (hn : g_c1 a1 = true) (k : G Γ μ R kn Z q (a0 :: a1 :: some (.long x) :: none :: lv) st M) : G Γ μ R kn Z pc (a0 :: a1 :: z :: z2 :: lv) (.long x :: st) M := g_lstore (i := 2) hd hq (by simp) hn k
theorem g_iinc2 {a0 a1 : Option Value} {n : Int} {x w : Int32} (hd : decode μ.1 pc = .ok (.iinc 2 n, 3)) (hq : pc + 3 = q) (hn : g_c1 a1 = true) (hw : Int32.ofInt n = w) (k : G Γ μ R kn Z q (a0 :: a1 :: some (.int (x + w)) :: lv) st M) : G Γ μ R kn Z pc (a0 :: a1 :: some (.int x) :: lv) st M := g_iinc (i := 2) hd hq rfl hw (by simp) hn k
theorem g_iload_n3 {a0 a1 a2 : Option Value} {x : Int32} (hd : decode μ.1 pc = .ok (.iload_n 3, 1)) (hq : pc + 1 = q) (k : G Γ μ R kn Z q (a0 :: a1 :: a2 :: some (.int x) :: lv) (.int x :: st) M) : G Γ μ R kn Z pc (a0 :: a1 :: a2 :: some (.int x) :: lv) st M := g_iload_n (j := 3) (i := 3) hd hq rfl rfl k
theorem g_iload3 {a0 a1 a2 : Option Value} {x : Int32} (hd : decode μ.1 pc = .ok (.iload 3, 2)) (hq : pc + 2 = q) (k : G Γ μ R kn Z q (a0 :: a1 :: a2 :: some (.int x) :: lv) (.int x :: st) M) : G Γ μ R kn Z pc (a0 :: a1 :: a2 :: some (.int x) :: lv) st M := g_iload (i := 3) hd hq rfl k
theorem g_aload_n3 {a0 a1 a2 : Option Value} {x : Nat} (hd : decode μ.1 pc = .ok (.aload_n 3, 1)) (hq : pc + 1 = q) (k : G Γ μ R kn Z q (a0 :: a1 :: a2 :: some (.ref x) :: lv) (.ref x :: st) M) : G Γ μ R kn Z pc (a0 :: a1 :: a2 :: some (.ref x) :: lv) st M := g_aload_n (j := 3) (i := 3) hd hq rfl rfl k
theorem g_aload3 {a0 a1 a2 : Option Value} {x : Nat} (hd : decode μ.1 pc = .ok (.aload 3, 2)) (hq : pc + 2 = q) (k : G Γ μ R kn Z q (a0 :: a1 :: a2 :: some (.ref x) :: lv) (.ref x :: st) M) : G Γ μ R kn Z pc (a0 :: a1 :: a2 :: some (.ref x) :: lv) st M := g_aload (i := 3) hd hq rfl k
theorem g_lload_n3 {a0 a1 a2 : Option Value} {x : Int64} (hd : decode μ.1 pc = .ok (.lload_n 3, 1)) (hq : pc + 1 = q) (k : G Γ μ R kn Z q (a0 :: a1 :: a2 :: some (.long x) :: lv) (.long x :: st) M) : G Γ μ R kn Z pc (a0 :: a1 :: a2 :: some (.long x) :: lv) st M := g_lload_n (j := 3) (i := 3) hd hq rfl rfl k
theorem g_lload3 {a0 a1 a2 : Option Value} {x : Int64} (hd : decode μ.1 pc = .ok (.lload 3, 2)) (hq : pc + 2 = q) (k : G Γ μ R kn Z q (a0 :: a1 :: a2 :: some (.long x) :: lv) (.long x :: st) M) : G Γ μ R kn Z pc (a0 :: a1 :: a2 :: some (.long x) :: lv) st M := g_lload (i := 3) hd hq rfl k
theorem g_istore_n3 {a0 a1 a2 : Option Value} {z : Option Value} {x : Int32} (hd : decode μ.1 pc = .ok (.istore_n 3, 1)) (hq : pc + 1 = q) (hn : g_c1 a2 = true) (k : G Γ μ R kn Z q (a0 :: a1 :: a2 :: some (.int x) :: lv) st M) : G Γ μ R kn Z pc (a0 :: a1 :: a2 :: z :: lv) (.int x :: st) M := g_istore_n (j := 3) (i := 3) hd hq rfl (by simp) hn k
theorem g_istore3 {a0 a1 a2 : Option Value} {z : Option Value} {x : Int32} (hd : decode μ.1 pc = .ok (.istore 3, 2)) (hq : pc + 2 = q) (hn : g_c1 a2 = true) (k : G Γ μ R kn Z q (a0 :: a1 :: a2 :: some (.int x) :: lv) st M) : G Γ μ R kn Z pc (a0 :: a1 :: a2 :: z :: lv) (.int x :: st) M := g_istore (i := 3) hd hq (by simp) hn k
theorem g_astore_n3 {a0 a1 a2 : Option Value} {z : Option Value} {x : Nat} (hd : decode μ.1 pc = .ok (.astore_n 3, 1)) (hq : pc + 1 = q) (hn : g_c1 a2 = true) (k : G Γ μ R kn Z q (a0 :: a1 :: a2 :: some (.ref x) :: lv) st M) : G Γ μ R kn Z pc (a0 :: a1 :: a2 :: z :: lv) (.ref x :: st) M := g_astore_n (j := 3) (i := 3) hd hq rfl (by simp) hn k
theorem g_astore3 {a0 a1 a2 : Option Value} {z : Option Value} {x : Nat} (hd : decode μ.1 pc = .ok (.astore 3, 2)) (hq : pc + 2 = q) (hn : g_c1 a2 = true) (k : G Γ μ R kn Z q (a0 :: a1 :: a2 :: some (.ref x) :: lv) st M) : G Γ μ R kn Z pc (a0 :: a1 :: a2 :: z :: lv) (.ref x :: st) M := g_astore (i := 3) hd hq (by simp) hn k
theorem g_lstore_n3 {a0 a1 a2 : Option Value} {z z2 : Option Value} {x : Int64} (hd : decode μ.1 pc = .ok (.lstore_n 3, 1)) (hq : pc + 1 = q) (hn : g_c1 a2 = true) (k : G Γ μ R kn Z q (a0 :: a1 :: a2 :: some (.long x) :: none :: lv) st M) : G Γ μ R kn Z pc (a0 :: a1 :: a2 :: z :: z2 :: lv) (.long x :: st) M := g_lstore_n (j := 3) (i := 3) hd hq rfl (by simp) hn k
theorem g_lstore3 {a0 a1 a2 : Option Value} {z z2 : Option Value} {x : Int64} (hd : decode μ.1 pc = .ok (.lstore 3, 2)) (hq : pc + 2 = q) (hn : g_c1 a2 = true) (k : G Γ μ R kn Z q (a0 :: a1 :: a2 :: some (.long x) :: none :: lv) st M) : G Γ μ R kn Z pc (a0 :: a1 :: a2 :: z :: z2 :: lv) (.long x :: st) M := g_lstore (i := 3) hd hq (by simp) hn k
theorem g_iinc3 {a0 a1 a2 : Option Value} {n : Int} {x w : Int32} (hd : decode μ.1 pc = .ok (.iinc 3 n, 3)) (hq : pc + 3 = q) (hn : g_c1 a2 = true) (hw : Int32.ofInt n = w) (k : G Γ μ R kn Z q (a0 :: a1 :: a2 :: some (.int (x + w)) :: lv) st M) : G Γ μ R kn Z pc (a0 :: a1 :: a2 :: some (.int x) :: lv) st M := g_iinc (i := 3) hd hq rfl hw (by simp) hn k
theorem g_iload4 {a0 a1 a2 a3 : Option Value} {x : Int32} (hd : decode μ.1 pc = .ok (.iload 4, 2)) (hq : pc + 2 = q) (k : G Γ μ R kn Z q (a0 :: a1 :: a2 :: a3 :: some (.int x) :: lv) (.int x :: st) M) : G Γ μ R kn Z pc (a0 :: a1 :: a2 :: a3 :: some (.int x) :: lv) st M := g_iload (i := 4) hd hq rfl k
theorem g_aload4 {a0 a1 a2 a3 : Option Value} {x : Nat} (hd : decode μ.1 pc = .ok (.aload 4, 2)) (hq : pc + 2 = q) (k : G Γ μ R kn Z q (a0 :: a1 :: a2 :: a3 :: some (.ref x) :: lv) (.ref x :: st) M) : G Γ μ R kn Z pc (a0 :: a1 :: a2 :: a3 :: some (.ref x) :: lv) st M := g_aload (i := 4) hd hq rfl k
theorem g_lload4 {a0 a1 a2 a3 : Option Value} {x : Int64} (hd : decode μ.1 pc = .ok (.lload 4, 2)) (hq : pc + 2 = q) (k : G Γ μ R kn Z q (a0 :: a1 :: a2 :: a3 :: some (.long x) :: lv) (.long x :: st) M) : G Γ μ R kn Z pc (a0 :: a1 :: a2 :: a3 :: some (.long x) :: lv) st M := g_lload (i := 4) hd hq rfl k
theorem g_istore4 {a0 a1 a2 a3 : Option Value} {z : Option Value} {x : Int32} (hd : decode μ.1 pc = .ok (.istore 4, 2)) (hq : pc + 2 = q) (hn : g_c1 a3 = true) (k : G Γ μ R kn Z q (a0 :: a1 :: a2 :: a3 :: some (.int x) :: lv) st M) : G Γ μ R kn Z pc (a0 :: a1 :: a2 :: a3 :: z :: lv) (.int x :: st) M := g_istore (i := 4) hd hq (by simp) hn k
theorem g_astore4 {a0 a1 a2 a3 : Option Value} {z : Option Value} {x : Nat} (hd : decode μ.1 pc = .ok (.astore 4, 2)) (hq : pc + 2 = q) (hn : g_c1 a3 = true) (k : G Γ μ R kn Z q (a0 :: a1 :: a2 :: a3 :: some (.ref x) :: lv) st M) : G Γ μ R kn Z pc (a0 :: a1 :: a2 :: a3 :: z :: lv) (.ref x :: st) M := g_astore (i := 4) hd hq (by simp) hn k
theorem g_lstore4 {a0 a1 a2 a3 : Option Value} {z z2 : Option Value} {x : Int64} (hd : decode μ.1 pc = .ok (.lstore 4, 2)) (hq : pc + 2 = q) (hn : g_c1 a3 = true) (k : G Γ μ R kn Z q (a0 :: a1 :: a2 :: a3 :: some (.long x) :: none :: lv) st M) : G Γ μ R kn Z pc (a0 :: a1 :: a2 :: a3 :: z :: z2 :: lv) (.long x :: st) M := g_lstore (i := 4) hd hq (by simp) hn k
theorem g_iinc4 {a0 a1 a2 a3 : Option Value} {n : Int} {x w : Int32} (hd : decode μ.1 pc = .ok (.iinc 4 n, 3)) (hq : pc + 3 = q) (hn : g_c1 a3 = true) (hw : Int32.ofInt n = w) (k : G Γ μ R kn Z q (a0 :: a1 :: a2 :: a3 :: some (.int (x + w)) :: lv) st M) : G Γ μ R kn Z pc (a0 :: a1 :: a2 :: a3 :: some (.int x) :: lv) st M := g_iinc (i := 4) hd hq rfl hw (by simp) hn k
theorem g_iload5 {a0 a1 a2 a3 a4 : Option Value} {x : Int32} (hd : decode μ.1 pc = .ok (.iload 5, 2)) (hq : pc + 2 = q) (k : G Γ μ R kn Z q (a0 :: a1 :: a2 :: a3 :: a4 :: some (.int x) :: lv) (.int x :: st) M) : G Γ μ R kn Z pc (a0 :: a1 :: a2 :: a3 :: a4 :: some (.int x) :: lv) st M := g_iload (i := 5) hd hq rfl k
theorem g_aload5 {a0 a1 a2 a3 a4 : Option Value} {x : Nat} (hd : decode μ.1 pc = .ok (.aload 5, 2)) (hq : pc + 2 = q) (k : G Γ μ R kn Z q (a0 :: a1 :: a2 :: a3 :: a4 :: some (.ref x) :: lv) (.ref x :: st) M) : G Γ μ R kn Z pc (a0 :: a1 :: a2 :: a3 :: a4 :: some (.ref x) :: lv) st M := g_aload (i := 5) hd hq rfl k
theorem g_lload5 {a0 a1 a2 a3 a4 : Option Value} {x : Int64} (hd : decode μ.1 pc = .ok (.lload 5, 2)) (hq : pc + 2 = q) (k : G Γ μ R kn Z q (a0 :: a1 :: a2 :: a3 :: a4 :: some (.long x) :: lv) (.long x :: st) M) : G Γ μ R kn Z pc (a0 :: a1 :: a2 :: a3 :: a4 :: some (.long x) :: lv) st M := g_lload (i := 5) hd hq rfl k
theorem g_istore5 {a0 a1 a2 a3 a4 : Option Value} {z : Option Value} {x : Int32} (hd : decode μ.1 pc = .ok (.istore 5, 2)) (hq : pc + 2 = q) (hn : g_c1 a4 = true) (k : G Γ μ R kn Z q (a0 :: a1 :: a2 :: a3 :: a4 :: some (.int x) :: lv) st M) : G Γ μ R kn Z pc (a0 :: a1 :: a2 :: a3 :: a4 :: z :: lv) (.int x :: st) M := g_istore (i := 5) hd hq (by simp) hn k
theorem g_astore5 {a0 a1 a2 a3 a4 : Option Value} {z : Option Value} {x : Nat} (hd : decode μ.1 pc = .ok (.astore 5, 2)) (hq : pc + 2 = q) (hn : g_c1 a4 = true) (k : G Γ μ R kn Z q (a0 :: a1 :: a2 :: a3 :: a4 :: some (.ref x) :: lv) st M) : G Γ μ R kn Z pc (a0 :: a1 :: a2 :: a3 :: a4 :: z :: lv) (.ref x :: st) M := g_astore (i := 5) hd hq (by simp) hn k
theorem g_lstore5 {a0 a1 a2 a3 a4 : Option Value} {z z2 : Option Value} {x : Int64} (hd : decode μ.1 pc = .ok (.lstore 5, 2)) (hq : pc + 2 = q) (hn : g_c1 a4 = true) (k : G Γ μ R kn Z q (a0 :: a1 :: a2 :: a3 :: a4 :: some (.long x) :: none :: lv) st M) : G Γ μ R kn Z pc (a0 :: a1 :: a2 :: a3 :: a4 :: z :: z2 :: lv) (.long x :: st) M := g_lstore (i := 5) hd hq (by simp) hn k
theorem g_iinc5 {a0 a1 a2 a3 a4 : Option Value} {n : Int} {x w : Int32} (hd : decode μ.1 pc = .ok (.iinc 5 n, 3)) (hq : pc + 3 = q) (hn : g_c1 a4 = true) (hw : Int32.ofInt n = w) (k : G Γ μ R kn Z q (a0 :: a1 :: a2 :: a3 :: a4 :: some (.int (x + w)) :: lv) st M) : G Γ μ R kn Z pc (a0 :: a1 :: a2 :: a3 :: a4 :: some (.int x) :: lv) st M := g_iinc (i := 5) hd hq rfl hw (by simp) hn k
theorem g_iload6 {a0 a1 a2 a3 a4 a5 : Option Value} {x : Int32} (hd : decode μ.1 pc = .ok (.iload 6, 2)) (hq : pc + 2 = q) (k : G Γ μ R kn Z q (a0 :: a1 :: a2 :: a3 :: a4 :: a5 :: some (.int x) :: lv) (.int x :: st) M) : G Γ μ R kn Z pc (a0 :: a1 :: a2 :: a3 :: a4 :: a5 :: some (.int x) :: lv) st M := g_iload (i := 6) hd hq rfl k
theorem g_aload6 {a0 a1 a2 a3 a4 a5 : Option Value} {x : Nat} (hd : decode μ.1 pc = .ok (.aload 6, 2)) (hq : pc + 2 = q) (k : G Γ μ R kn Z q (a0 :: a1 :: a2 :: a3 :: a4 :: a5 :: some (.ref x) :: lv) (.ref x :: st) M) : G Γ μ R kn Z pc (a0 :: a1 :: a2 :: a3 :: a4 :: a5 :: some (.ref x) :: lv) st M := g_aload (i := 6) hd hq rfl k
theorem g_lload6 {a0 a1 a2 a3 a4 a5 : Option Value} {x : Int64} (hd : decode μ.1 pc = .ok (.lload 6, 2)) (hq : pc + 2 = q) (k : G Γ μ R kn Z q (a0 :: a1 :: a2 :: a3 :: a4 :: a5 :: some (.long x) :: lv) (.long x :: st) M) : G Γ μ R kn Z pc (a0 :: a1 :: a2 :: a3 :: a4 :: a5 :: some (.long x) :: lv) st M := g_lload (i := 6) hd hq rfl k
theorem g_istore6 {a0 a1 a2 a3 a4 a5 : Option Value} {z : Option Value} {x : Int32} (hd : decode μ.1 pc = .ok (.istore 6, 2)) (hq : pc + 2 = q) (hn : g_c1 a5 = true) (k : G Γ μ R kn Z q (a0 :: a1 :: a2 :: a3 :: a4 :: a5 :: some (.int x) :: lv) st M) : G Γ μ R kn Z pc (a0 :: a1 :: a2 :: a3 :: a4 :: a5 :: z :: lv) (.int x :: st) M := g_istore (i := 6) hd hq (by simp) hn k
theorem g_astore6 {a0 a1 a2 a3 a4 a5 : Option Value} {z : Option Value} {x : Nat} (hd : decode μ.1 pc = .ok (.astore 6, 2)) (hq : pc + 2 = q) (hn : g_c1 a5 = true) (k : G Γ μ R kn Z q (a0 :: a1 :: a2 :: a3 :: a4 :: a5 :: some (.ref x) :: lv) st M) : G Γ μ R kn Z pc (a0 :: a1 :: a2 :: a3 :: a4 :: a5 :: z :: lv) (.ref x :: st) M := g_astore (i := 6) hd hq (by simp) hn k
theorem g_lstore6 {a0 a1 a2 a3 a4 a5 : Option Value} {z z2 : Option Value} {x : Int64} (hd : decode μ.1 pc = .ok (.lstore 6, 2)) (hq : pc + 2 = q) (hn : g_c1 a5 = true) (k : G Γ μ R kn Z q (a0 :: a1 :: a2 :: a3 :: a4 :: a5 :: some (.long x) :: none :: lv) st M) : G Γ μ R kn Z pc (a0 :: a1 :: a2 :: a3 :: a4 :: a5 :: z :: z2 :: lv) (.long x :: st) M := g_lstore (i := 6) hd hq (by simp) hn k
theorem g_iinc6 {a0 a1 a2 a3 a4 a5 : Option Value} {n : Int} {x w : Int32} (hd : decode μ.1 pc = .ok (.iinc 6 n, 3)) (hq : pc + 3 = q) (hn : g_c1 a5 = true) (hw : Int32.ofInt n = w) (k : G Γ μ R kn Z q (a0 :: a1 :: a2 :: a3 :: a4 :: a5 :: some (.int (x + w)) :: lv) st M) : G Γ μ R kn Z pc (a0 :: a1 :: a2 :: a3 :: a4 :: a5 :: some (.int x) :: lv) st M := g_iinc (i := 6) hd hq rfl hw (by simp) hn k
theorem g_iload7 {a0 a1 a2 a3 a4 a5 a6 : Option Value} {x : Int32} (hd : decode μ.1 pc = .ok (.iload 7, 2)) (hq : pc + 2 = q) (k : G Γ μ R kn Z q (a0 :: a1 :: a2 :: a3 :: a4 :: a5 :: a6 :: some (.int x) :: lv) (.int x :: st) M) : G Γ μ R kn Z pc (a0 :: a1 :: a2 :: a3 :: a4 :: a5 :: a6 :: some (.int x) :: lv) st M := g_iload (i := 7) hd hq rfl k
theorem g_aload7 {a0 a1 a2 a3 a4 a5 a6 : Option Value} {x : Nat} (hd : decode μ.1 pc = .ok (.aload 7, 2)) (hq : pc + 2 = q) (k : G Γ μ R kn Z q (a0 :: a1 :: a2 :: a3 :: a4 :: a5 :: a6 :: some (.ref x) :: lv) (.ref x :: st) M) : G Γ μ R kn Z pc (a0 :: a1 :: a2 :: a3 :: a4 :: a5 :: a6 :: some (.ref x) :: lv) st M := g_aload (i := 7) hd hq rfl k
theorem g_lload7 {a0 a1 a2 a3 a4 a5 a6 : Option Value} {x : Int64} (hd : decode μ.1 pc = .ok (.lload 7, 2)) (hq : pc + 2 = q) (k : G Γ μ R kn Z q (a0 :: a1 :: a2 :: a3 :: a4 :: a5 :: a6 :: some (.long x) :: lv) (.long x :: st) M) : G Γ μ R kn Z pc (a0 :: a1 :: a2 :: a3 :: a4 :: a5 :: a6 :: some (.long x) :: lv) st M := g_lload (i := 7) hd hq rfl k
theorem g_istore7 {a0 a1 a2 a3 a4 a5 a6 : Option Value} {z : Option Value} {x : Int32} (hd : decode μ.1 pc = .ok (.istore 7, 2)) (hq : pc + 2 = q) (hn : g_c1 a6 = true) (k : G Γ μ R kn Z q (a0 :: a1 :: a2 :: a3 :: a4 :: a5 :: a6 :: some (.int x) :: lv) st M) : G Γ μ R kn Z pc (a0 :: a1 :: a2 :: a3 :: a4 :: a5 :: a6 :: z :: lv) (.int x :: st) M := g_istore (i := 7) hd hq (by simp) hn k
theorem g_astore7 {a0 a1 a2 a3 a4 a5 a6 : Option Value} {z : Option Value} {x : Nat} (hd : decode μ.1 pc = .ok (.astore 7, 2)) (hq : pc + 2 = q) (hn : g_c1 a6 = true) (k : G Γ μ R kn Z q (a0 :: a1 :: a2 :: a3 :: a4 :: a5 :: a6 :: some (.ref x) :: lv) st M) : G Γ μ R kn Z pc (a0 :: a1 :: a2 :: a3 :: a4 :: a5 :: a6 :: z :: lv) (.ref x :: st) M := g_astore (i := 7) hd hq (by simp) hn k
theorem g_lstore7 {a0 a1 a2 a3 a4 a5 a6 : Option Value} {z z2 : Option Value} {x : Int64} (hd : decode μ.1 pc = .ok (.lstore 7, 2)) (hq : pc + 2 = q) (hn : g_c1 a6 = true) (k : G Γ μ R kn Z q (a0 :: a1 :: a2 :: a3 :: a4 :: a5 :: a6 :: some (.long x) :: none :: lv) st M) : G Γ μ R kn Z pc (a0 :: a1 :: a2 :: a3 :: a4 :: a5 :: a6 :: z :: z2 :: lv) (.long x :: st) M := g_lstore (i := 7) hd hq (by simp) hn k
theorem g_iinc7 {a0 a1 a2 a3 a4 a5 a6 : Option Value} {n : Int} {x w : Int32} (hd : decode μ.1 pc = .ok (.iinc 7 n, 3)) (hq : pc + 3 = q) (hn : g_c1 a6 = true) (hw : Int32.ofInt n = w) (k : G Γ μ R kn Z q (a0 :: a1 :: a2 :: a3 :: a4 :: a5 :: a6 :: some (.int (x + w)) :: lv) st M) : G Γ μ R kn Z pc (a0 :: a1 :: a2 :: a3 :: a4 :: a5 :: a6 :: some (.int x) :: lv) st M := g_iinc (i := 7) hd hq rfl hw (by simp) hn k
theorem g_iload8 {a0 a1 a2 a3 a4 a5 a6 a7 : Option Value} {x : Int32} (hd : decode μ.1 pc = .ok (.iload 8, 2)) (hq : pc + 2 = q) (k : G Γ μ R kn Z q (a0 :: a1 :: a2 :: a3 :: a4 :: a5 :: a6 :: a7 :: some (.int x) :: lv) (.int x :: st) M) : G Γ μ R kn Z pc (a0 :: a1 :: a2 :: a3 :: a4 :: a5 :: a6 :: a7 :: some (.int x) :: lv) st M := g_iload (i := 8) hd hq rfl k
theorem g_aload8 {a0 a1 a2 a3 a4 a5 a6 a7 : Option Value} {x : Nat} (hd : decode μ.1 pc = .ok (.aload 8, 2)) (hq : pc + 2 = q) (k : G Γ μ R kn Z q (a0 :: a1 :: a2 :: a3 :: a4 :: a5 :: a6 :: a7 :: some (.ref x) :: lv) (.ref x :: st) M) : G Γ μ R kn Z pc (a0 :: a1 :: a2 :: a3 :: a4 :: a5 :: a6 :: a7 :: some (.ref x) :: lv) st M := g_aload (i := 8) hd hq rfl k
theorem g_lload8 {a0 a1 a2 a3 a4 a5 a6 a7 : Option Value} {x : Int64} (hd : decode μ.1 pc = .ok (.lload 8, 2)) (hq : pc + 2 = q) (k : G Γ μ R kn Z q (a0 :: a1 :: a2 :: a3 :: a4 :: a5 :: a6 :: a7 :: some (.long x) :: lv) (.long x :: st) M) : G Γ μ R kn Z pc (a0 :: a1 :: a2 :: a3 :: a4 :: a5 :: a6 :: a7 :: some (.long x) :: lv) st M := g_lload (i := 8) hd hq rfl k
theorem g_istore8 {a0 a1 a2 a3 a4 a5 a6 a7 : Option Value} {z : Option Value} {x : Int32} (hd : decode μ.1 pc = .ok (.istore 8, 2)) (hq : pc + 2 = q) (hn : g_c1 a7 = true) (k : G Γ μ R kn Z q (a0 :: a1 :: a2 :: a3 :: a4 :: a5 :: a6 :: a7 :: some (.int x) :: lv) st M) : G Γ μ R kn Z pc (a0 :: a1 :: a2 :: a3 :: a4 :: a5 :: a6 :: a7 :: z :: lv) (.int x :: st) M := g_istore (i := 8) hd hq (by simp) hn k
theorem g_astore8 {a0 a1 a2 a3 a4 a5 a6 a7 : Option Value} {z : Option Value} {x : Nat} (hd : decode μ.1 pc = .ok (.astore 8, 2)) (hq : pc + 2 = q) (hn : g_c1 a7 = true) (k : G Γ μ R kn Z q (a0 :: a1 :: a2 :: a3 :: a4 :: a5 :: a6 :: a7 :: some (.ref x) :: lv) st M) : G Γ μ R kn Z pc (a0 :: a1 :: a2 :: a3 :: a4 :: a5 :: a6 :: a7 :: z :: lv) (.ref x :: st) M := g_astore (i := 8) hd hq (by simp) hn k
theorem g_lstore8 {a0 a1 a2 a3 a4 a5 a6 a7 : Option Value} {z z2 : Option Value} {x : Int64} (hd : decode μ.1 pc = .ok (.lstore 8, 2)) (hq : pc + 2 = q) (hn : g_c1 a7 = true) (k : G Γ μ R kn Z q (a0 :: a1 :: a2 :: a3 :: a4 :: a5 :: a6 :: a7 :: some (.long x) :: none :: lv) st M) : G Γ μ R kn Z pc (a0 :: a1 :: a2 :: a3 :: a4 :: a5 :: a6 :: a7 :: z :: z2 :: lv) (.long x :: st) M := g_lstore (i := 8) hd hq (by simp) hn k
theorem g_iinc8 {a0 a1 a2 a3 a4 a5 a6 a7 : Option Value} {n : Int} {x w : Int32} (hd : decode μ.1 pc = .ok (.iinc 8 n, 3)) (hq : pc + 3 = q) (hn : g_c1 a7 = true) (hw : Int32.ofInt n = w) (k : G Γ μ R kn Z q (a0 :: a1 :: a2 :: a3 :: a4 :: a5 :: a6 :: a7 :: some (.int (x + w)) :: lv) st M) : G Γ μ R kn Z pc (a0 :: a1 :: a2 :: a3 :: a4 :: a5 :: a6 :: a7 :: some (.int x) :: lv) st M := g_iinc (i := 8) hd hq rfl hw (by simp) hn k
theorem g_iload9 {a0 a1 a2 a3 a4 a5 a6 a7 a8 : Option Value} {x : Int32} (hd : decode μ.1 pc = .ok (.iload 9, 2)) (hq : pc + 2 = q) (k : G Γ μ R kn Z q (a0 :: a1 :: a2 :: a3 :: a4 :: a5 :: a6 :: a7 :: a8 :: some (.int x) :: lv) (.int x :: st) M) : G Γ μ R kn Z pc (a0 :: a1 :: a2 :: a3 :: a4 :: a5 :: a6 :: a7 :: a8 :: some (.int x) :: lv) st M := g_iload (i := 9) hd hq rfl k
theorem g_aload9 {a0 a1 a2 a3 a4 a5 a6 a7 a8 : Option Value} {x : Nat} (hd : decode μ.1 pc = .ok (.aload 9, 2)) (hq : pc + 2 = q) (k : G Γ μ R kn Z q (a0 :: a1 :: a2 :: a3 :: a4 :: a5 :: a6 :: a7 :: a8 :: some (.ref x) :: lv) (.ref x :: st) M) : G Γ μ R kn Z pc (a0 :: a1 :: a2 :: a3 :: a4 :: a5 :: a6 :: a7 :: a8 :: some (.ref x) :: lv) st M := g_aload (i := 9) hd hq rfl k
theorem g_lload9 {a0 a1 a2 a3 a4 a5 a6 a7 a8 : Option Value} {x : Int64} (hd : decode μ.1 pc = .ok (.lload 9, 2)) (hq : pc + 2 = q) (k : G Γ μ R kn Z q (a0 :: a1 :: a2 :: a3 :: a4 :: a5 :: a6 :: a7 :: a8 :: some (.long x) :: lv) (.long x :: st) M) : G Γ μ R kn Z pc (a0 :: a1 :: a2 :: a3 :: a4 :: a5 :: a6 :: a7 :: a8 :: some (.long x) :: lv) st M := g_lload (i := 9) hd hq rfl k
theorem g_istore9 {a0 a1 a2 a3 a4 a5 a6 a7 a8 : Option Value} {z : Option Value} {x : Int32} (hd : decode μ.1 pc = .ok (.istore 9, 2)) (hq : pc + 2 = q) (hn : g_c1 a8 = true) (k : G Γ μ R kn Z q (a0 :: a1 :: a2 :: a3 :: a4 :: a5 :: a6 :: a7 :: a8 :: some (.int x) :: lv) st M) : G Γ μ R kn Z pc (a0 :: a1 :: a2 :: a3 :: a4 :: a5 :: a6 :: a7 :: a8 :: z :: lv) (.int x :: st) M := g_istore (i := 9) hd hq (by simp) hn k
theorem g_astore9 {a0 a1 a2 a3 a4 a5 a6 a7 a8 : Option Value} {z : Option Value} {x : Nat} (hd : decode μ.1 pc = .ok (.astore 9, 2)) (hq : pc + 2 = q) (hn : g_c1 a8 = true) (k : G Γ μ R kn Z q (a0 :: a1 :: a2 :: a3 :: a4 :: a5 :: a6 :: a7 :: a8 :: some (.ref x) :: lv) st M) : G Γ μ R kn Z pc (a0 :: a1 :: a2 :: a3 :: a4 :: a5 :: a6 :: a7 :: a8 :: z :: lv) (.ref x :: st) M := g_astore (i := 9) hd hq (by simp) hn k
theorem g_lstore9 {a0 a1 a2 a3 a4 a5 a6 a7 a8 : Option Value} {z z2 : Option Value} {x : Int64} (hd : decode μ.1 pc = .ok (.lstore 9, 2)) (hq : pc + 2 = q) (hn : g_c1 a8 = true) (k : G Γ μ R kn Z q (a0 :: a1 :: a2 :: a3 :: a4 :: a5 :: a6 :: a7 :: a8 :: some (.long x) :: none :: lv) st M) : G Γ μ R kn Z pc (a0 :: a1 :: a2 :: a3 :: a4 :: a5 :: a6 :: a7 :: a8 :: z :: z2 :: lv) (.long x :: st) M := g_lstore (i := 9) hd hq (by simp) hn k
theorem g_iinc9 {a0 a1 a2 a3 a4 a5 a6 a7 a8 : Option Value} {n : Int} {x w : Int32} (hd : decode μ.1 pc = .ok (.iinc 9 n, 3)) (hq : pc + 3 = q) (hn : g_c1 a8 = true) (hw : Int32.ofInt n = w) (k : G Γ μ R kn Z q (a0 :: a1 :: a2 :: a3 :: a4 :: a5 :: a6 :: a7 :: a8 :: some (.int (x + w)) :: lv) st M) : G Γ μ R kn Z pc (a0 :: a1 :: a2 :: a3 :: a4 :: a5 :: a6 :: a7 :: a8 :: some (.int x) :: lv) st M := g_iinc (i := 9) hd hq rfl hw (by simp) hn k
theorem g_iret {Q : Option Value → gM → Prop} {x : Int32} (hd : decode μ.1 pc = .ok (.ireturn, 1)) (hr : μ.2.2.2 = some .int) (hQ : Q (some (.int x)) M) : G Γ μ R (0, 0) (g_Z Γ Q) pc lv [.int x] M :=
  fun p l e s m args below meth c H locs A ls F X => W.iret F.1 F.2.1 (by rw [F.2.2.1, hr]) (fun t ht hW => ⟨⟨some (.int x), M, rfl, hQ, by rw [ht]; exact X.1⟩, X.2.2.1.F ht⟩) X.2.2.1.2.2 hd F.2.2.2.1
theorem g_zret {Q : Option Value → gM → Prop} {x : Int32} (hd : decode μ.1 pc = .ok (.ireturn, 1)) {ty : FieldType} (hr : μ.2.2.2 = some ty) (hn : narrow ty (.int x) = .int x) (hQ : Q (some (.int x)) M) : G Γ μ R (0, 0) (g_Z Γ Q) pc lv [.int x] M :=
  fun p l e s m args below meth c H locs A ls F X => W.zret F.1 F.2.1 (by rw [F.2.2.1, hr]) hn (fun t ht hW => ⟨⟨some (.int x), M, rfl, hQ, by rw [ht]; exact X.1⟩, X.2.2.1.F ht⟩) X.2.2.1.2.2 hd F.2.2.2.1
theorem g_vret {Q : Option Value → gM → Prop} (hd : decode μ.1 pc = .ok (.return_, 1)) (hr : μ.2.2.2 = none) (hQ : Q none M) : G Γ μ R (0, 0) (g_Z Γ Q) pc lv [] M :=
  fun p l e s m args below meth c H locs A ls F X => W.vret F.1 F.2.1 (by rw [F.2.2.1, hr]) (fun t ht hW => ⟨⟨none, M, rfl, hQ, by rw [ht]; exact X.1⟩, X.2.2.1.F ht⟩) X.2.2.1.2.2 hd F.2.2.2.1
/-- entry idx of own's pool is field k of class ci, of type ty, final or not -/
def g_FL (own : String) (idx ci k : Nat) (ty : FieldType) (fin : Bool) : Prop := ∃ (C : String) (T : u_T) (N : Nat) (ty0 : Nat → FieldType), vwCl[ci]? = some (C, T, N) ∧ k < N ∧ Cond.fieldLink own idx (T k).1 (T k).2.1 (T k).2.2.1 ∈ g_UW ∧ (∀ w ∈ u_ws C T N, w ∈ g_UW) ∧ parseFieldDescriptor (T k).2.2.1 = some ty ∧ (T k).2.2.2 = fin ∧ (∀ k, k < N → parseFieldDescriptor (T k).2.2.1 = some (ty0 k)) ∧ ∀ a, a < N → ∀ b, b < N → a ≠ b → (T a).2.1 ≠ (T b).2.1
theorem g_fs_at {ad : Nat → Nat} {t : gT} {f : Nat → Int32} {k : Nat} {o : Option (Option Nat)} (h : t[k]? = some o) : (g_fs ad t f)[k]? = some (g_fv ad (f k) o) := by
  simp [g_fs, List.getElem?_mapIdx, h]
theorem g_fs_set {ad : Nat → Nat} {t : gT} {f : Nat → Int32} {k : Nat} {x : Int32} (h : t[k]? = some none) : (g_fs ad t f).set k (.int x) = g_fs ad t (fun b => if b = k then x else f b) := by
  have hlt : k < (g_fs ad t f).length := by
    rw [g_fs, List.length_mapIdx]; exact (List.getElem?_eq_some_iff.mp h).1
  refine List.ext_getElem? fun j => ?_
  by_cases hj : k = j
  · subst hj
    rw [List.getElem?_set_self hlt, g_fs_at h]
    simp [g_fv]
  · rw [List.getElem?_set_ne hj]
    have hj2 : ¬ j = k := fun e => hj e.symm
    cases ho : t[j]? with
    | none => simp [g_fs, List.getElem?_mapIdx, ho]
    | some o => rw [g_fs_at ho, g_fs_at ho, if_neg hj2]
theorem g_E_obj {Γ : gW} {M : gM} {i ci : Nat} {t : gT} (h : Γ.2.2.2.2 i = .inl (ci, t)) : g_E Γ M i = .inr (ci, g_fs Γ.2.2.1 t (M.1 i)) := by simp [g_E, h]
theorem g_E_arr {Γ : gW} {M : gM} {i tc n : Nat} (h : Γ.2.2.2.2 i = .inr (tc, n)) (h2 : ¬ tc = 2) : g_E Γ M i = .inl (Γ.2.1 tc, n, .inl (M.1 i)) := by simp [g_E, h, h2]
theorem g_E_arrl {Γ : gW} {M : gM} {i n : Nat} (h : Γ.2.2.2.2 i = .inr (2, n)) : g_E Γ M i = .inl (Γ.2.1 2, n, .inr (.inl (M.2 i))) := by simp [g_E, h]
theorem g_u_at {M : gM} {i k : Nat} {x : Int32} : (g_u M i k x).1 i = fun b => if b = k then x else M.1 i b := by funext b; simp [g_u]
theorem g_u_ne {M : gM} {i k j : Nat} {x : Int32} (h : j ≠ i) : (g_u M i k x).1 j = M.1 j := by funext b; simp [g_u, h]
theorem g_ul_at {M : gM} {i k : Nat} {x : Int64} : (g_ul M i k x).2 i = fun b => if b = k then x else M.2 i b := by funext b; simp [g_ul]
theorem g_ul_ne {M : gM} {i k j : Nat} {x : Int64} (h : j ≠ i) : (g_ul M i k x).2 j = M.2 j := by funext b; simp [g_ul, h]
theorem g_E_u {Γ : gW} {M : gM} {i k j : Nat} {x : Int32} (h : j ≠ i) : g_E Γ (g_u M i k x) j = g_E Γ M j := by
  simp only [g_E, g_u_ne h]; rfl
theorem g_E_ul {Γ : gW} {M : gM} {i k j : Nat} {x : Int64} (h : j ≠ i) : g_E Γ (g_ul M i k x) j = g_E Γ M j := by
  simp only [g_E, g_ul_ne h]; rfl
theorem g_get {i ci idx k0 : Nat} {t : gT} {ty : FieldType} {fin : Bool} {o : Option (Option Nat)} (hd : decode μ.1 pc = .ok (.getfield idx, 3)) (hq : pc + 3 = q) (hf : g_FL μ.2.1 idx ci k0 ty fin) (ho : g_o Γ i (.inl (ci, t))) (ht : t[k0]? = some o) {v : Value} (hv : g_v Γ.2.2.1 v = g_fv Γ.2.2.1 (M.1 i k0) o) (k : G Γ μ R kn Z q lv (v :: st) M) : G Γ μ R kn Z pc lv (.ref i :: st) M := by
  subst hq
  intro p l e s m args below meth c H locs A ls F X
  obtain ⟨C, T, N, ty0, hc, hk, hlink, hin, -, -, -, -⟩ := hf
  obtain ⟨q0, h1, h2⟩ := g_ws_at (M := M) ho.1
  rw [g_E_obj ho.2] at h2
  have kk := k p l e s m args below meth c H locs A ls F X
  rw [List.map_cons, hv] at kk
  exact va_get F.1 F.2.1 F.2.2.2.2.2.2.1 hin F.2.2.2.2.2.1 F.2.2.2.2.2.2.2.1 X.1 q0 h2 hc k0 hk (F.2.2.2.2.2.2.1 _ hlink) (fun _ h => h) (g_fs_at ht) hd kk
theorem g_geti {i ci idx k0 : Nat} {t : gT} {ty : FieldType} {fin : Bool} (hd : decode μ.1 pc = .ok (.getfield idx, 3)) (hq : pc + 3 = q) (hf : g_FL μ.2.1 idx ci k0 ty fin) (ho : g_o Γ i (.inl (ci, t))) (ht : t[k0]? = some none) (k : G Γ μ R kn Z q lv (.int (M.1 i k0) :: st) M) : G Γ μ R kn Z pc lv (.ref i :: st) M := g_get hd hq hf ho ht rfl k
theorem g_getr {i ci idx k0 j : Nat} {t : gT} {ty : FieldType} {fin : Bool} (hd : decode μ.1 pc = .ok (.getfield idx, 3)) (hq : pc + 3 = q) (hf : g_FL μ.2.1 idx ci k0 ty fin) (ho : g_o Γ i (.inl (ci, t))) (ht : t[k0]? = some (some (some j))) (k : G Γ μ R kn Z q lv (.ref j :: st) M) : G Γ μ R kn Z pc lv (.ref i :: st) M := g_get hd hq hf ho ht rfl k
theorem g_put {i ci idx k0 : Nat} {t : gT} {ty : FieldType} {x : Int32} (hd : decode μ.1 pc = .ok (.putfield idx, 3)) (hq : pc + 3 = q) (hf : g_FL μ.2.1 idx ci k0 ty false) (ho : g_o Γ i (.inl (ci, t))) (ht : t[k0]? = some none) (hn : narrow ty (.int x) = .int x) (hfit : fits ty (.int x) = true) (k : G Γ μ R kn Z q lv st (g_u M i k0 x)) : G Γ μ R kn Z pc lv (.int x :: .ref i :: st) M := by
  subst hq
  intro p l e s m args below meth c H locs A ls F X
  obtain ⟨hP, hD, hS, hL⟩ := X
  obtain ⟨C, T, N, ty0, hc, hk, hlink, hin, hty, hfin, hty0, hnm⟩ := hf
  obtain ⟨q0, h1, h2⟩ := g_ws_at (M := M) ho.1
  rw [g_E_obj ho.2] at h2
  have hlt : k0 < (g_fs Γ.2.2.1 t (M.1 i)).length := by rw [g_fs, List.length_mapIdx]; exact (List.getElem?_eq_some_iff.mp ht).1
  have e1 : (g_ws Γ M).set q0 (Γ.2.2.1 i, .inr (ci, (g_fs Γ.2.2.1 t (M.1 i)).set k0 (.int x))) = g_ws Γ (g_u M i k0 x) := g_ws_set hD h1 (by rw [g_E_obj ho.2, g_u_at, g_fs_set ht]) (fun j hj => g_E_u hj)
  refine va_put (v := .int x) F.1 F.2.1 F.2.2.2.2.2.2.1 hin ty0 hty0 hnm F.2.2.2.2.2.1 F.2.2.2.2.2.2.2.1 hP hD hS q0 h2 hc k0 hk (F.2.2.2.2.2.2.1 _ hlink) (fun _ h => h) hfin hty hn hfit hlt hd (fun H1 locs1 hP1 hD1 hS1 => ?_)
  rw [e1] at hP1 hD1
  exact k p l e s m args below meth c H1 locs1 A ls F ⟨hP1, hD1, hS1, hL⟩
theorem g_iald {i n : Nat} {x : Int32} (hd : decode μ.1 pc = .ok (.iaload, 1)) (hq : pc + 1 = q) (ho : g_o Γ i (.inr (1, n))) (hin : vp_in x n) (k : G Γ μ R kn Z q lv (.int (M.1 i x.toNatClampNeg) :: st) M) : G Γ μ R kn Z pc lv (.int x :: .ref i :: st) M := by
  subst hq
  intro p l e s m args below meth c H locs A ls F X
  obtain ⟨q0, h1, h2⟩ := g_ws_at (M := M) ho.1
  rw [g_E_arr ho.2 (by decide)] at h2
  exact va_iald F.1 F.2.1 F.2.2.2.2.2.2.2.1 X.1 q0 1 h2 rfl hin hd (k p l e s m args below meth c H locs A ls F X)
theorem g_iast {i n : Nat} {x y : Int32} (hd : decode μ.1 pc = .ok (.iastore, 1)) (hq : pc + 1 = q) (ho : g_o Γ i (.inr (1, n))) (hin : vp_in x n) (k : G Γ μ R kn Z q lv st (g_u M i x.toNatClampNeg y)) : G Γ μ R kn Z pc lv (.int y :: .int x :: .ref i :: st) M := by
  subst hq
  intro p l e s m args below meth c H locs A ls F X
  obtain ⟨hP, hD, hS, hL⟩ := X
  obtain ⟨q0, h1, h2⟩ := g_ws_at (M := M) ho.1
  rw [g_E_arr ho.2 (by decide)] at h2
  have e1 : (g_ws Γ M).set q0 (Γ.2.2.1 i, .inl (Γ.2.1 1, n, .inl (upd (M.1 i) x.toNatClampNeg y))) = g_ws Γ (g_u M i x.toNatClampNeg y) := g_ws_set hD h1 (by rw [g_E_arr ho.2 (by decide), g_u_at]; rfl) (fun j hj => g_E_u hj)
  refine va_iast F.1 F.2.1 F.2.2.2.2.2.2.2.1 hP hD hS q0 1 h2 rfl hin hd (fun H1 locs1 hP1 hD1 hS1 => ?_)
  rw [e1] at hP1 hD1
  exact k p l e s m args below meth c H1 locs1 A ls F ⟨hP1, hD1, hS1, hL⟩
theorem g_bald {i n : Nat} {x : Int32} (hd : decode μ.1 pc = .ok (.baload, 1)) (hq : pc + 1 = q) (ho : g_o Γ i (.inr (0, n))) (hin : vp_in x n) (k : G Γ μ R kn Z q lv (.int (M.1 i x.toNatClampNeg) :: st) M) : G Γ μ R kn Z pc lv (.int x :: .ref i :: st) M := by
  subst hq
  intro p l e s m args below meth c H locs A ls F X
  obtain ⟨q0, h1, h2⟩ := g_ws_at (M := M) ho.1
  rw [g_E_arr ho.2 (by decide)] at h2
  exact va_bald F.1 F.2.1 F.2.2.2.2.2.2.2.1 X.1 q0 0 h2 rfl hin hd (k p l e s m args below meth c H locs A ls F X)
theorem g_bast {i n : Nat} {x y : Int32} (hd : decode μ.1 pc = .ok (.bastore, 1)) (hq : pc + 1 = q) (ho : g_o Γ i (.inr (0, n))) (hin : vp_in x n) (k : G Γ μ R kn Z q lv st (g_u M i x.toNatClampNeg (vp_nar .byte y))) : G Γ μ R kn Z pc lv (.int y :: .int x :: .ref i :: st) M := by
  subst hq
  intro p l e s m args below meth c H locs A ls F X
  obtain ⟨hP, hD, hS, hL⟩ := X
  obtain ⟨q0, h1, h2⟩ := g_ws_at (M := M) ho.1
  rw [g_E_arr ho.2 (by decide)] at h2
  have e1 : (g_ws Γ M).set q0 (Γ.2.2.1 i, .inl (Γ.2.1 0, n, .inl (upd (M.1 i) x.toNatClampNeg (vp_nar .byte y)))) = g_ws Γ (g_u M i x.toNatClampNeg (vp_nar .byte y)) := g_ws_set hD h1 (by rw [g_E_arr ho.2 (by decide), g_u_at]; rfl) (fun j hj => g_E_u hj)
  refine va_bast F.1 F.2.1 F.2.2.2.2.2.2.2.1 hP hD hS q0 0 h2 rfl hin hd (fun H1 locs1 hP1 hD1 hS1 => ?_)
  rw [e1] at hP1 hD1
  exact k p l e s m args below meth c H1 locs1 A ls F ⟨hP1, hD1, hS1, hL⟩
theorem g_zald {i n : Nat} {x : Int32} (hd : decode μ.1 pc = .ok (.baload, 1)) (hq : pc + 1 = q) (ho : g_o Γ i (.inr (4, n))) (hin : vp_in x n) (k : G Γ μ R kn Z q lv (.int (M.1 i x.toNatClampNeg) :: st) M) : G Γ μ R kn Z pc lv (.int x :: .ref i :: st) M := by
  subst hq
  intro p l e s m args below meth c H locs A ls F X
  obtain ⟨q0, h1, h2⟩ := g_ws_at (M := M) ho.1
  rw [g_E_arr ho.2 (by decide)] at h2
  exact va_zald F.1 F.2.1 F.2.2.2.2.2.2.2.1 X.1 q0 4 h2 rfl hin hd (k p l e s m args below meth c H locs A ls F X)
theorem g_zast {i n : Nat} {x y : Int32} (hd : decode μ.1 pc = .ok (.bastore, 1)) (hq : pc + 1 = q) (ho : g_o Γ i (.inr (4, n))) (hin : vp_in x n) (k : G Γ μ R kn Z q lv st (g_u M i x.toNatClampNeg (vp_nar .boolean y))) : G Γ μ R kn Z pc lv (.int y :: .int x :: .ref i :: st) M := by
  subst hq
  intro p l e s m args below meth c H locs A ls F X
  obtain ⟨hP, hD, hS, hL⟩ := X
  obtain ⟨q0, h1, h2⟩ := g_ws_at (M := M) ho.1
  rw [g_E_arr ho.2 (by decide)] at h2
  have e1 : (g_ws Γ M).set q0 (Γ.2.2.1 i, .inl (Γ.2.1 4, n, .inl (upd (M.1 i) x.toNatClampNeg (vp_nar .boolean y)))) = g_ws Γ (g_u M i x.toNatClampNeg (vp_nar .boolean y)) := g_ws_set hD h1 (by rw [g_E_arr ho.2 (by decide), g_u_at]; rfl) (fun j hj => g_E_u hj)
  refine va_zast F.1 F.2.1 F.2.2.2.2.2.2.2.1 hP hD hS q0 4 h2 rfl hin hd (fun H1 locs1 hP1 hD1 hS1 => ?_)
  rw [e1] at hP1 hD1
  exact k p l e s m args below meth c H1 locs1 A ls F ⟨hP1, hD1, hS1, hL⟩
theorem g_sald {i n : Nat} {x : Int32} (hd : decode μ.1 pc = .ok (.saload, 1)) (hq : pc + 1 = q) (ho : g_o Γ i (.inr (3, n))) (hin : vp_in x n) (k : G Γ μ R kn Z q lv (.int (M.1 i x.toNatClampNeg) :: st) M) : G Γ μ R kn Z pc lv (.int x :: .ref i :: st) M := by
  subst hq
  intro p l e s m args below meth c H locs A ls F X
  obtain ⟨q0, h1, h2⟩ := g_ws_at (M := M) ho.1
  rw [g_E_arr ho.2 (by decide)] at h2
  exact va_sald F.1 F.2.1 F.2.2.2.2.2.2.2.1 X.1 q0 3 h2 rfl hin hd (k p l e s m args below meth c H locs A ls F X)
theorem g_sast {i n : Nat} {x y : Int32} (hd : decode μ.1 pc = .ok (.sastore, 1)) (hq : pc + 1 = q) (ho : g_o Γ i (.inr (3, n))) (hin : vp_in x n) (k : G Γ μ R kn Z q lv st (g_u M i x.toNatClampNeg (vp_nar .short y))) : G Γ μ R kn Z pc lv (.int y :: .int x :: .ref i :: st) M := by
  subst hq
  intro p l e s m args below meth c H locs A ls F X
  obtain ⟨hP, hD, hS, hL⟩ := X
  obtain ⟨q0, h1, h2⟩ := g_ws_at (M := M) ho.1
  rw [g_E_arr ho.2 (by decide)] at h2
  have e1 : (g_ws Γ M).set q0 (Γ.2.2.1 i, .inl (Γ.2.1 3, n, .inl (upd (M.1 i) x.toNatClampNeg (vp_nar .short y)))) = g_ws Γ (g_u M i x.toNatClampNeg (vp_nar .short y)) := g_ws_set hD h1 (by rw [g_E_arr ho.2 (by decide), g_u_at]; rfl) (fun j hj => g_E_u hj)
  refine va_sast F.1 F.2.1 F.2.2.2.2.2.2.2.1 hP hD hS q0 3 h2 rfl hin hd (fun H1 locs1 hP1 hD1 hS1 => ?_)
  rw [e1] at hP1 hD1
  exact k p l e s m args below meth c H1 locs1 A ls F ⟨hP1, hD1, hS1, hL⟩
theorem g_lald {i n : Nat} {x : Int32} (hd : decode μ.1 pc = .ok (.laload, 1)) (hq : pc + 1 = q) (ho : g_o Γ i (.inr (2, n))) (hin : vp_in x n) (k : G Γ μ R kn Z q lv (.long (M.2 i x.toNatClampNeg) :: st) M) : G Γ μ R kn Z pc lv (.int x :: .ref i :: st) M := by
  subst hq
  intro p l e s m args below meth c H locs A ls F X
  obtain ⟨q0, h1, h2⟩ := g_ws_at (M := M) ho.1
  rw [g_E_arrl ho.2] at h2
  exact va_lald F.1 F.2.1 F.2.2.2.2.2.2.2.1 X.1 q0 2 h2 rfl hin hd (k p l e s m args below meth c H locs A ls F X)
theorem g_last {i n : Nat} {x : Int32} {y : Int64} (hd : decode μ.1 pc = .ok (.lastore, 1)) (hq : pc + 1 = q) (ho : g_o Γ i (.inr (2, n))) (hin : vp_in x n) (k : G Γ μ R kn Z q lv st (g_ul M i x.toNatClampNeg y)) : G Γ μ R kn Z pc lv (.long y :: .int x :: .ref i :: st) M := by
  subst hq
  intro p l e s m args below meth c H locs A ls F X
  obtain ⟨hP, hD, hS, hL⟩ := X
  obtain ⟨q0, h1, h2⟩ := g_ws_at (M := M) ho.1
  rw [g_E_arrl ho.2] at h2
  have e1 : (g_ws Γ M).set q0 (Γ.2.2.1 i, .inl (Γ.2.1 2, n, .inr (.inl (vp_updL (M.2 i) x.toNatClampNeg y)))) = g_ws Γ (g_ul M i x.toNatClampNeg y) := g_ws_set hD h1 (by rw [g_E_arrl ho.2, g_ul_at]; rfl) (fun j hj => g_E_ul hj)
  refine va_last F.1 F.2.1 F.2.2.2.2.2.2.2.1 hP hD hS q0 2 h2 rfl hin hd (fun H1 locs1 hP1 hD1 hS1 => ?_)
  rw [e1] at hP1 hD1
  exact k p l e s m args below meth c H1 locs1 A ls F ⟨hP1, hD1, hS1, hL⟩
theorem g_alen {i tc n : Nat} {v : Int32} (hd : decode μ.1 pc = .ok (.arraylength, 1)) (hq : pc + 1 = q) (ho : g_o Γ i (.inr (tc, n))) (htc : tc < 5) (hv : Int32.ofNat n = v) (k : G Γ μ R kn Z q lv (.int v :: st) M) : G Γ μ R kn Z pc lv (.ref i :: st) M := by
  subst hq
  intro p l e s m args below meth c H locs A ls F X
  obtain ⟨q0, h1, h2⟩ := g_ws_at (M := M) ho.1
  have hty : ∃ ty, (g_T Γ)[tc]? = some (Γ.2.1 tc, ty) := by
    rcases (show tc = 0 ∨ tc = 1 ∨ tc = 2 ∨ tc = 3 ∨ tc = 4 by omega) with rfl | rfl | rfl | rfl | rfl <;> exact ⟨_, rfl⟩
  obtain ⟨ty, hty⟩ := hty
  by_cases h5 : tc = 2
  · subst h5
    rw [g_E_arrl ho.2] at h2
    exact va_alen F.1 F.2.1 F.2.2.2.2.2.2.2.1 X.1 q0 2 h2 hty hv hd (k p l e s m args below meth c H locs A ls F X)
  · rw [g_E_arr ho.2 h5] at h2
    exact va_alen F.1 F.2.1 F.2.2.2.2.2.2.2.1 X.1 q0 tc h2 hty hv hd (k p l e s m args below meth c H locs A ls F X)
theorem g_mmax {idx : Nat} {x y : Int32} (hd : decode μ.1 pc = .ok (.invokestatic idx, 3)) (hq : pc + 3 = q) (hl : Cond.methodLink μ.2.1 idx Lib.Math.max.name ∈ g_UW) (h2 : Cond.static Lib.Math.max.name ∈ g_UW) (h3 : Cond.initialized "java/lang/Math" ∈ g_UW) (h4 : Cond.code Lib.Math.max.name Lib.Math.max.code 2 (some .int) ∈ g_UW) (hR : 1 ≤ R.frames ∧ (st.map fun v => v.category).sum + 13 ≤ R.locals) (k : G Γ μ R kn Z q lv (.int (if x < y then y else x) :: st) M) : G Γ μ R kn Z pc lv (.int y :: .int x :: st) M := by
  subst hq
  intro p l e s m args below meth c H locs A ls F X
  have hcat : ((st.map (g_v Γ.2.2.1)).map fun v => v.category) = st.map fun v => v.category := by
    rw [List.map_map]; exact List.map_congr_left fun v _ => g_cat v
  have hT := F.2.2.2.2.2.2.1
  exact va_mmax F.1 F.2.1 (by rw [F.2.2.2.2.1, X.2.2.2.1]) F.2.2.2.2.2.1 (hT _ hl) (hT _ h2) (hT _ h3) (hT _ h4) hR.1 (by rw [hcat]; exact hR.2) F.2.2.2.2.2.2.2.2.2.1 F.2.2.2.2.2.2.2.2.2.2 hd (k p l e s m args below meth c H locs A ls F X)
theorem g_mmin {idx : Nat} {x y : Int32} (hd : decode μ.1 pc = .ok (.invokestatic idx, 3)) (hq : pc + 3 = q) (hl : Cond.methodLink μ.2.1 idx Lib.Math.min.name ∈ g_UW) (h2 : Cond.static Lib.Math.min.name ∈ g_UW) (h3 : Cond.initialized "java/lang/Math" ∈ g_UW) (h4 : Cond.code Lib.Math.min.name Lib.Math.min.code 2 (some .int) ∈ g_UW) (hR : 1 ≤ R.frames ∧ (st.map fun v => v.category).sum + 13 ≤ R.locals) (k : G Γ μ R kn Z q lv (.int (if y < x then y else x) :: st) M) : G Γ μ R kn Z pc lv (.int y :: .int x :: st) M := by
  subst hq
  intro p l e s m args below meth c H locs A ls F X
  have hcat : ((st.map (g_v Γ.2.2.1)).map fun v => v.category) = st.map fun v => v.category := by
    rw [List.map_map]; exact List.map_congr_left fun v _ => g_cat v
  have hT := F.2.2.2.2.2.2.1
  exact va_mmin F.1 F.2.1 (by rw [F.2.2.2.2.1, X.2.2.2.1]) F.2.2.2.2.2.1 (hT _ hl) (hT _ h2) (hT _ h3) (hT _ h4) hR.1 (by rw [hcat]; exact hR.2) F.2.2.2.2.2.2.2.2.2.1 F.2.2.2.2.2.2.2.2.2.2 hd (k p l e s m args below meth c H locs A ls F X)
theorem g_mabs {idx : Nat} {x : Int32} (hd : decode μ.1 pc = .ok (.invokestatic idx, 3)) (hq : pc + 3 = q) (hl : Cond.methodLink μ.2.1 idx Lib.Math.abs.name ∈ g_UW) (h2 : Cond.static Lib.Math.abs.name ∈ g_UW) (h3 : Cond.initialized "java/lang/Math" ∈ g_UW) (h4 : Cond.code Lib.Math.abs.name Lib.Math.abs.code 1 (some .int) ∈ g_UW) (hR : 1 ≤ R.frames ∧ (st.map fun v => v.category).sum + 13 ≤ R.locals) (k : G Γ μ R kn Z q lv (.int (if 0 ≤ x then x else 0 - x) :: st) M) : G Γ μ R kn Z pc lv (.int x :: st) M := by
  subst hq
  intro p l e s m args below meth c H locs A ls F X
  have hcat : ((st.map (g_v Γ.2.2.1)).map fun v => v.category) = st.map fun v => v.category := by
    rw [List.map_map]; exact List.map_congr_left fun v _ => g_cat v
  have hT := F.2.2.2.2.2.2.1
  exact va_mabs F.1 F.2.1 (by rw [F.2.2.2.2.1, X.2.2.2.1]) F.2.2.2.2.2.1 (hT _ hl) (hT _ h2) (hT _ h3) (hT _ h4) hR.1 (by rw [hcat]; exact hR.2) F.2.2.2.2.2.2.2.2.2.1 F.2.2.2.2.2.2.2.2.2.2 hd (k p l e s m args below meth c H locs A ls F X)
end GRows
end
section
def g_qi (P : Int32 → gM → Prop) : Option Value → gM → Prop := fun v M' => ∃ z, v = some (.int z) ∧ P z M'
def g_qv (P : gM → Prop) : Option Value → gM → Prop := fun v M' => v = none ∧ P M'
/-- entry idx of own's pool is the instance method y of class C, with code and all; n arguments -/
def g_VL (own : String) (idx : Nat) (C : String) (y : MethodName) (μ : gY) (n : Nat) : Prop := (∀ w ∈ wsV own idx C y [.code y μ.1 μ.2.2.1 μ.2.2.2], w ∈ g_UW) ∧ (y.cls = C ∧ y.cls ≠ "java/lang/invoke/MethodHandle" ∧ y.cls ≠ "java/lang/invoke/VarHandle" ∧ (parseMethodDescriptor y.desc).map (fun d => d.parameters.length) = some n) ∧ μ.2.2.1 ≤ 31
def g_SL (own : String) (idx : Nat) (y : MethodName) (μ : gY) (n : Nat) : Prop := (∀ w ∈ wsS own idx y [.code y μ.1 μ.2.2.1 μ.2.2.2], w ∈ g_UW) ∧ (y.cls = own ∧ y.cls ≠ "java/lang/invoke/MethodHandle" ∧ y.cls ≠ "java/lang/invoke/VarHandle" ∧ (parseMethodDescriptor y.desc).map (fun d => d.parameters.length) = some n) ∧ μ.2.2.1 ≤ 31
theorem g_goodV {own : String} {idx : Nat} {C : String} {y : MethodName} {x : Cond} (h : ∀ w ∈ wsV own idx C y [x], w ∈ g_UW) : GoodIn g_UW (wsV own idx C y (x :: g_UW)) := by
  refine g_uw_good fun w hw => ?_
  simp only [wsV, List.mem_append, List.mem_cons] at hw h
  rcases hw with hw | rfl | hw
  · exact h w (Or.inl hw)
  · exact h w (Or.inr (Or.inl rfl))
  · exact hw
theorem g_goodS {own : String} {idx : Nat} {y : MethodName} {x : Cond} (h : ∀ w ∈ wsS own idx y [x], w ∈ g_UW) : GoodIn g_UW (wsS own idx y (x :: g_UW)) := by
  refine g_uw_good fun w hw => ?_
  simp only [wsS, List.mem_append, List.mem_cons] at hw h
  rcases hw with hw | rfl | hw
  · exact h w (Or.inl hw)
  · exact h w (Or.inr (Or.inl rfl))
  · exact hw
theorem g_rm {d d' : Nat} (h : d' < d) : d' + 2 ≤ (g_R d).frames ∧ 62 + 50 * d' ≤ (g_R d).locals := by
  constructor
  · show d' + 2 ≤ d + 1; omega
  · show 62 + 50 * d' ≤ 12 + 50 * d; omega
theorem g_lv_args {vs : List Value} (h : ∀ v ∈ vs, v.category = 1) : ∀ (i k : Nat) (v : Value), vs[k]? = some v → (i + k, v) ∈ lv_args i vs := by
  induction vs with
  | nil => intro i k v hk; simp at hk
  | cons a vs ih =>
    intro i k v hk
    have ha : ¬ a.category = 2 := by rw [h a List.mem_cons_self]; decide
    rw [lv_args, if_neg ha]
    cases k with
    | zero => simp at hk; subst hk; exact List.mem_cons_self
    | succ k =>
      simp at hk
      have := ih (fun v hv => h v (List.mem_cons_of_mem _ hv)) (i + 1) k v hk
      rw [show i + (k + 1) = i + 1 + k by omega]
      exact List.mem_cons_of_mem _ this
theorem g_sl_len {vs : List Value} (h : ∀ v ∈ vs, v.category = 1) : (lg_sl vs).length = vs.length := by
  induction vs with
  | nil => rfl
  | cons a vs ih =>
    have ha : ¬ a.category = 2 := by rw [h a List.mem_cons_self]; decide
    have := ih (fun v hv => h v (List.mem_cons_of_mem _ hv))
    simp only [lg_sl, List.flatMap_cons, if_neg ha, List.length_append, List.length_cons, List.length_nil] at this ⊢
    omega
theorem g_enter {Γ : gW} {y : MethodName} {μ : gY} {d : Nat} {av : List Value} {M : gM} {Q : Option Value → gM → Prop} (hy : plainName y.cls = true) (ho : μ.2.1 = y.cls) (hav : av.all (fun v => v.category == 1) = true) (hlen : av.length ≤ μ.2.2.1) (h : G Γ μ (g_R d) (0, 0) (g_Z Γ Q) 0 (av.map some ++ List.replicate (μ.2.2.1 - av.length) none) [] M) : Ct Γ y μ d av M Q := by
  intro l sz
  have hcat : ∀ v ∈ av.map (g_v Γ.2.2.1), v.category = 1 := by
    intro v hv
    obtain ⟨w, hw, rfl⟩ := List.mem_map.mp hv
    rw [g_cat]
    have := List.all_eq_true.mp hav w hw
    simpa using this
  refine Met.ofW (cc := μ.1) (maxL := μ.2.2.1) (ret := μ.2.2.2) hy rfl ?_
  intro p e s m args below meth c s₁ B hml hv
  obtain ⟨rfl, hsz, hP, hK, hD0⟩ := hv
  have hts := atoms_spec (ws := .code y μ.1 μ.2.2.1 μ.2.2.2 :: g_UW) B.pre
  have hl := lv_entry (av.map (g_v Γ.2.2.1)) (n := μ.2.2.1) (by rw [g_sl_len hcat, List.length_map]; exact hlen)
  rw [lg_entry_eq]
  generalize (lg_sl (av.map (g_v Γ.2.2.1)) ++ List.replicate (μ.2.2.1 - (lg_sl (av.map (g_v Γ.2.2.1))).length) Slot.unset).toArray = ls at hl ⊢
  subst hsz
  refine h p l e s m _ below meth c s.heap [] (va_A (g_ws Γ M) s.heap.size) ls ⟨B.exec, B.bytes, B.returns, B.notSynchronized, hml, ?_, fun w hw => hts w (List.mem_cons_of_mem _ hw), hK, fun q hq => Or.inr hq, Nat.zero_le _, Nat.zero_le _⟩ ⟨hP, hD0.self, va_S.rf, hl.1, hl.2.1, ?_, fun k v hk => ?_⟩
  · rw [ho]; exact findClass_of_methodNamed B.named
  · simp; omega
  · have hk2 : av[k]? = some v := by
      by_cases hka : k < av.length
      · rw [List.getElem?_append_left (by simpa using hka)] at hk
        simpa using hk
      · rw [List.getElem?_append_right (by simpa using hka)] at hk
        have := List.eq_of_mem_replicate (List.mem_of_getElem? hk)
        cases this
    have := g_lv_args hcat 0 k (g_v Γ.2.2.1 v) (by simp [hk2])
    rw [Nat.zero_add] at this
    exact hl.2.2 _ this
section GCalls
variable {Γ : gW} {μ : gY} {R : Room} {kn : Nat × Nat} {Z : gZ} {pc q : Nat} {lv : List (Option Value)} {st : List Value} {M : gM}
theorem g_blind {Γ : gW} {av : List Value} {M : gM} {sz : Nat} : FrameBlind (va_Pc (av.map (g_v Γ.2.2.1)) (fun U => U.heap.size = sz ∧ va_P Γ.1 vwCl (g_ws Γ M) U.heap ∧ va_K Γ.1 vwCl (g_T Γ) U ∧ va_D (fun _ => True) (g_ws Γ M))) := fun a U g mk q => by
  obtain ⟨q0, q1, qP, qK, qD⟩ := q
  exact ⟨q0, q1, qP, va_K.moved (u := U) (U := U.calling g mk a) (Vm.Alike.refl U.vm) qK, qD⟩
theorem g_after {p : Program} {l : Launch} {e : Env} {s : State} {m : MethodId} {args : Array Value} {below : List Frame} {meth : Method} {c : Code} {H : Heap} {locs : List Loc} {A : Nat → Prop} {ls : Array Slot} {st0 : List Value} {a : Array Value} {Q : Option Value → gM → Prop}
    (hr : va_Run p l e R s m args below meth c H locs kn.1 kn.2 0 0 (F0 m pc ls st0) (st.map (g_v Γ.2.2.1)) (g_Q Γ Q (va_A (g_ws Γ M) H.size) a) (va_A (g_ws Γ M) H.size)) (F : g_F Γ μ R kn p s m args meth c A) (X : g_X Γ μ s H locs A ls lv M)
    (k : ∀ (v : Option Value) (M' : gM), Q v M' → G Γ μ R kn Z (pc + 3) lv (v.toList ++ st) M') : W p l e R s m args below meth c H locs kn.1 kn.2 (Z below args s A) (F0 m pc ls st0) := by
  intro T hT X0
  obtain ⟨hP, hD, hS, hL⟩ := X
  have hA := F.2.2.2.2.2.2.2.2.1
  obtain ⟨v, st₀, t, T', L, h0, X', hL', e1, e2, ⟨⟨w, M', hv, hq, hb⟩, hz, hk⟩, sg⟩ := hr T hT X0
  rw [h0] at hz hk
  have hfree : ∀ q, va_A (g_ws Γ M) H.size q → A q := fun q hq => by
    rcases hq with ⟨k0, e0, h⟩ | h
    · exact hD.2 k0 _ h
    · exact hA q (Nat.le_trans hS.1 h)
  have hv2 : v = w.map (g_v Γ.2.2.1) := by simpa using hv
  have hS' : va_S A s.heap T'.heap (locs ++ L) := ⟨Nat.le_trans hS.1 (by rw [e1]; exact hz), fun q h1 h2 => by rw [e1, hk q (Nat.lt_of_lt_of_le h1 hS.1) (fun z => h2 (hfree q z))]; exact hS.2.1 q h1 h2, fun q hq => by
      rcases List.mem_append.mp hq with h | h
      · exact hS.2.2 q h
      · exact hfree _ (hL' q h)⟩
  obtain ⟨t2, a1, b1⟩ := k w M' hq p l e s m args below meth c T'.heap (locs ++ L) A ls F ⟨by rw [e1]; exact hb, g_D_any hD, hS', hL⟩ T' rfl X'
  refine ⟨t2, sg t2 ?_, b1⟩
  have hst : (w.toList ++ st).map (g_v Γ.2.2.1) = v.toList ++ st.map (g_v Γ.2.2.1) := by
    rw [List.map_append, hv2]
    cases w <;> rfl
  rw [hst] at a1
  exact a1
theorem g_callV {idx n d' i ci : Nat} {C : String} {y : MethodName} {μ' : gY} {As : List Value} {t : gT} {Q : Option Value → gM → Prop} (hd : decode μ.1 pc = .ok (.invokevirtual idx, 3)) (hv : g_VL μ.2.1 idx C y μ' n) (hn : As.length = n) (ho : g_o Γ i (.inl (ci, t))) (hci : (vwCl[ci]?).map (fun r => r.1) = some C)
    (hc : Ct Γ y μ' d' (.ref i :: As) M Q) (hR : d' + 2 ≤ R.frames ∧ 62 + 50 * d' ≤ R.locals) (hst : (st.map fun v => v.category).sum ≤ 8)
    (k : ∀ (v : Option Value) (M' : gM), Q v M' → G Γ μ R kn Z (pc + 3) lv (v.toList ++ st) M') : G Γ μ R kn Z pc lv (As.reverse ++ .ref i :: st) M := by
  intro p l e s m args below meth c H locs A ls F X
  have hcat : ((st.map (g_v Γ.2.2.1)).map fun v => v.category) = st.map fun v => v.category := by
    rw [List.map_map]; exact List.map_congr_left fun v _ => g_cat v
  obtain ⟨q0, h1, h2⟩ := g_ws_at (M := M) ho.1
  rw [g_E_obj ho.2] at h2
  cases hcl : vwCl[ci]? with
  | none => rw [hcl] at hci; cases hci
  | some r =>
    rw [hcl] at hci
    simp only [Option.map_some, Option.some.injEq] at hci
    subst hci
    refine g_after (Q := Q) (a := (Value.ref (Γ.2.2.1 i) :: As.map (g_v Γ.2.2.1)).toArray) ?_ F X k
    exact va_runV (As := As.map (g_v Γ.2.2.1)) (rest := st.map (g_v Γ.2.2.1)) ⟨F.1, F.2.1, F.2.2.2.2.1, F.2.2.2.2.2.1, F.2.2.2.2.2.2.1⟩ (hc l H.size) (cwV n F.2.2.2.2.2.2.1 (g_goodV hv.1) rfl rfl rfl hv.2.1 ⟨by show d' + 1 + 1 ≤ _; exact hR.1, by show _ + (12 + 50 * d') ≤ _; have := hv.2.2; have := hR.2; omega⟩)
      ⟨g_blind, va_recv F.2.2.2.2.2.2.2.1 X.1 hcl h2, fun U hU hW => ⟨rfl, by rw [hU], by rw [hU]; exact X.1, va_K.moved hW.alike F.2.2.2.2.2.2.2.1, X.2.1.weaken (fun _ _ _ _ => trivial)⟩⟩
      rfl (by rw [List.length_map]; exact hn) X.2.2.2.1 (by show List.map _ _ = _; rw [List.map_append, List.map_cons, List.map_reverse]; rfl) (lv_room (by rw [hcat]; exact hst)) hd ⟨F.2.2.2.2.2.2.2.2.2.1, F.2.2.2.2.2.2.2.2.2.2⟩
theorem g_callS {idx n d' : Nat} {y : MethodName} {μ' : gY} {As : List Value} {Q : Option Value → gM → Prop} (hd : decode μ.1 pc = .ok (.invokestatic idx, 3)) (hv : g_SL μ.2.1 idx y μ' n) (hn : As.length = n)
    (hc : Ct Γ y μ' d' As M Q) (hR : d' + 2 ≤ R.frames ∧ 62 + 50 * d' ≤ R.locals) (hst : (st.map fun v => v.category).sum ≤ 8)
    (k : ∀ (v : Option Value) (M' : gM), Q v M' → G Γ μ R kn Z (pc + 3) lv (v.toList ++ st) M') : G Γ μ R kn Z pc lv (As.reverse ++ st) M := by
  intro p l e s m args below meth c H locs A ls F X
  have hcat : ((st.map (g_v Γ.2.2.1)).map fun v => v.category) = st.map fun v => v.category := by
    rw [List.map_map]; exact List.map_congr_left fun v _ => g_cat v
  refine g_after (Q := Q) (a := (As.map (g_v Γ.2.2.1)).toArray) ?_ F X k
  exact va_runS (As := As.map (g_v Γ.2.2.1)) (rest := st.map (g_v Γ.2.2.1)) ⟨F.1, F.2.1, F.2.2.2.2.1, F.2.2.2.2.2.1, F.2.2.2.2.2.2.1⟩ (hc l H.size) (cwS n F.2.2.2.2.2.2.1 (g_goodS hv.1) rfl rfl rfl hv.2.1 ⟨by show d' + 1 + 1 ≤ _; exact hR.1, by show _ + (12 + 50 * d') ≤ _; have := hv.2.2; have := hR.2; omega⟩)
      ⟨g_blind, fun U hU hW => ⟨rfl, by rw [hU], by rw [hU]; exact X.1, va_K.moved hW.alike F.2.2.2.2.2.2.2.1, X.2.1.weaken (fun _ _ _ _ => trivial)⟩⟩
      rfl (by rw [List.length_map]; exact hn) X.2.2.2.1 (by show List.map _ _ = _; rw [List.map_append, List.map_reverse]) (lv_room (by rw [hcat]; exact hst)) hd ⟨F.2.2.2.2.2.2.2.2.2.1, F.2.2.2.2.2.2.2.2.2.2⟩
theorem g_callVi0 {idx d' i ci : Nat} {C : String} {y : MethodName} {μ' : gY} {t : gT} {P : Int32 → gM → Prop} (hd : decode μ.1 pc = .ok (.invokevirtual idx, 3)) (hq : pc + 3 = q) (hv : g_VL μ.2.1 idx C y μ' 0) (ho : g_o Γ i (.inl (ci, t))) (hci : (vwCl[ci]?).map (fun r => r.1) = some C) (hc : Ct Γ y μ' d' [.ref i] M (g_qi P)) (hR : d' + 2 ≤ R.frames ∧ 62 + 50 * d' ≤ R.locals) (hst : (st.map fun v => v.category).sum ≤ 8) (k : ∀ (z : Int32) (M' : gM), P z M' → G Γ μ R kn Z q lv (.int z :: st) M') : G Γ μ R kn Z pc lv (.ref i :: st) M := by
  subst hq
  exact g_callV (As := []) hd hv rfl ho hci hc hR hst (fun v M' h => by obtain ⟨z, rfl, h⟩ := h; exact k z M' h)
theorem g_callVv0 {idx d' i ci : Nat} {C : String} {y : MethodName} {μ' : gY} {t : gT} {P : gM → Prop} (hd : decode μ.1 pc = .ok (.invokevirtual idx, 3)) (hq : pc + 3 = q) (hv : g_VL μ.2.1 idx C y μ' 0) (ho : g_o Γ i (.inl (ci, t))) (hci : (vwCl[ci]?).map (fun r => r.1) = some C) (hc : Ct Γ y μ' d' [.ref i] M (g_qv P)) (hR : d' + 2 ≤ R.frames ∧ 62 + 50 * d' ≤ R.locals) (hst : (st.map fun v => v.category).sum ≤ 8) (k : ∀ (M' : gM), P M' → G Γ μ R kn Z q lv st M') : G Γ μ R kn Z pc lv (.ref i :: st) M := by
  subst hq
  exact g_callV (As := []) hd hv rfl ho hci hc hR hst (fun v M' h => by obtain ⟨rfl, h⟩ := h; exact k M' h)
theorem g_callVi1 {idx d' i ci : Nat} {C : String} {y : MethodName} {μ' : gY} {v1 : Value} {t : gT} {P : Int32 → gM → Prop} (hd : decode μ.1 pc = .ok (.invokevirtual idx, 3)) (hq : pc + 3 = q) (hv : g_VL μ.2.1 idx C y μ' 1) (ho : g_o Γ i (.inl (ci, t))) (hci : (vwCl[ci]?).map (fun r => r.1) = some C) (hc : Ct Γ y μ' d' [.ref i, v1] M (g_qi P)) (hR : d' + 2 ≤ R.frames ∧ 62 + 50 * d' ≤ R.locals) (hst : (st.map fun v => v.category).sum ≤ 8) (k : ∀ (z : Int32) (M' : gM), P z M' → G Γ μ R kn Z q lv (.int z :: st) M') : G Γ μ R kn Z pc lv (v1 :: .ref i :: st) M := by
  subst hq
  exact g_callV (As := [v1]) hd hv rfl ho hci hc hR hst (fun v M' h => by obtain ⟨z, rfl, h⟩ := h; exact k z M' h)
theorem g_callSi1 {idx d' : Nat} {y : MethodName} {μ' : gY} {v1 : Value} {P : Int32 → gM → Prop} (hd : decode μ.1 pc = .ok (.invokestatic idx, 3)) (hq : pc + 3 = q) (hv : g_SL μ.2.1 idx y μ' 1) (hc : Ct Γ y μ' d' [v1] M (g_qi P)) (hR : d' + 2 ≤ R.frames ∧ 62 + 50 * d' ≤ R.locals) (hst : (st.map fun v => v.category).sum ≤ 8) (k : ∀ (z : Int32) (M' : gM), P z M' → G Γ μ R kn Z q lv (.int z :: st) M') : G Γ μ R kn Z pc lv (v1 :: st) M := by
  subst hq
  exact g_callS (As := [v1]) hd hv rfl hc hR hst (fun v M' h => by obtain ⟨z, rfl, h⟩ := h; exact k z M' h)
theorem g_callVv1 {idx d' i ci : Nat} {C : String} {y : MethodName} {μ' : gY} {v1 : Value} {t : gT} {P : gM → Prop} (hd : decode μ.1 pc = .ok (.invokevirtual idx, 3)) (hq : pc + 3 = q) (hv : g_VL μ.2.1 idx C y μ' 1) (ho : g_o Γ i (.inl (ci, t))) (hci : (vwCl[ci]?).map (fun r => r.1) = some C) (hc : Ct Γ y μ' d' [.ref i, v1] M (g_qv P)) (hR : d' + 2 ≤ R.frames ∧ 62 + 50 * d' ≤ R.locals) (hst : (st.map fun v => v.category).sum ≤ 8) (k : ∀ (M' : gM), P M' → G Γ μ R kn Z q lv st M') : G Γ μ R kn Z pc lv (v1 :: .ref i :: st) M := by
  subst hq
  exact g_callV (As := [v1]) hd hv rfl ho hci hc hR hst (fun v M' h => by obtain ⟨rfl, h⟩ := h; exact k M' h)
theorem g_callSv1 {idx d' : Nat} {y : MethodName} {μ' : gY} {v1 : Value} {P : gM → Prop} (hd : decode μ.1 pc = .ok (.invokestatic idx, 3)) (hq : pc + 3 = q) (hv : g_SL μ.2.1 idx y μ' 1) (hc : Ct Γ y μ' d' [v1] M (g_qv P)) (hR : d' + 2 ≤ R.frames ∧ 62 + 50 * d' ≤ R.locals) (hst : (st.map fun v => v.category).sum ≤ 8) (k : ∀ (M' : gM), P M' → G Γ μ R kn Z q lv st M') : G Γ μ R kn Z pc lv (v1 :: st) M := by
  subst hq
  exact g_callS (As := [v1]) hd hv rfl hc hR hst (fun v M' h => by obtain ⟨rfl, h⟩ := h; exact k M' h)
theorem g_callVi2 {idx d' i ci : Nat} {C : String} {y : MethodName} {μ' : gY} {v1 v2 : Value} {t : gT} {P : Int32 → gM → Prop} (hd : decode μ.1 pc = .ok (.invokevirtual idx, 3)) (hq : pc + 3 = q) (hv : g_VL μ.2.1 idx C y μ' 2) (ho : g_o Γ i (.inl (ci, t))) (hci : (vwCl[ci]?).map (fun r => r.1) = some C) (hc : Ct Γ y μ' d' [.ref i, v1, v2] M (g_qi P)) (hR : d' + 2 ≤ R.frames ∧ 62 + 50 * d' ≤ R.locals) (hst : (st.map fun v => v.category).sum ≤ 8) (k : ∀ (z : Int32) (M' : gM), P z M' → G Γ μ R kn Z q lv (.int z :: st) M') : G Γ μ R kn Z pc lv (v2 :: v1 :: .ref i :: st) M := by
  subst hq
  exact g_callV (As := [v1, v2]) hd hv rfl ho hci hc hR hst (fun v M' h => by obtain ⟨z, rfl, h⟩ := h; exact k z M' h)
theorem g_callSi2 {idx d' : Nat} {y : MethodName} {μ' : gY} {v1 v2 : Value} {P : Int32 → gM → Prop} (hd : decode μ.1 pc = .ok (.invokestatic idx, 3)) (hq : pc + 3 = q) (hv : g_SL μ.2.1 idx y μ' 2) (hc : Ct Γ y μ' d' [v1, v2] M (g_qi P)) (hR : d' + 2 ≤ R.frames ∧ 62 + 50 * d' ≤ R.locals) (hst : (st.map fun v => v.category).sum ≤ 8) (k : ∀ (z : Int32) (M' : gM), P z M' → G Γ μ R kn Z q lv (.int z :: st) M') : G Γ μ R kn Z pc lv (v2 :: v1 :: st) M := by
  subst hq
  exact g_callS (As := [v1, v2]) hd hv rfl hc hR hst (fun v M' h => by obtain ⟨z, rfl, h⟩ := h; exact k z M' h)
theorem g_callVv2 {idx d' i ci : Nat} {C : String} {y : MethodName} {μ' : gY} {v1 v2 : Value} {t : gT} {P : gM → Prop} (hd : decode μ.1 pc = .ok (.invokevirtual idx, 3)) (hq : pc + 3 = q) (hv : g_VL μ.2.1 idx C y μ' 2) (ho : g_o Γ i (.inl (ci, t))) (hci : (vwCl[ci]?).map (fun r => r.1) = some C) (hc : Ct Γ y μ' d' [.ref i, v1, v2] M (g_qv P)) (hR : d' + 2 ≤ R.frames ∧ 62 + 50 * d' ≤ R.locals) (hst : (st.map fun v => v.category).sum ≤ 8) (k : ∀ (M' : gM), P M' → G Γ μ R kn Z q lv st M') : G Γ μ R kn Z pc lv (v2 :: v1 :: .ref i :: st) M := by
  subst hq
  exact g_callV (As := [v1, v2]) hd hv rfl ho hci hc hR hst (fun v M' h => by obtain ⟨rfl, h⟩ := h; exact k M' h)
theorem g_callSv2 {idx d' : Nat} {y : MethodName} {μ' : gY} {v1 v2 : Value} {P : gM → Prop} (hd : decode μ.1 pc = .ok (.invokestatic idx, 3)) (hq : pc + 3 = q) (hv : g_SL μ.2.1 idx y μ' 2) (hc : Ct Γ y μ' d' [v1, v2] M (g_qv P)) (hR : d' + 2 ≤ R.frames ∧ 62 + 50 * d' ≤ R.locals) (hst : (st.map fun v => v.category).sum ≤ 8) (k : ∀ (M' : gM), P M' → G Γ μ R kn Z q lv st M') : G Γ μ R kn Z pc lv (v2 :: v1 :: st) M := by
  subst hq
  exact g_callS (As := [v1, v2]) hd hv rfl hc hR hst (fun v M' h => by obtain ⟨rfl, h⟩ := h; exact k M' h)
theorem g_callVi3 {idx d' i ci : Nat} {C : String} {y : MethodName} {μ' : gY} {v1 v2 v3 : Value} {t : gT} {P : Int32 → gM → Prop} (hd : decode μ.1 pc = .ok (.invokevirtual idx, 3)) (hq : pc + 3 = q) (hv : g_VL μ.2.1 idx C y μ' 3) (ho : g_o Γ i (.inl (ci, t))) (hci : (vwCl[ci]?).map (fun r => r.1) = some C) (hc : Ct Γ y μ' d' [.ref i, v1, v2, v3] M (g_qi P)) (hR : d' + 2 ≤ R.frames ∧ 62 + 50 * d' ≤ R.locals) (hst : (st.map fun v => v.category).sum ≤ 8) (k : ∀ (z : Int32) (M' : gM), P z M' → G Γ μ R kn Z q lv (.int z :: st) M') : G Γ μ R kn Z pc lv (v3 :: v2 :: v1 :: .ref i :: st) M := by
  subst hq
  exact g_callV (As := [v1, v2, v3]) hd hv rfl ho hci hc hR hst (fun v M' h => by obtain ⟨z, rfl, h⟩ := h; exact k z M' h)
theorem g_callSi3 {idx d' : Nat} {y : MethodName} {μ' : gY} {v1 v2 v3 : Value} {P : Int32 → gM → Prop} (hd : decode μ.1 pc = .ok (.invokestatic idx, 3)) (hq : pc + 3 = q) (hv : g_SL μ.2.1 idx y μ' 3) (hc : Ct Γ y μ' d' [v1, v2, v3] M (g_qi P)) (hR : d' + 2 ≤ R.frames ∧ 62 + 50 * d' ≤ R.locals) (hst : (st.map fun v => v.category).sum ≤ 8) (k : ∀ (z : Int32) (M' : gM), P z M' → G Γ μ R kn Z q lv (.int z :: st) M') : G Γ μ R kn Z pc lv (v3 :: v2 :: v1 :: st) M := by
  subst hq
  exact g_callS (As := [v1, v2, v3]) hd hv rfl hc hR hst (fun v M' h => by obtain ⟨z, rfl, h⟩ := h; exact k z M' h)
theorem g_callVv3 {idx d' i ci : Nat} {C : String} {y : MethodName} {μ' : gY} {v1 v2 v3 : Value} {t : gT} {P : gM → Prop} (hd : decode μ.1 pc = .ok (.invokevirtual idx, 3)) (hq : pc + 3 = q) (hv : g_VL μ.2.1 idx C y μ' 3) (ho : g_o Γ i (.inl (ci, t))) (hci : (vwCl[ci]?).map (fun r => r.1) = some C) (hc : Ct Γ y μ' d' [.ref i, v1, v2, v3] M (g_qv P)) (hR : d' + 2 ≤ R.frames ∧ 62 + 50 * d' ≤ R.locals) (hst : (st.map fun v => v.category).sum ≤ 8) (k : ∀ (M' : gM), P M' → G Γ μ R kn Z q lv st M') : G Γ μ R kn Z pc lv (v3 :: v2 :: v1 :: .ref i :: st) M := by
  subst hq
  exact g_callV (As := [v1, v2, v3]) hd hv rfl ho hci hc hR hst (fun v M' h => by obtain ⟨rfl, h⟩ := h; exact k M' h)
theorem g_callSv3 {idx d' : Nat} {y : MethodName} {μ' : gY} {v1 v2 v3 : Value} {P : gM → Prop} (hd : decode μ.1 pc = .ok (.invokestatic idx, 3)) (hq : pc + 3 = q) (hv : g_SL μ.2.1 idx y μ' 3) (hc : Ct Γ y μ' d' [v1, v2, v3] M (g_qv P)) (hR : d' + 2 ≤ R.frames ∧ 62 + 50 * d' ≤ R.locals) (hst : (st.map fun v => v.category).sum ≤ 8) (k : ∀ (M' : gM), P M' → G Γ μ R kn Z q lv st M') : G Γ μ R kn Z pc lv (v3 :: v2 :: v1 :: st) M := by
  subst hq
  exact g_callS (As := [v1, v2, v3]) hd hv rfl hc hR hst (fun v M' h => by obtain ⟨rfl, h⟩ := h; exact k M' h)
theorem g_callVi4 {idx d' i ci : Nat} {C : String} {y : MethodName} {μ' : gY} {v1 v2 v3 v4 : Value} {t : gT} {P : Int32 → gM → Prop} (hd : decode μ.1 pc = .ok (.invokevirtual idx, 3)) (hq : pc + 3 = q) (hv : g_VL μ.2.1 idx C y μ' 4) (ho : g_o Γ i (.inl (ci, t))) (hci : (vwCl[ci]?).map (fun r => r.1) = some C) (hc : Ct Γ y μ' d' [.ref i, v1, v2, v3, v4] M (g_qi P)) (hR : d' + 2 ≤ R.frames ∧ 62 + 50 * d' ≤ R.locals) (hst : (st.map fun v => v.category).sum ≤ 8) (k : ∀ (z : Int32) (M' : gM), P z M' → G Γ μ R kn Z q lv (.int z :: st) M') : G Γ μ R kn Z pc lv (v4 :: v3 :: v2 :: v1 :: .ref i :: st) M := by
  subst hq
  exact g_callV (As := [v1, v2, v3, v4]) hd hv rfl ho hci hc hR hst (fun v M' h => by obtain ⟨z, rfl, h⟩ := h; exact k z M' h)
theorem g_callSi4 {idx d' : Nat} {y : MethodName} {μ' : gY} {v1 v2 v3 v4 : Value} {P : Int32 → gM → Prop} (hd : decode μ.1 pc = .ok (.invokestatic idx, 3)) (hq : pc + 3 = q) (hv : g_SL μ.2.1 idx y μ' 4) (hc : Ct Γ y μ' d' [v1, v2, v3, v4] M (g_qi P)) (hR : d' + 2 ≤ R.frames ∧ 62 + 50 * d' ≤ R.locals) (hst : (st.map fun v => v.category).sum ≤ 8) (k : ∀ (z : Int32) (M' : gM), P z M' → G Γ μ R kn Z q lv (.int z :: st) M') : G Γ μ R kn Z pc lv (v4 :: v3 :: v2 :: v1 :: st) M := by
  subst hq
  exact g_callS (As := [v1, v2, v3, v4]) hd hv rfl hc hR hst (fun v M' h => by obtain ⟨z, rfl, h⟩ := h; exact k z M' h)
theorem g_callVv4 {idx d' i ci : Nat} {C : String} {y : MethodName} {μ' : gY} {v1 v2 v3 v4 : Value} {t : gT} {P : gM → Prop} (hd : decode μ.1 pc = .ok (.invokevirtual idx, 3)) (hq : pc + 3 = q) (hv : g_VL μ.2.1 idx C y μ' 4) (ho : g_o Γ i (.inl (ci, t))) (hci : (vwCl[ci]?).map (fun r => r.1) = some C) (hc : Ct Γ y μ' d' [.ref i, v1, v2, v3, v4] M (g_qv P)) (hR : d' + 2 ≤ R.frames ∧ 62 + 50 * d' ≤ R.locals) (hst : (st.map fun v => v.category).sum ≤ 8) (k : ∀ (M' : gM), P M' → G Γ μ R kn Z q lv st M') : G Γ μ R kn Z pc lv (v4 :: v3 :: v2 :: v1 :: .ref i :: st) M := by
  subst hq
  exact g_callV (As := [v1, v2, v3, v4]) hd hv rfl ho hci hc hR hst (fun v M' h => by obtain ⟨rfl, h⟩ := h; exact k M' h)
theorem g_callSv4 {idx d' : Nat} {y : MethodName} {μ' : gY} {v1 v2 v3 v4 : Value} {P : gM → Prop} (hd : decode μ.1 pc = .ok (.invokestatic idx, 3)) (hq : pc + 3 = q) (hv : g_SL μ.2.1 idx y μ' 4) (hc : Ct Γ y μ' d' [v1, v2, v3, v4] M (g_qv P)) (hR : d' + 2 ≤ R.frames ∧ 62 + 50 * d' ≤ R.locals) (hst : (st.map fun v => v.category).sum ≤ 8) (k : ∀ (M' : gM), P M' → G Γ μ R kn Z q lv st M') : G Γ μ R kn Z pc lv (v4 :: v3 :: v2 :: v1 :: st) M := by
  subst hq
  exact g_callS (As := [v1, v2, v3, v4]) hd hv rfl hc hR hst (fun v M' h => by obtain ⟨rfl, h⟩ := h; exact k M' h)
theorem g_callVi5 {idx d' i ci : Nat} {C : String} {y : MethodName} {μ' : gY} {v1 v2 v3 v4 v5 : Value} {t : gT} {P : Int32 → gM → Prop} (hd : decode μ.1 pc = .ok (.invokevirtual idx, 3)) (hq : pc + 3 = q) (hv : g_VL μ.2.1 idx C y μ' 5) (ho : g_o Γ i (.inl (ci, t))) (hci : (vwCl[ci]?).map (fun r => r.1) = some C) (hc : Ct Γ y μ' d' [.ref i, v1, v2, v3, v4, v5] M (g_qi P)) (hR : d' + 2 ≤ R.frames ∧ 62 + 50 * d' ≤ R.locals) (hst : (st.map fun v => v.category).sum ≤ 8) (k : ∀ (z : Int32) (M' : gM), P z M' → G Γ μ R kn Z q lv (.int z :: st) M') : G Γ μ R kn Z pc lv (v5 :: v4 :: v3 :: v2 :: v1 :: .ref i :: st) M := by
  subst hq
  exact g_callV (As := [v1, v2, v3, v4, v5]) hd hv rfl ho hci hc hR hst (fun v M' h => by obtain ⟨z, rfl, h⟩ := h; exact k z M' h)
theorem g_callSi5 {idx d' : Nat} {y : MethodName} {μ' : gY} {v1 v2 v3 v4 v5 : Value} {P : Int32 → gM → Prop} (hd : decode μ.1 pc = .ok (.invokestatic idx, 3)) (hq : pc + 3 = q) (hv : g_SL μ.2.1 idx y μ' 5) (hc : Ct Γ y μ' d' [v1, v2, v3, v4, v5] M (g_qi P)) (hR : d' + 2 ≤ R.frames ∧ 62 + 50 * d' ≤ R.locals) (hst : (st.map fun v => v.category).sum ≤ 8) (k : ∀ (z : Int32) (M' : gM), P z M' → G Γ μ R kn Z q lv (.int z :: st) M') : G Γ μ R kn Z pc lv (v5 :: v4 :: v3 :: v2 :: v1 :: st) M := by
  subst hq
  exact g_callS (As := [v1, v2, v3, v4, v5]) hd hv rfl hc hR hst (fun v M' h => by obtain ⟨z, rfl, h⟩ := h; exact k z M' h)
theorem g_callVv5 {idx d' i ci : Nat} {C : String} {y : MethodName} {μ' : gY} {v1 v2 v3 v4 v5 : Value} {t : gT} {P : gM → Prop} (hd : decode μ.1 pc = .ok (.invokevirtual idx, 3)) (hq : pc + 3 = q) (hv : g_VL μ.2.1 idx C y μ' 5) (ho : g_o Γ i (.inl (ci, t))) (hci : (vwCl[ci]?).map (fun r => r.1) = some C) (hc : Ct Γ y μ' d' [.ref i, v1, v2, v3, v4, v5] M (g_qv P)) (hR : d' + 2 ≤ R.frames ∧ 62 + 50 * d' ≤ R.locals) (hst : (st.map fun v => v.category).sum ≤ 8) (k : ∀ (M' : gM), P M' → G Γ μ R kn Z q lv st M') : G Γ μ R kn Z pc lv (v5 :: v4 :: v3 :: v2 :: v1 :: .ref i :: st) M := by
  subst hq
  exact g_callV (As := [v1, v2, v3, v4, v5]) hd hv rfl ho hci hc hR hst (fun v M' h => by obtain ⟨rfl, h⟩ := h; exact k M' h)
theorem g_callSv5 {idx d' : Nat} {y : MethodName} {μ' : gY} {v1 v2 v3 v4 v5 : Value} {P : gM → Prop} (hd : decode μ.1 pc = .ok (.invokestatic idx, 3)) (hq : pc + 3 = q) (hv : g_SL μ.2.1 idx y μ' 5) (hc : Ct Γ y μ' d' [v1, v2, v3, v4, v5] M (g_qv P)) (hR : d' + 2 ≤ R.frames ∧ 62 + 50 * d' ≤ R.locals) (hst : (st.map fun v => v.category).sum ≤ 8) (k : ∀ (M' : gM), P M' → G Γ μ R kn Z q lv st M') : G Γ μ R kn Z pc lv (v5 :: v4 :: v3 :: v2 :: v1 :: st) M := by
  subst hq
  exact g_callS (As := [v1, v2, v3, v4, v5]) hd hv rfl hc hR hst (fun v M' h => by obtain ⟨rfl, h⟩ := h; exact k M' h)
end GCalls
end
