section
-- ===== PART A: goes FIRST, ahead of the names: the tables' words, and 'selects' of the private methods out of them =====
/-- a private method of a class that the tables say can be made, by its rows of tables_1 -/
def lw_okq (q : MethodName × Nat) : Prop := (q.1.cls ≠ "java/lang/invoke/MethodHandle" ∧ q.1.cls ≠ "java/lang/invoke/VarHandle") ∧ Cond.instantiable q.1.cls q.2 ∈ tables_1 ∧ Cond.privateMethod q.1 ∈ tables_1 ∧ Cond.instanceMethod q.1 ∈ tables_1
theorem lw_p0 : lw_okq (⟨"MittenLine", "runText", "()I"⟩, 9) := ⟨⟨by decide +kernel, by decide +kernel⟩, List.mem_of_getElem? (i := 13) (by decide +kernel), List.mem_of_getElem? (i := 296) (by decide +kernel), List.mem_of_getElem? (i := 297) (by decide +kernel)⟩
theorem lw_p1 : lw_okq (⟨"MittenLine$Row", "whyNotStep", "(II)I"⟩, 7) := ⟨⟨by decide +kernel, by decide +kernel⟩, List.mem_of_getElem? (i := 21) (by decide +kernel), List.mem_of_getElem? (i := 324) (by decide +kernel), List.mem_of_getElem? (i := 325) (by decide +kernel)⟩
theorem lw_p2 : lw_okq (⟨"MittenLine$Row", "planStep", "(II)I"⟩, 7) := ⟨⟨by decide +kernel, by decide +kernel⟩, List.mem_of_getElem? (i := 21) (by decide +kernel), List.mem_of_getElem? (i := 329) (by decide +kernel), List.mem_of_getElem? (i := 330) (by decide +kernel)⟩
theorem lw_p3 : lw_okq (⟨"MittenLine$Row", "planDraw", "(III)Z"⟩, 7) := ⟨⟨by decide +kernel, by decide +kernel⟩, List.mem_of_getElem? (i := 21) (by decide +kernel), List.mem_of_getElem? (i := 333) (by decide +kernel), List.mem_of_getElem? (i := 334) (by decide +kernel)⟩
theorem lw_p4 : lw_okq (⟨"MittenLine$Row", "whyNotLetOut", "(I)I"⟩, 7) := ⟨⟨by decide +kernel, by decide +kernel⟩, List.mem_of_getElem? (i := 21) (by decide +kernel), List.mem_of_getElem? (i := 337) (by decide +kernel), List.mem_of_getElem? (i := 338) (by decide +kernel)⟩
theorem lw_p5 : lw_okq (⟨"MittenLine$Row", "whyNotWind", "(I)I"⟩, 7) := ⟨⟨by decide +kernel, by decide +kernel⟩, List.mem_of_getElem? (i := 21) (by decide +kernel), List.mem_of_getElem? (i := 341) (by decide +kernel), List.mem_of_getElem? (i := 342) (by decide +kernel)⟩
theorem lw_p6 : lw_okq (⟨"MittenLine$Row", "step", "(II)I"⟩, 7) := ⟨⟨by decide +kernel, by decide +kernel⟩, List.mem_of_getElem? (i := 21) (by decide +kernel), List.mem_of_getElem? (i := 354) (by decide +kernel), List.mem_of_getElem? (i := 355) (by decide +kernel)⟩
theorem lw_p7 : lw_okq (⟨"MittenLine$Row", "squeeze", "(II)V"⟩, 7) := ⟨⟨by decide +kernel, by decide +kernel⟩, List.mem_of_getElem? (i := 21) (by decide +kernel), List.mem_of_getElem? (i := 359) (by decide +kernel), List.mem_of_getElem? (i := 360) (by decide +kernel)⟩
theorem lw_p8 : lw_okq (⟨"MittenLine$Row", "lossBy", "(I)I"⟩, 7) := ⟨⟨by decide +kernel, by decide +kernel⟩, List.mem_of_getElem? (i := 21) (by decide +kernel), List.mem_of_getElem? (i := 363) (by decide +kernel), List.mem_of_getElem? (i := 364) (by decide +kernel)⟩
theorem lw_p9 : lw_okq (⟨"MittenLine$Row", "feelMore", "(II)V"⟩, 7) := ⟨⟨by decide +kernel, by decide +kernel⟩, List.mem_of_getElem? (i := 21) (by decide +kernel), List.mem_of_getElem? (i := 367) (by decide +kernel), List.mem_of_getElem? (i := 368) (by decide +kernel)⟩
theorem lw_p10 : lw_okq (⟨"MittenLine$Row", "letOut", "(I)V"⟩, 7) := ⟨⟨by decide +kernel, by decide +kernel⟩, List.mem_of_getElem? (i := 21) (by decide +kernel), List.mem_of_getElem? (i := 374) (by decide +kernel), List.mem_of_getElem? (i := 375) (by decide +kernel)⟩
theorem lw_p11 : lw_okq (⟨"MittenLine$Row", "windIn", "(I)V"⟩, 7) := ⟨⟨by decide +kernel, by decide +kernel⟩, List.mem_of_getElem? (i := 21) (by decide +kernel), List.mem_of_getElem? (i := 378) (by decide +kernel), List.mem_of_getElem? (i := 379) (by decide +kernel)⟩
theorem lw_p12 : lw_okq (⟨"MittenLine$Row", "nextDay", "()V"⟩, 7) := ⟨⟨by decide +kernel, by decide +kernel⟩, List.mem_of_getElem? (i := 21) (by decide +kernel), List.mem_of_getElem? (i := 382) (by decide +kernel), List.mem_of_getElem? (i := 383) (by decide +kernel)⟩
theorem lw_p13 : lw_okq (⟨"MittenLine$Puzzles", "timeOfParts", "(IIZ)I"⟩, 6) := ⟨⟨by decide +kernel, by decide +kernel⟩, List.mem_of_getElem? (i := 154) (by decide +kernel), List.mem_of_getElem? (i := 444) (by decide +kernel), List.mem_of_getElem? (i := 445) (by decide +kernel)⟩
theorem lw_p14 : lw_okq (⟨"MittenLine$Puzzles", "standsBefore", "(II)Z"⟩, 6) := ⟨⟨by decide +kernel, by decide +kernel⟩, List.mem_of_getElem? (i := 154) (by decide +kernel), List.mem_of_getElem? (i := 465) (by decide +kernel), List.mem_of_getElem? (i := 466) (by decide +kernel)⟩
theorem lw_p15 : lw_okq (⟨"MittenLine$Guess", "mostAlike", "(LMittenLine$Sights;I)I"⟩, 3) := ⟨⟨by decide +kernel, by decide +kernel⟩, List.mem_of_getElem? (i := 136) (by decide +kernel), List.mem_of_getElem? (i := 522) (by decide +kernel), List.mem_of_getElem? (i := 523) (by decide +kernel)⟩
def lw_privs_1 : List (MethodName × Nat) := [(⟨"MittenLine", "runText", "()I"⟩, 9), (⟨"MittenLine$Row", "whyNotStep", "(II)I"⟩, 7), (⟨"MittenLine$Row", "planStep", "(II)I"⟩, 7), (⟨"MittenLine$Row", "planDraw", "(III)Z"⟩, 7), (⟨"MittenLine$Row", "whyNotLetOut", "(I)I"⟩, 7), (⟨"MittenLine$Row", "whyNotWind", "(I)I"⟩, 7), (⟨"MittenLine$Row", "step", "(II)I"⟩, 7), (⟨"MittenLine$Row", "squeeze", "(II)V"⟩, 7), (⟨"MittenLine$Row", "lossBy", "(I)I"⟩, 7), (⟨"MittenLine$Row", "feelMore", "(II)V"⟩, 7), (⟨"MittenLine$Row", "letOut", "(I)V"⟩, 7), (⟨"MittenLine$Row", "windIn", "(I)V"⟩, 7), (⟨"MittenLine$Row", "nextDay", "()V"⟩, 7), (⟨"MittenLine$Puzzles", "timeOfParts", "(IIZ)I"⟩, 6), (⟨"MittenLine$Puzzles", "standsBefore", "(II)Z"⟩, 6), (⟨"MittenLine$Guess", "mostAlike", "(LMittenLine$Sights;I)I"⟩, 3)]
theorem lw_r1 : ∀ q ∈ lw_privs_1, lw_okq q := List.forall_mem_cons.mpr ⟨lw_p0, List.forall_mem_cons.mpr ⟨lw_p1, List.forall_mem_cons.mpr ⟨lw_p2, List.forall_mem_cons.mpr ⟨lw_p3, List.forall_mem_cons.mpr ⟨lw_p4, List.forall_mem_cons.mpr ⟨lw_p5, List.forall_mem_cons.mpr ⟨lw_p6, List.forall_mem_cons.mpr ⟨lw_p7, List.forall_mem_cons.mpr ⟨lw_p8, List.forall_mem_cons.mpr ⟨lw_p9, List.forall_mem_cons.mpr ⟨lw_p10, List.forall_mem_cons.mpr ⟨lw_p11, List.forall_mem_cons.mpr ⟨lw_p12, List.forall_mem_cons.mpr ⟨lw_p13, List.forall_mem_cons.mpr ⟨lw_p14, List.forall_mem_cons.mpr ⟨lw_p15, fun _ h => absurd h List.not_mem_nil⟩⟩⟩⟩⟩⟩⟩⟩⟩⟩⟩⟩⟩⟩⟩⟩
theorem lw_p16 : lw_okq (⟨"MittenLine", "runYear", "(II)I"⟩, 9) := ⟨⟨by decide +kernel, by decide +kernel⟩, List.mem_of_getElem? (i := 13) (by decide +kernel), List.mem_of_getElem? (i := 556) (by decide +kernel), List.mem_of_getElem? (i := 557) (by decide +kernel)⟩
theorem lw_p17 : lw_okq (⟨"MittenLine", "imageAt", "(I)LMittenLine$Image;"⟩, 9) := ⟨⟨by decide +kernel, by decide +kernel⟩, List.mem_of_getElem? (i := 13) (by decide +kernel), List.mem_of_getElem? (i := 571) (by decide +kernel), List.mem_of_getElem? (i := 572) (by decide +kernel)⟩
theorem lw_p18 : lw_okq (⟨"MittenLine", "toldOfOne", "(I)I"⟩, 9) := ⟨⟨by decide +kernel, by decide +kernel⟩, List.mem_of_getElem? (i := 13) (by decide +kernel), List.mem_of_getElem? (i := 596) (by decide +kernel), List.mem_of_getElem? (i := 597) (by decide +kernel)⟩
theorem lw_p19 : lw_okq (⟨"MittenLineModel", "isReached", "(II)Z"⟩, 37) := ⟨⟨by decide +kernel, by decide +kernel⟩, List.mem_of_getElem? (i := 600) (by decide +kernel), List.mem_of_getElem? (i := 731) (by decide +kernel), List.mem_of_getElem? (i := 732) (by decide +kernel)⟩
theorem lw_p20 : lw_okq (⟨"MittenLineModel", "readOn", "(II)I"⟩, 37) := ⟨⟨by decide +kernel, by decide +kernel⟩, List.mem_of_getElem? (i := 600) (by decide +kernel), List.mem_of_getElem? (i := 762) (by decide +kernel), List.mem_of_getElem? (i := 763) (by decide +kernel)⟩
theorem lw_p21 : lw_okq (⟨"MittenLineModel", "begin", "(I)I"⟩, 37) := ⟨⟨by decide +kernel, by decide +kernel⟩, List.mem_of_getElem? (i := 600) (by decide +kernel), List.mem_of_getElem? (i := 766) (by decide +kernel), List.mem_of_getElem? (i := 767) (by decide +kernel)⟩
theorem lw_p22 : lw_okq (⟨"MittenLineModel", "close", "(I)I"⟩, 37) := ⟨⟨by decide +kernel, by decide +kernel⟩, List.mem_of_getElem? (i := 600) (by decide +kernel), List.mem_of_getElem? (i := 772) (by decide +kernel), List.mem_of_getElem? (i := 773) (by decide +kernel)⟩
theorem lw_p23 : lw_okq (⟨"MittenLineModel", "deed", "(I)I"⟩, 37) := ⟨⟨by decide +kernel, by decide +kernel⟩, List.mem_of_getElem? (i := 600) (by decide +kernel), List.mem_of_getElem? (i := 776) (by decide +kernel), List.mem_of_getElem? (i := 777) (by decide +kernel)⟩
theorem lw_p24 : lw_okq (⟨"MittenLineModel", "digit", "(II)I"⟩, 37) := ⟨⟨by decide +kernel, by decide +kernel⟩, List.mem_of_getElem? (i := 600) (by decide +kernel), List.mem_of_getElem? (i := 780) (by decide +kernel), List.mem_of_getElem? (i := 781) (by decide +kernel)⟩
theorem lw_p25 : lw_okq (⟨"MittenLineModel", "refusal", "()I"⟩, 37) := ⟨⟨by decide +kernel, by decide +kernel⟩, List.mem_of_getElem? (i := 600) (by decide +kernel), List.mem_of_getElem? (i := 791) (by decide +kernel), List.mem_of_getElem? (i := 792) (by decide +kernel)⟩
theorem lw_p26 : lw_okq (⟨"MittenLineModel", "keepNow", "()V"⟩, 37) := ⟨⟨by decide +kernel, by decide +kernel⟩, List.mem_of_getElem? (i := 600) (by decide +kernel), List.mem_of_getElem? (i := 795) (by decide +kernel), List.mem_of_getElem? (i := 796) (by decide +kernel)⟩
theorem lw_p27 : lw_okq (⟨"MittenLineModel", "goDays", "()V"⟩, 37) := ⟨⟨by decide +kernel, by decide +kernel⟩, List.mem_of_getElem? (i := 600) (by decide +kernel), List.mem_of_getElem? (i := 800) (by decide +kernel), List.mem_of_getElem? (i := 801) (by decide +kernel)⟩
theorem lw_p28 : lw_okq (⟨"MittenLineModel", "whyNot", "(III)I"⟩, 37) := ⟨⟨by decide +kernel, by decide +kernel⟩, List.mem_of_getElem? (i := 600) (by decide +kernel), List.mem_of_getElem? (i := 804) (by decide +kernel), List.mem_of_getElem? (i := 805) (by decide +kernel)⟩
theorem lw_p29 : lw_okq (⟨"MittenLineModel", "whyNotGo", "(II)I"⟩, 37) := ⟨⟨by decide +kernel, by decide +kernel⟩, List.mem_of_getElem? (i := 600) (by decide +kernel), List.mem_of_getElem? (i := 808) (by decide +kernel), List.mem_of_getElem? (i := 809) (by decide +kernel)⟩
theorem lw_p30 : lw_okq (⟨"MittenLineModel", "findThen", "(II)V"⟩, 37) := ⟨⟨by decide +kernel, by decide +kernel⟩, List.mem_of_getElem? (i := 600) (by decide +kernel), List.mem_of_getElem? (i := 812) (by decide +kernel), List.mem_of_getElem? (i := 813) (by decide +kernel)⟩
theorem lw_p31 : lw_okq (⟨"MittenLineModel", "draws", "(III)Z"⟩, 37) := ⟨⟨by decide +kernel, by decide +kernel⟩, List.mem_of_getElem? (i := 600) (by decide +kernel), List.mem_of_getElem? (i := 816) (by decide +kernel), List.mem_of_getElem? (i := 817) (by decide +kernel)⟩
def lw_privs_2 : List (MethodName × Nat) := [(⟨"MittenLine", "runYear", "(II)I"⟩, 9), (⟨"MittenLine", "imageAt", "(I)LMittenLine$Image;"⟩, 9), (⟨"MittenLine", "toldOfOne", "(I)I"⟩, 9), (⟨"MittenLineModel", "isReached", "(II)Z"⟩, 37), (⟨"MittenLineModel", "readOn", "(II)I"⟩, 37), (⟨"MittenLineModel", "begin", "(I)I"⟩, 37), (⟨"MittenLineModel", "close", "(I)I"⟩, 37), (⟨"MittenLineModel", "deed", "(I)I"⟩, 37), (⟨"MittenLineModel", "digit", "(II)I"⟩, 37), (⟨"MittenLineModel", "refusal", "()I"⟩, 37), (⟨"MittenLineModel", "keepNow", "()V"⟩, 37), (⟨"MittenLineModel", "goDays", "()V"⟩, 37), (⟨"MittenLineModel", "whyNot", "(III)I"⟩, 37), (⟨"MittenLineModel", "whyNotGo", "(II)I"⟩, 37), (⟨"MittenLineModel", "findThen", "(II)V"⟩, 37), (⟨"MittenLineModel", "draws", "(III)Z"⟩, 37)]
theorem lw_r2 : ∀ q ∈ lw_privs_2, lw_okq q := List.forall_mem_cons.mpr ⟨lw_p16, List.forall_mem_cons.mpr ⟨lw_p17, List.forall_mem_cons.mpr ⟨lw_p18, List.forall_mem_cons.mpr ⟨lw_p19, List.forall_mem_cons.mpr ⟨lw_p20, List.forall_mem_cons.mpr ⟨lw_p21, List.forall_mem_cons.mpr ⟨lw_p22, List.forall_mem_cons.mpr ⟨lw_p23, List.forall_mem_cons.mpr ⟨lw_p24, List.forall_mem_cons.mpr ⟨lw_p25, List.forall_mem_cons.mpr ⟨lw_p26, List.forall_mem_cons.mpr ⟨lw_p27, List.forall_mem_cons.mpr ⟨lw_p28, List.forall_mem_cons.mpr ⟨lw_p29, List.forall_mem_cons.mpr ⟨lw_p30, List.forall_mem_cons.mpr ⟨lw_p31, fun _ h => absurd h List.not_mem_nil⟩⟩⟩⟩⟩⟩⟩⟩⟩⟩⟩⟩⟩⟩⟩⟩
theorem lw_p32 : lw_okq (⟨"MittenLineModel", "whyNotLet", "(I)I"⟩, 37) := ⟨⟨by decide +kernel, by decide +kernel⟩, List.mem_of_getElem? (i := 600) (by decide +kernel), List.mem_of_getElem? (i := 823) (by decide +kernel), List.mem_of_getElem? (i := 824) (by decide +kernel)⟩
theorem lw_p33 : lw_okq (⟨"MittenLineModel", "whyNotTake", "(I)I"⟩, 37) := ⟨⟨by decide +kernel, by decide +kernel⟩, List.mem_of_getElem? (i := 600) (by decide +kernel), List.mem_of_getElem? (i := 827) (by decide +kernel), List.mem_of_getElem? (i := 828) (by decide +kernel)⟩
theorem lw_p34 : lw_okq (⟨"MittenLineModel", "isTaut", "(I)Z"⟩, 37) := ⟨⟨by decide +kernel, by decide +kernel⟩, List.mem_of_getElem? (i := 600) (by decide +kernel), List.mem_of_getElem? (i := 831) (by decide +kernel), List.mem_of_getElem? (i := 832) (by decide +kernel)⟩
theorem lw_p35 : lw_okq (⟨"MittenLineModel", "goOne", "(I)V"⟩, 37) := ⟨⟨by decide +kernel, by decide +kernel⟩, List.mem_of_getElem? (i := 600) (by decide +kernel), List.mem_of_getElem? (i := 835) (by decide +kernel), List.mem_of_getElem? (i := 836) (by decide +kernel)⟩
theorem lw_p36 : lw_okq (⟨"MittenLineModel", "happen", "(III)V"⟩, 37) := ⟨⟨by decide +kernel, by decide +kernel⟩, List.mem_of_getElem? (i := 600) (by decide +kernel), List.mem_of_getElem? (i := 839) (by decide +kernel), List.mem_of_getElem? (i := 840) (by decide +kernel)⟩
theorem lw_p37 : lw_okq (⟨"MittenLineModel", "go", "(II)V"⟩, 37) := ⟨⟨by decide +kernel, by decide +kernel⟩, List.mem_of_getElem? (i := 600) (by decide +kernel), List.mem_of_getElem? (i := 843) (by decide +kernel), List.mem_of_getElem? (i := 844) (by decide +kernel)⟩
theorem lw_p38 : lw_okq (⟨"MittenLineModel", "squeeze", "(II)V"⟩, 37) := ⟨⟨by decide +kernel, by decide +kernel⟩, List.mem_of_getElem? (i := 600) (by decide +kernel), List.mem_of_getElem? (i := 850) (by decide +kernel), List.mem_of_getElem? (i := 851) (by decide +kernel)⟩
theorem lw_p39 : lw_okq (⟨"MittenLineModel", "feel", "(II)V"⟩, 37) := ⟨⟨by decide +kernel, by decide +kernel⟩, List.mem_of_getElem? (i := 600) (by decide +kernel), List.mem_of_getElem? (i := 854) (by decide +kernel), List.mem_of_getElem? (i := 855) (by decide +kernel)⟩
theorem lw_p40 : lw_okq (⟨"MittenLineModel", "passDay", "()V"⟩, 37) := ⟨⟨by decide +kernel, by decide +kernel⟩, List.mem_of_getElem? (i := 600) (by decide +kernel), List.mem_of_getElem? (i := 861) (by decide +kernel), List.mem_of_getElem? (i := 862) (by decide +kernel)⟩
theorem lw_p41 : lw_okq (⟨"MittenLineModel", "back", "(I)I"⟩, 37) := ⟨⟨by decide +kernel, by decide +kernel⟩, List.mem_of_getElem? (i := 600) (by decide +kernel), List.mem_of_getElem? (i := 868) (by decide +kernel), List.mem_of_getElem? (i := 869) (by decide +kernel)⟩
theorem lw_p42 : lw_okq (⟨"MittenLineModel", "taut", "()I"⟩, 37) := ⟨⟨by decide +kernel, by decide +kernel⟩, List.mem_of_getElem? (i := 600) (by decide +kernel), List.mem_of_getElem? (i := 881) (by decide +kernel), List.mem_of_getElem? (i := 882) (by decide +kernel)⟩
theorem lw_p43 : lw_okq (⟨"MittenLineModel", "allYards", "()I"⟩, 37) := ⟨⟨by decide +kernel, by decide +kernel⟩, List.mem_of_getElem? (i := 600) (by decide +kernel), List.mem_of_getElem? (i := 885) (by decide +kernel), List.mem_of_getElem? (i := 886) (by decide +kernel)⟩
theorem lw_p44 : lw_okq (⟨"MittenLineModel", "readBalls", "(II)Z"⟩, 37) := ⟨⟨by decide +kernel, by decide +kernel⟩, List.mem_of_getElem? (i := 600) (by decide +kernel), List.mem_of_getElem? (i := 905) (by decide +kernel), List.mem_of_getElem? (i := 906) (by decide +kernel)⟩
theorem lw_p45 : lw_okq (⟨"MittenLineModel", "windOne", "(II)V"⟩, 37) := ⟨⟨by decide +kernel, by decide +kernel⟩, List.mem_of_getElem? (i := 600) (by decide +kernel), List.mem_of_getElem? (i := 909) (by decide +kernel), List.mem_of_getElem? (i := 910) (by decide +kernel)⟩
theorem lw_p46 : lw_okq (⟨"MittenLineModel", "sizeOf", "(II)I"⟩, 37) := ⟨⟨by decide +kernel, by decide +kernel⟩, List.mem_of_getElem? (i := 600) (by decide +kernel), List.mem_of_getElem? (i := 913) (by decide +kernel), List.mem_of_getElem? (i := 914) (by decide +kernel)⟩
theorem lw_p47 : lw_okq (⟨"MittenLineModel", "readFrom", "(II)V"⟩, 37) := ⟨⟨by decide +kernel, by decide +kernel⟩, List.mem_of_getElem? (i := 600) (by decide +kernel), List.mem_of_getElem? (i := 925) (by decide +kernel), List.mem_of_getElem? (i := 926) (by decide +kernel)⟩
def lw_privs_3 : List (MethodName × Nat) := [(⟨"MittenLineModel", "whyNotLet", "(I)I"⟩, 37), (⟨"MittenLineModel", "whyNotTake", "(I)I"⟩, 37), (⟨"MittenLineModel", "isTaut", "(I)Z"⟩, 37), (⟨"MittenLineModel", "goOne", "(I)V"⟩, 37), (⟨"MittenLineModel", "happen", "(III)V"⟩, 37), (⟨"MittenLineModel", "go", "(II)V"⟩, 37), (⟨"MittenLineModel", "squeeze", "(II)V"⟩, 37), (⟨"MittenLineModel", "feel", "(II)V"⟩, 37), (⟨"MittenLineModel", "passDay", "()V"⟩, 37), (⟨"MittenLineModel", "back", "(I)I"⟩, 37), (⟨"MittenLineModel", "taut", "()I"⟩, 37), (⟨"MittenLineModel", "allYards", "()I"⟩, 37), (⟨"MittenLineModel", "readBalls", "(II)Z"⟩, 37), (⟨"MittenLineModel", "windOne", "(II)V"⟩, 37), (⟨"MittenLineModel", "sizeOf", "(II)I"⟩, 37), (⟨"MittenLineModel", "readFrom", "(II)V"⟩, 37)]
theorem lw_r3 : ∀ q ∈ lw_privs_3, lw_okq q := List.forall_mem_cons.mpr ⟨lw_p32, List.forall_mem_cons.mpr ⟨lw_p33, List.forall_mem_cons.mpr ⟨lw_p34, List.forall_mem_cons.mpr ⟨lw_p35, List.forall_mem_cons.mpr ⟨lw_p36, List.forall_mem_cons.mpr ⟨lw_p37, List.forall_mem_cons.mpr ⟨lw_p38, List.forall_mem_cons.mpr ⟨lw_p39, List.forall_mem_cons.mpr ⟨lw_p40, List.forall_mem_cons.mpr ⟨lw_p41, List.forall_mem_cons.mpr ⟨lw_p42, List.forall_mem_cons.mpr ⟨lw_p43, List.forall_mem_cons.mpr ⟨lw_p44, List.forall_mem_cons.mpr ⟨lw_p45, List.forall_mem_cons.mpr ⟨lw_p46, List.forall_mem_cons.mpr ⟨lw_p47, fun _ h => absurd h List.not_mem_nil⟩⟩⟩⟩⟩⟩⟩⟩⟩⟩⟩⟩⟩⟩⟩⟩
theorem lw_p48 : lw_okq (⟨"MittenLineModel", "isAnew", "(I)Z"⟩, 37) := ⟨⟨by decide +kernel, by decide +kernel⟩, List.mem_of_getElem? (i := 600) (by decide +kernel), List.mem_of_getElem? (i := 929) (by decide +kernel), List.mem_of_getElem? (i := 930) (by decide +kernel)⟩
theorem lw_p49 : lw_okq (⟨"MittenLineModel", "isWord", "(III)Z"⟩, 37) := ⟨⟨by decide +kernel, by decide +kernel⟩, List.mem_of_getElem? (i := 600) (by decide +kernel), List.mem_of_getElem? (i := 933) (by decide +kernel), List.mem_of_getElem? (i := 934) (by decide +kernel)⟩
theorem lw_p50 : lw_okq (⟨"MittenLineModel", "isFit", "(I)Z"⟩, 37) := ⟨⟨by decide +kernel, by decide +kernel⟩, List.mem_of_getElem? (i := 600) (by decide +kernel), List.mem_of_getElem? (i := 952) (by decide +kernel), List.mem_of_getElem? (i := 953) (by decide +kernel)⟩
theorem lw_p51 : lw_okq (⟨"MittenLineModel", "mostLeft", "(I)I"⟩, 37) := ⟨⟨by decide +kernel, by decide +kernel⟩, List.mem_of_getElem? (i := 600) (by decide +kernel), List.mem_of_getElem? (i := 963) (by decide +kernel), List.mem_of_getElem? (i := 964) (by decide +kernel)⟩
theorem lw_p52 : lw_okq (⟨"MittenLineModel", "leastPull", "(III)I"⟩, 37) := ⟨⟨by decide +kernel, by decide +kernel⟩, List.mem_of_getElem? (i := 600) (by decide +kernel), List.mem_of_getElem? (i := 971) (by decide +kernel), List.mem_of_getElem? (i := 972) (by decide +kernel)⟩
theorem lw_p53 : lw_okq (⟨"MittenLineModel", "passAll", "()V"⟩, 37) := ⟨⟨by decide +kernel, by decide +kernel⟩, List.mem_of_getElem? (i := 600) (by decide +kernel), List.mem_of_getElem? (i := 999) (by decide +kernel), List.mem_of_getElem? (i := 1000) (by decide +kernel)⟩
theorem lw_p54 : lw_okq (⟨"MittenLineModel", "pass", "(I)I"⟩, 37) := ⟨⟨by decide +kernel, by decide +kernel⟩, List.mem_of_getElem? (i := 600) (by decide +kernel), List.mem_of_getElem? (i := 1003) (by decide +kernel), List.mem_of_getElem? (i := 1004) (by decide +kernel)⟩
theorem lw_p55 : lw_okq (⟨"MittenLineModel", "passRow", "([II)V"⟩, 37) := ⟨⟨by decide +kernel, by decide +kernel⟩, List.mem_of_getElem? (i := 600) (by decide +kernel), List.mem_of_getElem? (i := 1007) (by decide +kernel), List.mem_of_getElem? (i := 1008) (by decide +kernel)⟩
def lw_privs_4 : List (MethodName × Nat) := [(⟨"MittenLineModel", "isAnew", "(I)Z"⟩, 37), (⟨"MittenLineModel", "isWord", "(III)Z"⟩, 37), (⟨"MittenLineModel", "isFit", "(I)Z"⟩, 37), (⟨"MittenLineModel", "mostLeft", "(I)I"⟩, 37), (⟨"MittenLineModel", "leastPull", "(III)I"⟩, 37), (⟨"MittenLineModel", "passAll", "()V"⟩, 37), (⟨"MittenLineModel", "pass", "(I)I"⟩, 37), (⟨"MittenLineModel", "passRow", "([II)V"⟩, 37)]
theorem lw_r4 : ∀ q ∈ lw_privs_4, lw_okq q := List.forall_mem_cons.mpr ⟨lw_p48, List.forall_mem_cons.mpr ⟨lw_p49, List.forall_mem_cons.mpr ⟨lw_p50, List.forall_mem_cons.mpr ⟨lw_p51, List.forall_mem_cons.mpr ⟨lw_p52, List.forall_mem_cons.mpr ⟨lw_p53, List.forall_mem_cons.mpr ⟨lw_p54, List.forall_mem_cons.mpr ⟨lw_p55, fun _ h => absurd h List.not_mem_nil⟩⟩⟩⟩⟩⟩⟩⟩
def lw_privs : List (MethodName × Nat) := lw_privs_1 ++ (lw_privs_2 ++ (lw_privs_3 ++ (lw_privs_4)))
def lw_tbl : List Cond := k2_sels lw_privs ++ tables_1
theorem lw_privs_ok : ∀ q ∈ lw_privs, lw_okq q := by
  show ∀ q ∈ lw_privs_1 ++ (lw_privs_2 ++ (lw_privs_3 ++ (lw_privs_4))), lw_okq q
  exact List.forall_mem_append.mpr ⟨lw_r1, List.forall_mem_append.mpr ⟨lw_r2, List.forall_mem_append.mpr ⟨lw_r3, lw_r4⟩⟩⟩
end
section
/-! ===== BEGIN words of one list among another's, by their places ===== -/
theorem goodIn_r {big : List Cond} (ws : List Cond) (ps : List Nat) (hp : ws = ps.filterMap (fun i => big[i]?)) (h : ws.all goodWord = true) : GoodIn big ws := by
  intro w hw
  have h1 := List.all_eq_true.mp h w hw
  rw [hp] at hw
  obtain ⟨i, -, hi⟩ := List.mem_filterMap.mp hw
  have hm : w ∈ big := by first | exact List.mem_of_getElem? hi | exact List.getElem?_mem hi
  exact ⟨hm, good_of_word h1⟩
theorem goodIn_app {big a b : List Cond} (ha : GoodIn big a) (hb : GoodIn big b) : GoodIn big (a ++ b) := fun w h => (List.mem_append.mp h).elim (ha w) (hb w)
theorem goodIn_ca {big a b : List Cond} {c : Cond} (ha : GoodIn big (c :: a)) (hb : GoodIn big b) : GoodIn big (c :: (a ++ b)) := fun w h => (List.mem_cons.mp h).elim (fun e => ha w (List.mem_cons.mpr (Or.inl e))) (fun h => (List.mem_append.mp h).elim (fun h => ha w (List.mem_cons.mpr (Or.inr h))) (hb w))
theorem goodIn_sub {big ws : List Cond} (hm : ∀ w ∈ ws, w ∈ big) (h : ws.all goodWord = true) : GoodIn big ws := fun w hw => ⟨hm w hw, good_of_word (List.all_eq_true.mp h w hw)⟩
/-! ===== END ===== -/

/-! ===== BEGIN new T[n][m]: the outer array a place, the inner ones among the pooled ===== -/
/-- f, but v at every address of l -/
def vr_up {α : Type} (f : Nat → α) (l : List Nat) (v : α) : Nat → α := fun a => if a ∈ l then v else f a
theorem vr_up_in {α : Type} {f : Nat → α} {l : List Nat} {v : α} {a : Nat} (h : a ∈ l) : vr_up f l v a = v := if_pos h
theorem vr_up_ne {α : Type} {f : Nat → α} {l : List Nat} {v : α} {a : Nat} (h : a ∉ l) : vr_up f l v a = f a := if_neg h
theorem vr_rows {L l : List Nat} {f : Nat → va_E} {e : va_E} (h : ∀ a, a ∈ l → a ∉ L) : va_pl L f ++ l.map (fun a => (a, e)) = va_pl (L ++ l) (vr_up f l e) := by
  unfold va_pl
  rw [List.map_append]
  congr 1
  · apply List.map_congr_left
    intro a ha
    rw [vr_up_ne (fun q => h a q ha)]
  · apply List.map_congr_left
    intro a ha
    rw [vr_up_in ha]
theorem vr_lay {X rows : va_W} {x : Nat × va_E} {pl : va_W} {D : va_G} {cl : List vw_C} {H : Heap} (hP : va_P D cl (((X ++ pl) ++ [x]) ++ rows) H) : va_P D cl ((X ++ [x]) ++ (pl ++ rows)) H := by
  rw [List.append_assoc (X ++ pl)] at hP
  have h := va_P.swap hP
  rw [← List.append_assoc X] at h
  have h2 := va_P.swap h
  rw [List.append_assoc (X ++ [x])] at h2
  exact h2
theorem vr_layD {X rows : va_W} {x : Nat × va_E} {pl : va_W} {A : Nat → Prop} (hD : va_D A (((X ++ pl) ++ [x]) ++ rows)) : va_D A ((X ++ [x]) ++ (pl ++ rows)) := by
  rw [List.append_assoc (X ++ pl)] at hD
  have h := va_D.swap hD
  rw [← List.append_assoc X] at h
  have h2 := va_D.swap h
  rw [List.append_assoc (X ++ [x])] at h2
  exact h2
theorem vr_outer (c : ClassId) (N h0 : Nat) : ∀ i : Nat, Jvm.Free.Multi.outerC c N h0 i = arrV c N (fun j => va_rf (if j < i then some (h0 + 1 + j) else none))
  | 0 => by
    show ({ cls := c, slots := Array.replicate N .null, vm := .none } : Cell) = _
    rw [arrV_new]
    refine congrArg (arrV c N) (funext fun j => ?_)
    simp [va_rf]
  | i + 1 => by
    show (Jvm.Free.Multi.outerC c N h0 i).setSlot i (.ref (h0 + 1 + i)) = _
    rw [vr_outer c N h0 i, arrV_store]
    refine congrArg (arrV c N) (funext fun j => ?_)
    by_cases e : j = i
    · subst e
      simp [updV, va_rf]
    · by_cases h : j < i
      · simp [updV, e, h, Nat.lt_succ_of_lt h]
      · simp [updV, e, h, show ¬ j < i + 1 by omega]
def va_AOA (ty : FieldType) (U : State) : Prop := (Cond.arrayOver (.array ty)).before #[] U = true
theorem va_AOA.use {ty : FieldType} {A : Array Value} {U : State} (h : va_AOA ty U) : (Cond.arrayOver (.array ty)).before A U = true := h
section VGM
variable {p : Program} {l : Launch} {e : Env} {R : Room} {s : State} {m : MethodId} {args : Array Value} {below : List Frame} {meth : Method} {c : Code} {H : Heap} {locs : List Loc} {cells slots : Nat} {Q : State → Prop}
variable {cc : ByteArray} {pc : Nat} {ls : Array Slot} {rest : List Value} {D : va_G} {cl : List vw_C} {A : Nat → Prop} {a : Nat} {tys : List (ClassId × FieldType)} {ws : va_W} {H0 : Heap}
theorem va_mna {X : va_W} {L : List Nat} {f : Nat → va_E} {cc : ByteArray} (hexec : p.tables.exec = Jvm.exec) (hb : c.code = cc) {own : String} {index : Nat} {ty : FieldType} {cy : ClassId} (hown : s.vm.findClass own = some m.cls) (hclink : (Cond.classLink own index ("[" ++ (FieldType.array ty).toString)).before args s = true) (hover : va_AOA ty s) (harr : (Cond.arrayClass ty).before args s = true) (hcy : s.vm.findClass (FieldType.array ty).toString = some cy)
    (hK : va_K D cl tys s) (hP : va_P D cl (X ++ va_pl L f) H) (hD : va_D A (X ++ va_pl L f)) (hS : va_S A H0 H locs) (hA : ∀ q, H0.size ≤ q → A q) {n k : Int32} {N' K' : Nat} {z : vp_A} (hn : ¬ n < 0) (hk : ¬ k < 0) (hN : n.toNatClampNeg = N') (hM : k.toNatClampNeg = K')
    (hb1 : N' * 4 ≤ 536870912) (hb2 : K' * componentBytes ty ≤ 536870912) (hb3 : K' ≤ 536870912) (hdf : fits ty (defaultValue ty) = true) (hdd : (defaultValue ty).isDefault = true) (hcells : cells + (1 + N') ≤ R.cells) (hslots : slots + (N' + N' * K') ≤ R.slots) (hz : ∀ c : ClassId, Jvm.Free.Multi.innerC c K' (defaultValue ty) = vp_cell c z) (hdg : decode cc pc = .ok (.multianewarray index 2, 4))
    (kk : ∀ (q : Nat) (r : Nat → Nat) (cA : ClassId) (H1 : Heap), (∀ i j : Nat, i < N' → j < N' → r i = r j → i = j) → (∀ i : Nat, i < N' → r i ∉ L) → va_K D cl (tys ++ [(cA, .array ty)]) s →
      va_P D cl ((X ++ [(q, .inl (cA, N', .inr (.inr (.inr (.inr (fun i => if i < N' then some (r i) else none))))))]) ++ va_pl (L ++ (List.range N').map r) (vr_up f ((List.range N').map r) (.inl (cy, z)))) H1 → va_D A ((X ++ [(q, .inl (cA, N', .inr (.inr (.inr (.inr (fun i => if i < N' then some (r i) else none))))))]) ++ va_pl (L ++ (List.range N').map r) (vr_up f ((List.range N').map r) (.inl (cy, z)))) → va_S A H0 H1 locs →
      W p l e R s m args below meth c H1 locs (cells + 1 + N') (slots + N' + N' * K') Q (F0 m (pc + 4) ls (.ref q :: rest))) : W p l e R s m args below meth c H locs cells slots Q (F0 m pc ls (.int k :: .int n :: rest)) := by
  subst hN
  subst hM
  intro T hT Xs
  obtain ⟨vm₁, cA, comp, -, fA, fC, hO, -, X', step⟩ := Xs.multianewarray2F hexec hown hclink (va_AOA.use hover) harr (g := F0 m pc ls (.int k :: .int n :: rest)) rfl (by rw [hb]; exact hdg) rfl hn hk hb1 hb2 hb3 hdf hdd hcells hslots
  have ec : some cy = some comp := hcy.symm.trans fC
  cases ec
  generalize hF : Jvm.Free.Multi.fill (T.setVm vm₁) cA cy n.toNatClampNeg k.toNatClampNeg (defaultValue ty) n.toNatClampNeg = F at X' step
  have hTh : (T.setVm vm₁).heap = H := hT
  obtain ⟨f1, f2, -, -⟩ := Jvm.Free.Multi.fill_facts (T.setVm vm₁) cA cy n.toNatClampNeg k.toNatClampNeg (defaultValue ty) n.toNatClampNeg
  rw [hF, hTh] at f1 f2
  have hold : ∀ x : Nat, x < H.size → F.heap[x]? = H[x]? := fun x hx => by
    have := Jvm.Free.Multi.fill_old (T.setVm vm₁) cA cy n.toNatClampNeg k.toNatClampNeg (defaultValue ty) (a := x) (by rw [hTh]; exact hx) n.toNatClampNeg
    rw [hF, hTh] at this
    exact this
  have hrow : ∀ j : Nat, j < n.toNatClampNeg → F.heap[H.size + 1 + j]? = some (vp_cell cy z) := fun j hj => by
    have := Jvm.Free.Multi.fill_inner (T.setVm vm₁) cA cy n.toNatClampNeg k.toNatClampNeg (defaultValue ty) n.toNatClampNeg j hj
    rw [hF, hTh, hz] at this
    exact this
  have hout : Jvm.Free.Multi.outerC cA n.toNatClampNeg H.size n.toNatClampNeg = vp_cell cA (n.toNatClampNeg, .inr (.inr (.inr (.inr (fun i => if i < n.toNatClampNeg then some (H.size + 1 + i) else none))))) := by
    rw [vp_cell_q]
    exact vr_outer cA n.toNatClampNeg H.size n.toNatClampNeg
  rw [hout] at f2
  have hlt : ∀ a, a ∈ L → a < H.size := fun a ha => by
    obtain ⟨k9, hk9⟩ := va_pl_get (X := X) (f := f) ha
    exact (hP k9 _ hk9).lt
  have hnl : ∀ i : Nat, i < n.toNatClampNeg → H.size + 1 + i ∉ L := fun i _ h => by
    have := hlt _ h
    omega
  have hnm : ∀ a, a ∈ (List.range n.toNatClampNeg).map (fun i => H.size + 1 + i) → a ∉ L := fun a ha h => by
    obtain ⟨i, -, rfl⟩ := List.mem_map.mp ha
    have := hlt _ h
    omega
  have hP0 : va_P D cl (X ++ va_pl L f) F.heap := hP.kept (fun k9 x hx => hold x.1 ((hP k9 x hx).lt))
  have hP1 : va_P D cl ((X ++ va_pl L f) ++ [(H.size, .inl (cA, n.toNatClampNeg, .inr (.inr (.inr (.inr (fun i => if i < n.toNatClampNeg then some (H.size + 1 + i) else none))))))]) F.heap := hP0.app (fun k9 x hx => by
    have h0 : k9 < 1 := (List.getElem?_eq_some_iff.mp hx).1
    rw [show k9 = 0 by omega] at hx
    cases hx
    exact f2)
  have hP2 : va_P D cl (((X ++ va_pl L f) ++ [(H.size, .inl (cA, n.toNatClampNeg, .inr (.inr (.inr (.inr (fun i => if i < n.toNatClampNeg then some (H.size + 1 + i) else none))))))]) ++ ((List.range n.toNatClampNeg).map (fun i => H.size + 1 + i)).map (fun a => (a, .inl (cy, z)))) F.heap := hP1.app (fun k9 x hx => by
    obtain ⟨a, ha, rfl⟩ := List.mem_map.mp (List.mem_of_getElem? hx)
    obtain ⟨i, hi, rfl⟩ := List.mem_map.mp ha
    exact hrow i (List.mem_range.mp hi))
  have hD2 : va_D A (((X ++ va_pl L f) ++ [(H.size, .inl (cA, n.toNatClampNeg, .inr (.inr (.inr (.inr (fun i => if i < n.toNatClampNeg then some (H.size + 1 + i) else none))))))]) ++ ((List.range n.toNatClampNeg).map (fun i => H.size + 1 + i)).map (fun a => (a, .inl (cy, z)))) := by
    have hD1 := hD.push (e := .inl (cA, n.toNatClampNeg, .inr (.inr (.inr (.inr (fun i => if i < n.toNatClampNeg then some (H.size + 1 + i) else none)))))) hP rfl (hA _ hS.1)
    generalize hW1 : (X ++ va_pl L f) ++ [(H.size, .inl (cA, n.toNatClampNeg, .inr (.inr (.inr (.inr (fun i => if i < n.toNatClampNeg then some (H.size + 1 + i) else none))))))] = W1 at hD1 hP1 ⊢
    have hle : ∀ (k9 : Nat) (x : Nat × va_E), W1[k9]? = some x → x.1 ≤ H.size := fun k9 x hx => by
      rw [← hW1] at hx
      by_cases hl : k9 < (X ++ va_pl L f).length
      · rw [List.getElem?_append_left hl] at hx
        exact Nat.le_of_lt ((hP k9 x hx).lt)
      · rw [List.getElem?_append_right (by omega)] at hx
        have h0 : k9 - (X ++ va_pl L f).length < 1 := (List.getElem?_eq_some_iff.mp hx).1
        rw [show k9 - (X ++ va_pl L f).length = 0 by omega] at hx
        cases hx
        exact Nat.le_refl _
    have hr : ∀ (k9 : Nat) (x : Nat × va_E), (((List.range n.toNatClampNeg).map (fun i => H.size + 1 + i)).map (fun a => ((a, .inl (cy, z)) : Nat × va_E)))[k9]? = some x → x.1 = H.size + 1 + k9 := fun k9 x hx => by
      rw [List.getElem?_map, List.getElem?_map] at hx
      by_cases h9 : k9 < n.toNatClampNeg
      · rw [List.getElem?_range h9] at hx
        cases hx
        rfl
      · have hn0 : (List.range n.toNatClampNeg)[k9]? = none := List.getElem?_eq_none (by rw [List.length_range]; omega)
        rw [hn0] at hx
        cases hx
    refine ⟨fun i j x y hi hj hxy => ?_, fun k9 x hx => ?_⟩
    · by_cases h1 : i < W1.length <;> by_cases h2 : j < W1.length
      · rw [List.getElem?_append_left h1] at hi
        rw [List.getElem?_append_left h2] at hj
        exact hD1.1 i j x y hi hj hxy
      · rw [List.getElem?_append_left h1] at hi
        rw [List.getElem?_append_right (by omega)] at hj
        have := hle _ _ hi
        have := hr _ _ hj
        omega
      · rw [List.getElem?_append_right (by omega)] at hi
        rw [List.getElem?_append_left h2] at hj
        have := hle _ _ hj
        have := hr _ _ hi
        omega
      · rw [List.getElem?_append_right (by omega)] at hi hj
        have := hr _ _ hi
        have := hr _ _ hj
        omega
    · by_cases h1 : k9 < W1.length
      · rw [List.getElem?_append_left h1] at hx
        exact hD1.2 k9 x hx
      · rw [List.getElem?_append_right (by omega)] at hx
        have := hr _ _ hx
        exact hA _ (by have := hS.1; omega)
  have hAr : ArrOfT s cA (.array ty) := fun N9 z9 => by
    obtain ⟨-, k9, hk9, cm9, hkk9⟩ := (hO 0 0 0).1
    exact ⟨(fun q hq => by cases hq), k9, hk9, cm9, hkk9⟩
  have hK2 : va_K D cl (tys ++ [(cA, .array ty)]) s := ⟨hK.1, fun k9 x hx => by
    by_cases hl : k9 < tys.length
    · rw [List.getElem?_append_left hl] at hx
      exact hK.2 k9 x hx
    · rw [List.getElem?_append_right (by omega)] at hx
      have h0 : k9 - tys.length < 1 := (List.getElem?_eq_some_iff.mp hx).1
      rw [show k9 - tys.length = 0 by omega] at hx
      cases hx
      exact ⟨hAr, fA⟩⟩
  obtain ⟨t, a1, b1⟩ := kk H.size (fun i => H.size + 1 + i) cA F.heap (fun i j _ _ h => by have h9 : H.size + 1 + i = H.size + 1 + j := h; omega) hnl hK2 (by rw [← vr_rows hnm]; exact vr_lay hP2) (by rw [← vr_rows hnm]; exact vr_layD hD2) ⟨by rw [f1]; have := hS.1; omega, fun x h1 h2 => (hold x (Nat.lt_of_lt_of_le h1 hS.1)).trans (hS.2.1 x h1 h2), hS.2.2⟩ F rfl X'
  refine ⟨t, step t ?_, b1⟩
  have e : T.heap.size = H.size := by rw [hT]
  rw [e]
  exact a1
end VGM
/-! ===== END ===== -/

/-! ===== BEGIN printed: names, fields, word lists, decode rows ===== -/
def RX0 : String := "MittenLine$Course"
def TX0 : u_T := fun k => match k with
  | 0 => ("MittenLine$Course", "acts", "I", false)
  | 1 => ("MittenLine$Course", "badAct", "I", false)
  | 2 => ("MittenLine$Course", "badWhy", "I", false)
  | 3 => ("MittenLine$Course", "drawnCount", "I", false)
  | 4 => ("MittenLine$Course", "drawAct", "I", false)
  | _ => ("MittenLine$Course", "drawChild", "I", false)
def tyX0 : Nat → FieldType := fun k => match k with
  | 0 => .int
  | 1 => .int
  | 2 => .int
  | 3 => .int
  | 4 => .int
  | _ => .int
abbrev wsX00 : List Cond := u_ws RX0 TX0 6
theorem nmX0 : ∀ a, a < 6 → ∀ b, b < 6 → a ≠ b → (TX0 a).2.1 ≠ (TX0 b).2.1 := by decide +kernel
theorem tyX0_ok : ∀ k, k < 6 → parseFieldDescriptor (TX0 k).2.2.1 = some (tyX0 k) := by decide +kernel
abbrev cX0_init : ByteArray := prog_2_method_1_code
def yX0_init : MethodName := ⟨RX0, "<init>", "()V"⟩
abbrev cX0_begin : ByteArray := prog_2_method_2_code
def yX0_begin : MethodName := ⟨RX0, "begin", "()V"⟩
abbrev cX0_take : ByteArray := prog_2_method_3_code
def yX0_take : MethodName := ⟨RX0, "take", "(LMittenLine$Row;III)V"⟩
def RX1 : String := "MittenLine$Guess"
def TX1 : u_T := fun k => match k with
  | 0 => ("MittenLine$Guess", "tally", "[I", true)
  | 1 => ("MittenLine$Guess", "askedChild", "I", false)
  | _ => ("MittenLine$Guess", "mostLeft", "I", false)
def tyX1 : Nat → FieldType := fun k => match k with
  | 0 => .array .int
  | 1 => .int
  | _ => .int
abbrev wsX10 : List Cond := u_ws RX1 TX1 3
theorem nmX1 : ∀ a, a < 3 → ∀ b, b < 3 → a ≠ b → (TX1 a).2.1 ≠ (TX1 b).2.1 := by decide +kernel
theorem tyX1_ok : ∀ k, k < 3 → parseFieldDescriptor (TX1 k).2.2.1 = some (tyX1 k) := by decide +kernel
abbrev cX1_init : ByteArray := prog_3_method_1_code
def yX1_init : MethodName := ⟨RX1, "<init>", "()V"⟩
abbrev cX1_isCode : ByteArray := prog_3_method_2_code
def yX1_isCode : MethodName := ⟨RX1, "isCode", "(I)Z"⟩
abbrev cX1_feltBy : ByteArray := prog_3_method_3_code
def yX1_feltBy : MethodName := ⟨RX1, "feltBy", "(II)I"⟩
abbrev cX1_isFitting : ByteArray := prog_3_method_4_code
def yX1_isFitting : MethodName := ⟨RX1, "isFitting", "(LMittenLine$Sights;I)Z"⟩
abbrev cX1_countFitting : ByteArray := prog_3_method_5_code
def yX1_countFitting : MethodName := ⟨RX1, "countFitting", "(LMittenLine$Sights;)I"⟩
abbrev cX1_fitting : ByteArray := prog_3_method_6_code
def yX1_fitting : MethodName := ⟨RX1, "fitting", "(LMittenLine$Sights;I)I"⟩
abbrev cX1_chooseChild : ByteArray := prog_3_method_7_code
def yX1_chooseChild : MethodName := ⟨RX1, "chooseChild", "(LMittenLine$Sights;)V"⟩
abbrev cX1_mostAlike : ByteArray := prog_3_method_8_code
def yX1_mostAlike : MethodName := ⟨RX1, "mostAlike", "(LMittenLine$Sights;I)I"⟩
def RX2 : String := "MittenLine$Image"
def TX2 : u_T := fun k => match k with
  | 0 => ("MittenLine$Image", "row", "LMittenLine$Row;", true)
  | 1 => ("MittenLine$Image", "sights", "LMittenLine$Sights;", true)
  | _ => ("MittenLine$Image", "isKept", "Z", false)
def tyX2 : Nat → FieldType := fun k => match k with
  | 0 => .object "MittenLine$Row"
  | 1 => .object "MittenLine$Sights"
  | _ => .boolean
abbrev wsX20 : List Cond := u_ws RX2 TX2 3
theorem nmX2 : ∀ a, a < 3 → ∀ b, b < 3 → a ≠ b → (TX2 a).2.1 ≠ (TX2 b).2.1 := by decide +kernel
theorem tyX2_ok : ∀ k, k < 3 → parseFieldDescriptor (TX2 k).2.2.1 = some (tyX2 k) := by decide +kernel
abbrev cX2_init : ByteArray := prog_4_method_1_code
def yX2_init : MethodName := ⟨RX2, "<init>", "()V"⟩
abbrev cX2_keep : ByteArray := prog_4_method_2_code
def yX2_keep : MethodName := ⟨RX2, "keep", "(LMittenLine$Row;LMittenLine$Sights;)V"⟩
abbrev cX2_giveBack : ByteArray := prog_4_method_3_code
def yX2_giveBack : MethodName := ⟨RX2, "giveBack", "(LMittenLine$Row;LMittenLine$Sights;)V"⟩
def RX3 : String := "MittenLine$Pad"
def TX3 : u_T := fun k => match k with
  | 0 => ("MittenLine$Pad", "signs", "[I", true)
  | 1 => ("MittenLine$Pad", "count", "I", false)
  | 2 => ("MittenLine$Pad", "awaited", "I", false)
  | 3 => ("MittenLine$Pad", "actor", "I", false)
  | 4 => ("MittenLine$Pad", "kind", "I", false)
  | _ => ("MittenLine$Pad", "amount", "I", false)
def tyX3 : Nat → FieldType := fun k => match k with
  | 0 => .array .int
  | 1 => .int
  | 2 => .int
  | 3 => .int
  | 4 => .int
  | _ => .int
abbrev wsX30 : List Cond := u_ws RX3 TX3 6
theorem nmX3 : ∀ a, a < 6 → ∀ b, b < 6 → a ≠ b → (TX3 a).2.1 ≠ (TX3 b).2.1 := by decide +kernel
theorem tyX3_ok : ∀ k, k < 6 → parseFieldDescriptor (TX3 k).2.2.1 = some (tyX3 k) := by decide +kernel
abbrev cX3_init : ByteArray := prog_5_method_1_code
def yX3_init : MethodName := ⟨RX3, "<init>", "()V"⟩
abbrev cX3_add : ByteArray := prog_5_method_2_code
def yX3_add : MethodName := ⟨RX3, "add", "(I)Z"⟩
abbrev cX3_clear : ByteArray := prog_5_method_3_code
def yX3_clear : MethodName := ⟨RX3, "clear", "()V"⟩
abbrev cX3_faultPlace : ByteArray := prog_5_method_4_code
def yX3_faultPlace : MethodName := ⟨RX3, "faultPlace", "()I"⟩
abbrev cX3_awaitedAfter : ByteArray := prog_5_method_5_code
def yX3_awaitedAfter : MethodName := ⟨RX3, "awaitedAfter", "(II)I"⟩
abbrev cX3_beginActs : ByteArray := prog_5_method_6_code
def yX3_beginActs : MethodName := ⟨RX3, "beginActs", "()V"⟩
abbrev cX3_endsAct : ByteArray := prog_5_method_7_code
def yX3_endsAct : MethodName := ⟨RX3, "endsAct", "(I)Z"⟩
def RX4 : String := "MittenLine$Puzzles"
def TX4 : u_T := fun k => match k with
  | 0 => ("MittenLine$Puzzles", "digits", "[I", true)
  | 1 => ("MittenLine$Puzzles", "words", "[I", true)
  | 2 => ("MittenLine$Puzzles", "byEnd", "[I", true)
  | 3 => ("MittenLine$Puzzles", "sizes", "[I", true)
  | 4 => ("MittenLine$Puzzles", "times", "[[I", true)
  | _ => ("MittenLine$Puzzles", "winning", "[I", true)
def tyX4 : Nat → FieldType := fun k => match k with
  | 0 => .array .int
  | 1 => .array .int
  | 2 => .array .int
  | 3 => .array .int
  | 4 => .array (.array .int)
  | _ => .array .int
abbrev wsX40 : List Cond := u_ws RX4 TX4 6
theorem nmX4 : ∀ a, a < 6 → ∀ b, b < 6 → a ≠ b → (TX4 a).2.1 ≠ (TX4 b).2.1 := by decide +kernel
theorem tyX4_ok : ∀ k, k < 6 → parseFieldDescriptor (TX4 k).2.2.1 = some (tyX4 k) := by decide +kernel
abbrev cX4_init : ByteArray := prog_6_method_1_code
def yX4_init : MethodName := ⟨RX4, "<init>", "()V"⟩
abbrev cX4_takeDigits : ByteArray := prog_6_method_2_code
def yX4_takeDigits : MethodName := ⟨RX4, "takeDigits", "(II)I"⟩
abbrev cX4_windingTime : ByteArray := prog_6_method_3_code
def yX4_windingTime : MethodName := ⟨RX4, "windingTime", "(IIZ)I"⟩
abbrev cX4_timeOfParts : ByteArray := prog_6_method_4_code
def yX4_timeOfParts : MethodName := ⟨RX4, "timeOfParts", "(IIZ)I"⟩
abbrev cX4_takeWords : ByteArray := prog_6_method_5_code
def yX4_takeWords : MethodName := ⟨RX4, "takeWords", "(IIII)V"⟩
abbrev cX4_standsBefore : ByteArray := prog_6_method_6_code
def yX4_standsBefore : MethodName := ⟨RX4, "standsBefore", "(II)Z"⟩
abbrev cX4_countReadings : ByteArray := prog_6_method_7_code
def yX4_countReadings : MethodName := ⟨RX4, "countReadings", "(I)I"⟩
abbrev cX4_fewestWords : ByteArray := prog_6_method_8_code
def yX4_fewestWords : MethodName := ⟨RX4, "fewestWords", "(I)I"⟩
abbrev cX4_winningPulls : ByteArray := prog_6_method_9_code
def yX4_winningPulls : MethodName := ⟨RX4, "winningPulls", "(II)I"⟩
def RX5 : String := "MittenLine$Row"
def TX5 : u_T := fun k => match k with
  | 0 => ("MittenLine$Row", "yards", "[I", true)
  | 1 => ("MittenLine$Row", "feels", "[I", true)
  | 2 => ("MittenLine$Row", "lengths", "[I", true)
  | 3 => ("MittenLine$Row", "plan", "[I", true)
  | 4 => ("MittenLine$Row", "holding", "I", false)
  | 5 => ("MittenLine$Row", "wool", "I", false)
  | _ => ("MittenLine$Row", "day", "I", false)
def tyX5 : Nat → FieldType := fun k => match k with
  | 0 => .array .int
  | 1 => .array .int
  | 2 => .array .int
  | 3 => .array .int
  | 4 => .int
  | 5 => .int
  | _ => .int
abbrev wsX50 : List Cond := u_ws RX5 TX5 7
theorem nmX5 : ∀ a, a < 7 → ∀ b, b < 7 → a ≠ b → (TX5 a).2.1 ≠ (TX5 b).2.1 := by decide +kernel
theorem tyX5_ok : ∀ k, k < 7 → parseFieldDescriptor (TX5 k).2.2.1 = some (tyX5 k) := by decide +kernel
abbrev cX5_init : ByteArray := prog_7_method_1_code
def yX5_init : MethodName := ⟨RX5, "<init>", "()V"⟩
abbrev cX5_copyFrom : ByteArray := prog_7_method_2_code
def yX5_copyFrom : MethodName := ⟨RX5, "copyFrom", "(LMittenLine$Row;)V"⟩
abbrev cX5_holdsFast : ByteArray := prog_7_method_3_code
def yX5_holdsFast : MethodName := ⟨RX5, "holdsFast", "(I)Z"⟩
abbrev cX5_turnHold : ByteArray := prog_7_method_4_code
def yX5_turnHold : MethodName := ⟨RX5, "turnHold", "(I)V"⟩
abbrev cX5_apart : ByteArray := prog_7_method_5_code
def yX5_apart : MethodName := ⟨RX5, "apart", "(I)I"⟩
abbrev cX5_isTaut : ByteArray := prog_7_method_6_code
def yX5_isTaut : MethodName := ⟨RX5, "isTaut", "(I)Z"⟩
abbrev cX5_tautBits : ByteArray := prog_7_method_7_code
def yX5_tautBits : MethodName := ⟨RX5, "tautBits", "()I"⟩
abbrev cX5_allLengths : ByteArray := prog_7_method_8_code
def yX5_allLengths : MethodName := ⟨RX5, "allLengths", "()I"⟩
abbrev cX5_hasStringFor : ByteArray := prog_7_method_9_code
def yX5_hasStringFor : MethodName := ⟨RX5, "hasStringFor", "(II)Z"⟩
abbrev cX5_whyNot : ByteArray := prog_7_method_10_code
def yX5_whyNot : MethodName := ⟨RX5, "whyNot", "(III)I"⟩
abbrev cX5_whyNotStep : ByteArray := prog_7_method_11_code
def yX5_whyNotStep : MethodName := ⟨RX5, "whyNotStep", "(II)I"⟩
abbrev cX5_whyNotLetOut : ByteArray := prog_7_method_12_code
def yX5_whyNotLetOut : MethodName := ⟨RX5, "whyNotLetOut", "(I)I"⟩
abbrev cX5_whyNotWind : ByteArray := prog_7_method_13_code
def yX5_whyNotWind : MethodName := ⟨RX5, "whyNotWind", "(I)I"⟩
abbrev cX5_act : ByteArray := prog_7_method_14_code
def yX5_act : MethodName := ⟨RX5, "act", "(III)I"⟩
abbrev cX5_step : ByteArray := prog_7_method_15_code
def yX5_step : MethodName := ⟨RX5, "step", "(II)I"⟩
abbrev cX5_planStep : ByteArray := prog_7_method_16_code
def yX5_planStep : MethodName := ⟨RX5, "planStep", "(II)I"⟩
abbrev cX5_planDraw : ByteArray := prog_7_method_17_code
def yX5_planDraw : MethodName := ⟨RX5, "planDraw", "(III)Z"⟩
abbrev cX5_squeeze : ByteArray := prog_7_method_18_code
def yX5_squeeze : MethodName := ⟨RX5, "squeeze", "(II)V"⟩
abbrev cX5_lossBy : ByteArray := prog_7_method_19_code
def yX5_lossBy : MethodName := ⟨RX5, "lossBy", "(I)I"⟩
abbrev cX5_feelMore : ByteArray := prog_7_method_20_code
def yX5_feelMore : MethodName := ⟨RX5, "feelMore", "(II)V"⟩
abbrev cX5_letOut : ByteArray := prog_7_method_21_code
def yX5_letOut : MethodName := ⟨RX5, "letOut", "(I)V"⟩
abbrev cX5_windIn : ByteArray := prog_7_method_22_code
def yX5_windIn : MethodName := ⟨RX5, "windIn", "(I)V"⟩
abbrev cX5_nextDay : ByteArray := prog_7_method_23_code
def yX5_nextDay : MethodName := ⟨RX5, "nextDay", "()V"⟩
abbrev cX5_farthest : ByteArray := prog_7_method_24_code
def yX5_farthest : MethodName := ⟨RX5, "farthest", "(II)I"⟩
def RX6 : String := "MittenLine$Sights"
def TX6 : u_T := fun k => match k with
  | 0 => ("MittenLine$Sights", "who", "[I", true)
  | 1 => ("MittenLine$Sights", "much", "[I", true)
  | _ => ("MittenLine$Sights", "count", "I", false)
def tyX6 : Nat → FieldType := fun k => match k with
  | 0 => .array .int
  | 1 => .array .int
  | _ => .int
abbrev wsX60 : List Cond := u_ws RX6 TX6 3
theorem nmX6 : ∀ a, a < 3 → ∀ b, b < 3 → a ≠ b → (TX6 a).2.1 ≠ (TX6 b).2.1 := by decide +kernel
theorem tyX6_ok : ∀ k, k < 3 → parseFieldDescriptor (TX6 k).2.2.1 = some (tyX6 k) := by decide +kernel
abbrev cX6_init : ByteArray := prog_8_method_1_code
def yX6_init : MethodName := ⟨RX6, "<init>", "()V"⟩
abbrev cX6_add : ByteArray := prog_8_method_2_code
def yX6_add : MethodName := ⟨RX6, "add", "(II)Z"⟩
abbrev cX6_clear : ByteArray := prog_8_method_3_code
def yX6_clear : MethodName := ⟨RX6, "clear", "()V"⟩
abbrev cX6_copyFrom : ByteArray := prog_8_method_4_code
def yX6_copyFrom : MethodName := ⟨RX6, "copyFrom", "(LMittenLine$Sights;)V"⟩
def RX7 : String := "MittenLine"
def TX7 : u_T := fun k => match k with
  | 0 => ("MittenLine", "now", "LMittenLine$Row;", true)
  | 1 => ("MittenLine", "trial", "LMittenLine$Row;", true)
  | 2 => ("MittenLine", "pad", "LMittenLine$Pad;", true)
  | 3 => ("MittenLine", "course", "LMittenLine$Course;", true)
  | 4 => ("MittenLine", "sights", "LMittenLine$Sights;", true)
  | 5 => ("MittenLine", "guess", "LMittenLine$Guess;", true)
  | 6 => ("MittenLine", "puzzles", "LMittenLine$Puzzles;", true)
  | 7 => ("MittenLine", "image0", "LMittenLine$Image;", true)
  | _ => ("MittenLine", "image1", "LMittenLine$Image;", true)
def tyX7 : Nat → FieldType := fun k => match k with
  | 0 => .object "MittenLine$Row"
  | 1 => .object "MittenLine$Row"
  | 2 => .object "MittenLine$Pad"
  | 3 => .object "MittenLine$Course"
  | 4 => .object "MittenLine$Sights"
  | 5 => .object "MittenLine$Guess"
  | 6 => .object "MittenLine$Puzzles"
  | 7 => .object "MittenLine$Image"
  | _ => .object "MittenLine$Image"
abbrev wsX70 : List Cond := u_ws RX7 TX7 9
theorem nmX7 : ∀ a, a < 9 → ∀ b, b < 9 → a ≠ b → (TX7 a).2.1 ≠ (TX7 b).2.1 := by decide +kernel
theorem tyX7_ok : ∀ k, k < 9 → parseFieldDescriptor (TX7 k).2.2.1 = some (tyX7 k) := by decide +kernel
abbrev cX7_init : ByteArray := prog_1_method_1_code
def yX7_init : MethodName := ⟨RX7, "<init>", "()V"⟩
abbrev cX7_child : ByteArray := prog_1_method_2_code
def yX7_child : MethodName := ⟨RX7, "child", "(III)I"⟩
abbrev cX7_string : ByteArray := prog_1_method_3_code
def yX7_string : MethodName := ⟨RX7, "string", "(II)I"⟩
abbrev cX7_ball : ByteArray := prog_1_method_4_code
def yX7_ball : MethodName := ⟨RX7, "ball", "(I)I"⟩
abbrev cX7_say : ByteArray := prog_1_method_5_code
def yX7_say : MethodName := ⟨RX7, "say", "(I)I"⟩
abbrev cX7_wipe : ByteArray := prog_1_method_6_code
def yX7_wipe : MethodName := ⟨RX7, "wipe", "()I"⟩
abbrev cX7_fault : ByteArray := prog_1_method_7_code
def yX7_fault : MethodName := ⟨RX7, "fault", "()I"⟩
abbrev cX7_judge : ByteArray := prog_1_method_8_code
def yX7_judge : MethodName := ⟨RX7, "judge", "(I)I"⟩
abbrev cX7_behind : ByteArray := prog_1_method_9_code
def yX7_behind : MethodName := ⟨RX7, "behind", "(II)I"⟩
abbrev cX7_line : ByteArray := prog_1_method_10_code
def yX7_line : MethodName := ⟨RX7, "line", "(I)I"⟩
abbrev cX7_drawn : ByteArray := prog_1_method_11_code
def yX7_drawn : MethodName := ⟨RX7, "drawn", "(I)I"⟩
abbrev cX7_done : ByteArray := prog_1_method_12_code
def yX7_done : MethodName := ⟨RX7, "done", "()I"⟩
abbrev cX7_runText : ByteArray := prog_1_method_13_code
def yX7_runText : MethodName := ⟨RX7, "runText", "()I"⟩
abbrev cX7_reach : ByteArray := prog_1_method_14_code
def yX7_reach : MethodName := ⟨RX7, "reach", "(II)I"⟩
abbrev cX7_wind : ByteArray := prog_1_method_15_code
def yX7_wind : MethodName := ⟨RX7, "wind", "(III)I"⟩
abbrev cX7_read : ByteArray := prog_1_method_16_code
def yX7_read : MethodName := ⟨RX7, "read", "(IIIIII)I"⟩
abbrev cX7_felt : ByteArray := prog_1_method_17_code
def yX7_felt : MethodName := ⟨RX7, "felt", "(II)I"⟩
abbrev cX7_forget : ByteArray := prog_1_method_18_code
def yX7_forget : MethodName := ⟨RX7, "forget", "()I"⟩
abbrev cX7_fits : ByteArray := prog_1_method_19_code
def yX7_fits : MethodName := ⟨RX7, "fits", "(I)I"⟩
abbrev cX7_ask : ByteArray := prog_1_method_20_code
def yX7_ask : MethodName := ⟨RX7, "ask", "(I)I"⟩
abbrev cX7_pull : ByteArray := prog_1_method_21_code
def yX7_pull : MethodName := ⟨RX7, "pull", "(IIII)I"⟩
abbrev cX7_passed : ByteArray := prog_1_method_22_code
def yX7_passed : MethodName := ⟨RX7, "passed", "(IIII)J"⟩
abbrev cX7_year : ByteArray := prog_1_method_23_code
def yX7_year : MethodName := ⟨RX7, "year", "(III)I"⟩
abbrev cX7_runYear : ByteArray := prog_1_method_24_code
def yX7_runYear : MethodName := ⟨RX7, "runYear", "(II)I"⟩
abbrev cX7_kindByDraw : ByteArray := prog_1_method_25_code
def yX7_kindByDraw : MethodName := ⟨RX7, "kindByDraw", "(I)I"⟩
abbrev cX7_image : ByteArray := prog_1_method_26_code
def yX7_image : MethodName := ⟨RX7, "image", "(I)I"⟩
abbrev cX7_restore : ByteArray := prog_1_method_27_code
def yX7_restore : MethodName := ⟨RX7, "restore", "(I)I"⟩
abbrev cX7_imageAt : ByteArray := prog_1_method_28_code
def yX7_imageAt : MethodName := ⟨RX7, "imageAt", "(I)LMittenLine$Image;"⟩
abbrev cX7_told : ByteArray := prog_1_method_29_code
def yX7_told : MethodName := ⟨RX7, "told", "(I)I"⟩
abbrev cX7_toldOfOne : ByteArray := prog_1_method_30_code
def yX7_toldOfOne : MethodName := ⟨RX7, "toldOfOne", "(I)I"⟩
abbrev cX7_isWithin : ByteArray := prog_1_method_31_code
def yX7_isWithin : MethodName := ⟨RX7, "isWithin", "(III)Z"⟩
abbrev cX7_digitCount : ByteArray := prog_1_method_32_code
def yX7_digitCount : MethodName := ⟨RX7, "digitCount", "(I)I"⟩
abbrev cX7_leastBit : ByteArray := prog_1_method_33_code
def yX7_leastBit : MethodName := ⟨RX7, "leastBit", "(I)I"⟩
abbrev cX7_power : ByteArray := prog_1_method_34_code
def yX7_power : MethodName := ⟨RX7, "power", "(JI)J"⟩
abbrev cX7_lowestTerm : ByteArray := prog_1_method_35_code
def yX7_lowestTerm : MethodName := ⟨RX7, "lowestTerm", "(JJI)J"⟩
abbrev cX7_commonDivisor : ByteArray := prog_1_method_36_code
def yX7_commonDivisor : MethodName := ⟨RX7, "commonDivisor", "(JJ)J"⟩
def RX8 : String := "MittenLineModel"
def TX8 : u_T := fun k => match k with
  | 0 => ("MittenLineModel", "yard", "[I", true)
  | 1 => ("MittenLineModel", "feels", "[I", true)
  | 2 => ("MittenLineModel", "length", "[I", true)
  | 3 => ("MittenLineModel", "holding", "I", false)
  | 4 => ("MittenLineModel", "wool", "I", false)
  | 5 => ("MittenLineModel", "days", "I", false)
  | 6 => ("MittenLineModel", "sightChild", "[I", true)
  | 7 => ("MittenLineModel", "sightFelt", "[I", true)
  | 8 => ("MittenLineModel", "sights", "I", false)
  | 9 => ("MittenLineModel", "pad", "[I", true)
  | 10 => ("MittenLineModel", "padMany", "I", false)
  | 11 => ("MittenLineModel", "act", "[I", true)
  | 12 => ("MittenLineModel", "who", "[I", true)
  | 13 => ("MittenLineModel", "much", "[I", true)
  | 14 => ("MittenLineModel", "acts", "I", false)
  | 15 => ("MittenLineModel", "then", "[I", true)
  | 16 => ("MittenLineModel", "drawnBits", "I", false)
  | 17 => ("MittenLineModel", "drawnMany", "I", false)
  | 18 => ("MittenLineModel", "drawnNow", "I", false)
  | 19 => ("MittenLineModel", "had", "[I", true)
  | 20 => ("MittenLineModel", "badAct", "I", false)
  | 21 => ("MittenLineModel", "badWhy", "I", false)
  | 22 => ("MittenLineModel", "drawnAct", "I", false)
  | 23 => ("MittenLineModel", "drawnChild", "I", false)
  | 24 => ("MittenLineModel", "balls", "[I", true)
  | 25 => ("MittenLineModel", "least", "[I", true)
  | 26 => ("MittenLineModel", "most", "[I", true)
  | 27 => ("MittenLineModel", "words", "[I", true)
  | 28 => ("MittenLineModel", "signs", "[I", true)
  | 29 => ("MittenLineModel", "readings", "[I", true)
  | 30 => ("MittenLineModel", "fewest", "[I", true)
  | 31 => ("MittenLineModel", "byFelt", "[I", true)
  | 32 => ("MittenLineModel", "wins", "[Z", true)
  | 33 => ("MittenLineModel", "kept", "[I", true)
  | 34 => ("MittenLineModel", "isKept", "[Z", true)
  | 35 => ("MittenLineModel", "keptAt", "I", false)
  | _ => ("MittenLineModel", "isWriting", "Z", false)
def tyX8 : Nat → FieldType := fun k => match k with
  | 0 => .array .int
  | 1 => .array .int
  | 2 => .array .int
  | 3 => .int
  | 4 => .int
  | 5 => .int
  | 6 => .array .int
  | 7 => .array .int
  | 8 => .int
  | 9 => .array .int
  | 10 => .int
  | 11 => .array .int
  | 12 => .array .int
  | 13 => .array .int
  | 14 => .int
  | 15 => .array .int
  | 16 => .int
  | 17 => .int
  | 18 => .int
  | 19 => .array .int
  | 20 => .int
  | 21 => .int
  | 22 => .int
  | 23 => .int
  | 24 => .array .int
  | 25 => .array .int
  | 26 => .array .int
  | 27 => .array .int
  | 28 => .array .int
  | 29 => .array .int
  | 30 => .array .int
  | 31 => .array .int
  | 32 => .array .boolean
  | 33 => .array .int
  | 34 => .array .boolean
  | 35 => .int
  | _ => .boolean
abbrev wsX80 : List Cond := u_ws RX8 TX8 37
theorem nmX8 : ∀ a, a < 37 → ∀ b, b < 37 → a ≠ b → (TX8 a).2.1 ≠ (TX8 b).2.1 := by decide +kernel
theorem tyX8_ok : ∀ k, k < 37 → parseFieldDescriptor (TX8 k).2.2.1 = some (tyX8 k) := by decide +kernel
abbrev cX8_init : ByteArray := prog_10_method_1_code
def yX8_init : MethodName := ⟨RX8, "<init>", "()V"⟩
abbrev cX8_in : ByteArray := prog_10_method_3_code
def yX8_in : MethodName := ⟨RX8, "in", "(JJJ)Z"⟩
abbrev cX8_isChild : ByteArray := prog_10_method_4_code
def yX8_isChild : MethodName := ⟨RX8, "isChild", "(I)Z"⟩
abbrev cX8_has : ByteArray := prog_10_method_5_code
def yX8_has : MethodName := ⟨RX8, "has", "(II)Z"⟩
abbrev cX8_less : ByteArray := prog_10_method_6_code
def yX8_less : MethodName := ⟨RX8, "less", "(II)I"⟩
abbrev cX8_off : ByteArray := prog_10_method_7_code
def yX8_off : MethodName := ⟨RX8, "off", "(II)I"⟩
abbrev cX8_isReached : ByteArray := prog_10_method_8_code
def yX8_isReached : MethodName := ⟨RX8, "isReached", "(II)Z"⟩
abbrev cX8_child : ByteArray := prog_10_method_9_code
def yX8_child : MethodName := ⟨RX8, "child", "(III)I"⟩
abbrev cX8_string : ByteArray := prog_10_method_10_code
def yX8_string : MethodName := ⟨RX8, "string", "(II)I"⟩
abbrev cX8_ball : ByteArray := prog_10_method_11_code
def yX8_ball : MethodName := ⟨RX8, "ball", "(I)I"⟩
abbrev cX8_say : ByteArray := prog_10_method_12_code
def yX8_say : MethodName := ⟨RX8, "say", "(I)I"⟩
abbrev cX8_wipe : ByteArray := prog_10_method_13_code
def yX8_wipe : MethodName := ⟨RX8, "wipe", "()I"⟩
abbrev cX8_close : ByteArray := prog_10_method_14_code
def yX8_close : MethodName := ⟨RX8, "close", "(I)I"⟩
abbrev cX8_begin : ByteArray := prog_10_method_15_code
def yX8_begin : MethodName := ⟨RX8, "begin", "(I)I"⟩
abbrev cX8_deed : ByteArray := prog_10_method_16_code
def yX8_deed : MethodName := ⟨RX8, "deed", "(I)I"⟩
abbrev cX8_digit : ByteArray := prog_10_method_17_code
def yX8_digit : MethodName := ⟨RX8, "digit", "(II)I"⟩
abbrev cX8_readOn : ByteArray := prog_10_method_18_code
def yX8_readOn : MethodName := ⟨RX8, "readOn", "(II)I"⟩
abbrev cX8_fault : ByteArray := prog_10_method_19_code
def yX8_fault : MethodName := ⟨RX8, "fault", "()I"⟩
abbrev cX8_draws : ByteArray := prog_10_method_20_code
def yX8_draws : MethodName := ⟨RX8, "draws", "(III)Z"⟩
abbrev cX8_findThen : ByteArray := prog_10_method_21_code
def yX8_findThen : MethodName := ⟨RX8, "findThen", "(II)V"⟩
abbrev cX8_whyNotGo : ByteArray := prog_10_method_22_code
def yX8_whyNotGo : MethodName := ⟨RX8, "whyNotGo", "(II)I"⟩
abbrev cX8_isTaut : ByteArray := prog_10_method_23_code
def yX8_isTaut : MethodName := ⟨RX8, "isTaut", "(I)Z"⟩
abbrev cX8_whyNotLet : ByteArray := prog_10_method_24_code
def yX8_whyNotLet : MethodName := ⟨RX8, "whyNotLet", "(I)I"⟩
abbrev cX8_whyNotTake : ByteArray := prog_10_method_25_code
def yX8_whyNotTake : MethodName := ⟨RX8, "whyNotTake", "(I)I"⟩
abbrev cX8_whyNot : ByteArray := prog_10_method_26_code
def yX8_whyNot : MethodName := ⟨RX8, "whyNot", "(III)I"⟩
abbrev cX8_ones : ByteArray := prog_10_method_27_code
def yX8_ones : MethodName := ⟨RX8, "ones", "(I)I"⟩
abbrev cX8_go : ByteArray := prog_10_method_28_code
def yX8_go : MethodName := ⟨RX8, "go", "(II)V"⟩
abbrev cX8_feel : ByteArray := prog_10_method_29_code
def yX8_feel : MethodName := ⟨RX8, "feel", "(II)V"⟩
abbrev cX8_squeeze : ByteArray := prog_10_method_30_code
def yX8_squeeze : MethodName := ⟨RX8, "squeeze", "(II)V"⟩
abbrev cX8_passDay : ByteArray := prog_10_method_31_code
def yX8_passDay : MethodName := ⟨RX8, "passDay", "()V"⟩
abbrev cX8_happen : ByteArray := prog_10_method_32_code
def yX8_happen : MethodName := ⟨RX8, "happen", "(III)V"⟩
abbrev cX8_keepNow : ByteArray := prog_10_method_33_code
def yX8_keepNow : MethodName := ⟨RX8, "keepNow", "()V"⟩
abbrev cX8_back : ByteArray := prog_10_method_34_code
def yX8_back : MethodName := ⟨RX8, "back", "(I)I"⟩
abbrev cX8_leastOf : ByteArray := prog_10_method_35_code
def yX8_leastOf : MethodName := ⟨RX8, "leastOf", "(I)I"⟩
abbrev cX8_goOne : ByteArray := prog_10_method_36_code
def yX8_goOne : MethodName := ⟨RX8, "goOne", "(I)V"⟩
abbrev cX8_goDays : ByteArray := prog_10_method_37_code
def yX8_goDays : MethodName := ⟨RX8, "goDays", "()V"⟩
abbrev cX8_refusal : ByteArray := prog_10_method_38_code
def yX8_refusal : MethodName := ⟨RX8, "refusal", "()I"⟩
abbrev cX8_judge : ByteArray := prog_10_method_39_code
def yX8_judge : MethodName := ⟨RX8, "judge", "(I)I"⟩
abbrev cX8_behind : ByteArray := prog_10_method_40_code
def yX8_behind : MethodName := ⟨RX8, "behind", "(II)I"⟩
abbrev cX8_taut : ByteArray := prog_10_method_41_code
def yX8_taut : MethodName := ⟨RX8, "taut", "()I"⟩
abbrev cX8_allYards : ByteArray := prog_10_method_42_code
def yX8_allYards : MethodName := ⟨RX8, "allYards", "()I"⟩
abbrev cX8_line : ByteArray := prog_10_method_43_code
def yX8_line : MethodName := ⟨RX8, "line", "(I)I"⟩
abbrev cX8_drawn : ByteArray := prog_10_method_44_code
def yX8_drawn : MethodName := ⟨RX8, "drawn", "(I)I"⟩
abbrev cX8_done : ByteArray := prog_10_method_45_code
def yX8_done : MethodName := ⟨RX8, "done", "()I"⟩
abbrev cX8_reach : ByteArray := prog_10_method_46_code
def yX8_reach : MethodName := ⟨RX8, "reach", "(II)I"⟩
abbrev cX8_readBalls : ByteArray := prog_10_method_47_code
def yX8_readBalls : MethodName := ⟨RX8, "readBalls", "(II)Z"⟩
abbrev cX8_sizeOf : ByteArray := prog_10_method_48_code
def yX8_sizeOf : MethodName := ⟨RX8, "sizeOf", "(II)I"⟩
abbrev cX8_windOne : ByteArray := prog_10_method_49_code
def yX8_windOne : MethodName := ⟨RX8, "windOne", "(II)V"⟩
abbrev cX8_wind : ByteArray := prog_10_method_50_code
def yX8_wind : MethodName := ⟨RX8, "wind", "(III)I"⟩
abbrev cX8_digitsOf : ByteArray := prog_10_method_51_code
def yX8_digitsOf : MethodName := ⟨RX8, "digitsOf", "(I)I"⟩
abbrev cX8_isWord : ByteArray := prog_10_method_52_code
def yX8_isWord : MethodName := ⟨RX8, "isWord", "(III)Z"⟩
abbrev cX8_isAnew : ByteArray := prog_10_method_53_code
def yX8_isAnew : MethodName := ⟨RX8, "isAnew", "(I)Z"⟩
abbrev cX8_readFrom : ByteArray := prog_10_method_54_code
def yX8_readFrom : MethodName := ⟨RX8, "readFrom", "(II)V"⟩
abbrev cX8_isAWord : ByteArray := prog_10_method_55_code
def yX8_isAWord : MethodName := ⟨RX8, "isAWord", "(I)Z"⟩
abbrev cX8_read : ByteArray := prog_10_method_56_code
def yX8_read : MethodName := ⟨RX8, "read", "(IIIIII)I"⟩
abbrev cX8_felt : ByteArray := prog_10_method_57_code
def yX8_felt : MethodName := ⟨RX8, "felt", "(II)I"⟩
abbrev cX8_forget : ByteArray := prog_10_method_58_code
def yX8_forget : MethodName := ⟨RX8, "forget", "()I"⟩
abbrev cX8_feltBy : ByteArray := prog_10_method_59_code
def yX8_feltBy : MethodName := ⟨RX8, "feltBy", "(II)I"⟩
abbrev cX8_isFit : ByteArray := prog_10_method_60_code
def yX8_isFit : MethodName := ⟨RX8, "isFit", "(I)Z"⟩
abbrev cX8_fits : ByteArray := prog_10_method_61_code
def yX8_fits : MethodName := ⟨RX8, "fits", "(I)I"⟩
abbrev cX8_mostLeft : ByteArray := prog_10_method_62_code
def yX8_mostLeft : MethodName := ⟨RX8, "mostLeft", "(I)I"⟩
abbrev cX8_ask : ByteArray := prog_10_method_63_code
def yX8_ask : MethodName := ⟨RX8, "ask", "(I)I"⟩
abbrev cX8_leastPull : ByteArray := prog_10_method_64_code
def yX8_leastPull : MethodName := ⟨RX8, "leastPull", "(III)I"⟩
abbrev cX8_pull : ByteArray := prog_10_method_65_code
def yX8_pull : MethodName := ⟨RX8, "pull", "(IIII)I"⟩
abbrev cX8_lowest : ByteArray := prog_10_method_66_code
def yX8_lowest : MethodName := ⟨RX8, "lowest", "(JJI)J"⟩
abbrev cX8_passed : ByteArray := prog_10_method_67_code
def yX8_passed : MethodName := ⟨RX8, "passed", "(IIII)J"⟩
abbrev cX8_actBy : ByteArray := prog_10_method_68_code
def yX8_actBy : MethodName := ⟨RX8, "actBy", "(I)I"⟩
abbrev cX8_year : ByteArray := prog_10_method_69_code
def yX8_year : MethodName := ⟨RX8, "year", "(III)I"⟩
abbrev cX8_pass : ByteArray := prog_10_method_70_code
def yX8_pass : MethodName := ⟨RX8, "pass", "(I)I"⟩
abbrev cX8_passRow : ByteArray := prog_10_method_71_code
def yX8_passRow : MethodName := ⟨RX8, "passRow", "([II)V"⟩
abbrev cX8_passAll : ByteArray := prog_10_method_72_code
def yX8_passAll : MethodName := ⟨RX8, "passAll", "()V"⟩
abbrev cX8_image : ByteArray := prog_10_method_73_code
def yX8_image : MethodName := ⟨RX8, "image", "(I)I"⟩
abbrev cX8_restore : ByteArray := prog_10_method_74_code
def yX8_restore : MethodName := ⟨RX8, "restore", "(I)I"⟩
abbrev cX8_told : ByteArray := prog_10_method_75_code
def yX8_told : MethodName := ⟨RX8, "told", "(I)I"⟩
def RJ6 : String := "java/lang/Integer"
def TJ6 : u_T := fun k => match k with
  | _ => ("", "", "", false)
def tyJ6 : Nat → FieldType := fun k => match k with
  | _ => .int
abbrev wsJ60 : List Cond := u_ws RJ6 TJ6 0
theorem nmJ6 : ∀ a, a < 0 → ∀ b, b < 0 → a ≠ b → (TJ6 a).2.1 ≠ (TJ6 b).2.1 := by decide +kernel
theorem tyJ6_ok : ∀ k, k < 0 → parseFieldDescriptor (TJ6 k).2.2.1 = some (tyJ6 k) := by decide +kernel
abbrev cJ6_bitCount_0f7a4 : ByteArray := prog_11_method_49_code
def yJ6_bitCount_0f7a4 : MethodName := ⟨RJ6, "bitCount", "(I)I"⟩
def RJ9 : String := "java/lang/Math"
def TJ9 : u_T := fun k => match k with
  | _ => ("", "", "", false)
def tyJ9 : Nat → FieldType := fun k => match k with
  | _ => .int
abbrev wsJ90 : List Cond := u_ws RJ9 TJ9 0
theorem nmJ9 : ∀ a, a < 0 → ∀ b, b < 0 → a ≠ b → (TJ9 a).2.1 ≠ (TJ9 b).2.1 := by decide +kernel
theorem tyJ9_ok : ∀ k, k < 0 → parseFieldDescriptor (TJ9 k).2.2.1 = some (tyJ9 k) := by decide +kernel
abbrev cJ9_abs_0f7a4 : ByteArray := prog_12_method_59_code
def yJ9_abs_0f7a4 : MethodName := ⟨RJ9, "abs", "(I)I"⟩
abbrev cJ9_max_7cf53 : ByteArray := prog_12_method_65_code
def yJ9_max_7cf53 : MethodName := ⟨RJ9, "max", "(II)I"⟩
abbrev cJ9_min_7cf53 : ByteArray := prog_12_method_69_code
def yJ9_min_7cf53 : MethodName := ⟨RJ9, "min", "(II)I"⟩
def RL : String := "MittenLineLaw"
abbrev cL_law : ByteArray := code
def yL_law : MethodName := ⟨RL, "law", "([I)Z"⟩
def wsX0_init : List Cond := .code yX0_init cX0_init 1 none :: ([.methodLink RX0 3 objectInit, .instanceMethod objectInit, .code objectInit ⟨#[0xb1]⟩ 1 none])
def wsX0_begin : List Cond := .code yX0_begin cX0_begin 1 none :: ([.fieldLink RX0 9 "MittenLine$Course" "acts" "I", .fieldLink RX0 15 "MittenLine$Course" "badAct" "I", .fieldLink RX0 18 "MittenLine$Course" "badWhy" "I", .fieldLink RX0 21 "MittenLine$Course" "drawnCount" "I", .fieldLink RX0 24 "MittenLine$Course" "drawAct" "I", .fieldLink RX0 27 "MittenLine$Course" "drawChild" "I"] ++ wsX00)
def wsX7_isWithin : List Cond := .code yX7_isWithin cX7_isWithin 3 (some .boolean) :: ([])
def wsX5_planDraw : List Cond := .code yX5_planDraw cX5_planDraw 4 (some .boolean) :: ([.fieldLink RX5 21 "MittenLine$Row" "plan" "[I"] ++ wsX50)
def wsX5_planStep : List Cond := .code yX5_planStep cX5_planStep 5 (some .int) :: ([.fieldLink RX5 21 "MittenLine$Row" "plan" "[I", .fieldLink RX5 9 "MittenLine$Row" "yards" "[I", .fieldLink RX5 18 "MittenLine$Row" "lengths" "[I", .methodLink RX5 84 yX5_planDraw, .instanceMethod yX5_planDraw, .selects RX5 yX5_planDraw yX5_planDraw, .initialized RX5, .code yX5_planDraw cX5_planDraw 4 (some .boolean)] ++ wsX50)
def wsX5_whyNotStep : List Cond := .code yX5_whyNotStep cX5_whyNotStep 4 (some .int) :: ([.fieldLink RX5 28 "MittenLine$Row" "holding" "I", .static yX7_isWithin, .initialized RX7, .code yX7_isWithin cX7_isWithin 3 (some .boolean), .methodLink RX5 61 yX5_planStep, .instanceMethod yX5_planStep, .selects RX5 yX5_planStep yX5_planStep, .initialized RX5, .code yX5_planStep cX5_planStep 5 (some .int), .fieldLink RX5 21 "MittenLine$Row" "plan" "[I", .fieldLink RX5 9 "MittenLine$Row" "yards" "[I", .fieldLink RX5 18 "MittenLine$Row" "lengths" "[I", .methodLink RX5 84 yX5_planDraw, .instanceMethod yX5_planDraw, .selects RX5 yX5_planDraw yX5_planDraw, .code yX5_planDraw cX5_planDraw 4 (some .boolean)] ++ wsX50)
def wsX5_whyNotLetOut : List Cond := .code yX5_whyNotLetOut cX5_whyNotLetOut 2 (some .int) :: ([.fieldLink RX5 24 "MittenLine$Row" "wool" "I", .fieldLink RX5 18 "MittenLine$Row" "lengths" "[I"] ++ wsX50)
def wsX5_apart : List Cond := .code yX5_apart cX5_apart 2 (some .int) :: ([.fieldLink RX5 9 "MittenLine$Row" "yards" "[I", .methodLink RX5 34 Lib.Math.abs.name, .static Lib.Math.abs.name, .initialized "java/lang/Math", .code Lib.Math.abs.name Lib.Math.abs.code 1 (some .int)] ++ wsX50)
def wsX5_isTaut : List Cond := .code yX5_isTaut cX5_isTaut 2 (some .boolean) :: ([.fieldLink RX5 18 "MittenLine$Row" "lengths" "[I", .methodLink RX5 40 yX5_apart, .instanceMethod yX5_apart, .selects RX5 yX5_apart yX5_apart, .initialized RX5, .code yX5_apart cX5_apart 2 (some .int), .fieldLink RX5 9 "MittenLine$Row" "yards" "[I", .methodLink RX5 34 Lib.Math.abs.name, .static Lib.Math.abs.name, .initialized "java/lang/Math", .code Lib.Math.abs.name Lib.Math.abs.code 1 (some .int)] ++ wsX50)
def wsX5_whyNotWind : List Cond := .code yX5_whyNotWind cX5_whyNotWind 2 (some .int) :: ([.fieldLink RX5 18 "MittenLine$Row" "lengths" "[I", .methodLink RX5 43 yX5_isTaut, .instanceMethod yX5_isTaut, .selects RX5 yX5_isTaut yX5_isTaut, .initialized RX5, .code yX5_isTaut cX5_isTaut 2 (some .boolean), .methodLink RX5 40 yX5_apart, .instanceMethod yX5_apart, .selects RX5 yX5_apart yX5_apart, .code yX5_apart cX5_apart 2 (some .int), .fieldLink RX5 9 "MittenLine$Row" "yards" "[I", .methodLink RX5 34 Lib.Math.abs.name, .static Lib.Math.abs.name, .initialized "java/lang/Math", .code Lib.Math.abs.name Lib.Math.abs.code 1 (some .int)] ++ wsX50)
def wsX5_whyNot_r1 : List Cond := [Cond.fieldLink RX5 9 "MittenLine$Row" "yards" "[I", Cond.fieldLink RX5 31 "MittenLine$Row" "day" "I", Cond.methodLink RX5 47 yX5_whyNotStep, Cond.instanceMethod yX5_whyNotStep, Cond.selects RX5 yX5_whyNotStep yX5_whyNotStep, Cond.initialized RX5, Cond.code yX5_whyNotStep cX5_whyNotStep 4 (some .int), Cond.fieldLink RX5 28 "MittenLine$Row" "holding" "I", Cond.static yX7_isWithin, Cond.initialized RX7, Cond.code yX7_isWithin cX7_isWithin 3 (some .boolean), Cond.methodLink RX5 61 yX5_planStep, Cond.instanceMethod yX5_planStep, Cond.selects RX5 yX5_planStep yX5_planStep, Cond.code yX5_planStep cX5_planStep 5 (some .int), Cond.fieldLink RX5 21 "MittenLine$Row" "plan" "[I", Cond.fieldLink RX5 18 "MittenLine$Row" "lengths" "[I", Cond.methodLink RX5 84 yX5_planDraw, Cond.instanceMethod yX5_planDraw, Cond.selects RX5 yX5_planDraw yX5_planDraw, Cond.code yX5_planDraw cX5_planDraw 4 (some .boolean), Cond.methodLink RX5 51 yX5_whyNotLetOut, Cond.instanceMethod yX5_whyNotLetOut, Cond.selects RX5 yX5_whyNotLetOut yX5_whyNotLetOut]
def wsX5_whyNot_r2 : List Cond := [Cond.code yX5_whyNotLetOut cX5_whyNotLetOut 2 (some .int), Cond.fieldLink RX5 24 "MittenLine$Row" "wool" "I", Cond.methodLink RX5 54 yX5_whyNotWind, Cond.instanceMethod yX5_whyNotWind, Cond.selects RX5 yX5_whyNotWind yX5_whyNotWind, Cond.code yX5_whyNotWind cX5_whyNotWind 2 (some .int), Cond.methodLink RX5 43 yX5_isTaut, Cond.instanceMethod yX5_isTaut, Cond.selects RX5 yX5_isTaut yX5_isTaut, Cond.code yX5_isTaut cX5_isTaut 2 (some .boolean), Cond.methodLink RX5 40 yX5_apart, Cond.instanceMethod yX5_apart, Cond.selects RX5 yX5_apart yX5_apart, Cond.code yX5_apart cX5_apart 2 (some .int), Cond.methodLink RX5 34 Lib.Math.abs.name, Cond.static Lib.Math.abs.name, Cond.initialized "java/lang/Math", Cond.code Lib.Math.abs.name Lib.Math.abs.code 1 (some .int)]
def wsX5_whyNot : List Cond := .code yX5_whyNot cX5_whyNot 4 (some .int) :: ((wsX5_whyNot_r1 ++ wsX5_whyNot_r2) ++ wsX50)
def wsX5_step : List Cond := .code yX5_step cX5_step 5 (some .int) :: ([.fieldLink RX5 9 "MittenLine$Row" "yards" "[I", .fieldLink RX5 21 "MittenLine$Row" "plan" "[I", .methodLink RX5 61 yX5_planStep, .instanceMethod yX5_planStep, .selects RX5 yX5_planStep yX5_planStep, .initialized RX5, .code yX5_planStep cX5_planStep 5 (some .int), .fieldLink RX5 18 "MittenLine$Row" "lengths" "[I", .methodLink RX5 84 yX5_planDraw, .instanceMethod yX5_planDraw, .selects RX5 yX5_planDraw yX5_planDraw, .code yX5_planDraw cX5_planDraw 4 (some .boolean)] ++ wsX50)
def wsX5_turnHold : List Cond := .code yX5_turnHold cX5_turnHold 2 none :: ([.fieldLink RX5 28 "MittenLine$Row" "holding" "I"] ++ wsX50)
def wsX5_lossBy : List Cond := .code yX5_lossBy cX5_lossBy 2 (some .int) :: ([.methodLink RX5 43 yX5_isTaut, .instanceMethod yX5_isTaut, .selects RX5 yX5_isTaut yX5_isTaut, .initialized RX5, .code yX5_isTaut cX5_isTaut 2 (some .boolean), .fieldLink RX5 18 "MittenLine$Row" "lengths" "[I", .methodLink RX5 40 yX5_apart, .instanceMethod yX5_apart, .selects RX5 yX5_apart yX5_apart, .code yX5_apart cX5_apart 2 (some .int), .fieldLink RX5 9 "MittenLine$Row" "yards" "[I", .methodLink RX5 34 Lib.Math.abs.name, .static Lib.Math.abs.name, .initialized "java/lang/Math", .code Lib.Math.abs.name Lib.Math.abs.code 1 (some .int)] ++ wsX50)
def wsX5_feelMore : List Cond := .code yX5_feelMore cX5_feelMore 3 none :: ([.fieldLink RX5 15 "MittenLine$Row" "feels" "[I", .methodLink RX5 93 Lib.Math.min.name, .static Lib.Math.min.name, .initialized "java/lang/Math", .code Lib.Math.min.name Lib.Math.min.code 2 (some .int)] ++ wsX50)
def wsX5_squeeze_r1 : List Cond := [Cond.methodLink RX5 87 yX5_lossBy, Cond.instanceMethod yX5_lossBy, Cond.selects RX5 yX5_lossBy yX5_lossBy, Cond.initialized RX5, Cond.code yX5_lossBy cX5_lossBy 2 (some .int), Cond.methodLink RX5 43 yX5_isTaut, Cond.instanceMethod yX5_isTaut, Cond.selects RX5 yX5_isTaut yX5_isTaut, Cond.code yX5_isTaut cX5_isTaut 2 (some .boolean), Cond.fieldLink RX5 18 "MittenLine$Row" "lengths" "[I", Cond.methodLink RX5 40 yX5_apart, Cond.instanceMethod yX5_apart, Cond.selects RX5 yX5_apart yX5_apart, Cond.code yX5_apart cX5_apart 2 (some .int), Cond.fieldLink RX5 9 "MittenLine$Row" "yards" "[I", Cond.methodLink RX5 34 Lib.Math.abs.name, Cond.static Lib.Math.abs.name, Cond.initialized "java/lang/Math", Cond.code Lib.Math.abs.name Lib.Math.abs.code 1 (some .int), Cond.methodLink RX5 90 yX5_feelMore, Cond.instanceMethod yX5_feelMore, Cond.selects RX5 yX5_feelMore yX5_feelMore, Cond.code yX5_feelMore cX5_feelMore 3 none, Cond.fieldLink RX5 15 "MittenLine$Row" "feels" "[I"]
def wsX5_squeeze_r2 : List Cond := [Cond.methodLink RX5 93 Lib.Math.min.name, Cond.static Lib.Math.min.name, Cond.code Lib.Math.min.name Lib.Math.min.code 2 (some .int)]
def wsX5_squeeze : List Cond := .code yX5_squeeze cX5_squeeze 5 none :: ((wsX5_squeeze_r1 ++ wsX5_squeeze_r2) ++ wsX50)
def wsX5_letOut : List Cond := .code yX5_letOut cX5_letOut 2 none :: ([.fieldLink RX5 18 "MittenLine$Row" "lengths" "[I", .fieldLink RX5 24 "MittenLine$Row" "wool" "I"] ++ wsX50)
def wsX5_windIn : List Cond := .code yX5_windIn cX5_windIn 2 none :: ([.fieldLink RX5 18 "MittenLine$Row" "lengths" "[I", .fieldLink RX5 24 "MittenLine$Row" "wool" "I", .methodLink RX5 93 Lib.Math.min.name, .static Lib.Math.min.name, .initialized "java/lang/Math", .code Lib.Math.min.name Lib.Math.min.code 2 (some .int)] ++ wsX50)
def wsX5_nextDay : List Cond := .code yX5_nextDay cX5_nextDay 2 none :: ([.fieldLink RX5 31 "MittenLine$Row" "day" "I", .fieldLink RX5 15 "MittenLine$Row" "feels" "[I"] ++ wsX50)
def wsX5_act_r1 : List Cond := [Cond.fieldLink RX5 9 "MittenLine$Row" "yards" "[I", Cond.methodLink RX5 64 yX5_step, Cond.instanceMethod yX5_step, Cond.selects RX5 yX5_step yX5_step, Cond.initialized RX5, Cond.code yX5_step cX5_step 5 (some .int), Cond.fieldLink RX5 21 "MittenLine$Row" "plan" "[I", Cond.methodLink RX5 61 yX5_planStep, Cond.instanceMethod yX5_planStep, Cond.selects RX5 yX5_planStep yX5_planStep, Cond.code yX5_planStep cX5_planStep 5 (some .int), Cond.fieldLink RX5 18 "MittenLine$Row" "lengths" "[I", Cond.methodLink RX5 84 yX5_planDraw, Cond.instanceMethod yX5_planDraw, Cond.selects RX5 yX5_planDraw yX5_planDraw, Cond.code yX5_planDraw cX5_planDraw 4 (some .boolean), Cond.methodLink RX5 67 yX5_turnHold, Cond.instanceMethod yX5_turnHold, Cond.selects RX5 yX5_turnHold yX5_turnHold, Cond.code yX5_turnHold cX5_turnHold 2 none, Cond.fieldLink RX5 28 "MittenLine$Row" "holding" "I", Cond.methodLink RX5 71 yX5_squeeze, Cond.instanceMethod yX5_squeeze, Cond.selects RX5 yX5_squeeze yX5_squeeze]
def wsX5_act_r2 : List Cond := [Cond.code yX5_squeeze cX5_squeeze 5 none, Cond.methodLink RX5 87 yX5_lossBy, Cond.instanceMethod yX5_lossBy, Cond.selects RX5 yX5_lossBy yX5_lossBy, Cond.code yX5_lossBy cX5_lossBy 2 (some .int), Cond.methodLink RX5 43 yX5_isTaut, Cond.instanceMethod yX5_isTaut, Cond.selects RX5 yX5_isTaut yX5_isTaut, Cond.code yX5_isTaut cX5_isTaut 2 (some .boolean), Cond.methodLink RX5 40 yX5_apart, Cond.instanceMethod yX5_apart, Cond.selects RX5 yX5_apart yX5_apart, Cond.code yX5_apart cX5_apart 2 (some .int), Cond.methodLink RX5 34 Lib.Math.abs.name, Cond.static Lib.Math.abs.name, Cond.initialized "java/lang/Math", Cond.code Lib.Math.abs.name Lib.Math.abs.code 1 (some .int), Cond.methodLink RX5 90 yX5_feelMore, Cond.instanceMethod yX5_feelMore, Cond.selects RX5 yX5_feelMore yX5_feelMore, Cond.code yX5_feelMore cX5_feelMore 3 none, Cond.fieldLink RX5 15 "MittenLine$Row" "feels" "[I", Cond.methodLink RX5 93 Lib.Math.min.name, Cond.static Lib.Math.min.name]
def wsX5_act_r3 : List Cond := [Cond.code Lib.Math.min.name Lib.Math.min.code 2 (some .int), Cond.methodLink RX5 75 yX5_letOut, Cond.instanceMethod yX5_letOut, Cond.selects RX5 yX5_letOut yX5_letOut, Cond.code yX5_letOut cX5_letOut 2 none, Cond.fieldLink RX5 24 "MittenLine$Row" "wool" "I", Cond.methodLink RX5 78 yX5_windIn, Cond.instanceMethod yX5_windIn, Cond.selects RX5 yX5_windIn yX5_windIn, Cond.code yX5_windIn cX5_windIn 2 none, Cond.methodLink RX5 81 yX5_nextDay, Cond.instanceMethod yX5_nextDay, Cond.selects RX5 yX5_nextDay yX5_nextDay, Cond.code yX5_nextDay cX5_nextDay 2 none, Cond.fieldLink RX5 31 "MittenLine$Row" "day" "I"]
def wsX5_act : List Cond := .code yX5_act cX5_act 4 (some .int) :: ((wsX5_act_r1 ++ (wsX5_act_r2 ++ wsX5_act_r3)) ++ wsX50)
def wsX7_leastBit : List Cond := .code yX7_leastBit cX7_leastBit 2 (some .int) :: ([])
def wsJ6_bitCount_0f7a4 : List Cond := .code yJ6_bitCount_0f7a4 cJ6_bitCount_0f7a4 1 (some .int) :: ([.constant RJ6 265 (1431655765), .constant RJ6 266 (858993459), .constant RJ6 267 (252645135)])
def wsX0_take_r1 : List Cond := [Cond.fieldLink RX0 9 "MittenLine$Course" "acts" "I", Cond.fieldLink RX0 15 "MittenLine$Course" "badAct" "I", Cond.fieldLink RX0 18 "MittenLine$Course" "badWhy" "I", Cond.fieldLink RX0 24 "MittenLine$Course" "drawAct" "I", Cond.fieldLink RX0 27 "MittenLine$Course" "drawChild" "I", Cond.fieldLink RX0 21 "MittenLine$Course" "drawnCount" "I", Cond.methodLink RX0 30 yX5_whyNot, Cond.instanceMethod yX5_whyNot, Cond.selects RX5 yX5_whyNot yX5_whyNot, Cond.initialized RX5, Cond.code yX5_whyNot cX5_whyNot 4 (some .int), Cond.fieldLink RX5 9 "MittenLine$Row" "yards" "[I", Cond.fieldLink RX5 31 "MittenLine$Row" "day" "I", Cond.methodLink RX5 47 yX5_whyNotStep, Cond.instanceMethod yX5_whyNotStep, Cond.selects RX5 yX5_whyNotStep yX5_whyNotStep, Cond.code yX5_whyNotStep cX5_whyNotStep 4 (some .int), Cond.fieldLink RX5 28 "MittenLine$Row" "holding" "I", Cond.static yX7_isWithin, Cond.initialized RX7, Cond.code yX7_isWithin cX7_isWithin 3 (some .boolean), Cond.methodLink RX5 61 yX5_planStep, Cond.instanceMethod yX5_planStep, Cond.selects RX5 yX5_planStep yX5_planStep]
def wsX0_take_r2 : List Cond := [Cond.code yX5_planStep cX5_planStep 5 (some .int), Cond.fieldLink RX5 21 "MittenLine$Row" "plan" "[I", Cond.fieldLink RX5 18 "MittenLine$Row" "lengths" "[I", Cond.methodLink RX5 84 yX5_planDraw, Cond.instanceMethod yX5_planDraw, Cond.selects RX5 yX5_planDraw yX5_planDraw, Cond.code yX5_planDraw cX5_planDraw 4 (some .boolean), Cond.methodLink RX5 51 yX5_whyNotLetOut, Cond.instanceMethod yX5_whyNotLetOut, Cond.selects RX5 yX5_whyNotLetOut yX5_whyNotLetOut, Cond.code yX5_whyNotLetOut cX5_whyNotLetOut 2 (some .int), Cond.fieldLink RX5 24 "MittenLine$Row" "wool" "I", Cond.methodLink RX5 54 yX5_whyNotWind, Cond.instanceMethod yX5_whyNotWind, Cond.selects RX5 yX5_whyNotWind yX5_whyNotWind, Cond.code yX5_whyNotWind cX5_whyNotWind 2 (some .int), Cond.methodLink RX5 43 yX5_isTaut, Cond.instanceMethod yX5_isTaut, Cond.selects RX5 yX5_isTaut yX5_isTaut, Cond.code yX5_isTaut cX5_isTaut 2 (some .boolean), Cond.methodLink RX5 40 yX5_apart, Cond.instanceMethod yX5_apart, Cond.selects RX5 yX5_apart yX5_apart, Cond.code yX5_apart cX5_apart 2 (some .int)]
def wsX0_take_r3 : List Cond := [Cond.methodLink RX5 34 Lib.Math.abs.name, Cond.static Lib.Math.abs.name, Cond.initialized "java/lang/Math", Cond.code Lib.Math.abs.name Lib.Math.abs.code 1 (some .int), Cond.methodLink RX0 36 yX5_act, Cond.instanceMethod yX5_act, Cond.selects RX5 yX5_act yX5_act, Cond.code yX5_act cX5_act 4 (some .int), Cond.methodLink RX5 64 yX5_step, Cond.instanceMethod yX5_step, Cond.selects RX5 yX5_step yX5_step, Cond.code yX5_step cX5_step 5 (some .int), Cond.methodLink RX5 67 yX5_turnHold, Cond.instanceMethod yX5_turnHold, Cond.selects RX5 yX5_turnHold yX5_turnHold, Cond.code yX5_turnHold cX5_turnHold 2 none, Cond.methodLink RX5 71 yX5_squeeze, Cond.instanceMethod yX5_squeeze, Cond.selects RX5 yX5_squeeze yX5_squeeze, Cond.code yX5_squeeze cX5_squeeze 5 none, Cond.methodLink RX5 87 yX5_lossBy, Cond.instanceMethod yX5_lossBy, Cond.selects RX5 yX5_lossBy yX5_lossBy, Cond.code yX5_lossBy cX5_lossBy 2 (some .int)]
def wsX0_take_r4 : List Cond := [Cond.methodLink RX5 90 yX5_feelMore, Cond.instanceMethod yX5_feelMore, Cond.selects RX5 yX5_feelMore yX5_feelMore, Cond.code yX5_feelMore cX5_feelMore 3 none, Cond.fieldLink RX5 15 "MittenLine$Row" "feels" "[I", Cond.methodLink RX5 93 Lib.Math.min.name, Cond.static Lib.Math.min.name, Cond.code Lib.Math.min.name Lib.Math.min.code 2 (some .int), Cond.methodLink RX5 75 yX5_letOut, Cond.instanceMethod yX5_letOut, Cond.selects RX5 yX5_letOut yX5_letOut, Cond.code yX5_letOut cX5_letOut 2 none, Cond.methodLink RX5 78 yX5_windIn, Cond.instanceMethod yX5_windIn, Cond.selects RX5 yX5_windIn yX5_windIn, Cond.code yX5_windIn cX5_windIn 2 none, Cond.methodLink RX5 81 yX5_nextDay, Cond.instanceMethod yX5_nextDay, Cond.selects RX5 yX5_nextDay yX5_nextDay, Cond.code yX5_nextDay cX5_nextDay 2 none, Cond.static yX7_leastBit, Cond.code yX7_leastBit cX7_leastBit 2 (some .int), Cond.methodLink RX0 43 yJ6_bitCount_0f7a4, Cond.static yJ6_bitCount_0f7a4]
def wsX0_take_r5 : List Cond := [Cond.initialized RJ6, Cond.code yJ6_bitCount_0f7a4 cJ6_bitCount_0f7a4 1 (some .int), Cond.constant RJ6 265 (1431655765), Cond.constant RJ6 266 (858993459), Cond.constant RJ6 267 (252645135)]
def wsX0_take : List Cond := .code yX0_take cX0_take 7 none :: ((wsX0_take_r1 ++ (wsX0_take_r2 ++ (wsX0_take_r3 ++ (wsX0_take_r4 ++ wsX0_take_r5)))) ++ wsX00 ++ wsX50)
def wsX1_init : List Cond := .code yX1_init cX1_init 1 none :: ([.methodLink RX1 3 objectInit, .instanceMethod objectInit, .code objectInit ⟨#[0xb1]⟩ 1 none, .arrayClass .int, .fieldLink RX1 9 "MittenLine$Guess" "tally" "[I"] ++ wsX10)
def wsX1_isCode : List Cond := .code yX1_isCode cX1_isCode 1 (some .boolean) :: ([.static yX7_isWithin, .initialized RX7, .code yX7_isWithin cX7_isWithin 3 (some .boolean)])
def wsX1_feltBy : List Cond := .code yX1_feltBy cX1_feltBy 3 (some .int) :: ([.methodLink RX1 19 Lib.Math.abs.name, .static Lib.Math.abs.name, .initialized "java/lang/Math", .code Lib.Math.abs.name Lib.Math.abs.code 1 (some .int), .methodLink RX1 25 Lib.Math.max.name, .static Lib.Math.max.name, .code Lib.Math.max.name Lib.Math.max.code 2 (some .int)])
def wsX1_isFitting : List Cond := .code yX1_isFitting cX1_isFitting 3 (some .boolean) :: ([.fieldLink RX1 33 "MittenLine$Sights" "count" "I", .fieldLink RX1 39 "MittenLine$Sights" "who" "[I", .fieldLink RX1 45 "MittenLine$Sights" "much" "[I", .methodLink RX1 29 yX1_isCode, .static yX1_isCode, .initialized RX1, .code yX1_isCode cX1_isCode 1 (some .boolean), .static yX7_isWithin, .initialized RX7, .code yX7_isWithin cX7_isWithin 3 (some .boolean), .methodLink RX1 42 yX1_feltBy, .static yX1_feltBy, .code yX1_feltBy cX1_feltBy 3 (some .int), .methodLink RX1 19 Lib.Math.abs.name, .static Lib.Math.abs.name, .initialized "java/lang/Math", .code Lib.Math.abs.name Lib.Math.abs.code 1 (some .int), .methodLink RX1 25 Lib.Math.max.name, .static Lib.Math.max.name, .code Lib.Math.max.name Lib.Math.max.code 2 (some .int)] ++ wsX60)
def wsX1_countFitting : List Cond := .code yX1_countFitting cX1_countFitting 4 (some .int) :: ([.methodLink RX1 48 yX1_isFitting, .static yX1_isFitting, .initialized RX1, .code yX1_isFitting cX1_isFitting 3 (some .boolean), .fieldLink RX1 33 "MittenLine$Sights" "count" "I", .fieldLink RX1 39 "MittenLine$Sights" "who" "[I", .fieldLink RX1 45 "MittenLine$Sights" "much" "[I", .methodLink RX1 29 yX1_isCode, .static yX1_isCode, .code yX1_isCode cX1_isCode 1 (some .boolean), .static yX7_isWithin, .initialized RX7, .code yX7_isWithin cX7_isWithin 3 (some .boolean), .methodLink RX1 42 yX1_feltBy, .static yX1_feltBy, .code yX1_feltBy cX1_feltBy 3 (some .int), .methodLink RX1 19 Lib.Math.abs.name, .static Lib.Math.abs.name, .initialized "java/lang/Math", .code Lib.Math.abs.name Lib.Math.abs.code 1 (some .int), .methodLink RX1 25 Lib.Math.max.name, .static Lib.Math.max.name, .code Lib.Math.max.name Lib.Math.max.code 2 (some .int)] ++ wsX60)
def wsX1_fitting : List Cond := .code yX1_fitting cX1_fitting 5 (some .int) :: ([.methodLink RX1 48 yX1_isFitting, .static yX1_isFitting, .initialized RX1, .code yX1_isFitting cX1_isFitting 3 (some .boolean), .fieldLink RX1 33 "MittenLine$Sights" "count" "I", .fieldLink RX1 39 "MittenLine$Sights" "who" "[I", .fieldLink RX1 45 "MittenLine$Sights" "much" "[I", .methodLink RX1 29 yX1_isCode, .static yX1_isCode, .code yX1_isCode cX1_isCode 1 (some .boolean), .static yX7_isWithin, .initialized RX7, .code yX7_isWithin cX7_isWithin 3 (some .boolean), .methodLink RX1 42 yX1_feltBy, .static yX1_feltBy, .code yX1_feltBy cX1_feltBy 3 (some .int), .methodLink RX1 19 Lib.Math.abs.name, .static Lib.Math.abs.name, .initialized "java/lang/Math", .code Lib.Math.abs.name Lib.Math.abs.code 1 (some .int), .methodLink RX1 25 Lib.Math.max.name, .static Lib.Math.max.name, .code Lib.Math.max.name Lib.Math.max.code 2 (some .int)] ++ wsX60)
def wsX1_mostAlike : List Cond := .code yX1_mostAlike cX1_mostAlike 6 (some .int) :: ([.fieldLink RX1 9 "MittenLine$Guess" "tally" "[I", .methodLink RX1 25 Lib.Math.max.name, .static Lib.Math.max.name, .initialized "java/lang/Math", .code Lib.Math.max.name Lib.Math.max.code 2 (some .int), .methodLink RX1 48 yX1_isFitting, .static yX1_isFitting, .initialized RX1, .code yX1_isFitting cX1_isFitting 3 (some .boolean), .fieldLink RX1 33 "MittenLine$Sights" "count" "I", .fieldLink RX1 39 "MittenLine$Sights" "who" "[I", .fieldLink RX1 45 "MittenLine$Sights" "much" "[I", .methodLink RX1 29 yX1_isCode, .static yX1_isCode, .code yX1_isCode cX1_isCode 1 (some .boolean), .static yX7_isWithin, .initialized RX7, .code yX7_isWithin cX7_isWithin 3 (some .boolean), .methodLink RX1 42 yX1_feltBy, .static yX1_feltBy, .code yX1_feltBy cX1_feltBy 3 (some .int), .methodLink RX1 19 Lib.Math.abs.name, .static Lib.Math.abs.name, .code Lib.Math.abs.name Lib.Math.abs.code 1 (some .int)] ++ wsX10 ++ wsX60)
def wsX1_chooseChild_r1 : List Cond := [Cond.fieldLink RX1 52 "MittenLine$Guess" "askedChild" "I", Cond.fieldLink RX1 55 "MittenLine$Guess" "mostLeft" "I", Cond.methodLink RX1 58 yX1_mostAlike, Cond.instanceMethod yX1_mostAlike, Cond.selects RX1 yX1_mostAlike yX1_mostAlike, Cond.initialized RX1, Cond.code yX1_mostAlike cX1_mostAlike 6 (some .int), Cond.fieldLink RX1 9 "MittenLine$Guess" "tally" "[I", Cond.methodLink RX1 25 Lib.Math.max.name, Cond.static Lib.Math.max.name, Cond.initialized "java/lang/Math", Cond.code Lib.Math.max.name Lib.Math.max.code 2 (some .int), Cond.methodLink RX1 48 yX1_isFitting, Cond.static yX1_isFitting, Cond.code yX1_isFitting cX1_isFitting 3 (some .boolean), Cond.fieldLink RX1 33 "MittenLine$Sights" "count" "I", Cond.fieldLink RX1 39 "MittenLine$Sights" "who" "[I", Cond.fieldLink RX1 45 "MittenLine$Sights" "much" "[I", Cond.methodLink RX1 29 yX1_isCode, Cond.static yX1_isCode, Cond.code yX1_isCode cX1_isCode 1 (some .boolean), Cond.static yX7_isWithin, Cond.initialized RX7, Cond.code yX7_isWithin cX7_isWithin 3 (some .boolean)]
def wsX1_chooseChild_r2 : List Cond := [Cond.methodLink RX1 42 yX1_feltBy, Cond.static yX1_feltBy, Cond.code yX1_feltBy cX1_feltBy 3 (some .int), Cond.methodLink RX1 19 Lib.Math.abs.name, Cond.static Lib.Math.abs.name, Cond.code Lib.Math.abs.name Lib.Math.abs.code 1 (some .int)]
def wsX1_chooseChild : List Cond := .code yX1_chooseChild cX1_chooseChild 4 none :: ((wsX1_chooseChild_r1 ++ wsX1_chooseChild_r2) ++ wsX10 ++ wsX60)
def wsX5_init : List Cond := .code yX5_init cX5_init 2 none :: ([.methodLink RX5 3 objectInit, .instanceMethod objectInit, .code objectInit ⟨#[0xb1]⟩ 1 none, .arrayClass .int, .fieldLink RX5 9 "MittenLine$Row" "yards" "[I", .fieldLink RX5 15 "MittenLine$Row" "feels" "[I", .fieldLink RX5 18 "MittenLine$Row" "lengths" "[I", .fieldLink RX5 21 "MittenLine$Row" "plan" "[I", .fieldLink RX5 24 "MittenLine$Row" "wool" "I"] ++ wsX50)
def wsX6_init : List Cond := .code yX6_init cX6_init 1 none :: ([.methodLink RX6 3 objectInit, .instanceMethod objectInit, .code objectInit ⟨#[0xb1]⟩ 1 none, .arrayClass .int, .fieldLink RX6 9 "MittenLine$Sights" "who" "[I", .fieldLink RX6 15 "MittenLine$Sights" "much" "[I"] ++ wsX60)
def wsX2_init_r1 : List Cond := [Cond.methodLink RX2 1 objectInit, Cond.instanceMethod objectInit, Cond.code objectInit ⟨#[0xb1]⟩ 1 none, Cond.classLink RX2 7 RX5, Cond.instantiable RX5 7, Cond.initialized RX5, Cond.fieldLink RX2 10 "MittenLine$Image" "row" "LMittenLine$Row;", Cond.classLink RX2 16 RX6, Cond.instantiable RX6 3, Cond.initialized RX6, Cond.fieldLink RX2 19 "MittenLine$Image" "sights" "LMittenLine$Sights;", Cond.methodLink RX2 9 yX5_init, Cond.instanceMethod yX5_init, Cond.code yX5_init cX5_init 2 none, Cond.methodLink RX5 3 objectInit, Cond.arrayClass .int, Cond.fieldLink RX5 9 "MittenLine$Row" "yards" "[I", Cond.fieldLink RX5 15 "MittenLine$Row" "feels" "[I", Cond.fieldLink RX5 18 "MittenLine$Row" "lengths" "[I", Cond.fieldLink RX5 21 "MittenLine$Row" "plan" "[I", Cond.fieldLink RX5 24 "MittenLine$Row" "wool" "I", Cond.methodLink RX2 18 yX6_init, Cond.instanceMethod yX6_init, Cond.code yX6_init cX6_init 1 none]
def wsX2_init_r2 : List Cond := [Cond.methodLink RX6 3 objectInit, Cond.fieldLink RX6 9 "MittenLine$Sights" "who" "[I", Cond.fieldLink RX6 15 "MittenLine$Sights" "much" "[I"]
def wsX2_init : List Cond := .code yX2_init cX2_init 1 none :: ((wsX2_init_r1 ++ wsX2_init_r2) ++ wsX50 ++ wsX20 ++ wsX60)
def wsX5_copyFrom : List Cond := .code yX5_copyFrom cX5_copyFrom 3 none :: ([.fieldLink RX5 9 "MittenLine$Row" "yards" "[I", .fieldLink RX5 15 "MittenLine$Row" "feels" "[I", .fieldLink RX5 18 "MittenLine$Row" "lengths" "[I", .fieldLink RX5 28 "MittenLine$Row" "holding" "I", .fieldLink RX5 24 "MittenLine$Row" "wool" "I", .fieldLink RX5 31 "MittenLine$Row" "day" "I"] ++ wsX50)
def wsX6_copyFrom : List Cond := .code yX6_copyFrom cX6_copyFrom 3 none :: ([.fieldLink RX6 9 "MittenLine$Sights" "who" "[I", .fieldLink RX6 15 "MittenLine$Sights" "much" "[I", .fieldLink RX6 18 "MittenLine$Sights" "count" "I"] ++ wsX60)
def wsX2_keep : List Cond := .code yX2_keep cX2_keep 3 none :: ([.fieldLink RX2 10 "MittenLine$Image" "row" "LMittenLine$Row;", .fieldLink RX2 19 "MittenLine$Image" "sights" "LMittenLine$Sights;", .fieldLink RX2 30 "MittenLine$Image" "isKept" "Z", .methodLink RX2 23 yX5_copyFrom, .instanceMethod yX5_copyFrom, .selects RX5 yX5_copyFrom yX5_copyFrom, .initialized RX5, .code yX5_copyFrom cX5_copyFrom 3 none, .fieldLink RX5 9 "MittenLine$Row" "yards" "[I", .fieldLink RX5 15 "MittenLine$Row" "feels" "[I", .fieldLink RX5 18 "MittenLine$Row" "lengths" "[I", .fieldLink RX5 28 "MittenLine$Row" "holding" "I", .fieldLink RX5 24 "MittenLine$Row" "wool" "I", .fieldLink RX5 31 "MittenLine$Row" "day" "I", .methodLink RX2 27 yX6_copyFrom, .instanceMethod yX6_copyFrom, .selects RX6 yX6_copyFrom yX6_copyFrom, .initialized RX6, .code yX6_copyFrom cX6_copyFrom 3 none, .fieldLink RX6 9 "MittenLine$Sights" "who" "[I", .fieldLink RX6 15 "MittenLine$Sights" "much" "[I", .fieldLink RX6 18 "MittenLine$Sights" "count" "I"] ++ wsX20 ++ wsX50 ++ wsX60)
def wsX2_giveBack : List Cond := .code yX2_giveBack cX2_giveBack 3 none :: ([.fieldLink RX2 10 "MittenLine$Image" "row" "LMittenLine$Row;", .fieldLink RX2 19 "MittenLine$Image" "sights" "LMittenLine$Sights;", .methodLink RX2 23 yX5_copyFrom, .instanceMethod yX5_copyFrom, .selects RX5 yX5_copyFrom yX5_copyFrom, .initialized RX5, .code yX5_copyFrom cX5_copyFrom 3 none, .fieldLink RX5 9 "MittenLine$Row" "yards" "[I", .fieldLink RX5 15 "MittenLine$Row" "feels" "[I", .fieldLink RX5 18 "MittenLine$Row" "lengths" "[I", .fieldLink RX5 28 "MittenLine$Row" "holding" "I", .fieldLink RX5 24 "MittenLine$Row" "wool" "I", .fieldLink RX5 31 "MittenLine$Row" "day" "I", .methodLink RX2 27 yX6_copyFrom, .instanceMethod yX6_copyFrom, .selects RX6 yX6_copyFrom yX6_copyFrom, .initialized RX6, .code yX6_copyFrom cX6_copyFrom 3 none, .fieldLink RX6 9 "MittenLine$Sights" "who" "[I", .fieldLink RX6 15 "MittenLine$Sights" "much" "[I", .fieldLink RX6 18 "MittenLine$Sights" "count" "I"] ++ wsX20 ++ wsX50 ++ wsX60)
def wsX3_init : List Cond := .code yX3_init cX3_init 1 none :: ([.methodLink RX3 3 objectInit, .instanceMethod objectInit, .code objectInit ⟨#[0xb1]⟩ 1 none, .arrayClass .int, .fieldLink RX3 9 "MittenLine$Pad" "signs" "[I"] ++ wsX30)
def wsX3_add : List Cond := .code yX3_add cX3_add 2 (some .boolean) :: ([.fieldLink RX3 15 "MittenLine$Pad" "count" "I", .fieldLink RX3 9 "MittenLine$Pad" "signs" "[I"] ++ wsX30)
def wsX3_clear : List Cond := .code yX3_clear cX3_clear 1 none :: ([.fieldLink RX3 15 "MittenLine$Pad" "count" "I"] ++ wsX30)
def wsX3_awaitedAfter : List Cond := .code yX3_awaitedAfter cX3_awaitedAfter 2 (some .int) :: ([.static yX7_isWithin, .initialized RX7, .code yX7_isWithin cX7_isWithin 3 (some .boolean)])
def wsX3_faultPlace : List Cond := .code yX3_faultPlace cX3_faultPlace 3 (some .int) :: ([.fieldLink RX3 15 "MittenLine$Pad" "count" "I", .fieldLink RX3 9 "MittenLine$Pad" "signs" "[I", .methodLink RX3 19 yX3_awaitedAfter, .static yX3_awaitedAfter, .initialized RX3, .code yX3_awaitedAfter cX3_awaitedAfter 2 (some .int), .static yX7_isWithin, .initialized RX7, .code yX7_isWithin cX7_isWithin 3 (some .boolean)] ++ wsX30)
def wsX3_beginActs : List Cond := .code yX3_beginActs cX3_beginActs 1 none :: ([.fieldLink RX3 27 "MittenLine$Pad" "awaited" "I", .fieldLink RX3 30 "MittenLine$Pad" "actor" "I", .fieldLink RX3 33 "MittenLine$Pad" "kind" "I", .fieldLink RX3 36 "MittenLine$Pad" "amount" "I"] ++ wsX30)
def wsX3_endsAct : List Cond := .code yX3_endsAct cX3_endsAct 3 (some .boolean) :: ([.fieldLink RX3 15 "MittenLine$Pad" "count" "I", .fieldLink RX3 9 "MittenLine$Pad" "signs" "[I", .fieldLink RX3 27 "MittenLine$Pad" "awaited" "I", .fieldLink RX3 33 "MittenLine$Pad" "kind" "I", .fieldLink RX3 30 "MittenLine$Pad" "actor" "I", .fieldLink RX3 36 "MittenLine$Pad" "amount" "I", .static yX7_isWithin, .initialized RX7, .code yX7_isWithin cX7_isWithin 3 (some .boolean), .methodLink RX3 19 yX3_awaitedAfter, .static yX3_awaitedAfter, .initialized RX3, .code yX3_awaitedAfter cX3_awaitedAfter 2 (some .int)] ++ wsX30)
def wsX4_init : List Cond := .code yX4_init cX4_init 1 none :: ([.methodLink RX4 3 objectInit, .instanceMethod objectInit, .code objectInit ⟨#[0xb1]⟩ 1 none, .arrayClass .int, .fieldLink RX4 9 "MittenLine$Puzzles" "digits" "[I", .fieldLink RX4 15 "MittenLine$Puzzles" "words" "[I", .fieldLink RX4 18 "MittenLine$Puzzles" "byEnd" "[I", .fieldLink RX4 21 "MittenLine$Puzzles" "sizes" "[I", .classLink RX4 24 "[[I", .fieldLink RX4 26 "MittenLine$Puzzles" "times" "[[I", .fieldLink RX4 29 "MittenLine$Puzzles" "winning" "[I"] ++ wsX40)
def wsX4_takeDigits : List Cond := .code yX4_takeDigits cX4_takeDigits 6 (some .int) :: ([.methodLink RX4 32 Lib.Math.min.name, .static Lib.Math.min.name, .initialized "java/lang/Math", .code Lib.Math.min.name Lib.Math.min.code 2 (some .int), .fieldLink RX4 9 "MittenLine$Puzzles" "digits" "[I"] ++ wsX40)
def wsX4_timeOfParts : List Cond := .code yX4_timeOfParts cX4_timeOfParts 7 (some .int) :: ([.fieldLink RX4 26 "MittenLine$Puzzles" "times" "[[I", .methodLink RX4 45 Lib.Math.max.name, .static Lib.Math.max.name, .initialized "java/lang/Math", .code Lib.Math.max.name Lib.Math.max.code 2 (some .int), .methodLink RX4 32 Lib.Math.min.name, .static Lib.Math.min.name, .code Lib.Math.min.name Lib.Math.min.code 2 (some .int)] ++ wsX40)
def wsX4_windingTime : List Cond := .code yX4_windingTime cX4_windingTime 8 (some .int) :: ([.fieldLink RX4 21 "MittenLine$Puzzles" "sizes" "[I", .fieldLink RX4 9 "MittenLine$Puzzles" "digits" "[I", .fieldLink RX4 26 "MittenLine$Puzzles" "times" "[[I", .methodLink RX4 38 yX4_takeDigits, .instanceMethod yX4_takeDigits, .selects RX4 yX4_takeDigits yX4_takeDigits, .initialized RX4, .code yX4_takeDigits cX4_takeDigits 6 (some .int), .methodLink RX4 32 Lib.Math.min.name, .static Lib.Math.min.name, .initialized "java/lang/Math", .code Lib.Math.min.name Lib.Math.min.code 2 (some .int), .methodLink RX4 41 yX4_timeOfParts, .instanceMethod yX4_timeOfParts, .selects RX4 yX4_timeOfParts yX4_timeOfParts, .code yX4_timeOfParts cX4_timeOfParts 7 (some .int), .methodLink RX4 45 Lib.Math.max.name, .static Lib.Math.max.name, .code Lib.Math.max.name Lib.Math.max.code 2 (some .int)] ++ wsX40)
def wsX4_takeWords : List Cond := .code yX4_takeWords cX4_takeWords 5 none :: ([.fieldLink RX4 15 "MittenLine$Puzzles" "words" "[I"] ++ wsX40)
def wsX7_digitCount : List Cond := .code yX7_digitCount cX7_digitCount 4 (some .int) :: ([])
def wsX4_standsBefore : List Cond := .code yX4_standsBefore cX4_standsBefore 6 (some .boolean) :: ([.fieldLink RX4 15 "MittenLine$Puzzles" "words" "[I", .fieldLink RX4 9 "MittenLine$Puzzles" "digits" "[I", .static yX7_digitCount, .initialized RX7, .code yX7_digitCount cX7_digitCount 4 (some .int)] ++ wsX40)
def wsX4_countReadings : List Cond := .code yX4_countReadings cX4_countReadings 4 (some .int) :: ([.fieldLink RX4 18 "MittenLine$Puzzles" "byEnd" "[I", .fieldLink RX4 15 "MittenLine$Puzzles" "words" "[I", .methodLink RX4 52 yX4_standsBefore, .instanceMethod yX4_standsBefore, .selects RX4 yX4_standsBefore yX4_standsBefore, .initialized RX4, .code yX4_standsBefore cX4_standsBefore 6 (some .boolean), .fieldLink RX4 9 "MittenLine$Puzzles" "digits" "[I", .static yX7_digitCount, .initialized RX7, .code yX7_digitCount cX7_digitCount 4 (some .int)] ++ wsX40)
def wsX4_fewestWords : List Cond := .code yX4_fewestWords cX4_fewestWords 5 (some .int) :: ([.fieldLink RX4 18 "MittenLine$Puzzles" "byEnd" "[I", .fieldLink RX4 15 "MittenLine$Puzzles" "words" "[I", .methodLink RX4 52 yX4_standsBefore, .instanceMethod yX4_standsBefore, .selects RX4 yX4_standsBefore yX4_standsBefore, .initialized RX4, .code yX4_standsBefore cX4_standsBefore 6 (some .boolean), .fieldLink RX4 9 "MittenLine$Puzzles" "digits" "[I", .static yX7_digitCount, .initialized RX7, .code yX7_digitCount cX7_digitCount 4 (some .int)] ++ wsX40)
def wsX4_winningPulls : List Cond := .code yX4_winningPulls cX4_winningPulls 6 (some .int) :: ([.fieldLink RX4 29 "MittenLine$Puzzles" "winning" "[I"] ++ wsX40)
def wsX5_holdsFast : List Cond := .code yX5_holdsFast cX5_holdsFast 2 (some .boolean) :: ([.fieldLink RX5 28 "MittenLine$Row" "holding" "I"] ++ wsX50)
def wsX5_tautBits : List Cond := .code yX5_tautBits cX5_tautBits 3 (some .int) :: ([.methodLink RX5 43 yX5_isTaut, .instanceMethod yX5_isTaut, .selects RX5 yX5_isTaut yX5_isTaut, .initialized RX5, .code yX5_isTaut cX5_isTaut 2 (some .boolean), .fieldLink RX5 18 "MittenLine$Row" "lengths" "[I", .methodLink RX5 40 yX5_apart, .instanceMethod yX5_apart, .selects RX5 yX5_apart yX5_apart, .code yX5_apart cX5_apart 2 (some .int), .fieldLink RX5 9 "MittenLine$Row" "yards" "[I", .methodLink RX5 34 Lib.Math.abs.name, .static Lib.Math.abs.name, .initialized "java/lang/Math", .code Lib.Math.abs.name Lib.Math.abs.code 1 (some .int)] ++ wsX50)
def wsX5_allLengths : List Cond := .code yX5_allLengths cX5_allLengths 3 (some .int) :: ([.fieldLink RX5 18 "MittenLine$Row" "lengths" "[I"] ++ wsX50)
def wsX5_hasStringFor : List Cond := .code yX5_hasStringFor cX5_hasStringFor 3 (some .boolean) :: ([.fieldLink RX5 9 "MittenLine$Row" "yards" "[I", .methodLink RX5 34 Lib.Math.abs.name, .static Lib.Math.abs.name, .initialized "java/lang/Math", .code Lib.Math.abs.name Lib.Math.abs.code 1 (some .int), .fieldLink RX5 18 "MittenLine$Row" "lengths" "[I"] ++ wsX50)
def wsX5_farthest : List Cond := .code yX5_farthest cX5_farthest 6 (some .int) :: ([.fieldLink RX5 9 "MittenLine$Row" "yards" "[I", .fieldLink RX5 18 "MittenLine$Row" "lengths" "[I", .methodLink RX5 93 Lib.Math.min.name, .static Lib.Math.min.name, .initialized "java/lang/Math", .code Lib.Math.min.name Lib.Math.min.code 2 (some .int), .methodLink RX5 96 yX5_holdsFast, .instanceMethod yX5_holdsFast, .selects RX5 yX5_holdsFast yX5_holdsFast, .initialized RX5, .code yX5_holdsFast cX5_holdsFast 2 (some .boolean), .fieldLink RX5 28 "MittenLine$Row" "holding" "I"] ++ wsX50)
def wsX6_add : List Cond := .code yX6_add cX6_add 3 (some .boolean) :: ([.fieldLink RX6 18 "MittenLine$Sights" "count" "I", .fieldLink RX6 9 "MittenLine$Sights" "who" "[I", .fieldLink RX6 15 "MittenLine$Sights" "much" "[I"] ++ wsX60)
def wsX6_clear : List Cond := .code yX6_clear cX6_clear 1 none :: ([.fieldLink RX6 18 "MittenLine$Sights" "count" "I"] ++ wsX60)
def wsX7_init_r1 : List Cond := [Cond.methodLink RX7 1 objectInit, Cond.instanceMethod objectInit, Cond.code objectInit ⟨#[0xb1]⟩ 1 none, Cond.classLink RX7 7 RX5, Cond.instantiable RX5 7, Cond.initialized RX5, Cond.fieldLink RX7 10 "MittenLine" "now" "LMittenLine$Row;", Cond.fieldLink RX7 16 "MittenLine" "trial" "LMittenLine$Row;", Cond.classLink RX7 19 RX3, Cond.instantiable RX3 6, Cond.initialized RX3, Cond.fieldLink RX7 22 "MittenLine" "pad" "LMittenLine$Pad;", Cond.classLink RX7 26 RX0, Cond.instantiable RX0 6, Cond.initialized RX0, Cond.fieldLink RX7 29 "MittenLine" "course" "LMittenLine$Course;", Cond.classLink RX7 33 RX6, Cond.instantiable RX6 3, Cond.initialized RX6, Cond.fieldLink RX7 36 "MittenLine" "sights" "LMittenLine$Sights;", Cond.classLink RX7 40 RX1, Cond.instantiable RX1 3, Cond.initialized RX1, Cond.fieldLink RX7 43 "MittenLine" "guess" "LMittenLine$Guess;"]
def wsX7_init_r2 : List Cond := [Cond.classLink RX7 47 RX4, Cond.instantiable RX4 6, Cond.initialized RX4, Cond.fieldLink RX7 50 "MittenLine" "puzzles" "LMittenLine$Puzzles;", Cond.classLink RX7 54 RX2, Cond.instantiable RX2 3, Cond.initialized RX2, Cond.fieldLink RX7 57 "MittenLine" "image0" "LMittenLine$Image;", Cond.fieldLink RX7 61 "MittenLine" "image1" "LMittenLine$Image;", Cond.methodLink RX7 9 yX5_init, Cond.instanceMethod yX5_init, Cond.code yX5_init cX5_init 2 none, Cond.methodLink RX5 3 objectInit, Cond.arrayClass .int, Cond.fieldLink RX5 9 "MittenLine$Row" "yards" "[I", Cond.fieldLink RX5 15 "MittenLine$Row" "feels" "[I", Cond.fieldLink RX5 18 "MittenLine$Row" "lengths" "[I", Cond.fieldLink RX5 21 "MittenLine$Row" "plan" "[I", Cond.fieldLink RX5 24 "MittenLine$Row" "wool" "I", Cond.methodLink RX7 21 yX3_init, Cond.instanceMethod yX3_init, Cond.code yX3_init cX3_init 1 none, Cond.methodLink RX3 3 objectInit, Cond.fieldLink RX3 9 "MittenLine$Pad" "signs" "[I"]
def wsX7_init_r3 : List Cond := [Cond.instanceMethod yX0_init, Cond.code yX0_init cX0_init 1 none, Cond.methodLink RX0 3 objectInit, Cond.methodLink RX7 35 yX6_init, Cond.instanceMethod yX6_init, Cond.code yX6_init cX6_init 1 none, Cond.methodLink RX6 3 objectInit, Cond.fieldLink RX6 9 "MittenLine$Sights" "who" "[I", Cond.fieldLink RX6 15 "MittenLine$Sights" "much" "[I", Cond.methodLink RX7 42 yX1_init, Cond.instanceMethod yX1_init, Cond.code yX1_init cX1_init 1 none, Cond.methodLink RX1 3 objectInit, Cond.fieldLink RX1 9 "MittenLine$Guess" "tally" "[I", Cond.methodLink RX7 49 yX4_init, Cond.instanceMethod yX4_init, Cond.code yX4_init cX4_init 1 none, Cond.methodLink RX4 3 objectInit, Cond.fieldLink RX4 9 "MittenLine$Puzzles" "digits" "[I", Cond.fieldLink RX4 15 "MittenLine$Puzzles" "words" "[I", Cond.fieldLink RX4 18 "MittenLine$Puzzles" "byEnd" "[I", Cond.fieldLink RX4 21 "MittenLine$Puzzles" "sizes" "[I", Cond.classLink RX4 24 "[[I", Cond.fieldLink RX4 26 "MittenLine$Puzzles" "times" "[[I"]
def wsX7_init_r4 : List Cond := [Cond.fieldLink RX4 29 "MittenLine$Puzzles" "winning" "[I", Cond.methodLink RX7 56 yX2_init, Cond.instanceMethod yX2_init, Cond.code yX2_init cX2_init 1 none, Cond.methodLink RX2 1 objectInit, Cond.classLink RX2 7 RX5, Cond.fieldLink RX2 10 "MittenLine$Image" "row" "LMittenLine$Row;", Cond.classLink RX2 16 RX6, Cond.fieldLink RX2 19 "MittenLine$Image" "sights" "LMittenLine$Sights;", Cond.methodLink RX2 9 yX5_init, Cond.methodLink RX2 18 yX6_init]
def wsX7_init : List Cond := .code yX7_init cX7_init 1 none :: ((wsX7_init_r1 ++ (wsX7_init_r2 ++ (wsX7_init_r3 ++ wsX7_init_r4))) ++ wsX50 ++ wsX70 ++ wsX30 ++ wsX00 ++ wsX60 ++ wsX10 ++ wsX40 ++ wsX20)
def wsX7_child_r1 : List Cond := [Cond.fieldLink RX7 10 "MittenLine" "now" "LMittenLine$Row;", Cond.fieldLink RX7 72 "MittenLine$Row" "yards" "[I", Cond.methodLink RX7 64 yX7_isWithin, Cond.static yX7_isWithin, Cond.initialized RX7, Cond.code yX7_isWithin cX7_isWithin 3 (some .boolean), Cond.methodLink RX7 68 yX5_hasStringFor, Cond.instanceMethod yX5_hasStringFor, Cond.selects RX5 yX5_hasStringFor yX5_hasStringFor, Cond.initialized RX5, Cond.code yX5_hasStringFor cX5_hasStringFor 3 (some .boolean), Cond.fieldLink RX5 9 "MittenLine$Row" "yards" "[I", Cond.methodLink RX5 34 Lib.Math.abs.name, Cond.static Lib.Math.abs.name, Cond.initialized "java/lang/Math", Cond.code Lib.Math.abs.name Lib.Math.abs.code 1 (some .int), Cond.fieldLink RX5 18 "MittenLine$Row" "lengths" "[I", Cond.methodLink RX7 76 yX5_holdsFast, Cond.instanceMethod yX5_holdsFast, Cond.selects RX5 yX5_holdsFast yX5_holdsFast, Cond.code yX5_holdsFast cX5_holdsFast 2 (some .boolean), Cond.fieldLink RX5 28 "MittenLine$Row" "holding" "I", Cond.methodLink RX7 80 yX5_turnHold, Cond.instanceMethod yX5_turnHold]
def wsX7_child_r2 : List Cond := [Cond.selects RX5 yX5_turnHold yX5_turnHold, Cond.code yX5_turnHold cX5_turnHold 2 none]
def wsX7_child : List Cond := .code yX7_child cX7_child 5 (some .int) :: ((wsX7_child_r1 ++ wsX7_child_r2) ++ wsX70 ++ wsX50)
def wsX7_string : List Cond := .code yX7_string cX7_string 4 (some .int) :: ([.fieldLink RX7 10 "MittenLine" "now" "LMittenLine$Row;", .fieldLink RX7 88 "MittenLine$Row" "lengths" "[I", .methodLink RX7 64 yX7_isWithin, .static yX7_isWithin, .initialized RX7, .code yX7_isWithin cX7_isWithin 3 (some .boolean), .methodLink RX7 84 yX5_apart, .instanceMethod yX5_apart, .selects RX5 yX5_apart yX5_apart, .initialized RX5, .code yX5_apart cX5_apart 2 (some .int), .fieldLink RX5 9 "MittenLine$Row" "yards" "[I", .methodLink RX5 34 Lib.Math.abs.name, .static Lib.Math.abs.name, .initialized "java/lang/Math", .code Lib.Math.abs.name Lib.Math.abs.code 1 (some .int)] ++ wsX70 ++ wsX50)
def wsX7_ball : List Cond := .code yX7_ball cX7_ball 3 (some .int) :: ([.fieldLink RX7 10 "MittenLine" "now" "LMittenLine$Row;", .fieldLink RX7 91 "MittenLine$Row" "wool" "I", .methodLink RX7 64 yX7_isWithin, .static yX7_isWithin, .initialized RX7, .code yX7_isWithin cX7_isWithin 3 (some .boolean)] ++ wsX70 ++ wsX50)
def wsX7_say : List Cond := .code yX7_say cX7_say 2 (some .int) :: ([.fieldLink RX7 22 "MittenLine" "pad" "LMittenLine$Pad;", .fieldLink RX7 98 "MittenLine$Pad" "count" "I", .methodLink RX7 64 yX7_isWithin, .static yX7_isWithin, .initialized RX7, .code yX7_isWithin cX7_isWithin 3 (some .boolean), .methodLink RX7 95 yX3_add, .instanceMethod yX3_add, .selects RX3 yX3_add yX3_add, .initialized RX3, .code yX3_add cX3_add 2 (some .boolean), .fieldLink RX3 15 "MittenLine$Pad" "count" "I", .fieldLink RX3 9 "MittenLine$Pad" "signs" "[I"] ++ wsX70 ++ wsX30)
def wsX7_wipe : List Cond := .code yX7_wipe cX7_wipe 2 (some .int) :: ([.fieldLink RX7 22 "MittenLine" "pad" "LMittenLine$Pad;", .fieldLink RX7 98 "MittenLine$Pad" "count" "I", .methodLink RX7 101 yX3_clear, .instanceMethod yX3_clear, .selects RX3 yX3_clear yX3_clear, .initialized RX3, .code yX3_clear cX3_clear 1 none, .fieldLink RX3 15 "MittenLine$Pad" "count" "I"] ++ wsX70 ++ wsX30)
def wsX7_fault : List Cond := .code yX7_fault cX7_fault 1 (some .int) :: ([.fieldLink RX7 22 "MittenLine" "pad" "LMittenLine$Pad;", .methodLink RX7 104 yX3_faultPlace, .instanceMethod yX3_faultPlace, .selects RX3 yX3_faultPlace yX3_faultPlace, .initialized RX3, .code yX3_faultPlace cX3_faultPlace 3 (some .int), .fieldLink RX3 15 "MittenLine$Pad" "count" "I", .fieldLink RX3 9 "MittenLine$Pad" "signs" "[I", .methodLink RX3 19 yX3_awaitedAfter, .static yX3_awaitedAfter, .code yX3_awaitedAfter cX3_awaitedAfter 2 (some .int), .static yX7_isWithin, .initialized RX7, .code yX7_isWithin cX7_isWithin 3 (some .boolean)] ++ wsX70 ++ wsX30)
def wsX7_runText_r1 : List Cond := [Cond.fieldLink RX7 22 "MittenLine" "pad" "LMittenLine$Pad;", Cond.fieldLink RX7 16 "MittenLine" "trial" "LMittenLine$Row;", Cond.fieldLink RX7 10 "MittenLine" "now" "LMittenLine$Row;", Cond.fieldLink RX7 29 "MittenLine" "course" "LMittenLine$Course;", Cond.fieldLink RX7 98 "MittenLine$Pad" "count" "I", Cond.fieldLink RX7 111 "MittenLine$Course" "badAct" "I", Cond.fieldLink RX7 154 "MittenLine$Pad" "kind" "I", Cond.fieldLink RX7 157 "MittenLine$Pad" "actor" "I", Cond.fieldLink RX7 160 "MittenLine$Pad" "amount" "I", Cond.methodLink RX7 104 yX3_faultPlace, Cond.instanceMethod yX3_faultPlace, Cond.selects RX3 yX3_faultPlace yX3_faultPlace, Cond.initialized RX3, Cond.code yX3_faultPlace cX3_faultPlace 3 (some .int), Cond.fieldLink RX3 15 "MittenLine$Pad" "count" "I", Cond.fieldLink RX3 9 "MittenLine$Pad" "signs" "[I", Cond.methodLink RX3 19 yX3_awaitedAfter, Cond.static yX3_awaitedAfter, Cond.code yX3_awaitedAfter cX3_awaitedAfter 2 (some .int), Cond.static yX7_isWithin, Cond.initialized RX7, Cond.code yX7_isWithin cX7_isWithin 3 (some .boolean), Cond.methodLink RX7 138 yX5_copyFrom, Cond.instanceMethod yX5_copyFrom]
def wsX7_runText_r2 : List Cond := [Cond.selects RX5 yX5_copyFrom yX5_copyFrom, Cond.initialized RX5, Cond.code yX5_copyFrom cX5_copyFrom 3 none, Cond.fieldLink RX5 9 "MittenLine$Row" "yards" "[I", Cond.fieldLink RX5 15 "MittenLine$Row" "feels" "[I", Cond.fieldLink RX5 18 "MittenLine$Row" "lengths" "[I", Cond.fieldLink RX5 28 "MittenLine$Row" "holding" "I", Cond.fieldLink RX5 24 "MittenLine$Row" "wool" "I", Cond.fieldLink RX5 31 "MittenLine$Row" "day" "I", Cond.methodLink RX7 145 yX0_begin, Cond.instanceMethod yX0_begin, Cond.selects RX0 yX0_begin yX0_begin, Cond.initialized RX0, Cond.code yX0_begin cX0_begin 1 none, Cond.fieldLink RX0 9 "MittenLine$Course" "acts" "I", Cond.fieldLink RX0 15 "MittenLine$Course" "badAct" "I", Cond.fieldLink RX0 18 "MittenLine$Course" "badWhy" "I", Cond.fieldLink RX0 21 "MittenLine$Course" "drawnCount" "I", Cond.fieldLink RX0 24 "MittenLine$Course" "drawAct" "I", Cond.fieldLink RX0 27 "MittenLine$Course" "drawChild" "I", Cond.methodLink RX7 148 yX3_beginActs, Cond.instanceMethod yX3_beginActs, Cond.selects RX3 yX3_beginActs yX3_beginActs, Cond.code yX3_beginActs cX3_beginActs 1 none]
def wsX7_runText_r3 : List Cond := [Cond.fieldLink RX3 27 "MittenLine$Pad" "awaited" "I", Cond.fieldLink RX3 30 "MittenLine$Pad" "actor" "I", Cond.fieldLink RX3 33 "MittenLine$Pad" "kind" "I", Cond.fieldLink RX3 36 "MittenLine$Pad" "amount" "I", Cond.methodLink RX7 151 yX3_endsAct, Cond.instanceMethod yX3_endsAct, Cond.selects RX3 yX3_endsAct yX3_endsAct, Cond.code yX3_endsAct cX3_endsAct 3 (some .boolean), Cond.methodLink RX7 163 yX0_take, Cond.instanceMethod yX0_take, Cond.selects RX0 yX0_take yX0_take, Cond.code yX0_take cX0_take 7 none, Cond.methodLink RX0 30 yX5_whyNot, Cond.instanceMethod yX5_whyNot, Cond.selects RX5 yX5_whyNot yX5_whyNot, Cond.code yX5_whyNot cX5_whyNot 4 (some .int), Cond.methodLink RX5 47 yX5_whyNotStep, Cond.instanceMethod yX5_whyNotStep, Cond.selects RX5 yX5_whyNotStep yX5_whyNotStep, Cond.code yX5_whyNotStep cX5_whyNotStep 4 (some .int), Cond.methodLink RX5 61 yX5_planStep, Cond.instanceMethod yX5_planStep, Cond.selects RX5 yX5_planStep yX5_planStep, Cond.code yX5_planStep cX5_planStep 5 (some .int)]
def wsX7_runText_r4 : List Cond := [Cond.fieldLink RX5 21 "MittenLine$Row" "plan" "[I", Cond.methodLink RX5 84 yX5_planDraw, Cond.instanceMethod yX5_planDraw, Cond.selects RX5 yX5_planDraw yX5_planDraw, Cond.code yX5_planDraw cX5_planDraw 4 (some .boolean), Cond.methodLink RX5 51 yX5_whyNotLetOut, Cond.instanceMethod yX5_whyNotLetOut, Cond.selects RX5 yX5_whyNotLetOut yX5_whyNotLetOut, Cond.code yX5_whyNotLetOut cX5_whyNotLetOut 2 (some .int), Cond.methodLink RX5 54 yX5_whyNotWind, Cond.instanceMethod yX5_whyNotWind, Cond.selects RX5 yX5_whyNotWind yX5_whyNotWind, Cond.code yX5_whyNotWind cX5_whyNotWind 2 (some .int), Cond.methodLink RX5 43 yX5_isTaut, Cond.instanceMethod yX5_isTaut, Cond.selects RX5 yX5_isTaut yX5_isTaut, Cond.code yX5_isTaut cX5_isTaut 2 (some .boolean), Cond.methodLink RX5 40 yX5_apart, Cond.instanceMethod yX5_apart, Cond.selects RX5 yX5_apart yX5_apart, Cond.code yX5_apart cX5_apart 2 (some .int), Cond.methodLink RX5 34 Lib.Math.abs.name, Cond.static Lib.Math.abs.name, Cond.initialized "java/lang/Math"]
def wsX7_runText_r5 : List Cond := [Cond.code Lib.Math.abs.name Lib.Math.abs.code 1 (some .int), Cond.methodLink RX0 36 yX5_act, Cond.instanceMethod yX5_act, Cond.selects RX5 yX5_act yX5_act, Cond.code yX5_act cX5_act 4 (some .int), Cond.methodLink RX5 64 yX5_step, Cond.instanceMethod yX5_step, Cond.selects RX5 yX5_step yX5_step, Cond.code yX5_step cX5_step 5 (some .int), Cond.methodLink RX5 67 yX5_turnHold, Cond.instanceMethod yX5_turnHold, Cond.selects RX5 yX5_turnHold yX5_turnHold, Cond.code yX5_turnHold cX5_turnHold 2 none, Cond.methodLink RX5 71 yX5_squeeze, Cond.instanceMethod yX5_squeeze, Cond.selects RX5 yX5_squeeze yX5_squeeze, Cond.code yX5_squeeze cX5_squeeze 5 none, Cond.methodLink RX5 87 yX5_lossBy, Cond.instanceMethod yX5_lossBy, Cond.selects RX5 yX5_lossBy yX5_lossBy, Cond.code yX5_lossBy cX5_lossBy 2 (some .int), Cond.methodLink RX5 90 yX5_feelMore, Cond.instanceMethod yX5_feelMore, Cond.selects RX5 yX5_feelMore yX5_feelMore]
def wsX7_runText_r6 : List Cond := [Cond.code yX5_feelMore cX5_feelMore 3 none, Cond.methodLink RX5 93 Lib.Math.min.name, Cond.static Lib.Math.min.name, Cond.code Lib.Math.min.name Lib.Math.min.code 2 (some .int), Cond.methodLink RX5 75 yX5_letOut, Cond.instanceMethod yX5_letOut, Cond.selects RX5 yX5_letOut yX5_letOut, Cond.code yX5_letOut cX5_letOut 2 none, Cond.methodLink RX5 78 yX5_windIn, Cond.instanceMethod yX5_windIn, Cond.selects RX5 yX5_windIn yX5_windIn, Cond.code yX5_windIn cX5_windIn 2 none, Cond.methodLink RX5 81 yX5_nextDay, Cond.instanceMethod yX5_nextDay, Cond.selects RX5 yX5_nextDay yX5_nextDay, Cond.code yX5_nextDay cX5_nextDay 2 none, Cond.static yX7_leastBit, Cond.code yX7_leastBit cX7_leastBit 2 (some .int), Cond.methodLink RX0 43 yJ6_bitCount_0f7a4, Cond.static yJ6_bitCount_0f7a4, Cond.initialized RJ6, Cond.code yJ6_bitCount_0f7a4 cJ6_bitCount_0f7a4 1 (some .int), Cond.constant RJ6 265 (1431655765), Cond.constant RJ6 266 (858993459)]
def wsX7_runText_r7 : List Cond := [Cond.constant RJ6 267 (252645135)]
def wsX7_runText : List Cond := .code yX7_runText cX7_runText 2 (some .int) :: ((wsX7_runText_r1 ++ (wsX7_runText_r2 ++ (wsX7_runText_r3 ++ (wsX7_runText_r4 ++ (wsX7_runText_r5 ++ (wsX7_runText_r6 ++ wsX7_runText_r7)))))) ++ wsX70 ++ wsX30 ++ wsX00 ++ wsX50)
def wsX7_judge_r1 : List Cond := [Cond.fieldLink RX7 29 "MittenLine" "course" "LMittenLine$Course;", Cond.fieldLink RX7 111 "MittenLine$Course" "badAct" "I", Cond.fieldLink RX7 114 "MittenLine$Course" "badWhy" "I", Cond.fieldLink RX7 117 "MittenLine$Course" "drawnCount" "I", Cond.methodLink RX7 64 yX7_isWithin, Cond.static yX7_isWithin, Cond.initialized RX7, Cond.code yX7_isWithin cX7_isWithin 3 (some .boolean), Cond.methodLink RX7 108 yX7_runText, Cond.instanceMethod yX7_runText, Cond.selects RX7 yX7_runText yX7_runText, Cond.code yX7_runText cX7_runText 2 (some .int), Cond.fieldLink RX7 22 "MittenLine" "pad" "LMittenLine$Pad;", Cond.fieldLink RX7 16 "MittenLine" "trial" "LMittenLine$Row;", Cond.fieldLink RX7 10 "MittenLine" "now" "LMittenLine$Row;", Cond.fieldLink RX7 98 "MittenLine$Pad" "count" "I", Cond.fieldLink RX7 154 "MittenLine$Pad" "kind" "I", Cond.fieldLink RX7 157 "MittenLine$Pad" "actor" "I", Cond.fieldLink RX7 160 "MittenLine$Pad" "amount" "I", Cond.methodLink RX7 104 yX3_faultPlace, Cond.instanceMethod yX3_faultPlace, Cond.selects RX3 yX3_faultPlace yX3_faultPlace, Cond.initialized RX3, Cond.code yX3_faultPlace cX3_faultPlace 3 (some .int)]
def wsX7_judge_r2 : List Cond := [Cond.fieldLink RX3 15 "MittenLine$Pad" "count" "I", Cond.fieldLink RX3 9 "MittenLine$Pad" "signs" "[I", Cond.methodLink RX3 19 yX3_awaitedAfter, Cond.static yX3_awaitedAfter, Cond.code yX3_awaitedAfter cX3_awaitedAfter 2 (some .int), Cond.methodLink RX7 138 yX5_copyFrom, Cond.instanceMethod yX5_copyFrom, Cond.selects RX5 yX5_copyFrom yX5_copyFrom, Cond.initialized RX5, Cond.code yX5_copyFrom cX5_copyFrom 3 none, Cond.fieldLink RX5 9 "MittenLine$Row" "yards" "[I", Cond.fieldLink RX5 15 "MittenLine$Row" "feels" "[I", Cond.fieldLink RX5 18 "MittenLine$Row" "lengths" "[I", Cond.fieldLink RX5 28 "MittenLine$Row" "holding" "I", Cond.fieldLink RX5 24 "MittenLine$Row" "wool" "I", Cond.fieldLink RX5 31 "MittenLine$Row" "day" "I", Cond.methodLink RX7 145 yX0_begin, Cond.instanceMethod yX0_begin, Cond.selects RX0 yX0_begin yX0_begin, Cond.initialized RX0, Cond.code yX0_begin cX0_begin 1 none, Cond.fieldLink RX0 9 "MittenLine$Course" "acts" "I", Cond.fieldLink RX0 15 "MittenLine$Course" "badAct" "I", Cond.fieldLink RX0 18 "MittenLine$Course" "badWhy" "I"]
def wsX7_judge_r3 : List Cond := [Cond.fieldLink RX0 21 "MittenLine$Course" "drawnCount" "I", Cond.fieldLink RX0 24 "MittenLine$Course" "drawAct" "I", Cond.fieldLink RX0 27 "MittenLine$Course" "drawChild" "I", Cond.methodLink RX7 148 yX3_beginActs, Cond.instanceMethod yX3_beginActs, Cond.selects RX3 yX3_beginActs yX3_beginActs, Cond.code yX3_beginActs cX3_beginActs 1 none, Cond.fieldLink RX3 27 "MittenLine$Pad" "awaited" "I", Cond.fieldLink RX3 30 "MittenLine$Pad" "actor" "I", Cond.fieldLink RX3 33 "MittenLine$Pad" "kind" "I", Cond.fieldLink RX3 36 "MittenLine$Pad" "amount" "I", Cond.methodLink RX7 151 yX3_endsAct, Cond.instanceMethod yX3_endsAct, Cond.selects RX3 yX3_endsAct yX3_endsAct, Cond.code yX3_endsAct cX3_endsAct 3 (some .boolean), Cond.methodLink RX7 163 yX0_take, Cond.instanceMethod yX0_take, Cond.selects RX0 yX0_take yX0_take, Cond.code yX0_take cX0_take 7 none, Cond.methodLink RX0 30 yX5_whyNot, Cond.instanceMethod yX5_whyNot, Cond.selects RX5 yX5_whyNot yX5_whyNot, Cond.code yX5_whyNot cX5_whyNot 4 (some .int), Cond.methodLink RX5 47 yX5_whyNotStep]
def wsX7_judge_r4 : List Cond := [Cond.instanceMethod yX5_whyNotStep, Cond.selects RX5 yX5_whyNotStep yX5_whyNotStep, Cond.code yX5_whyNotStep cX5_whyNotStep 4 (some .int), Cond.methodLink RX5 61 yX5_planStep, Cond.instanceMethod yX5_planStep, Cond.selects RX5 yX5_planStep yX5_planStep, Cond.code yX5_planStep cX5_planStep 5 (some .int), Cond.fieldLink RX5 21 "MittenLine$Row" "plan" "[I", Cond.methodLink RX5 84 yX5_planDraw, Cond.instanceMethod yX5_planDraw, Cond.selects RX5 yX5_planDraw yX5_planDraw, Cond.code yX5_planDraw cX5_planDraw 4 (some .boolean), Cond.methodLink RX5 51 yX5_whyNotLetOut, Cond.instanceMethod yX5_whyNotLetOut, Cond.selects RX5 yX5_whyNotLetOut yX5_whyNotLetOut, Cond.code yX5_whyNotLetOut cX5_whyNotLetOut 2 (some .int), Cond.methodLink RX5 54 yX5_whyNotWind, Cond.instanceMethod yX5_whyNotWind, Cond.selects RX5 yX5_whyNotWind yX5_whyNotWind, Cond.code yX5_whyNotWind cX5_whyNotWind 2 (some .int), Cond.methodLink RX5 43 yX5_isTaut, Cond.instanceMethod yX5_isTaut, Cond.selects RX5 yX5_isTaut yX5_isTaut, Cond.code yX5_isTaut cX5_isTaut 2 (some .boolean)]
def wsX7_judge_r5 : List Cond := [Cond.methodLink RX5 40 yX5_apart, Cond.instanceMethod yX5_apart, Cond.selects RX5 yX5_apart yX5_apart, Cond.code yX5_apart cX5_apart 2 (some .int), Cond.methodLink RX5 34 Lib.Math.abs.name, Cond.static Lib.Math.abs.name, Cond.initialized "java/lang/Math", Cond.code Lib.Math.abs.name Lib.Math.abs.code 1 (some .int), Cond.methodLink RX0 36 yX5_act, Cond.instanceMethod yX5_act, Cond.selects RX5 yX5_act yX5_act, Cond.code yX5_act cX5_act 4 (some .int), Cond.methodLink RX5 64 yX5_step, Cond.instanceMethod yX5_step, Cond.selects RX5 yX5_step yX5_step, Cond.code yX5_step cX5_step 5 (some .int), Cond.methodLink RX5 67 yX5_turnHold, Cond.instanceMethod yX5_turnHold, Cond.selects RX5 yX5_turnHold yX5_turnHold, Cond.code yX5_turnHold cX5_turnHold 2 none, Cond.methodLink RX5 71 yX5_squeeze, Cond.instanceMethod yX5_squeeze, Cond.selects RX5 yX5_squeeze yX5_squeeze, Cond.code yX5_squeeze cX5_squeeze 5 none]
def wsX7_judge_r6 : List Cond := [Cond.methodLink RX5 87 yX5_lossBy, Cond.instanceMethod yX5_lossBy, Cond.selects RX5 yX5_lossBy yX5_lossBy, Cond.code yX5_lossBy cX5_lossBy 2 (some .int), Cond.methodLink RX5 90 yX5_feelMore, Cond.instanceMethod yX5_feelMore, Cond.selects RX5 yX5_feelMore yX5_feelMore, Cond.code yX5_feelMore cX5_feelMore 3 none, Cond.methodLink RX5 93 Lib.Math.min.name, Cond.static Lib.Math.min.name, Cond.code Lib.Math.min.name Lib.Math.min.code 2 (some .int), Cond.methodLink RX5 75 yX5_letOut, Cond.instanceMethod yX5_letOut, Cond.selects RX5 yX5_letOut yX5_letOut, Cond.code yX5_letOut cX5_letOut 2 none, Cond.methodLink RX5 78 yX5_windIn, Cond.instanceMethod yX5_windIn, Cond.selects RX5 yX5_windIn yX5_windIn, Cond.code yX5_windIn cX5_windIn 2 none, Cond.methodLink RX5 81 yX5_nextDay, Cond.instanceMethod yX5_nextDay, Cond.selects RX5 yX5_nextDay yX5_nextDay, Cond.code yX5_nextDay cX5_nextDay 2 none, Cond.static yX7_leastBit]
def wsX7_judge_r7 : List Cond := [Cond.code yX7_leastBit cX7_leastBit 2 (some .int), Cond.methodLink RX0 43 yJ6_bitCount_0f7a4, Cond.static yJ6_bitCount_0f7a4, Cond.initialized RJ6, Cond.code yJ6_bitCount_0f7a4 cJ6_bitCount_0f7a4 1 (some .int), Cond.constant RJ6 265 (1431655765), Cond.constant RJ6 266 (858993459), Cond.constant RJ6 267 (252645135)]
def wsX7_judge : List Cond := .code yX7_judge cX7_judge 3 (some .int) :: ((wsX7_judge_r1 ++ (wsX7_judge_r2 ++ (wsX7_judge_r3 ++ (wsX7_judge_r4 ++ (wsX7_judge_r5 ++ (wsX7_judge_r6 ++ wsX7_judge_r7)))))) ++ wsX70 ++ wsX00 ++ wsX30 ++ wsX50)
def wsX7_behind_r1 : List Cond := [Cond.fieldLink RX7 16 "MittenLine" "trial" "LMittenLine$Row;", Cond.fieldLink RX7 72 "MittenLine$Row" "yards" "[I", Cond.fieldLink RX7 120 "MittenLine$Row" "feels" "[I", Cond.methodLink RX7 64 yX7_isWithin, Cond.static yX7_isWithin, Cond.initialized RX7, Cond.code yX7_isWithin cX7_isWithin 3 (some .boolean), Cond.methodLink RX7 108 yX7_runText, Cond.instanceMethod yX7_runText, Cond.selects RX7 yX7_runText yX7_runText, Cond.code yX7_runText cX7_runText 2 (some .int), Cond.fieldLink RX7 22 "MittenLine" "pad" "LMittenLine$Pad;", Cond.fieldLink RX7 10 "MittenLine" "now" "LMittenLine$Row;", Cond.fieldLink RX7 29 "MittenLine" "course" "LMittenLine$Course;", Cond.fieldLink RX7 98 "MittenLine$Pad" "count" "I", Cond.fieldLink RX7 111 "MittenLine$Course" "badAct" "I", Cond.fieldLink RX7 154 "MittenLine$Pad" "kind" "I", Cond.fieldLink RX7 157 "MittenLine$Pad" "actor" "I", Cond.fieldLink RX7 160 "MittenLine$Pad" "amount" "I", Cond.methodLink RX7 104 yX3_faultPlace, Cond.instanceMethod yX3_faultPlace, Cond.selects RX3 yX3_faultPlace yX3_faultPlace, Cond.initialized RX3, Cond.code yX3_faultPlace cX3_faultPlace 3 (some .int)]
def wsX7_behind_r2 : List Cond := [Cond.fieldLink RX3 15 "MittenLine$Pad" "count" "I", Cond.fieldLink RX3 9 "MittenLine$Pad" "signs" "[I", Cond.methodLink RX3 19 yX3_awaitedAfter, Cond.static yX3_awaitedAfter, Cond.code yX3_awaitedAfter cX3_awaitedAfter 2 (some .int), Cond.methodLink RX7 138 yX5_copyFrom, Cond.instanceMethod yX5_copyFrom, Cond.selects RX5 yX5_copyFrom yX5_copyFrom, Cond.initialized RX5, Cond.code yX5_copyFrom cX5_copyFrom 3 none, Cond.fieldLink RX5 9 "MittenLine$Row" "yards" "[I", Cond.fieldLink RX5 15 "MittenLine$Row" "feels" "[I", Cond.fieldLink RX5 18 "MittenLine$Row" "lengths" "[I", Cond.fieldLink RX5 28 "MittenLine$Row" "holding" "I", Cond.fieldLink RX5 24 "MittenLine$Row" "wool" "I", Cond.fieldLink RX5 31 "MittenLine$Row" "day" "I", Cond.methodLink RX7 145 yX0_begin, Cond.instanceMethod yX0_begin, Cond.selects RX0 yX0_begin yX0_begin, Cond.initialized RX0, Cond.code yX0_begin cX0_begin 1 none, Cond.fieldLink RX0 9 "MittenLine$Course" "acts" "I", Cond.fieldLink RX0 15 "MittenLine$Course" "badAct" "I", Cond.fieldLink RX0 18 "MittenLine$Course" "badWhy" "I"]
def wsX7_behind_r3 : List Cond := [Cond.fieldLink RX0 21 "MittenLine$Course" "drawnCount" "I", Cond.fieldLink RX0 24 "MittenLine$Course" "drawAct" "I", Cond.fieldLink RX0 27 "MittenLine$Course" "drawChild" "I", Cond.methodLink RX7 148 yX3_beginActs, Cond.instanceMethod yX3_beginActs, Cond.selects RX3 yX3_beginActs yX3_beginActs, Cond.code yX3_beginActs cX3_beginActs 1 none, Cond.fieldLink RX3 27 "MittenLine$Pad" "awaited" "I", Cond.fieldLink RX3 30 "MittenLine$Pad" "actor" "I", Cond.fieldLink RX3 33 "MittenLine$Pad" "kind" "I", Cond.fieldLink RX3 36 "MittenLine$Pad" "amount" "I", Cond.methodLink RX7 151 yX3_endsAct, Cond.instanceMethod yX3_endsAct, Cond.selects RX3 yX3_endsAct yX3_endsAct, Cond.code yX3_endsAct cX3_endsAct 3 (some .boolean), Cond.methodLink RX7 163 yX0_take, Cond.instanceMethod yX0_take, Cond.selects RX0 yX0_take yX0_take, Cond.code yX0_take cX0_take 7 none, Cond.methodLink RX0 30 yX5_whyNot, Cond.instanceMethod yX5_whyNot, Cond.selects RX5 yX5_whyNot yX5_whyNot, Cond.code yX5_whyNot cX5_whyNot 4 (some .int), Cond.methodLink RX5 47 yX5_whyNotStep]
def wsX7_behind_r4 : List Cond := [Cond.instanceMethod yX5_whyNotStep, Cond.selects RX5 yX5_whyNotStep yX5_whyNotStep, Cond.code yX5_whyNotStep cX5_whyNotStep 4 (some .int), Cond.methodLink RX5 61 yX5_planStep, Cond.instanceMethod yX5_planStep, Cond.selects RX5 yX5_planStep yX5_planStep, Cond.code yX5_planStep cX5_planStep 5 (some .int), Cond.fieldLink RX5 21 "MittenLine$Row" "plan" "[I", Cond.methodLink RX5 84 yX5_planDraw, Cond.instanceMethod yX5_planDraw, Cond.selects RX5 yX5_planDraw yX5_planDraw, Cond.code yX5_planDraw cX5_planDraw 4 (some .boolean), Cond.methodLink RX5 51 yX5_whyNotLetOut, Cond.instanceMethod yX5_whyNotLetOut, Cond.selects RX5 yX5_whyNotLetOut yX5_whyNotLetOut, Cond.code yX5_whyNotLetOut cX5_whyNotLetOut 2 (some .int), Cond.methodLink RX5 54 yX5_whyNotWind, Cond.instanceMethod yX5_whyNotWind, Cond.selects RX5 yX5_whyNotWind yX5_whyNotWind, Cond.code yX5_whyNotWind cX5_whyNotWind 2 (some .int), Cond.methodLink RX5 43 yX5_isTaut, Cond.instanceMethod yX5_isTaut, Cond.selects RX5 yX5_isTaut yX5_isTaut, Cond.code yX5_isTaut cX5_isTaut 2 (some .boolean)]
def wsX7_behind_r5 : List Cond := [Cond.methodLink RX5 40 yX5_apart, Cond.instanceMethod yX5_apart, Cond.selects RX5 yX5_apart yX5_apart, Cond.code yX5_apart cX5_apart 2 (some .int), Cond.methodLink RX5 34 Lib.Math.abs.name, Cond.static Lib.Math.abs.name, Cond.initialized "java/lang/Math", Cond.code Lib.Math.abs.name Lib.Math.abs.code 1 (some .int), Cond.methodLink RX0 36 yX5_act, Cond.instanceMethod yX5_act, Cond.selects RX5 yX5_act yX5_act, Cond.code yX5_act cX5_act 4 (some .int), Cond.methodLink RX5 64 yX5_step, Cond.instanceMethod yX5_step, Cond.selects RX5 yX5_step yX5_step, Cond.code yX5_step cX5_step 5 (some .int), Cond.methodLink RX5 67 yX5_turnHold, Cond.instanceMethod yX5_turnHold, Cond.selects RX5 yX5_turnHold yX5_turnHold, Cond.code yX5_turnHold cX5_turnHold 2 none, Cond.methodLink RX5 71 yX5_squeeze, Cond.instanceMethod yX5_squeeze, Cond.selects RX5 yX5_squeeze yX5_squeeze, Cond.code yX5_squeeze cX5_squeeze 5 none]
def wsX7_behind_r6 : List Cond := [Cond.methodLink RX5 87 yX5_lossBy, Cond.instanceMethod yX5_lossBy, Cond.selects RX5 yX5_lossBy yX5_lossBy, Cond.code yX5_lossBy cX5_lossBy 2 (some .int), Cond.methodLink RX5 90 yX5_feelMore, Cond.instanceMethod yX5_feelMore, Cond.selects RX5 yX5_feelMore yX5_feelMore, Cond.code yX5_feelMore cX5_feelMore 3 none, Cond.methodLink RX5 93 Lib.Math.min.name, Cond.static Lib.Math.min.name, Cond.code Lib.Math.min.name Lib.Math.min.code 2 (some .int), Cond.methodLink RX5 75 yX5_letOut, Cond.instanceMethod yX5_letOut, Cond.selects RX5 yX5_letOut yX5_letOut, Cond.code yX5_letOut cX5_letOut 2 none, Cond.methodLink RX5 78 yX5_windIn, Cond.instanceMethod yX5_windIn, Cond.selects RX5 yX5_windIn yX5_windIn, Cond.code yX5_windIn cX5_windIn 2 none, Cond.methodLink RX5 81 yX5_nextDay, Cond.instanceMethod yX5_nextDay, Cond.selects RX5 yX5_nextDay yX5_nextDay, Cond.code yX5_nextDay cX5_nextDay 2 none, Cond.static yX7_leastBit]
def wsX7_behind_r7 : List Cond := [Cond.code yX7_leastBit cX7_leastBit 2 (some .int), Cond.methodLink RX0 43 yJ6_bitCount_0f7a4, Cond.static yJ6_bitCount_0f7a4, Cond.initialized RJ6, Cond.code yJ6_bitCount_0f7a4 cJ6_bitCount_0f7a4 1 (some .int), Cond.constant RJ6 265 (1431655765), Cond.constant RJ6 266 (858993459), Cond.constant RJ6 267 (252645135), Cond.methodLink RX7 76 yX5_holdsFast, Cond.instanceMethod yX5_holdsFast, Cond.selects RX5 yX5_holdsFast yX5_holdsFast, Cond.code yX5_holdsFast cX5_holdsFast 2 (some .boolean)]
def wsX7_behind : List Cond := .code yX7_behind cX7_behind 4 (some .int) :: ((wsX7_behind_r1 ++ (wsX7_behind_r2 ++ (wsX7_behind_r3 ++ (wsX7_behind_r4 ++ (wsX7_behind_r5 ++ (wsX7_behind_r6 ++ wsX7_behind_r7)))))) ++ wsX70 ++ wsX50 ++ wsX30 ++ wsX00)
def wsX7_line_r1 : List Cond := [Cond.fieldLink RX7 16 "MittenLine" "trial" "LMittenLine$Row;", Cond.fieldLink RX7 91 "MittenLine$Row" "wool" "I", Cond.fieldLink RX7 129 "MittenLine$Row" "day" "I", Cond.methodLink RX7 64 yX7_isWithin, Cond.static yX7_isWithin, Cond.initialized RX7, Cond.code yX7_isWithin cX7_isWithin 3 (some .boolean), Cond.methodLink RX7 108 yX7_runText, Cond.instanceMethod yX7_runText, Cond.selects RX7 yX7_runText yX7_runText, Cond.code yX7_runText cX7_runText 2 (some .int), Cond.fieldLink RX7 22 "MittenLine" "pad" "LMittenLine$Pad;", Cond.fieldLink RX7 10 "MittenLine" "now" "LMittenLine$Row;", Cond.fieldLink RX7 29 "MittenLine" "course" "LMittenLine$Course;", Cond.fieldLink RX7 98 "MittenLine$Pad" "count" "I", Cond.fieldLink RX7 111 "MittenLine$Course" "badAct" "I", Cond.fieldLink RX7 154 "MittenLine$Pad" "kind" "I", Cond.fieldLink RX7 157 "MittenLine$Pad" "actor" "I", Cond.fieldLink RX7 160 "MittenLine$Pad" "amount" "I", Cond.methodLink RX7 104 yX3_faultPlace, Cond.instanceMethod yX3_faultPlace, Cond.selects RX3 yX3_faultPlace yX3_faultPlace, Cond.initialized RX3, Cond.code yX3_faultPlace cX3_faultPlace 3 (some .int)]
def wsX7_line_r2 : List Cond := [Cond.fieldLink RX3 15 "MittenLine$Pad" "count" "I", Cond.fieldLink RX3 9 "MittenLine$Pad" "signs" "[I", Cond.methodLink RX3 19 yX3_awaitedAfter, Cond.static yX3_awaitedAfter, Cond.code yX3_awaitedAfter cX3_awaitedAfter 2 (some .int), Cond.methodLink RX7 138 yX5_copyFrom, Cond.instanceMethod yX5_copyFrom, Cond.selects RX5 yX5_copyFrom yX5_copyFrom, Cond.initialized RX5, Cond.code yX5_copyFrom cX5_copyFrom 3 none, Cond.fieldLink RX5 9 "MittenLine$Row" "yards" "[I", Cond.fieldLink RX5 15 "MittenLine$Row" "feels" "[I", Cond.fieldLink RX5 18 "MittenLine$Row" "lengths" "[I", Cond.fieldLink RX5 28 "MittenLine$Row" "holding" "I", Cond.fieldLink RX5 24 "MittenLine$Row" "wool" "I", Cond.fieldLink RX5 31 "MittenLine$Row" "day" "I", Cond.methodLink RX7 145 yX0_begin, Cond.instanceMethod yX0_begin, Cond.selects RX0 yX0_begin yX0_begin, Cond.initialized RX0, Cond.code yX0_begin cX0_begin 1 none, Cond.fieldLink RX0 9 "MittenLine$Course" "acts" "I", Cond.fieldLink RX0 15 "MittenLine$Course" "badAct" "I", Cond.fieldLink RX0 18 "MittenLine$Course" "badWhy" "I"]
def wsX7_line_r3 : List Cond := [Cond.fieldLink RX0 21 "MittenLine$Course" "drawnCount" "I", Cond.fieldLink RX0 24 "MittenLine$Course" "drawAct" "I", Cond.fieldLink RX0 27 "MittenLine$Course" "drawChild" "I", Cond.methodLink RX7 148 yX3_beginActs, Cond.instanceMethod yX3_beginActs, Cond.selects RX3 yX3_beginActs yX3_beginActs, Cond.code yX3_beginActs cX3_beginActs 1 none, Cond.fieldLink RX3 27 "MittenLine$Pad" "awaited" "I", Cond.fieldLink RX3 30 "MittenLine$Pad" "actor" "I", Cond.fieldLink RX3 33 "MittenLine$Pad" "kind" "I", Cond.fieldLink RX3 36 "MittenLine$Pad" "amount" "I", Cond.methodLink RX7 151 yX3_endsAct, Cond.instanceMethod yX3_endsAct, Cond.selects RX3 yX3_endsAct yX3_endsAct, Cond.code yX3_endsAct cX3_endsAct 3 (some .boolean), Cond.methodLink RX7 163 yX0_take, Cond.instanceMethod yX0_take, Cond.selects RX0 yX0_take yX0_take, Cond.code yX0_take cX0_take 7 none, Cond.methodLink RX0 30 yX5_whyNot, Cond.instanceMethod yX5_whyNot, Cond.selects RX5 yX5_whyNot yX5_whyNot, Cond.code yX5_whyNot cX5_whyNot 4 (some .int), Cond.methodLink RX5 47 yX5_whyNotStep]
def wsX7_line_r4 : List Cond := [Cond.instanceMethod yX5_whyNotStep, Cond.selects RX5 yX5_whyNotStep yX5_whyNotStep, Cond.code yX5_whyNotStep cX5_whyNotStep 4 (some .int), Cond.methodLink RX5 61 yX5_planStep, Cond.instanceMethod yX5_planStep, Cond.selects RX5 yX5_planStep yX5_planStep, Cond.code yX5_planStep cX5_planStep 5 (some .int), Cond.fieldLink RX5 21 "MittenLine$Row" "plan" "[I", Cond.methodLink RX5 84 yX5_planDraw, Cond.instanceMethod yX5_planDraw, Cond.selects RX5 yX5_planDraw yX5_planDraw, Cond.code yX5_planDraw cX5_planDraw 4 (some .boolean), Cond.methodLink RX5 51 yX5_whyNotLetOut, Cond.instanceMethod yX5_whyNotLetOut, Cond.selects RX5 yX5_whyNotLetOut yX5_whyNotLetOut, Cond.code yX5_whyNotLetOut cX5_whyNotLetOut 2 (some .int), Cond.methodLink RX5 54 yX5_whyNotWind, Cond.instanceMethod yX5_whyNotWind, Cond.selects RX5 yX5_whyNotWind yX5_whyNotWind, Cond.code yX5_whyNotWind cX5_whyNotWind 2 (some .int), Cond.methodLink RX5 43 yX5_isTaut, Cond.instanceMethod yX5_isTaut, Cond.selects RX5 yX5_isTaut yX5_isTaut, Cond.code yX5_isTaut cX5_isTaut 2 (some .boolean)]
def wsX7_line_r5 : List Cond := [Cond.methodLink RX5 40 yX5_apart, Cond.instanceMethod yX5_apart, Cond.selects RX5 yX5_apart yX5_apart, Cond.code yX5_apart cX5_apart 2 (some .int), Cond.methodLink RX5 34 Lib.Math.abs.name, Cond.static Lib.Math.abs.name, Cond.initialized "java/lang/Math", Cond.code Lib.Math.abs.name Lib.Math.abs.code 1 (some .int), Cond.methodLink RX0 36 yX5_act, Cond.instanceMethod yX5_act, Cond.selects RX5 yX5_act yX5_act, Cond.code yX5_act cX5_act 4 (some .int), Cond.methodLink RX5 64 yX5_step, Cond.instanceMethod yX5_step, Cond.selects RX5 yX5_step yX5_step, Cond.code yX5_step cX5_step 5 (some .int), Cond.methodLink RX5 67 yX5_turnHold, Cond.instanceMethod yX5_turnHold, Cond.selects RX5 yX5_turnHold yX5_turnHold, Cond.code yX5_turnHold cX5_turnHold 2 none, Cond.methodLink RX5 71 yX5_squeeze, Cond.instanceMethod yX5_squeeze, Cond.selects RX5 yX5_squeeze yX5_squeeze, Cond.code yX5_squeeze cX5_squeeze 5 none]
def wsX7_line_r6 : List Cond := [Cond.methodLink RX5 87 yX5_lossBy, Cond.instanceMethod yX5_lossBy, Cond.selects RX5 yX5_lossBy yX5_lossBy, Cond.code yX5_lossBy cX5_lossBy 2 (some .int), Cond.methodLink RX5 90 yX5_feelMore, Cond.instanceMethod yX5_feelMore, Cond.selects RX5 yX5_feelMore yX5_feelMore, Cond.code yX5_feelMore cX5_feelMore 3 none, Cond.methodLink RX5 93 Lib.Math.min.name, Cond.static Lib.Math.min.name, Cond.code Lib.Math.min.name Lib.Math.min.code 2 (some .int), Cond.methodLink RX5 75 yX5_letOut, Cond.instanceMethod yX5_letOut, Cond.selects RX5 yX5_letOut yX5_letOut, Cond.code yX5_letOut cX5_letOut 2 none, Cond.methodLink RX5 78 yX5_windIn, Cond.instanceMethod yX5_windIn, Cond.selects RX5 yX5_windIn yX5_windIn, Cond.code yX5_windIn cX5_windIn 2 none, Cond.methodLink RX5 81 yX5_nextDay, Cond.instanceMethod yX5_nextDay, Cond.selects RX5 yX5_nextDay yX5_nextDay, Cond.code yX5_nextDay cX5_nextDay 2 none, Cond.static yX7_leastBit]
def wsX7_line_r7 : List Cond := [Cond.code yX7_leastBit cX7_leastBit 2 (some .int), Cond.methodLink RX0 43 yJ6_bitCount_0f7a4, Cond.static yJ6_bitCount_0f7a4, Cond.initialized RJ6, Cond.code yJ6_bitCount_0f7a4 cJ6_bitCount_0f7a4 1 (some .int), Cond.constant RJ6 265 (1431655765), Cond.constant RJ6 266 (858993459), Cond.constant RJ6 267 (252645135), Cond.methodLink RX7 123 yX5_tautBits, Cond.instanceMethod yX5_tautBits, Cond.selects RX5 yX5_tautBits yX5_tautBits, Cond.code yX5_tautBits cX5_tautBits 3 (some .int), Cond.methodLink RX7 126 yX5_allLengths, Cond.instanceMethod yX5_allLengths, Cond.selects RX5 yX5_allLengths yX5_allLengths, Cond.code yX5_allLengths cX5_allLengths 3 (some .int)]
def wsX7_line : List Cond := .code yX7_line cX7_line 3 (some .int) :: ((wsX7_line_r1 ++ (wsX7_line_r2 ++ (wsX7_line_r3 ++ (wsX7_line_r4 ++ (wsX7_line_r5 ++ (wsX7_line_r6 ++ wsX7_line_r7)))))) ++ wsX70 ++ wsX50 ++ wsX30 ++ wsX00)
def wsX7_drawn_r1 : List Cond := [Cond.fieldLink RX7 29 "MittenLine" "course" "LMittenLine$Course;", Cond.fieldLink RX7 132 "MittenLine$Course" "drawAct" "I", Cond.fieldLink RX7 135 "MittenLine$Course" "drawChild" "I", Cond.methodLink RX7 64 yX7_isWithin, Cond.static yX7_isWithin, Cond.initialized RX7, Cond.code yX7_isWithin cX7_isWithin 3 (some .boolean), Cond.methodLink RX7 108 yX7_runText, Cond.instanceMethod yX7_runText, Cond.selects RX7 yX7_runText yX7_runText, Cond.code yX7_runText cX7_runText 2 (some .int), Cond.fieldLink RX7 22 "MittenLine" "pad" "LMittenLine$Pad;", Cond.fieldLink RX7 16 "MittenLine" "trial" "LMittenLine$Row;", Cond.fieldLink RX7 10 "MittenLine" "now" "LMittenLine$Row;", Cond.fieldLink RX7 98 "MittenLine$Pad" "count" "I", Cond.fieldLink RX7 111 "MittenLine$Course" "badAct" "I", Cond.fieldLink RX7 154 "MittenLine$Pad" "kind" "I", Cond.fieldLink RX7 157 "MittenLine$Pad" "actor" "I", Cond.fieldLink RX7 160 "MittenLine$Pad" "amount" "I", Cond.methodLink RX7 104 yX3_faultPlace, Cond.instanceMethod yX3_faultPlace, Cond.selects RX3 yX3_faultPlace yX3_faultPlace, Cond.initialized RX3, Cond.code yX3_faultPlace cX3_faultPlace 3 (some .int)]
def wsX7_drawn_r2 : List Cond := [Cond.fieldLink RX3 15 "MittenLine$Pad" "count" "I", Cond.fieldLink RX3 9 "MittenLine$Pad" "signs" "[I", Cond.methodLink RX3 19 yX3_awaitedAfter, Cond.static yX3_awaitedAfter, Cond.code yX3_awaitedAfter cX3_awaitedAfter 2 (some .int), Cond.methodLink RX7 138 yX5_copyFrom, Cond.instanceMethod yX5_copyFrom, Cond.selects RX5 yX5_copyFrom yX5_copyFrom, Cond.initialized RX5, Cond.code yX5_copyFrom cX5_copyFrom 3 none, Cond.fieldLink RX5 9 "MittenLine$Row" "yards" "[I", Cond.fieldLink RX5 15 "MittenLine$Row" "feels" "[I", Cond.fieldLink RX5 18 "MittenLine$Row" "lengths" "[I", Cond.fieldLink RX5 28 "MittenLine$Row" "holding" "I", Cond.fieldLink RX5 24 "MittenLine$Row" "wool" "I", Cond.fieldLink RX5 31 "MittenLine$Row" "day" "I", Cond.methodLink RX7 145 yX0_begin, Cond.instanceMethod yX0_begin, Cond.selects RX0 yX0_begin yX0_begin, Cond.initialized RX0, Cond.code yX0_begin cX0_begin 1 none, Cond.fieldLink RX0 9 "MittenLine$Course" "acts" "I", Cond.fieldLink RX0 15 "MittenLine$Course" "badAct" "I", Cond.fieldLink RX0 18 "MittenLine$Course" "badWhy" "I"]
def wsX7_drawn_r3 : List Cond := [Cond.fieldLink RX0 21 "MittenLine$Course" "drawnCount" "I", Cond.fieldLink RX0 24 "MittenLine$Course" "drawAct" "I", Cond.fieldLink RX0 27 "MittenLine$Course" "drawChild" "I", Cond.methodLink RX7 148 yX3_beginActs, Cond.instanceMethod yX3_beginActs, Cond.selects RX3 yX3_beginActs yX3_beginActs, Cond.code yX3_beginActs cX3_beginActs 1 none, Cond.fieldLink RX3 27 "MittenLine$Pad" "awaited" "I", Cond.fieldLink RX3 30 "MittenLine$Pad" "actor" "I", Cond.fieldLink RX3 33 "MittenLine$Pad" "kind" "I", Cond.fieldLink RX3 36 "MittenLine$Pad" "amount" "I", Cond.methodLink RX7 151 yX3_endsAct, Cond.instanceMethod yX3_endsAct, Cond.selects RX3 yX3_endsAct yX3_endsAct, Cond.code yX3_endsAct cX3_endsAct 3 (some .boolean), Cond.methodLink RX7 163 yX0_take, Cond.instanceMethod yX0_take, Cond.selects RX0 yX0_take yX0_take, Cond.code yX0_take cX0_take 7 none, Cond.methodLink RX0 30 yX5_whyNot, Cond.instanceMethod yX5_whyNot, Cond.selects RX5 yX5_whyNot yX5_whyNot, Cond.code yX5_whyNot cX5_whyNot 4 (some .int), Cond.methodLink RX5 47 yX5_whyNotStep]
def wsX7_drawn_r4 : List Cond := [Cond.instanceMethod yX5_whyNotStep, Cond.selects RX5 yX5_whyNotStep yX5_whyNotStep, Cond.code yX5_whyNotStep cX5_whyNotStep 4 (some .int), Cond.methodLink RX5 61 yX5_planStep, Cond.instanceMethod yX5_planStep, Cond.selects RX5 yX5_planStep yX5_planStep, Cond.code yX5_planStep cX5_planStep 5 (some .int), Cond.fieldLink RX5 21 "MittenLine$Row" "plan" "[I", Cond.methodLink RX5 84 yX5_planDraw, Cond.instanceMethod yX5_planDraw, Cond.selects RX5 yX5_planDraw yX5_planDraw, Cond.code yX5_planDraw cX5_planDraw 4 (some .boolean), Cond.methodLink RX5 51 yX5_whyNotLetOut, Cond.instanceMethod yX5_whyNotLetOut, Cond.selects RX5 yX5_whyNotLetOut yX5_whyNotLetOut, Cond.code yX5_whyNotLetOut cX5_whyNotLetOut 2 (some .int), Cond.methodLink RX5 54 yX5_whyNotWind, Cond.instanceMethod yX5_whyNotWind, Cond.selects RX5 yX5_whyNotWind yX5_whyNotWind, Cond.code yX5_whyNotWind cX5_whyNotWind 2 (some .int), Cond.methodLink RX5 43 yX5_isTaut, Cond.instanceMethod yX5_isTaut, Cond.selects RX5 yX5_isTaut yX5_isTaut, Cond.code yX5_isTaut cX5_isTaut 2 (some .boolean)]
def wsX7_drawn_r5 : List Cond := [Cond.methodLink RX5 40 yX5_apart, Cond.instanceMethod yX5_apart, Cond.selects RX5 yX5_apart yX5_apart, Cond.code yX5_apart cX5_apart 2 (some .int), Cond.methodLink RX5 34 Lib.Math.abs.name, Cond.static Lib.Math.abs.name, Cond.initialized "java/lang/Math", Cond.code Lib.Math.abs.name Lib.Math.abs.code 1 (some .int), Cond.methodLink RX0 36 yX5_act, Cond.instanceMethod yX5_act, Cond.selects RX5 yX5_act yX5_act, Cond.code yX5_act cX5_act 4 (some .int), Cond.methodLink RX5 64 yX5_step, Cond.instanceMethod yX5_step, Cond.selects RX5 yX5_step yX5_step, Cond.code yX5_step cX5_step 5 (some .int), Cond.methodLink RX5 67 yX5_turnHold, Cond.instanceMethod yX5_turnHold, Cond.selects RX5 yX5_turnHold yX5_turnHold, Cond.code yX5_turnHold cX5_turnHold 2 none, Cond.methodLink RX5 71 yX5_squeeze, Cond.instanceMethod yX5_squeeze, Cond.selects RX5 yX5_squeeze yX5_squeeze, Cond.code yX5_squeeze cX5_squeeze 5 none]
def wsX7_drawn_r6 : List Cond := [Cond.methodLink RX5 87 yX5_lossBy, Cond.instanceMethod yX5_lossBy, Cond.selects RX5 yX5_lossBy yX5_lossBy, Cond.code yX5_lossBy cX5_lossBy 2 (some .int), Cond.methodLink RX5 90 yX5_feelMore, Cond.instanceMethod yX5_feelMore, Cond.selects RX5 yX5_feelMore yX5_feelMore, Cond.code yX5_feelMore cX5_feelMore 3 none, Cond.methodLink RX5 93 Lib.Math.min.name, Cond.static Lib.Math.min.name, Cond.code Lib.Math.min.name Lib.Math.min.code 2 (some .int), Cond.methodLink RX5 75 yX5_letOut, Cond.instanceMethod yX5_letOut, Cond.selects RX5 yX5_letOut yX5_letOut, Cond.code yX5_letOut cX5_letOut 2 none, Cond.methodLink RX5 78 yX5_windIn, Cond.instanceMethod yX5_windIn, Cond.selects RX5 yX5_windIn yX5_windIn, Cond.code yX5_windIn cX5_windIn 2 none, Cond.methodLink RX5 81 yX5_nextDay, Cond.instanceMethod yX5_nextDay, Cond.selects RX5 yX5_nextDay yX5_nextDay, Cond.code yX5_nextDay cX5_nextDay 2 none, Cond.static yX7_leastBit]
def wsX7_drawn_r7 : List Cond := [Cond.code yX7_leastBit cX7_leastBit 2 (some .int), Cond.methodLink RX0 43 yJ6_bitCount_0f7a4, Cond.static yJ6_bitCount_0f7a4, Cond.initialized RJ6, Cond.code yJ6_bitCount_0f7a4 cJ6_bitCount_0f7a4 1 (some .int), Cond.constant RJ6 265 (1431655765), Cond.constant RJ6 266 (858993459), Cond.constant RJ6 267 (252645135)]
def wsX7_drawn : List Cond := .code yX7_drawn cX7_drawn 3 (some .int) :: ((wsX7_drawn_r1 ++ (wsX7_drawn_r2 ++ (wsX7_drawn_r3 ++ (wsX7_drawn_r4 ++ (wsX7_drawn_r5 ++ (wsX7_drawn_r6 ++ wsX7_drawn_r7)))))) ++ wsX70 ++ wsX00 ++ wsX30 ++ wsX50)
def wsX7_done_r1 : List Cond := [Cond.fieldLink RX7 10 "MittenLine" "now" "LMittenLine$Row;", Cond.fieldLink RX7 16 "MittenLine" "trial" "LMittenLine$Row;", Cond.fieldLink RX7 22 "MittenLine" "pad" "LMittenLine$Pad;", Cond.fieldLink RX7 29 "MittenLine" "course" "LMittenLine$Course;", Cond.fieldLink RX7 142 "MittenLine$Course" "acts" "I", Cond.methodLink RX7 108 yX7_runText, Cond.instanceMethod yX7_runText, Cond.selects RX7 yX7_runText yX7_runText, Cond.initialized RX7, Cond.code yX7_runText cX7_runText 2 (some .int), Cond.fieldLink RX7 98 "MittenLine$Pad" "count" "I", Cond.fieldLink RX7 111 "MittenLine$Course" "badAct" "I", Cond.fieldLink RX7 154 "MittenLine$Pad" "kind" "I", Cond.fieldLink RX7 157 "MittenLine$Pad" "actor" "I", Cond.fieldLink RX7 160 "MittenLine$Pad" "amount" "I", Cond.methodLink RX7 104 yX3_faultPlace, Cond.instanceMethod yX3_faultPlace, Cond.selects RX3 yX3_faultPlace yX3_faultPlace, Cond.initialized RX3, Cond.code yX3_faultPlace cX3_faultPlace 3 (some .int), Cond.fieldLink RX3 15 "MittenLine$Pad" "count" "I", Cond.fieldLink RX3 9 "MittenLine$Pad" "signs" "[I", Cond.methodLink RX3 19 yX3_awaitedAfter, Cond.static yX3_awaitedAfter]
def wsX7_done_r2 : List Cond := [Cond.code yX3_awaitedAfter cX3_awaitedAfter 2 (some .int), Cond.static yX7_isWithin, Cond.code yX7_isWithin cX7_isWithin 3 (some .boolean), Cond.methodLink RX7 138 yX5_copyFrom, Cond.instanceMethod yX5_copyFrom, Cond.selects RX5 yX5_copyFrom yX5_copyFrom, Cond.initialized RX5, Cond.code yX5_copyFrom cX5_copyFrom 3 none, Cond.fieldLink RX5 9 "MittenLine$Row" "yards" "[I", Cond.fieldLink RX5 15 "MittenLine$Row" "feels" "[I", Cond.fieldLink RX5 18 "MittenLine$Row" "lengths" "[I", Cond.fieldLink RX5 28 "MittenLine$Row" "holding" "I", Cond.fieldLink RX5 24 "MittenLine$Row" "wool" "I", Cond.fieldLink RX5 31 "MittenLine$Row" "day" "I", Cond.methodLink RX7 145 yX0_begin, Cond.instanceMethod yX0_begin, Cond.selects RX0 yX0_begin yX0_begin, Cond.initialized RX0, Cond.code yX0_begin cX0_begin 1 none, Cond.fieldLink RX0 9 "MittenLine$Course" "acts" "I", Cond.fieldLink RX0 15 "MittenLine$Course" "badAct" "I", Cond.fieldLink RX0 18 "MittenLine$Course" "badWhy" "I", Cond.fieldLink RX0 21 "MittenLine$Course" "drawnCount" "I", Cond.fieldLink RX0 24 "MittenLine$Course" "drawAct" "I"]
def wsX7_done_r3 : List Cond := [Cond.fieldLink RX0 27 "MittenLine$Course" "drawChild" "I", Cond.methodLink RX7 148 yX3_beginActs, Cond.instanceMethod yX3_beginActs, Cond.selects RX3 yX3_beginActs yX3_beginActs, Cond.code yX3_beginActs cX3_beginActs 1 none, Cond.fieldLink RX3 27 "MittenLine$Pad" "awaited" "I", Cond.fieldLink RX3 30 "MittenLine$Pad" "actor" "I", Cond.fieldLink RX3 33 "MittenLine$Pad" "kind" "I", Cond.fieldLink RX3 36 "MittenLine$Pad" "amount" "I", Cond.methodLink RX7 151 yX3_endsAct, Cond.instanceMethod yX3_endsAct, Cond.selects RX3 yX3_endsAct yX3_endsAct, Cond.code yX3_endsAct cX3_endsAct 3 (some .boolean), Cond.methodLink RX7 163 yX0_take, Cond.instanceMethod yX0_take, Cond.selects RX0 yX0_take yX0_take, Cond.code yX0_take cX0_take 7 none, Cond.methodLink RX0 30 yX5_whyNot, Cond.instanceMethod yX5_whyNot, Cond.selects RX5 yX5_whyNot yX5_whyNot, Cond.code yX5_whyNot cX5_whyNot 4 (some .int), Cond.methodLink RX5 47 yX5_whyNotStep, Cond.instanceMethod yX5_whyNotStep, Cond.selects RX5 yX5_whyNotStep yX5_whyNotStep]
def wsX7_done_r4 : List Cond := [Cond.code yX5_whyNotStep cX5_whyNotStep 4 (some .int), Cond.methodLink RX5 61 yX5_planStep, Cond.instanceMethod yX5_planStep, Cond.selects RX5 yX5_planStep yX5_planStep, Cond.code yX5_planStep cX5_planStep 5 (some .int), Cond.fieldLink RX5 21 "MittenLine$Row" "plan" "[I", Cond.methodLink RX5 84 yX5_planDraw, Cond.instanceMethod yX5_planDraw, Cond.selects RX5 yX5_planDraw yX5_planDraw, Cond.code yX5_planDraw cX5_planDraw 4 (some .boolean), Cond.methodLink RX5 51 yX5_whyNotLetOut, Cond.instanceMethod yX5_whyNotLetOut, Cond.selects RX5 yX5_whyNotLetOut yX5_whyNotLetOut, Cond.code yX5_whyNotLetOut cX5_whyNotLetOut 2 (some .int), Cond.methodLink RX5 54 yX5_whyNotWind, Cond.instanceMethod yX5_whyNotWind, Cond.selects RX5 yX5_whyNotWind yX5_whyNotWind, Cond.code yX5_whyNotWind cX5_whyNotWind 2 (some .int), Cond.methodLink RX5 43 yX5_isTaut, Cond.instanceMethod yX5_isTaut, Cond.selects RX5 yX5_isTaut yX5_isTaut, Cond.code yX5_isTaut cX5_isTaut 2 (some .boolean), Cond.methodLink RX5 40 yX5_apart, Cond.instanceMethod yX5_apart]
def wsX7_done_r5 : List Cond := [Cond.selects RX5 yX5_apart yX5_apart, Cond.code yX5_apart cX5_apart 2 (some .int), Cond.methodLink RX5 34 Lib.Math.abs.name, Cond.static Lib.Math.abs.name, Cond.initialized "java/lang/Math", Cond.code Lib.Math.abs.name Lib.Math.abs.code 1 (some .int), Cond.methodLink RX0 36 yX5_act, Cond.instanceMethod yX5_act, Cond.selects RX5 yX5_act yX5_act, Cond.code yX5_act cX5_act 4 (some .int), Cond.methodLink RX5 64 yX5_step, Cond.instanceMethod yX5_step, Cond.selects RX5 yX5_step yX5_step, Cond.code yX5_step cX5_step 5 (some .int), Cond.methodLink RX5 67 yX5_turnHold, Cond.instanceMethod yX5_turnHold, Cond.selects RX5 yX5_turnHold yX5_turnHold, Cond.code yX5_turnHold cX5_turnHold 2 none, Cond.methodLink RX5 71 yX5_squeeze, Cond.instanceMethod yX5_squeeze, Cond.selects RX5 yX5_squeeze yX5_squeeze, Cond.code yX5_squeeze cX5_squeeze 5 none, Cond.methodLink RX5 87 yX5_lossBy, Cond.instanceMethod yX5_lossBy]
def wsX7_done_r6 : List Cond := [Cond.selects RX5 yX5_lossBy yX5_lossBy, Cond.code yX5_lossBy cX5_lossBy 2 (some .int), Cond.methodLink RX5 90 yX5_feelMore, Cond.instanceMethod yX5_feelMore, Cond.selects RX5 yX5_feelMore yX5_feelMore, Cond.code yX5_feelMore cX5_feelMore 3 none, Cond.methodLink RX5 93 Lib.Math.min.name, Cond.static Lib.Math.min.name, Cond.code Lib.Math.min.name Lib.Math.min.code 2 (some .int), Cond.methodLink RX5 75 yX5_letOut, Cond.instanceMethod yX5_letOut, Cond.selects RX5 yX5_letOut yX5_letOut, Cond.code yX5_letOut cX5_letOut 2 none, Cond.methodLink RX5 78 yX5_windIn, Cond.instanceMethod yX5_windIn, Cond.selects RX5 yX5_windIn yX5_windIn, Cond.code yX5_windIn cX5_windIn 2 none, Cond.methodLink RX5 81 yX5_nextDay, Cond.instanceMethod yX5_nextDay, Cond.selects RX5 yX5_nextDay yX5_nextDay, Cond.code yX5_nextDay cX5_nextDay 2 none, Cond.static yX7_leastBit, Cond.code yX7_leastBit cX7_leastBit 2 (some .int), Cond.methodLink RX0 43 yJ6_bitCount_0f7a4]
def wsX7_done_r7 : List Cond := [Cond.static yJ6_bitCount_0f7a4, Cond.initialized RJ6, Cond.code yJ6_bitCount_0f7a4 cJ6_bitCount_0f7a4 1 (some .int), Cond.constant RJ6 265 (1431655765), Cond.constant RJ6 266 (858993459), Cond.constant RJ6 267 (252645135), Cond.methodLink RX7 101 yX3_clear, Cond.instanceMethod yX3_clear, Cond.selects RX3 yX3_clear yX3_clear, Cond.code yX3_clear cX3_clear 1 none]
def wsX7_done : List Cond := .code yX7_done cX7_done 2 (some .int) :: ((wsX7_done_r1 ++ (wsX7_done_r2 ++ (wsX7_done_r3 ++ (wsX7_done_r4 ++ (wsX7_done_r5 ++ (wsX7_done_r6 ++ wsX7_done_r7)))))) ++ wsX70 ++ wsX00 ++ wsX30 ++ wsX50)
def wsX7_reach : List Cond := .code yX7_reach cX7_reach 3 (some .int) :: ([.fieldLink RX7 10 "MittenLine" "now" "LMittenLine$Row;", .methodLink RX7 64 yX7_isWithin, .static yX7_isWithin, .initialized RX7, .code yX7_isWithin cX7_isWithin 3 (some .boolean), .methodLink RX7 167 yX5_farthest, .instanceMethod yX5_farthest, .selects RX5 yX5_farthest yX5_farthest, .initialized RX5, .code yX5_farthest cX5_farthest 6 (some .int), .fieldLink RX5 9 "MittenLine$Row" "yards" "[I", .fieldLink RX5 18 "MittenLine$Row" "lengths" "[I", .methodLink RX5 93 Lib.Math.min.name, .static Lib.Math.min.name, .initialized "java/lang/Math", .code Lib.Math.min.name Lib.Math.min.code 2 (some .int), .methodLink RX5 96 yX5_holdsFast, .instanceMethod yX5_holdsFast, .selects RX5 yX5_holdsFast yX5_holdsFast, .code yX5_holdsFast cX5_holdsFast 2 (some .boolean), .fieldLink RX5 28 "MittenLine$Row" "holding" "I"] ++ wsX70 ++ wsX50)
def wsX7_wind_r1 : List Cond := [Cond.fieldLink RX7 50 "MittenLine" "puzzles" "LMittenLine$Puzzles;", Cond.methodLink RX7 64 yX7_isWithin, Cond.static yX7_isWithin, Cond.initialized RX7, Cond.code yX7_isWithin cX7_isWithin 3 (some .boolean), Cond.methodLink RX7 171 yX7_digitCount, Cond.static yX7_digitCount, Cond.code yX7_digitCount cX7_digitCount 4 (some .int), Cond.methodLink RX7 174 yX4_windingTime, Cond.instanceMethod yX4_windingTime, Cond.selects RX4 yX4_windingTime yX4_windingTime, Cond.initialized RX4, Cond.code yX4_windingTime cX4_windingTime 8 (some .int), Cond.fieldLink RX4 21 "MittenLine$Puzzles" "sizes" "[I", Cond.fieldLink RX4 9 "MittenLine$Puzzles" "digits" "[I", Cond.fieldLink RX4 26 "MittenLine$Puzzles" "times" "[[I", Cond.methodLink RX4 38 yX4_takeDigits, Cond.instanceMethod yX4_takeDigits, Cond.selects RX4 yX4_takeDigits yX4_takeDigits, Cond.code yX4_takeDigits cX4_takeDigits 6 (some .int), Cond.methodLink RX4 32 Lib.Math.min.name, Cond.static Lib.Math.min.name, Cond.initialized "java/lang/Math", Cond.code Lib.Math.min.name Lib.Math.min.code 2 (some .int)]
def wsX7_wind_r2 : List Cond := [Cond.methodLink RX4 41 yX4_timeOfParts, Cond.instanceMethod yX4_timeOfParts, Cond.selects RX4 yX4_timeOfParts yX4_timeOfParts, Cond.code yX4_timeOfParts cX4_timeOfParts 7 (some .int), Cond.methodLink RX4 45 Lib.Math.max.name, Cond.static Lib.Math.max.name, Cond.code Lib.Math.max.name Lib.Math.max.code 2 (some .int)]
def wsX7_wind : List Cond := .code yX7_wind cX7_wind 4 (some .int) :: ((wsX7_wind_r1 ++ wsX7_wind_r2) ++ wsX70 ++ wsX40)
def wsX7_read_r1 : List Cond := [Cond.constant RX7 178 (999999999), Cond.fieldLink RX7 50 "MittenLine" "puzzles" "LMittenLine$Puzzles;", Cond.methodLink RX7 64 yX7_isWithin, Cond.static yX7_isWithin, Cond.initialized RX7, Cond.code yX7_isWithin cX7_isWithin 3 (some .boolean), Cond.methodLink RX7 179 yX4_takeWords, Cond.instanceMethod yX4_takeWords, Cond.selects RX4 yX4_takeWords yX4_takeWords, Cond.initialized RX4, Cond.code yX4_takeWords cX4_takeWords 5 none, Cond.fieldLink RX4 15 "MittenLine$Puzzles" "words" "[I", Cond.methodLink RX7 171 yX7_digitCount, Cond.static yX7_digitCount, Cond.code yX7_digitCount cX7_digitCount 4 (some .int), Cond.methodLink RX7 183 yX4_takeDigits, Cond.instanceMethod yX4_takeDigits, Cond.selects RX4 yX4_takeDigits yX4_takeDigits, Cond.code yX4_takeDigits cX4_takeDigits 6 (some .int), Cond.methodLink RX4 32 Lib.Math.min.name, Cond.static Lib.Math.min.name, Cond.initialized "java/lang/Math", Cond.code Lib.Math.min.name Lib.Math.min.code 2 (some .int), Cond.fieldLink RX4 9 "MittenLine$Puzzles" "digits" "[I"]
def wsX7_read_r2 : List Cond := [Cond.methodLink RX7 186 yX4_countReadings, Cond.instanceMethod yX4_countReadings, Cond.selects RX4 yX4_countReadings yX4_countReadings, Cond.code yX4_countReadings cX4_countReadings 4 (some .int), Cond.fieldLink RX4 18 "MittenLine$Puzzles" "byEnd" "[I", Cond.methodLink RX4 52 yX4_standsBefore, Cond.instanceMethod yX4_standsBefore, Cond.selects RX4 yX4_standsBefore yX4_standsBefore, Cond.code yX4_standsBefore cX4_standsBefore 6 (some .boolean), Cond.methodLink RX7 189 yX4_fewestWords, Cond.instanceMethod yX4_fewestWords, Cond.selects RX4 yX4_fewestWords yX4_fewestWords, Cond.code yX4_fewestWords cX4_fewestWords 5 (some .int)]
def wsX7_read : List Cond := .code yX7_read cX7_read 8 (some .int) :: ((wsX7_read_r1 ++ wsX7_read_r2) ++ wsX70 ++ wsX40)
def wsX7_felt : List Cond := .code yX7_felt cX7_felt 3 (some .int) :: ([.fieldLink RX7 36 "MittenLine" "sights" "LMittenLine$Sights;", .fieldLink RX7 194 "MittenLine$Sights" "count" "I", .methodLink RX7 64 yX7_isWithin, .static yX7_isWithin, .initialized RX7, .code yX7_isWithin cX7_isWithin 3 (some .boolean), .methodLink RX7 192 yX6_add, .instanceMethod yX6_add, .selects RX6 yX6_add yX6_add, .initialized RX6, .code yX6_add cX6_add 3 (some .boolean), .fieldLink RX6 18 "MittenLine$Sights" "count" "I", .fieldLink RX6 9 "MittenLine$Sights" "who" "[I", .fieldLink RX6 15 "MittenLine$Sights" "much" "[I"] ++ wsX70 ++ wsX60)
def wsX7_forget : List Cond := .code yX7_forget cX7_forget 2 (some .int) :: ([.fieldLink RX7 36 "MittenLine" "sights" "LMittenLine$Sights;", .fieldLink RX7 194 "MittenLine$Sights" "count" "I", .methodLink RX7 195 yX6_clear, .instanceMethod yX6_clear, .selects RX6 yX6_clear yX6_clear, .initialized RX6, .code yX6_clear cX6_clear 1 none, .fieldLink RX6 18 "MittenLine$Sights" "count" "I"] ++ wsX70 ++ wsX60)
def wsX7_fits_r1 : List Cond := [Cond.fieldLink RX7 43 "MittenLine" "guess" "LMittenLine$Guess;", Cond.fieldLink RX7 36 "MittenLine" "sights" "LMittenLine$Sights;", Cond.methodLink RX7 196 yX1_countFitting, Cond.instanceMethod yX1_countFitting, Cond.selects RX1 yX1_countFitting yX1_countFitting, Cond.initialized RX1, Cond.code yX1_countFitting cX1_countFitting 4 (some .int), Cond.methodLink RX1 48 yX1_isFitting, Cond.static yX1_isFitting, Cond.code yX1_isFitting cX1_isFitting 3 (some .boolean), Cond.fieldLink RX1 33 "MittenLine$Sights" "count" "I", Cond.fieldLink RX1 39 "MittenLine$Sights" "who" "[I", Cond.fieldLink RX1 45 "MittenLine$Sights" "much" "[I", Cond.methodLink RX1 29 yX1_isCode, Cond.static yX1_isCode, Cond.code yX1_isCode cX1_isCode 1 (some .boolean), Cond.static yX7_isWithin, Cond.initialized RX7, Cond.code yX7_isWithin cX7_isWithin 3 (some .boolean), Cond.methodLink RX1 42 yX1_feltBy, Cond.static yX1_feltBy, Cond.code yX1_feltBy cX1_feltBy 3 (some .int), Cond.methodLink RX1 19 Lib.Math.abs.name, Cond.static Lib.Math.abs.name]
def wsX7_fits_r2 : List Cond := [Cond.initialized "java/lang/Math", Cond.code Lib.Math.abs.name Lib.Math.abs.code 1 (some .int), Cond.methodLink RX1 25 Lib.Math.max.name, Cond.static Lib.Math.max.name, Cond.code Lib.Math.max.name Lib.Math.max.code 2 (some .int), Cond.methodLink RX7 200 yX1_fitting, Cond.instanceMethod yX1_fitting, Cond.selects RX1 yX1_fitting yX1_fitting, Cond.code yX1_fitting cX1_fitting 5 (some .int)]
def wsX7_fits : List Cond := .code yX7_fits cX7_fits 2 (some .int) :: ((wsX7_fits_r1 ++ wsX7_fits_r2) ++ wsX70 ++ wsX60)
def wsX7_ask_r1 : List Cond := [Cond.fieldLink RX7 43 "MittenLine" "guess" "LMittenLine$Guess;", Cond.fieldLink RX7 36 "MittenLine" "sights" "LMittenLine$Sights;", Cond.fieldLink RX7 208 "MittenLine$Guess" "askedChild" "I", Cond.fieldLink RX7 211 "MittenLine$Guess" "mostLeft" "I", Cond.methodLink RX7 64 yX7_isWithin, Cond.static yX7_isWithin, Cond.initialized RX7, Cond.code yX7_isWithin cX7_isWithin 3 (some .boolean), Cond.methodLink RX7 196 yX1_countFitting, Cond.instanceMethod yX1_countFitting, Cond.selects RX1 yX1_countFitting yX1_countFitting, Cond.initialized RX1, Cond.code yX1_countFitting cX1_countFitting 4 (some .int), Cond.methodLink RX1 48 yX1_isFitting, Cond.static yX1_isFitting, Cond.code yX1_isFitting cX1_isFitting 3 (some .boolean), Cond.fieldLink RX1 33 "MittenLine$Sights" "count" "I", Cond.fieldLink RX1 39 "MittenLine$Sights" "who" "[I", Cond.fieldLink RX1 45 "MittenLine$Sights" "much" "[I", Cond.methodLink RX1 29 yX1_isCode, Cond.static yX1_isCode, Cond.code yX1_isCode cX1_isCode 1 (some .boolean), Cond.methodLink RX1 42 yX1_feltBy, Cond.static yX1_feltBy]
def wsX7_ask_r2 : List Cond := [Cond.code yX1_feltBy cX1_feltBy 3 (some .int), Cond.methodLink RX1 19 Lib.Math.abs.name, Cond.static Lib.Math.abs.name, Cond.initialized "java/lang/Math", Cond.code Lib.Math.abs.name Lib.Math.abs.code 1 (some .int), Cond.methodLink RX1 25 Lib.Math.max.name, Cond.static Lib.Math.max.name, Cond.code Lib.Math.max.name Lib.Math.max.code 2 (some .int), Cond.methodLink RX7 204 yX1_chooseChild, Cond.instanceMethod yX1_chooseChild, Cond.selects RX1 yX1_chooseChild yX1_chooseChild, Cond.code yX1_chooseChild cX1_chooseChild 4 none, Cond.fieldLink RX1 52 "MittenLine$Guess" "askedChild" "I", Cond.fieldLink RX1 55 "MittenLine$Guess" "mostLeft" "I", Cond.methodLink RX1 58 yX1_mostAlike, Cond.instanceMethod yX1_mostAlike, Cond.selects RX1 yX1_mostAlike yX1_mostAlike, Cond.code yX1_mostAlike cX1_mostAlike 6 (some .int), Cond.fieldLink RX1 9 "MittenLine$Guess" "tally" "[I"]
def wsX7_ask : List Cond := .code yX7_ask cX7_ask 2 (some .int) :: ((wsX7_ask_r1 ++ wsX7_ask_r2) ++ wsX70 ++ wsX10 ++ wsX60)
def wsX7_pull : List Cond := .code yX7_pull cX7_pull 6 (some .int) :: ([.fieldLink RX7 50 "MittenLine" "puzzles" "LMittenLine$Puzzles;", .methodLink RX7 64 yX7_isWithin, .static yX7_isWithin, .initialized RX7, .code yX7_isWithin cX7_isWithin 3 (some .boolean), .methodLink RX7 214 yX4_winningPulls, .instanceMethod yX4_winningPulls, .selects RX4 yX4_winningPulls yX4_winningPulls, .initialized RX4, .code yX4_winningPulls cX4_winningPulls 6 (some .int), .fieldLink RX4 29 "MittenLine$Puzzles" "winning" "[I", .methodLink RX7 217 yX7_leastBit, .static yX7_leastBit, .code yX7_leastBit cX7_leastBit 2 (some .int)] ++ wsX70 ++ wsX40)
def wsX7_commonDivisor : List Cond := .code yX7_commonDivisor cX7_commonDivisor 11 (some .long) :: ([])
def wsX7_lowestTerm : List Cond := .code yX7_lowestTerm cX7_lowestTerm 7 (some .long) :: ([.methodLink RX7 276 yX7_commonDivisor, .static yX7_commonDivisor, .initialized RX7, .code yX7_commonDivisor cX7_commonDivisor 11 (some .long)])
def wsX7_power : List Cond := .code yX7_power cX7_power 6 (some .long) :: ([])
def wsX7_passed : List Cond := .code yX7_passed cX7_passed 7 (some .long) :: ([.constantLong RX7 220 (-1000000000000000002), .constantLong RX7 222 (10), .constantLong RX7 228 (5), .constantLong RX7 234 (2), .methodLink RX7 64 yX7_isWithin, .static yX7_isWithin, .initialized RX7, .code yX7_isWithin cX7_isWithin 3 (some .boolean), .methodLink RX7 224 yX7_lowestTerm, .static yX7_lowestTerm, .code yX7_lowestTerm cX7_lowestTerm 7 (some .long), .methodLink RX7 276 yX7_commonDivisor, .static yX7_commonDivisor, .code yX7_commonDivisor cX7_commonDivisor 11 (some .long), .methodLink RX7 230 yX7_power, .static yX7_power, .code yX7_power cX7_power 6 (some .long)])
def wsX7_kindByDraw : List Cond := .code yX7_kindByDraw cX7_kindByDraw 1 (some .int) :: ([])
def wsX7_runYear_r1 : List Cond := [Cond.fieldLink RX7 16 "MittenLine" "trial" "LMittenLine$Row;", Cond.fieldLink RX7 10 "MittenLine" "now" "LMittenLine$Row;", Cond.constant RX7 239 (65537), Cond.methodLink RX7 138 yX5_copyFrom, Cond.instanceMethod yX5_copyFrom, Cond.selects RX5 yX5_copyFrom yX5_copyFrom, Cond.initialized RX5, Cond.code yX5_copyFrom cX5_copyFrom 3 none, Cond.fieldLink RX5 9 "MittenLine$Row" "yards" "[I", Cond.fieldLink RX5 15 "MittenLine$Row" "feels" "[I", Cond.fieldLink RX5 18 "MittenLine$Row" "lengths" "[I", Cond.fieldLink RX5 28 "MittenLine$Row" "holding" "I", Cond.fieldLink RX5 24 "MittenLine$Row" "wool" "I", Cond.fieldLink RX5 31 "MittenLine$Row" "day" "I", Cond.methodLink RX7 240 yX7_kindByDraw, Cond.static yX7_kindByDraw, Cond.initialized RX7, Cond.code yX7_kindByDraw cX7_kindByDraw 1 (some .int), Cond.methodLink RX7 243 yX5_whyNot, Cond.instanceMethod yX5_whyNot, Cond.selects RX5 yX5_whyNot yX5_whyNot, Cond.code yX5_whyNot cX5_whyNot 4 (some .int), Cond.methodLink RX5 47 yX5_whyNotStep, Cond.instanceMethod yX5_whyNotStep]
def wsX7_runYear_r2 : List Cond := [Cond.selects RX5 yX5_whyNotStep yX5_whyNotStep, Cond.code yX5_whyNotStep cX5_whyNotStep 4 (some .int), Cond.static yX7_isWithin, Cond.code yX7_isWithin cX7_isWithin 3 (some .boolean), Cond.methodLink RX5 61 yX5_planStep, Cond.instanceMethod yX5_planStep, Cond.selects RX5 yX5_planStep yX5_planStep, Cond.code yX5_planStep cX5_planStep 5 (some .int), Cond.fieldLink RX5 21 "MittenLine$Row" "plan" "[I", Cond.methodLink RX5 84 yX5_planDraw, Cond.instanceMethod yX5_planDraw, Cond.selects RX5 yX5_planDraw yX5_planDraw, Cond.code yX5_planDraw cX5_planDraw 4 (some .boolean), Cond.methodLink RX5 51 yX5_whyNotLetOut, Cond.instanceMethod yX5_whyNotLetOut, Cond.selects RX5 yX5_whyNotLetOut yX5_whyNotLetOut, Cond.code yX5_whyNotLetOut cX5_whyNotLetOut 2 (some .int), Cond.methodLink RX5 54 yX5_whyNotWind, Cond.instanceMethod yX5_whyNotWind, Cond.selects RX5 yX5_whyNotWind yX5_whyNotWind, Cond.code yX5_whyNotWind cX5_whyNotWind 2 (some .int), Cond.methodLink RX5 43 yX5_isTaut, Cond.instanceMethod yX5_isTaut, Cond.selects RX5 yX5_isTaut yX5_isTaut]
def wsX7_runYear_r3 : List Cond := [Cond.code yX5_isTaut cX5_isTaut 2 (some .boolean), Cond.methodLink RX5 40 yX5_apart, Cond.instanceMethod yX5_apart, Cond.selects RX5 yX5_apart yX5_apart, Cond.code yX5_apart cX5_apart 2 (some .int), Cond.methodLink RX5 34 Lib.Math.abs.name, Cond.static Lib.Math.abs.name, Cond.initialized "java/lang/Math", Cond.code Lib.Math.abs.name Lib.Math.abs.code 1 (some .int), Cond.methodLink RX7 247 yX5_act, Cond.instanceMethod yX5_act, Cond.selects RX5 yX5_act yX5_act, Cond.code yX5_act cX5_act 4 (some .int), Cond.methodLink RX5 64 yX5_step, Cond.instanceMethod yX5_step, Cond.selects RX5 yX5_step yX5_step, Cond.code yX5_step cX5_step 5 (some .int), Cond.methodLink RX5 67 yX5_turnHold, Cond.instanceMethod yX5_turnHold, Cond.selects RX5 yX5_turnHold yX5_turnHold, Cond.code yX5_turnHold cX5_turnHold 2 none, Cond.methodLink RX5 71 yX5_squeeze, Cond.instanceMethod yX5_squeeze, Cond.selects RX5 yX5_squeeze yX5_squeeze]
def wsX7_runYear_r4 : List Cond := [Cond.code yX5_squeeze cX5_squeeze 5 none, Cond.methodLink RX5 87 yX5_lossBy, Cond.instanceMethod yX5_lossBy, Cond.selects RX5 yX5_lossBy yX5_lossBy, Cond.code yX5_lossBy cX5_lossBy 2 (some .int), Cond.methodLink RX5 90 yX5_feelMore, Cond.instanceMethod yX5_feelMore, Cond.selects RX5 yX5_feelMore yX5_feelMore, Cond.code yX5_feelMore cX5_feelMore 3 none, Cond.methodLink RX5 93 Lib.Math.min.name, Cond.static Lib.Math.min.name, Cond.code Lib.Math.min.name Lib.Math.min.code 2 (some .int), Cond.methodLink RX5 75 yX5_letOut, Cond.instanceMethod yX5_letOut, Cond.selects RX5 yX5_letOut yX5_letOut, Cond.code yX5_letOut cX5_letOut 2 none, Cond.methodLink RX5 78 yX5_windIn, Cond.instanceMethod yX5_windIn, Cond.selects RX5 yX5_windIn yX5_windIn, Cond.code yX5_windIn cX5_windIn 2 none, Cond.methodLink RX5 81 yX5_nextDay, Cond.instanceMethod yX5_nextDay, Cond.selects RX5 yX5_nextDay yX5_nextDay, Cond.code yX5_nextDay cX5_nextDay 2 none]
def wsX7_runYear_r5 : List Cond := [Cond.methodLink RX7 250 yJ6_bitCount_0f7a4, Cond.static yJ6_bitCount_0f7a4, Cond.initialized RJ6, Cond.code yJ6_bitCount_0f7a4 cJ6_bitCount_0f7a4 1 (some .int), Cond.constant RJ6 265 (1431655765), Cond.constant RJ6 266 (858993459), Cond.constant RJ6 267 (252645135)]
def wsX7_runYear : List Cond := .code yX7_runYear cX7_runYear 9 (some .int) :: ((wsX7_runYear_r1 ++ (wsX7_runYear_r2 ++ (wsX7_runYear_r3 ++ (wsX7_runYear_r4 ++ wsX7_runYear_r5)))) ++ wsX70 ++ wsX50)
def wsX7_year_r1 : List Cond := [Cond.fieldLink RX7 16 "MittenLine" "trial" "LMittenLine$Row;", Cond.fieldLink RX7 72 "MittenLine$Row" "yards" "[I", Cond.fieldLink RX7 91 "MittenLine$Row" "wool" "I", Cond.methodLink RX7 64 yX7_isWithin, Cond.static yX7_isWithin, Cond.initialized RX7, Cond.code yX7_isWithin cX7_isWithin 3 (some .boolean), Cond.methodLink RX7 236 yX7_runYear, Cond.instanceMethod yX7_runYear, Cond.selects RX7 yX7_runYear yX7_runYear, Cond.code yX7_runYear cX7_runYear 9 (some .int), Cond.fieldLink RX7 10 "MittenLine" "now" "LMittenLine$Row;", Cond.constant RX7 239 (65537), Cond.methodLink RX7 138 yX5_copyFrom, Cond.instanceMethod yX5_copyFrom, Cond.selects RX5 yX5_copyFrom yX5_copyFrom, Cond.initialized RX5, Cond.code yX5_copyFrom cX5_copyFrom 3 none, Cond.fieldLink RX5 9 "MittenLine$Row" "yards" "[I", Cond.fieldLink RX5 15 "MittenLine$Row" "feels" "[I", Cond.fieldLink RX5 18 "MittenLine$Row" "lengths" "[I", Cond.fieldLink RX5 28 "MittenLine$Row" "holding" "I", Cond.fieldLink RX5 24 "MittenLine$Row" "wool" "I", Cond.fieldLink RX5 31 "MittenLine$Row" "day" "I"]
def wsX7_year_r2 : List Cond := [Cond.methodLink RX7 240 yX7_kindByDraw, Cond.static yX7_kindByDraw, Cond.code yX7_kindByDraw cX7_kindByDraw 1 (some .int), Cond.methodLink RX7 243 yX5_whyNot, Cond.instanceMethod yX5_whyNot, Cond.selects RX5 yX5_whyNot yX5_whyNot, Cond.code yX5_whyNot cX5_whyNot 4 (some .int), Cond.methodLink RX5 47 yX5_whyNotStep, Cond.instanceMethod yX5_whyNotStep, Cond.selects RX5 yX5_whyNotStep yX5_whyNotStep, Cond.code yX5_whyNotStep cX5_whyNotStep 4 (some .int), Cond.methodLink RX5 61 yX5_planStep, Cond.instanceMethod yX5_planStep, Cond.selects RX5 yX5_planStep yX5_planStep, Cond.code yX5_planStep cX5_planStep 5 (some .int), Cond.fieldLink RX5 21 "MittenLine$Row" "plan" "[I", Cond.methodLink RX5 84 yX5_planDraw, Cond.instanceMethod yX5_planDraw, Cond.selects RX5 yX5_planDraw yX5_planDraw, Cond.code yX5_planDraw cX5_planDraw 4 (some .boolean), Cond.methodLink RX5 51 yX5_whyNotLetOut, Cond.instanceMethod yX5_whyNotLetOut, Cond.selects RX5 yX5_whyNotLetOut yX5_whyNotLetOut, Cond.code yX5_whyNotLetOut cX5_whyNotLetOut 2 (some .int)]
def wsX7_year_r3 : List Cond := [Cond.methodLink RX5 54 yX5_whyNotWind, Cond.instanceMethod yX5_whyNotWind, Cond.selects RX5 yX5_whyNotWind yX5_whyNotWind, Cond.code yX5_whyNotWind cX5_whyNotWind 2 (some .int), Cond.methodLink RX5 43 yX5_isTaut, Cond.instanceMethod yX5_isTaut, Cond.selects RX5 yX5_isTaut yX5_isTaut, Cond.code yX5_isTaut cX5_isTaut 2 (some .boolean), Cond.methodLink RX5 40 yX5_apart, Cond.instanceMethod yX5_apart, Cond.selects RX5 yX5_apart yX5_apart, Cond.code yX5_apart cX5_apart 2 (some .int), Cond.methodLink RX5 34 Lib.Math.abs.name, Cond.static Lib.Math.abs.name, Cond.initialized "java/lang/Math", Cond.code Lib.Math.abs.name Lib.Math.abs.code 1 (some .int), Cond.methodLink RX7 247 yX5_act, Cond.instanceMethod yX5_act, Cond.selects RX5 yX5_act yX5_act, Cond.code yX5_act cX5_act 4 (some .int), Cond.methodLink RX5 64 yX5_step, Cond.instanceMethod yX5_step, Cond.selects RX5 yX5_step yX5_step, Cond.code yX5_step cX5_step 5 (some .int)]
def wsX7_year_r4 : List Cond := [Cond.methodLink RX5 67 yX5_turnHold, Cond.instanceMethod yX5_turnHold, Cond.selects RX5 yX5_turnHold yX5_turnHold, Cond.code yX5_turnHold cX5_turnHold 2 none, Cond.methodLink RX5 71 yX5_squeeze, Cond.instanceMethod yX5_squeeze, Cond.selects RX5 yX5_squeeze yX5_squeeze, Cond.code yX5_squeeze cX5_squeeze 5 none, Cond.methodLink RX5 87 yX5_lossBy, Cond.instanceMethod yX5_lossBy, Cond.selects RX5 yX5_lossBy yX5_lossBy, Cond.code yX5_lossBy cX5_lossBy 2 (some .int), Cond.methodLink RX5 90 yX5_feelMore, Cond.instanceMethod yX5_feelMore, Cond.selects RX5 yX5_feelMore yX5_feelMore, Cond.code yX5_feelMore cX5_feelMore 3 none, Cond.methodLink RX5 93 Lib.Math.min.name, Cond.static Lib.Math.min.name, Cond.code Lib.Math.min.name Lib.Math.min.code 2 (some .int), Cond.methodLink RX5 75 yX5_letOut, Cond.instanceMethod yX5_letOut, Cond.selects RX5 yX5_letOut yX5_letOut, Cond.code yX5_letOut cX5_letOut 2 none, Cond.methodLink RX5 78 yX5_windIn]
def wsX7_year_r5 : List Cond := [Cond.instanceMethod yX5_windIn, Cond.selects RX5 yX5_windIn yX5_windIn, Cond.code yX5_windIn cX5_windIn 2 none, Cond.methodLink RX5 81 yX5_nextDay, Cond.instanceMethod yX5_nextDay, Cond.selects RX5 yX5_nextDay yX5_nextDay, Cond.code yX5_nextDay cX5_nextDay 2 none, Cond.methodLink RX7 250 yJ6_bitCount_0f7a4, Cond.static yJ6_bitCount_0f7a4, Cond.initialized RJ6, Cond.code yJ6_bitCount_0f7a4 cJ6_bitCount_0f7a4 1 (some .int), Cond.constant RJ6 265 (1431655765), Cond.constant RJ6 266 (858993459), Cond.constant RJ6 267 (252645135)]
def wsX7_year : List Cond := .code yX7_year cX7_year 5 (some .int) :: ((wsX7_year_r1 ++ (wsX7_year_r2 ++ (wsX7_year_r3 ++ (wsX7_year_r4 ++ wsX7_year_r5)))) ++ wsX70 ++ wsX50)
def wsX7_imageAt : List Cond := .code yX7_imageAt cX7_imageAt 2 (some (.object "MittenLine$Image")) :: ([.fieldLink RX7 57 "MittenLine" "image0" "LMittenLine$Image;", .fieldLink RX7 61 "MittenLine" "image1" "LMittenLine$Image;"] ++ wsX70)
def wsX7_image_r1 : List Cond := [Cond.fieldLink RX7 10 "MittenLine" "now" "LMittenLine$Row;", Cond.fieldLink RX7 36 "MittenLine" "sights" "LMittenLine$Sights;", Cond.methodLink RX7 64 yX7_isWithin, Cond.static yX7_isWithin, Cond.initialized RX7, Cond.code yX7_isWithin cX7_isWithin 3 (some .boolean), Cond.methodLink RX7 255 yX7_imageAt, Cond.instanceMethod yX7_imageAt, Cond.selects RX7 yX7_imageAt yX7_imageAt, Cond.code yX7_imageAt cX7_imageAt 2 (some (.object "MittenLine$Image")), Cond.fieldLink RX7 57 "MittenLine" "image0" "LMittenLine$Image;", Cond.fieldLink RX7 61 "MittenLine" "image1" "LMittenLine$Image;", Cond.methodLink RX7 259 yX2_keep, Cond.instanceMethod yX2_keep, Cond.selects RX2 yX2_keep yX2_keep, Cond.initialized RX2, Cond.code yX2_keep cX2_keep 3 none, Cond.fieldLink RX2 10 "MittenLine$Image" "row" "LMittenLine$Row;", Cond.fieldLink RX2 19 "MittenLine$Image" "sights" "LMittenLine$Sights;", Cond.fieldLink RX2 30 "MittenLine$Image" "isKept" "Z", Cond.methodLink RX2 23 yX5_copyFrom, Cond.instanceMethod yX5_copyFrom, Cond.selects RX5 yX5_copyFrom yX5_copyFrom, Cond.initialized RX5]
def wsX7_image_r2 : List Cond := [Cond.code yX5_copyFrom cX5_copyFrom 3 none, Cond.fieldLink RX5 9 "MittenLine$Row" "yards" "[I", Cond.fieldLink RX5 15 "MittenLine$Row" "feels" "[I", Cond.fieldLink RX5 18 "MittenLine$Row" "lengths" "[I", Cond.fieldLink RX5 28 "MittenLine$Row" "holding" "I", Cond.fieldLink RX5 24 "MittenLine$Row" "wool" "I", Cond.fieldLink RX5 31 "MittenLine$Row" "day" "I", Cond.methodLink RX2 27 yX6_copyFrom, Cond.instanceMethod yX6_copyFrom, Cond.selects RX6 yX6_copyFrom yX6_copyFrom, Cond.initialized RX6, Cond.code yX6_copyFrom cX6_copyFrom 3 none, Cond.fieldLink RX6 9 "MittenLine$Sights" "who" "[I", Cond.fieldLink RX6 15 "MittenLine$Sights" "much" "[I", Cond.fieldLink RX6 18 "MittenLine$Sights" "count" "I"]
def wsX7_image : List Cond := .code yX7_image cX7_image 2 (some .int) :: ((wsX7_image_r1 ++ wsX7_image_r2) ++ wsX70 ++ wsX20 ++ wsX50 ++ wsX60)
def wsX7_restore_r1 : List Cond := [Cond.fieldLink RX7 263 "MittenLine$Image" "isKept" "Z", Cond.fieldLink RX7 10 "MittenLine" "now" "LMittenLine$Row;", Cond.fieldLink RX7 36 "MittenLine" "sights" "LMittenLine$Sights;", Cond.methodLink RX7 64 yX7_isWithin, Cond.static yX7_isWithin, Cond.initialized RX7, Cond.code yX7_isWithin cX7_isWithin 3 (some .boolean), Cond.methodLink RX7 255 yX7_imageAt, Cond.instanceMethod yX7_imageAt, Cond.selects RX7 yX7_imageAt yX7_imageAt, Cond.code yX7_imageAt cX7_imageAt 2 (some (.object "MittenLine$Image")), Cond.fieldLink RX7 57 "MittenLine" "image0" "LMittenLine$Image;", Cond.fieldLink RX7 61 "MittenLine" "image1" "LMittenLine$Image;", Cond.methodLink RX7 267 yX2_giveBack, Cond.instanceMethod yX2_giveBack, Cond.selects RX2 yX2_giveBack yX2_giveBack, Cond.initialized RX2, Cond.code yX2_giveBack cX2_giveBack 3 none, Cond.fieldLink RX2 10 "MittenLine$Image" "row" "LMittenLine$Row;", Cond.fieldLink RX2 19 "MittenLine$Image" "sights" "LMittenLine$Sights;", Cond.methodLink RX2 23 yX5_copyFrom, Cond.instanceMethod yX5_copyFrom, Cond.selects RX5 yX5_copyFrom yX5_copyFrom, Cond.initialized RX5]
def wsX7_restore_r2 : List Cond := [Cond.code yX5_copyFrom cX5_copyFrom 3 none, Cond.fieldLink RX5 9 "MittenLine$Row" "yards" "[I", Cond.fieldLink RX5 15 "MittenLine$Row" "feels" "[I", Cond.fieldLink RX5 18 "MittenLine$Row" "lengths" "[I", Cond.fieldLink RX5 28 "MittenLine$Row" "holding" "I", Cond.fieldLink RX5 24 "MittenLine$Row" "wool" "I", Cond.fieldLink RX5 31 "MittenLine$Row" "day" "I", Cond.methodLink RX2 27 yX6_copyFrom, Cond.instanceMethod yX6_copyFrom, Cond.selects RX6 yX6_copyFrom yX6_copyFrom, Cond.initialized RX6, Cond.code yX6_copyFrom cX6_copyFrom 3 none, Cond.fieldLink RX6 9 "MittenLine$Sights" "who" "[I", Cond.fieldLink RX6 15 "MittenLine$Sights" "much" "[I", Cond.fieldLink RX6 18 "MittenLine$Sights" "count" "I"]
def wsX7_restore : List Cond := .code yX7_restore cX7_restore 3 (some .int) :: ((wsX7_restore_r1 ++ wsX7_restore_r2) ++ wsX20 ++ wsX70 ++ wsX50 ++ wsX60)
def wsX7_toldOfOne : List Cond := .code yX7_toldOfOne cX7_toldOfOne 2 (some .int) :: ([.fieldLink RX7 10 "MittenLine" "now" "LMittenLine$Row;", .fieldLink RX7 72 "MittenLine$Row" "yards" "[I", .fieldLink RX7 120 "MittenLine$Row" "feels" "[I", .fieldLink RX7 88 "MittenLine$Row" "lengths" "[I", .methodLink RX7 64 yX7_isWithin, .static yX7_isWithin, .initialized RX7, .code yX7_isWithin cX7_isWithin 3 (some .boolean)] ++ wsX70 ++ wsX50)
def wsX7_told : List Cond := .code yX7_told cX7_told 2 (some .int) :: ([.fieldLink RX7 22 "MittenLine" "pad" "LMittenLine$Pad;", .fieldLink RX7 98 "MittenLine$Pad" "count" "I", .fieldLink RX7 10 "MittenLine" "now" "LMittenLine$Row;", .fieldLink RX7 270 "MittenLine$Row" "holding" "I", .fieldLink RX7 91 "MittenLine$Row" "wool" "I", .fieldLink RX7 129 "MittenLine$Row" "day" "I", .fieldLink RX7 36 "MittenLine" "sights" "LMittenLine$Sights;", .fieldLink RX7 194 "MittenLine$Sights" "count" "I", .methodLink RX7 273 yX7_toldOfOne, .instanceMethod yX7_toldOfOne, .selects RX7 yX7_toldOfOne yX7_toldOfOne, .initialized RX7, .code yX7_toldOfOne cX7_toldOfOne 2 (some .int), .fieldLink RX7 72 "MittenLine$Row" "yards" "[I", .fieldLink RX7 120 "MittenLine$Row" "feels" "[I", .fieldLink RX7 88 "MittenLine$Row" "lengths" "[I", .methodLink RX7 64 yX7_isWithin, .static yX7_isWithin, .code yX7_isWithin cX7_isWithin 3 (some .boolean)] ++ wsX70 ++ wsX30 ++ wsX50 ++ wsX60)
def wsX8_init_r1 : List Cond := [Cond.methodLink RX8 1 objectInit, Cond.instanceMethod objectInit, Cond.code objectInit ⟨#[0xb1]⟩ 1 none, Cond.arrayClass .int, Cond.fieldLink RX8 7 "MittenLineModel" "yard" "[I", Cond.fieldLink RX8 13 "MittenLineModel" "feels" "[I", Cond.fieldLink RX8 16 "MittenLineModel" "length" "[I", Cond.fieldLink RX8 19 "MittenLineModel" "sightChild" "[I", Cond.fieldLink RX8 22 "MittenLineModel" "sightFelt" "[I", Cond.fieldLink RX8 25 "MittenLineModel" "pad" "[I", Cond.fieldLink RX8 28 "MittenLineModel" "act" "[I", Cond.fieldLink RX8 31 "MittenLineModel" "who" "[I", Cond.fieldLink RX8 34 "MittenLineModel" "much" "[I", Cond.fieldLink RX8 37 "MittenLineModel" "then" "[I", Cond.fieldLink RX8 40 "MittenLineModel" "had" "[I", Cond.fieldLink RX8 43 "MittenLineModel" "balls" "[I", Cond.fieldLink RX8 46 "MittenLineModel" "least" "[I", Cond.fieldLink RX8 49 "MittenLineModel" "most" "[I", Cond.fieldLink RX8 52 "MittenLineModel" "words" "[I", Cond.fieldLink RX8 55 "MittenLineModel" "signs" "[I", Cond.fieldLink RX8 58 "MittenLineModel" "readings" "[I", Cond.fieldLink RX8 61 "MittenLineModel" "fewest" "[I", Cond.fieldLink RX8 64 "MittenLineModel" "byFelt" "[I", Cond.arrayClass .boolean]
def wsX8_init_r2 : List Cond := [Cond.fieldLink RX8 67 "MittenLineModel" "wins" "[Z", Cond.fieldLink RX8 71 "MittenLineModel" "kept" "[I", Cond.fieldLink RX8 74 "MittenLineModel" "isKept" "[Z", Cond.fieldLink RX8 77 "MittenLineModel" "wool" "I"]
def wsX8_init : List Cond := .code yX8_init cX8_init 2 none :: ((wsX8_init_r1 ++ wsX8_init_r2) ++ wsX80)
def wsX8_in : List Cond := .code yX8_in cX8_in 6 (some .boolean) :: ([])
def wsX8_isChild : List Cond := .code yX8_isChild cX8_isChild 1 (some .boolean) :: ([.constantLong RX8 81 (9), .methodLink RX8 83 yX8_in, .static yX8_in, .initialized RX8, .code yX8_in cX8_in 6 (some .boolean)])
def wsX8_has : List Cond := .code yX8_has cX8_has 2 (some .boolean) :: ([])
def wsX8_less : List Cond := .code yX8_less cX8_less 2 (some .int) :: ([])
def wsX8_off : List Cond := .code yX8_off cX8_off 2 (some .int) :: ([])
def wsX8_isReached : List Cond := .code yX8_isReached cX8_isReached 5 (some .boolean) :: ([.fieldLink RX8 7 "MittenLineModel" "yard" "[I", .fieldLink RX8 16 "MittenLineModel" "length" "[I", .methodLink RX8 87 yX8_off, .static yX8_off, .initialized RX8, .code yX8_off cX8_off 2 (some .int)] ++ wsX80)
def wsX8_child : List Cond := .code yX8_child cX8_child 5 (some .int) :: ([.constantLong RX8 95 (999), .fieldLink RX8 7 "MittenLineModel" "yard" "[I", .fieldLink RX8 101 "MittenLineModel" "holding" "I", .methodLink RX8 91 yX8_isChild, .static yX8_isChild, .initialized RX8, .code yX8_isChild cX8_isChild 1 (some .boolean), .constantLong RX8 81 (9), .methodLink RX8 83 yX8_in, .static yX8_in, .code yX8_in cX8_in 6 (some .boolean), .methodLink RX8 97 yX8_isReached, .instanceMethod yX8_isReached, .selects RX8 yX8_isReached yX8_isReached, .code yX8_isReached cX8_isReached 5 (some .boolean), .fieldLink RX8 16 "MittenLineModel" "length" "[I", .methodLink RX8 87 yX8_off, .static yX8_off, .code yX8_off cX8_off 2 (some .int)] ++ wsX80)
def wsX8_string : List Cond := .code yX8_string cX8_string 4 (some .int) :: ([.constantLong RX8 104 (8), .constantLong RX8 106 (99), .fieldLink RX8 7 "MittenLineModel" "yard" "[I", .fieldLink RX8 16 "MittenLineModel" "length" "[I", .methodLink RX8 83 yX8_in, .static yX8_in, .initialized RX8, .code yX8_in cX8_in 6 (some .boolean), .methodLink RX8 87 yX8_off, .static yX8_off, .code yX8_off cX8_off 2 (some .int)] ++ wsX80)
def wsX8_ball : List Cond := .code yX8_ball cX8_ball 3 (some .int) :: ([.constantLong RX8 95 (999), .fieldLink RX8 77 "MittenLineModel" "wool" "I", .methodLink RX8 83 yX8_in, .static yX8_in, .initialized RX8, .code yX8_in cX8_in 6 (some .boolean)] ++ wsX80)
def wsX8_say : List Cond := .code yX8_say cX8_say 2 (some .int) :: ([.constantLong RX8 108 (33), .constantLong RX8 110 (126), .fieldLink RX8 112 "MittenLineModel" "padMany" "I", .fieldLink RX8 25 "MittenLineModel" "pad" "[I", .methodLink RX8 83 yX8_in, .static yX8_in, .initialized RX8, .code yX8_in cX8_in 6 (some .boolean)] ++ wsX80)
def wsX8_wipe : List Cond := .code yX8_wipe cX8_wipe 2 (some .int) :: ([.fieldLink RX8 112 "MittenLineModel" "padMany" "I"] ++ wsX80)
def wsX8_close : List Cond := .code yX8_close cX8_close 2 (some .int) :: ([.fieldLink RX8 28 "MittenLineModel" "act" "[I", .fieldLink RX8 115 "MittenLineModel" "acts" "I"] ++ wsX80)
def wsX8_begin : List Cond := .code yX8_begin cX8_begin 3 (some .int) :: ([.constantLong RX8 118 (65), .constantLong RX8 120 (74), .fieldLink RX8 31 "MittenLineModel" "who" "[I", .fieldLink RX8 115 "MittenLineModel" "acts" "I", .fieldLink RX8 34 "MittenLineModel" "much" "[I", .methodLink RX8 83 yX8_in, .static yX8_in, .initialized RX8, .code yX8_in cX8_in 6 (some .boolean), .methodLink RX8 122 yX8_close, .instanceMethod yX8_close, .selects RX8 yX8_close yX8_close, .code yX8_close cX8_close 2 (some .int), .fieldLink RX8 28 "MittenLineModel" "act" "[I"] ++ wsX80)
def wsX8_deed : List Cond := .code yX8_deed cX8_deed 2 (some .int) :: ([.methodLink RX8 122 yX8_close, .instanceMethod yX8_close, .selects RX8 yX8_close yX8_close, .initialized RX8, .code yX8_close cX8_close 2 (some .int), .fieldLink RX8 28 "MittenLineModel" "act" "[I", .fieldLink RX8 115 "MittenLineModel" "acts" "I"] ++ wsX80)
def wsX8_digit : List Cond := .code yX8_digit cX8_digit 3 (some .int) :: ([.fieldLink RX8 34 "MittenLineModel" "much" "[I", .fieldLink RX8 115 "MittenLineModel" "acts" "I", .constantLong RX8 126 (49), .constantLong RX8 128 (57), .methodLink RX8 83 yX8_in, .static yX8_in, .initialized RX8, .code yX8_in cX8_in 6 (some .boolean), .methodLink RX8 122 yX8_close, .instanceMethod yX8_close, .selects RX8 yX8_close yX8_close, .code yX8_close cX8_close 2 (some .int), .fieldLink RX8 28 "MittenLineModel" "act" "[I"] ++ wsX80)
def wsX8_readOn_r1 : List Cond := [Cond.methodLink RX8 130 yX8_begin, Cond.instanceMethod yX8_begin, Cond.selects RX8 yX8_begin yX8_begin, Cond.initialized RX8, Cond.code yX8_begin cX8_begin 3 (some .int), Cond.constantLong RX8 118 (65), Cond.constantLong RX8 120 (74), Cond.fieldLink RX8 31 "MittenLineModel" "who" "[I", Cond.fieldLink RX8 115 "MittenLineModel" "acts" "I", Cond.fieldLink RX8 34 "MittenLineModel" "much" "[I", Cond.methodLink RX8 83 yX8_in, Cond.static yX8_in, Cond.code yX8_in cX8_in 6 (some .boolean), Cond.methodLink RX8 122 yX8_close, Cond.instanceMethod yX8_close, Cond.selects RX8 yX8_close yX8_close, Cond.code yX8_close cX8_close 2 (some .int), Cond.fieldLink RX8 28 "MittenLineModel" "act" "[I", Cond.methodLink RX8 133 yX8_deed, Cond.instanceMethod yX8_deed, Cond.selects RX8 yX8_deed yX8_deed, Cond.code yX8_deed cX8_deed 2 (some .int), Cond.methodLink RX8 136 yX8_digit, Cond.instanceMethod yX8_digit]
def wsX8_readOn_r2 : List Cond := [Cond.selects RX8 yX8_digit yX8_digit, Cond.code yX8_digit cX8_digit 3 (some .int), Cond.constantLong RX8 126 (49), Cond.constantLong RX8 128 (57)]
def wsX8_readOn : List Cond := .code yX8_readOn cX8_readOn 3 (some .int) :: ((wsX8_readOn_r1 ++ wsX8_readOn_r2) ++ wsX80)
def wsX8_fault_r1 : List Cond := [Cond.fieldLink RX8 115 "MittenLineModel" "acts" "I", Cond.fieldLink RX8 112 "MittenLineModel" "padMany" "I", Cond.fieldLink RX8 25 "MittenLineModel" "pad" "[I", Cond.methodLink RX8 139 yX8_readOn, Cond.instanceMethod yX8_readOn, Cond.selects RX8 yX8_readOn yX8_readOn, Cond.initialized RX8, Cond.code yX8_readOn cX8_readOn 3 (some .int), Cond.methodLink RX8 130 yX8_begin, Cond.instanceMethod yX8_begin, Cond.selects RX8 yX8_begin yX8_begin, Cond.code yX8_begin cX8_begin 3 (some .int), Cond.constantLong RX8 118 (65), Cond.constantLong RX8 120 (74), Cond.fieldLink RX8 31 "MittenLineModel" "who" "[I", Cond.fieldLink RX8 34 "MittenLineModel" "much" "[I", Cond.methodLink RX8 83 yX8_in, Cond.static yX8_in, Cond.code yX8_in cX8_in 6 (some .boolean), Cond.methodLink RX8 122 yX8_close, Cond.instanceMethod yX8_close, Cond.selects RX8 yX8_close yX8_close, Cond.code yX8_close cX8_close 2 (some .int), Cond.fieldLink RX8 28 "MittenLineModel" "act" "[I"]
def wsX8_fault_r2 : List Cond := [Cond.methodLink RX8 133 yX8_deed, Cond.instanceMethod yX8_deed, Cond.selects RX8 yX8_deed yX8_deed, Cond.code yX8_deed cX8_deed 2 (some .int), Cond.methodLink RX8 136 yX8_digit, Cond.instanceMethod yX8_digit, Cond.selects RX8 yX8_digit yX8_digit, Cond.code yX8_digit cX8_digit 3 (some .int), Cond.constantLong RX8 126 (49), Cond.constantLong RX8 128 (57)]
def wsX8_fault : List Cond := .code yX8_fault cX8_fault 3 (some .int) :: ((wsX8_fault_r1 ++ wsX8_fault_r2) ++ wsX80)
def wsX8_draws : List Cond := .code yX8_draws cX8_draws 4 (some .boolean) :: ([.fieldLink RX8 37 "MittenLineModel" "then" "[I", .fieldLink RX8 16 "MittenLineModel" "length" "[I", .fieldLink RX8 142 "MittenLineModel" "drawnBits" "I", .methodLink RX8 87 yX8_off, .static yX8_off, .initialized RX8, .code yX8_off cX8_off 2 (some .int)] ++ wsX80)
def wsX8_findThen : List Cond := .code yX8_findThen cX8_findThen 5 none :: ([.fieldLink RX8 37 "MittenLineModel" "then" "[I", .fieldLink RX8 7 "MittenLineModel" "yard" "[I", .fieldLink RX8 142 "MittenLineModel" "drawnBits" "I", .methodLink RX8 145 yX8_draws, .instanceMethod yX8_draws, .selects RX8 yX8_draws yX8_draws, .initialized RX8, .code yX8_draws cX8_draws 4 (some .boolean), .fieldLink RX8 16 "MittenLineModel" "length" "[I", .methodLink RX8 87 yX8_off, .static yX8_off, .code yX8_off cX8_off 2 (some .int)] ++ wsX80)
def wsX8_whyNotGo : List Cond := .code yX8_whyNotGo cX8_whyNotGo 3 (some .int) :: ([.fieldLink RX8 7 "MittenLineModel" "yard" "[I", .constantLong RX8 95 (999), .fieldLink RX8 101 "MittenLineModel" "holding" "I", .fieldLink RX8 142 "MittenLineModel" "drawnBits" "I", .methodLink RX8 83 yX8_in, .static yX8_in, .initialized RX8, .code yX8_in cX8_in 6 (some .boolean), .methodLink RX8 149 yX8_findThen, .instanceMethod yX8_findThen, .selects RX8 yX8_findThen yX8_findThen, .code yX8_findThen cX8_findThen 5 none, .fieldLink RX8 37 "MittenLineModel" "then" "[I", .methodLink RX8 145 yX8_draws, .instanceMethod yX8_draws, .selects RX8 yX8_draws yX8_draws, .code yX8_draws cX8_draws 4 (some .boolean), .fieldLink RX8 16 "MittenLineModel" "length" "[I", .methodLink RX8 87 yX8_off, .static yX8_off, .code yX8_off cX8_off 2 (some .int), .methodLink RX8 153 yX8_has, .static yX8_has, .code yX8_has cX8_has 2 (some .boolean)] ++ wsX80)
def wsX8_isTaut : List Cond := .code yX8_isTaut cX8_isTaut 2 (some .boolean) :: ([.fieldLink RX8 7 "MittenLineModel" "yard" "[I", .fieldLink RX8 16 "MittenLineModel" "length" "[I", .methodLink RX8 87 yX8_off, .static yX8_off, .initialized RX8, .code yX8_off cX8_off 2 (some .int)] ++ wsX80)
def wsX8_whyNotLet : List Cond := .code yX8_whyNotLet cX8_whyNotLet 2 (some .int) :: ([.fieldLink RX8 77 "MittenLineModel" "wool" "I", .fieldLink RX8 16 "MittenLineModel" "length" "[I"] ++ wsX80)
def wsX8_whyNotTake : List Cond := .code yX8_whyNotTake cX8_whyNotTake 2 (some .int) :: ([.fieldLink RX8 16 "MittenLineModel" "length" "[I", .methodLink RX8 156 yX8_isTaut, .instanceMethod yX8_isTaut, .selects RX8 yX8_isTaut yX8_isTaut, .initialized RX8, .code yX8_isTaut cX8_isTaut 2 (some .boolean), .fieldLink RX8 7 "MittenLineModel" "yard" "[I", .methodLink RX8 87 yX8_off, .static yX8_off, .code yX8_off cX8_off 2 (some .int)] ++ wsX80)
def wsX8_whyNot_r1 : List Cond := [Cond.fieldLink RX8 168 "MittenLineModel" "days" "I", Cond.methodLink RX8 159 yX8_whyNotGo, Cond.instanceMethod yX8_whyNotGo, Cond.selects RX8 yX8_whyNotGo yX8_whyNotGo, Cond.initialized RX8, Cond.code yX8_whyNotGo cX8_whyNotGo 3 (some .int), Cond.fieldLink RX8 7 "MittenLineModel" "yard" "[I", Cond.constantLong RX8 95 (999), Cond.fieldLink RX8 101 "MittenLineModel" "holding" "I", Cond.fieldLink RX8 142 "MittenLineModel" "drawnBits" "I", Cond.methodLink RX8 83 yX8_in, Cond.static yX8_in, Cond.code yX8_in cX8_in 6 (some .boolean), Cond.methodLink RX8 149 yX8_findThen, Cond.instanceMethod yX8_findThen, Cond.selects RX8 yX8_findThen yX8_findThen, Cond.code yX8_findThen cX8_findThen 5 none, Cond.fieldLink RX8 37 "MittenLineModel" "then" "[I", Cond.methodLink RX8 145 yX8_draws, Cond.instanceMethod yX8_draws, Cond.selects RX8 yX8_draws yX8_draws, Cond.code yX8_draws cX8_draws 4 (some .boolean), Cond.fieldLink RX8 16 "MittenLineModel" "length" "[I", Cond.methodLink RX8 87 yX8_off]
def wsX8_whyNot_r2 : List Cond := [Cond.static yX8_off, Cond.code yX8_off cX8_off 2 (some .int), Cond.methodLink RX8 153 yX8_has, Cond.static yX8_has, Cond.code yX8_has cX8_has 2 (some .boolean), Cond.methodLink RX8 162 yX8_whyNotLet, Cond.instanceMethod yX8_whyNotLet, Cond.selects RX8 yX8_whyNotLet yX8_whyNotLet, Cond.code yX8_whyNotLet cX8_whyNotLet 2 (some .int), Cond.fieldLink RX8 77 "MittenLineModel" "wool" "I", Cond.methodLink RX8 165 yX8_whyNotTake, Cond.instanceMethod yX8_whyNotTake, Cond.selects RX8 yX8_whyNotTake yX8_whyNotTake, Cond.code yX8_whyNotTake cX8_whyNotTake 2 (some .int), Cond.methodLink RX8 156 yX8_isTaut, Cond.instanceMethod yX8_isTaut, Cond.selects RX8 yX8_isTaut yX8_isTaut, Cond.code yX8_isTaut cX8_isTaut 2 (some .boolean)]
def wsX8_whyNot : List Cond := .code yX8_whyNot cX8_whyNot 4 (some .int) :: ((wsX8_whyNot_r1 ++ wsX8_whyNot_r2) ++ wsX80)
def wsX8_ones : List Cond := .code yX8_ones cX8_ones 3 (some .int) :: ([])
def wsX8_go : List Cond := .code yX8_go cX8_go 4 none :: ([.fieldLink RX8 142 "MittenLineModel" "drawnBits" "I", .fieldLink RX8 171 "MittenLineModel" "drawnNow" "I", .fieldLink RX8 174 "MittenLineModel" "drawnMany" "I", .fieldLink RX8 7 "MittenLineModel" "yard" "[I", .fieldLink RX8 37 "MittenLineModel" "then" "[I", .methodLink RX8 149 yX8_findThen, .instanceMethod yX8_findThen, .selects RX8 yX8_findThen yX8_findThen, .initialized RX8, .code yX8_findThen cX8_findThen 5 none, .methodLink RX8 145 yX8_draws, .instanceMethod yX8_draws, .selects RX8 yX8_draws yX8_draws, .code yX8_draws cX8_draws 4 (some .boolean), .fieldLink RX8 16 "MittenLineModel" "length" "[I", .methodLink RX8 87 yX8_off, .static yX8_off, .code yX8_off cX8_off 2 (some .int), .methodLink RX8 177 yX8_ones, .static yX8_ones, .code yX8_ones cX8_ones 3 (some .int)] ++ wsX80)
def wsX8_feel : List Cond := .code yX8_feel cX8_feel 3 none :: ([.fieldLink RX8 13 "MittenLineModel" "feels" "[I", .methodLink RX8 180 yX8_less, .static yX8_less, .initialized RX8, .code yX8_less cX8_less 2 (some .int)] ++ wsX80)
def wsX8_squeeze : List Cond := .code yX8_squeeze cX8_squeeze 5 none :: ([.methodLink RX8 156 yX8_isTaut, .instanceMethod yX8_isTaut, .selects RX8 yX8_isTaut yX8_isTaut, .initialized RX8, .code yX8_isTaut cX8_isTaut 2 (some .boolean), .fieldLink RX8 7 "MittenLineModel" "yard" "[I", .fieldLink RX8 16 "MittenLineModel" "length" "[I", .methodLink RX8 87 yX8_off, .static yX8_off, .code yX8_off cX8_off 2 (some .int), .methodLink RX8 183 yX8_feel, .instanceMethod yX8_feel, .selects RX8 yX8_feel yX8_feel, .code yX8_feel cX8_feel 3 none, .fieldLink RX8 13 "MittenLineModel" "feels" "[I", .methodLink RX8 180 yX8_less, .static yX8_less, .code yX8_less cX8_less 2 (some .int)] ++ wsX80)
def wsX8_passDay : List Cond := .code yX8_passDay cX8_passDay 2 none :: ([.fieldLink RX8 13 "MittenLineModel" "feels" "[I", .fieldLink RX8 168 "MittenLineModel" "days" "I"] ++ wsX80)
def wsX8_happen_r1 : List Cond := [Cond.fieldLink RX8 101 "MittenLineModel" "holding" "I", Cond.fieldLink RX8 16 "MittenLineModel" "length" "[I", Cond.fieldLink RX8 77 "MittenLineModel" "wool" "I", Cond.methodLink RX8 186 yX8_go, Cond.instanceMethod yX8_go, Cond.selects RX8 yX8_go yX8_go, Cond.initialized RX8, Cond.code yX8_go cX8_go 4 none, Cond.fieldLink RX8 142 "MittenLineModel" "drawnBits" "I", Cond.fieldLink RX8 171 "MittenLineModel" "drawnNow" "I", Cond.fieldLink RX8 174 "MittenLineModel" "drawnMany" "I", Cond.fieldLink RX8 7 "MittenLineModel" "yard" "[I", Cond.fieldLink RX8 37 "MittenLineModel" "then" "[I", Cond.methodLink RX8 149 yX8_findThen, Cond.instanceMethod yX8_findThen, Cond.selects RX8 yX8_findThen yX8_findThen, Cond.code yX8_findThen cX8_findThen 5 none, Cond.methodLink RX8 145 yX8_draws, Cond.instanceMethod yX8_draws, Cond.selects RX8 yX8_draws yX8_draws, Cond.code yX8_draws cX8_draws 4 (some .boolean), Cond.methodLink RX8 87 yX8_off, Cond.static yX8_off, Cond.code yX8_off cX8_off 2 (some .int)]
def wsX8_happen_r2 : List Cond := [Cond.methodLink RX8 177 yX8_ones, Cond.static yX8_ones, Cond.code yX8_ones cX8_ones 3 (some .int), Cond.methodLink RX8 189 yX8_squeeze, Cond.instanceMethod yX8_squeeze, Cond.selects RX8 yX8_squeeze yX8_squeeze, Cond.code yX8_squeeze cX8_squeeze 5 none, Cond.methodLink RX8 156 yX8_isTaut, Cond.instanceMethod yX8_isTaut, Cond.selects RX8 yX8_isTaut yX8_isTaut, Cond.code yX8_isTaut cX8_isTaut 2 (some .boolean), Cond.methodLink RX8 183 yX8_feel, Cond.instanceMethod yX8_feel, Cond.selects RX8 yX8_feel yX8_feel, Cond.code yX8_feel cX8_feel 3 none, Cond.fieldLink RX8 13 "MittenLineModel" "feels" "[I", Cond.methodLink RX8 180 yX8_less, Cond.static yX8_less, Cond.code yX8_less cX8_less 2 (some .int), Cond.methodLink RX8 192 yX8_passDay, Cond.instanceMethod yX8_passDay, Cond.selects RX8 yX8_passDay yX8_passDay, Cond.code yX8_passDay cX8_passDay 2 none, Cond.fieldLink RX8 168 "MittenLineModel" "days" "I"]
def wsX8_happen : List Cond := .code yX8_happen cX8_happen 4 none :: ((wsX8_happen_r1 ++ wsX8_happen_r2) ++ wsX80)
def wsX8_keepNow : List Cond := .code yX8_keepNow cX8_keepNow 2 none :: ([.fieldLink RX8 40 "MittenLineModel" "had" "[I", .fieldLink RX8 7 "MittenLineModel" "yard" "[I", .fieldLink RX8 13 "MittenLineModel" "feels" "[I", .fieldLink RX8 16 "MittenLineModel" "length" "[I", .fieldLink RX8 101 "MittenLineModel" "holding" "I", .fieldLink RX8 77 "MittenLineModel" "wool" "I", .fieldLink RX8 168 "MittenLineModel" "days" "I"] ++ wsX80)
def wsX8_back : List Cond := .code yX8_back cX8_back 3 (some .int) :: ([.fieldLink RX8 7 "MittenLineModel" "yard" "[I", .fieldLink RX8 40 "MittenLineModel" "had" "[I", .fieldLink RX8 13 "MittenLineModel" "feels" "[I", .fieldLink RX8 16 "MittenLineModel" "length" "[I", .fieldLink RX8 101 "MittenLineModel" "holding" "I", .fieldLink RX8 77 "MittenLineModel" "wool" "I", .fieldLink RX8 168 "MittenLineModel" "days" "I"] ++ wsX80)
def wsX8_leastOf : List Cond := .code yX8_leastOf cX8_leastOf 3 (some .int) :: ([.methodLink RX8 153 yX8_has, .static yX8_has, .initialized RX8, .code yX8_has cX8_has 2 (some .boolean)])
def wsX8_goOne_r1 : List Cond := [Cond.fieldLink RX8 171 "MittenLineModel" "drawnNow" "I", Cond.fieldLink RX8 28 "MittenLineModel" "act" "[I", Cond.fieldLink RX8 31 "MittenLineModel" "who" "[I", Cond.fieldLink RX8 34 "MittenLineModel" "much" "[I", Cond.fieldLink RX8 199 "MittenLineModel" "drawnAct" "I", Cond.fieldLink RX8 205 "MittenLineModel" "drawnChild" "I", Cond.methodLink RX8 195 yX8_happen, Cond.instanceMethod yX8_happen, Cond.selects RX8 yX8_happen yX8_happen, Cond.initialized RX8, Cond.code yX8_happen cX8_happen 4 none, Cond.fieldLink RX8 101 "MittenLineModel" "holding" "I", Cond.fieldLink RX8 16 "MittenLineModel" "length" "[I", Cond.fieldLink RX8 77 "MittenLineModel" "wool" "I", Cond.methodLink RX8 186 yX8_go, Cond.instanceMethod yX8_go, Cond.selects RX8 yX8_go yX8_go, Cond.code yX8_go cX8_go 4 none, Cond.fieldLink RX8 142 "MittenLineModel" "drawnBits" "I", Cond.fieldLink RX8 174 "MittenLineModel" "drawnMany" "I", Cond.fieldLink RX8 7 "MittenLineModel" "yard" "[I", Cond.fieldLink RX8 37 "MittenLineModel" "then" "[I", Cond.methodLink RX8 149 yX8_findThen, Cond.instanceMethod yX8_findThen]
def wsX8_goOne_r2 : List Cond := [Cond.selects RX8 yX8_findThen yX8_findThen, Cond.code yX8_findThen cX8_findThen 5 none, Cond.methodLink RX8 145 yX8_draws, Cond.instanceMethod yX8_draws, Cond.selects RX8 yX8_draws yX8_draws, Cond.code yX8_draws cX8_draws 4 (some .boolean), Cond.methodLink RX8 87 yX8_off, Cond.static yX8_off, Cond.code yX8_off cX8_off 2 (some .int), Cond.methodLink RX8 177 yX8_ones, Cond.static yX8_ones, Cond.code yX8_ones cX8_ones 3 (some .int), Cond.methodLink RX8 189 yX8_squeeze, Cond.instanceMethod yX8_squeeze, Cond.selects RX8 yX8_squeeze yX8_squeeze, Cond.code yX8_squeeze cX8_squeeze 5 none, Cond.methodLink RX8 156 yX8_isTaut, Cond.instanceMethod yX8_isTaut, Cond.selects RX8 yX8_isTaut yX8_isTaut, Cond.code yX8_isTaut cX8_isTaut 2 (some .boolean), Cond.methodLink RX8 183 yX8_feel, Cond.instanceMethod yX8_feel, Cond.selects RX8 yX8_feel yX8_feel, Cond.code yX8_feel cX8_feel 3 none]
def wsX8_goOne_r3 : List Cond := [Cond.fieldLink RX8 13 "MittenLineModel" "feels" "[I", Cond.methodLink RX8 180 yX8_less, Cond.static yX8_less, Cond.code yX8_less cX8_less 2 (some .int), Cond.methodLink RX8 192 yX8_passDay, Cond.instanceMethod yX8_passDay, Cond.selects RX8 yX8_passDay yX8_passDay, Cond.code yX8_passDay cX8_passDay 2 none, Cond.fieldLink RX8 168 "MittenLineModel" "days" "I", Cond.methodLink RX8 202 yX8_leastOf, Cond.static yX8_leastOf, Cond.code yX8_leastOf cX8_leastOf 3 (some .int), Cond.methodLink RX8 153 yX8_has, Cond.static yX8_has, Cond.code yX8_has cX8_has 2 (some .boolean)]
def wsX8_goOne : List Cond := .code yX8_goOne cX8_goOne 2 none :: ((wsX8_goOne_r1 ++ (wsX8_goOne_r2 ++ wsX8_goOne_r3)) ++ wsX80)
def wsX8_goDays_r1 : List Cond := [Cond.fieldLink RX8 208 "MittenLineModel" "badAct" "I", Cond.fieldLink RX8 211 "MittenLineModel" "badWhy" "I", Cond.fieldLink RX8 199 "MittenLineModel" "drawnAct" "I", Cond.fieldLink RX8 205 "MittenLineModel" "drawnChild" "I", Cond.fieldLink RX8 174 "MittenLineModel" "drawnMany" "I", Cond.fieldLink RX8 115 "MittenLineModel" "acts" "I", Cond.fieldLink RX8 28 "MittenLineModel" "act" "[I", Cond.fieldLink RX8 31 "MittenLineModel" "who" "[I", Cond.fieldLink RX8 34 "MittenLineModel" "much" "[I", Cond.methodLink RX8 214 yX8_whyNot, Cond.instanceMethod yX8_whyNot, Cond.selects RX8 yX8_whyNot yX8_whyNot, Cond.initialized RX8, Cond.code yX8_whyNot cX8_whyNot 4 (some .int), Cond.fieldLink RX8 168 "MittenLineModel" "days" "I", Cond.methodLink RX8 159 yX8_whyNotGo, Cond.instanceMethod yX8_whyNotGo, Cond.selects RX8 yX8_whyNotGo yX8_whyNotGo, Cond.code yX8_whyNotGo cX8_whyNotGo 3 (some .int), Cond.fieldLink RX8 7 "MittenLineModel" "yard" "[I", Cond.constantLong RX8 95 (999), Cond.fieldLink RX8 101 "MittenLineModel" "holding" "I", Cond.fieldLink RX8 142 "MittenLineModel" "drawnBits" "I", Cond.methodLink RX8 83 yX8_in]
def wsX8_goDays_r2 : List Cond := [Cond.static yX8_in, Cond.code yX8_in cX8_in 6 (some .boolean), Cond.methodLink RX8 149 yX8_findThen, Cond.instanceMethod yX8_findThen, Cond.selects RX8 yX8_findThen yX8_findThen, Cond.code yX8_findThen cX8_findThen 5 none, Cond.fieldLink RX8 37 "MittenLineModel" "then" "[I", Cond.methodLink RX8 145 yX8_draws, Cond.instanceMethod yX8_draws, Cond.selects RX8 yX8_draws yX8_draws, Cond.code yX8_draws cX8_draws 4 (some .boolean), Cond.fieldLink RX8 16 "MittenLineModel" "length" "[I", Cond.methodLink RX8 87 yX8_off, Cond.static yX8_off, Cond.code yX8_off cX8_off 2 (some .int), Cond.methodLink RX8 153 yX8_has, Cond.static yX8_has, Cond.code yX8_has cX8_has 2 (some .boolean), Cond.methodLink RX8 162 yX8_whyNotLet, Cond.instanceMethod yX8_whyNotLet, Cond.selects RX8 yX8_whyNotLet yX8_whyNotLet, Cond.code yX8_whyNotLet cX8_whyNotLet 2 (some .int), Cond.fieldLink RX8 77 "MittenLineModel" "wool" "I", Cond.methodLink RX8 165 yX8_whyNotTake]
def wsX8_goDays_r3 : List Cond := [Cond.instanceMethod yX8_whyNotTake, Cond.selects RX8 yX8_whyNotTake yX8_whyNotTake, Cond.code yX8_whyNotTake cX8_whyNotTake 2 (some .int), Cond.methodLink RX8 156 yX8_isTaut, Cond.instanceMethod yX8_isTaut, Cond.selects RX8 yX8_isTaut yX8_isTaut, Cond.code yX8_isTaut cX8_isTaut 2 (some .boolean), Cond.methodLink RX8 218 yX8_goOne, Cond.instanceMethod yX8_goOne, Cond.selects RX8 yX8_goOne yX8_goOne, Cond.code yX8_goOne cX8_goOne 2 none, Cond.fieldLink RX8 171 "MittenLineModel" "drawnNow" "I", Cond.methodLink RX8 195 yX8_happen, Cond.instanceMethod yX8_happen, Cond.selects RX8 yX8_happen yX8_happen, Cond.code yX8_happen cX8_happen 4 none, Cond.methodLink RX8 186 yX8_go, Cond.instanceMethod yX8_go, Cond.selects RX8 yX8_go yX8_go, Cond.code yX8_go cX8_go 4 none, Cond.methodLink RX8 177 yX8_ones, Cond.static yX8_ones, Cond.code yX8_ones cX8_ones 3 (some .int), Cond.methodLink RX8 189 yX8_squeeze]
def wsX8_goDays_r4 : List Cond := [Cond.instanceMethod yX8_squeeze, Cond.selects RX8 yX8_squeeze yX8_squeeze, Cond.code yX8_squeeze cX8_squeeze 5 none, Cond.methodLink RX8 183 yX8_feel, Cond.instanceMethod yX8_feel, Cond.selects RX8 yX8_feel yX8_feel, Cond.code yX8_feel cX8_feel 3 none, Cond.fieldLink RX8 13 "MittenLineModel" "feels" "[I", Cond.methodLink RX8 180 yX8_less, Cond.static yX8_less, Cond.code yX8_less cX8_less 2 (some .int), Cond.methodLink RX8 192 yX8_passDay, Cond.instanceMethod yX8_passDay, Cond.selects RX8 yX8_passDay yX8_passDay, Cond.code yX8_passDay cX8_passDay 2 none, Cond.methodLink RX8 202 yX8_leastOf, Cond.static yX8_leastOf, Cond.code yX8_leastOf cX8_leastOf 3 (some .int)]
def wsX8_goDays : List Cond := .code yX8_goDays cX8_goDays 3 none :: ((wsX8_goDays_r1 ++ (wsX8_goDays_r2 ++ (wsX8_goDays_r3 ++ wsX8_goDays_r4))) ++ wsX80)
def wsX8_refusal_r1 : List Cond := [Cond.fieldLink RX8 208 "MittenLineModel" "badAct" "I", Cond.methodLink RX8 222 yX8_keepNow, Cond.instanceMethod yX8_keepNow, Cond.selects RX8 yX8_keepNow yX8_keepNow, Cond.initialized RX8, Cond.code yX8_keepNow cX8_keepNow 2 none, Cond.fieldLink RX8 40 "MittenLineModel" "had" "[I", Cond.fieldLink RX8 7 "MittenLineModel" "yard" "[I", Cond.fieldLink RX8 13 "MittenLineModel" "feels" "[I", Cond.fieldLink RX8 16 "MittenLineModel" "length" "[I", Cond.fieldLink RX8 101 "MittenLineModel" "holding" "I", Cond.fieldLink RX8 77 "MittenLineModel" "wool" "I", Cond.fieldLink RX8 168 "MittenLineModel" "days" "I", Cond.methodLink RX8 225 yX8_fault, Cond.instanceMethod yX8_fault, Cond.selects RX8 yX8_fault yX8_fault, Cond.code yX8_fault cX8_fault 3 (some .int), Cond.fieldLink RX8 115 "MittenLineModel" "acts" "I", Cond.fieldLink RX8 112 "MittenLineModel" "padMany" "I", Cond.fieldLink RX8 25 "MittenLineModel" "pad" "[I", Cond.methodLink RX8 139 yX8_readOn, Cond.instanceMethod yX8_readOn, Cond.selects RX8 yX8_readOn yX8_readOn, Cond.code yX8_readOn cX8_readOn 3 (some .int)]
def wsX8_refusal_r2 : List Cond := [Cond.methodLink RX8 130 yX8_begin, Cond.instanceMethod yX8_begin, Cond.selects RX8 yX8_begin yX8_begin, Cond.code yX8_begin cX8_begin 3 (some .int), Cond.constantLong RX8 118 (65), Cond.constantLong RX8 120 (74), Cond.fieldLink RX8 31 "MittenLineModel" "who" "[I", Cond.fieldLink RX8 34 "MittenLineModel" "much" "[I", Cond.methodLink RX8 83 yX8_in, Cond.static yX8_in, Cond.code yX8_in cX8_in 6 (some .boolean), Cond.methodLink RX8 122 yX8_close, Cond.instanceMethod yX8_close, Cond.selects RX8 yX8_close yX8_close, Cond.code yX8_close cX8_close 2 (some .int), Cond.fieldLink RX8 28 "MittenLineModel" "act" "[I", Cond.methodLink RX8 133 yX8_deed, Cond.instanceMethod yX8_deed, Cond.selects RX8 yX8_deed yX8_deed, Cond.code yX8_deed cX8_deed 2 (some .int), Cond.methodLink RX8 136 yX8_digit, Cond.instanceMethod yX8_digit, Cond.selects RX8 yX8_digit yX8_digit, Cond.code yX8_digit cX8_digit 3 (some .int)]
def wsX8_refusal_r3 : List Cond := [Cond.constantLong RX8 126 (49), Cond.constantLong RX8 128 (57), Cond.methodLink RX8 229 yX8_goDays, Cond.instanceMethod yX8_goDays, Cond.selects RX8 yX8_goDays yX8_goDays, Cond.code yX8_goDays cX8_goDays 3 none, Cond.fieldLink RX8 211 "MittenLineModel" "badWhy" "I", Cond.fieldLink RX8 199 "MittenLineModel" "drawnAct" "I", Cond.fieldLink RX8 205 "MittenLineModel" "drawnChild" "I", Cond.fieldLink RX8 174 "MittenLineModel" "drawnMany" "I", Cond.methodLink RX8 214 yX8_whyNot, Cond.instanceMethod yX8_whyNot, Cond.selects RX8 yX8_whyNot yX8_whyNot, Cond.code yX8_whyNot cX8_whyNot 4 (some .int), Cond.methodLink RX8 159 yX8_whyNotGo, Cond.instanceMethod yX8_whyNotGo, Cond.selects RX8 yX8_whyNotGo yX8_whyNotGo, Cond.code yX8_whyNotGo cX8_whyNotGo 3 (some .int), Cond.constantLong RX8 95 (999), Cond.fieldLink RX8 142 "MittenLineModel" "drawnBits" "I", Cond.methodLink RX8 149 yX8_findThen, Cond.instanceMethod yX8_findThen, Cond.selects RX8 yX8_findThen yX8_findThen, Cond.code yX8_findThen cX8_findThen 5 none]
def wsX8_refusal_r4 : List Cond := [Cond.fieldLink RX8 37 "MittenLineModel" "then" "[I", Cond.methodLink RX8 145 yX8_draws, Cond.instanceMethod yX8_draws, Cond.selects RX8 yX8_draws yX8_draws, Cond.code yX8_draws cX8_draws 4 (some .boolean), Cond.methodLink RX8 87 yX8_off, Cond.static yX8_off, Cond.code yX8_off cX8_off 2 (some .int), Cond.methodLink RX8 153 yX8_has, Cond.static yX8_has, Cond.code yX8_has cX8_has 2 (some .boolean), Cond.methodLink RX8 162 yX8_whyNotLet, Cond.instanceMethod yX8_whyNotLet, Cond.selects RX8 yX8_whyNotLet yX8_whyNotLet, Cond.code yX8_whyNotLet cX8_whyNotLet 2 (some .int), Cond.methodLink RX8 165 yX8_whyNotTake, Cond.instanceMethod yX8_whyNotTake, Cond.selects RX8 yX8_whyNotTake yX8_whyNotTake, Cond.code yX8_whyNotTake cX8_whyNotTake 2 (some .int), Cond.methodLink RX8 156 yX8_isTaut, Cond.instanceMethod yX8_isTaut, Cond.selects RX8 yX8_isTaut yX8_isTaut, Cond.code yX8_isTaut cX8_isTaut 2 (some .boolean), Cond.methodLink RX8 218 yX8_goOne]
def wsX8_refusal_r5 : List Cond := [Cond.instanceMethod yX8_goOne, Cond.selects RX8 yX8_goOne yX8_goOne, Cond.code yX8_goOne cX8_goOne 2 none, Cond.fieldLink RX8 171 "MittenLineModel" "drawnNow" "I", Cond.methodLink RX8 195 yX8_happen, Cond.instanceMethod yX8_happen, Cond.selects RX8 yX8_happen yX8_happen, Cond.code yX8_happen cX8_happen 4 none, Cond.methodLink RX8 186 yX8_go, Cond.instanceMethod yX8_go, Cond.selects RX8 yX8_go yX8_go, Cond.code yX8_go cX8_go 4 none, Cond.methodLink RX8 177 yX8_ones, Cond.static yX8_ones, Cond.code yX8_ones cX8_ones 3 (some .int), Cond.methodLink RX8 189 yX8_squeeze, Cond.instanceMethod yX8_squeeze, Cond.selects RX8 yX8_squeeze yX8_squeeze, Cond.code yX8_squeeze cX8_squeeze 5 none, Cond.methodLink RX8 183 yX8_feel, Cond.instanceMethod yX8_feel, Cond.selects RX8 yX8_feel yX8_feel, Cond.code yX8_feel cX8_feel 3 none, Cond.methodLink RX8 180 yX8_less]
def wsX8_refusal_r6 : List Cond := [Cond.static yX8_less, Cond.code yX8_less cX8_less 2 (some .int), Cond.methodLink RX8 192 yX8_passDay, Cond.instanceMethod yX8_passDay, Cond.selects RX8 yX8_passDay yX8_passDay, Cond.code yX8_passDay cX8_passDay 2 none, Cond.methodLink RX8 202 yX8_leastOf, Cond.static yX8_leastOf, Cond.code yX8_leastOf cX8_leastOf 3 (some .int)]
def wsX8_refusal : List Cond := .code yX8_refusal cX8_refusal 1 (some .int) :: ((wsX8_refusal_r1 ++ (wsX8_refusal_r2 ++ (wsX8_refusal_r3 ++ (wsX8_refusal_r4 ++ (wsX8_refusal_r5 ++ wsX8_refusal_r6))))) ++ wsX80)
def wsX8_judge_r1 : List Cond := [Cond.constantLong RX8 232 (2), Cond.fieldLink RX8 208 "MittenLineModel" "badAct" "I", Cond.fieldLink RX8 211 "MittenLineModel" "badWhy" "I", Cond.fieldLink RX8 174 "MittenLineModel" "drawnMany" "I", Cond.methodLink RX8 83 yX8_in, Cond.static yX8_in, Cond.initialized RX8, Cond.code yX8_in cX8_in 6 (some .boolean), Cond.methodLink RX8 234 yX8_refusal, Cond.instanceMethod yX8_refusal, Cond.selects RX8 yX8_refusal yX8_refusal, Cond.code yX8_refusal cX8_refusal 1 (some .int), Cond.methodLink RX8 222 yX8_keepNow, Cond.instanceMethod yX8_keepNow, Cond.selects RX8 yX8_keepNow yX8_keepNow, Cond.code yX8_keepNow cX8_keepNow 2 none, Cond.fieldLink RX8 40 "MittenLineModel" "had" "[I", Cond.fieldLink RX8 7 "MittenLineModel" "yard" "[I", Cond.fieldLink RX8 13 "MittenLineModel" "feels" "[I", Cond.fieldLink RX8 16 "MittenLineModel" "length" "[I", Cond.fieldLink RX8 101 "MittenLineModel" "holding" "I", Cond.fieldLink RX8 77 "MittenLineModel" "wool" "I", Cond.fieldLink RX8 168 "MittenLineModel" "days" "I", Cond.methodLink RX8 225 yX8_fault]
def wsX8_judge_r2 : List Cond := [Cond.instanceMethod yX8_fault, Cond.selects RX8 yX8_fault yX8_fault, Cond.code yX8_fault cX8_fault 3 (some .int), Cond.fieldLink RX8 115 "MittenLineModel" "acts" "I", Cond.fieldLink RX8 112 "MittenLineModel" "padMany" "I", Cond.fieldLink RX8 25 "MittenLineModel" "pad" "[I", Cond.methodLink RX8 139 yX8_readOn, Cond.instanceMethod yX8_readOn, Cond.selects RX8 yX8_readOn yX8_readOn, Cond.code yX8_readOn cX8_readOn 3 (some .int), Cond.methodLink RX8 130 yX8_begin, Cond.instanceMethod yX8_begin, Cond.selects RX8 yX8_begin yX8_begin, Cond.code yX8_begin cX8_begin 3 (some .int), Cond.constantLong RX8 118 (65), Cond.constantLong RX8 120 (74), Cond.fieldLink RX8 31 "MittenLineModel" "who" "[I", Cond.fieldLink RX8 34 "MittenLineModel" "much" "[I", Cond.methodLink RX8 122 yX8_close, Cond.instanceMethod yX8_close, Cond.selects RX8 yX8_close yX8_close, Cond.code yX8_close cX8_close 2 (some .int), Cond.fieldLink RX8 28 "MittenLineModel" "act" "[I", Cond.methodLink RX8 133 yX8_deed]
def wsX8_judge_r3 : List Cond := [Cond.instanceMethod yX8_deed, Cond.selects RX8 yX8_deed yX8_deed, Cond.code yX8_deed cX8_deed 2 (some .int), Cond.methodLink RX8 136 yX8_digit, Cond.instanceMethod yX8_digit, Cond.selects RX8 yX8_digit yX8_digit, Cond.code yX8_digit cX8_digit 3 (some .int), Cond.constantLong RX8 126 (49), Cond.constantLong RX8 128 (57), Cond.methodLink RX8 229 yX8_goDays, Cond.instanceMethod yX8_goDays, Cond.selects RX8 yX8_goDays yX8_goDays, Cond.code yX8_goDays cX8_goDays 3 none, Cond.fieldLink RX8 199 "MittenLineModel" "drawnAct" "I", Cond.fieldLink RX8 205 "MittenLineModel" "drawnChild" "I", Cond.methodLink RX8 214 yX8_whyNot, Cond.instanceMethod yX8_whyNot, Cond.selects RX8 yX8_whyNot yX8_whyNot, Cond.code yX8_whyNot cX8_whyNot 4 (some .int), Cond.methodLink RX8 159 yX8_whyNotGo, Cond.instanceMethod yX8_whyNotGo, Cond.selects RX8 yX8_whyNotGo yX8_whyNotGo, Cond.code yX8_whyNotGo cX8_whyNotGo 3 (some .int), Cond.constantLong RX8 95 (999)]
def wsX8_judge_r4 : List Cond := [Cond.fieldLink RX8 142 "MittenLineModel" "drawnBits" "I", Cond.methodLink RX8 149 yX8_findThen, Cond.instanceMethod yX8_findThen, Cond.selects RX8 yX8_findThen yX8_findThen, Cond.code yX8_findThen cX8_findThen 5 none, Cond.fieldLink RX8 37 "MittenLineModel" "then" "[I", Cond.methodLink RX8 145 yX8_draws, Cond.instanceMethod yX8_draws, Cond.selects RX8 yX8_draws yX8_draws, Cond.code yX8_draws cX8_draws 4 (some .boolean), Cond.methodLink RX8 87 yX8_off, Cond.static yX8_off, Cond.code yX8_off cX8_off 2 (some .int), Cond.methodLink RX8 153 yX8_has, Cond.static yX8_has, Cond.code yX8_has cX8_has 2 (some .boolean), Cond.methodLink RX8 162 yX8_whyNotLet, Cond.instanceMethod yX8_whyNotLet, Cond.selects RX8 yX8_whyNotLet yX8_whyNotLet, Cond.code yX8_whyNotLet cX8_whyNotLet 2 (some .int), Cond.methodLink RX8 165 yX8_whyNotTake, Cond.instanceMethod yX8_whyNotTake, Cond.selects RX8 yX8_whyNotTake yX8_whyNotTake, Cond.code yX8_whyNotTake cX8_whyNotTake 2 (some .int)]
def wsX8_judge_r5 : List Cond := [Cond.methodLink RX8 156 yX8_isTaut, Cond.instanceMethod yX8_isTaut, Cond.selects RX8 yX8_isTaut yX8_isTaut, Cond.code yX8_isTaut cX8_isTaut 2 (some .boolean), Cond.methodLink RX8 218 yX8_goOne, Cond.instanceMethod yX8_goOne, Cond.selects RX8 yX8_goOne yX8_goOne, Cond.code yX8_goOne cX8_goOne 2 none, Cond.fieldLink RX8 171 "MittenLineModel" "drawnNow" "I", Cond.methodLink RX8 195 yX8_happen, Cond.instanceMethod yX8_happen, Cond.selects RX8 yX8_happen yX8_happen, Cond.code yX8_happen cX8_happen 4 none, Cond.methodLink RX8 186 yX8_go, Cond.instanceMethod yX8_go, Cond.selects RX8 yX8_go yX8_go, Cond.code yX8_go cX8_go 4 none, Cond.methodLink RX8 177 yX8_ones, Cond.static yX8_ones, Cond.code yX8_ones cX8_ones 3 (some .int), Cond.methodLink RX8 189 yX8_squeeze, Cond.instanceMethod yX8_squeeze, Cond.selects RX8 yX8_squeeze yX8_squeeze, Cond.code yX8_squeeze cX8_squeeze 5 none]
def wsX8_judge_r6 : List Cond := [Cond.methodLink RX8 183 yX8_feel, Cond.instanceMethod yX8_feel, Cond.selects RX8 yX8_feel yX8_feel, Cond.code yX8_feel cX8_feel 3 none, Cond.methodLink RX8 180 yX8_less, Cond.static yX8_less, Cond.code yX8_less cX8_less 2 (some .int), Cond.methodLink RX8 192 yX8_passDay, Cond.instanceMethod yX8_passDay, Cond.selects RX8 yX8_passDay yX8_passDay, Cond.code yX8_passDay cX8_passDay 2 none, Cond.methodLink RX8 202 yX8_leastOf, Cond.static yX8_leastOf, Cond.code yX8_leastOf cX8_leastOf 3 (some .int), Cond.methodLink RX8 237 yX8_back, Cond.instanceMethod yX8_back, Cond.selects RX8 yX8_back yX8_back, Cond.code yX8_back cX8_back 3 (some .int)]
def wsX8_judge : List Cond := .code yX8_judge cX8_judge 3 (some .int) :: ((wsX8_judge_r1 ++ (wsX8_judge_r2 ++ (wsX8_judge_r3 ++ (wsX8_judge_r4 ++ (wsX8_judge_r5 ++ wsX8_judge_r6))))) ++ wsX80)
def wsX8_behind_r1 : List Cond := [Cond.constantLong RX8 232 (2), Cond.fieldLink RX8 7 "MittenLineModel" "yard" "[I", Cond.fieldLink RX8 13 "MittenLineModel" "feels" "[I", Cond.fieldLink RX8 101 "MittenLineModel" "holding" "I", Cond.methodLink RX8 91 yX8_isChild, Cond.static yX8_isChild, Cond.initialized RX8, Cond.code yX8_isChild cX8_isChild 1 (some .boolean), Cond.constantLong RX8 81 (9), Cond.methodLink RX8 83 yX8_in, Cond.static yX8_in, Cond.code yX8_in cX8_in 6 (some .boolean), Cond.methodLink RX8 234 yX8_refusal, Cond.instanceMethod yX8_refusal, Cond.selects RX8 yX8_refusal yX8_refusal, Cond.code yX8_refusal cX8_refusal 1 (some .int), Cond.fieldLink RX8 208 "MittenLineModel" "badAct" "I", Cond.methodLink RX8 222 yX8_keepNow, Cond.instanceMethod yX8_keepNow, Cond.selects RX8 yX8_keepNow yX8_keepNow, Cond.code yX8_keepNow cX8_keepNow 2 none, Cond.fieldLink RX8 40 "MittenLineModel" "had" "[I", Cond.fieldLink RX8 16 "MittenLineModel" "length" "[I", Cond.fieldLink RX8 77 "MittenLineModel" "wool" "I"]
def wsX8_behind_r2 : List Cond := [Cond.fieldLink RX8 168 "MittenLineModel" "days" "I", Cond.methodLink RX8 225 yX8_fault, Cond.instanceMethod yX8_fault, Cond.selects RX8 yX8_fault yX8_fault, Cond.code yX8_fault cX8_fault 3 (some .int), Cond.fieldLink RX8 115 "MittenLineModel" "acts" "I", Cond.fieldLink RX8 112 "MittenLineModel" "padMany" "I", Cond.fieldLink RX8 25 "MittenLineModel" "pad" "[I", Cond.methodLink RX8 139 yX8_readOn, Cond.instanceMethod yX8_readOn, Cond.selects RX8 yX8_readOn yX8_readOn, Cond.code yX8_readOn cX8_readOn 3 (some .int), Cond.methodLink RX8 130 yX8_begin, Cond.instanceMethod yX8_begin, Cond.selects RX8 yX8_begin yX8_begin, Cond.code yX8_begin cX8_begin 3 (some .int), Cond.constantLong RX8 118 (65), Cond.constantLong RX8 120 (74), Cond.fieldLink RX8 31 "MittenLineModel" "who" "[I", Cond.fieldLink RX8 34 "MittenLineModel" "much" "[I", Cond.methodLink RX8 122 yX8_close, Cond.instanceMethod yX8_close, Cond.selects RX8 yX8_close yX8_close, Cond.code yX8_close cX8_close 2 (some .int)]
def wsX8_behind_r3 : List Cond := [Cond.fieldLink RX8 28 "MittenLineModel" "act" "[I", Cond.methodLink RX8 133 yX8_deed, Cond.instanceMethod yX8_deed, Cond.selects RX8 yX8_deed yX8_deed, Cond.code yX8_deed cX8_deed 2 (some .int), Cond.methodLink RX8 136 yX8_digit, Cond.instanceMethod yX8_digit, Cond.selects RX8 yX8_digit yX8_digit, Cond.code yX8_digit cX8_digit 3 (some .int), Cond.constantLong RX8 126 (49), Cond.constantLong RX8 128 (57), Cond.methodLink RX8 229 yX8_goDays, Cond.instanceMethod yX8_goDays, Cond.selects RX8 yX8_goDays yX8_goDays, Cond.code yX8_goDays cX8_goDays 3 none, Cond.fieldLink RX8 211 "MittenLineModel" "badWhy" "I", Cond.fieldLink RX8 199 "MittenLineModel" "drawnAct" "I", Cond.fieldLink RX8 205 "MittenLineModel" "drawnChild" "I", Cond.fieldLink RX8 174 "MittenLineModel" "drawnMany" "I", Cond.methodLink RX8 214 yX8_whyNot, Cond.instanceMethod yX8_whyNot, Cond.selects RX8 yX8_whyNot yX8_whyNot, Cond.code yX8_whyNot cX8_whyNot 4 (some .int), Cond.methodLink RX8 159 yX8_whyNotGo]
def wsX8_behind_r4 : List Cond := [Cond.instanceMethod yX8_whyNotGo, Cond.selects RX8 yX8_whyNotGo yX8_whyNotGo, Cond.code yX8_whyNotGo cX8_whyNotGo 3 (some .int), Cond.constantLong RX8 95 (999), Cond.fieldLink RX8 142 "MittenLineModel" "drawnBits" "I", Cond.methodLink RX8 149 yX8_findThen, Cond.instanceMethod yX8_findThen, Cond.selects RX8 yX8_findThen yX8_findThen, Cond.code yX8_findThen cX8_findThen 5 none, Cond.fieldLink RX8 37 "MittenLineModel" "then" "[I", Cond.methodLink RX8 145 yX8_draws, Cond.instanceMethod yX8_draws, Cond.selects RX8 yX8_draws yX8_draws, Cond.code yX8_draws cX8_draws 4 (some .boolean), Cond.methodLink RX8 87 yX8_off, Cond.static yX8_off, Cond.code yX8_off cX8_off 2 (some .int), Cond.methodLink RX8 153 yX8_has, Cond.static yX8_has, Cond.code yX8_has cX8_has 2 (some .boolean), Cond.methodLink RX8 162 yX8_whyNotLet, Cond.instanceMethod yX8_whyNotLet, Cond.selects RX8 yX8_whyNotLet yX8_whyNotLet, Cond.code yX8_whyNotLet cX8_whyNotLet 2 (some .int)]
def wsX8_behind_r5 : List Cond := [Cond.methodLink RX8 165 yX8_whyNotTake, Cond.instanceMethod yX8_whyNotTake, Cond.selects RX8 yX8_whyNotTake yX8_whyNotTake, Cond.code yX8_whyNotTake cX8_whyNotTake 2 (some .int), Cond.methodLink RX8 156 yX8_isTaut, Cond.instanceMethod yX8_isTaut, Cond.selects RX8 yX8_isTaut yX8_isTaut, Cond.code yX8_isTaut cX8_isTaut 2 (some .boolean), Cond.methodLink RX8 218 yX8_goOne, Cond.instanceMethod yX8_goOne, Cond.selects RX8 yX8_goOne yX8_goOne, Cond.code yX8_goOne cX8_goOne 2 none, Cond.fieldLink RX8 171 "MittenLineModel" "drawnNow" "I", Cond.methodLink RX8 195 yX8_happen, Cond.instanceMethod yX8_happen, Cond.selects RX8 yX8_happen yX8_happen, Cond.code yX8_happen cX8_happen 4 none, Cond.methodLink RX8 186 yX8_go, Cond.instanceMethod yX8_go, Cond.selects RX8 yX8_go yX8_go, Cond.code yX8_go cX8_go 4 none, Cond.methodLink RX8 177 yX8_ones, Cond.static yX8_ones, Cond.code yX8_ones cX8_ones 3 (some .int)]
def wsX8_behind_r6 : List Cond := [Cond.methodLink RX8 189 yX8_squeeze, Cond.instanceMethod yX8_squeeze, Cond.selects RX8 yX8_squeeze yX8_squeeze, Cond.code yX8_squeeze cX8_squeeze 5 none, Cond.methodLink RX8 183 yX8_feel, Cond.instanceMethod yX8_feel, Cond.selects RX8 yX8_feel yX8_feel, Cond.code yX8_feel cX8_feel 3 none, Cond.methodLink RX8 180 yX8_less, Cond.static yX8_less, Cond.code yX8_less cX8_less 2 (some .int), Cond.methodLink RX8 192 yX8_passDay, Cond.instanceMethod yX8_passDay, Cond.selects RX8 yX8_passDay yX8_passDay, Cond.code yX8_passDay cX8_passDay 2 none, Cond.methodLink RX8 202 yX8_leastOf, Cond.static yX8_leastOf, Cond.code yX8_leastOf cX8_leastOf 3 (some .int), Cond.methodLink RX8 237 yX8_back, Cond.instanceMethod yX8_back, Cond.selects RX8 yX8_back yX8_back, Cond.code yX8_back cX8_back 3 (some .int)]
def wsX8_behind : List Cond := .code yX8_behind cX8_behind 4 (some .int) :: ((wsX8_behind_r1 ++ (wsX8_behind_r2 ++ (wsX8_behind_r3 ++ (wsX8_behind_r4 ++ (wsX8_behind_r5 ++ wsX8_behind_r6))))) ++ wsX80)
def wsX8_taut : List Cond := .code yX8_taut cX8_taut 3 (some .int) :: ([.methodLink RX8 156 yX8_isTaut, .instanceMethod yX8_isTaut, .selects RX8 yX8_isTaut yX8_isTaut, .initialized RX8, .code yX8_isTaut cX8_isTaut 2 (some .boolean), .fieldLink RX8 7 "MittenLineModel" "yard" "[I", .fieldLink RX8 16 "MittenLineModel" "length" "[I", .methodLink RX8 87 yX8_off, .static yX8_off, .code yX8_off cX8_off 2 (some .int)] ++ wsX80)
def wsX8_allYards : List Cond := .code yX8_allYards cX8_allYards 3 (some .int) :: ([.fieldLink RX8 16 "MittenLineModel" "length" "[I"] ++ wsX80)
def wsX8_line_r1 : List Cond := [Cond.constantLong RX8 240 (3), Cond.fieldLink RX8 77 "MittenLineModel" "wool" "I", Cond.fieldLink RX8 168 "MittenLineModel" "days" "I", Cond.methodLink RX8 83 yX8_in, Cond.static yX8_in, Cond.initialized RX8, Cond.code yX8_in cX8_in 6 (some .boolean), Cond.methodLink RX8 234 yX8_refusal, Cond.instanceMethod yX8_refusal, Cond.selects RX8 yX8_refusal yX8_refusal, Cond.code yX8_refusal cX8_refusal 1 (some .int), Cond.fieldLink RX8 208 "MittenLineModel" "badAct" "I", Cond.methodLink RX8 222 yX8_keepNow, Cond.instanceMethod yX8_keepNow, Cond.selects RX8 yX8_keepNow yX8_keepNow, Cond.code yX8_keepNow cX8_keepNow 2 none, Cond.fieldLink RX8 40 "MittenLineModel" "had" "[I", Cond.fieldLink RX8 7 "MittenLineModel" "yard" "[I", Cond.fieldLink RX8 13 "MittenLineModel" "feels" "[I", Cond.fieldLink RX8 16 "MittenLineModel" "length" "[I", Cond.fieldLink RX8 101 "MittenLineModel" "holding" "I", Cond.methodLink RX8 225 yX8_fault, Cond.instanceMethod yX8_fault, Cond.selects RX8 yX8_fault yX8_fault]
def wsX8_line_r2 : List Cond := [Cond.code yX8_fault cX8_fault 3 (some .int), Cond.fieldLink RX8 115 "MittenLineModel" "acts" "I", Cond.fieldLink RX8 112 "MittenLineModel" "padMany" "I", Cond.fieldLink RX8 25 "MittenLineModel" "pad" "[I", Cond.methodLink RX8 139 yX8_readOn, Cond.instanceMethod yX8_readOn, Cond.selects RX8 yX8_readOn yX8_readOn, Cond.code yX8_readOn cX8_readOn 3 (some .int), Cond.methodLink RX8 130 yX8_begin, Cond.instanceMethod yX8_begin, Cond.selects RX8 yX8_begin yX8_begin, Cond.code yX8_begin cX8_begin 3 (some .int), Cond.constantLong RX8 118 (65), Cond.constantLong RX8 120 (74), Cond.fieldLink RX8 31 "MittenLineModel" "who" "[I", Cond.fieldLink RX8 34 "MittenLineModel" "much" "[I", Cond.methodLink RX8 122 yX8_close, Cond.instanceMethod yX8_close, Cond.selects RX8 yX8_close yX8_close, Cond.code yX8_close cX8_close 2 (some .int), Cond.fieldLink RX8 28 "MittenLineModel" "act" "[I", Cond.methodLink RX8 133 yX8_deed, Cond.instanceMethod yX8_deed, Cond.selects RX8 yX8_deed yX8_deed]
def wsX8_line_r3 : List Cond := [Cond.code yX8_deed cX8_deed 2 (some .int), Cond.methodLink RX8 136 yX8_digit, Cond.instanceMethod yX8_digit, Cond.selects RX8 yX8_digit yX8_digit, Cond.code yX8_digit cX8_digit 3 (some .int), Cond.constantLong RX8 126 (49), Cond.constantLong RX8 128 (57), Cond.methodLink RX8 229 yX8_goDays, Cond.instanceMethod yX8_goDays, Cond.selects RX8 yX8_goDays yX8_goDays, Cond.code yX8_goDays cX8_goDays 3 none, Cond.fieldLink RX8 211 "MittenLineModel" "badWhy" "I", Cond.fieldLink RX8 199 "MittenLineModel" "drawnAct" "I", Cond.fieldLink RX8 205 "MittenLineModel" "drawnChild" "I", Cond.fieldLink RX8 174 "MittenLineModel" "drawnMany" "I", Cond.methodLink RX8 214 yX8_whyNot, Cond.instanceMethod yX8_whyNot, Cond.selects RX8 yX8_whyNot yX8_whyNot, Cond.code yX8_whyNot cX8_whyNot 4 (some .int), Cond.methodLink RX8 159 yX8_whyNotGo, Cond.instanceMethod yX8_whyNotGo, Cond.selects RX8 yX8_whyNotGo yX8_whyNotGo, Cond.code yX8_whyNotGo cX8_whyNotGo 3 (some .int), Cond.constantLong RX8 95 (999)]
def wsX8_line_r4 : List Cond := [Cond.fieldLink RX8 142 "MittenLineModel" "drawnBits" "I", Cond.methodLink RX8 149 yX8_findThen, Cond.instanceMethod yX8_findThen, Cond.selects RX8 yX8_findThen yX8_findThen, Cond.code yX8_findThen cX8_findThen 5 none, Cond.fieldLink RX8 37 "MittenLineModel" "then" "[I", Cond.methodLink RX8 145 yX8_draws, Cond.instanceMethod yX8_draws, Cond.selects RX8 yX8_draws yX8_draws, Cond.code yX8_draws cX8_draws 4 (some .boolean), Cond.methodLink RX8 87 yX8_off, Cond.static yX8_off, Cond.code yX8_off cX8_off 2 (some .int), Cond.methodLink RX8 153 yX8_has, Cond.static yX8_has, Cond.code yX8_has cX8_has 2 (some .boolean), Cond.methodLink RX8 162 yX8_whyNotLet, Cond.instanceMethod yX8_whyNotLet, Cond.selects RX8 yX8_whyNotLet yX8_whyNotLet, Cond.code yX8_whyNotLet cX8_whyNotLet 2 (some .int), Cond.methodLink RX8 165 yX8_whyNotTake, Cond.instanceMethod yX8_whyNotTake, Cond.selects RX8 yX8_whyNotTake yX8_whyNotTake, Cond.code yX8_whyNotTake cX8_whyNotTake 2 (some .int)]
def wsX8_line_r5 : List Cond := [Cond.methodLink RX8 156 yX8_isTaut, Cond.instanceMethod yX8_isTaut, Cond.selects RX8 yX8_isTaut yX8_isTaut, Cond.code yX8_isTaut cX8_isTaut 2 (some .boolean), Cond.methodLink RX8 218 yX8_goOne, Cond.instanceMethod yX8_goOne, Cond.selects RX8 yX8_goOne yX8_goOne, Cond.code yX8_goOne cX8_goOne 2 none, Cond.fieldLink RX8 171 "MittenLineModel" "drawnNow" "I", Cond.methodLink RX8 195 yX8_happen, Cond.instanceMethod yX8_happen, Cond.selects RX8 yX8_happen yX8_happen, Cond.code yX8_happen cX8_happen 4 none, Cond.methodLink RX8 186 yX8_go, Cond.instanceMethod yX8_go, Cond.selects RX8 yX8_go yX8_go, Cond.code yX8_go cX8_go 4 none, Cond.methodLink RX8 177 yX8_ones, Cond.static yX8_ones, Cond.code yX8_ones cX8_ones 3 (some .int), Cond.methodLink RX8 189 yX8_squeeze, Cond.instanceMethod yX8_squeeze, Cond.selects RX8 yX8_squeeze yX8_squeeze, Cond.code yX8_squeeze cX8_squeeze 5 none]
def wsX8_line_r6 : List Cond := [Cond.methodLink RX8 183 yX8_feel, Cond.instanceMethod yX8_feel, Cond.selects RX8 yX8_feel yX8_feel, Cond.code yX8_feel cX8_feel 3 none, Cond.methodLink RX8 180 yX8_less, Cond.static yX8_less, Cond.code yX8_less cX8_less 2 (some .int), Cond.methodLink RX8 192 yX8_passDay, Cond.instanceMethod yX8_passDay, Cond.selects RX8 yX8_passDay yX8_passDay, Cond.code yX8_passDay cX8_passDay 2 none, Cond.methodLink RX8 202 yX8_leastOf, Cond.static yX8_leastOf, Cond.code yX8_leastOf cX8_leastOf 3 (some .int), Cond.methodLink RX8 242 yX8_taut, Cond.instanceMethod yX8_taut, Cond.selects RX8 yX8_taut yX8_taut, Cond.code yX8_taut cX8_taut 3 (some .int), Cond.methodLink RX8 245 yX8_allYards, Cond.instanceMethod yX8_allYards, Cond.selects RX8 yX8_allYards yX8_allYards, Cond.code yX8_allYards cX8_allYards 3 (some .int), Cond.methodLink RX8 237 yX8_back, Cond.instanceMethod yX8_back]
def wsX8_line_r7 : List Cond := [Cond.selects RX8 yX8_back yX8_back, Cond.code yX8_back cX8_back 3 (some .int)]
def wsX8_line : List Cond := .code yX8_line cX8_line 3 (some .int) :: ((wsX8_line_r1 ++ (wsX8_line_r2 ++ (wsX8_line_r3 ++ (wsX8_line_r4 ++ (wsX8_line_r5 ++ (wsX8_line_r6 ++ wsX8_line_r7)))))) ++ wsX80)
def wsX8_drawn_r1 : List Cond := [Cond.fieldLink RX8 199 "MittenLineModel" "drawnAct" "I", Cond.fieldLink RX8 205 "MittenLineModel" "drawnChild" "I", Cond.methodLink RX8 83 yX8_in, Cond.static yX8_in, Cond.initialized RX8, Cond.code yX8_in cX8_in 6 (some .boolean), Cond.methodLink RX8 234 yX8_refusal, Cond.instanceMethod yX8_refusal, Cond.selects RX8 yX8_refusal yX8_refusal, Cond.code yX8_refusal cX8_refusal 1 (some .int), Cond.fieldLink RX8 208 "MittenLineModel" "badAct" "I", Cond.methodLink RX8 222 yX8_keepNow, Cond.instanceMethod yX8_keepNow, Cond.selects RX8 yX8_keepNow yX8_keepNow, Cond.code yX8_keepNow cX8_keepNow 2 none, Cond.fieldLink RX8 40 "MittenLineModel" "had" "[I", Cond.fieldLink RX8 7 "MittenLineModel" "yard" "[I", Cond.fieldLink RX8 13 "MittenLineModel" "feels" "[I", Cond.fieldLink RX8 16 "MittenLineModel" "length" "[I", Cond.fieldLink RX8 101 "MittenLineModel" "holding" "I", Cond.fieldLink RX8 77 "MittenLineModel" "wool" "I", Cond.fieldLink RX8 168 "MittenLineModel" "days" "I", Cond.methodLink RX8 225 yX8_fault, Cond.instanceMethod yX8_fault]
def wsX8_drawn_r2 : List Cond := [Cond.selects RX8 yX8_fault yX8_fault, Cond.code yX8_fault cX8_fault 3 (some .int), Cond.fieldLink RX8 115 "MittenLineModel" "acts" "I", Cond.fieldLink RX8 112 "MittenLineModel" "padMany" "I", Cond.fieldLink RX8 25 "MittenLineModel" "pad" "[I", Cond.methodLink RX8 139 yX8_readOn, Cond.instanceMethod yX8_readOn, Cond.selects RX8 yX8_readOn yX8_readOn, Cond.code yX8_readOn cX8_readOn 3 (some .int), Cond.methodLink RX8 130 yX8_begin, Cond.instanceMethod yX8_begin, Cond.selects RX8 yX8_begin yX8_begin, Cond.code yX8_begin cX8_begin 3 (some .int), Cond.constantLong RX8 118 (65), Cond.constantLong RX8 120 (74), Cond.fieldLink RX8 31 "MittenLineModel" "who" "[I", Cond.fieldLink RX8 34 "MittenLineModel" "much" "[I", Cond.methodLink RX8 122 yX8_close, Cond.instanceMethod yX8_close, Cond.selects RX8 yX8_close yX8_close, Cond.code yX8_close cX8_close 2 (some .int), Cond.fieldLink RX8 28 "MittenLineModel" "act" "[I", Cond.methodLink RX8 133 yX8_deed, Cond.instanceMethod yX8_deed]
def wsX8_drawn_r3 : List Cond := [Cond.selects RX8 yX8_deed yX8_deed, Cond.code yX8_deed cX8_deed 2 (some .int), Cond.methodLink RX8 136 yX8_digit, Cond.instanceMethod yX8_digit, Cond.selects RX8 yX8_digit yX8_digit, Cond.code yX8_digit cX8_digit 3 (some .int), Cond.constantLong RX8 126 (49), Cond.constantLong RX8 128 (57), Cond.methodLink RX8 229 yX8_goDays, Cond.instanceMethod yX8_goDays, Cond.selects RX8 yX8_goDays yX8_goDays, Cond.code yX8_goDays cX8_goDays 3 none, Cond.fieldLink RX8 211 "MittenLineModel" "badWhy" "I", Cond.fieldLink RX8 174 "MittenLineModel" "drawnMany" "I", Cond.methodLink RX8 214 yX8_whyNot, Cond.instanceMethod yX8_whyNot, Cond.selects RX8 yX8_whyNot yX8_whyNot, Cond.code yX8_whyNot cX8_whyNot 4 (some .int), Cond.methodLink RX8 159 yX8_whyNotGo, Cond.instanceMethod yX8_whyNotGo, Cond.selects RX8 yX8_whyNotGo yX8_whyNotGo, Cond.code yX8_whyNotGo cX8_whyNotGo 3 (some .int), Cond.constantLong RX8 95 (999), Cond.fieldLink RX8 142 "MittenLineModel" "drawnBits" "I"]
def wsX8_drawn_r4 : List Cond := [Cond.methodLink RX8 149 yX8_findThen, Cond.instanceMethod yX8_findThen, Cond.selects RX8 yX8_findThen yX8_findThen, Cond.code yX8_findThen cX8_findThen 5 none, Cond.fieldLink RX8 37 "MittenLineModel" "then" "[I", Cond.methodLink RX8 145 yX8_draws, Cond.instanceMethod yX8_draws, Cond.selects RX8 yX8_draws yX8_draws, Cond.code yX8_draws cX8_draws 4 (some .boolean), Cond.methodLink RX8 87 yX8_off, Cond.static yX8_off, Cond.code yX8_off cX8_off 2 (some .int), Cond.methodLink RX8 153 yX8_has, Cond.static yX8_has, Cond.code yX8_has cX8_has 2 (some .boolean), Cond.methodLink RX8 162 yX8_whyNotLet, Cond.instanceMethod yX8_whyNotLet, Cond.selects RX8 yX8_whyNotLet yX8_whyNotLet, Cond.code yX8_whyNotLet cX8_whyNotLet 2 (some .int), Cond.methodLink RX8 165 yX8_whyNotTake, Cond.instanceMethod yX8_whyNotTake, Cond.selects RX8 yX8_whyNotTake yX8_whyNotTake, Cond.code yX8_whyNotTake cX8_whyNotTake 2 (some .int), Cond.methodLink RX8 156 yX8_isTaut]
def wsX8_drawn_r5 : List Cond := [Cond.instanceMethod yX8_isTaut, Cond.selects RX8 yX8_isTaut yX8_isTaut, Cond.code yX8_isTaut cX8_isTaut 2 (some .boolean), Cond.methodLink RX8 218 yX8_goOne, Cond.instanceMethod yX8_goOne, Cond.selects RX8 yX8_goOne yX8_goOne, Cond.code yX8_goOne cX8_goOne 2 none, Cond.fieldLink RX8 171 "MittenLineModel" "drawnNow" "I", Cond.methodLink RX8 195 yX8_happen, Cond.instanceMethod yX8_happen, Cond.selects RX8 yX8_happen yX8_happen, Cond.code yX8_happen cX8_happen 4 none, Cond.methodLink RX8 186 yX8_go, Cond.instanceMethod yX8_go, Cond.selects RX8 yX8_go yX8_go, Cond.code yX8_go cX8_go 4 none, Cond.methodLink RX8 177 yX8_ones, Cond.static yX8_ones, Cond.code yX8_ones cX8_ones 3 (some .int), Cond.methodLink RX8 189 yX8_squeeze, Cond.instanceMethod yX8_squeeze, Cond.selects RX8 yX8_squeeze yX8_squeeze, Cond.code yX8_squeeze cX8_squeeze 5 none, Cond.methodLink RX8 183 yX8_feel]
def wsX8_drawn_r6 : List Cond := [Cond.instanceMethod yX8_feel, Cond.selects RX8 yX8_feel yX8_feel, Cond.code yX8_feel cX8_feel 3 none, Cond.methodLink RX8 180 yX8_less, Cond.static yX8_less, Cond.code yX8_less cX8_less 2 (some .int), Cond.methodLink RX8 192 yX8_passDay, Cond.instanceMethod yX8_passDay, Cond.selects RX8 yX8_passDay yX8_passDay, Cond.code yX8_passDay cX8_passDay 2 none, Cond.methodLink RX8 202 yX8_leastOf, Cond.static yX8_leastOf, Cond.code yX8_leastOf cX8_leastOf 3 (some .int), Cond.methodLink RX8 237 yX8_back, Cond.instanceMethod yX8_back, Cond.selects RX8 yX8_back yX8_back, Cond.code yX8_back cX8_back 3 (some .int)]
def wsX8_drawn : List Cond := .code yX8_drawn cX8_drawn 3 (some .int) :: ((wsX8_drawn_r1 ++ (wsX8_drawn_r2 ++ (wsX8_drawn_r3 ++ (wsX8_drawn_r4 ++ (wsX8_drawn_r5 ++ wsX8_drawn_r6))))) ++ wsX80)
def wsX8_done_r1 : List Cond := [Cond.fieldLink RX8 112 "MittenLineModel" "padMany" "I", Cond.fieldLink RX8 115 "MittenLineModel" "acts" "I", Cond.methodLink RX8 234 yX8_refusal, Cond.instanceMethod yX8_refusal, Cond.selects RX8 yX8_refusal yX8_refusal, Cond.initialized RX8, Cond.code yX8_refusal cX8_refusal 1 (some .int), Cond.fieldLink RX8 208 "MittenLineModel" "badAct" "I", Cond.methodLink RX8 222 yX8_keepNow, Cond.instanceMethod yX8_keepNow, Cond.selects RX8 yX8_keepNow yX8_keepNow, Cond.code yX8_keepNow cX8_keepNow 2 none, Cond.fieldLink RX8 40 "MittenLineModel" "had" "[I", Cond.fieldLink RX8 7 "MittenLineModel" "yard" "[I", Cond.fieldLink RX8 13 "MittenLineModel" "feels" "[I", Cond.fieldLink RX8 16 "MittenLineModel" "length" "[I", Cond.fieldLink RX8 101 "MittenLineModel" "holding" "I", Cond.fieldLink RX8 77 "MittenLineModel" "wool" "I", Cond.fieldLink RX8 168 "MittenLineModel" "days" "I", Cond.methodLink RX8 225 yX8_fault, Cond.instanceMethod yX8_fault, Cond.selects RX8 yX8_fault yX8_fault, Cond.code yX8_fault cX8_fault 3 (some .int), Cond.fieldLink RX8 25 "MittenLineModel" "pad" "[I"]
def wsX8_done_r2 : List Cond := [Cond.methodLink RX8 139 yX8_readOn, Cond.instanceMethod yX8_readOn, Cond.selects RX8 yX8_readOn yX8_readOn, Cond.code yX8_readOn cX8_readOn 3 (some .int), Cond.methodLink RX8 130 yX8_begin, Cond.instanceMethod yX8_begin, Cond.selects RX8 yX8_begin yX8_begin, Cond.code yX8_begin cX8_begin 3 (some .int), Cond.constantLong RX8 118 (65), Cond.constantLong RX8 120 (74), Cond.fieldLink RX8 31 "MittenLineModel" "who" "[I", Cond.fieldLink RX8 34 "MittenLineModel" "much" "[I", Cond.methodLink RX8 83 yX8_in, Cond.static yX8_in, Cond.code yX8_in cX8_in 6 (some .boolean), Cond.methodLink RX8 122 yX8_close, Cond.instanceMethod yX8_close, Cond.selects RX8 yX8_close yX8_close, Cond.code yX8_close cX8_close 2 (some .int), Cond.fieldLink RX8 28 "MittenLineModel" "act" "[I", Cond.methodLink RX8 133 yX8_deed, Cond.instanceMethod yX8_deed, Cond.selects RX8 yX8_deed yX8_deed, Cond.code yX8_deed cX8_deed 2 (some .int)]
def wsX8_done_r3 : List Cond := [Cond.methodLink RX8 136 yX8_digit, Cond.instanceMethod yX8_digit, Cond.selects RX8 yX8_digit yX8_digit, Cond.code yX8_digit cX8_digit 3 (some .int), Cond.constantLong RX8 126 (49), Cond.constantLong RX8 128 (57), Cond.methodLink RX8 229 yX8_goDays, Cond.instanceMethod yX8_goDays, Cond.selects RX8 yX8_goDays yX8_goDays, Cond.code yX8_goDays cX8_goDays 3 none, Cond.fieldLink RX8 211 "MittenLineModel" "badWhy" "I", Cond.fieldLink RX8 199 "MittenLineModel" "drawnAct" "I", Cond.fieldLink RX8 205 "MittenLineModel" "drawnChild" "I", Cond.fieldLink RX8 174 "MittenLineModel" "drawnMany" "I", Cond.methodLink RX8 214 yX8_whyNot, Cond.instanceMethod yX8_whyNot, Cond.selects RX8 yX8_whyNot yX8_whyNot, Cond.code yX8_whyNot cX8_whyNot 4 (some .int), Cond.methodLink RX8 159 yX8_whyNotGo, Cond.instanceMethod yX8_whyNotGo, Cond.selects RX8 yX8_whyNotGo yX8_whyNotGo, Cond.code yX8_whyNotGo cX8_whyNotGo 3 (some .int), Cond.constantLong RX8 95 (999), Cond.fieldLink RX8 142 "MittenLineModel" "drawnBits" "I"]
def wsX8_done_r4 : List Cond := [Cond.methodLink RX8 149 yX8_findThen, Cond.instanceMethod yX8_findThen, Cond.selects RX8 yX8_findThen yX8_findThen, Cond.code yX8_findThen cX8_findThen 5 none, Cond.fieldLink RX8 37 "MittenLineModel" "then" "[I", Cond.methodLink RX8 145 yX8_draws, Cond.instanceMethod yX8_draws, Cond.selects RX8 yX8_draws yX8_draws, Cond.code yX8_draws cX8_draws 4 (some .boolean), Cond.methodLink RX8 87 yX8_off, Cond.static yX8_off, Cond.code yX8_off cX8_off 2 (some .int), Cond.methodLink RX8 153 yX8_has, Cond.static yX8_has, Cond.code yX8_has cX8_has 2 (some .boolean), Cond.methodLink RX8 162 yX8_whyNotLet, Cond.instanceMethod yX8_whyNotLet, Cond.selects RX8 yX8_whyNotLet yX8_whyNotLet, Cond.code yX8_whyNotLet cX8_whyNotLet 2 (some .int), Cond.methodLink RX8 165 yX8_whyNotTake, Cond.instanceMethod yX8_whyNotTake, Cond.selects RX8 yX8_whyNotTake yX8_whyNotTake, Cond.code yX8_whyNotTake cX8_whyNotTake 2 (some .int), Cond.methodLink RX8 156 yX8_isTaut]
def wsX8_done_r5 : List Cond := [Cond.instanceMethod yX8_isTaut, Cond.selects RX8 yX8_isTaut yX8_isTaut, Cond.code yX8_isTaut cX8_isTaut 2 (some .boolean), Cond.methodLink RX8 218 yX8_goOne, Cond.instanceMethod yX8_goOne, Cond.selects RX8 yX8_goOne yX8_goOne, Cond.code yX8_goOne cX8_goOne 2 none, Cond.fieldLink RX8 171 "MittenLineModel" "drawnNow" "I", Cond.methodLink RX8 195 yX8_happen, Cond.instanceMethod yX8_happen, Cond.selects RX8 yX8_happen yX8_happen, Cond.code yX8_happen cX8_happen 4 none, Cond.methodLink RX8 186 yX8_go, Cond.instanceMethod yX8_go, Cond.selects RX8 yX8_go yX8_go, Cond.code yX8_go cX8_go 4 none, Cond.methodLink RX8 177 yX8_ones, Cond.static yX8_ones, Cond.code yX8_ones cX8_ones 3 (some .int), Cond.methodLink RX8 189 yX8_squeeze, Cond.instanceMethod yX8_squeeze, Cond.selects RX8 yX8_squeeze yX8_squeeze, Cond.code yX8_squeeze cX8_squeeze 5 none, Cond.methodLink RX8 183 yX8_feel]
def wsX8_done_r6 : List Cond := [Cond.instanceMethod yX8_feel, Cond.selects RX8 yX8_feel yX8_feel, Cond.code yX8_feel cX8_feel 3 none, Cond.methodLink RX8 180 yX8_less, Cond.static yX8_less, Cond.code yX8_less cX8_less 2 (some .int), Cond.methodLink RX8 192 yX8_passDay, Cond.instanceMethod yX8_passDay, Cond.selects RX8 yX8_passDay yX8_passDay, Cond.code yX8_passDay cX8_passDay 2 none, Cond.methodLink RX8 202 yX8_leastOf, Cond.static yX8_leastOf, Cond.code yX8_leastOf cX8_leastOf 3 (some .int), Cond.methodLink RX8 237 yX8_back, Cond.instanceMethod yX8_back, Cond.selects RX8 yX8_back yX8_back, Cond.code yX8_back cX8_back 3 (some .int)]
def wsX8_done : List Cond := .code yX8_done cX8_done 2 (some .int) :: ((wsX8_done_r1 ++ (wsX8_done_r2 ++ (wsX8_done_r3 ++ (wsX8_done_r4 ++ (wsX8_done_r5 ++ wsX8_done_r6))))) ++ wsX80)
def wsX8_reach_r1 : List Cond := [Cond.methodLink RX8 91 yX8_isChild, Cond.static yX8_isChild, Cond.initialized RX8, Cond.code yX8_isChild cX8_isChild 1 (some .boolean), Cond.constantLong RX8 81 (9), Cond.methodLink RX8 83 yX8_in, Cond.static yX8_in, Cond.code yX8_in cX8_in 6 (some .boolean), Cond.methodLink RX8 159 yX8_whyNotGo, Cond.instanceMethod yX8_whyNotGo, Cond.selects RX8 yX8_whyNotGo yX8_whyNotGo, Cond.code yX8_whyNotGo cX8_whyNotGo 3 (some .int), Cond.fieldLink RX8 7 "MittenLineModel" "yard" "[I", Cond.constantLong RX8 95 (999), Cond.fieldLink RX8 101 "MittenLineModel" "holding" "I", Cond.fieldLink RX8 142 "MittenLineModel" "drawnBits" "I", Cond.methodLink RX8 149 yX8_findThen, Cond.instanceMethod yX8_findThen, Cond.selects RX8 yX8_findThen yX8_findThen, Cond.code yX8_findThen cX8_findThen 5 none, Cond.fieldLink RX8 37 "MittenLineModel" "then" "[I", Cond.methodLink RX8 145 yX8_draws, Cond.instanceMethod yX8_draws, Cond.selects RX8 yX8_draws yX8_draws]
def wsX8_reach_r2 : List Cond := [Cond.code yX8_draws cX8_draws 4 (some .boolean), Cond.fieldLink RX8 16 "MittenLineModel" "length" "[I", Cond.methodLink RX8 87 yX8_off, Cond.static yX8_off, Cond.code yX8_off cX8_off 2 (some .int), Cond.methodLink RX8 153 yX8_has, Cond.static yX8_has, Cond.code yX8_has cX8_has 2 (some .boolean)]
def wsX8_reach : List Cond := .code yX8_reach cX8_reach 4 (some .int) :: ((wsX8_reach_r1 ++ wsX8_reach_r2) ++ wsX80)
def wsX8_readBalls : List Cond := .code yX8_readBalls cX8_readBalls 5 (some .boolean) :: ([.fieldLink RX8 43 "MittenLineModel" "balls" "[I"] ++ wsX80)
def wsX8_sizeOf : List Cond := .code yX8_sizeOf cX8_sizeOf 5 (some .int) :: ([.fieldLink RX8 43 "MittenLineModel" "balls" "[I"] ++ wsX80)
def wsX8_windOne : List Cond := .code yX8_windOne cX8_windOne 8 none :: ([.fieldLink RX8 46 "MittenLineModel" "least" "[I", .fieldLink RX8 49 "MittenLineModel" "most" "[I", .methodLink RX8 180 yX8_less, .static yX8_less, .initialized RX8, .code yX8_less cX8_less 2 (some .int), .methodLink RX8 248 yX8_sizeOf, .instanceMethod yX8_sizeOf, .selects RX8 yX8_sizeOf yX8_sizeOf, .code yX8_sizeOf cX8_sizeOf 5 (some .int), .fieldLink RX8 43 "MittenLineModel" "balls" "[I"] ++ wsX80)
def wsX8_wind : List Cond := .code yX8_wind cX8_wind 6 (some .int) :: ([.constantLong RX8 81 (9), .fieldLink RX8 46 "MittenLineModel" "least" "[I", .fieldLink RX8 49 "MittenLineModel" "most" "[I", .methodLink RX8 83 yX8_in, .static yX8_in, .initialized RX8, .code yX8_in cX8_in 6 (some .boolean), .methodLink RX8 251 yX8_readBalls, .instanceMethod yX8_readBalls, .selects RX8 yX8_readBalls yX8_readBalls, .code yX8_readBalls cX8_readBalls 5 (some .boolean), .fieldLink RX8 43 "MittenLineModel" "balls" "[I", .methodLink RX8 254 yX8_windOne, .instanceMethod yX8_windOne, .selects RX8 yX8_windOne yX8_windOne, .code yX8_windOne cX8_windOne 8 none, .methodLink RX8 180 yX8_less, .static yX8_less, .code yX8_less cX8_less 2 (some .int), .methodLink RX8 248 yX8_sizeOf, .instanceMethod yX8_sizeOf, .selects RX8 yX8_sizeOf yX8_sizeOf, .code yX8_sizeOf cX8_sizeOf 5 (some .int)] ++ wsX80)
def wsX8_digitsOf : List Cond := .code yX8_digitsOf cX8_digitsOf 1 (some .int) :: ([])
def wsX8_isWord : List Cond := .code yX8_isWord cX8_isWord 7 (some .boolean) :: ([.fieldLink RX8 55 "MittenLineModel" "signs" "[I", .methodLink RX8 257 yX8_digitsOf, .static yX8_digitsOf, .initialized RX8, .code yX8_digitsOf cX8_digitsOf 1 (some .int)] ++ wsX80)
def wsX8_isAnew : List Cond := .code yX8_isAnew cX8_isAnew 4 (some .boolean) :: ([.fieldLink RX8 52 "MittenLineModel" "words" "[I"] ++ wsX80)
def wsX8_readFrom : List Cond := .code yX8_readFrom cX8_readFrom 6 none :: ([.fieldLink RX8 58 "MittenLineModel" "readings" "[I", .fieldLink RX8 61 "MittenLineModel" "fewest" "[I", .fieldLink RX8 52 "MittenLineModel" "words" "[I", .methodLink RX8 260 yX8_isAnew, .instanceMethod yX8_isAnew, .selects RX8 yX8_isAnew yX8_isAnew, .initialized RX8, .code yX8_isAnew cX8_isAnew 4 (some .boolean), .methodLink RX8 263 yX8_isWord, .instanceMethod yX8_isWord, .selects RX8 yX8_isWord yX8_isWord, .code yX8_isWord cX8_isWord 7 (some .boolean), .fieldLink RX8 55 "MittenLineModel" "signs" "[I", .methodLink RX8 257 yX8_digitsOf, .static yX8_digitsOf, .code yX8_digitsOf cX8_digitsOf 1 (some .int)] ++ wsX80)
def wsX8_isAWord : List Cond := .code yX8_isAWord cX8_isAWord 1 (some .boolean) :: ([.constantLong RX8 95 (999), .methodLink RX8 83 yX8_in, .static yX8_in, .initialized RX8, .code yX8_in cX8_in 6 (some .boolean)])
def wsX8_read_r1 : List Cond := [Cond.constantLong RX8 269 (999999999), Cond.fieldLink RX8 52 "MittenLineModel" "words" "[I", Cond.fieldLink RX8 55 "MittenLineModel" "signs" "[I", Cond.fieldLink RX8 58 "MittenLineModel" "readings" "[I", Cond.fieldLink RX8 61 "MittenLineModel" "fewest" "[I", Cond.methodLink RX8 266 yX8_isAWord, Cond.static yX8_isAWord, Cond.initialized RX8, Cond.code yX8_isAWord cX8_isAWord 1 (some .boolean), Cond.constantLong RX8 95 (999), Cond.methodLink RX8 83 yX8_in, Cond.static yX8_in, Cond.code yX8_in cX8_in 6 (some .boolean), Cond.methodLink RX8 271 yX8_readFrom, Cond.instanceMethod yX8_readFrom, Cond.selects RX8 yX8_readFrom yX8_readFrom, Cond.code yX8_readFrom cX8_readFrom 6 none, Cond.methodLink RX8 260 yX8_isAnew, Cond.instanceMethod yX8_isAnew, Cond.selects RX8 yX8_isAnew yX8_isAnew, Cond.code yX8_isAnew cX8_isAnew 4 (some .boolean), Cond.methodLink RX8 263 yX8_isWord, Cond.instanceMethod yX8_isWord, Cond.selects RX8 yX8_isWord yX8_isWord]
def wsX8_read_r2 : List Cond := [Cond.code yX8_isWord cX8_isWord 7 (some .boolean), Cond.methodLink RX8 257 yX8_digitsOf, Cond.static yX8_digitsOf, Cond.code yX8_digitsOf cX8_digitsOf 1 (some .int)]
def wsX8_read : List Cond := .code yX8_read cX8_read 10 (some .int) :: ((wsX8_read_r1 ++ wsX8_read_r2) ++ wsX80)
def wsX8_felt : List Cond := .code yX8_felt cX8_felt 3 (some .int) :: ([.constantLong RX8 81 (9), .fieldLink RX8 274 "MittenLineModel" "sights" "I", .fieldLink RX8 19 "MittenLineModel" "sightChild" "[I", .fieldLink RX8 22 "MittenLineModel" "sightFelt" "[I", .methodLink RX8 91 yX8_isChild, .static yX8_isChild, .initialized RX8, .code yX8_isChild cX8_isChild 1 (some .boolean), .methodLink RX8 83 yX8_in, .static yX8_in, .code yX8_in cX8_in 6 (some .boolean)] ++ wsX80)
def wsX8_forget : List Cond := .code yX8_forget cX8_forget 2 (some .int) :: ([.fieldLink RX8 274 "MittenLineModel" "sights" "I"] ++ wsX80)
def wsX8_feltBy : List Cond := .code yX8_feltBy cX8_feltBy 3 (some .int) :: ([.methodLink RX8 87 yX8_off, .static yX8_off, .initialized RX8, .code yX8_off cX8_off 2 (some .int)])
def wsX8_isFit : List Cond := .code yX8_isFit cX8_isFit 4 (some .boolean) :: ([.constantLong RX8 240 (3), .fieldLink RX8 274 "MittenLineModel" "sights" "I", .fieldLink RX8 19 "MittenLineModel" "sightChild" "[I", .fieldLink RX8 22 "MittenLineModel" "sightFelt" "[I", .methodLink RX8 83 yX8_in, .static yX8_in, .initialized RX8, .code yX8_in cX8_in 6 (some .boolean), .methodLink RX8 277 yX8_feltBy, .static yX8_feltBy, .code yX8_feltBy cX8_feltBy 3 (some .int), .methodLink RX8 87 yX8_off, .static yX8_off, .code yX8_off cX8_off 2 (some .int)] ++ wsX80)
def wsX8_fits : List Cond := .code yX8_fits cX8_fits 4 (some .int) :: ([.methodLink RX8 280 yX8_isFit, .instanceMethod yX8_isFit, .selects RX8 yX8_isFit yX8_isFit, .initialized RX8, .code yX8_isFit cX8_isFit 4 (some .boolean), .constantLong RX8 240 (3), .fieldLink RX8 274 "MittenLineModel" "sights" "I", .fieldLink RX8 19 "MittenLineModel" "sightChild" "[I", .fieldLink RX8 22 "MittenLineModel" "sightFelt" "[I", .methodLink RX8 83 yX8_in, .static yX8_in, .code yX8_in cX8_in 6 (some .boolean), .methodLink RX8 277 yX8_feltBy, .static yX8_feltBy, .code yX8_feltBy cX8_feltBy 3 (some .int), .methodLink RX8 87 yX8_off, .static yX8_off, .code yX8_off cX8_off 2 (some .int)] ++ wsX80)
def wsX8_mostLeft : List Cond := .code yX8_mostLeft cX8_mostLeft 5 (some .int) :: ([.fieldLink RX8 64 "MittenLineModel" "byFelt" "[I", .methodLink RX8 280 yX8_isFit, .instanceMethod yX8_isFit, .selects RX8 yX8_isFit yX8_isFit, .initialized RX8, .code yX8_isFit cX8_isFit 4 (some .boolean), .constantLong RX8 240 (3), .fieldLink RX8 274 "MittenLineModel" "sights" "I", .fieldLink RX8 19 "MittenLineModel" "sightChild" "[I", .fieldLink RX8 22 "MittenLineModel" "sightFelt" "[I", .methodLink RX8 83 yX8_in, .static yX8_in, .code yX8_in cX8_in 6 (some .boolean), .methodLink RX8 277 yX8_feltBy, .static yX8_feltBy, .code yX8_feltBy cX8_feltBy 3 (some .int), .methodLink RX8 87 yX8_off, .static yX8_off, .code yX8_off cX8_off 2 (some .int)] ++ wsX80)
def wsX8_ask_r1 : List Cond := [Cond.methodLink RX8 83 yX8_in, Cond.static yX8_in, Cond.initialized RX8, Cond.code yX8_in cX8_in 6 (some .boolean), Cond.methodLink RX8 283 yX8_mostLeft, Cond.instanceMethod yX8_mostLeft, Cond.selects RX8 yX8_mostLeft yX8_mostLeft, Cond.code yX8_mostLeft cX8_mostLeft 5 (some .int), Cond.fieldLink RX8 64 "MittenLineModel" "byFelt" "[I", Cond.methodLink RX8 280 yX8_isFit, Cond.instanceMethod yX8_isFit, Cond.selects RX8 yX8_isFit yX8_isFit, Cond.code yX8_isFit cX8_isFit 4 (some .boolean), Cond.constantLong RX8 240 (3), Cond.fieldLink RX8 274 "MittenLineModel" "sights" "I", Cond.fieldLink RX8 19 "MittenLineModel" "sightChild" "[I", Cond.fieldLink RX8 22 "MittenLineModel" "sightFelt" "[I", Cond.methodLink RX8 277 yX8_feltBy, Cond.static yX8_feltBy, Cond.code yX8_feltBy cX8_feltBy 3 (some .int), Cond.methodLink RX8 87 yX8_off, Cond.static yX8_off, Cond.code yX8_off cX8_off 2 (some .int), Cond.methodLink RX8 180 yX8_less]
def wsX8_ask_r2 : List Cond := [Cond.static yX8_less, Cond.code yX8_less cX8_less 2 (some .int)]
def wsX8_ask : List Cond := .code yX8_ask cX8_ask 6 (some .int) :: ((wsX8_ask_r1 ++ wsX8_ask_r2) ++ wsX80)
def wsX8_leastPull : List Cond := .code yX8_leastPull cX8_leastPull 7 (some .int) :: ([.fieldLink RX8 67 "MittenLineModel" "wins" "[Z", .methodLink RX8 180 yX8_less, .static yX8_less, .initialized RX8, .code yX8_less cX8_less 2 (some .int)] ++ wsX80)
def wsX8_pull : List Cond := .code yX8_pull cX8_pull 6 (some .int) :: ([.constantLong RX8 106 (99), .constantLong RX8 81 (9), .fieldLink RX8 67 "MittenLineModel" "wins" "[Z", .methodLink RX8 83 yX8_in, .static yX8_in, .initialized RX8, .code yX8_in cX8_in 6 (some .boolean), .methodLink RX8 286 yX8_leastPull, .instanceMethod yX8_leastPull, .selects RX8 yX8_leastPull yX8_leastPull, .code yX8_leastPull cX8_leastPull 7 (some .int), .methodLink RX8 180 yX8_less, .static yX8_less, .code yX8_less cX8_less 2 (some .int)] ++ wsX80)
def wsX8_lowest : List Cond := .code yX8_lowest cX8_lowest 11 (some .long) :: ([])
def wsX8_passed : List Cond := .code yX8_passed cX8_passed 12 (some .long) :: ([.constantLong RX8 289 (16), .constantLong RX8 291 (10), .constantLong RX8 293 (-1000000000000000002), .methodLink RX8 83 yX8_in, .static yX8_in, .initialized RX8, .code yX8_in cX8_in 6 (some .boolean), .methodLink RX8 295 yX8_lowest, .static yX8_lowest, .code yX8_lowest cX8_lowest 11 (some .long)])
def wsX8_actBy : List Cond := .code yX8_actBy cX8_actBy 1 (some .int) :: ([])
def wsX8_year_r1 : List Cond := [Cond.constantLong RX8 299 (9999), Cond.constantLong RX8 106 (99), Cond.constantLong RX8 232 (2), Cond.fieldLink RX8 174 "MittenLineModel" "drawnMany" "I", Cond.constantLong RX8 301 (75), Cond.constantLong RX8 120 (74), Cond.constantLong RX8 303 (65537), Cond.fieldLink RX8 7 "MittenLineModel" "yard" "[I", Cond.fieldLink RX8 77 "MittenLineModel" "wool" "I", Cond.methodLink RX8 83 yX8_in, Cond.static yX8_in, Cond.initialized RX8, Cond.code yX8_in cX8_in 6 (some .boolean), Cond.methodLink RX8 222 yX8_keepNow, Cond.instanceMethod yX8_keepNow, Cond.selects RX8 yX8_keepNow yX8_keepNow, Cond.code yX8_keepNow cX8_keepNow 2 none, Cond.fieldLink RX8 40 "MittenLineModel" "had" "[I", Cond.fieldLink RX8 13 "MittenLineModel" "feels" "[I", Cond.fieldLink RX8 16 "MittenLineModel" "length" "[I", Cond.fieldLink RX8 101 "MittenLineModel" "holding" "I", Cond.fieldLink RX8 168 "MittenLineModel" "days" "I", Cond.methodLink RX8 305 yX8_actBy, Cond.static yX8_actBy]
def wsX8_year_r2 : List Cond := [Cond.code yX8_actBy cX8_actBy 1 (some .int), Cond.methodLink RX8 214 yX8_whyNot, Cond.instanceMethod yX8_whyNot, Cond.selects RX8 yX8_whyNot yX8_whyNot, Cond.code yX8_whyNot cX8_whyNot 4 (some .int), Cond.methodLink RX8 159 yX8_whyNotGo, Cond.instanceMethod yX8_whyNotGo, Cond.selects RX8 yX8_whyNotGo yX8_whyNotGo, Cond.code yX8_whyNotGo cX8_whyNotGo 3 (some .int), Cond.constantLong RX8 95 (999), Cond.fieldLink RX8 142 "MittenLineModel" "drawnBits" "I", Cond.methodLink RX8 149 yX8_findThen, Cond.instanceMethod yX8_findThen, Cond.selects RX8 yX8_findThen yX8_findThen, Cond.code yX8_findThen cX8_findThen 5 none, Cond.fieldLink RX8 37 "MittenLineModel" "then" "[I", Cond.methodLink RX8 145 yX8_draws, Cond.instanceMethod yX8_draws, Cond.selects RX8 yX8_draws yX8_draws, Cond.code yX8_draws cX8_draws 4 (some .boolean), Cond.methodLink RX8 87 yX8_off, Cond.static yX8_off, Cond.code yX8_off cX8_off 2 (some .int), Cond.methodLink RX8 153 yX8_has]
def wsX8_year_r3 : List Cond := [Cond.static yX8_has, Cond.code yX8_has cX8_has 2 (some .boolean), Cond.methodLink RX8 162 yX8_whyNotLet, Cond.instanceMethod yX8_whyNotLet, Cond.selects RX8 yX8_whyNotLet yX8_whyNotLet, Cond.code yX8_whyNotLet cX8_whyNotLet 2 (some .int), Cond.methodLink RX8 165 yX8_whyNotTake, Cond.instanceMethod yX8_whyNotTake, Cond.selects RX8 yX8_whyNotTake yX8_whyNotTake, Cond.code yX8_whyNotTake cX8_whyNotTake 2 (some .int), Cond.methodLink RX8 156 yX8_isTaut, Cond.instanceMethod yX8_isTaut, Cond.selects RX8 yX8_isTaut yX8_isTaut, Cond.code yX8_isTaut cX8_isTaut 2 (some .boolean), Cond.methodLink RX8 195 yX8_happen, Cond.instanceMethod yX8_happen, Cond.selects RX8 yX8_happen yX8_happen, Cond.code yX8_happen cX8_happen 4 none, Cond.methodLink RX8 186 yX8_go, Cond.instanceMethod yX8_go, Cond.selects RX8 yX8_go yX8_go, Cond.code yX8_go cX8_go 4 none, Cond.fieldLink RX8 171 "MittenLineModel" "drawnNow" "I", Cond.methodLink RX8 177 yX8_ones]
def wsX8_year_r4 : List Cond := [Cond.static yX8_ones, Cond.code yX8_ones cX8_ones 3 (some .int), Cond.methodLink RX8 189 yX8_squeeze, Cond.instanceMethod yX8_squeeze, Cond.selects RX8 yX8_squeeze yX8_squeeze, Cond.code yX8_squeeze cX8_squeeze 5 none, Cond.methodLink RX8 183 yX8_feel, Cond.instanceMethod yX8_feel, Cond.selects RX8 yX8_feel yX8_feel, Cond.code yX8_feel cX8_feel 3 none, Cond.methodLink RX8 180 yX8_less, Cond.static yX8_less, Cond.code yX8_less cX8_less 2 (some .int), Cond.methodLink RX8 192 yX8_passDay, Cond.instanceMethod yX8_passDay, Cond.selects RX8 yX8_passDay yX8_passDay, Cond.code yX8_passDay cX8_passDay 2 none, Cond.methodLink RX8 237 yX8_back, Cond.instanceMethod yX8_back, Cond.selects RX8 yX8_back yX8_back, Cond.code yX8_back cX8_back 3 (some .int)]
def wsX8_year : List Cond := .code yX8_year cX8_year 8 (some .int) :: ((wsX8_year_r1 ++ (wsX8_year_r2 ++ (wsX8_year_r3 ++ wsX8_year_r4))) ++ wsX80)
def wsX8_pass : List Cond := .code yX8_pass cX8_pass 3 (some .int) :: ([.fieldLink RX8 308 "MittenLineModel" "isWriting" "Z", .fieldLink RX8 71 "MittenLineModel" "kept" "[I", .fieldLink RX8 312 "MittenLineModel" "keptAt" "I"] ++ wsX80)
def wsX8_passRow : List Cond := .code yX8_passRow cX8_passRow 4 none :: ([.methodLink RX8 315 yX8_pass, .instanceMethod yX8_pass, .selects RX8 yX8_pass yX8_pass, .initialized RX8, .code yX8_pass cX8_pass 3 (some .int), .fieldLink RX8 308 "MittenLineModel" "isWriting" "Z", .fieldLink RX8 71 "MittenLineModel" "kept" "[I", .fieldLink RX8 312 "MittenLineModel" "keptAt" "I"] ++ wsX80)
def wsX8_passAll : List Cond := .code yX8_passAll cX8_passAll 1 none :: ([.fieldLink RX8 101 "MittenLineModel" "holding" "I", .fieldLink RX8 77 "MittenLineModel" "wool" "I", .fieldLink RX8 168 "MittenLineModel" "days" "I", .fieldLink RX8 274 "MittenLineModel" "sights" "I", .fieldLink RX8 7 "MittenLineModel" "yard" "[I", .fieldLink RX8 13 "MittenLineModel" "feels" "[I", .fieldLink RX8 16 "MittenLineModel" "length" "[I", .fieldLink RX8 19 "MittenLineModel" "sightChild" "[I", .fieldLink RX8 22 "MittenLineModel" "sightFelt" "[I", .methodLink RX8 315 yX8_pass, .instanceMethod yX8_pass, .selects RX8 yX8_pass yX8_pass, .initialized RX8, .code yX8_pass cX8_pass 3 (some .int), .fieldLink RX8 308 "MittenLineModel" "isWriting" "Z", .fieldLink RX8 71 "MittenLineModel" "kept" "[I", .fieldLink RX8 312 "MittenLineModel" "keptAt" "I", .methodLink RX8 318 yX8_passRow, .instanceMethod yX8_passRow, .selects RX8 yX8_passRow yX8_passRow, .code yX8_passRow cX8_passRow 4 none] ++ wsX80)
def wsX8_image_r1 : List Cond := [Cond.fieldLink RX8 312 "MittenLineModel" "keptAt" "I", Cond.fieldLink RX8 308 "MittenLineModel" "isWriting" "Z", Cond.fieldLink RX8 74 "MittenLineModel" "isKept" "[Z", Cond.methodLink RX8 83 yX8_in, Cond.static yX8_in, Cond.initialized RX8, Cond.code yX8_in cX8_in 6 (some .boolean), Cond.methodLink RX8 322 yX8_passAll, Cond.instanceMethod yX8_passAll, Cond.selects RX8 yX8_passAll yX8_passAll, Cond.code yX8_passAll cX8_passAll 1 none, Cond.fieldLink RX8 101 "MittenLineModel" "holding" "I", Cond.fieldLink RX8 77 "MittenLineModel" "wool" "I", Cond.fieldLink RX8 168 "MittenLineModel" "days" "I", Cond.fieldLink RX8 274 "MittenLineModel" "sights" "I", Cond.fieldLink RX8 7 "MittenLineModel" "yard" "[I", Cond.fieldLink RX8 13 "MittenLineModel" "feels" "[I", Cond.fieldLink RX8 16 "MittenLineModel" "length" "[I", Cond.fieldLink RX8 19 "MittenLineModel" "sightChild" "[I", Cond.fieldLink RX8 22 "MittenLineModel" "sightFelt" "[I", Cond.methodLink RX8 315 yX8_pass, Cond.instanceMethod yX8_pass, Cond.selects RX8 yX8_pass yX8_pass, Cond.code yX8_pass cX8_pass 3 (some .int)]
def wsX8_image_r2 : List Cond := [Cond.fieldLink RX8 71 "MittenLineModel" "kept" "[I", Cond.methodLink RX8 318 yX8_passRow, Cond.instanceMethod yX8_passRow, Cond.selects RX8 yX8_passRow yX8_passRow, Cond.code yX8_passRow cX8_passRow 4 none]
def wsX8_image : List Cond := .code yX8_image cX8_image 2 (some .int) :: ((wsX8_image_r1 ++ wsX8_image_r2) ++ wsX80)
def wsX8_restore_r1 : List Cond := [Cond.fieldLink RX8 74 "MittenLineModel" "isKept" "[Z", Cond.fieldLink RX8 312 "MittenLineModel" "keptAt" "I", Cond.fieldLink RX8 308 "MittenLineModel" "isWriting" "Z", Cond.methodLink RX8 83 yX8_in, Cond.static yX8_in, Cond.initialized RX8, Cond.code yX8_in cX8_in 6 (some .boolean), Cond.methodLink RX8 322 yX8_passAll, Cond.instanceMethod yX8_passAll, Cond.selects RX8 yX8_passAll yX8_passAll, Cond.code yX8_passAll cX8_passAll 1 none, Cond.fieldLink RX8 101 "MittenLineModel" "holding" "I", Cond.fieldLink RX8 77 "MittenLineModel" "wool" "I", Cond.fieldLink RX8 168 "MittenLineModel" "days" "I", Cond.fieldLink RX8 274 "MittenLineModel" "sights" "I", Cond.fieldLink RX8 7 "MittenLineModel" "yard" "[I", Cond.fieldLink RX8 13 "MittenLineModel" "feels" "[I", Cond.fieldLink RX8 16 "MittenLineModel" "length" "[I", Cond.fieldLink RX8 19 "MittenLineModel" "sightChild" "[I", Cond.fieldLink RX8 22 "MittenLineModel" "sightFelt" "[I", Cond.methodLink RX8 315 yX8_pass, Cond.instanceMethod yX8_pass, Cond.selects RX8 yX8_pass yX8_pass, Cond.code yX8_pass cX8_pass 3 (some .int)]
def wsX8_restore_r2 : List Cond := [Cond.fieldLink RX8 71 "MittenLineModel" "kept" "[I", Cond.methodLink RX8 318 yX8_passRow, Cond.instanceMethod yX8_passRow, Cond.selects RX8 yX8_passRow yX8_passRow, Cond.code yX8_passRow cX8_passRow 4 none]
def wsX8_restore : List Cond := .code yX8_restore cX8_restore 2 (some .int) :: ((wsX8_restore_r1 ++ wsX8_restore_r2) ++ wsX80)
def wsX8_told : List Cond := .code yX8_told cX8_told 2 (some .int) :: ([.constantLong RX8 291 (10), .constantLong RX8 325 (19), .fieldLink RX8 7 "MittenLineModel" "yard" "[I", .constantLong RX8 327 (20), .constantLong RX8 329 (29), .fieldLink RX8 13 "MittenLineModel" "feels" "[I", .constantLong RX8 331 (30), .constantLong RX8 333 (38), .fieldLink RX8 16 "MittenLineModel" "length" "[I", .fieldLink RX8 112 "MittenLineModel" "padMany" "I", .fieldLink RX8 101 "MittenLineModel" "holding" "I", .fieldLink RX8 77 "MittenLineModel" "wool" "I", .fieldLink RX8 168 "MittenLineModel" "days" "I", .fieldLink RX8 274 "MittenLineModel" "sights" "I", .methodLink RX8 83 yX8_in, .static yX8_in, .initialized RX8, .code yX8_in cX8_in 6 (some .boolean)] ++ wsX80)
def wsJ9_abs_0f7a4 : List Cond := .code yJ9_abs_0f7a4 cJ9_abs_0f7a4 1 (some .int) :: ([])
def wsJ9_max_7cf53 : List Cond := .code yJ9_max_7cf53 cJ9_max_7cf53 2 (some .int) :: ([])
def wsJ9_min_7cf53 : List Cond := .code yJ9_min_7cf53 cJ9_min_7cf53 2 (some .int) :: ([])
abbrev vwCl : List vw_C := [(RX0, TX0, 6), (RX1, TX1, 3), (RX2, TX2, 3), (RX3, TX3, 6), (RX4, TX4, 6), (RX5, TX5, 7), (RX6, TX6, 3), (RX7, TX7, 9), (RX8, TX8, 37)]
end
section
theorem dX0_init_0 : decode cX0_init 0 = .ok (.aload_n 0, 1) := by decide +kernel
theorem dX0_init_1 : decode cX0_init 1 = .ok (.invokespecial 3, 3) := by decide +kernel
theorem dX0_init_4 : decode cX0_init 4 = .ok (.return_, 1) := by decide +kernel
theorem dX0_begin_0 : decode cX0_begin 0 = .ok (.aload_n 0, 1) := by decide +kernel
theorem dX0_begin_1 : decode cX0_begin 1 = .ok (.iconst 0, 1) := by decide +kernel
theorem dX0_begin_2 : decode cX0_begin 2 = .ok (.putfield 9, 3) := by decide +kernel
theorem dX0_begin_5 : decode cX0_begin 5 = .ok (.aload_n 0, 1) := by decide +kernel
theorem dX0_begin_6 : decode cX0_begin 6 = .ok (.bipush (-6), 2) := by decide +kernel
theorem dX0_begin_8 : decode cX0_begin 8 = .ok (.putfield 15, 3) := by decide +kernel
theorem dX0_begin_11 : decode cX0_begin 11 = .ok (.aload_n 0, 1) := by decide +kernel
theorem dX0_begin_12 : decode cX0_begin 12 = .ok (.bipush (-6), 2) := by decide +kernel
theorem dX0_begin_14 : decode cX0_begin 14 = .ok (.putfield 18, 3) := by decide +kernel
theorem dX0_begin_17 : decode cX0_begin 17 = .ok (.aload_n 0, 1) := by decide +kernel
theorem dX0_begin_18 : decode cX0_begin 18 = .ok (.iconst 0, 1) := by decide +kernel
theorem dX0_begin_19 : decode cX0_begin 19 = .ok (.putfield 21, 3) := by decide +kernel
theorem dX0_begin_22 : decode cX0_begin 22 = .ok (.aload_n 0, 1) := by decide +kernel
theorem dX0_begin_23 : decode cX0_begin 23 = .ok (.bipush (-6), 2) := by decide +kernel
theorem dX0_begin_25 : decode cX0_begin 25 = .ok (.putfield 24, 3) := by decide +kernel
theorem dX0_begin_28 : decode cX0_begin 28 = .ok (.aload_n 0, 1) := by decide +kernel
theorem dX0_begin_29 : decode cX0_begin 29 = .ok (.bipush (-6), 2) := by decide +kernel
theorem dX0_begin_31 : decode cX0_begin 31 = .ok (.putfield 27, 3) := by decide +kernel
theorem dX0_begin_34 : decode cX0_begin 34 = .ok (.return_, 1) := by decide +kernel
set_option maxRecDepth 20000 in
theorem ggX0_take_X5_whyNot : GoodIn wsX0_take wsX5_whyNot := goodIn_r _ [11, 12, 13, 14, 15, 16, 10, 17, 18, 19, 20, 21, 22, 23, 24, 25, 26, 27, 28, 29, 30, 31, 32, 33, 34, 35, 36, 37, 38, 39, 40, 41, 42, 43, 44, 45, 46, 47, 48, 49, 50, 51, 52, 108, 109, 110, 111, 112, 113, 114] (by decide +kernel) (by decide +kernel)
set_option maxRecDepth 20000 in
theorem gX0_take_X5_whyNot : GoodIn wsX0_take (wsV RX0 30 RX5 yX5_whyNot wsX5_whyNot) := goodIn_app (goodIn_of _ (by decide +kernel)) ggX0_take_X5_whyNot
set_option maxRecDepth 20000 in
theorem ggX0_take_X5_act : GoodIn wsX0_take wsX5_act := goodIn_r _ [56, 12, 57, 58, 59, 10, 60, 26, 22, 23, 24, 25, 27, 28, 29, 30, 31, 61, 62, 63, 64, 18, 65, 66, 67, 68, 69, 70, 71, 72, 41, 42, 43, 44, 45, 46, 47, 48, 49, 50, 51, 52, 73, 74, 75, 76, 77, 78, 79, 80, 81, 82, 83, 84, 36, 85, 86, 87, 88, 89, 90, 91, 92, 13, 108, 109, 110, 111, 112, 113, 114] (by decide +kernel) (by decide +kernel)
set_option maxRecDepth 20000 in
theorem gX0_take_X5_act : GoodIn wsX0_take (wsV RX0 36 RX5 yX5_act wsX5_act) := goodIn_app (goodIn_of _ (by decide +kernel)) ggX0_take_X5_act
set_option maxRecDepth 20000 in
theorem ggX0_take_X7_leastBit : GoodIn wsX0_take wsX7_leastBit := goodIn_r _ [94] (by decide +kernel) (by decide +kernel)
set_option maxRecDepth 20000 in
theorem gX0_take_X7_leastBit_n39 : GoodIn wsX0_take (wsX7_leastBit) := ggX0_take_X7_leastBit
set_option maxRecDepth 20000 in
theorem ggX0_take_J6_bitCount_0f7a4 : GoodIn wsX0_take wsJ6_bitCount_0f7a4 := goodIn_r _ [98, 99, 100, 101] (by decide +kernel) (by decide +kernel)
set_option maxRecDepth 20000 in
theorem gX0_take_J6_bitCount_0f7a4 : GoodIn wsX0_take (va_wsS RX0 43 yJ6_bitCount_0f7a4 wsJ6_bitCount_0f7a4) := goodIn_app (goodIn_of _ (by decide +kernel)) ggX0_take_J6_bitCount_0f7a4
theorem dX0_take_0 : decode cX0_take 0 = .ok (.aload_n 1, 1) := by decide +kernel
theorem dX0_take_1 : decode cX0_take 1 = .ok (.iload_n 2, 1) := by decide +kernel
theorem dX0_take_2 : decode cX0_take 2 = .ok (.iload_n 3, 1) := by decide +kernel
theorem dX0_take_3 : decode cX0_take 3 = .ok (.iload 4, 2) := by decide +kernel
theorem dX0_take_5 : decode cX0_take 5 = .ok (.invokevirtual 30, 3) := by decide +kernel
theorem dX0_take_8 : decode cX0_take 8 = .ok (.istore 5, 2) := by decide +kernel
theorem dX0_take_10 : decode cX0_take 10 = .ok (.iload 5, 2) := by decide +kernel
theorem dX0_take_12 : decode cX0_take 12 = .ok (.ifCond .eq 18, 3) := by decide +kernel
theorem dX0_take_15 : decode cX0_take 15 = .ok (.aload_n 0, 1) := by decide +kernel
theorem dX0_take_16 : decode cX0_take 16 = .ok (.aload_n 0, 1) := by decide +kernel
theorem dX0_take_17 : decode cX0_take 17 = .ok (.getfield 9, 3) := by decide +kernel
theorem dX0_take_20 : decode cX0_take 20 = .ok (.putfield 15, 3) := by decide +kernel
theorem dX0_take_23 : decode cX0_take 23 = .ok (.aload_n 0, 1) := by decide +kernel
theorem dX0_take_24 : decode cX0_take 24 = .ok (.iload 5, 2) := by decide +kernel
theorem dX0_take_26 : decode cX0_take 26 = .ok (.putfield 18, 3) := by decide +kernel
theorem dX0_take_29 : decode cX0_take 29 = .ok (.return_, 1) := by decide +kernel
theorem dX0_take_30 : decode cX0_take 30 = .ok (.aload_n 1, 1) := by decide +kernel
theorem dX0_take_31 : decode cX0_take 31 = .ok (.iload_n 2, 1) := by decide +kernel
theorem dX0_take_32 : decode cX0_take 32 = .ok (.iload_n 3, 1) := by decide +kernel
theorem dX0_take_33 : decode cX0_take 33 = .ok (.iload 4, 2) := by decide +kernel
theorem dX0_take_35 : decode cX0_take 35 = .ok (.invokevirtual 36, 3) := by decide +kernel
theorem dX0_take_38 : decode cX0_take 38 = .ok (.istore 6, 2) := by decide +kernel
theorem dX0_take_40 : decode cX0_take 40 = .ok (.iload 6, 2) := by decide +kernel
theorem dX0_take_42 : decode cX0_take 42 = .ok (.ifCond .eq 29, 3) := by decide +kernel
theorem dX0_take_45 : decode cX0_take 45 = .ok (.aload_n 0, 1) := by decide +kernel
theorem dX0_take_46 : decode cX0_take 46 = .ok (.getfield 24, 3) := by decide +kernel
theorem dX0_take_49 : decode cX0_take 49 = .ok (.bipush (-6), 2) := by decide +kernel
theorem dX0_take_51 : decode cX0_take 51 = .ok (.if_icmp .ne 20, 3) := by decide +kernel
theorem dX0_take_54 : decode cX0_take 54 = .ok (.aload_n 0, 1) := by decide +kernel
theorem dX0_take_55 : decode cX0_take 55 = .ok (.aload_n 0, 1) := by decide +kernel
theorem dX0_take_56 : decode cX0_take 56 = .ok (.getfield 9, 3) := by decide +kernel
theorem dX0_take_59 : decode cX0_take 59 = .ok (.putfield 24, 3) := by decide +kernel
theorem dX0_take_62 : decode cX0_take 62 = .ok (.aload_n 0, 1) := by decide +kernel
theorem dX0_take_63 : decode cX0_take 63 = .ok (.iload 6, 2) := by decide +kernel
theorem dX0_take_65 : decode cX0_take 65 = .ok (.invokestatic 39, 3) := by decide +kernel
theorem dX0_take_68 : decode cX0_take 68 = .ok (.putfield 27, 3) := by decide +kernel
theorem dX0_take_71 : decode cX0_take 71 = .ok (.aload_n 0, 1) := by decide +kernel
theorem dX0_take_72 : decode cX0_take 72 = .ok (.dup, 1) := by decide +kernel
theorem dX0_take_73 : decode cX0_take 73 = .ok (.getfield 21, 3) := by decide +kernel
theorem dX0_take_76 : decode cX0_take 76 = .ok (.iload 6, 2) := by decide +kernel
theorem dX0_take_78 : decode cX0_take 78 = .ok (.invokestatic 43, 3) := by decide +kernel
theorem dX0_take_81 : decode cX0_take 81 = .ok (.iadd, 1) := by decide +kernel
theorem dX0_take_82 : decode cX0_take 82 = .ok (.putfield 21, 3) := by decide +kernel
theorem dX0_take_85 : decode cX0_take 85 = .ok (.aload_n 0, 1) := by decide +kernel
theorem dX0_take_86 : decode cX0_take 86 = .ok (.dup, 1) := by decide +kernel
theorem dX0_take_87 : decode cX0_take 87 = .ok (.getfield 9, 3) := by decide +kernel
theorem dX0_take_90 : decode cX0_take 90 = .ok (.iconst 1, 1) := by decide +kernel
theorem dX0_take_91 : decode cX0_take 91 = .ok (.iadd, 1) := by decide +kernel
theorem dX0_take_92 : decode cX0_take 92 = .ok (.putfield 9, 3) := by decide +kernel
theorem dX0_take_95 : decode cX0_take 95 = .ok (.return_, 1) := by decide +kernel
theorem dX1_init_0 : decode cX1_init 0 = .ok (.aload_n 0, 1) := by decide +kernel
theorem dX1_init_1 : decode cX1_init 1 = .ok (.invokespecial 3, 3) := by decide +kernel
theorem dX1_init_4 : decode cX1_init 4 = .ok (.aload_n 0, 1) := by decide +kernel
theorem dX1_init_5 : decode cX1_init 5 = .ok (.bipush 10, 2) := by decide +kernel
theorem dX1_init_7 : decode cX1_init 7 = .ok (.newarray .int, 2) := by decide +kernel
theorem dX1_init_9 : decode cX1_init 9 = .ok (.putfield 9, 3) := by decide +kernel
theorem dX1_init_12 : decode cX1_init 12 = .ok (.return_, 1) := by decide +kernel
set_option maxRecDepth 20000 in
theorem ggX1_isCode_X7_isWithin : GoodIn wsX1_isCode wsX7_isWithin := goodIn_r _ [3] (by decide +kernel) (by decide +kernel)
set_option maxRecDepth 20000 in
theorem gX1_isCode_X7_isWithin_n15 : GoodIn wsX1_isCode (wsX7_isWithin) := ggX1_isCode_X7_isWithin
theorem dX1_isCode_0 : decode cX1_isCode 0 = .ok (.iload_n 0, 1) := by decide +kernel
theorem dX1_isCode_1 : decode cX1_isCode 1 = .ok (.bipush 10, 2) := by decide +kernel
theorem dX1_isCode_3 : decode cX1_isCode 3 = .ok (.idiv, 1) := by decide +kernel
theorem dX1_isCode_4 : decode cX1_isCode 4 = .ok (.bipush 10, 2) := by decide +kernel
theorem dX1_isCode_6 : decode cX1_isCode 6 = .ok (.irem, 1) := by decide +kernel
theorem dX1_isCode_7 : decode cX1_isCode 7 = .ok (.iconst 1, 1) := by decide +kernel
theorem dX1_isCode_8 : decode cX1_isCode 8 = .ok (.if_icmp .lt 19, 3) := by decide +kernel
theorem dX1_isCode_11 : decode cX1_isCode 11 = .ok (.iload_n 0, 1) := by decide +kernel
theorem dX1_isCode_12 : decode cX1_isCode 12 = .ok (.bipush 10, 2) := by decide +kernel
theorem dX1_isCode_14 : decode cX1_isCode 14 = .ok (.irem, 1) := by decide +kernel
theorem dX1_isCode_15 : decode cX1_isCode 15 = .ok (.iconst 1, 1) := by decide +kernel
theorem dX1_isCode_16 : decode cX1_isCode 16 = .ok (.iconst 3, 1) := by decide +kernel
theorem dX1_isCode_17 : decode cX1_isCode 17 = .ok (.invokestatic 15, 3) := by decide +kernel
theorem dX1_isCode_20 : decode cX1_isCode 20 = .ok (.ifCond .eq 7, 3) := by decide +kernel
theorem dX1_isCode_23 : decode cX1_isCode 23 = .ok (.iconst 1, 1) := by decide +kernel
theorem dX1_isCode_24 : decode cX1_isCode 24 = .ok (.goto 4, 3) := by decide +kernel
theorem dX1_isCode_27 : decode cX1_isCode 27 = .ok (.iconst 0, 1) := by decide +kernel
theorem dX1_isCode_28 : decode cX1_isCode 28 = .ok (.ireturn, 1) := by decide +kernel
theorem dX1_feltBy_0 : decode cX1_feltBy 0 = .ok (.iload_n 1, 1) := by decide +kernel
theorem dX1_feltBy_1 : decode cX1_feltBy 1 = .ok (.iload_n 0, 1) := by decide +kernel
theorem dX1_feltBy_2 : decode cX1_feltBy 2 = .ok (.bipush 100, 2) := by decide +kernel
theorem dX1_feltBy_4 : decode cX1_feltBy 4 = .ok (.idiv, 1) := by decide +kernel
theorem dX1_feltBy_5 : decode cX1_feltBy 5 = .ok (.isub, 1) := by decide +kernel
theorem dX1_feltBy_6 : decode cX1_feltBy 6 = .ok (.invokestatic 19, 3) := by decide +kernel
theorem dX1_feltBy_9 : decode cX1_feltBy 9 = .ok (.istore_n 2, 1) := by decide +kernel
theorem dX1_feltBy_10 : decode cX1_feltBy 10 = .ok (.iconst 0, 1) := by decide +kernel
theorem dX1_feltBy_11 : decode cX1_feltBy 11 = .ok (.iload_n 0, 1) := by decide +kernel
theorem dX1_feltBy_12 : decode cX1_feltBy 12 = .ok (.bipush 10, 2) := by decide +kernel
theorem dX1_feltBy_14 : decode cX1_feltBy 14 = .ok (.idiv, 1) := by decide +kernel
theorem dX1_feltBy_15 : decode cX1_feltBy 15 = .ok (.bipush 10, 2) := by decide +kernel
theorem dX1_feltBy_17 : decode cX1_feltBy 17 = .ok (.irem, 1) := by decide +kernel
theorem dX1_feltBy_18 : decode cX1_feltBy 18 = .ok (.iload_n 0, 1) := by decide +kernel
theorem dX1_feltBy_19 : decode cX1_feltBy 19 = .ok (.bipush 10, 2) := by decide +kernel
theorem dX1_feltBy_21 : decode cX1_feltBy 21 = .ok (.irem, 1) := by decide +kernel
theorem dX1_feltBy_22 : decode cX1_feltBy 22 = .ok (.iload_n 2, 1) := by decide +kernel
theorem dX1_feltBy_23 : decode cX1_feltBy 23 = .ok (.imul, 1) := by decide +kernel
theorem dX1_feltBy_24 : decode cX1_feltBy 24 = .ok (.isub, 1) := by decide +kernel
theorem dX1_feltBy_25 : decode cX1_feltBy 25 = .ok (.invokestatic 25, 3) := by decide +kernel
theorem dX1_feltBy_28 : decode cX1_feltBy 28 = .ok (.ireturn, 1) := by decide +kernel
set_option maxRecDepth 20000 in
theorem ggX1_isFitting_X1_isCode : GoodIn wsX1_isFitting wsX1_isCode := goodIn_r _ [7, 8, 9, 10] (by decide +kernel) (by decide +kernel)
set_option maxRecDepth 20000 in
theorem gX1_isFitting_X1_isCode : GoodIn wsX1_isFitting (va_wsS RX1 29 yX1_isCode wsX1_isCode) := goodIn_app (goodIn_of _ (by decide +kernel)) ggX1_isFitting_X1_isCode
set_option maxRecDepth 20000 in
theorem ggX1_isFitting_X1_feltBy : GoodIn wsX1_isFitting wsX1_feltBy := goodIn_r _ [13, 14, 15, 16, 17, 18, 19, 20] (by decide +kernel) (by decide +kernel)
set_option maxRecDepth 20000 in
theorem gX1_isFitting_X1_feltBy : GoodIn wsX1_isFitting (va_wsS RX1 42 yX1_feltBy wsX1_feltBy) := goodIn_app (goodIn_of _ (by decide +kernel)) ggX1_isFitting_X1_feltBy
theorem dX1_isFitting_0 : decode cX1_isFitting 0 = .ok (.iload_n 1, 1) := by decide +kernel
theorem dX1_isFitting_1 : decode cX1_isFitting 1 = .ok (.invokestatic 29, 3) := by decide +kernel
theorem dX1_isFitting_4 : decode cX1_isFitting 4 = .ok (.ifCond .ne 5, 3) := by decide +kernel
theorem dX1_isFitting_7 : decode cX1_isFitting 7 = .ok (.iconst 0, 1) := by decide +kernel
theorem dX1_isFitting_8 : decode cX1_isFitting 8 = .ok (.ireturn, 1) := by decide +kernel
theorem dX1_isFitting_9 : decode cX1_isFitting 9 = .ok (.iconst 0, 1) := by decide +kernel
theorem dX1_isFitting_10 : decode cX1_isFitting 10 = .ok (.istore_n 2, 1) := by decide +kernel
theorem dX1_isFitting_11 : decode cX1_isFitting 11 = .ok (.iload_n 2, 1) := by decide +kernel
theorem dX1_isFitting_12 : decode cX1_isFitting 12 = .ok (.aload_n 0, 1) := by decide +kernel
theorem dX1_isFitting_13 : decode cX1_isFitting 13 = .ok (.getfield 33, 3) := by decide +kernel
theorem dX1_isFitting_16 : decode cX1_isFitting 16 = .ok (.if_icmp .ge 30, 3) := by decide +kernel
theorem dX1_isFitting_19 : decode cX1_isFitting 19 = .ok (.iload_n 1, 1) := by decide +kernel
theorem dX1_isFitting_20 : decode cX1_isFitting 20 = .ok (.aload_n 0, 1) := by decide +kernel
theorem dX1_isFitting_21 : decode cX1_isFitting 21 = .ok (.getfield 39, 3) := by decide +kernel
theorem dX1_isFitting_24 : decode cX1_isFitting 24 = .ok (.iload_n 2, 1) := by decide +kernel
theorem dX1_isFitting_25 : decode cX1_isFitting 25 = .ok (.iaload, 1) := by decide +kernel
theorem dX1_isFitting_26 : decode cX1_isFitting 26 = .ok (.invokestatic 42, 3) := by decide +kernel
theorem dX1_isFitting_29 : decode cX1_isFitting 29 = .ok (.aload_n 0, 1) := by decide +kernel
theorem dX1_isFitting_30 : decode cX1_isFitting 30 = .ok (.getfield 45, 3) := by decide +kernel
theorem dX1_isFitting_33 : decode cX1_isFitting 33 = .ok (.iload_n 2, 1) := by decide +kernel
theorem dX1_isFitting_34 : decode cX1_isFitting 34 = .ok (.iaload, 1) := by decide +kernel
theorem dX1_isFitting_35 : decode cX1_isFitting 35 = .ok (.if_icmp .eq 5, 3) := by decide +kernel
theorem dX1_isFitting_38 : decode cX1_isFitting 38 = .ok (.iconst 0, 1) := by decide +kernel
theorem dX1_isFitting_39 : decode cX1_isFitting 39 = .ok (.ireturn, 1) := by decide +kernel
theorem dX1_isFitting_40 : decode cX1_isFitting 40 = .ok (.iinc 2 1, 3) := by decide +kernel
theorem dX1_isFitting_43 : decode cX1_isFitting 43 = .ok (.goto (-32), 3) := by decide +kernel
theorem dX1_isFitting_46 : decode cX1_isFitting 46 = .ok (.iconst 1, 1) := by decide +kernel
theorem dX1_isFitting_47 : decode cX1_isFitting 47 = .ok (.ireturn, 1) := by decide +kernel
set_option maxRecDepth 20000 in
theorem ggX1_countFitting_X1_isFitting : GoodIn wsX1_countFitting wsX1_isFitting := goodIn_r _ [4, 5, 6, 7, 8, 9, 3, 10, 11, 12, 13, 14, 15, 16, 17, 18, 19, 20, 21, 22, 23, 24, 25, 26] (by decide +kernel) (by decide +kernel)
set_option maxRecDepth 20000 in
theorem gX1_countFitting_X1_isFitting : GoodIn wsX1_countFitting (va_wsS RX1 48 yX1_isFitting wsX1_isFitting) := goodIn_app (goodIn_of _ (by decide +kernel)) ggX1_countFitting_X1_isFitting
theorem dX1_countFitting_0 : decode cX1_countFitting 0 = .ok (.iconst 0, 1) := by decide +kernel
theorem dX1_countFitting_1 : decode cX1_countFitting 1 = .ok (.istore_n 2, 1) := by decide +kernel
theorem dX1_countFitting_2 : decode cX1_countFitting 2 = .ok (.bipush 11, 2) := by decide +kernel
theorem dX1_countFitting_4 : decode cX1_countFitting 4 = .ok (.istore_n 3, 1) := by decide +kernel
theorem dX1_countFitting_5 : decode cX1_countFitting 5 = .ok (.iload_n 3, 1) := by decide +kernel
theorem dX1_countFitting_6 : decode cX1_countFitting 6 = .ok (.sipush 993, 3) := by decide +kernel
theorem dX1_countFitting_9 : decode cX1_countFitting 9 = .ok (.if_icmp .gt 20, 3) := by decide +kernel
theorem dX1_countFitting_12 : decode cX1_countFitting 12 = .ok (.aload_n 1, 1) := by decide +kernel
theorem dX1_countFitting_13 : decode cX1_countFitting 13 = .ok (.iload_n 3, 1) := by decide +kernel
theorem dX1_countFitting_14 : decode cX1_countFitting 14 = .ok (.invokestatic 48, 3) := by decide +kernel
theorem dX1_countFitting_17 : decode cX1_countFitting 17 = .ok (.ifCond .eq 6, 3) := by decide +kernel
theorem dX1_countFitting_20 : decode cX1_countFitting 20 = .ok (.iinc 2 1, 3) := by decide +kernel
theorem dX1_countFitting_23 : decode cX1_countFitting 23 = .ok (.iinc 3 1, 3) := by decide +kernel
theorem dX1_countFitting_26 : decode cX1_countFitting 26 = .ok (.goto (-21), 3) := by decide +kernel
theorem dX1_countFitting_29 : decode cX1_countFitting 29 = .ok (.iload_n 2, 1) := by decide +kernel
theorem dX1_countFitting_30 : decode cX1_countFitting 30 = .ok (.ireturn, 1) := by decide +kernel
set_option maxRecDepth 20000 in
theorem ggX1_fitting_X1_isFitting : GoodIn wsX1_fitting wsX1_isFitting := goodIn_r _ [4, 5, 6, 7, 8, 9, 3, 10, 11, 12, 13, 14, 15, 16, 17, 18, 19, 20, 21, 22, 23, 24, 25, 26] (by decide +kernel) (by decide +kernel)
set_option maxRecDepth 20000 in
theorem gX1_fitting_X1_isFitting : GoodIn wsX1_fitting (va_wsS RX1 48 yX1_isFitting wsX1_isFitting) := goodIn_app (goodIn_of _ (by decide +kernel)) ggX1_fitting_X1_isFitting
theorem dX1_fitting_0 : decode cX1_fitting 0 = .ok (.iconst 0, 1) := by decide +kernel
theorem dX1_fitting_1 : decode cX1_fitting 1 = .ok (.istore_n 3, 1) := by decide +kernel
theorem dX1_fitting_2 : decode cX1_fitting 2 = .ok (.bipush 11, 2) := by decide +kernel
theorem dX1_fitting_4 : decode cX1_fitting 4 = .ok (.istore 4, 2) := by decide +kernel
theorem dX1_fitting_6 : decode cX1_fitting 6 = .ok (.iload 4, 2) := by decide +kernel
theorem dX1_fitting_8 : decode cX1_fitting 8 = .ok (.sipush 993, 3) := by decide +kernel
theorem dX1_fitting_11 : decode cX1_fitting 11 = .ok (.if_icmp .gt 32, 3) := by decide +kernel
theorem dX1_fitting_14 : decode cX1_fitting 14 = .ok (.aload_n 1, 1) := by decide +kernel
theorem dX1_fitting_15 : decode cX1_fitting 15 = .ok (.iload 4, 2) := by decide +kernel
theorem dX1_fitting_17 : decode cX1_fitting 17 = .ok (.invokestatic 48, 3) := by decide +kernel
theorem dX1_fitting_20 : decode cX1_fitting 20 = .ok (.ifCond .ne 6, 3) := by decide +kernel
theorem dX1_fitting_23 : decode cX1_fitting 23 = .ok (.goto 14, 3) := by decide +kernel
theorem dX1_fitting_26 : decode cX1_fitting 26 = .ok (.iload_n 3, 1) := by decide +kernel
theorem dX1_fitting_27 : decode cX1_fitting 27 = .ok (.iload_n 2, 1) := by decide +kernel
theorem dX1_fitting_28 : decode cX1_fitting 28 = .ok (.if_icmp .ne 6, 3) := by decide +kernel
theorem dX1_fitting_31 : decode cX1_fitting 31 = .ok (.iload 4, 2) := by decide +kernel
theorem dX1_fitting_33 : decode cX1_fitting 33 = .ok (.ireturn, 1) := by decide +kernel
theorem dX1_fitting_34 : decode cX1_fitting 34 = .ok (.iinc 3 1, 3) := by decide +kernel
theorem dX1_fitting_37 : decode cX1_fitting 37 = .ok (.iinc 4 1, 3) := by decide +kernel
theorem dX1_fitting_40 : decode cX1_fitting 40 = .ok (.goto (-34), 3) := by decide +kernel
theorem dX1_fitting_43 : decode cX1_fitting 43 = .ok (.bipush (-6), 2) := by decide +kernel
theorem dX1_fitting_45 : decode cX1_fitting 45 = .ok (.ireturn, 1) := by decide +kernel
set_option maxRecDepth 20000 in
theorem ggX1_chooseChild_X1_mostAlike : GoodIn wsX1_chooseChild wsX1_mostAlike := goodIn_r _ [7, 8, 9, 10, 11, 12, 13, 14, 6, 15, 16, 17, 18, 19, 20, 21, 22, 23, 24, 25, 26, 27, 28, 29, 30, 31, 32, 33, 34, 35, 36] (by decide +kernel) (by decide +kernel)
set_option maxRecDepth 20000 in
theorem gX1_chooseChild_X1_mostAlike : GoodIn wsX1_chooseChild (wsV RX1 58 RX1 yX1_mostAlike wsX1_mostAlike) := goodIn_app (goodIn_of _ (by decide +kernel)) ggX1_chooseChild_X1_mostAlike
theorem dX1_chooseChild_0 : decode cX1_chooseChild 0 = .ok (.aload_n 0, 1) := by decide +kernel
theorem dX1_chooseChild_1 : decode cX1_chooseChild 1 = .ok (.bipush (-6), 2) := by decide +kernel
theorem dX1_chooseChild_3 : decode cX1_chooseChild 3 = .ok (.putfield 52, 3) := by decide +kernel
theorem dX1_chooseChild_6 : decode cX1_chooseChild 6 = .ok (.aload_n 0, 1) := by decide +kernel
theorem dX1_chooseChild_7 : decode cX1_chooseChild 7 = .ok (.bipush (-6), 2) := by decide +kernel
theorem dX1_chooseChild_9 : decode cX1_chooseChild 9 = .ok (.putfield 55, 3) := by decide +kernel
theorem dX1_chooseChild_12 : decode cX1_chooseChild 12 = .ok (.iconst 0, 1) := by decide +kernel
theorem dX1_chooseChild_13 : decode cX1_chooseChild 13 = .ok (.istore_n 2, 1) := by decide +kernel
theorem dX1_chooseChild_14 : decode cX1_chooseChild 14 = .ok (.iload_n 2, 1) := by decide +kernel
theorem dX1_chooseChild_15 : decode cX1_chooseChild 15 = .ok (.bipush 10, 2) := by decide +kernel
theorem dX1_chooseChild_17 : decode cX1_chooseChild 17 = .ok (.if_icmp .ge 43, 3) := by decide +kernel
theorem dX1_chooseChild_20 : decode cX1_chooseChild 20 = .ok (.aload_n 0, 1) := by decide +kernel
theorem dX1_chooseChild_21 : decode cX1_chooseChild 21 = .ok (.aload_n 1, 1) := by decide +kernel
theorem dX1_chooseChild_22 : decode cX1_chooseChild 22 = .ok (.iload_n 2, 1) := by decide +kernel
theorem dX1_chooseChild_23 : decode cX1_chooseChild 23 = .ok (.invokevirtual 58, 3) := by decide +kernel
theorem dX1_chooseChild_26 : decode cX1_chooseChild 26 = .ok (.istore_n 3, 1) := by decide +kernel
theorem dX1_chooseChild_27 : decode cX1_chooseChild 27 = .ok (.aload_n 0, 1) := by decide +kernel
theorem dX1_chooseChild_28 : decode cX1_chooseChild 28 = .ok (.getfield 52, 3) := by decide +kernel
theorem dX1_chooseChild_31 : decode cX1_chooseChild 31 = .ok (.bipush (-6), 2) := by decide +kernel
theorem dX1_chooseChild_33 : decode cX1_chooseChild 33 = .ok (.if_icmp .eq 11, 3) := by decide +kernel
theorem dX1_chooseChild_36 : decode cX1_chooseChild 36 = .ok (.iload_n 3, 1) := by decide +kernel
theorem dX1_chooseChild_37 : decode cX1_chooseChild 37 = .ok (.aload_n 0, 1) := by decide +kernel
theorem dX1_chooseChild_38 : decode cX1_chooseChild 38 = .ok (.getfield 55, 3) := by decide +kernel
theorem dX1_chooseChild_41 : decode cX1_chooseChild 41 = .ok (.if_icmp .ge 13, 3) := by decide +kernel
theorem dX1_chooseChild_44 : decode cX1_chooseChild 44 = .ok (.aload_n 0, 1) := by decide +kernel
theorem dX1_chooseChild_45 : decode cX1_chooseChild 45 = .ok (.iload_n 2, 1) := by decide +kernel
theorem dX1_chooseChild_46 : decode cX1_chooseChild 46 = .ok (.putfield 52, 3) := by decide +kernel
theorem dX1_chooseChild_49 : decode cX1_chooseChild 49 = .ok (.aload_n 0, 1) := by decide +kernel
theorem dX1_chooseChild_50 : decode cX1_chooseChild 50 = .ok (.iload_n 3, 1) := by decide +kernel
theorem dX1_chooseChild_51 : decode cX1_chooseChild 51 = .ok (.putfield 55, 3) := by decide +kernel
theorem dX1_chooseChild_54 : decode cX1_chooseChild 54 = .ok (.iinc 2 1, 3) := by decide +kernel
theorem dX1_chooseChild_57 : decode cX1_chooseChild 57 = .ok (.goto (-43), 3) := by decide +kernel
theorem dX1_chooseChild_60 : decode cX1_chooseChild 60 = .ok (.return_, 1) := by decide +kernel
set_option maxRecDepth 20000 in
theorem ggX1_mostAlike_X1_isFitting : GoodIn wsX1_mostAlike wsX1_isFitting := goodIn_r _ [9, 10, 11, 12, 13, 14, 8, 15, 16, 17, 18, 19, 20, 21, 22, 23, 4, 24, 2, 3, 5, 28, 29, 30] (by decide +kernel) (by decide +kernel)
set_option maxRecDepth 20000 in
theorem gX1_mostAlike_X1_isFitting : GoodIn wsX1_mostAlike (va_wsS RX1 48 yX1_isFitting wsX1_isFitting) := goodIn_app (goodIn_of _ (by decide +kernel)) ggX1_mostAlike_X1_isFitting
set_option maxRecDepth 20000 in
theorem ggX1_mostAlike_X1_feltBy : GoodIn wsX1_mostAlike wsX1_feltBy := goodIn_r _ [21, 22, 23, 4, 24, 2, 3, 5] (by decide +kernel) (by decide +kernel)
set_option maxRecDepth 20000 in
theorem gX1_mostAlike_X1_feltBy : GoodIn wsX1_mostAlike (va_wsS RX1 42 yX1_feltBy wsX1_feltBy) := goodIn_app (goodIn_of _ (by decide +kernel)) ggX1_mostAlike_X1_feltBy
set_option maxRecDepth 20000 in
theorem ggX1_mostAlike_X7_isWithin : GoodIn wsX1_mostAlike wsX7_isWithin := goodIn_r _ [18] (by decide +kernel) (by decide +kernel)
set_option maxRecDepth 20000 in
theorem gX1_mostAlike_X7_isWithin_n15 : GoodIn wsX1_mostAlike (wsX7_isWithin) := ggX1_mostAlike_X7_isWithin
theorem dX1_mostAlike_0 : decode cX1_mostAlike 0 = .ok (.iconst 0, 1) := by decide +kernel
theorem dX1_mostAlike_1 : decode cX1_mostAlike 1 = .ok (.istore_n 3, 1) := by decide +kernel
theorem dX1_mostAlike_2 : decode cX1_mostAlike 2 = .ok (.iload_n 3, 1) := by decide +kernel
theorem dX1_mostAlike_3 : decode cX1_mostAlike 3 = .ok (.bipush 9, 2) := by decide +kernel
theorem dX1_mostAlike_5 : decode cX1_mostAlike 5 = .ok (.if_icmp .gt 16, 3) := by decide +kernel
theorem dX1_mostAlike_8 : decode cX1_mostAlike 8 = .ok (.aload_n 0, 1) := by decide +kernel
theorem dX1_mostAlike_9 : decode cX1_mostAlike 9 = .ok (.getfield 9, 3) := by decide +kernel
theorem dX1_mostAlike_12 : decode cX1_mostAlike 12 = .ok (.iload_n 3, 1) := by decide +kernel
theorem dX1_mostAlike_13 : decode cX1_mostAlike 13 = .ok (.iconst 0, 1) := by decide +kernel
theorem dX1_mostAlike_14 : decode cX1_mostAlike 14 = .ok (.iastore, 1) := by decide +kernel
theorem dX1_mostAlike_15 : decode cX1_mostAlike 15 = .ok (.iinc 3 1, 3) := by decide +kernel
theorem dX1_mostAlike_18 : decode cX1_mostAlike 18 = .ok (.goto (-16), 3) := by decide +kernel
theorem dX1_mostAlike_21 : decode cX1_mostAlike 21 = .ok (.iconst 0, 1) := by decide +kernel
theorem dX1_mostAlike_22 : decode cX1_mostAlike 22 = .ok (.istore_n 3, 1) := by decide +kernel
theorem dX1_mostAlike_23 : decode cX1_mostAlike 23 = .ok (.bipush 11, 2) := by decide +kernel
theorem dX1_mostAlike_25 : decode cX1_mostAlike 25 = .ok (.istore 4, 2) := by decide +kernel
theorem dX1_mostAlike_27 : decode cX1_mostAlike 27 = .ok (.iload 4, 2) := by decide +kernel
theorem dX1_mostAlike_29 : decode cX1_mostAlike 29 = .ok (.sipush 993, 3) := by decide +kernel
theorem dX1_mostAlike_32 : decode cX1_mostAlike 32 = .ok (.if_icmp .gt 66, 3) := by decide +kernel
theorem dX1_mostAlike_35 : decode cX1_mostAlike 35 = .ok (.aload_n 1, 1) := by decide +kernel
theorem dX1_mostAlike_36 : decode cX1_mostAlike 36 = .ok (.iload 4, 2) := by decide +kernel
theorem dX1_mostAlike_38 : decode cX1_mostAlike 38 = .ok (.invokestatic 48, 3) := by decide +kernel
theorem dX1_mostAlike_41 : decode cX1_mostAlike 41 = .ok (.ifCond .ne 6, 3) := by decide +kernel
theorem dX1_mostAlike_44 : decode cX1_mostAlike 44 = .ok (.goto 48, 3) := by decide +kernel
theorem dX1_mostAlike_47 : decode cX1_mostAlike 47 = .ok (.iload 4, 2) := by decide +kernel
theorem dX1_mostAlike_49 : decode cX1_mostAlike 49 = .ok (.iload_n 2, 1) := by decide +kernel
theorem dX1_mostAlike_50 : decode cX1_mostAlike 50 = .ok (.invokestatic 42, 3) := by decide +kernel
theorem dX1_mostAlike_53 : decode cX1_mostAlike 53 = .ok (.istore 5, 2) := by decide +kernel
theorem dX1_mostAlike_55 : decode cX1_mostAlike 55 = .ok (.iload 5, 2) := by decide +kernel
theorem dX1_mostAlike_57 : decode cX1_mostAlike 57 = .ok (.iconst 0, 1) := by decide +kernel
theorem dX1_mostAlike_58 : decode cX1_mostAlike 58 = .ok (.bipush 9, 2) := by decide +kernel
theorem dX1_mostAlike_60 : decode cX1_mostAlike 60 = .ok (.invokestatic 15, 3) := by decide +kernel
theorem dX1_mostAlike_63 : decode cX1_mostAlike 63 = .ok (.ifCond .ne 6, 3) := by decide +kernel
theorem dX1_mostAlike_66 : decode cX1_mostAlike 66 = .ok (.goto 26, 3) := by decide +kernel
theorem dX1_mostAlike_69 : decode cX1_mostAlike 69 = .ok (.aload_n 0, 1) := by decide +kernel
theorem dX1_mostAlike_70 : decode cX1_mostAlike 70 = .ok (.getfield 9, 3) := by decide +kernel
theorem dX1_mostAlike_73 : decode cX1_mostAlike 73 = .ok (.iload 5, 2) := by decide +kernel
theorem dX1_mostAlike_75 : decode cX1_mostAlike 75 = .ok (.dup2, 1) := by decide +kernel
theorem dX1_mostAlike_76 : decode cX1_mostAlike 76 = .ok (.iaload, 1) := by decide +kernel
theorem dX1_mostAlike_77 : decode cX1_mostAlike 77 = .ok (.iconst 1, 1) := by decide +kernel
theorem dX1_mostAlike_78 : decode cX1_mostAlike 78 = .ok (.iadd, 1) := by decide +kernel
theorem dX1_mostAlike_79 : decode cX1_mostAlike 79 = .ok (.iastore, 1) := by decide +kernel
theorem dX1_mostAlike_80 : decode cX1_mostAlike 80 = .ok (.iload_n 3, 1) := by decide +kernel
theorem dX1_mostAlike_81 : decode cX1_mostAlike 81 = .ok (.aload_n 0, 1) := by decide +kernel
theorem dX1_mostAlike_82 : decode cX1_mostAlike 82 = .ok (.getfield 9, 3) := by decide +kernel
theorem dX1_mostAlike_85 : decode cX1_mostAlike 85 = .ok (.iload 5, 2) := by decide +kernel
theorem dX1_mostAlike_87 : decode cX1_mostAlike 87 = .ok (.iaload, 1) := by decide +kernel
theorem dX1_mostAlike_88 : decode cX1_mostAlike 88 = .ok (.invokestatic 25, 3) := by decide +kernel
theorem dX1_mostAlike_91 : decode cX1_mostAlike 91 = .ok (.istore_n 3, 1) := by decide +kernel
theorem dX1_mostAlike_92 : decode cX1_mostAlike 92 = .ok (.iinc 4 1, 3) := by decide +kernel
theorem dX1_mostAlike_95 : decode cX1_mostAlike 95 = .ok (.goto (-68), 3) := by decide +kernel
theorem dX1_mostAlike_98 : decode cX1_mostAlike 98 = .ok (.iload_n 3, 1) := by decide +kernel
theorem dX1_mostAlike_99 : decode cX1_mostAlike 99 = .ok (.ireturn, 1) := by decide +kernel
set_option maxRecDepth 20000 in
theorem ggX2_init_X5_init : GoodIn wsX2_init wsX5_init := goodIn_r _ [14, 15, 2, 3, 16, 17, 18, 19, 20, 21, 28, 29, 30, 31, 32, 33, 34] (by decide +kernel) (by decide +kernel)
set_option maxRecDepth 20000 in
theorem gX2_init_X5_init : GoodIn wsX2_init (wsX5_init) := ggX2_init_X5_init
set_option maxRecDepth 20000 in
theorem ggX2_init_X6_init : GoodIn wsX2_init wsX6_init := goodIn_r _ [24, 25, 2, 3, 16, 26, 27, 38, 39, 40] (by decide +kernel) (by decide +kernel)
set_option maxRecDepth 20000 in
theorem gX2_init_X6_init : GoodIn wsX2_init (wsX6_init) := ggX2_init_X6_init
theorem dX2_init_0 : decode cX2_init 0 = .ok (.aload_n 0, 1) := by decide +kernel
theorem dX2_init_1 : decode cX2_init 1 = .ok (.invokespecial 1, 3) := by decide +kernel
theorem dX2_init_4 : decode cX2_init 4 = .ok (.aload_n 0, 1) := by decide +kernel
theorem dX2_init_5 : decode cX2_init 5 = .ok (.new 7, 3) := by decide +kernel
theorem dX2_init_8 : decode cX2_init 8 = .ok (.dup, 1) := by decide +kernel
theorem dX2_init_9 : decode cX2_init 9 = .ok (.invokespecial 9, 3) := by decide +kernel
theorem dX2_init_12 : decode cX2_init 12 = .ok (.putfield 10, 3) := by decide +kernel
theorem dX2_init_15 : decode cX2_init 15 = .ok (.aload_n 0, 1) := by decide +kernel
theorem dX2_init_16 : decode cX2_init 16 = .ok (.new 16, 3) := by decide +kernel
theorem dX2_init_19 : decode cX2_init 19 = .ok (.dup, 1) := by decide +kernel
theorem dX2_init_20 : decode cX2_init 20 = .ok (.invokespecial 18, 3) := by decide +kernel
theorem dX2_init_23 : decode cX2_init 23 = .ok (.putfield 19, 3) := by decide +kernel
theorem dX2_init_26 : decode cX2_init 26 = .ok (.return_, 1) := by decide +kernel
set_option maxRecDepth 20000 in
theorem ggX2_keep_X5_copyFrom : GoodIn wsX2_keep wsX5_copyFrom := goodIn_r _ [8, 9, 10, 11, 12, 13, 14, 26, 27, 28, 29, 30, 31, 32] (by decide +kernel) (by decide +kernel)
set_option maxRecDepth 20000 in
theorem gX2_keep_X5_copyFrom : GoodIn wsX2_keep (wsV RX2 23 RX5 yX5_copyFrom wsX5_copyFrom) := goodIn_app (goodIn_of _ (by decide +kernel)) ggX2_keep_X5_copyFrom
set_option maxRecDepth 20000 in
theorem ggX2_keep_X6_copyFrom : GoodIn wsX2_keep wsX6_copyFrom := goodIn_r _ [19, 20, 21, 22, 33, 34, 35] (by decide +kernel) (by decide +kernel)
set_option maxRecDepth 20000 in
theorem gX2_keep_X6_copyFrom : GoodIn wsX2_keep (wsV RX2 27 RX6 yX6_copyFrom wsX6_copyFrom) := goodIn_app (goodIn_of _ (by decide +kernel)) ggX2_keep_X6_copyFrom
theorem dX2_keep_0 : decode cX2_keep 0 = .ok (.aload_n 0, 1) := by decide +kernel
theorem dX2_keep_1 : decode cX2_keep 1 = .ok (.getfield 10, 3) := by decide +kernel
theorem dX2_keep_4 : decode cX2_keep 4 = .ok (.aload_n 1, 1) := by decide +kernel
theorem dX2_keep_5 : decode cX2_keep 5 = .ok (.invokevirtual 23, 3) := by decide +kernel
theorem dX2_keep_8 : decode cX2_keep 8 = .ok (.aload_n 0, 1) := by decide +kernel
theorem dX2_keep_9 : decode cX2_keep 9 = .ok (.getfield 19, 3) := by decide +kernel
theorem dX2_keep_12 : decode cX2_keep 12 = .ok (.aload_n 2, 1) := by decide +kernel
theorem dX2_keep_13 : decode cX2_keep 13 = .ok (.invokevirtual 27, 3) := by decide +kernel
theorem dX2_keep_16 : decode cX2_keep 16 = .ok (.aload_n 0, 1) := by decide +kernel
theorem dX2_keep_17 : decode cX2_keep 17 = .ok (.iconst 1, 1) := by decide +kernel
theorem dX2_keep_18 : decode cX2_keep 18 = .ok (.putfield 30, 3) := by decide +kernel
theorem dX2_keep_21 : decode cX2_keep 21 = .ok (.return_, 1) := by decide +kernel
set_option maxRecDepth 20000 in
theorem ggX2_giveBack_X5_copyFrom : GoodIn wsX2_giveBack wsX5_copyFrom := goodIn_r _ [7, 8, 9, 10, 11, 12, 13, 25, 26, 27, 28, 29, 30, 31] (by decide +kernel) (by decide +kernel)
set_option maxRecDepth 20000 in
theorem gX2_giveBack_X5_copyFrom : GoodIn wsX2_giveBack (wsV RX2 23 RX5 yX5_copyFrom wsX5_copyFrom) := goodIn_app (goodIn_of _ (by decide +kernel)) ggX2_giveBack_X5_copyFrom
set_option maxRecDepth 20000 in
theorem ggX2_giveBack_X6_copyFrom : GoodIn wsX2_giveBack wsX6_copyFrom := goodIn_r _ [18, 19, 20, 21, 32, 33, 34] (by decide +kernel) (by decide +kernel)
set_option maxRecDepth 20000 in
theorem gX2_giveBack_X6_copyFrom : GoodIn wsX2_giveBack (wsV RX2 27 RX6 yX6_copyFrom wsX6_copyFrom) := goodIn_app (goodIn_of _ (by decide +kernel)) ggX2_giveBack_X6_copyFrom
theorem dX2_giveBack_0 : decode cX2_giveBack 0 = .ok (.aload_n 1, 1) := by decide +kernel
theorem dX2_giveBack_1 : decode cX2_giveBack 1 = .ok (.aload_n 0, 1) := by decide +kernel
theorem dX2_giveBack_2 : decode cX2_giveBack 2 = .ok (.getfield 10, 3) := by decide +kernel
theorem dX2_giveBack_5 : decode cX2_giveBack 5 = .ok (.invokevirtual 23, 3) := by decide +kernel
theorem dX2_giveBack_8 : decode cX2_giveBack 8 = .ok (.aload_n 2, 1) := by decide +kernel
theorem dX2_giveBack_9 : decode cX2_giveBack 9 = .ok (.aload_n 0, 1) := by decide +kernel
theorem dX2_giveBack_10 : decode cX2_giveBack 10 = .ok (.getfield 19, 3) := by decide +kernel
theorem dX2_giveBack_13 : decode cX2_giveBack 13 = .ok (.invokevirtual 27, 3) := by decide +kernel
theorem dX2_giveBack_16 : decode cX2_giveBack 16 = .ok (.return_, 1) := by decide +kernel
theorem dX3_init_0 : decode cX3_init 0 = .ok (.aload_n 0, 1) := by decide +kernel
theorem dX3_init_1 : decode cX3_init 1 = .ok (.invokespecial 3, 3) := by decide +kernel
theorem dX3_init_4 : decode cX3_init 4 = .ok (.aload_n 0, 1) := by decide +kernel
theorem dX3_init_5 : decode cX3_init 5 = .ok (.bipush 60, 2) := by decide +kernel
theorem dX3_init_7 : decode cX3_init 7 = .ok (.newarray .int, 2) := by decide +kernel
theorem dX3_init_9 : decode cX3_init 9 = .ok (.putfield 9, 3) := by decide +kernel
theorem dX3_init_12 : decode cX3_init 12 = .ok (.return_, 1) := by decide +kernel
theorem dX3_add_0 : decode cX3_add 0 = .ok (.aload_n 0, 1) := by decide +kernel
theorem dX3_add_1 : decode cX3_add 1 = .ok (.getfield 15, 3) := by decide +kernel
theorem dX3_add_4 : decode cX3_add 4 = .ok (.bipush 60, 2) := by decide +kernel
theorem dX3_add_6 : decode cX3_add 6 = .ok (.if_icmp .lt 5, 3) := by decide +kernel
theorem dX3_add_9 : decode cX3_add 9 = .ok (.iconst 0, 1) := by decide +kernel
theorem dX3_add_10 : decode cX3_add 10 = .ok (.ireturn, 1) := by decide +kernel
theorem dX3_add_11 : decode cX3_add 11 = .ok (.aload_n 0, 1) := by decide +kernel
theorem dX3_add_12 : decode cX3_add 12 = .ok (.getfield 9, 3) := by decide +kernel
theorem dX3_add_15 : decode cX3_add 15 = .ok (.aload_n 0, 1) := by decide +kernel
theorem dX3_add_16 : decode cX3_add 16 = .ok (.getfield 15, 3) := by decide +kernel
theorem dX3_add_19 : decode cX3_add 19 = .ok (.iload_n 1, 1) := by decide +kernel
theorem dX3_add_20 : decode cX3_add 20 = .ok (.iastore, 1) := by decide +kernel
theorem dX3_add_21 : decode cX3_add 21 = .ok (.aload_n 0, 1) := by decide +kernel
theorem dX3_add_22 : decode cX3_add 22 = .ok (.dup, 1) := by decide +kernel
theorem dX3_add_23 : decode cX3_add 23 = .ok (.getfield 15, 3) := by decide +kernel
theorem dX3_add_26 : decode cX3_add 26 = .ok (.iconst 1, 1) := by decide +kernel
theorem dX3_add_27 : decode cX3_add 27 = .ok (.iadd, 1) := by decide +kernel
theorem dX3_add_28 : decode cX3_add 28 = .ok (.putfield 15, 3) := by decide +kernel
theorem dX3_add_31 : decode cX3_add 31 = .ok (.iconst 1, 1) := by decide +kernel
theorem dX3_add_32 : decode cX3_add 32 = .ok (.ireturn, 1) := by decide +kernel
theorem dX3_clear_0 : decode cX3_clear 0 = .ok (.aload_n 0, 1) := by decide +kernel
theorem dX3_clear_1 : decode cX3_clear 1 = .ok (.iconst 0, 1) := by decide +kernel
theorem dX3_clear_2 : decode cX3_clear 2 = .ok (.putfield 15, 3) := by decide +kernel
theorem dX3_clear_5 : decode cX3_clear 5 = .ok (.return_, 1) := by decide +kernel
set_option maxRecDepth 20000 in
theorem ggX3_faultPlace_X3_awaitedAfter : GoodIn wsX3_faultPlace wsX3_awaitedAfter := goodIn_r _ [6, 7, 8, 9] (by decide +kernel) (by decide +kernel)
set_option maxRecDepth 20000 in
theorem gX3_faultPlace_X3_awaitedAfter : GoodIn wsX3_faultPlace (va_wsS RX3 19 yX3_awaitedAfter wsX3_awaitedAfter) := goodIn_app (goodIn_of _ (by decide +kernel)) ggX3_faultPlace_X3_awaitedAfter
theorem dX3_faultPlace_0 : decode cX3_faultPlace 0 = .ok (.iconst 0, 1) := by decide +kernel
theorem dX3_faultPlace_1 : decode cX3_faultPlace 1 = .ok (.istore_n 1, 1) := by decide +kernel
theorem dX3_faultPlace_2 : decode cX3_faultPlace 2 = .ok (.iconst 0, 1) := by decide +kernel
theorem dX3_faultPlace_3 : decode cX3_faultPlace 3 = .ok (.istore_n 2, 1) := by decide +kernel
theorem dX3_faultPlace_4 : decode cX3_faultPlace 4 = .ok (.iload_n 2, 1) := by decide +kernel
theorem dX3_faultPlace_5 : decode cX3_faultPlace 5 = .ok (.aload_n 0, 1) := by decide +kernel
theorem dX3_faultPlace_6 : decode cX3_faultPlace 6 = .ok (.getfield 15, 3) := by decide +kernel
theorem dX3_faultPlace_9 : decode cX3_faultPlace 9 = .ok (.if_icmp .ge 27, 3) := by decide +kernel
theorem dX3_faultPlace_12 : decode cX3_faultPlace 12 = .ok (.iload_n 1, 1) := by decide +kernel
theorem dX3_faultPlace_13 : decode cX3_faultPlace 13 = .ok (.aload_n 0, 1) := by decide +kernel
theorem dX3_faultPlace_14 : decode cX3_faultPlace 14 = .ok (.getfield 9, 3) := by decide +kernel
theorem dX3_faultPlace_17 : decode cX3_faultPlace 17 = .ok (.iload_n 2, 1) := by decide +kernel
theorem dX3_faultPlace_18 : decode cX3_faultPlace 18 = .ok (.iaload, 1) := by decide +kernel
theorem dX3_faultPlace_19 : decode cX3_faultPlace 19 = .ok (.invokestatic 19, 3) := by decide +kernel
theorem dX3_faultPlace_22 : decode cX3_faultPlace 22 = .ok (.istore_n 1, 1) := by decide +kernel
theorem dX3_faultPlace_23 : decode cX3_faultPlace 23 = .ok (.iload_n 1, 1) := by decide +kernel
theorem dX3_faultPlace_24 : decode cX3_faultPlace 24 = .ok (.iconst 3, 1) := by decide +kernel
theorem dX3_faultPlace_25 : decode cX3_faultPlace 25 = .ok (.if_icmp .ne 5, 3) := by decide +kernel
theorem dX3_faultPlace_28 : decode cX3_faultPlace 28 = .ok (.iload_n 2, 1) := by decide +kernel
theorem dX3_faultPlace_29 : decode cX3_faultPlace 29 = .ok (.ireturn, 1) := by decide +kernel
theorem dX3_faultPlace_30 : decode cX3_faultPlace 30 = .ok (.iinc 2 1, 3) := by decide +kernel
theorem dX3_faultPlace_33 : decode cX3_faultPlace 33 = .ok (.goto (-29), 3) := by decide +kernel
theorem dX3_faultPlace_36 : decode cX3_faultPlace 36 = .ok (.iload_n 1, 1) := by decide +kernel
theorem dX3_faultPlace_37 : decode cX3_faultPlace 37 = .ok (.ifCond .ne 8, 3) := by decide +kernel
theorem dX3_faultPlace_40 : decode cX3_faultPlace 40 = .ok (.bipush (-6), 2) := by decide +kernel
theorem dX3_faultPlace_42 : decode cX3_faultPlace 42 = .ok (.goto 7, 3) := by decide +kernel
theorem dX3_faultPlace_45 : decode cX3_faultPlace 45 = .ok (.aload_n 0, 1) := by decide +kernel
theorem dX3_faultPlace_46 : decode cX3_faultPlace 46 = .ok (.getfield 15, 3) := by decide +kernel
theorem dX3_faultPlace_49 : decode cX3_faultPlace 49 = .ok (.ireturn, 1) := by decide +kernel
set_option maxRecDepth 20000 in
theorem ggX3_awaitedAfter_X7_isWithin : GoodIn wsX3_awaitedAfter wsX7_isWithin := goodIn_r _ [3] (by decide +kernel) (by decide +kernel)
set_option maxRecDepth 20000 in
theorem gX3_awaitedAfter_X7_isWithin_n23 : GoodIn wsX3_awaitedAfter (wsX7_isWithin) := ggX3_awaitedAfter_X7_isWithin
theorem dX3_awaitedAfter_0 : decode cX3_awaitedAfter 0 = .ok (.iload_n 0, 1) := by decide +kernel
theorem dX3_awaitedAfter_1 : decode cX3_awaitedAfter 1 = .ok (.ifCond .ne 28, 3) := by decide +kernel
theorem dX3_awaitedAfter_4 : decode cX3_awaitedAfter 4 = .ok (.iload_n 1, 1) := by decide +kernel
theorem dX3_awaitedAfter_5 : decode cX3_awaitedAfter 5 = .ok (.bipush 46, 2) := by decide +kernel
theorem dX3_awaitedAfter_7 : decode cX3_awaitedAfter 7 = .ok (.if_icmp .ne 5, 3) := by decide +kernel
theorem dX3_awaitedAfter_10 : decode cX3_awaitedAfter 10 = .ok (.iconst 0, 1) := by decide +kernel
theorem dX3_awaitedAfter_11 : decode cX3_awaitedAfter 11 = .ok (.ireturn, 1) := by decide +kernel
theorem dX3_awaitedAfter_12 : decode cX3_awaitedAfter 12 = .ok (.iload_n 1, 1) := by decide +kernel
theorem dX3_awaitedAfter_13 : decode cX3_awaitedAfter 13 = .ok (.bipush 65, 2) := by decide +kernel
theorem dX3_awaitedAfter_15 : decode cX3_awaitedAfter 15 = .ok (.bipush 74, 2) := by decide +kernel
theorem dX3_awaitedAfter_17 : decode cX3_awaitedAfter 17 = .ok (.invokestatic 23, 3) := by decide +kernel
theorem dX3_awaitedAfter_20 : decode cX3_awaitedAfter 20 = .ok (.ifCond .eq 7, 3) := by decide +kernel
theorem dX3_awaitedAfter_23 : decode cX3_awaitedAfter 23 = .ok (.iconst 1, 1) := by decide +kernel
theorem dX3_awaitedAfter_24 : decode cX3_awaitedAfter 24 = .ok (.goto 4, 3) := by decide +kernel
theorem dX3_awaitedAfter_27 : decode cX3_awaitedAfter 27 = .ok (.iconst 3, 1) := by decide +kernel
theorem dX3_awaitedAfter_28 : decode cX3_awaitedAfter 28 = .ok (.ireturn, 1) := by decide +kernel
theorem dX3_awaitedAfter_29 : decode cX3_awaitedAfter 29 = .ok (.iload_n 0, 1) := by decide +kernel
theorem dX3_awaitedAfter_30 : decode cX3_awaitedAfter 30 = .ok (.iconst 2, 1) := by decide +kernel
theorem dX3_awaitedAfter_31 : decode cX3_awaitedAfter 31 = .ok (.if_icmp .ne 20, 3) := by decide +kernel
theorem dX3_awaitedAfter_34 : decode cX3_awaitedAfter 34 = .ok (.iload_n 1, 1) := by decide +kernel
theorem dX3_awaitedAfter_35 : decode cX3_awaitedAfter 35 = .ok (.bipush 49, 2) := by decide +kernel
theorem dX3_awaitedAfter_37 : decode cX3_awaitedAfter 37 = .ok (.bipush 57, 2) := by decide +kernel
theorem dX3_awaitedAfter_39 : decode cX3_awaitedAfter 39 = .ok (.invokestatic 23, 3) := by decide +kernel
theorem dX3_awaitedAfter_42 : decode cX3_awaitedAfter 42 = .ok (.ifCond .eq 7, 3) := by decide +kernel
theorem dX3_awaitedAfter_45 : decode cX3_awaitedAfter 45 = .ok (.iconst 0, 1) := by decide +kernel
theorem dX3_awaitedAfter_46 : decode cX3_awaitedAfter 46 = .ok (.goto 4, 3) := by decide +kernel
theorem dX3_awaitedAfter_49 : decode cX3_awaitedAfter 49 = .ok (.iconst 3, 1) := by decide +kernel
theorem dX3_awaitedAfter_50 : decode cX3_awaitedAfter 50 = .ok (.ireturn, 1) := by decide +kernel
theorem dX3_awaitedAfter_51 : decode cX3_awaitedAfter 51 = .ok (.iload_n 1, 1) := by decide +kernel
theorem dX3_awaitedAfter_52 : decode cX3_awaitedAfter 52 = .ok (.bipush 62, 2) := by decide +kernel
theorem dX3_awaitedAfter_54 : decode cX3_awaitedAfter 54 = .ok (.if_icmp .eq 15, 3) := by decide +kernel
theorem dX3_awaitedAfter_57 : decode cX3_awaitedAfter 57 = .ok (.iload_n 1, 1) := by decide +kernel
theorem dX3_awaitedAfter_58 : decode cX3_awaitedAfter 58 = .ok (.bipush 60, 2) := by decide +kernel
theorem dX3_awaitedAfter_60 : decode cX3_awaitedAfter 60 = .ok (.if_icmp .eq 9, 3) := by decide +kernel
theorem dX3_awaitedAfter_63 : decode cX3_awaitedAfter 63 = .ok (.iload_n 1, 1) := by decide +kernel
theorem dX3_awaitedAfter_64 : decode cX3_awaitedAfter 64 = .ok (.bipush 33, 2) := by decide +kernel
theorem dX3_awaitedAfter_66 : decode cX3_awaitedAfter 66 = .ok (.if_icmp .ne 5, 3) := by decide +kernel
theorem dX3_awaitedAfter_69 : decode cX3_awaitedAfter 69 = .ok (.iconst 2, 1) := by decide +kernel
theorem dX3_awaitedAfter_70 : decode cX3_awaitedAfter 70 = .ok (.ireturn, 1) := by decide +kernel
theorem dX3_awaitedAfter_71 : decode cX3_awaitedAfter 71 = .ok (.iload_n 1, 1) := by decide +kernel
theorem dX3_awaitedAfter_72 : decode cX3_awaitedAfter 72 = .ok (.bipush 35, 2) := by decide +kernel
theorem dX3_awaitedAfter_74 : decode cX3_awaitedAfter 74 = .ok (.if_icmp .eq 15, 3) := by decide +kernel
theorem dX3_awaitedAfter_77 : decode cX3_awaitedAfter 77 = .ok (.iload_n 1, 1) := by decide +kernel
theorem dX3_awaitedAfter_78 : decode cX3_awaitedAfter 78 = .ok (.bipush 43, 2) := by decide +kernel
theorem dX3_awaitedAfter_80 : decode cX3_awaitedAfter 80 = .ok (.if_icmp .eq 9, 3) := by decide +kernel
theorem dX3_awaitedAfter_83 : decode cX3_awaitedAfter 83 = .ok (.iload_n 1, 1) := by decide +kernel
theorem dX3_awaitedAfter_84 : decode cX3_awaitedAfter 84 = .ok (.bipush 45, 2) := by decide +kernel
theorem dX3_awaitedAfter_86 : decode cX3_awaitedAfter 86 = .ok (.if_icmp .ne 7, 3) := by decide +kernel
theorem dX3_awaitedAfter_89 : decode cX3_awaitedAfter 89 = .ok (.iconst 0, 1) := by decide +kernel
theorem dX3_awaitedAfter_90 : decode cX3_awaitedAfter 90 = .ok (.goto 4, 3) := by decide +kernel
theorem dX3_awaitedAfter_93 : decode cX3_awaitedAfter 93 = .ok (.iconst 3, 1) := by decide +kernel
theorem dX3_awaitedAfter_94 : decode cX3_awaitedAfter 94 = .ok (.ireturn, 1) := by decide +kernel
theorem dX3_beginActs_0 : decode cX3_beginActs 0 = .ok (.aload_n 0, 1) := by decide +kernel
theorem dX3_beginActs_1 : decode cX3_beginActs 1 = .ok (.iconst 0, 1) := by decide +kernel
theorem dX3_beginActs_2 : decode cX3_beginActs 2 = .ok (.putfield 27, 3) := by decide +kernel
theorem dX3_beginActs_5 : decode cX3_beginActs 5 = .ok (.aload_n 0, 1) := by decide +kernel
theorem dX3_beginActs_6 : decode cX3_beginActs 6 = .ok (.iconst 0, 1) := by decide +kernel
theorem dX3_beginActs_7 : decode cX3_beginActs 7 = .ok (.putfield 30, 3) := by decide +kernel
theorem dX3_beginActs_10 : decode cX3_beginActs 10 = .ok (.aload_n 0, 1) := by decide +kernel
theorem dX3_beginActs_11 : decode cX3_beginActs 11 = .ok (.bipush 46, 2) := by decide +kernel
theorem dX3_beginActs_13 : decode cX3_beginActs 13 = .ok (.putfield 33, 3) := by decide +kernel
theorem dX3_beginActs_16 : decode cX3_beginActs 16 = .ok (.aload_n 0, 1) := by decide +kernel
theorem dX3_beginActs_17 : decode cX3_beginActs 17 = .ok (.iconst 0, 1) := by decide +kernel
theorem dX3_beginActs_18 : decode cX3_beginActs 18 = .ok (.putfield 36, 3) := by decide +kernel
theorem dX3_beginActs_21 : decode cX3_beginActs 21 = .ok (.return_, 1) := by decide +kernel
set_option maxRecDepth 20000 in
theorem ggX3_endsAct_X7_isWithin : GoodIn wsX3_endsAct wsX7_isWithin := goodIn_r _ [9] (by decide +kernel) (by decide +kernel)
set_option maxRecDepth 20000 in
theorem gX3_endsAct_X7_isWithin_n23 : GoodIn wsX3_endsAct (wsX7_isWithin) := ggX3_endsAct_X7_isWithin
set_option maxRecDepth 20000 in
theorem ggX3_endsAct_X3_awaitedAfter : GoodIn wsX3_endsAct wsX3_awaitedAfter := goodIn_r _ [13, 7, 8, 9] (by decide +kernel) (by decide +kernel)
set_option maxRecDepth 20000 in
theorem gX3_endsAct_X3_awaitedAfter : GoodIn wsX3_endsAct (va_wsS RX3 19 yX3_awaitedAfter wsX3_awaitedAfter) := goodIn_app (goodIn_of _ (by decide +kernel)) ggX3_endsAct_X3_awaitedAfter
theorem dX3_endsAct_0 : decode cX3_endsAct 0 = .ok (.iload_n 1, 1) := by decide +kernel
theorem dX3_endsAct_1 : decode cX3_endsAct 1 = .ok (.iconst 0, 1) := by decide +kernel
theorem dX3_endsAct_2 : decode cX3_endsAct 2 = .ok (.aload_n 0, 1) := by decide +kernel
theorem dX3_endsAct_3 : decode cX3_endsAct 3 = .ok (.getfield 15, 3) := by decide +kernel
theorem dX3_endsAct_6 : decode cX3_endsAct 6 = .ok (.iconst 1, 1) := by decide +kernel
theorem dX3_endsAct_7 : decode cX3_endsAct 7 = .ok (.isub, 1) := by decide +kernel
theorem dX3_endsAct_8 : decode cX3_endsAct 8 = .ok (.invokestatic 23, 3) := by decide +kernel
theorem dX3_endsAct_11 : decode cX3_endsAct 11 = .ok (.ifCond .ne 5, 3) := by decide +kernel
theorem dX3_endsAct_14 : decode cX3_endsAct 14 = .ok (.iconst 0, 1) := by decide +kernel
theorem dX3_endsAct_15 : decode cX3_endsAct 15 = .ok (.ireturn, 1) := by decide +kernel
theorem dX3_endsAct_16 : decode cX3_endsAct 16 = .ok (.aload_n 0, 1) := by decide +kernel
theorem dX3_endsAct_17 : decode cX3_endsAct 17 = .ok (.getfield 9, 3) := by decide +kernel
theorem dX3_endsAct_20 : decode cX3_endsAct 20 = .ok (.iload_n 1, 1) := by decide +kernel
theorem dX3_endsAct_21 : decode cX3_endsAct 21 = .ok (.iaload, 1) := by decide +kernel
theorem dX3_endsAct_22 : decode cX3_endsAct 22 = .ok (.istore_n 2, 1) := by decide +kernel
theorem dX3_endsAct_23 : decode cX3_endsAct 23 = .ok (.aload_n 0, 1) := by decide +kernel
theorem dX3_endsAct_24 : decode cX3_endsAct 24 = .ok (.getfield 27, 3) := by decide +kernel
theorem dX3_endsAct_27 : decode cX3_endsAct 27 = .ok (.ifCond .ne 15, 3) := by decide +kernel
theorem dX3_endsAct_30 : decode cX3_endsAct 30 = .ok (.iload_n 2, 1) := by decide +kernel
theorem dX3_endsAct_31 : decode cX3_endsAct 31 = .ok (.bipush 46, 2) := by decide +kernel
theorem dX3_endsAct_33 : decode cX3_endsAct 33 = .ok (.if_icmp .ne 9, 3) := by decide +kernel
theorem dX3_endsAct_36 : decode cX3_endsAct 36 = .ok (.aload_n 0, 1) := by decide +kernel
theorem dX3_endsAct_37 : decode cX3_endsAct 37 = .ok (.bipush 46, 2) := by decide +kernel
theorem dX3_endsAct_39 : decode cX3_endsAct 39 = .ok (.putfield 33, 3) := by decide +kernel
theorem dX3_endsAct_42 : decode cX3_endsAct 42 = .ok (.aload_n 0, 1) := by decide +kernel
theorem dX3_endsAct_43 : decode cX3_endsAct 43 = .ok (.getfield 27, 3) := by decide +kernel
theorem dX3_endsAct_46 : decode cX3_endsAct 46 = .ok (.ifCond .ne 17, 3) := by decide +kernel
theorem dX3_endsAct_49 : decode cX3_endsAct 49 = .ok (.iload_n 2, 1) := by decide +kernel
theorem dX3_endsAct_50 : decode cX3_endsAct 50 = .ok (.bipush 46, 2) := by decide +kernel
theorem dX3_endsAct_52 : decode cX3_endsAct 52 = .ok (.if_icmp .eq 11, 3) := by decide +kernel
theorem dX3_endsAct_55 : decode cX3_endsAct 55 = .ok (.aload_n 0, 1) := by decide +kernel
theorem dX3_endsAct_56 : decode cX3_endsAct 56 = .ok (.iload_n 2, 1) := by decide +kernel
theorem dX3_endsAct_57 : decode cX3_endsAct 57 = .ok (.bipush 65, 2) := by decide +kernel
theorem dX3_endsAct_59 : decode cX3_endsAct 59 = .ok (.isub, 1) := by decide +kernel
theorem dX3_endsAct_60 : decode cX3_endsAct 60 = .ok (.putfield 30, 3) := by decide +kernel
theorem dX3_endsAct_63 : decode cX3_endsAct 63 = .ok (.aload_n 0, 1) := by decide +kernel
theorem dX3_endsAct_64 : decode cX3_endsAct 64 = .ok (.getfield 27, 3) := by decide +kernel
theorem dX3_endsAct_67 : decode cX3_endsAct 67 = .ok (.iconst 1, 1) := by decide +kernel
theorem dX3_endsAct_68 : decode cX3_endsAct 68 = .ok (.if_icmp .ne 8, 3) := by decide +kernel
theorem dX3_endsAct_71 : decode cX3_endsAct 71 = .ok (.aload_n 0, 1) := by decide +kernel
theorem dX3_endsAct_72 : decode cX3_endsAct 72 = .ok (.iload_n 2, 1) := by decide +kernel
theorem dX3_endsAct_73 : decode cX3_endsAct 73 = .ok (.putfield 33, 3) := by decide +kernel
theorem dX3_endsAct_76 : decode cX3_endsAct 76 = .ok (.aload_n 0, 1) := by decide +kernel
theorem dX3_endsAct_77 : decode cX3_endsAct 77 = .ok (.getfield 27, 3) := by decide +kernel
theorem dX3_endsAct_80 : decode cX3_endsAct 80 = .ok (.iconst 2, 1) := by decide +kernel
theorem dX3_endsAct_81 : decode cX3_endsAct 81 = .ok (.if_icmp .ne 11, 3) := by decide +kernel
theorem dX3_endsAct_84 : decode cX3_endsAct 84 = .ok (.aload_n 0, 1) := by decide +kernel
theorem dX3_endsAct_85 : decode cX3_endsAct 85 = .ok (.iload_n 2, 1) := by decide +kernel
theorem dX3_endsAct_86 : decode cX3_endsAct 86 = .ok (.bipush 48, 2) := by decide +kernel
theorem dX3_endsAct_88 : decode cX3_endsAct 88 = .ok (.isub, 1) := by decide +kernel
theorem dX3_endsAct_89 : decode cX3_endsAct 89 = .ok (.putfield 36, 3) := by decide +kernel
theorem dX3_endsAct_92 : decode cX3_endsAct 92 = .ok (.aload_n 0, 1) := by decide +kernel
theorem dX3_endsAct_93 : decode cX3_endsAct 93 = .ok (.aload_n 0, 1) := by decide +kernel
theorem dX3_endsAct_94 : decode cX3_endsAct 94 = .ok (.getfield 27, 3) := by decide +kernel
theorem dX3_endsAct_97 : decode cX3_endsAct 97 = .ok (.iload_n 2, 1) := by decide +kernel
theorem dX3_endsAct_98 : decode cX3_endsAct 98 = .ok (.invokestatic 19, 3) := by decide +kernel
theorem dX3_endsAct_101 : decode cX3_endsAct 101 = .ok (.putfield 27, 3) := by decide +kernel
theorem dX3_endsAct_104 : decode cX3_endsAct 104 = .ok (.aload_n 0, 1) := by decide +kernel
theorem dX3_endsAct_105 : decode cX3_endsAct 105 = .ok (.getfield 27, 3) := by decide +kernel
theorem dX3_endsAct_108 : decode cX3_endsAct 108 = .ok (.ifCond .ne 7, 3) := by decide +kernel
theorem dX3_endsAct_111 : decode cX3_endsAct 111 = .ok (.iconst 1, 1) := by decide +kernel
theorem dX3_endsAct_112 : decode cX3_endsAct 112 = .ok (.goto 4, 3) := by decide +kernel
theorem dX3_endsAct_115 : decode cX3_endsAct 115 = .ok (.iconst 0, 1) := by decide +kernel
theorem dX3_endsAct_116 : decode cX3_endsAct 116 = .ok (.ireturn, 1) := by decide +kernel
theorem dX4_init_0 : decode cX4_init 0 = .ok (.aload_n 0, 1) := by decide +kernel
theorem dX4_init_1 : decode cX4_init 1 = .ok (.invokespecial 3, 3) := by decide +kernel
theorem dX4_init_4 : decode cX4_init 4 = .ok (.aload_n 0, 1) := by decide +kernel
theorem dX4_init_5 : decode cX4_init 5 = .ok (.bipush 9, 2) := by decide +kernel
theorem dX4_init_7 : decode cX4_init 7 = .ok (.newarray .int, 2) := by decide +kernel
theorem dX4_init_9 : decode cX4_init 9 = .ok (.putfield 9, 3) := by decide +kernel
theorem dX4_init_12 : decode cX4_init 12 = .ok (.aload_n 0, 1) := by decide +kernel
theorem dX4_init_13 : decode cX4_init 13 = .ok (.iconst 4, 1) := by decide +kernel
theorem dX4_init_14 : decode cX4_init 14 = .ok (.newarray .int, 2) := by decide +kernel
theorem dX4_init_16 : decode cX4_init 16 = .ok (.putfield 15, 3) := by decide +kernel
theorem dX4_init_19 : decode cX4_init 19 = .ok (.aload_n 0, 1) := by decide +kernel
theorem dX4_init_20 : decode cX4_init 20 = .ok (.bipush 10, 2) := by decide +kernel
theorem dX4_init_22 : decode cX4_init 22 = .ok (.newarray .int, 2) := by decide +kernel
theorem dX4_init_24 : decode cX4_init 24 = .ok (.putfield 18, 3) := by decide +kernel
theorem dX4_init_27 : decode cX4_init 27 = .ok (.aload_n 0, 1) := by decide +kernel
theorem dX4_init_28 : decode cX4_init 28 = .ok (.bipush 10, 2) := by decide +kernel
theorem dX4_init_30 : decode cX4_init 30 = .ok (.newarray .int, 2) := by decide +kernel
theorem dX4_init_32 : decode cX4_init 32 = .ok (.putfield 21, 3) := by decide +kernel
theorem dX4_init_35 : decode cX4_init 35 = .ok (.aload_n 0, 1) := by decide +kernel
theorem dX4_init_36 : decode cX4_init 36 = .ok (.bipush 9, 2) := by decide +kernel
theorem dX4_init_38 : decode cX4_init 38 = .ok (.bipush 9, 2) := by decide +kernel
theorem dX4_init_40 : decode cX4_init 40 = .ok (.multianewarray 24 2, 4) := by decide +kernel
theorem dX4_init_44 : decode cX4_init 44 = .ok (.putfield 26, 3) := by decide +kernel
theorem dX4_init_47 : decode cX4_init 47 = .ok (.aload_n 0, 1) := by decide +kernel
theorem dX4_init_48 : decode cX4_init 48 = .ok (.bipush 100, 2) := by decide +kernel
theorem dX4_init_50 : decode cX4_init 50 = .ok (.newarray .int, 2) := by decide +kernel
theorem dX4_init_52 : decode cX4_init 52 = .ok (.putfield 29, 3) := by decide +kernel
theorem dX4_init_55 : decode cX4_init 55 = .ok (.return_, 1) := by decide +kernel
theorem dX4_takeDigits_0 : decode cX4_takeDigits 0 = .ok (.iload_n 2, 1) := by decide +kernel
theorem dX4_takeDigits_1 : decode cX4_takeDigits 1 = .ok (.bipush 9, 2) := by decide +kernel
theorem dX4_takeDigits_3 : decode cX4_takeDigits 3 = .ok (.invokestatic 32, 3) := by decide +kernel
theorem dX4_takeDigits_6 : decode cX4_takeDigits 6 = .ok (.istore_n 3, 1) := by decide +kernel
theorem dX4_takeDigits_7 : decode cX4_takeDigits 7 = .ok (.iload_n 1, 1) := by decide +kernel
theorem dX4_takeDigits_8 : decode cX4_takeDigits 8 = .ok (.istore 4, 2) := by decide +kernel
theorem dX4_takeDigits_10 : decode cX4_takeDigits 10 = .ok (.iload_n 3, 1) := by decide +kernel
theorem dX4_takeDigits_11 : decode cX4_takeDigits 11 = .ok (.iconst 1, 1) := by decide +kernel
theorem dX4_takeDigits_12 : decode cX4_takeDigits 12 = .ok (.isub, 1) := by decide +kernel
theorem dX4_takeDigits_13 : decode cX4_takeDigits 13 = .ok (.istore 5, 2) := by decide +kernel
theorem dX4_takeDigits_15 : decode cX4_takeDigits 15 = .ok (.iload 5, 2) := by decide +kernel
theorem dX4_takeDigits_17 : decode cX4_takeDigits 17 = .ok (.ifCond .lt 28, 3) := by decide +kernel
theorem dX4_takeDigits_20 : decode cX4_takeDigits 20 = .ok (.aload_n 0, 1) := by decide +kernel
theorem dX4_takeDigits_21 : decode cX4_takeDigits 21 = .ok (.getfield 9, 3) := by decide +kernel
theorem dX4_takeDigits_24 : decode cX4_takeDigits 24 = .ok (.iload 5, 2) := by decide +kernel
theorem dX4_takeDigits_26 : decode cX4_takeDigits 26 = .ok (.iload 4, 2) := by decide +kernel
theorem dX4_takeDigits_28 : decode cX4_takeDigits 28 = .ok (.bipush 10, 2) := by decide +kernel
theorem dX4_takeDigits_30 : decode cX4_takeDigits 30 = .ok (.irem, 1) := by decide +kernel
theorem dX4_takeDigits_31 : decode cX4_takeDigits 31 = .ok (.iastore, 1) := by decide +kernel
theorem dX4_takeDigits_32 : decode cX4_takeDigits 32 = .ok (.iload 4, 2) := by decide +kernel
theorem dX4_takeDigits_34 : decode cX4_takeDigits 34 = .ok (.bipush 10, 2) := by decide +kernel
theorem dX4_takeDigits_36 : decode cX4_takeDigits 36 = .ok (.idiv, 1) := by decide +kernel
theorem dX4_takeDigits_37 : decode cX4_takeDigits 37 = .ok (.istore 4, 2) := by decide +kernel
theorem dX4_takeDigits_39 : decode cX4_takeDigits 39 = .ok (.iinc 5 (-1), 3) := by decide +kernel
theorem dX4_takeDigits_42 : decode cX4_takeDigits 42 = .ok (.goto (-27), 3) := by decide +kernel
theorem dX4_takeDigits_45 : decode cX4_takeDigits 45 = .ok (.iload_n 3, 1) := by decide +kernel
theorem dX4_takeDigits_46 : decode cX4_takeDigits 46 = .ok (.ireturn, 1) := by decide +kernel
set_option maxRecDepth 20000 in
theorem ggX4_windingTime_X4_takeDigits : GoodIn wsX4_windingTime wsX4_takeDigits := goodIn_r _ [8, 9, 10, 11, 12, 2, 20, 21, 22, 23, 24, 25] (by decide +kernel) (by decide +kernel)
set_option maxRecDepth 20000 in
theorem gX4_windingTime_X4_takeDigits : GoodIn wsX4_windingTime (wsV RX4 38 RX4 yX4_takeDigits wsX4_takeDigits) := goodIn_app (goodIn_of _ (by decide +kernel)) ggX4_windingTime_X4_takeDigits
set_option maxRecDepth 20000 in
theorem ggX4_windingTime_X4_timeOfParts : GoodIn wsX4_windingTime wsX4_timeOfParts := goodIn_r _ [16, 3, 17, 18, 11, 19, 9, 10, 12, 20, 21, 22, 23, 24, 25] (by decide +kernel) (by decide +kernel)
set_option maxRecDepth 20000 in
theorem gX4_windingTime_X4_timeOfParts : GoodIn wsX4_windingTime (wsV RX4 41 RX4 yX4_timeOfParts wsX4_timeOfParts) := goodIn_app (goodIn_of _ (by decide +kernel)) ggX4_windingTime_X4_timeOfParts
theorem dX4_windingTime_0 : decode cX4_windingTime 0 = .ok (.aload_n 0, 1) := by decide +kernel
theorem dX4_windingTime_1 : decode cX4_windingTime 1 = .ok (.iload_n 1, 1) := by decide +kernel
theorem dX4_windingTime_2 : decode cX4_windingTime 2 = .ok (.iload_n 2, 1) := by decide +kernel
theorem dX4_windingTime_3 : decode cX4_windingTime 3 = .ok (.invokevirtual 38, 3) := by decide +kernel
theorem dX4_windingTime_6 : decode cX4_windingTime 6 = .ok (.istore 4, 2) := by decide +kernel
theorem dX4_windingTime_8 : decode cX4_windingTime 8 = .ok (.aload_n 0, 1) := by decide +kernel
theorem dX4_windingTime_9 : decode cX4_windingTime 9 = .ok (.getfield 21, 3) := by decide +kernel
theorem dX4_windingTime_12 : decode cX4_windingTime 12 = .ok (.iconst 0, 1) := by decide +kernel
theorem dX4_windingTime_13 : decode cX4_windingTime 13 = .ok (.iconst 0, 1) := by decide +kernel
theorem dX4_windingTime_14 : decode cX4_windingTime 14 = .ok (.iastore, 1) := by decide +kernel
theorem dX4_windingTime_15 : decode cX4_windingTime 15 = .ok (.iconst 0, 1) := by decide +kernel
theorem dX4_windingTime_16 : decode cX4_windingTime 16 = .ok (.istore 5, 2) := by decide +kernel
theorem dX4_windingTime_18 : decode cX4_windingTime 18 = .ok (.iload 5, 2) := by decide +kernel
theorem dX4_windingTime_20 : decode cX4_windingTime 20 = .ok (.iload 4, 2) := by decide +kernel
theorem dX4_windingTime_22 : decode cX4_windingTime 22 = .ok (.if_icmp .ge 33, 3) := by decide +kernel
theorem dX4_windingTime_25 : decode cX4_windingTime 25 = .ok (.aload_n 0, 1) := by decide +kernel
theorem dX4_windingTime_26 : decode cX4_windingTime 26 = .ok (.getfield 21, 3) := by decide +kernel
theorem dX4_windingTime_29 : decode cX4_windingTime 29 = .ok (.iload 5, 2) := by decide +kernel
theorem dX4_windingTime_31 : decode cX4_windingTime 31 = .ok (.iconst 1, 1) := by decide +kernel
theorem dX4_windingTime_32 : decode cX4_windingTime 32 = .ok (.iadd, 1) := by decide +kernel
theorem dX4_windingTime_33 : decode cX4_windingTime 33 = .ok (.aload_n 0, 1) := by decide +kernel
theorem dX4_windingTime_34 : decode cX4_windingTime 34 = .ok (.getfield 21, 3) := by decide +kernel
theorem dX4_windingTime_37 : decode cX4_windingTime 37 = .ok (.iload 5, 2) := by decide +kernel
theorem dX4_windingTime_39 : decode cX4_windingTime 39 = .ok (.iaload, 1) := by decide +kernel
theorem dX4_windingTime_40 : decode cX4_windingTime 40 = .ok (.aload_n 0, 1) := by decide +kernel
theorem dX4_windingTime_41 : decode cX4_windingTime 41 = .ok (.getfield 9, 3) := by decide +kernel
theorem dX4_windingTime_44 : decode cX4_windingTime 44 = .ok (.iload 5, 2) := by decide +kernel
theorem dX4_windingTime_46 : decode cX4_windingTime 46 = .ok (.iaload, 1) := by decide +kernel
theorem dX4_windingTime_47 : decode cX4_windingTime 47 = .ok (.iadd, 1) := by decide +kernel
theorem dX4_windingTime_48 : decode cX4_windingTime 48 = .ok (.iastore, 1) := by decide +kernel
theorem dX4_windingTime_49 : decode cX4_windingTime 49 = .ok (.iinc 5 1, 3) := by decide +kernel
theorem dX4_windingTime_52 : decode cX4_windingTime 52 = .ok (.goto (-34), 3) := by decide +kernel
theorem dX4_windingTime_55 : decode cX4_windingTime 55 = .ok (.iload 4, 2) := by decide +kernel
theorem dX4_windingTime_57 : decode cX4_windingTime 57 = .ok (.iconst 1, 1) := by decide +kernel
theorem dX4_windingTime_58 : decode cX4_windingTime 58 = .ok (.isub, 1) := by decide +kernel
theorem dX4_windingTime_59 : decode cX4_windingTime 59 = .ok (.istore 5, 2) := by decide +kernel
theorem dX4_windingTime_61 : decode cX4_windingTime 61 = .ok (.iload 5, 2) := by decide +kernel
theorem dX4_windingTime_63 : decode cX4_windingTime 63 = .ok (.ifCond .lt 80, 3) := by decide +kernel
theorem dX4_windingTime_66 : decode cX4_windingTime 66 = .ok (.aload_n 0, 1) := by decide +kernel
theorem dX4_windingTime_67 : decode cX4_windingTime 67 = .ok (.getfield 26, 3) := by decide +kernel
theorem dX4_windingTime_70 : decode cX4_windingTime 70 = .ok (.iload 5, 2) := by decide +kernel
theorem dX4_windingTime_72 : decode cX4_windingTime 72 = .ok (.aaload, 1) := by decide +kernel
theorem dX4_windingTime_73 : decode cX4_windingTime 73 = .ok (.iload 5, 2) := by decide +kernel
theorem dX4_windingTime_75 : decode cX4_windingTime 75 = .ok (.iconst 0, 1) := by decide +kernel
theorem dX4_windingTime_76 : decode cX4_windingTime 76 = .ok (.iastore, 1) := by decide +kernel
theorem dX4_windingTime_77 : decode cX4_windingTime 77 = .ok (.iload 5, 2) := by decide +kernel
theorem dX4_windingTime_79 : decode cX4_windingTime 79 = .ok (.iconst 1, 1) := by decide +kernel
theorem dX4_windingTime_80 : decode cX4_windingTime 80 = .ok (.iadd, 1) := by decide +kernel
theorem dX4_windingTime_81 : decode cX4_windingTime 81 = .ok (.istore 6, 2) := by decide +kernel
theorem dX4_windingTime_83 : decode cX4_windingTime 83 = .ok (.iload 6, 2) := by decide +kernel
theorem dX4_windingTime_85 : decode cX4_windingTime 85 = .ok (.iload 4, 2) := by decide +kernel
theorem dX4_windingTime_87 : decode cX4_windingTime 87 = .ok (.if_icmp .ge 50, 3) := by decide +kernel
theorem dX4_windingTime_90 : decode cX4_windingTime 90 = .ok (.aload_n 0, 1) := by decide +kernel
theorem dX4_windingTime_91 : decode cX4_windingTime 91 = .ok (.getfield 21, 3) := by decide +kernel
theorem dX4_windingTime_94 : decode cX4_windingTime 94 = .ok (.iload 6, 2) := by decide +kernel
theorem dX4_windingTime_96 : decode cX4_windingTime 96 = .ok (.iconst 1, 1) := by decide +kernel
theorem dX4_windingTime_97 : decode cX4_windingTime 97 = .ok (.iadd, 1) := by decide +kernel
theorem dX4_windingTime_98 : decode cX4_windingTime 98 = .ok (.iaload, 1) := by decide +kernel
theorem dX4_windingTime_99 : decode cX4_windingTime 99 = .ok (.aload_n 0, 1) := by decide +kernel
theorem dX4_windingTime_100 : decode cX4_windingTime 100 = .ok (.getfield 21, 3) := by decide +kernel
theorem dX4_windingTime_103 : decode cX4_windingTime 103 = .ok (.iload 5, 2) := by decide +kernel
theorem dX4_windingTime_105 : decode cX4_windingTime 105 = .ok (.iaload, 1) := by decide +kernel
theorem dX4_windingTime_106 : decode cX4_windingTime 106 = .ok (.isub, 1) := by decide +kernel
theorem dX4_windingTime_107 : decode cX4_windingTime 107 = .ok (.istore 7, 2) := by decide +kernel
theorem dX4_windingTime_109 : decode cX4_windingTime 109 = .ok (.aload_n 0, 1) := by decide +kernel
theorem dX4_windingTime_110 : decode cX4_windingTime 110 = .ok (.getfield 26, 3) := by decide +kernel
theorem dX4_windingTime_113 : decode cX4_windingTime 113 = .ok (.iload 5, 2) := by decide +kernel
theorem dX4_windingTime_115 : decode cX4_windingTime 115 = .ok (.aaload, 1) := by decide +kernel
theorem dX4_windingTime_116 : decode cX4_windingTime 116 = .ok (.iload 6, 2) := by decide +kernel
theorem dX4_windingTime_118 : decode cX4_windingTime 118 = .ok (.iload 7, 2) := by decide +kernel
theorem dX4_windingTime_120 : decode cX4_windingTime 120 = .ok (.aload_n 0, 1) := by decide +kernel
theorem dX4_windingTime_121 : decode cX4_windingTime 121 = .ok (.iload 5, 2) := by decide +kernel
theorem dX4_windingTime_123 : decode cX4_windingTime 123 = .ok (.iload 6, 2) := by decide +kernel
theorem dX4_windingTime_125 : decode cX4_windingTime 125 = .ok (.iload_n 3, 1) := by decide +kernel
theorem dX4_windingTime_126 : decode cX4_windingTime 126 = .ok (.invokevirtual 41, 3) := by decide +kernel
theorem dX4_windingTime_129 : decode cX4_windingTime 129 = .ok (.iadd, 1) := by decide +kernel
theorem dX4_windingTime_130 : decode cX4_windingTime 130 = .ok (.iastore, 1) := by decide +kernel
theorem dX4_windingTime_131 : decode cX4_windingTime 131 = .ok (.iinc 6 1, 3) := by decide +kernel
theorem dX4_windingTime_134 : decode cX4_windingTime 134 = .ok (.goto (-51), 3) := by decide +kernel
theorem dX4_windingTime_137 : decode cX4_windingTime 137 = .ok (.iinc 5 (-1), 3) := by decide +kernel
theorem dX4_windingTime_140 : decode cX4_windingTime 140 = .ok (.goto (-79), 3) := by decide +kernel
theorem dX4_windingTime_143 : decode cX4_windingTime 143 = .ok (.aload_n 0, 1) := by decide +kernel
theorem dX4_windingTime_144 : decode cX4_windingTime 144 = .ok (.getfield 26, 3) := by decide +kernel
theorem dX4_windingTime_147 : decode cX4_windingTime 147 = .ok (.iconst 0, 1) := by decide +kernel
theorem dX4_windingTime_148 : decode cX4_windingTime 148 = .ok (.aaload, 1) := by decide +kernel
theorem dX4_windingTime_149 : decode cX4_windingTime 149 = .ok (.iload 4, 2) := by decide +kernel
theorem dX4_windingTime_151 : decode cX4_windingTime 151 = .ok (.iconst 1, 1) := by decide +kernel
theorem dX4_windingTime_152 : decode cX4_windingTime 152 = .ok (.isub, 1) := by decide +kernel
theorem dX4_windingTime_153 : decode cX4_windingTime 153 = .ok (.iaload, 1) := by decide +kernel
theorem dX4_windingTime_154 : decode cX4_windingTime 154 = .ok (.ireturn, 1) := by decide +kernel
theorem dX4_timeOfParts_0 : decode cX4_timeOfParts 0 = .ok (.aload_n 0, 1) := by decide +kernel
theorem dX4_timeOfParts_1 : decode cX4_timeOfParts 1 = .ok (.getfield 26, 3) := by decide +kernel
theorem dX4_timeOfParts_4 : decode cX4_timeOfParts 4 = .ok (.iload_n 1, 1) := by decide +kernel
theorem dX4_timeOfParts_5 : decode cX4_timeOfParts 5 = .ok (.aaload, 1) := by decide +kernel
theorem dX4_timeOfParts_6 : decode cX4_timeOfParts 6 = .ok (.iload_n 1, 1) := by decide +kernel
theorem dX4_timeOfParts_7 : decode cX4_timeOfParts 7 = .ok (.iaload, 1) := by decide +kernel
theorem dX4_timeOfParts_8 : decode cX4_timeOfParts 8 = .ok (.aload_n 0, 1) := by decide +kernel
theorem dX4_timeOfParts_9 : decode cX4_timeOfParts 9 = .ok (.getfield 26, 3) := by decide +kernel
theorem dX4_timeOfParts_12 : decode cX4_timeOfParts 12 = .ok (.iload_n 1, 1) := by decide +kernel
theorem dX4_timeOfParts_13 : decode cX4_timeOfParts 13 = .ok (.iconst 1, 1) := by decide +kernel
theorem dX4_timeOfParts_14 : decode cX4_timeOfParts 14 = .ok (.iadd, 1) := by decide +kernel
theorem dX4_timeOfParts_15 : decode cX4_timeOfParts 15 = .ok (.aaload, 1) := by decide +kernel
theorem dX4_timeOfParts_16 : decode cX4_timeOfParts 16 = .ok (.iload_n 2, 1) := by decide +kernel
theorem dX4_timeOfParts_17 : decode cX4_timeOfParts 17 = .ok (.iaload, 1) := by decide +kernel
theorem dX4_timeOfParts_18 : decode cX4_timeOfParts 18 = .ok (.iadd, 1) := by decide +kernel
theorem dX4_timeOfParts_19 : decode cX4_timeOfParts 19 = .ok (.istore 4, 2) := by decide +kernel
theorem dX4_timeOfParts_21 : decode cX4_timeOfParts 21 = .ok (.iload_n 1, 1) := by decide +kernel
theorem dX4_timeOfParts_22 : decode cX4_timeOfParts 22 = .ok (.iconst 1, 1) := by decide +kernel
theorem dX4_timeOfParts_23 : decode cX4_timeOfParts 23 = .ok (.iadd, 1) := by decide +kernel
theorem dX4_timeOfParts_24 : decode cX4_timeOfParts 24 = .ok (.istore 5, 2) := by decide +kernel
theorem dX4_timeOfParts_26 : decode cX4_timeOfParts 26 = .ok (.iload 5, 2) := by decide +kernel
theorem dX4_timeOfParts_28 : decode cX4_timeOfParts 28 = .ok (.iload_n 2, 1) := by decide +kernel
theorem dX4_timeOfParts_29 : decode cX4_timeOfParts 29 = .ok (.if_icmp .ge 55, 3) := by decide +kernel
theorem dX4_timeOfParts_32 : decode cX4_timeOfParts 32 = .ok (.aload_n 0, 1) := by decide +kernel
theorem dX4_timeOfParts_33 : decode cX4_timeOfParts 33 = .ok (.getfield 26, 3) := by decide +kernel
theorem dX4_timeOfParts_36 : decode cX4_timeOfParts 36 = .ok (.iload_n 1, 1) := by decide +kernel
theorem dX4_timeOfParts_37 : decode cX4_timeOfParts 37 = .ok (.aaload, 1) := by decide +kernel
theorem dX4_timeOfParts_38 : decode cX4_timeOfParts 38 = .ok (.iload 5, 2) := by decide +kernel
theorem dX4_timeOfParts_40 : decode cX4_timeOfParts 40 = .ok (.iaload, 1) := by decide +kernel
theorem dX4_timeOfParts_41 : decode cX4_timeOfParts 41 = .ok (.aload_n 0, 1) := by decide +kernel
theorem dX4_timeOfParts_42 : decode cX4_timeOfParts 42 = .ok (.getfield 26, 3) := by decide +kernel
theorem dX4_timeOfParts_45 : decode cX4_timeOfParts 45 = .ok (.iload 5, 2) := by decide +kernel
theorem dX4_timeOfParts_47 : decode cX4_timeOfParts 47 = .ok (.iconst 1, 1) := by decide +kernel
theorem dX4_timeOfParts_48 : decode cX4_timeOfParts 48 = .ok (.iadd, 1) := by decide +kernel
theorem dX4_timeOfParts_49 : decode cX4_timeOfParts 49 = .ok (.aaload, 1) := by decide +kernel
theorem dX4_timeOfParts_50 : decode cX4_timeOfParts 50 = .ok (.iload_n 2, 1) := by decide +kernel
theorem dX4_timeOfParts_51 : decode cX4_timeOfParts 51 = .ok (.iaload, 1) := by decide +kernel
theorem dX4_timeOfParts_52 : decode cX4_timeOfParts 52 = .ok (.iadd, 1) := by decide +kernel
theorem dX4_timeOfParts_53 : decode cX4_timeOfParts 53 = .ok (.istore 6, 2) := by decide +kernel
theorem dX4_timeOfParts_55 : decode cX4_timeOfParts 55 = .ok (.iload_n 3, 1) := by decide +kernel
theorem dX4_timeOfParts_56 : decode cX4_timeOfParts 56 = .ok (.ifCond .eq 13, 3) := by decide +kernel
theorem dX4_timeOfParts_59 : decode cX4_timeOfParts 59 = .ok (.iload 4, 2) := by decide +kernel
theorem dX4_timeOfParts_61 : decode cX4_timeOfParts 61 = .ok (.iload 6, 2) := by decide +kernel
theorem dX4_timeOfParts_63 : decode cX4_timeOfParts 63 = .ok (.invokestatic 45, 3) := by decide +kernel
theorem dX4_timeOfParts_66 : decode cX4_timeOfParts 66 = .ok (.goto 10, 3) := by decide +kernel
theorem dX4_timeOfParts_69 : decode cX4_timeOfParts 69 = .ok (.iload 4, 2) := by decide +kernel
theorem dX4_timeOfParts_71 : decode cX4_timeOfParts 71 = .ok (.iload 6, 2) := by decide +kernel
theorem dX4_timeOfParts_73 : decode cX4_timeOfParts 73 = .ok (.invokestatic 32, 3) := by decide +kernel
theorem dX4_timeOfParts_76 : decode cX4_timeOfParts 76 = .ok (.istore 4, 2) := by decide +kernel
theorem dX4_timeOfParts_78 : decode cX4_timeOfParts 78 = .ok (.iinc 5 1, 3) := by decide +kernel
theorem dX4_timeOfParts_81 : decode cX4_timeOfParts 81 = .ok (.goto (-55), 3) := by decide +kernel
theorem dX4_timeOfParts_84 : decode cX4_timeOfParts 84 = .ok (.iload 4, 2) := by decide +kernel
theorem dX4_timeOfParts_86 : decode cX4_timeOfParts 86 = .ok (.ireturn, 1) := by decide +kernel
theorem dX4_takeWords_0 : decode cX4_takeWords 0 = .ok (.aload_n 0, 1) := by decide +kernel
theorem dX4_takeWords_1 : decode cX4_takeWords 1 = .ok (.getfield 15, 3) := by decide +kernel
theorem dX4_takeWords_4 : decode cX4_takeWords 4 = .ok (.iconst 0, 1) := by decide +kernel
theorem dX4_takeWords_5 : decode cX4_takeWords 5 = .ok (.iload_n 1, 1) := by decide +kernel
theorem dX4_takeWords_6 : decode cX4_takeWords 6 = .ok (.iastore, 1) := by decide +kernel
theorem dX4_takeWords_7 : decode cX4_takeWords 7 = .ok (.aload_n 0, 1) := by decide +kernel
theorem dX4_takeWords_8 : decode cX4_takeWords 8 = .ok (.getfield 15, 3) := by decide +kernel
theorem dX4_takeWords_11 : decode cX4_takeWords 11 = .ok (.iconst 1, 1) := by decide +kernel
theorem dX4_takeWords_12 : decode cX4_takeWords 12 = .ok (.iload_n 2, 1) := by decide +kernel
theorem dX4_takeWords_13 : decode cX4_takeWords 13 = .ok (.iastore, 1) := by decide +kernel
theorem dX4_takeWords_14 : decode cX4_takeWords 14 = .ok (.aload_n 0, 1) := by decide +kernel
theorem dX4_takeWords_15 : decode cX4_takeWords 15 = .ok (.getfield 15, 3) := by decide +kernel
theorem dX4_takeWords_18 : decode cX4_takeWords 18 = .ok (.iconst 2, 1) := by decide +kernel
theorem dX4_takeWords_19 : decode cX4_takeWords 19 = .ok (.iload_n 3, 1) := by decide +kernel
theorem dX4_takeWords_20 : decode cX4_takeWords 20 = .ok (.iastore, 1) := by decide +kernel
theorem dX4_takeWords_21 : decode cX4_takeWords 21 = .ok (.aload_n 0, 1) := by decide +kernel
theorem dX4_takeWords_22 : decode cX4_takeWords 22 = .ok (.getfield 15, 3) := by decide +kernel
theorem dX4_takeWords_25 : decode cX4_takeWords 25 = .ok (.iconst 3, 1) := by decide +kernel
theorem dX4_takeWords_26 : decode cX4_takeWords 26 = .ok (.iload 4, 2) := by decide +kernel
theorem dX4_takeWords_28 : decode cX4_takeWords 28 = .ok (.iastore, 1) := by decide +kernel
theorem dX4_takeWords_29 : decode cX4_takeWords 29 = .ok (.return_, 1) := by decide +kernel
set_option maxRecDepth 20000 in
theorem ggX4_standsBefore_X7_digitCount : GoodIn wsX4_standsBefore wsX7_digitCount := goodIn_r _ [5] (by decide +kernel) (by decide +kernel)
set_option maxRecDepth 20000 in
theorem gX4_standsBefore_X7_digitCount_n48 : GoodIn wsX4_standsBefore (wsX7_digitCount) := ggX4_standsBefore_X7_digitCount
theorem dX4_standsBefore_0 : decode cX4_standsBefore 0 = .ok (.iconst 0, 1) := by decide +kernel
theorem dX4_standsBefore_1 : decode cX4_standsBefore 1 = .ok (.istore_n 3, 1) := by decide +kernel
theorem dX4_standsBefore_2 : decode cX4_standsBefore 2 = .ok (.iload_n 3, 1) := by decide +kernel
theorem dX4_standsBefore_3 : decode cX4_standsBefore 3 = .ok (.iload_n 1, 1) := by decide +kernel
theorem dX4_standsBefore_4 : decode cX4_standsBefore 4 = .ok (.if_icmp .ge 26, 3) := by decide +kernel
theorem dX4_standsBefore_7 : decode cX4_standsBefore 7 = .ok (.aload_n 0, 1) := by decide +kernel
theorem dX4_standsBefore_8 : decode cX4_standsBefore 8 = .ok (.getfield 15, 3) := by decide +kernel
theorem dX4_standsBefore_11 : decode cX4_standsBefore 11 = .ok (.iload_n 3, 1) := by decide +kernel
theorem dX4_standsBefore_12 : decode cX4_standsBefore 12 = .ok (.iaload, 1) := by decide +kernel
theorem dX4_standsBefore_13 : decode cX4_standsBefore 13 = .ok (.aload_n 0, 1) := by decide +kernel
theorem dX4_standsBefore_14 : decode cX4_standsBefore 14 = .ok (.getfield 15, 3) := by decide +kernel
theorem dX4_standsBefore_17 : decode cX4_standsBefore 17 = .ok (.iload_n 1, 1) := by decide +kernel
theorem dX4_standsBefore_18 : decode cX4_standsBefore 18 = .ok (.iaload, 1) := by decide +kernel
theorem dX4_standsBefore_19 : decode cX4_standsBefore 19 = .ok (.if_icmp .ne 5, 3) := by decide +kernel
theorem dX4_standsBefore_22 : decode cX4_standsBefore 22 = .ok (.iconst 0, 1) := by decide +kernel
theorem dX4_standsBefore_23 : decode cX4_standsBefore 23 = .ok (.ireturn, 1) := by decide +kernel
theorem dX4_standsBefore_24 : decode cX4_standsBefore 24 = .ok (.iinc 3 1, 3) := by decide +kernel
theorem dX4_standsBefore_27 : decode cX4_standsBefore 27 = .ok (.goto (-25), 3) := by decide +kernel
theorem dX4_standsBefore_30 : decode cX4_standsBefore 30 = .ok (.aload_n 0, 1) := by decide +kernel
theorem dX4_standsBefore_31 : decode cX4_standsBefore 31 = .ok (.getfield 15, 3) := by decide +kernel
theorem dX4_standsBefore_34 : decode cX4_standsBefore 34 = .ok (.iload_n 1, 1) := by decide +kernel
theorem dX4_standsBefore_35 : decode cX4_standsBefore 35 = .ok (.iaload, 1) := by decide +kernel
theorem dX4_standsBefore_36 : decode cX4_standsBefore 36 = .ok (.istore_n 3, 1) := by decide +kernel
theorem dX4_standsBefore_37 : decode cX4_standsBefore 37 = .ok (.iload_n 3, 1) := by decide +kernel
theorem dX4_standsBefore_38 : decode cX4_standsBefore 38 = .ok (.invokestatic 48, 3) := by decide +kernel
theorem dX4_standsBefore_41 : decode cX4_standsBefore 41 = .ok (.istore 4, 2) := by decide +kernel
theorem dX4_standsBefore_43 : decode cX4_standsBefore 43 = .ok (.iload 4, 2) := by decide +kernel
theorem dX4_standsBefore_45 : decode cX4_standsBefore 45 = .ok (.iload_n 2, 1) := by decide +kernel
theorem dX4_standsBefore_46 : decode cX4_standsBefore 46 = .ok (.if_icmp .le 5, 3) := by decide +kernel
theorem dX4_standsBefore_49 : decode cX4_standsBefore 49 = .ok (.iconst 0, 1) := by decide +kernel
theorem dX4_standsBefore_50 : decode cX4_standsBefore 50 = .ok (.ireturn, 1) := by decide +kernel
theorem dX4_standsBefore_51 : decode cX4_standsBefore 51 = .ok (.iload_n 2, 1) := by decide +kernel
theorem dX4_standsBefore_52 : decode cX4_standsBefore 52 = .ok (.iconst 1, 1) := by decide +kernel
theorem dX4_standsBefore_53 : decode cX4_standsBefore 53 = .ok (.isub, 1) := by decide +kernel
theorem dX4_standsBefore_54 : decode cX4_standsBefore 54 = .ok (.istore 5, 2) := by decide +kernel
theorem dX4_standsBefore_56 : decode cX4_standsBefore 56 = .ok (.iload 5, 2) := by decide +kernel
theorem dX4_standsBefore_58 : decode cX4_standsBefore 58 = .ok (.iload_n 2, 1) := by decide +kernel
theorem dX4_standsBefore_59 : decode cX4_standsBefore 59 = .ok (.iload 4, 2) := by decide +kernel
theorem dX4_standsBefore_61 : decode cX4_standsBefore 61 = .ok (.isub, 1) := by decide +kernel
theorem dX4_standsBefore_62 : decode cX4_standsBefore 62 = .ok (.if_icmp .lt 30, 3) := by decide +kernel
theorem dX4_standsBefore_65 : decode cX4_standsBefore 65 = .ok (.aload_n 0, 1) := by decide +kernel
theorem dX4_standsBefore_66 : decode cX4_standsBefore 66 = .ok (.getfield 9, 3) := by decide +kernel
theorem dX4_standsBefore_69 : decode cX4_standsBefore 69 = .ok (.iload 5, 2) := by decide +kernel
theorem dX4_standsBefore_71 : decode cX4_standsBefore 71 = .ok (.iaload, 1) := by decide +kernel
theorem dX4_standsBefore_72 : decode cX4_standsBefore 72 = .ok (.iload_n 3, 1) := by decide +kernel
theorem dX4_standsBefore_73 : decode cX4_standsBefore 73 = .ok (.bipush 10, 2) := by decide +kernel
theorem dX4_standsBefore_75 : decode cX4_standsBefore 75 = .ok (.irem, 1) := by decide +kernel
theorem dX4_standsBefore_76 : decode cX4_standsBefore 76 = .ok (.if_icmp .eq 5, 3) := by decide +kernel
theorem dX4_standsBefore_79 : decode cX4_standsBefore 79 = .ok (.iconst 0, 1) := by decide +kernel
theorem dX4_standsBefore_80 : decode cX4_standsBefore 80 = .ok (.ireturn, 1) := by decide +kernel
theorem dX4_standsBefore_81 : decode cX4_standsBefore 81 = .ok (.iload_n 3, 1) := by decide +kernel
theorem dX4_standsBefore_82 : decode cX4_standsBefore 82 = .ok (.bipush 10, 2) := by decide +kernel
theorem dX4_standsBefore_84 : decode cX4_standsBefore 84 = .ok (.idiv, 1) := by decide +kernel
theorem dX4_standsBefore_85 : decode cX4_standsBefore 85 = .ok (.istore_n 3, 1) := by decide +kernel
theorem dX4_standsBefore_86 : decode cX4_standsBefore 86 = .ok (.iinc 5 (-1), 3) := by decide +kernel
theorem dX4_standsBefore_89 : decode cX4_standsBefore 89 = .ok (.goto (-33), 3) := by decide +kernel
theorem dX4_standsBefore_92 : decode cX4_standsBefore 92 = .ok (.iconst 1, 1) := by decide +kernel
theorem dX4_standsBefore_93 : decode cX4_standsBefore 93 = .ok (.ireturn, 1) := by decide +kernel
set_option maxRecDepth 20000 in
theorem ggX4_countReadings_X4_standsBefore : GoodIn wsX4_countReadings wsX4_standsBefore := goodIn_r _ [7, 2, 8, 9, 10, 11, 12, 13, 14, 15, 16, 17] (by decide +kernel) (by decide +kernel)
set_option maxRecDepth 20000 in
theorem gX4_countReadings_X4_standsBefore : GoodIn wsX4_countReadings (wsV RX4 52 RX4 yX4_standsBefore wsX4_standsBefore) := goodIn_app (goodIn_of _ (by decide +kernel)) ggX4_countReadings_X4_standsBefore
set_option maxRecDepth 20000 in
theorem ggX4_countReadings_X7_digitCount : GoodIn wsX4_countReadings wsX7_digitCount := goodIn_r _ [11] (by decide +kernel) (by decide +kernel)
set_option maxRecDepth 20000 in
theorem gX4_countReadings_X7_digitCount_n48 : GoodIn wsX4_countReadings (wsX7_digitCount) := ggX4_countReadings_X7_digitCount
theorem dX4_countReadings_0 : decode cX4_countReadings 0 = .ok (.aload_n 0, 1) := by decide +kernel
theorem dX4_countReadings_1 : decode cX4_countReadings 1 = .ok (.getfield 18, 3) := by decide +kernel
theorem dX4_countReadings_4 : decode cX4_countReadings 4 = .ok (.iconst 0, 1) := by decide +kernel
theorem dX4_countReadings_5 : decode cX4_countReadings 5 = .ok (.iconst 1, 1) := by decide +kernel
theorem dX4_countReadings_6 : decode cX4_countReadings 6 = .ok (.iastore, 1) := by decide +kernel
theorem dX4_countReadings_7 : decode cX4_countReadings 7 = .ok (.iconst 1, 1) := by decide +kernel
theorem dX4_countReadings_8 : decode cX4_countReadings 8 = .ok (.istore_n 2, 1) := by decide +kernel
theorem dX4_countReadings_9 : decode cX4_countReadings 9 = .ok (.iload_n 2, 1) := by decide +kernel
theorem dX4_countReadings_10 : decode cX4_countReadings 10 = .ok (.iload_n 1, 1) := by decide +kernel
theorem dX4_countReadings_11 : decode cX4_countReadings 11 = .ok (.if_icmp .gt 63, 3) := by decide +kernel
theorem dX4_countReadings_14 : decode cX4_countReadings 14 = .ok (.aload_n 0, 1) := by decide +kernel
theorem dX4_countReadings_15 : decode cX4_countReadings 15 = .ok (.getfield 18, 3) := by decide +kernel
theorem dX4_countReadings_18 : decode cX4_countReadings 18 = .ok (.iload_n 2, 1) := by decide +kernel
theorem dX4_countReadings_19 : decode cX4_countReadings 19 = .ok (.iconst 0, 1) := by decide +kernel
theorem dX4_countReadings_20 : decode cX4_countReadings 20 = .ok (.iastore, 1) := by decide +kernel
theorem dX4_countReadings_21 : decode cX4_countReadings 21 = .ok (.iconst 0, 1) := by decide +kernel
theorem dX4_countReadings_22 : decode cX4_countReadings 22 = .ok (.istore_n 3, 1) := by decide +kernel
theorem dX4_countReadings_23 : decode cX4_countReadings 23 = .ok (.iload_n 3, 1) := by decide +kernel
theorem dX4_countReadings_24 : decode cX4_countReadings 24 = .ok (.iconst 4, 1) := by decide +kernel
theorem dX4_countReadings_25 : decode cX4_countReadings 25 = .ok (.if_icmp .ge 43, 3) := by decide +kernel
theorem dX4_countReadings_28 : decode cX4_countReadings 28 = .ok (.aload_n 0, 1) := by decide +kernel
theorem dX4_countReadings_29 : decode cX4_countReadings 29 = .ok (.iload_n 3, 1) := by decide +kernel
theorem dX4_countReadings_30 : decode cX4_countReadings 30 = .ok (.iload_n 2, 1) := by decide +kernel
theorem dX4_countReadings_31 : decode cX4_countReadings 31 = .ok (.invokevirtual 52, 3) := by decide +kernel
theorem dX4_countReadings_34 : decode cX4_countReadings 34 = .ok (.ifCond .eq 28, 3) := by decide +kernel
theorem dX4_countReadings_37 : decode cX4_countReadings 37 = .ok (.aload_n 0, 1) := by decide +kernel
theorem dX4_countReadings_38 : decode cX4_countReadings 38 = .ok (.getfield 18, 3) := by decide +kernel
theorem dX4_countReadings_41 : decode cX4_countReadings 41 = .ok (.iload_n 2, 1) := by decide +kernel
theorem dX4_countReadings_42 : decode cX4_countReadings 42 = .ok (.dup2, 1) := by decide +kernel
theorem dX4_countReadings_43 : decode cX4_countReadings 43 = .ok (.iaload, 1) := by decide +kernel
theorem dX4_countReadings_44 : decode cX4_countReadings 44 = .ok (.aload_n 0, 1) := by decide +kernel
theorem dX4_countReadings_45 : decode cX4_countReadings 45 = .ok (.getfield 18, 3) := by decide +kernel
theorem dX4_countReadings_48 : decode cX4_countReadings 48 = .ok (.iload_n 2, 1) := by decide +kernel
theorem dX4_countReadings_49 : decode cX4_countReadings 49 = .ok (.aload_n 0, 1) := by decide +kernel
theorem dX4_countReadings_50 : decode cX4_countReadings 50 = .ok (.getfield 15, 3) := by decide +kernel
theorem dX4_countReadings_53 : decode cX4_countReadings 53 = .ok (.iload_n 3, 1) := by decide +kernel
theorem dX4_countReadings_54 : decode cX4_countReadings 54 = .ok (.iaload, 1) := by decide +kernel
theorem dX4_countReadings_55 : decode cX4_countReadings 55 = .ok (.invokestatic 48, 3) := by decide +kernel
theorem dX4_countReadings_58 : decode cX4_countReadings 58 = .ok (.isub, 1) := by decide +kernel
theorem dX4_countReadings_59 : decode cX4_countReadings 59 = .ok (.iaload, 1) := by decide +kernel
theorem dX4_countReadings_60 : decode cX4_countReadings 60 = .ok (.iadd, 1) := by decide +kernel
theorem dX4_countReadings_61 : decode cX4_countReadings 61 = .ok (.iastore, 1) := by decide +kernel
theorem dX4_countReadings_62 : decode cX4_countReadings 62 = .ok (.iinc 3 1, 3) := by decide +kernel
theorem dX4_countReadings_65 : decode cX4_countReadings 65 = .ok (.goto (-42), 3) := by decide +kernel
theorem dX4_countReadings_68 : decode cX4_countReadings 68 = .ok (.iinc 2 1, 3) := by decide +kernel
theorem dX4_countReadings_71 : decode cX4_countReadings 71 = .ok (.goto (-62), 3) := by decide +kernel
theorem dX4_countReadings_74 : decode cX4_countReadings 74 = .ok (.aload_n 0, 1) := by decide +kernel
theorem dX4_countReadings_75 : decode cX4_countReadings 75 = .ok (.getfield 18, 3) := by decide +kernel
theorem dX4_countReadings_78 : decode cX4_countReadings 78 = .ok (.iload_n 1, 1) := by decide +kernel
theorem dX4_countReadings_79 : decode cX4_countReadings 79 = .ok (.iaload, 1) := by decide +kernel
theorem dX4_countReadings_80 : decode cX4_countReadings 80 = .ok (.ireturn, 1) := by decide +kernel
set_option maxRecDepth 20000 in
theorem ggX4_fewestWords_X4_standsBefore : GoodIn wsX4_fewestWords wsX4_standsBefore := goodIn_r _ [7, 2, 8, 9, 10, 11, 12, 13, 14, 15, 16, 17] (by decide +kernel) (by decide +kernel)
set_option maxRecDepth 20000 in
theorem gX4_fewestWords_X4_standsBefore : GoodIn wsX4_fewestWords (wsV RX4 52 RX4 yX4_standsBefore wsX4_standsBefore) := goodIn_app (goodIn_of _ (by decide +kernel)) ggX4_fewestWords_X4_standsBefore
set_option maxRecDepth 20000 in
theorem ggX4_fewestWords_X7_digitCount : GoodIn wsX4_fewestWords wsX7_digitCount := goodIn_r _ [11] (by decide +kernel) (by decide +kernel)
set_option maxRecDepth 20000 in
theorem gX4_fewestWords_X7_digitCount_n48 : GoodIn wsX4_fewestWords (wsX7_digitCount) := ggX4_fewestWords_X7_digitCount
theorem dX4_fewestWords_0 : decode cX4_fewestWords 0 = .ok (.aload_n 0, 1) := by decide +kernel
theorem dX4_fewestWords_1 : decode cX4_fewestWords 1 = .ok (.getfield 18, 3) := by decide +kernel
theorem dX4_fewestWords_4 : decode cX4_fewestWords 4 = .ok (.iconst 0, 1) := by decide +kernel
theorem dX4_fewestWords_5 : decode cX4_fewestWords 5 = .ok (.iconst 0, 1) := by decide +kernel
theorem dX4_fewestWords_6 : decode cX4_fewestWords 6 = .ok (.iastore, 1) := by decide +kernel
theorem dX4_fewestWords_7 : decode cX4_fewestWords 7 = .ok (.iconst 1, 1) := by decide +kernel
theorem dX4_fewestWords_8 : decode cX4_fewestWords 8 = .ok (.istore_n 2, 1) := by decide +kernel
theorem dX4_fewestWords_9 : decode cX4_fewestWords 9 = .ok (.iload_n 2, 1) := by decide +kernel
theorem dX4_fewestWords_10 : decode cX4_fewestWords 10 = .ok (.iload_n 1, 1) := by decide +kernel
theorem dX4_fewestWords_11 : decode cX4_fewestWords 11 = .ok (.if_icmp .gt 104, 3) := by decide +kernel
theorem dX4_fewestWords_14 : decode cX4_fewestWords 14 = .ok (.aload_n 0, 1) := by decide +kernel
theorem dX4_fewestWords_15 : decode cX4_fewestWords 15 = .ok (.getfield 18, 3) := by decide +kernel
theorem dX4_fewestWords_18 : decode cX4_fewestWords 18 = .ok (.iload_n 2, 1) := by decide +kernel
theorem dX4_fewestWords_19 : decode cX4_fewestWords 19 = .ok (.bipush (-6), 2) := by decide +kernel
theorem dX4_fewestWords_21 : decode cX4_fewestWords 21 = .ok (.iastore, 1) := by decide +kernel
theorem dX4_fewestWords_22 : decode cX4_fewestWords 22 = .ok (.iconst 0, 1) := by decide +kernel
theorem dX4_fewestWords_23 : decode cX4_fewestWords 23 = .ok (.istore_n 3, 1) := by decide +kernel
theorem dX4_fewestWords_24 : decode cX4_fewestWords 24 = .ok (.iload_n 3, 1) := by decide +kernel
theorem dX4_fewestWords_25 : decode cX4_fewestWords 25 = .ok (.iconst 4, 1) := by decide +kernel
theorem dX4_fewestWords_26 : decode cX4_fewestWords 26 = .ok (.if_icmp .ge 83, 3) := by decide +kernel
theorem dX4_fewestWords_29 : decode cX4_fewestWords 29 = .ok (.aload_n 0, 1) := by decide +kernel
theorem dX4_fewestWords_30 : decode cX4_fewestWords 30 = .ok (.iload_n 3, 1) := by decide +kernel
theorem dX4_fewestWords_31 : decode cX4_fewestWords 31 = .ok (.iload_n 2, 1) := by decide +kernel
theorem dX4_fewestWords_32 : decode cX4_fewestWords 32 = .ok (.invokevirtual 52, 3) := by decide +kernel
theorem dX4_fewestWords_35 : decode cX4_fewestWords 35 = .ok (.ifCond .ne 6, 3) := by decide +kernel
theorem dX4_fewestWords_38 : decode cX4_fewestWords 38 = .ok (.goto 65, 3) := by decide +kernel
theorem dX4_fewestWords_41 : decode cX4_fewestWords 41 = .ok (.aload_n 0, 1) := by decide +kernel
theorem dX4_fewestWords_42 : decode cX4_fewestWords 42 = .ok (.getfield 18, 3) := by decide +kernel
theorem dX4_fewestWords_45 : decode cX4_fewestWords 45 = .ok (.iload_n 2, 1) := by decide +kernel
theorem dX4_fewestWords_46 : decode cX4_fewestWords 46 = .ok (.aload_n 0, 1) := by decide +kernel
theorem dX4_fewestWords_47 : decode cX4_fewestWords 47 = .ok (.getfield 15, 3) := by decide +kernel
theorem dX4_fewestWords_50 : decode cX4_fewestWords 50 = .ok (.iload_n 3, 1) := by decide +kernel
theorem dX4_fewestWords_51 : decode cX4_fewestWords 51 = .ok (.iaload, 1) := by decide +kernel
theorem dX4_fewestWords_52 : decode cX4_fewestWords 52 = .ok (.invokestatic 48, 3) := by decide +kernel
theorem dX4_fewestWords_55 : decode cX4_fewestWords 55 = .ok (.isub, 1) := by decide +kernel
theorem dX4_fewestWords_56 : decode cX4_fewestWords 56 = .ok (.iaload, 1) := by decide +kernel
theorem dX4_fewestWords_57 : decode cX4_fewestWords 57 = .ok (.istore 4, 2) := by decide +kernel
theorem dX4_fewestWords_59 : decode cX4_fewestWords 59 = .ok (.iload 4, 2) := by decide +kernel
theorem dX4_fewestWords_61 : decode cX4_fewestWords 61 = .ok (.bipush (-6), 2) := by decide +kernel
theorem dX4_fewestWords_63 : decode cX4_fewestWords 63 = .ok (.if_icmp .ne 6, 3) := by decide +kernel
theorem dX4_fewestWords_66 : decode cX4_fewestWords 66 = .ok (.goto 37, 3) := by decide +kernel
theorem dX4_fewestWords_69 : decode cX4_fewestWords 69 = .ok (.aload_n 0, 1) := by decide +kernel
theorem dX4_fewestWords_70 : decode cX4_fewestWords 70 = .ok (.getfield 18, 3) := by decide +kernel
theorem dX4_fewestWords_73 : decode cX4_fewestWords 73 = .ok (.iload_n 2, 1) := by decide +kernel
theorem dX4_fewestWords_74 : decode cX4_fewestWords 74 = .ok (.iaload, 1) := by decide +kernel
theorem dX4_fewestWords_75 : decode cX4_fewestWords 75 = .ok (.bipush (-6), 2) := by decide +kernel
theorem dX4_fewestWords_77 : decode cX4_fewestWords 77 = .ok (.if_icmp .eq 16, 3) := by decide +kernel
theorem dX4_fewestWords_80 : decode cX4_fewestWords 80 = .ok (.iload 4, 2) := by decide +kernel
theorem dX4_fewestWords_82 : decode cX4_fewestWords 82 = .ok (.iconst 1, 1) := by decide +kernel
theorem dX4_fewestWords_83 : decode cX4_fewestWords 83 = .ok (.iadd, 1) := by decide +kernel
theorem dX4_fewestWords_84 : decode cX4_fewestWords 84 = .ok (.aload_n 0, 1) := by decide +kernel
theorem dX4_fewestWords_85 : decode cX4_fewestWords 85 = .ok (.getfield 18, 3) := by decide +kernel
theorem dX4_fewestWords_88 : decode cX4_fewestWords 88 = .ok (.iload_n 2, 1) := by decide +kernel
theorem dX4_fewestWords_89 : decode cX4_fewestWords 89 = .ok (.iaload, 1) := by decide +kernel
theorem dX4_fewestWords_90 : decode cX4_fewestWords 90 = .ok (.if_icmp .ge 13, 3) := by decide +kernel
theorem dX4_fewestWords_93 : decode cX4_fewestWords 93 = .ok (.aload_n 0, 1) := by decide +kernel
theorem dX4_fewestWords_94 : decode cX4_fewestWords 94 = .ok (.getfield 18, 3) := by decide +kernel
theorem dX4_fewestWords_97 : decode cX4_fewestWords 97 = .ok (.iload_n 2, 1) := by decide +kernel
theorem dX4_fewestWords_98 : decode cX4_fewestWords 98 = .ok (.iload 4, 2) := by decide +kernel
theorem dX4_fewestWords_100 : decode cX4_fewestWords 100 = .ok (.iconst 1, 1) := by decide +kernel
theorem dX4_fewestWords_101 : decode cX4_fewestWords 101 = .ok (.iadd, 1) := by decide +kernel
theorem dX4_fewestWords_102 : decode cX4_fewestWords 102 = .ok (.iastore, 1) := by decide +kernel
theorem dX4_fewestWords_103 : decode cX4_fewestWords 103 = .ok (.iinc 3 1, 3) := by decide +kernel
theorem dX4_fewestWords_106 : decode cX4_fewestWords 106 = .ok (.goto (-82), 3) := by decide +kernel
theorem dX4_fewestWords_109 : decode cX4_fewestWords 109 = .ok (.iinc 2 1, 3) := by decide +kernel
theorem dX4_fewestWords_112 : decode cX4_fewestWords 112 = .ok (.goto (-103), 3) := by decide +kernel
theorem dX4_fewestWords_115 : decode cX4_fewestWords 115 = .ok (.aload_n 0, 1) := by decide +kernel
theorem dX4_fewestWords_116 : decode cX4_fewestWords 116 = .ok (.getfield 18, 3) := by decide +kernel
theorem dX4_fewestWords_119 : decode cX4_fewestWords 119 = .ok (.iload_n 1, 1) := by decide +kernel
theorem dX4_fewestWords_120 : decode cX4_fewestWords 120 = .ok (.iaload, 1) := by decide +kernel
theorem dX4_fewestWords_121 : decode cX4_fewestWords 121 = .ok (.ireturn, 1) := by decide +kernel
theorem dX4_winningPulls_0 : decode cX4_winningPulls 0 = .ok (.iconst 0, 1) := by decide +kernel
theorem dX4_winningPulls_1 : decode cX4_winningPulls 1 = .ok (.istore_n 3, 1) := by decide +kernel
theorem dX4_winningPulls_2 : decode cX4_winningPulls 2 = .ok (.iload_n 3, 1) := by decide +kernel
theorem dX4_winningPulls_3 : decode cX4_winningPulls 3 = .ok (.iload_n 1, 1) := by decide +kernel
theorem dX4_winningPulls_4 : decode cX4_winningPulls 4 = .ok (.if_icmp .gt 69, 3) := by decide +kernel
theorem dX4_winningPulls_7 : decode cX4_winningPulls 7 = .ok (.iconst 0, 1) := by decide +kernel
theorem dX4_winningPulls_8 : decode cX4_winningPulls 8 = .ok (.istore 4, 2) := by decide +kernel
theorem dX4_winningPulls_10 : decode cX4_winningPulls 10 = .ok (.iconst 1, 1) := by decide +kernel
theorem dX4_winningPulls_11 : decode cX4_winningPulls 11 = .ok (.istore 5, 2) := by decide +kernel
theorem dX4_winningPulls_13 : decode cX4_winningPulls 13 = .ok (.iload 5, 2) := by decide +kernel
theorem dX4_winningPulls_15 : decode cX4_winningPulls 15 = .ok (.iload_n 2, 1) := by decide +kernel
theorem dX4_winningPulls_16 : decode cX4_winningPulls 16 = .ok (.if_icmp .gt 43, 3) := by decide +kernel
theorem dX4_winningPulls_19 : decode cX4_winningPulls 19 = .ok (.iload 5, 2) := by decide +kernel
theorem dX4_winningPulls_21 : decode cX4_winningPulls 21 = .ok (.iload_n 3, 1) := by decide +kernel
theorem dX4_winningPulls_22 : decode cX4_winningPulls 22 = .ok (.if_icmp .gt 37, 3) := by decide +kernel
theorem dX4_winningPulls_25 : decode cX4_winningPulls 25 = .ok (.aload_n 0, 1) := by decide +kernel
theorem dX4_winningPulls_26 : decode cX4_winningPulls 26 = .ok (.getfield 29, 3) := by decide +kernel
theorem dX4_winningPulls_29 : decode cX4_winningPulls 29 = .ok (.iload_n 3, 1) := by decide +kernel
theorem dX4_winningPulls_30 : decode cX4_winningPulls 30 = .ok (.iload 5, 2) := by decide +kernel
theorem dX4_winningPulls_32 : decode cX4_winningPulls 32 = .ok (.isub, 1) := by decide +kernel
theorem dX4_winningPulls_33 : decode cX4_winningPulls 33 = .ok (.iaload, 1) := by decide +kernel
theorem dX4_winningPulls_34 : decode cX4_winningPulls 34 = .ok (.iconst 1, 1) := by decide +kernel
theorem dX4_winningPulls_35 : decode cX4_winningPulls 35 = .ok (.iload 5, 2) := by decide +kernel
theorem dX4_winningPulls_37 : decode cX4_winningPulls 37 = .ok (.ishl, 1) := by decide +kernel
theorem dX4_winningPulls_38 : decode cX4_winningPulls 38 = .ok (.iconst (-1), 1) := by decide +kernel
theorem dX4_winningPulls_39 : decode cX4_winningPulls 39 = .ok (.ixor, 1) := by decide +kernel
theorem dX4_winningPulls_40 : decode cX4_winningPulls 40 = .ok (.iand, 1) := by decide +kernel
theorem dX4_winningPulls_41 : decode cX4_winningPulls 41 = .ok (.ifCond .ne 12, 3) := by decide +kernel
theorem dX4_winningPulls_44 : decode cX4_winningPulls 44 = .ok (.iload 4, 2) := by decide +kernel
theorem dX4_winningPulls_46 : decode cX4_winningPulls 46 = .ok (.iconst 1, 1) := by decide +kernel
theorem dX4_winningPulls_47 : decode cX4_winningPulls 47 = .ok (.iload 5, 2) := by decide +kernel
theorem dX4_winningPulls_49 : decode cX4_winningPulls 49 = .ok (.ishl, 1) := by decide +kernel
theorem dX4_winningPulls_50 : decode cX4_winningPulls 50 = .ok (.ior, 1) := by decide +kernel
theorem dX4_winningPulls_51 : decode cX4_winningPulls 51 = .ok (.istore 4, 2) := by decide +kernel
theorem dX4_winningPulls_53 : decode cX4_winningPulls 53 = .ok (.iinc 5 1, 3) := by decide +kernel
theorem dX4_winningPulls_56 : decode cX4_winningPulls 56 = .ok (.goto (-43), 3) := by decide +kernel
theorem dX4_winningPulls_59 : decode cX4_winningPulls 59 = .ok (.aload_n 0, 1) := by decide +kernel
theorem dX4_winningPulls_60 : decode cX4_winningPulls 60 = .ok (.getfield 29, 3) := by decide +kernel
theorem dX4_winningPulls_63 : decode cX4_winningPulls 63 = .ok (.iload_n 3, 1) := by decide +kernel
theorem dX4_winningPulls_64 : decode cX4_winningPulls 64 = .ok (.iload 4, 2) := by decide +kernel
theorem dX4_winningPulls_66 : decode cX4_winningPulls 66 = .ok (.iastore, 1) := by decide +kernel
theorem dX4_winningPulls_67 : decode cX4_winningPulls 67 = .ok (.iinc 3 1, 3) := by decide +kernel
theorem dX4_winningPulls_70 : decode cX4_winningPulls 70 = .ok (.goto (-68), 3) := by decide +kernel
theorem dX4_winningPulls_73 : decode cX4_winningPulls 73 = .ok (.aload_n 0, 1) := by decide +kernel
theorem dX4_winningPulls_74 : decode cX4_winningPulls 74 = .ok (.getfield 29, 3) := by decide +kernel
theorem dX4_winningPulls_77 : decode cX4_winningPulls 77 = .ok (.iload_n 1, 1) := by decide +kernel
theorem dX4_winningPulls_78 : decode cX4_winningPulls 78 = .ok (.iaload, 1) := by decide +kernel
theorem dX4_winningPulls_79 : decode cX4_winningPulls 79 = .ok (.ireturn, 1) := by decide +kernel
theorem dX5_init_0 : decode cX5_init 0 = .ok (.aload_n 0, 1) := by decide +kernel
theorem dX5_init_1 : decode cX5_init 1 = .ok (.invokespecial 3, 3) := by decide +kernel
theorem dX5_init_4 : decode cX5_init 4 = .ok (.aload_n 0, 1) := by decide +kernel
theorem dX5_init_5 : decode cX5_init 5 = .ok (.bipush 10, 2) := by decide +kernel
theorem dX5_init_7 : decode cX5_init 7 = .ok (.newarray .int, 2) := by decide +kernel
theorem dX5_init_9 : decode cX5_init 9 = .ok (.putfield 9, 3) := by decide +kernel
theorem dX5_init_12 : decode cX5_init 12 = .ok (.aload_n 0, 1) := by decide +kernel
theorem dX5_init_13 : decode cX5_init 13 = .ok (.bipush 10, 2) := by decide +kernel
theorem dX5_init_15 : decode cX5_init 15 = .ok (.newarray .int, 2) := by decide +kernel
theorem dX5_init_17 : decode cX5_init 17 = .ok (.putfield 15, 3) := by decide +kernel
theorem dX5_init_20 : decode cX5_init 20 = .ok (.aload_n 0, 1) := by decide +kernel
theorem dX5_init_21 : decode cX5_init 21 = .ok (.bipush 9, 2) := by decide +kernel
theorem dX5_init_23 : decode cX5_init 23 = .ok (.newarray .int, 2) := by decide +kernel
theorem dX5_init_25 : decode cX5_init 25 = .ok (.putfield 18, 3) := by decide +kernel
theorem dX5_init_28 : decode cX5_init 28 = .ok (.aload_n 0, 1) := by decide +kernel
theorem dX5_init_29 : decode cX5_init 29 = .ok (.bipush 10, 2) := by decide +kernel
theorem dX5_init_31 : decode cX5_init 31 = .ok (.newarray .int, 2) := by decide +kernel
theorem dX5_init_33 : decode cX5_init 33 = .ok (.putfield 21, 3) := by decide +kernel
theorem dX5_init_36 : decode cX5_init 36 = .ok (.iconst 0, 1) := by decide +kernel
theorem dX5_init_37 : decode cX5_init 37 = .ok (.istore_n 1, 1) := by decide +kernel
theorem dX5_init_38 : decode cX5_init 38 = .ok (.iload_n 1, 1) := by decide +kernel
theorem dX5_init_39 : decode cX5_init 39 = .ok (.bipush 10, 2) := by decide +kernel
theorem dX5_init_41 : decode cX5_init 41 = .ok (.if_icmp .ge 19, 3) := by decide +kernel
theorem dX5_init_44 : decode cX5_init 44 = .ok (.aload_n 0, 1) := by decide +kernel
theorem dX5_init_45 : decode cX5_init 45 = .ok (.getfield 9, 3) := by decide +kernel
theorem dX5_init_48 : decode cX5_init 48 = .ok (.iload_n 1, 1) := by decide +kernel
theorem dX5_init_49 : decode cX5_init 49 = .ok (.bipush 10, 2) := by decide +kernel
theorem dX5_init_51 : decode cX5_init 51 = .ok (.iload_n 1, 1) := by decide +kernel
theorem dX5_init_52 : decode cX5_init 52 = .ok (.imul, 1) := by decide +kernel
theorem dX5_init_53 : decode cX5_init 53 = .ok (.iastore, 1) := by decide +kernel
theorem dX5_init_54 : decode cX5_init 54 = .ok (.iinc 1 1, 3) := by decide +kernel
theorem dX5_init_57 : decode cX5_init 57 = .ok (.goto (-19), 3) := by decide +kernel
theorem dX5_init_60 : decode cX5_init 60 = .ok (.iconst 0, 1) := by decide +kernel
theorem dX5_init_61 : decode cX5_init 61 = .ok (.istore_n 1, 1) := by decide +kernel
theorem dX5_init_62 : decode cX5_init 62 = .ok (.iload_n 1, 1) := by decide +kernel
theorem dX5_init_63 : decode cX5_init 63 = .ok (.bipush 9, 2) := by decide +kernel
theorem dX5_init_65 : decode cX5_init 65 = .ok (.if_icmp .ge 17, 3) := by decide +kernel
theorem dX5_init_68 : decode cX5_init 68 = .ok (.aload_n 0, 1) := by decide +kernel
theorem dX5_init_69 : decode cX5_init 69 = .ok (.getfield 18, 3) := by decide +kernel
theorem dX5_init_72 : decode cX5_init 72 = .ok (.iload_n 1, 1) := by decide +kernel
theorem dX5_init_73 : decode cX5_init 73 = .ok (.bipush 15, 2) := by decide +kernel
theorem dX5_init_75 : decode cX5_init 75 = .ok (.iastore, 1) := by decide +kernel
theorem dX5_init_76 : decode cX5_init 76 = .ok (.iinc 1 1, 3) := by decide +kernel
theorem dX5_init_79 : decode cX5_init 79 = .ok (.goto (-17), 3) := by decide +kernel
theorem dX5_init_82 : decode cX5_init 82 = .ok (.aload_n 0, 1) := by decide +kernel
theorem dX5_init_83 : decode cX5_init 83 = .ok (.bipush 20, 2) := by decide +kernel
theorem dX5_init_85 : decode cX5_init 85 = .ok (.putfield 24, 3) := by decide +kernel
theorem dX5_init_88 : decode cX5_init 88 = .ok (.return_, 1) := by decide +kernel
theorem dX5_copyFrom_0 : decode cX5_copyFrom 0 = .ok (.iconst 0, 1) := by decide +kernel
theorem dX5_copyFrom_1 : decode cX5_copyFrom 1 = .ok (.istore_n 2, 1) := by decide +kernel
theorem dX5_copyFrom_2 : decode cX5_copyFrom 2 = .ok (.iload_n 2, 1) := by decide +kernel
theorem dX5_copyFrom_3 : decode cX5_copyFrom 3 = .ok (.bipush 10, 2) := by decide +kernel
theorem dX5_copyFrom_5 : decode cX5_copyFrom 5 = .ok (.if_icmp .ge 33, 3) := by decide +kernel
theorem dX5_copyFrom_8 : decode cX5_copyFrom 8 = .ok (.aload_n 0, 1) := by decide +kernel
theorem dX5_copyFrom_9 : decode cX5_copyFrom 9 = .ok (.getfield 9, 3) := by decide +kernel
theorem dX5_copyFrom_12 : decode cX5_copyFrom 12 = .ok (.iload_n 2, 1) := by decide +kernel
theorem dX5_copyFrom_13 : decode cX5_copyFrom 13 = .ok (.aload_n 1, 1) := by decide +kernel
theorem dX5_copyFrom_14 : decode cX5_copyFrom 14 = .ok (.getfield 9, 3) := by decide +kernel
theorem dX5_copyFrom_17 : decode cX5_copyFrom 17 = .ok (.iload_n 2, 1) := by decide +kernel
theorem dX5_copyFrom_18 : decode cX5_copyFrom 18 = .ok (.iaload, 1) := by decide +kernel
theorem dX5_copyFrom_19 : decode cX5_copyFrom 19 = .ok (.iastore, 1) := by decide +kernel
theorem dX5_copyFrom_20 : decode cX5_copyFrom 20 = .ok (.aload_n 0, 1) := by decide +kernel
theorem dX5_copyFrom_21 : decode cX5_copyFrom 21 = .ok (.getfield 15, 3) := by decide +kernel
theorem dX5_copyFrom_24 : decode cX5_copyFrom 24 = .ok (.iload_n 2, 1) := by decide +kernel
theorem dX5_copyFrom_25 : decode cX5_copyFrom 25 = .ok (.aload_n 1, 1) := by decide +kernel
theorem dX5_copyFrom_26 : decode cX5_copyFrom 26 = .ok (.getfield 15, 3) := by decide +kernel
theorem dX5_copyFrom_29 : decode cX5_copyFrom 29 = .ok (.iload_n 2, 1) := by decide +kernel
theorem dX5_copyFrom_30 : decode cX5_copyFrom 30 = .ok (.iaload, 1) := by decide +kernel
theorem dX5_copyFrom_31 : decode cX5_copyFrom 31 = .ok (.iastore, 1) := by decide +kernel
theorem dX5_copyFrom_32 : decode cX5_copyFrom 32 = .ok (.iinc 2 1, 3) := by decide +kernel
theorem dX5_copyFrom_35 : decode cX5_copyFrom 35 = .ok (.goto (-33), 3) := by decide +kernel
theorem dX5_copyFrom_38 : decode cX5_copyFrom 38 = .ok (.iconst 0, 1) := by decide +kernel
theorem dX5_copyFrom_39 : decode cX5_copyFrom 39 = .ok (.istore_n 2, 1) := by decide +kernel
theorem dX5_copyFrom_40 : decode cX5_copyFrom 40 = .ok (.iload_n 2, 1) := by decide +kernel
theorem dX5_copyFrom_41 : decode cX5_copyFrom 41 = .ok (.bipush 9, 2) := by decide +kernel
theorem dX5_copyFrom_43 : decode cX5_copyFrom 43 = .ok (.if_icmp .ge 21, 3) := by decide +kernel
theorem dX5_copyFrom_46 : decode cX5_copyFrom 46 = .ok (.aload_n 0, 1) := by decide +kernel
theorem dX5_copyFrom_47 : decode cX5_copyFrom 47 = .ok (.getfield 18, 3) := by decide +kernel
theorem dX5_copyFrom_50 : decode cX5_copyFrom 50 = .ok (.iload_n 2, 1) := by decide +kernel
theorem dX5_copyFrom_51 : decode cX5_copyFrom 51 = .ok (.aload_n 1, 1) := by decide +kernel
theorem dX5_copyFrom_52 : decode cX5_copyFrom 52 = .ok (.getfield 18, 3) := by decide +kernel
theorem dX5_copyFrom_55 : decode cX5_copyFrom 55 = .ok (.iload_n 2, 1) := by decide +kernel
theorem dX5_copyFrom_56 : decode cX5_copyFrom 56 = .ok (.iaload, 1) := by decide +kernel
theorem dX5_copyFrom_57 : decode cX5_copyFrom 57 = .ok (.iastore, 1) := by decide +kernel
theorem dX5_copyFrom_58 : decode cX5_copyFrom 58 = .ok (.iinc 2 1, 3) := by decide +kernel
theorem dX5_copyFrom_61 : decode cX5_copyFrom 61 = .ok (.goto (-21), 3) := by decide +kernel
theorem dX5_copyFrom_64 : decode cX5_copyFrom 64 = .ok (.aload_n 0, 1) := by decide +kernel
theorem dX5_copyFrom_65 : decode cX5_copyFrom 65 = .ok (.aload_n 1, 1) := by decide +kernel
theorem dX5_copyFrom_66 : decode cX5_copyFrom 66 = .ok (.getfield 28, 3) := by decide +kernel
theorem dX5_copyFrom_69 : decode cX5_copyFrom 69 = .ok (.putfield 28, 3) := by decide +kernel
theorem dX5_copyFrom_72 : decode cX5_copyFrom 72 = .ok (.aload_n 0, 1) := by decide +kernel
theorem dX5_copyFrom_73 : decode cX5_copyFrom 73 = .ok (.aload_n 1, 1) := by decide +kernel
theorem dX5_copyFrom_74 : decode cX5_copyFrom 74 = .ok (.getfield 24, 3) := by decide +kernel
theorem dX5_copyFrom_77 : decode cX5_copyFrom 77 = .ok (.putfield 24, 3) := by decide +kernel
theorem dX5_copyFrom_80 : decode cX5_copyFrom 80 = .ok (.aload_n 0, 1) := by decide +kernel
theorem dX5_copyFrom_81 : decode cX5_copyFrom 81 = .ok (.aload_n 1, 1) := by decide +kernel
theorem dX5_copyFrom_82 : decode cX5_copyFrom 82 = .ok (.getfield 31, 3) := by decide +kernel
theorem dX5_copyFrom_85 : decode cX5_copyFrom 85 = .ok (.putfield 31, 3) := by decide +kernel
theorem dX5_copyFrom_88 : decode cX5_copyFrom 88 = .ok (.return_, 1) := by decide +kernel
theorem dX5_holdsFast_0 : decode cX5_holdsFast 0 = .ok (.aload_n 0, 1) := by decide +kernel
theorem dX5_holdsFast_1 : decode cX5_holdsFast 1 = .ok (.getfield 28, 3) := by decide +kernel
theorem dX5_holdsFast_4 : decode cX5_holdsFast 4 = .ok (.iload_n 1, 1) := by decide +kernel
theorem dX5_holdsFast_5 : decode cX5_holdsFast 5 = .ok (.ishr, 1) := by decide +kernel
theorem dX5_holdsFast_6 : decode cX5_holdsFast 6 = .ok (.iconst 1, 1) := by decide +kernel
theorem dX5_holdsFast_7 : decode cX5_holdsFast 7 = .ok (.iand, 1) := by decide +kernel
theorem dX5_holdsFast_8 : decode cX5_holdsFast 8 = .ok (.iconst 1, 1) := by decide +kernel
theorem dX5_holdsFast_9 : decode cX5_holdsFast 9 = .ok (.if_icmp .ne 7, 3) := by decide +kernel
theorem dX5_holdsFast_12 : decode cX5_holdsFast 12 = .ok (.iconst 1, 1) := by decide +kernel
theorem dX5_holdsFast_13 : decode cX5_holdsFast 13 = .ok (.goto 4, 3) := by decide +kernel
theorem dX5_holdsFast_16 : decode cX5_holdsFast 16 = .ok (.iconst 0, 1) := by decide +kernel
theorem dX5_holdsFast_17 : decode cX5_holdsFast 17 = .ok (.ireturn, 1) := by decide +kernel
theorem dX5_turnHold_0 : decode cX5_turnHold 0 = .ok (.aload_n 0, 1) := by decide +kernel
theorem dX5_turnHold_1 : decode cX5_turnHold 1 = .ok (.dup, 1) := by decide +kernel
theorem dX5_turnHold_2 : decode cX5_turnHold 2 = .ok (.getfield 28, 3) := by decide +kernel
theorem dX5_turnHold_5 : decode cX5_turnHold 5 = .ok (.iconst 1, 1) := by decide +kernel
theorem dX5_turnHold_6 : decode cX5_turnHold 6 = .ok (.iload_n 1, 1) := by decide +kernel
theorem dX5_turnHold_7 : decode cX5_turnHold 7 = .ok (.ishl, 1) := by decide +kernel
theorem dX5_turnHold_8 : decode cX5_turnHold 8 = .ok (.ixor, 1) := by decide +kernel
theorem dX5_turnHold_9 : decode cX5_turnHold 9 = .ok (.putfield 28, 3) := by decide +kernel
theorem dX5_turnHold_12 : decode cX5_turnHold 12 = .ok (.return_, 1) := by decide +kernel
theorem dX5_apart_0 : decode cX5_apart 0 = .ok (.aload_n 0, 1) := by decide +kernel
theorem dX5_apart_1 : decode cX5_apart 1 = .ok (.getfield 9, 3) := by decide +kernel
theorem dX5_apart_4 : decode cX5_apart 4 = .ok (.iload_n 1, 1) := by decide +kernel
theorem dX5_apart_5 : decode cX5_apart 5 = .ok (.iconst 1, 1) := by decide +kernel
theorem dX5_apart_6 : decode cX5_apart 6 = .ok (.iadd, 1) := by decide +kernel
theorem dX5_apart_7 : decode cX5_apart 7 = .ok (.iaload, 1) := by decide +kernel
theorem dX5_apart_8 : decode cX5_apart 8 = .ok (.aload_n 0, 1) := by decide +kernel
theorem dX5_apart_9 : decode cX5_apart 9 = .ok (.getfield 9, 3) := by decide +kernel
theorem dX5_apart_12 : decode cX5_apart 12 = .ok (.iload_n 1, 1) := by decide +kernel
theorem dX5_apart_13 : decode cX5_apart 13 = .ok (.iaload, 1) := by decide +kernel
theorem dX5_apart_14 : decode cX5_apart 14 = .ok (.isub, 1) := by decide +kernel
theorem dX5_apart_15 : decode cX5_apart 15 = .ok (.invokestatic 34, 3) := by decide +kernel
theorem dX5_apart_18 : decode cX5_apart 18 = .ok (.ireturn, 1) := by decide +kernel
set_option maxRecDepth 20000 in
theorem ggX5_isTaut_X5_apart : GoodIn wsX5_isTaut wsX5_apart := goodIn_r _ [6, 7, 8, 9, 10, 11, 12, 13, 14, 15, 16, 17, 18] (by decide +kernel) (by decide +kernel)
set_option maxRecDepth 20000 in
theorem gX5_isTaut_X5_apart : GoodIn wsX5_isTaut (wsV RX5 40 RX5 yX5_apart wsX5_apart) := goodIn_app (goodIn_of _ (by decide +kernel)) ggX5_isTaut_X5_apart
theorem dX5_isTaut_0 : decode cX5_isTaut 0 = .ok (.aload_n 0, 1) := by decide +kernel
theorem dX5_isTaut_1 : decode cX5_isTaut 1 = .ok (.iload_n 1, 1) := by decide +kernel
theorem dX5_isTaut_2 : decode cX5_isTaut 2 = .ok (.invokevirtual 40, 3) := by decide +kernel
theorem dX5_isTaut_5 : decode cX5_isTaut 5 = .ok (.aload_n 0, 1) := by decide +kernel
theorem dX5_isTaut_6 : decode cX5_isTaut 6 = .ok (.getfield 18, 3) := by decide +kernel
theorem dX5_isTaut_9 : decode cX5_isTaut 9 = .ok (.iload_n 1, 1) := by decide +kernel
theorem dX5_isTaut_10 : decode cX5_isTaut 10 = .ok (.iaload, 1) := by decide +kernel
theorem dX5_isTaut_11 : decode cX5_isTaut 11 = .ok (.if_icmp .ne 7, 3) := by decide +kernel
theorem dX5_isTaut_14 : decode cX5_isTaut 14 = .ok (.iconst 1, 1) := by decide +kernel
theorem dX5_isTaut_15 : decode cX5_isTaut 15 = .ok (.goto 4, 3) := by decide +kernel
theorem dX5_isTaut_18 : decode cX5_isTaut 18 = .ok (.iconst 0, 1) := by decide +kernel
theorem dX5_isTaut_19 : decode cX5_isTaut 19 = .ok (.ireturn, 1) := by decide +kernel
set_option maxRecDepth 20000 in
theorem ggX5_tautBits_X5_isTaut : GoodIn wsX5_tautBits wsX5_isTaut := goodIn_r _ [5, 6, 7, 8, 9, 4, 10, 11, 12, 13, 14, 15, 16, 17, 18, 19, 20, 21, 22] (by decide +kernel) (by decide +kernel)
set_option maxRecDepth 20000 in
theorem gX5_tautBits_X5_isTaut : GoodIn wsX5_tautBits (wsV RX5 43 RX5 yX5_isTaut wsX5_isTaut) := goodIn_app (goodIn_of _ (by decide +kernel)) ggX5_tautBits_X5_isTaut
theorem dX5_tautBits_0 : decode cX5_tautBits 0 = .ok (.iconst 0, 1) := by decide +kernel
theorem dX5_tautBits_1 : decode cX5_tautBits 1 = .ok (.istore_n 1, 1) := by decide +kernel
theorem dX5_tautBits_2 : decode cX5_tautBits 2 = .ok (.iconst 0, 1) := by decide +kernel
theorem dX5_tautBits_3 : decode cX5_tautBits 3 = .ok (.istore_n 2, 1) := by decide +kernel
theorem dX5_tautBits_4 : decode cX5_tautBits 4 = .ok (.iload_n 2, 1) := by decide +kernel
theorem dX5_tautBits_5 : decode cX5_tautBits 5 = .ok (.bipush 9, 2) := by decide +kernel
theorem dX5_tautBits_7 : decode cX5_tautBits 7 = .ok (.if_icmp .ge 23, 3) := by decide +kernel
theorem dX5_tautBits_10 : decode cX5_tautBits 10 = .ok (.aload_n 0, 1) := by decide +kernel
theorem dX5_tautBits_11 : decode cX5_tautBits 11 = .ok (.iload_n 2, 1) := by decide +kernel
theorem dX5_tautBits_12 : decode cX5_tautBits 12 = .ok (.invokevirtual 43, 3) := by decide +kernel
theorem dX5_tautBits_15 : decode cX5_tautBits 15 = .ok (.ifCond .eq 9, 3) := by decide +kernel
theorem dX5_tautBits_18 : decode cX5_tautBits 18 = .ok (.iload_n 1, 1) := by decide +kernel
theorem dX5_tautBits_19 : decode cX5_tautBits 19 = .ok (.iconst 1, 1) := by decide +kernel
theorem dX5_tautBits_20 : decode cX5_tautBits 20 = .ok (.iload_n 2, 1) := by decide +kernel
theorem dX5_tautBits_21 : decode cX5_tautBits 21 = .ok (.ishl, 1) := by decide +kernel
theorem dX5_tautBits_22 : decode cX5_tautBits 22 = .ok (.ior, 1) := by decide +kernel
theorem dX5_tautBits_23 : decode cX5_tautBits 23 = .ok (.istore_n 1, 1) := by decide +kernel
theorem dX5_tautBits_24 : decode cX5_tautBits 24 = .ok (.iinc 2 1, 3) := by decide +kernel
theorem dX5_tautBits_27 : decode cX5_tautBits 27 = .ok (.goto (-23), 3) := by decide +kernel
theorem dX5_tautBits_30 : decode cX5_tautBits 30 = .ok (.iload_n 1, 1) := by decide +kernel
theorem dX5_tautBits_31 : decode cX5_tautBits 31 = .ok (.ireturn, 1) := by decide +kernel
theorem dX5_allLengths_0 : decode cX5_allLengths 0 = .ok (.iconst 0, 1) := by decide +kernel
theorem dX5_allLengths_1 : decode cX5_allLengths 1 = .ok (.istore_n 1, 1) := by decide +kernel
theorem dX5_allLengths_2 : decode cX5_allLengths 2 = .ok (.iconst 0, 1) := by decide +kernel
theorem dX5_allLengths_3 : decode cX5_allLengths 3 = .ok (.istore_n 2, 1) := by decide +kernel
theorem dX5_allLengths_4 : decode cX5_allLengths 4 = .ok (.iload_n 2, 1) := by decide +kernel
theorem dX5_allLengths_5 : decode cX5_allLengths 5 = .ok (.bipush 9, 2) := by decide +kernel
theorem dX5_allLengths_7 : decode cX5_allLengths 7 = .ok (.if_icmp .ge 18, 3) := by decide +kernel
theorem dX5_allLengths_10 : decode cX5_allLengths 10 = .ok (.iload_n 1, 1) := by decide +kernel
theorem dX5_allLengths_11 : decode cX5_allLengths 11 = .ok (.aload_n 0, 1) := by decide +kernel
theorem dX5_allLengths_12 : decode cX5_allLengths 12 = .ok (.getfield 18, 3) := by decide +kernel
theorem dX5_allLengths_15 : decode cX5_allLengths 15 = .ok (.iload_n 2, 1) := by decide +kernel
theorem dX5_allLengths_16 : decode cX5_allLengths 16 = .ok (.iaload, 1) := by decide +kernel
theorem dX5_allLengths_17 : decode cX5_allLengths 17 = .ok (.iadd, 1) := by decide +kernel
theorem dX5_allLengths_18 : decode cX5_allLengths 18 = .ok (.istore_n 1, 1) := by decide +kernel
theorem dX5_allLengths_19 : decode cX5_allLengths 19 = .ok (.iinc 2 1, 3) := by decide +kernel
theorem dX5_allLengths_22 : decode cX5_allLengths 22 = .ok (.goto (-18), 3) := by decide +kernel
theorem dX5_allLengths_25 : decode cX5_allLengths 25 = .ok (.iload_n 1, 1) := by decide +kernel
theorem dX5_allLengths_26 : decode cX5_allLengths 26 = .ok (.ireturn, 1) := by decide +kernel
theorem dX5_hasStringFor_0 : decode cX5_hasStringFor 0 = .ok (.iload_n 1, 1) := by decide +kernel
theorem dX5_hasStringFor_1 : decode cX5_hasStringFor 1 = .ok (.ifCond .le 29, 3) := by decide +kernel
theorem dX5_hasStringFor_4 : decode cX5_hasStringFor 4 = .ok (.iload_n 2, 1) := by decide +kernel
theorem dX5_hasStringFor_5 : decode cX5_hasStringFor 5 = .ok (.aload_n 0, 1) := by decide +kernel
theorem dX5_hasStringFor_6 : decode cX5_hasStringFor 6 = .ok (.getfield 9, 3) := by decide +kernel
theorem dX5_hasStringFor_9 : decode cX5_hasStringFor 9 = .ok (.iload_n 1, 1) := by decide +kernel
theorem dX5_hasStringFor_10 : decode cX5_hasStringFor 10 = .ok (.iconst 1, 1) := by decide +kernel
theorem dX5_hasStringFor_11 : decode cX5_hasStringFor 11 = .ok (.isub, 1) := by decide +kernel
theorem dX5_hasStringFor_12 : decode cX5_hasStringFor 12 = .ok (.iaload, 1) := by decide +kernel
theorem dX5_hasStringFor_13 : decode cX5_hasStringFor 13 = .ok (.isub, 1) := by decide +kernel
theorem dX5_hasStringFor_14 : decode cX5_hasStringFor 14 = .ok (.invokestatic 34, 3) := by decide +kernel
theorem dX5_hasStringFor_17 : decode cX5_hasStringFor 17 = .ok (.aload_n 0, 1) := by decide +kernel
theorem dX5_hasStringFor_18 : decode cX5_hasStringFor 18 = .ok (.getfield 18, 3) := by decide +kernel
theorem dX5_hasStringFor_21 : decode cX5_hasStringFor 21 = .ok (.iload_n 1, 1) := by decide +kernel
theorem dX5_hasStringFor_22 : decode cX5_hasStringFor 22 = .ok (.iconst 1, 1) := by decide +kernel
theorem dX5_hasStringFor_23 : decode cX5_hasStringFor 23 = .ok (.isub, 1) := by decide +kernel
theorem dX5_hasStringFor_24 : decode cX5_hasStringFor 24 = .ok (.iaload, 1) := by decide +kernel
theorem dX5_hasStringFor_25 : decode cX5_hasStringFor 25 = .ok (.if_icmp .le 5, 3) := by decide +kernel
theorem dX5_hasStringFor_28 : decode cX5_hasStringFor 28 = .ok (.iconst 0, 1) := by decide +kernel
theorem dX5_hasStringFor_29 : decode cX5_hasStringFor 29 = .ok (.ireturn, 1) := by decide +kernel
theorem dX5_hasStringFor_30 : decode cX5_hasStringFor 30 = .ok (.iload_n 1, 1) := by decide +kernel
theorem dX5_hasStringFor_31 : decode cX5_hasStringFor 31 = .ok (.bipush 9, 2) := by decide +kernel
theorem dX5_hasStringFor_33 : decode cX5_hasStringFor 33 = .ok (.if_icmp .eq 25, 3) := by decide +kernel
theorem dX5_hasStringFor_36 : decode cX5_hasStringFor 36 = .ok (.iload_n 2, 1) := by decide +kernel
theorem dX5_hasStringFor_37 : decode cX5_hasStringFor 37 = .ok (.aload_n 0, 1) := by decide +kernel
theorem dX5_hasStringFor_38 : decode cX5_hasStringFor 38 = .ok (.getfield 9, 3) := by decide +kernel
theorem dX5_hasStringFor_41 : decode cX5_hasStringFor 41 = .ok (.iload_n 1, 1) := by decide +kernel
theorem dX5_hasStringFor_42 : decode cX5_hasStringFor 42 = .ok (.iconst 1, 1) := by decide +kernel
theorem dX5_hasStringFor_43 : decode cX5_hasStringFor 43 = .ok (.iadd, 1) := by decide +kernel
theorem dX5_hasStringFor_44 : decode cX5_hasStringFor 44 = .ok (.iaload, 1) := by decide +kernel
theorem dX5_hasStringFor_45 : decode cX5_hasStringFor 45 = .ok (.isub, 1) := by decide +kernel
theorem dX5_hasStringFor_46 : decode cX5_hasStringFor 46 = .ok (.invokestatic 34, 3) := by decide +kernel
theorem dX5_hasStringFor_49 : decode cX5_hasStringFor 49 = .ok (.aload_n 0, 1) := by decide +kernel
theorem dX5_hasStringFor_50 : decode cX5_hasStringFor 50 = .ok (.getfield 18, 3) := by decide +kernel
theorem dX5_hasStringFor_53 : decode cX5_hasStringFor 53 = .ok (.iload_n 1, 1) := by decide +kernel
theorem dX5_hasStringFor_54 : decode cX5_hasStringFor 54 = .ok (.iaload, 1) := by decide +kernel
theorem dX5_hasStringFor_55 : decode cX5_hasStringFor 55 = .ok (.if_icmp .gt 7, 3) := by decide +kernel
theorem dX5_hasStringFor_58 : decode cX5_hasStringFor 58 = .ok (.iconst 1, 1) := by decide +kernel
theorem dX5_hasStringFor_59 : decode cX5_hasStringFor 59 = .ok (.goto 4, 3) := by decide +kernel
theorem dX5_hasStringFor_62 : decode cX5_hasStringFor 62 = .ok (.iconst 0, 1) := by decide +kernel
theorem dX5_hasStringFor_63 : decode cX5_hasStringFor 63 = .ok (.ireturn, 1) := by decide +kernel
set_option maxRecDepth 20000 in
theorem ggX5_whyNot_X5_whyNotStep : GoodIn wsX5_whyNot wsX5_whyNotStep := goodIn_r _ [7, 8, 9, 10, 11, 12, 13, 14, 6, 15, 16, 1, 17, 18, 19, 20, 21, 43, 44, 45, 46, 47, 48, 49] (by decide +kernel) (by decide +kernel)
set_option maxRecDepth 20000 in
theorem gX5_whyNot_X5_whyNotStep : GoodIn wsX5_whyNot (wsV RX5 47 RX5 yX5_whyNotStep wsX5_whyNotStep) := goodIn_app (goodIn_of _ (by decide +kernel)) ggX5_whyNot_X5_whyNotStep
set_option maxRecDepth 20000 in
theorem ggX5_whyNot_X5_whyNotLetOut : GoodIn wsX5_whyNot wsX5_whyNotLetOut := goodIn_r _ [25, 26, 17, 43, 44, 45, 46, 47, 48, 49] (by decide +kernel) (by decide +kernel)
set_option maxRecDepth 20000 in
theorem gX5_whyNot_X5_whyNotLetOut : GoodIn wsX5_whyNot (wsV RX5 51 RX5 yX5_whyNotLetOut wsX5_whyNotLetOut) := goodIn_app (goodIn_of _ (by decide +kernel)) ggX5_whyNot_X5_whyNotLetOut
set_option maxRecDepth 20000 in
theorem ggX5_whyNot_X5_whyNotWind : GoodIn wsX5_whyNot wsX5_whyNotWind := goodIn_r _ [30, 17, 31, 32, 33, 6, 34, 35, 36, 37, 38, 1, 39, 40, 41, 42, 43, 44, 45, 46, 47, 48, 49] (by decide +kernel) (by decide +kernel)
set_option maxRecDepth 20000 in
theorem gX5_whyNot_X5_whyNotWind : GoodIn wsX5_whyNot (wsV RX5 54 RX5 yX5_whyNotWind wsX5_whyNotWind) := goodIn_app (goodIn_of _ (by decide +kernel)) ggX5_whyNot_X5_whyNotWind
theorem dX5_whyNot_0 : decode cX5_whyNot 0 = .ok (.iload_n 1, 1) := by decide +kernel
theorem dX5_whyNot_1 : decode cX5_whyNot 1 = .ok (.lookupswitch 107 #[(43, 79), (45, 85), (46, 91), (60, 65), (62, 51)], 51) := by decide +kernel
theorem dX5_whyNot_52 : decode cX5_whyNot 52 = .ok (.aload_n 0, 1) := by decide +kernel
theorem dX5_whyNot_53 : decode cX5_whyNot 53 = .ok (.iload_n 2, 1) := by decide +kernel
theorem dX5_whyNot_54 : decode cX5_whyNot 54 = .ok (.aload_n 0, 1) := by decide +kernel
theorem dX5_whyNot_55 : decode cX5_whyNot 55 = .ok (.getfield 9, 3) := by decide +kernel
theorem dX5_whyNot_58 : decode cX5_whyNot 58 = .ok (.iload_n 2, 1) := by decide +kernel
theorem dX5_whyNot_59 : decode cX5_whyNot 59 = .ok (.iaload, 1) := by decide +kernel
theorem dX5_whyNot_60 : decode cX5_whyNot 60 = .ok (.iload_n 3, 1) := by decide +kernel
theorem dX5_whyNot_61 : decode cX5_whyNot 61 = .ok (.iadd, 1) := by decide +kernel
theorem dX5_whyNot_62 : decode cX5_whyNot 62 = .ok (.invokevirtual 47, 3) := by decide +kernel
theorem dX5_whyNot_65 : decode cX5_whyNot 65 = .ok (.ireturn, 1) := by decide +kernel
theorem dX5_whyNot_66 : decode cX5_whyNot 66 = .ok (.aload_n 0, 1) := by decide +kernel
theorem dX5_whyNot_67 : decode cX5_whyNot 67 = .ok (.iload_n 2, 1) := by decide +kernel
theorem dX5_whyNot_68 : decode cX5_whyNot 68 = .ok (.aload_n 0, 1) := by decide +kernel
theorem dX5_whyNot_69 : decode cX5_whyNot 69 = .ok (.getfield 9, 3) := by decide +kernel
theorem dX5_whyNot_72 : decode cX5_whyNot 72 = .ok (.iload_n 2, 1) := by decide +kernel
theorem dX5_whyNot_73 : decode cX5_whyNot 73 = .ok (.iaload, 1) := by decide +kernel
theorem dX5_whyNot_74 : decode cX5_whyNot 74 = .ok (.iload_n 3, 1) := by decide +kernel
theorem dX5_whyNot_75 : decode cX5_whyNot 75 = .ok (.isub, 1) := by decide +kernel
theorem dX5_whyNot_76 : decode cX5_whyNot 76 = .ok (.invokevirtual 47, 3) := by decide +kernel
theorem dX5_whyNot_79 : decode cX5_whyNot 79 = .ok (.ireturn, 1) := by decide +kernel
theorem dX5_whyNot_80 : decode cX5_whyNot 80 = .ok (.aload_n 0, 1) := by decide +kernel
theorem dX5_whyNot_81 : decode cX5_whyNot 81 = .ok (.iload_n 2, 1) := by decide +kernel
theorem dX5_whyNot_82 : decode cX5_whyNot 82 = .ok (.invokevirtual 51, 3) := by decide +kernel
theorem dX5_whyNot_85 : decode cX5_whyNot 85 = .ok (.ireturn, 1) := by decide +kernel
theorem dX5_whyNot_86 : decode cX5_whyNot 86 = .ok (.aload_n 0, 1) := by decide +kernel
theorem dX5_whyNot_87 : decode cX5_whyNot 87 = .ok (.iload_n 2, 1) := by decide +kernel
theorem dX5_whyNot_88 : decode cX5_whyNot 88 = .ok (.invokevirtual 54, 3) := by decide +kernel
theorem dX5_whyNot_91 : decode cX5_whyNot 91 = .ok (.ireturn, 1) := by decide +kernel
theorem dX5_whyNot_92 : decode cX5_whyNot 92 = .ok (.aload_n 0, 1) := by decide +kernel
theorem dX5_whyNot_93 : decode cX5_whyNot 93 = .ok (.getfield 31, 3) := by decide +kernel
theorem dX5_whyNot_96 : decode cX5_whyNot 96 = .ok (.bipush 99, 2) := by decide +kernel
theorem dX5_whyNot_98 : decode cX5_whyNot 98 = .ok (.if_icmp .lt 8, 3) := by decide +kernel
theorem dX5_whyNot_101 : decode cX5_whyNot 101 = .ok (.bipush 6, 2) := by decide +kernel
theorem dX5_whyNot_103 : decode cX5_whyNot 103 = .ok (.goto 4, 3) := by decide +kernel
theorem dX5_whyNot_106 : decode cX5_whyNot 106 = .ok (.iconst 0, 1) := by decide +kernel
theorem dX5_whyNot_107 : decode cX5_whyNot 107 = .ok (.ireturn, 1) := by decide +kernel
theorem dX5_whyNot_108 : decode cX5_whyNot 108 = .ok (.iconst 0, 1) := by decide +kernel
theorem dX5_whyNot_109 : decode cX5_whyNot 109 = .ok (.ireturn, 1) := by decide +kernel
set_option maxRecDepth 20000 in
theorem ggX5_whyNotStep_X7_isWithin : GoodIn wsX5_whyNotStep wsX7_isWithin := goodIn_r _ [4] (by decide +kernel) (by decide +kernel)
set_option maxRecDepth 20000 in
theorem gX5_whyNotStep_X7_isWithin_n57 : GoodIn wsX5_whyNotStep (wsX7_isWithin) := ggX5_whyNotStep_X7_isWithin
set_option maxRecDepth 20000 in
theorem ggX5_whyNotStep_X5_planStep : GoodIn wsX5_whyNotStep wsX5_planStep := goodIn_r _ [9, 10, 11, 12, 13, 14, 15, 8, 16, 17, 18, 19, 20, 21, 22, 23] (by decide +kernel) (by decide +kernel)
set_option maxRecDepth 20000 in
theorem gX5_whyNotStep_X5_planStep : GoodIn wsX5_whyNotStep (wsV RX5 61 RX5 yX5_planStep wsX5_planStep) := goodIn_app (goodIn_of _ (by decide +kernel)) ggX5_whyNotStep_X5_planStep
theorem dX5_whyNotStep_0 : decode cX5_whyNotStep 0 = .ok (.iload_n 2, 1) := by decide +kernel
theorem dX5_whyNotStep_1 : decode cX5_whyNotStep 1 = .ok (.iconst 0, 1) := by decide +kernel
theorem dX5_whyNotStep_2 : decode cX5_whyNotStep 2 = .ok (.sipush 999, 3) := by decide +kernel
theorem dX5_whyNotStep_5 : decode cX5_whyNotStep 5 = .ok (.invokestatic 57, 3) := by decide +kernel
theorem dX5_whyNotStep_8 : decode cX5_whyNotStep 8 = .ok (.ifCond .ne 5, 3) := by decide +kernel
theorem dX5_whyNotStep_11 : decode cX5_whyNotStep 11 = .ok (.iconst 1, 1) := by decide +kernel
theorem dX5_whyNotStep_12 : decode cX5_whyNotStep 12 = .ok (.ireturn, 1) := by decide +kernel
theorem dX5_whyNotStep_13 : decode cX5_whyNotStep 13 = .ok (.aload_n 0, 1) := by decide +kernel
theorem dX5_whyNotStep_14 : decode cX5_whyNotStep 14 = .ok (.iload_n 1, 1) := by decide +kernel
theorem dX5_whyNotStep_15 : decode cX5_whyNotStep 15 = .ok (.iload_n 2, 1) := by decide +kernel
theorem dX5_whyNotStep_16 : decode cX5_whyNotStep 16 = .ok (.invokevirtual 61, 3) := by decide +kernel
theorem dX5_whyNotStep_19 : decode cX5_whyNotStep 19 = .ok (.iconst 1, 1) := by decide +kernel
theorem dX5_whyNotStep_20 : decode cX5_whyNotStep 20 = .ok (.iload_n 1, 1) := by decide +kernel
theorem dX5_whyNotStep_21 : decode cX5_whyNotStep 21 = .ok (.ishl, 1) := by decide +kernel
theorem dX5_whyNotStep_22 : decode cX5_whyNotStep 22 = .ok (.ior, 1) := by decide +kernel
theorem dX5_whyNotStep_23 : decode cX5_whyNotStep 23 = .ok (.istore_n 3, 1) := by decide +kernel
theorem dX5_whyNotStep_24 : decode cX5_whyNotStep 24 = .ok (.iload_n 3, 1) := by decide +kernel
theorem dX5_whyNotStep_25 : decode cX5_whyNotStep 25 = .ok (.aload_n 0, 1) := by decide +kernel
theorem dX5_whyNotStep_26 : decode cX5_whyNotStep 26 = .ok (.getfield 28, 3) := by decide +kernel
theorem dX5_whyNotStep_29 : decode cX5_whyNotStep 29 = .ok (.iand, 1) := by decide +kernel
theorem dX5_whyNotStep_30 : decode cX5_whyNotStep 30 = .ok (.ifCond .eq 7, 3) := by decide +kernel
theorem dX5_whyNotStep_33 : decode cX5_whyNotStep 33 = .ok (.iconst 2, 1) := by decide +kernel
theorem dX5_whyNotStep_34 : decode cX5_whyNotStep 34 = .ok (.goto 4, 3) := by decide +kernel
theorem dX5_whyNotStep_37 : decode cX5_whyNotStep 37 = .ok (.iconst 0, 1) := by decide +kernel
theorem dX5_whyNotStep_38 : decode cX5_whyNotStep 38 = .ok (.ireturn, 1) := by decide +kernel
theorem dX5_whyNotLetOut_0 : decode cX5_whyNotLetOut 0 = .ok (.iload_n 1, 1) := by decide +kernel
theorem dX5_whyNotLetOut_1 : decode cX5_whyNotLetOut 1 = .ok (.bipush 9, 2) := by decide +kernel
theorem dX5_whyNotLetOut_3 : decode cX5_whyNotLetOut 3 = .ok (.if_icmp .lt 5, 3) := by decide +kernel
theorem dX5_whyNotLetOut_6 : decode cX5_whyNotLetOut 6 = .ok (.iconst 3, 1) := by decide +kernel
theorem dX5_whyNotLetOut_7 : decode cX5_whyNotLetOut 7 = .ok (.ireturn, 1) := by decide +kernel
theorem dX5_whyNotLetOut_8 : decode cX5_whyNotLetOut 8 = .ok (.aload_n 0, 1) := by decide +kernel
theorem dX5_whyNotLetOut_9 : decode cX5_whyNotLetOut 9 = .ok (.getfield 24, 3) := by decide +kernel
theorem dX5_whyNotLetOut_12 : decode cX5_whyNotLetOut 12 = .ok (.ifCond .ne 5, 3) := by decide +kernel
theorem dX5_whyNotLetOut_15 : decode cX5_whyNotLetOut 15 = .ok (.iconst 4, 1) := by decide +kernel
theorem dX5_whyNotLetOut_16 : decode cX5_whyNotLetOut 16 = .ok (.ireturn, 1) := by decide +kernel
theorem dX5_whyNotLetOut_17 : decode cX5_whyNotLetOut 17 = .ok (.aload_n 0, 1) := by decide +kernel
theorem dX5_whyNotLetOut_18 : decode cX5_whyNotLetOut 18 = .ok (.getfield 18, 3) := by decide +kernel
theorem dX5_whyNotLetOut_21 : decode cX5_whyNotLetOut 21 = .ok (.iload_n 1, 1) := by decide +kernel
theorem dX5_whyNotLetOut_22 : decode cX5_whyNotLetOut 22 = .ok (.iaload, 1) := by decide +kernel
theorem dX5_whyNotLetOut_23 : decode cX5_whyNotLetOut 23 = .ok (.bipush 99, 2) := by decide +kernel
theorem dX5_whyNotLetOut_25 : decode cX5_whyNotLetOut 25 = .ok (.if_icmp .lt 7, 3) := by decide +kernel
theorem dX5_whyNotLetOut_28 : decode cX5_whyNotLetOut 28 = .ok (.iconst 5, 1) := by decide +kernel
theorem dX5_whyNotLetOut_29 : decode cX5_whyNotLetOut 29 = .ok (.goto 4, 3) := by decide +kernel
theorem dX5_whyNotLetOut_32 : decode cX5_whyNotLetOut 32 = .ok (.iconst 0, 1) := by decide +kernel
theorem dX5_whyNotLetOut_33 : decode cX5_whyNotLetOut 33 = .ok (.ireturn, 1) := by decide +kernel
set_option maxRecDepth 20000 in
theorem ggX5_whyNotWind_X5_isTaut : GoodIn wsX5_whyNotWind wsX5_isTaut := goodIn_r _ [6, 1, 7, 8, 9, 5, 10, 11, 12, 13, 14, 15, 16, 17, 18, 19, 20, 21, 22] (by decide +kernel) (by decide +kernel)
set_option maxRecDepth 20000 in
theorem gX5_whyNotWind_X5_isTaut : GoodIn wsX5_whyNotWind (wsV RX5 43 RX5 yX5_isTaut wsX5_isTaut) := goodIn_app (goodIn_of _ (by decide +kernel)) ggX5_whyNotWind_X5_isTaut
theorem dX5_whyNotWind_0 : decode cX5_whyNotWind 0 = .ok (.iload_n 1, 1) := by decide +kernel
theorem dX5_whyNotWind_1 : decode cX5_whyNotWind 1 = .ok (.bipush 9, 2) := by decide +kernel
theorem dX5_whyNotWind_3 : decode cX5_whyNotWind 3 = .ok (.if_icmp .lt 5, 3) := by decide +kernel
theorem dX5_whyNotWind_6 : decode cX5_whyNotWind 6 = .ok (.iconst 3, 1) := by decide +kernel
theorem dX5_whyNotWind_7 : decode cX5_whyNotWind 7 = .ok (.ireturn, 1) := by decide +kernel
theorem dX5_whyNotWind_8 : decode cX5_whyNotWind 8 = .ok (.aload_n 0, 1) := by decide +kernel
theorem dX5_whyNotWind_9 : decode cX5_whyNotWind 9 = .ok (.iload_n 1, 1) := by decide +kernel
theorem dX5_whyNotWind_10 : decode cX5_whyNotWind 10 = .ok (.invokevirtual 43, 3) := by decide +kernel
theorem dX5_whyNotWind_13 : decode cX5_whyNotWind 13 = .ok (.ifCond .ne 13, 3) := by decide +kernel
theorem dX5_whyNotWind_16 : decode cX5_whyNotWind 16 = .ok (.aload_n 0, 1) := by decide +kernel
theorem dX5_whyNotWind_17 : decode cX5_whyNotWind 17 = .ok (.getfield 18, 3) := by decide +kernel
theorem dX5_whyNotWind_20 : decode cX5_whyNotWind 20 = .ok (.iload_n 1, 1) := by decide +kernel
theorem dX5_whyNotWind_21 : decode cX5_whyNotWind 21 = .ok (.iaload, 1) := by decide +kernel
theorem dX5_whyNotWind_22 : decode cX5_whyNotWind 22 = .ok (.iconst 1, 1) := by decide +kernel
theorem dX5_whyNotWind_23 : decode cX5_whyNotWind 23 = .ok (.if_icmp .gt 7, 3) := by decide +kernel
theorem dX5_whyNotWind_26 : decode cX5_whyNotWind 26 = .ok (.iconst 5, 1) := by decide +kernel
theorem dX5_whyNotWind_27 : decode cX5_whyNotWind 27 = .ok (.goto 4, 3) := by decide +kernel
theorem dX5_whyNotWind_30 : decode cX5_whyNotWind 30 = .ok (.iconst 0, 1) := by decide +kernel
theorem dX5_whyNotWind_31 : decode cX5_whyNotWind 31 = .ok (.ireturn, 1) := by decide +kernel
set_option maxRecDepth 20000 in
theorem ggX5_act_X5_step : GoodIn wsX5_act wsX5_step := goodIn_r _ [6, 1, 7, 8, 9, 10, 5, 11, 12, 13, 14, 15, 16, 64, 65, 66, 67, 68, 69, 70] (by decide +kernel) (by decide +kernel)
set_option maxRecDepth 20000 in
theorem gX5_act_X5_step : GoodIn wsX5_act (wsV RX5 64 RX5 yX5_step wsX5_step) := goodIn_app (goodIn_of _ (by decide +kernel)) ggX5_act_X5_step
set_option maxRecDepth 20000 in
theorem ggX5_act_X5_turnHold : GoodIn wsX5_act wsX5_turnHold := goodIn_r _ [20, 21, 64, 65, 66, 67, 68, 69, 70] (by decide +kernel) (by decide +kernel)
set_option maxRecDepth 20000 in
theorem gX5_act_X5_turnHold : GoodIn wsX5_act (wsV RX5 67 RX5 yX5_turnHold wsX5_turnHold) := goodIn_app (goodIn_of _ (by decide +kernel)) ggX5_act_X5_turnHold
set_option maxRecDepth 20000 in
theorem ggX5_act_X5_squeeze : GoodIn wsX5_act wsX5_squeeze := goodIn_r _ [25, 26, 27, 28, 5, 29, 30, 31, 32, 33, 12, 34, 35, 36, 37, 1, 38, 39, 40, 41, 42, 43, 44, 45, 46, 47, 48, 49, 64, 65, 66, 67, 68, 69, 70] (by decide +kernel) (by decide +kernel)
set_option maxRecDepth 20000 in
theorem gX5_act_X5_squeeze : GoodIn wsX5_act (wsV RX5 71 RX5 yX5_squeeze wsX5_squeeze) := goodIn_app (goodIn_of _ (by decide +kernel)) ggX5_act_X5_squeeze
set_option maxRecDepth 20000 in
theorem ggX5_act_X5_letOut : GoodIn wsX5_act wsX5_letOut := goodIn_r _ [53, 12, 54, 64, 65, 66, 67, 68, 69, 70] (by decide +kernel) (by decide +kernel)
set_option maxRecDepth 20000 in
theorem gX5_act_X5_letOut : GoodIn wsX5_act (wsV RX5 75 RX5 yX5_letOut wsX5_letOut) := goodIn_app (goodIn_of _ (by decide +kernel)) ggX5_act_X5_letOut
set_option maxRecDepth 20000 in
theorem ggX5_act_X5_windIn : GoodIn wsX5_act wsX5_windIn := goodIn_r _ [58, 12, 54, 47, 48, 40, 49, 64, 65, 66, 67, 68, 69, 70] (by decide +kernel) (by decide +kernel)
set_option maxRecDepth 20000 in
theorem gX5_act_X5_windIn : GoodIn wsX5_act (wsV RX5 78 RX5 yX5_windIn wsX5_windIn) := goodIn_app (goodIn_of _ (by decide +kernel)) ggX5_act_X5_windIn
set_option maxRecDepth 20000 in
theorem ggX5_act_X5_nextDay : GoodIn wsX5_act wsX5_nextDay := goodIn_r _ [62, 63, 46, 64, 65, 66, 67, 68, 69, 70] (by decide +kernel) (by decide +kernel)
set_option maxRecDepth 20000 in
theorem gX5_act_X5_nextDay : GoodIn wsX5_act (wsV RX5 81 RX5 yX5_nextDay wsX5_nextDay) := goodIn_app (goodIn_of _ (by decide +kernel)) ggX5_act_X5_nextDay
theorem dX5_act_0 : decode cX5_act 0 = .ok (.iload_n 1, 1) := by decide +kernel
theorem dX5_act_1 : decode cX5_act 1 = .ok (.lookupswitch 120 #[(33, 95), (35, 87), (43, 104), (45, 112), (60, 73), (62, 59)], 59) := by decide +kernel
theorem dX5_act_60 : decode cX5_act 60 = .ok (.aload_n 0, 1) := by decide +kernel
theorem dX5_act_61 : decode cX5_act 61 = .ok (.iload_n 2, 1) := by decide +kernel
theorem dX5_act_62 : decode cX5_act 62 = .ok (.aload_n 0, 1) := by decide +kernel
theorem dX5_act_63 : decode cX5_act 63 = .ok (.getfield 9, 3) := by decide +kernel
theorem dX5_act_66 : decode cX5_act 66 = .ok (.iload_n 2, 1) := by decide +kernel
theorem dX5_act_67 : decode cX5_act 67 = .ok (.iaload, 1) := by decide +kernel
theorem dX5_act_68 : decode cX5_act 68 = .ok (.iload_n 3, 1) := by decide +kernel
theorem dX5_act_69 : decode cX5_act 69 = .ok (.iadd, 1) := by decide +kernel
theorem dX5_act_70 : decode cX5_act 70 = .ok (.invokevirtual 64, 3) := by decide +kernel
theorem dX5_act_73 : decode cX5_act 73 = .ok (.ireturn, 1) := by decide +kernel
theorem dX5_act_74 : decode cX5_act 74 = .ok (.aload_n 0, 1) := by decide +kernel
theorem dX5_act_75 : decode cX5_act 75 = .ok (.iload_n 2, 1) := by decide +kernel
theorem dX5_act_76 : decode cX5_act 76 = .ok (.aload_n 0, 1) := by decide +kernel
theorem dX5_act_77 : decode cX5_act 77 = .ok (.getfield 9, 3) := by decide +kernel
theorem dX5_act_80 : decode cX5_act 80 = .ok (.iload_n 2, 1) := by decide +kernel
theorem dX5_act_81 : decode cX5_act 81 = .ok (.iaload, 1) := by decide +kernel
theorem dX5_act_82 : decode cX5_act 82 = .ok (.iload_n 3, 1) := by decide +kernel
theorem dX5_act_83 : decode cX5_act 83 = .ok (.isub, 1) := by decide +kernel
theorem dX5_act_84 : decode cX5_act 84 = .ok (.invokevirtual 64, 3) := by decide +kernel
theorem dX5_act_87 : decode cX5_act 87 = .ok (.ireturn, 1) := by decide +kernel
theorem dX5_act_88 : decode cX5_act 88 = .ok (.aload_n 0, 1) := by decide +kernel
theorem dX5_act_89 : decode cX5_act 89 = .ok (.iload_n 2, 1) := by decide +kernel
theorem dX5_act_90 : decode cX5_act 90 = .ok (.invokevirtual 67, 3) := by decide +kernel
theorem dX5_act_93 : decode cX5_act 93 = .ok (.goto 32, 3) := by decide +kernel
theorem dX5_act_96 : decode cX5_act 96 = .ok (.aload_n 0, 1) := by decide +kernel
theorem dX5_act_97 : decode cX5_act 97 = .ok (.iload_n 2, 1) := by decide +kernel
theorem dX5_act_98 : decode cX5_act 98 = .ok (.iload_n 3, 1) := by decide +kernel
theorem dX5_act_99 : decode cX5_act 99 = .ok (.invokevirtual 71, 3) := by decide +kernel
theorem dX5_act_102 : decode cX5_act 102 = .ok (.goto 23, 3) := by decide +kernel
theorem dX5_act_105 : decode cX5_act 105 = .ok (.aload_n 0, 1) := by decide +kernel
theorem dX5_act_106 : decode cX5_act 106 = .ok (.iload_n 2, 1) := by decide +kernel
theorem dX5_act_107 : decode cX5_act 107 = .ok (.invokevirtual 75, 3) := by decide +kernel
theorem dX5_act_110 : decode cX5_act 110 = .ok (.goto 15, 3) := by decide +kernel
theorem dX5_act_113 : decode cX5_act 113 = .ok (.aload_n 0, 1) := by decide +kernel
theorem dX5_act_114 : decode cX5_act 114 = .ok (.iload_n 2, 1) := by decide +kernel
theorem dX5_act_115 : decode cX5_act 115 = .ok (.invokevirtual 78, 3) := by decide +kernel
theorem dX5_act_118 : decode cX5_act 118 = .ok (.goto 7, 3) := by decide +kernel
theorem dX5_act_121 : decode cX5_act 121 = .ok (.aload_n 0, 1) := by decide +kernel
theorem dX5_act_122 : decode cX5_act 122 = .ok (.invokevirtual 81, 3) := by decide +kernel
theorem dX5_act_125 : decode cX5_act 125 = .ok (.iconst 0, 1) := by decide +kernel
theorem dX5_act_126 : decode cX5_act 126 = .ok (.ireturn, 1) := by decide +kernel
set_option maxRecDepth 20000 in
theorem ggX5_step_X5_planStep : GoodIn wsX5_step wsX5_planStep := goodIn_r _ [7, 2, 1, 8, 9, 10, 11, 6, 12, 13, 14, 15, 16, 17, 18, 19] (by decide +kernel) (by decide +kernel)
set_option maxRecDepth 20000 in
theorem gX5_step_X5_planStep : GoodIn wsX5_step (wsV RX5 61 RX5 yX5_planStep wsX5_planStep) := goodIn_app (goodIn_of _ (by decide +kernel)) ggX5_step_X5_planStep
theorem dX5_step_0 : decode cX5_step 0 = .ok (.aload_n 0, 1) := by decide +kernel
theorem dX5_step_1 : decode cX5_step 1 = .ok (.iload_n 1, 1) := by decide +kernel
theorem dX5_step_2 : decode cX5_step 2 = .ok (.iload_n 2, 1) := by decide +kernel
theorem dX5_step_3 : decode cX5_step 3 = .ok (.invokevirtual 61, 3) := by decide +kernel
theorem dX5_step_6 : decode cX5_step 6 = .ok (.istore_n 3, 1) := by decide +kernel
theorem dX5_step_7 : decode cX5_step 7 = .ok (.iconst 0, 1) := by decide +kernel
theorem dX5_step_8 : decode cX5_step 8 = .ok (.istore 4, 2) := by decide +kernel
theorem dX5_step_10 : decode cX5_step 10 = .ok (.iload 4, 2) := by decide +kernel
theorem dX5_step_12 : decode cX5_step 12 = .ok (.bipush 10, 2) := by decide +kernel
theorem dX5_step_14 : decode cX5_step 14 = .ok (.if_icmp .ge 23, 3) := by decide +kernel
theorem dX5_step_17 : decode cX5_step 17 = .ok (.aload_n 0, 1) := by decide +kernel
theorem dX5_step_18 : decode cX5_step 18 = .ok (.getfield 9, 3) := by decide +kernel
theorem dX5_step_21 : decode cX5_step 21 = .ok (.iload 4, 2) := by decide +kernel
theorem dX5_step_23 : decode cX5_step 23 = .ok (.aload_n 0, 1) := by decide +kernel
theorem dX5_step_24 : decode cX5_step 24 = .ok (.getfield 21, 3) := by decide +kernel
theorem dX5_step_27 : decode cX5_step 27 = .ok (.iload 4, 2) := by decide +kernel
theorem dX5_step_29 : decode cX5_step 29 = .ok (.iaload, 1) := by decide +kernel
theorem dX5_step_30 : decode cX5_step 30 = .ok (.iastore, 1) := by decide +kernel
theorem dX5_step_31 : decode cX5_step 31 = .ok (.iinc 4 1, 3) := by decide +kernel
theorem dX5_step_34 : decode cX5_step 34 = .ok (.goto (-24), 3) := by decide +kernel
theorem dX5_step_37 : decode cX5_step 37 = .ok (.iload_n 3, 1) := by decide +kernel
theorem dX5_step_38 : decode cX5_step 38 = .ok (.ireturn, 1) := by decide +kernel
set_option maxRecDepth 20000 in
theorem ggX5_planStep_X5_planDraw : GoodIn wsX5_planStep wsX5_planDraw := goodIn_r _ [8, 1, 9, 10, 11, 12, 13, 14, 15] (by decide +kernel) (by decide +kernel)
set_option maxRecDepth 20000 in
theorem gX5_planStep_X5_planDraw : GoodIn wsX5_planStep (wsV RX5 84 RX5 yX5_planDraw wsX5_planDraw) := goodIn_app (goodIn_of _ (by decide +kernel)) ggX5_planStep_X5_planDraw
theorem dX5_planStep_0 : decode cX5_planStep 0 = .ok (.iconst 0, 1) := by decide +kernel
theorem dX5_planStep_1 : decode cX5_planStep 1 = .ok (.istore_n 3, 1) := by decide +kernel
theorem dX5_planStep_2 : decode cX5_planStep 2 = .ok (.iload_n 3, 1) := by decide +kernel
theorem dX5_planStep_3 : decode cX5_planStep 3 = .ok (.bipush 10, 2) := by decide +kernel
theorem dX5_planStep_5 : decode cX5_planStep 5 = .ok (.if_icmp .ge 21, 3) := by decide +kernel
theorem dX5_planStep_8 : decode cX5_planStep 8 = .ok (.aload_n 0, 1) := by decide +kernel
theorem dX5_planStep_9 : decode cX5_planStep 9 = .ok (.getfield 21, 3) := by decide +kernel
theorem dX5_planStep_12 : decode cX5_planStep 12 = .ok (.iload_n 3, 1) := by decide +kernel
theorem dX5_planStep_13 : decode cX5_planStep 13 = .ok (.aload_n 0, 1) := by decide +kernel
theorem dX5_planStep_14 : decode cX5_planStep 14 = .ok (.getfield 9, 3) := by decide +kernel
theorem dX5_planStep_17 : decode cX5_planStep 17 = .ok (.iload_n 3, 1) := by decide +kernel
theorem dX5_planStep_18 : decode cX5_planStep 18 = .ok (.iaload, 1) := by decide +kernel
theorem dX5_planStep_19 : decode cX5_planStep 19 = .ok (.iastore, 1) := by decide +kernel
theorem dX5_planStep_20 : decode cX5_planStep 20 = .ok (.iinc 3 1, 3) := by decide +kernel
theorem dX5_planStep_23 : decode cX5_planStep 23 = .ok (.goto (-21), 3) := by decide +kernel
theorem dX5_planStep_26 : decode cX5_planStep 26 = .ok (.aload_n 0, 1) := by decide +kernel
theorem dX5_planStep_27 : decode cX5_planStep 27 = .ok (.getfield 21, 3) := by decide +kernel
theorem dX5_planStep_30 : decode cX5_planStep 30 = .ok (.iload_n 1, 1) := by decide +kernel
theorem dX5_planStep_31 : decode cX5_planStep 31 = .ok (.iload_n 2, 1) := by decide +kernel
theorem dX5_planStep_32 : decode cX5_planStep 32 = .ok (.iastore, 1) := by decide +kernel
theorem dX5_planStep_33 : decode cX5_planStep 33 = .ok (.iconst 0, 1) := by decide +kernel
theorem dX5_planStep_34 : decode cX5_planStep 34 = .ok (.istore_n 3, 1) := by decide +kernel
theorem dX5_planStep_35 : decode cX5_planStep 35 = .ok (.iload_n 1, 1) := by decide +kernel
theorem dX5_planStep_36 : decode cX5_planStep 36 = .ok (.iconst 1, 1) := by decide +kernel
theorem dX5_planStep_37 : decode cX5_planStep 37 = .ok (.iadd, 1) := by decide +kernel
theorem dX5_planStep_38 : decode cX5_planStep 38 = .ok (.istore 4, 2) := by decide +kernel
theorem dX5_planStep_40 : decode cX5_planStep 40 = .ok (.iload 4, 2) := by decide +kernel
theorem dX5_planStep_42 : decode cX5_planStep 42 = .ok (.bipush 10, 2) := by decide +kernel
theorem dX5_planStep_44 : decode cX5_planStep 44 = .ok (.if_icmp .ge 38, 3) := by decide +kernel
theorem dX5_planStep_47 : decode cX5_planStep 47 = .ok (.aload_n 0, 1) := by decide +kernel
theorem dX5_planStep_48 : decode cX5_planStep 48 = .ok (.iload 4, 2) := by decide +kernel
theorem dX5_planStep_50 : decode cX5_planStep 50 = .ok (.iconst 1, 1) := by decide +kernel
theorem dX5_planStep_51 : decode cX5_planStep 51 = .ok (.isub, 1) := by decide +kernel
theorem dX5_planStep_52 : decode cX5_planStep 52 = .ok (.iload 4, 2) := by decide +kernel
theorem dX5_planStep_54 : decode cX5_planStep 54 = .ok (.aload_n 0, 1) := by decide +kernel
theorem dX5_planStep_55 : decode cX5_planStep 55 = .ok (.getfield 18, 3) := by decide +kernel
theorem dX5_planStep_58 : decode cX5_planStep 58 = .ok (.iload 4, 2) := by decide +kernel
theorem dX5_planStep_60 : decode cX5_planStep 60 = .ok (.iconst 1, 1) := by decide +kernel
theorem dX5_planStep_61 : decode cX5_planStep 61 = .ok (.isub, 1) := by decide +kernel
theorem dX5_planStep_62 : decode cX5_planStep 62 = .ok (.iaload, 1) := by decide +kernel
theorem dX5_planStep_63 : decode cX5_planStep 63 = .ok (.invokevirtual 84, 3) := by decide +kernel
theorem dX5_planStep_66 : decode cX5_planStep 66 = .ok (.ifCond .eq 16, 3) := by decide +kernel
theorem dX5_planStep_69 : decode cX5_planStep 69 = .ok (.iload_n 3, 1) := by decide +kernel
theorem dX5_planStep_70 : decode cX5_planStep 70 = .ok (.iconst 1, 1) := by decide +kernel
theorem dX5_planStep_71 : decode cX5_planStep 71 = .ok (.iload 4, 2) := by decide +kernel
theorem dX5_planStep_73 : decode cX5_planStep 73 = .ok (.ishl, 1) := by decide +kernel
theorem dX5_planStep_74 : decode cX5_planStep 74 = .ok (.ior, 1) := by decide +kernel
theorem dX5_planStep_75 : decode cX5_planStep 75 = .ok (.istore_n 3, 1) := by decide +kernel
theorem dX5_planStep_76 : decode cX5_planStep 76 = .ok (.iinc 4 1, 3) := by decide +kernel
theorem dX5_planStep_79 : decode cX5_planStep 79 = .ok (.goto (-39), 3) := by decide +kernel
theorem dX5_planStep_82 : decode cX5_planStep 82 = .ok (.iload_n 1, 1) := by decide +kernel
theorem dX5_planStep_83 : decode cX5_planStep 83 = .ok (.iconst 1, 1) := by decide +kernel
theorem dX5_planStep_84 : decode cX5_planStep 84 = .ok (.isub, 1) := by decide +kernel
theorem dX5_planStep_85 : decode cX5_planStep 85 = .ok (.istore 4, 2) := by decide +kernel
theorem dX5_planStep_87 : decode cX5_planStep 87 = .ok (.iload 4, 2) := by decide +kernel
theorem dX5_planStep_89 : decode cX5_planStep 89 = .ok (.ifCond .lt 36, 3) := by decide +kernel
theorem dX5_planStep_92 : decode cX5_planStep 92 = .ok (.aload_n 0, 1) := by decide +kernel
theorem dX5_planStep_93 : decode cX5_planStep 93 = .ok (.iload 4, 2) := by decide +kernel
theorem dX5_planStep_95 : decode cX5_planStep 95 = .ok (.iconst 1, 1) := by decide +kernel
theorem dX5_planStep_96 : decode cX5_planStep 96 = .ok (.iadd, 1) := by decide +kernel
theorem dX5_planStep_97 : decode cX5_planStep 97 = .ok (.iload 4, 2) := by decide +kernel
theorem dX5_planStep_99 : decode cX5_planStep 99 = .ok (.aload_n 0, 1) := by decide +kernel
theorem dX5_planStep_100 : decode cX5_planStep 100 = .ok (.getfield 18, 3) := by decide +kernel
theorem dX5_planStep_103 : decode cX5_planStep 103 = .ok (.iload 4, 2) := by decide +kernel
theorem dX5_planStep_105 : decode cX5_planStep 105 = .ok (.iaload, 1) := by decide +kernel
theorem dX5_planStep_106 : decode cX5_planStep 106 = .ok (.invokevirtual 84, 3) := by decide +kernel
theorem dX5_planStep_109 : decode cX5_planStep 109 = .ok (.ifCond .eq 16, 3) := by decide +kernel
theorem dX5_planStep_112 : decode cX5_planStep 112 = .ok (.iload_n 3, 1) := by decide +kernel
theorem dX5_planStep_113 : decode cX5_planStep 113 = .ok (.iconst 1, 1) := by decide +kernel
theorem dX5_planStep_114 : decode cX5_planStep 114 = .ok (.iload 4, 2) := by decide +kernel
theorem dX5_planStep_116 : decode cX5_planStep 116 = .ok (.ishl, 1) := by decide +kernel
theorem dX5_planStep_117 : decode cX5_planStep 117 = .ok (.ior, 1) := by decide +kernel
theorem dX5_planStep_118 : decode cX5_planStep 118 = .ok (.istore_n 3, 1) := by decide +kernel
theorem dX5_planStep_119 : decode cX5_planStep 119 = .ok (.iinc 4 (-1), 3) := by decide +kernel
theorem dX5_planStep_122 : decode cX5_planStep 122 = .ok (.goto (-35), 3) := by decide +kernel
theorem dX5_planStep_125 : decode cX5_planStep 125 = .ok (.iload_n 3, 1) := by decide +kernel
theorem dX5_planStep_126 : decode cX5_planStep 126 = .ok (.ireturn, 1) := by decide +kernel
theorem dX5_planDraw_0 : decode cX5_planDraw 0 = .ok (.aload_n 0, 1) := by decide +kernel
theorem dX5_planDraw_1 : decode cX5_planDraw 1 = .ok (.getfield 21, 3) := by decide +kernel
theorem dX5_planDraw_4 : decode cX5_planDraw 4 = .ok (.iload_n 2, 1) := by decide +kernel
theorem dX5_planDraw_5 : decode cX5_planDraw 5 = .ok (.iaload, 1) := by decide +kernel
theorem dX5_planDraw_6 : decode cX5_planDraw 6 = .ok (.aload_n 0, 1) := by decide +kernel
theorem dX5_planDraw_7 : decode cX5_planDraw 7 = .ok (.getfield 21, 3) := by decide +kernel
theorem dX5_planDraw_10 : decode cX5_planDraw 10 = .ok (.iload_n 1, 1) := by decide +kernel
theorem dX5_planDraw_11 : decode cX5_planDraw 11 = .ok (.iaload, 1) := by decide +kernel
theorem dX5_planDraw_12 : decode cX5_planDraw 12 = .ok (.isub, 1) := by decide +kernel
theorem dX5_planDraw_13 : decode cX5_planDraw 13 = .ok (.iload_n 3, 1) := by decide +kernel
theorem dX5_planDraw_14 : decode cX5_planDraw 14 = .ok (.if_icmp .le 19, 3) := by decide +kernel
theorem dX5_planDraw_17 : decode cX5_planDraw 17 = .ok (.aload_n 0, 1) := by decide +kernel
theorem dX5_planDraw_18 : decode cX5_planDraw 18 = .ok (.getfield 21, 3) := by decide +kernel
theorem dX5_planDraw_21 : decode cX5_planDraw 21 = .ok (.iload_n 2, 1) := by decide +kernel
theorem dX5_planDraw_22 : decode cX5_planDraw 22 = .ok (.aload_n 0, 1) := by decide +kernel
theorem dX5_planDraw_23 : decode cX5_planDraw 23 = .ok (.getfield 21, 3) := by decide +kernel
theorem dX5_planDraw_26 : decode cX5_planDraw 26 = .ok (.iload_n 1, 1) := by decide +kernel
theorem dX5_planDraw_27 : decode cX5_planDraw 27 = .ok (.iaload, 1) := by decide +kernel
theorem dX5_planDraw_28 : decode cX5_planDraw 28 = .ok (.iload_n 3, 1) := by decide +kernel
theorem dX5_planDraw_29 : decode cX5_planDraw 29 = .ok (.iadd, 1) := by decide +kernel
theorem dX5_planDraw_30 : decode cX5_planDraw 30 = .ok (.iastore, 1) := by decide +kernel
theorem dX5_planDraw_31 : decode cX5_planDraw 31 = .ok (.iconst 1, 1) := by decide +kernel
theorem dX5_planDraw_32 : decode cX5_planDraw 32 = .ok (.ireturn, 1) := by decide +kernel
theorem dX5_planDraw_33 : decode cX5_planDraw 33 = .ok (.aload_n 0, 1) := by decide +kernel
theorem dX5_planDraw_34 : decode cX5_planDraw 34 = .ok (.getfield 21, 3) := by decide +kernel
theorem dX5_planDraw_37 : decode cX5_planDraw 37 = .ok (.iload_n 1, 1) := by decide +kernel
theorem dX5_planDraw_38 : decode cX5_planDraw 38 = .ok (.iaload, 1) := by decide +kernel
theorem dX5_planDraw_39 : decode cX5_planDraw 39 = .ok (.aload_n 0, 1) := by decide +kernel
theorem dX5_planDraw_40 : decode cX5_planDraw 40 = .ok (.getfield 21, 3) := by decide +kernel
theorem dX5_planDraw_43 : decode cX5_planDraw 43 = .ok (.iload_n 2, 1) := by decide +kernel
theorem dX5_planDraw_44 : decode cX5_planDraw 44 = .ok (.iaload, 1) := by decide +kernel
theorem dX5_planDraw_45 : decode cX5_planDraw 45 = .ok (.isub, 1) := by decide +kernel
theorem dX5_planDraw_46 : decode cX5_planDraw 46 = .ok (.iload_n 3, 1) := by decide +kernel
theorem dX5_planDraw_47 : decode cX5_planDraw 47 = .ok (.if_icmp .le 19, 3) := by decide +kernel
theorem dX5_planDraw_50 : decode cX5_planDraw 50 = .ok (.aload_n 0, 1) := by decide +kernel
theorem dX5_planDraw_51 : decode cX5_planDraw 51 = .ok (.getfield 21, 3) := by decide +kernel
theorem dX5_planDraw_54 : decode cX5_planDraw 54 = .ok (.iload_n 2, 1) := by decide +kernel
theorem dX5_planDraw_55 : decode cX5_planDraw 55 = .ok (.aload_n 0, 1) := by decide +kernel
theorem dX5_planDraw_56 : decode cX5_planDraw 56 = .ok (.getfield 21, 3) := by decide +kernel
theorem dX5_planDraw_59 : decode cX5_planDraw 59 = .ok (.iload_n 1, 1) := by decide +kernel
theorem dX5_planDraw_60 : decode cX5_planDraw 60 = .ok (.iaload, 1) := by decide +kernel
theorem dX5_planDraw_61 : decode cX5_planDraw 61 = .ok (.iload_n 3, 1) := by decide +kernel
theorem dX5_planDraw_62 : decode cX5_planDraw 62 = .ok (.isub, 1) := by decide +kernel
theorem dX5_planDraw_63 : decode cX5_planDraw 63 = .ok (.iastore, 1) := by decide +kernel
theorem dX5_planDraw_64 : decode cX5_planDraw 64 = .ok (.iconst 1, 1) := by decide +kernel
theorem dX5_planDraw_65 : decode cX5_planDraw 65 = .ok (.ireturn, 1) := by decide +kernel
theorem dX5_planDraw_66 : decode cX5_planDraw 66 = .ok (.iconst 0, 1) := by decide +kernel
theorem dX5_planDraw_67 : decode cX5_planDraw 67 = .ok (.ireturn, 1) := by decide +kernel
set_option maxRecDepth 20000 in
theorem ggX5_squeeze_X5_lossBy : GoodIn wsX5_squeeze wsX5_lossBy := goodIn_r _ [5, 6, 7, 8, 4, 9, 10, 11, 12, 13, 14, 15, 16, 17, 18, 19, 28, 29, 30, 31, 32, 33, 34] (by decide +kernel) (by decide +kernel)
set_option maxRecDepth 20000 in
theorem gX5_squeeze_X5_lossBy : GoodIn wsX5_squeeze (wsV RX5 87 RX5 yX5_lossBy wsX5_lossBy) := goodIn_app (goodIn_of _ (by decide +kernel)) ggX5_squeeze_X5_lossBy
set_option maxRecDepth 20000 in
theorem ggX5_squeeze_X5_feelMore : GoodIn wsX5_squeeze wsX5_feelMore := goodIn_r _ [23, 24, 25, 26, 18, 27, 28, 29, 30, 31, 32, 33, 34] (by decide +kernel) (by decide +kernel)
set_option maxRecDepth 20000 in
theorem gX5_squeeze_X5_feelMore : GoodIn wsX5_squeeze (wsV RX5 90 RX5 yX5_feelMore wsX5_feelMore) := goodIn_app (goodIn_of _ (by decide +kernel)) ggX5_squeeze_X5_feelMore
theorem dX5_squeeze_0 : decode cX5_squeeze 0 = .ok (.iload_n 2, 1) := by decide +kernel
theorem dX5_squeeze_1 : decode cX5_squeeze 1 = .ok (.istore_n 3, 1) := by decide +kernel
theorem dX5_squeeze_2 : decode cX5_squeeze 2 = .ok (.iload_n 1, 1) := by decide +kernel
theorem dX5_squeeze_3 : decode cX5_squeeze 3 = .ok (.istore 4, 2) := by decide +kernel
theorem dX5_squeeze_5 : decode cX5_squeeze 5 = .ok (.iload 4, 2) := by decide +kernel
theorem dX5_squeeze_7 : decode cX5_squeeze 7 = .ok (.bipush 9, 2) := by decide +kernel
theorem dX5_squeeze_9 : decode cX5_squeeze 9 = .ok (.if_icmp .ge 31, 3) := by decide +kernel
theorem dX5_squeeze_12 : decode cX5_squeeze 12 = .ok (.iload_n 3, 1) := by decide +kernel
theorem dX5_squeeze_13 : decode cX5_squeeze 13 = .ok (.ifCond .le 27, 3) := by decide +kernel
theorem dX5_squeeze_16 : decode cX5_squeeze 16 = .ok (.iload_n 3, 1) := by decide +kernel
theorem dX5_squeeze_17 : decode cX5_squeeze 17 = .ok (.aload_n 0, 1) := by decide +kernel
theorem dX5_squeeze_18 : decode cX5_squeeze 18 = .ok (.iload 4, 2) := by decide +kernel
theorem dX5_squeeze_20 : decode cX5_squeeze 20 = .ok (.invokevirtual 87, 3) := by decide +kernel
theorem dX5_squeeze_23 : decode cX5_squeeze 23 = .ok (.isub, 1) := by decide +kernel
theorem dX5_squeeze_24 : decode cX5_squeeze 24 = .ok (.istore_n 3, 1) := by decide +kernel
theorem dX5_squeeze_25 : decode cX5_squeeze 25 = .ok (.aload_n 0, 1) := by decide +kernel
theorem dX5_squeeze_26 : decode cX5_squeeze 26 = .ok (.iload 4, 2) := by decide +kernel
theorem dX5_squeeze_28 : decode cX5_squeeze 28 = .ok (.iconst 1, 1) := by decide +kernel
theorem dX5_squeeze_29 : decode cX5_squeeze 29 = .ok (.iadd, 1) := by decide +kernel
theorem dX5_squeeze_30 : decode cX5_squeeze 30 = .ok (.iload_n 3, 1) := by decide +kernel
theorem dX5_squeeze_31 : decode cX5_squeeze 31 = .ok (.invokevirtual 90, 3) := by decide +kernel
theorem dX5_squeeze_34 : decode cX5_squeeze 34 = .ok (.iinc 4 1, 3) := by decide +kernel
theorem dX5_squeeze_37 : decode cX5_squeeze 37 = .ok (.goto (-32), 3) := by decide +kernel
theorem dX5_squeeze_40 : decode cX5_squeeze 40 = .ok (.iload_n 2, 1) := by decide +kernel
theorem dX5_squeeze_41 : decode cX5_squeeze 41 = .ok (.istore_n 3, 1) := by decide +kernel
theorem dX5_squeeze_42 : decode cX5_squeeze 42 = .ok (.iload_n 1, 1) := by decide +kernel
theorem dX5_squeeze_43 : decode cX5_squeeze 43 = .ok (.iconst 1, 1) := by decide +kernel
theorem dX5_squeeze_44 : decode cX5_squeeze 44 = .ok (.isub, 1) := by decide +kernel
theorem dX5_squeeze_45 : decode cX5_squeeze 45 = .ok (.istore 4, 2) := by decide +kernel
theorem dX5_squeeze_47 : decode cX5_squeeze 47 = .ok (.iload 4, 2) := by decide +kernel
theorem dX5_squeeze_49 : decode cX5_squeeze 49 = .ok (.ifCond .lt 29, 3) := by decide +kernel
theorem dX5_squeeze_52 : decode cX5_squeeze 52 = .ok (.iload_n 3, 1) := by decide +kernel
theorem dX5_squeeze_53 : decode cX5_squeeze 53 = .ok (.ifCond .le 25, 3) := by decide +kernel
theorem dX5_squeeze_56 : decode cX5_squeeze 56 = .ok (.iload_n 3, 1) := by decide +kernel
theorem dX5_squeeze_57 : decode cX5_squeeze 57 = .ok (.aload_n 0, 1) := by decide +kernel
theorem dX5_squeeze_58 : decode cX5_squeeze 58 = .ok (.iload 4, 2) := by decide +kernel
theorem dX5_squeeze_60 : decode cX5_squeeze 60 = .ok (.invokevirtual 87, 3) := by decide +kernel
theorem dX5_squeeze_63 : decode cX5_squeeze 63 = .ok (.isub, 1) := by decide +kernel
theorem dX5_squeeze_64 : decode cX5_squeeze 64 = .ok (.istore_n 3, 1) := by decide +kernel
theorem dX5_squeeze_65 : decode cX5_squeeze 65 = .ok (.aload_n 0, 1) := by decide +kernel
theorem dX5_squeeze_66 : decode cX5_squeeze 66 = .ok (.iload 4, 2) := by decide +kernel
theorem dX5_squeeze_68 : decode cX5_squeeze 68 = .ok (.iload_n 3, 1) := by decide +kernel
theorem dX5_squeeze_69 : decode cX5_squeeze 69 = .ok (.invokevirtual 90, 3) := by decide +kernel
theorem dX5_squeeze_72 : decode cX5_squeeze 72 = .ok (.iinc 4 (-1), 3) := by decide +kernel
theorem dX5_squeeze_75 : decode cX5_squeeze 75 = .ok (.goto (-28), 3) := by decide +kernel
theorem dX5_squeeze_78 : decode cX5_squeeze 78 = .ok (.return_, 1) := by decide +kernel
set_option maxRecDepth 20000 in
theorem ggX5_lossBy_X5_isTaut : GoodIn wsX5_lossBy wsX5_isTaut := goodIn_r _ [5, 6, 7, 8, 9, 4, 10, 11, 12, 13, 14, 15, 16, 17, 18, 19, 20, 21, 22] (by decide +kernel) (by decide +kernel)
set_option maxRecDepth 20000 in
theorem gX5_lossBy_X5_isTaut : GoodIn wsX5_lossBy (wsV RX5 43 RX5 yX5_isTaut wsX5_isTaut) := goodIn_app (goodIn_of _ (by decide +kernel)) ggX5_lossBy_X5_isTaut
theorem dX5_lossBy_0 : decode cX5_lossBy 0 = .ok (.aload_n 0, 1) := by decide +kernel
theorem dX5_lossBy_1 : decode cX5_lossBy 1 = .ok (.iload_n 1, 1) := by decide +kernel
theorem dX5_lossBy_2 : decode cX5_lossBy 2 = .ok (.invokevirtual 43, 3) := by decide +kernel
theorem dX5_lossBy_5 : decode cX5_lossBy 5 = .ok (.ifCond .eq 7, 3) := by decide +kernel
theorem dX5_lossBy_8 : decode cX5_lossBy 8 = .ok (.iconst 1, 1) := by decide +kernel
theorem dX5_lossBy_9 : decode cX5_lossBy 9 = .ok (.goto 4, 3) := by decide +kernel
theorem dX5_lossBy_12 : decode cX5_lossBy 12 = .ok (.iconst 3, 1) := by decide +kernel
theorem dX5_lossBy_13 : decode cX5_lossBy 13 = .ok (.ireturn, 1) := by decide +kernel
theorem dX5_feelMore_0 : decode cX5_feelMore 0 = .ok (.iload_n 2, 1) := by decide +kernel
theorem dX5_feelMore_1 : decode cX5_feelMore 1 = .ok (.ifCond .le 22, 3) := by decide +kernel
theorem dX5_feelMore_4 : decode cX5_feelMore 4 = .ok (.aload_n 0, 1) := by decide +kernel
theorem dX5_feelMore_5 : decode cX5_feelMore 5 = .ok (.getfield 15, 3) := by decide +kernel
theorem dX5_feelMore_8 : decode cX5_feelMore 8 = .ok (.iload_n 1, 1) := by decide +kernel
theorem dX5_feelMore_9 : decode cX5_feelMore 9 = .ok (.bipush 99, 2) := by decide +kernel
theorem dX5_feelMore_11 : decode cX5_feelMore 11 = .ok (.aload_n 0, 1) := by decide +kernel
theorem dX5_feelMore_12 : decode cX5_feelMore 12 = .ok (.getfield 15, 3) := by decide +kernel
theorem dX5_feelMore_15 : decode cX5_feelMore 15 = .ok (.iload_n 1, 1) := by decide +kernel
theorem dX5_feelMore_16 : decode cX5_feelMore 16 = .ok (.iaload, 1) := by decide +kernel
theorem dX5_feelMore_17 : decode cX5_feelMore 17 = .ok (.iload_n 2, 1) := by decide +kernel
theorem dX5_feelMore_18 : decode cX5_feelMore 18 = .ok (.iadd, 1) := by decide +kernel
theorem dX5_feelMore_19 : decode cX5_feelMore 19 = .ok (.invokestatic 93, 3) := by decide +kernel
theorem dX5_feelMore_22 : decode cX5_feelMore 22 = .ok (.iastore, 1) := by decide +kernel
theorem dX5_feelMore_23 : decode cX5_feelMore 23 = .ok (.return_, 1) := by decide +kernel
theorem dX5_letOut_0 : decode cX5_letOut 0 = .ok (.iload_n 1, 1) := by decide +kernel
theorem dX5_letOut_1 : decode cX5_letOut 1 = .ok (.bipush 9, 2) := by decide +kernel
theorem dX5_letOut_3 : decode cX5_letOut 3 = .ok (.if_icmp .lt 4, 3) := by decide +kernel
theorem dX5_letOut_6 : decode cX5_letOut 6 = .ok (.return_, 1) := by decide +kernel
theorem dX5_letOut_7 : decode cX5_letOut 7 = .ok (.aload_n 0, 1) := by decide +kernel
theorem dX5_letOut_8 : decode cX5_letOut 8 = .ok (.getfield 18, 3) := by decide +kernel
theorem dX5_letOut_11 : decode cX5_letOut 11 = .ok (.iload_n 1, 1) := by decide +kernel
theorem dX5_letOut_12 : decode cX5_letOut 12 = .ok (.dup2, 1) := by decide +kernel
theorem dX5_letOut_13 : decode cX5_letOut 13 = .ok (.iaload, 1) := by decide +kernel
theorem dX5_letOut_14 : decode cX5_letOut 14 = .ok (.iconst 1, 1) := by decide +kernel
theorem dX5_letOut_15 : decode cX5_letOut 15 = .ok (.iadd, 1) := by decide +kernel
theorem dX5_letOut_16 : decode cX5_letOut 16 = .ok (.iastore, 1) := by decide +kernel
theorem dX5_letOut_17 : decode cX5_letOut 17 = .ok (.aload_n 0, 1) := by decide +kernel
theorem dX5_letOut_18 : decode cX5_letOut 18 = .ok (.dup, 1) := by decide +kernel
theorem dX5_letOut_19 : decode cX5_letOut 19 = .ok (.getfield 24, 3) := by decide +kernel
theorem dX5_letOut_22 : decode cX5_letOut 22 = .ok (.iconst 1, 1) := by decide +kernel
theorem dX5_letOut_23 : decode cX5_letOut 23 = .ok (.isub, 1) := by decide +kernel
theorem dX5_letOut_24 : decode cX5_letOut 24 = .ok (.putfield 24, 3) := by decide +kernel
theorem dX5_letOut_27 : decode cX5_letOut 27 = .ok (.return_, 1) := by decide +kernel
theorem dX5_windIn_0 : decode cX5_windIn 0 = .ok (.iload_n 1, 1) := by decide +kernel
theorem dX5_windIn_1 : decode cX5_windIn 1 = .ok (.bipush 9, 2) := by decide +kernel
theorem dX5_windIn_3 : decode cX5_windIn 3 = .ok (.if_icmp .lt 4, 3) := by decide +kernel
theorem dX5_windIn_6 : decode cX5_windIn 6 = .ok (.return_, 1) := by decide +kernel
theorem dX5_windIn_7 : decode cX5_windIn 7 = .ok (.aload_n 0, 1) := by decide +kernel
theorem dX5_windIn_8 : decode cX5_windIn 8 = .ok (.getfield 18, 3) := by decide +kernel
theorem dX5_windIn_11 : decode cX5_windIn 11 = .ok (.iload_n 1, 1) := by decide +kernel
theorem dX5_windIn_12 : decode cX5_windIn 12 = .ok (.dup2, 1) := by decide +kernel
theorem dX5_windIn_13 : decode cX5_windIn 13 = .ok (.iaload, 1) := by decide +kernel
theorem dX5_windIn_14 : decode cX5_windIn 14 = .ok (.iconst 1, 1) := by decide +kernel
theorem dX5_windIn_15 : decode cX5_windIn 15 = .ok (.isub, 1) := by decide +kernel
theorem dX5_windIn_16 : decode cX5_windIn 16 = .ok (.iastore, 1) := by decide +kernel
theorem dX5_windIn_17 : decode cX5_windIn 17 = .ok (.aload_n 0, 1) := by decide +kernel
theorem dX5_windIn_18 : decode cX5_windIn 18 = .ok (.sipush 999, 3) := by decide +kernel
theorem dX5_windIn_21 : decode cX5_windIn 21 = .ok (.aload_n 0, 1) := by decide +kernel
theorem dX5_windIn_22 : decode cX5_windIn 22 = .ok (.getfield 24, 3) := by decide +kernel
theorem dX5_windIn_25 : decode cX5_windIn 25 = .ok (.iconst 1, 1) := by decide +kernel
theorem dX5_windIn_26 : decode cX5_windIn 26 = .ok (.iadd, 1) := by decide +kernel
theorem dX5_windIn_27 : decode cX5_windIn 27 = .ok (.invokestatic 93, 3) := by decide +kernel
theorem dX5_windIn_30 : decode cX5_windIn 30 = .ok (.putfield 24, 3) := by decide +kernel
theorem dX5_windIn_33 : decode cX5_windIn 33 = .ok (.return_, 1) := by decide +kernel
theorem dX5_nextDay_0 : decode cX5_nextDay 0 = .ok (.aload_n 0, 1) := by decide +kernel
theorem dX5_nextDay_1 : decode cX5_nextDay 1 = .ok (.dup, 1) := by decide +kernel
theorem dX5_nextDay_2 : decode cX5_nextDay 2 = .ok (.getfield 31, 3) := by decide +kernel
theorem dX5_nextDay_5 : decode cX5_nextDay 5 = .ok (.iconst 1, 1) := by decide +kernel
theorem dX5_nextDay_6 : decode cX5_nextDay 6 = .ok (.iadd, 1) := by decide +kernel
theorem dX5_nextDay_7 : decode cX5_nextDay 7 = .ok (.putfield 31, 3) := by decide +kernel
theorem dX5_nextDay_10 : decode cX5_nextDay 10 = .ok (.iconst 0, 1) := by decide +kernel
theorem dX5_nextDay_11 : decode cX5_nextDay 11 = .ok (.istore_n 1, 1) := by decide +kernel
theorem dX5_nextDay_12 : decode cX5_nextDay 12 = .ok (.iload_n 1, 1) := by decide +kernel
theorem dX5_nextDay_13 : decode cX5_nextDay 13 = .ok (.bipush 10, 2) := by decide +kernel
theorem dX5_nextDay_15 : decode cX5_nextDay 15 = .ok (.if_icmp .ge 16, 3) := by decide +kernel
theorem dX5_nextDay_18 : decode cX5_nextDay 18 = .ok (.aload_n 0, 1) := by decide +kernel
theorem dX5_nextDay_19 : decode cX5_nextDay 19 = .ok (.getfield 15, 3) := by decide +kernel
theorem dX5_nextDay_22 : decode cX5_nextDay 22 = .ok (.iload_n 1, 1) := by decide +kernel
theorem dX5_nextDay_23 : decode cX5_nextDay 23 = .ok (.iconst 0, 1) := by decide +kernel
theorem dX5_nextDay_24 : decode cX5_nextDay 24 = .ok (.iastore, 1) := by decide +kernel
theorem dX5_nextDay_25 : decode cX5_nextDay 25 = .ok (.iinc 1 1, 3) := by decide +kernel
theorem dX5_nextDay_28 : decode cX5_nextDay 28 = .ok (.goto (-16), 3) := by decide +kernel
theorem dX5_nextDay_31 : decode cX5_nextDay 31 = .ok (.return_, 1) := by decide +kernel
set_option maxRecDepth 20000 in
theorem ggX5_farthest_X5_holdsFast : GoodIn wsX5_farthest wsX5_holdsFast := goodIn_r _ [11, 12, 13, 14, 15, 16, 17, 18, 19] (by decide +kernel) (by decide +kernel)
set_option maxRecDepth 20000 in
theorem gX5_farthest_X5_holdsFast : GoodIn wsX5_farthest (wsV RX5 96 RX5 yX5_holdsFast wsX5_holdsFast) := goodIn_app (goodIn_of _ (by decide +kernel)) ggX5_farthest_X5_holdsFast
theorem dX5_farthest_0 : decode cX5_farthest 0 = .ok (.aload_n 0, 1) := by decide +kernel
theorem dX5_farthest_1 : decode cX5_farthest 1 = .ok (.iload_n 1, 1) := by decide +kernel
theorem dX5_farthest_2 : decode cX5_farthest 2 = .ok (.invokevirtual 96, 3) := by decide +kernel
theorem dX5_farthest_5 : decode cX5_farthest 5 = .ok (.ifCond .eq 5, 3) := by decide +kernel
theorem dX5_farthest_8 : decode cX5_farthest 8 = .ok (.iconst 0, 1) := by decide +kernel
theorem dX5_farthest_9 : decode cX5_farthest 9 = .ok (.ireturn, 1) := by decide +kernel
theorem dX5_farthest_10 : decode cX5_farthest 10 = .ok (.iload_n 2, 1) := by decide +kernel
theorem dX5_farthest_11 : decode cX5_farthest 11 = .ok (.ifCond .le 16, 3) := by decide +kernel
theorem dX5_farthest_14 : decode cX5_farthest 14 = .ok (.sipush 999, 3) := by decide +kernel
theorem dX5_farthest_17 : decode cX5_farthest 17 = .ok (.aload_n 0, 1) := by decide +kernel
theorem dX5_farthest_18 : decode cX5_farthest 18 = .ok (.getfield 9, 3) := by decide +kernel
theorem dX5_farthest_21 : decode cX5_farthest 21 = .ok (.iload_n 1, 1) := by decide +kernel
theorem dX5_farthest_22 : decode cX5_farthest 22 = .ok (.iaload, 1) := by decide +kernel
theorem dX5_farthest_23 : decode cX5_farthest 23 = .ok (.isub, 1) := by decide +kernel
theorem dX5_farthest_24 : decode cX5_farthest 24 = .ok (.goto 9, 3) := by decide +kernel
theorem dX5_farthest_27 : decode cX5_farthest 27 = .ok (.aload_n 0, 1) := by decide +kernel
theorem dX5_farthest_28 : decode cX5_farthest 28 = .ok (.getfield 9, 3) := by decide +kernel
theorem dX5_farthest_31 : decode cX5_farthest 31 = .ok (.iload_n 1, 1) := by decide +kernel
theorem dX5_farthest_32 : decode cX5_farthest 32 = .ok (.iaload, 1) := by decide +kernel
theorem dX5_farthest_33 : decode cX5_farthest 33 = .ok (.istore_n 3, 1) := by decide +kernel
theorem dX5_farthest_34 : decode cX5_farthest 34 = .ok (.iconst 0, 1) := by decide +kernel
theorem dX5_farthest_35 : decode cX5_farthest 35 = .ok (.istore 4, 2) := by decide +kernel
theorem dX5_farthest_37 : decode cX5_farthest 37 = .ok (.iload_n 1, 1) := by decide +kernel
theorem dX5_farthest_38 : decode cX5_farthest 38 = .ok (.iconst 1, 1) := by decide +kernel
theorem dX5_farthest_39 : decode cX5_farthest 39 = .ok (.iadd, 1) := by decide +kernel
theorem dX5_farthest_40 : decode cX5_farthest 40 = .ok (.istore 5, 2) := by decide +kernel
theorem dX5_farthest_42 : decode cX5_farthest 42 = .ok (.iload 5, 2) := by decide +kernel
theorem dX5_farthest_44 : decode cX5_farthest 44 = .ok (.bipush 10, 2) := by decide +kernel
theorem dX5_farthest_46 : decode cX5_farthest 46 = .ok (.if_icmp .ge 56, 3) := by decide +kernel
theorem dX5_farthest_49 : decode cX5_farthest 49 = .ok (.iload 4, 2) := by decide +kernel
theorem dX5_farthest_51 : decode cX5_farthest 51 = .ok (.aload_n 0, 1) := by decide +kernel
theorem dX5_farthest_52 : decode cX5_farthest 52 = .ok (.getfield 18, 3) := by decide +kernel
theorem dX5_farthest_55 : decode cX5_farthest 55 = .ok (.iload 5, 2) := by decide +kernel
theorem dX5_farthest_57 : decode cX5_farthest 57 = .ok (.iconst 1, 1) := by decide +kernel
theorem dX5_farthest_58 : decode cX5_farthest 58 = .ok (.isub, 1) := by decide +kernel
theorem dX5_farthest_59 : decode cX5_farthest 59 = .ok (.iaload, 1) := by decide +kernel
theorem dX5_farthest_60 : decode cX5_farthest 60 = .ok (.iadd, 1) := by decide +kernel
theorem dX5_farthest_61 : decode cX5_farthest 61 = .ok (.istore 4, 2) := by decide +kernel
theorem dX5_farthest_63 : decode cX5_farthest 63 = .ok (.aload_n 0, 1) := by decide +kernel
theorem dX5_farthest_64 : decode cX5_farthest 64 = .ok (.iload 5, 2) := by decide +kernel
theorem dX5_farthest_66 : decode cX5_farthest 66 = .ok (.invokevirtual 96, 3) := by decide +kernel
theorem dX5_farthest_69 : decode cX5_farthest 69 = .ok (.ifCond .eq 27, 3) := by decide +kernel
theorem dX5_farthest_72 : decode cX5_farthest 72 = .ok (.iload_n 3, 1) := by decide +kernel
theorem dX5_farthest_73 : decode cX5_farthest 73 = .ok (.iload_n 2, 1) := by decide +kernel
theorem dX5_farthest_74 : decode cX5_farthest 74 = .ok (.aload_n 0, 1) := by decide +kernel
theorem dX5_farthest_75 : decode cX5_farthest 75 = .ok (.getfield 9, 3) := by decide +kernel
theorem dX5_farthest_78 : decode cX5_farthest 78 = .ok (.iload 5, 2) := by decide +kernel
theorem dX5_farthest_80 : decode cX5_farthest 80 = .ok (.iaload, 1) := by decide +kernel
theorem dX5_farthest_81 : decode cX5_farthest 81 = .ok (.aload_n 0, 1) := by decide +kernel
theorem dX5_farthest_82 : decode cX5_farthest 82 = .ok (.getfield 9, 3) := by decide +kernel
theorem dX5_farthest_85 : decode cX5_farthest 85 = .ok (.iload_n 1, 1) := by decide +kernel
theorem dX5_farthest_86 : decode cX5_farthest 86 = .ok (.iaload, 1) := by decide +kernel
theorem dX5_farthest_87 : decode cX5_farthest 87 = .ok (.isub, 1) := by decide +kernel
theorem dX5_farthest_88 : decode cX5_farthest 88 = .ok (.imul, 1) := by decide +kernel
theorem dX5_farthest_89 : decode cX5_farthest 89 = .ok (.iload 4, 2) := by decide +kernel
theorem dX5_farthest_91 : decode cX5_farthest 91 = .ok (.iadd, 1) := by decide +kernel
theorem dX5_farthest_92 : decode cX5_farthest 92 = .ok (.invokestatic 93, 3) := by decide +kernel
theorem dX5_farthest_95 : decode cX5_farthest 95 = .ok (.istore_n 3, 1) := by decide +kernel
theorem dX5_farthest_96 : decode cX5_farthest 96 = .ok (.iinc 5 1, 3) := by decide +kernel
theorem dX5_farthest_99 : decode cX5_farthest 99 = .ok (.goto (-57), 3) := by decide +kernel
theorem dX5_farthest_102 : decode cX5_farthest 102 = .ok (.iconst 0, 1) := by decide +kernel
theorem dX5_farthest_103 : decode cX5_farthest 103 = .ok (.istore 4, 2) := by decide +kernel
theorem dX5_farthest_105 : decode cX5_farthest 105 = .ok (.iload_n 1, 1) := by decide +kernel
theorem dX5_farthest_106 : decode cX5_farthest 106 = .ok (.iconst 1, 1) := by decide +kernel
theorem dX5_farthest_107 : decode cX5_farthest 107 = .ok (.isub, 1) := by decide +kernel
theorem dX5_farthest_108 : decode cX5_farthest 108 = .ok (.istore 5, 2) := by decide +kernel
theorem dX5_farthest_110 : decode cX5_farthest 110 = .ok (.iload 5, 2) := by decide +kernel
theorem dX5_farthest_112 : decode cX5_farthest 112 = .ok (.ifCond .lt 54, 3) := by decide +kernel
theorem dX5_farthest_115 : decode cX5_farthest 115 = .ok (.iload 4, 2) := by decide +kernel
theorem dX5_farthest_117 : decode cX5_farthest 117 = .ok (.aload_n 0, 1) := by decide +kernel
theorem dX5_farthest_118 : decode cX5_farthest 118 = .ok (.getfield 18, 3) := by decide +kernel
theorem dX5_farthest_121 : decode cX5_farthest 121 = .ok (.iload 5, 2) := by decide +kernel
theorem dX5_farthest_123 : decode cX5_farthest 123 = .ok (.iaload, 1) := by decide +kernel
theorem dX5_farthest_124 : decode cX5_farthest 124 = .ok (.iadd, 1) := by decide +kernel
theorem dX5_farthest_125 : decode cX5_farthest 125 = .ok (.istore 4, 2) := by decide +kernel
theorem dX5_farthest_127 : decode cX5_farthest 127 = .ok (.aload_n 0, 1) := by decide +kernel
theorem dX5_farthest_128 : decode cX5_farthest 128 = .ok (.iload 5, 2) := by decide +kernel
theorem dX5_farthest_130 : decode cX5_farthest 130 = .ok (.invokevirtual 96, 3) := by decide +kernel
theorem dX5_farthest_133 : decode cX5_farthest 133 = .ok (.ifCond .eq 27, 3) := by decide +kernel
theorem dX5_farthest_136 : decode cX5_farthest 136 = .ok (.iload_n 3, 1) := by decide +kernel
theorem dX5_farthest_137 : decode cX5_farthest 137 = .ok (.iload_n 2, 1) := by decide +kernel
theorem dX5_farthest_138 : decode cX5_farthest 138 = .ok (.aload_n 0, 1) := by decide +kernel
theorem dX5_farthest_139 : decode cX5_farthest 139 = .ok (.getfield 9, 3) := by decide +kernel
theorem dX5_farthest_142 : decode cX5_farthest 142 = .ok (.iload 5, 2) := by decide +kernel
theorem dX5_farthest_144 : decode cX5_farthest 144 = .ok (.iaload, 1) := by decide +kernel
theorem dX5_farthest_145 : decode cX5_farthest 145 = .ok (.aload_n 0, 1) := by decide +kernel
theorem dX5_farthest_146 : decode cX5_farthest 146 = .ok (.getfield 9, 3) := by decide +kernel
theorem dX5_farthest_149 : decode cX5_farthest 149 = .ok (.iload_n 1, 1) := by decide +kernel
theorem dX5_farthest_150 : decode cX5_farthest 150 = .ok (.iaload, 1) := by decide +kernel
theorem dX5_farthest_151 : decode cX5_farthest 151 = .ok (.isub, 1) := by decide +kernel
theorem dX5_farthest_152 : decode cX5_farthest 152 = .ok (.imul, 1) := by decide +kernel
theorem dX5_farthest_153 : decode cX5_farthest 153 = .ok (.iload 4, 2) := by decide +kernel
theorem dX5_farthest_155 : decode cX5_farthest 155 = .ok (.iadd, 1) := by decide +kernel
theorem dX5_farthest_156 : decode cX5_farthest 156 = .ok (.invokestatic 93, 3) := by decide +kernel
theorem dX5_farthest_159 : decode cX5_farthest 159 = .ok (.istore_n 3, 1) := by decide +kernel
theorem dX5_farthest_160 : decode cX5_farthest 160 = .ok (.iinc 5 (-1), 3) := by decide +kernel
theorem dX5_farthest_163 : decode cX5_farthest 163 = .ok (.goto (-53), 3) := by decide +kernel
theorem dX5_farthest_166 : decode cX5_farthest 166 = .ok (.iload_n 3, 1) := by decide +kernel
theorem dX5_farthest_167 : decode cX5_farthest 167 = .ok (.ireturn, 1) := by decide +kernel
theorem dX6_init_0 : decode cX6_init 0 = .ok (.aload_n 0, 1) := by decide +kernel
theorem dX6_init_1 : decode cX6_init 1 = .ok (.invokespecial 3, 3) := by decide +kernel
theorem dX6_init_4 : decode cX6_init 4 = .ok (.aload_n 0, 1) := by decide +kernel
theorem dX6_init_5 : decode cX6_init 5 = .ok (.bipush 8, 2) := by decide +kernel
theorem dX6_init_7 : decode cX6_init 7 = .ok (.newarray .int, 2) := by decide +kernel
theorem dX6_init_9 : decode cX6_init 9 = .ok (.putfield 9, 3) := by decide +kernel
theorem dX6_init_12 : decode cX6_init 12 = .ok (.aload_n 0, 1) := by decide +kernel
theorem dX6_init_13 : decode cX6_init 13 = .ok (.bipush 8, 2) := by decide +kernel
theorem dX6_init_15 : decode cX6_init 15 = .ok (.newarray .int, 2) := by decide +kernel
theorem dX6_init_17 : decode cX6_init 17 = .ok (.putfield 15, 3) := by decide +kernel
theorem dX6_init_20 : decode cX6_init 20 = .ok (.return_, 1) := by decide +kernel
theorem dX6_add_0 : decode cX6_add 0 = .ok (.aload_n 0, 1) := by decide +kernel
theorem dX6_add_1 : decode cX6_add 1 = .ok (.getfield 18, 3) := by decide +kernel
theorem dX6_add_4 : decode cX6_add 4 = .ok (.bipush 8, 2) := by decide +kernel
theorem dX6_add_6 : decode cX6_add 6 = .ok (.if_icmp .lt 5, 3) := by decide +kernel
theorem dX6_add_9 : decode cX6_add 9 = .ok (.iconst 0, 1) := by decide +kernel
theorem dX6_add_10 : decode cX6_add 10 = .ok (.ireturn, 1) := by decide +kernel
theorem dX6_add_11 : decode cX6_add 11 = .ok (.aload_n 0, 1) := by decide +kernel
theorem dX6_add_12 : decode cX6_add 12 = .ok (.getfield 9, 3) := by decide +kernel
theorem dX6_add_15 : decode cX6_add 15 = .ok (.aload_n 0, 1) := by decide +kernel
theorem dX6_add_16 : decode cX6_add 16 = .ok (.getfield 18, 3) := by decide +kernel
theorem dX6_add_19 : decode cX6_add 19 = .ok (.iload_n 1, 1) := by decide +kernel
theorem dX6_add_20 : decode cX6_add 20 = .ok (.iastore, 1) := by decide +kernel
theorem dX6_add_21 : decode cX6_add 21 = .ok (.aload_n 0, 1) := by decide +kernel
theorem dX6_add_22 : decode cX6_add 22 = .ok (.getfield 15, 3) := by decide +kernel
theorem dX6_add_25 : decode cX6_add 25 = .ok (.aload_n 0, 1) := by decide +kernel
theorem dX6_add_26 : decode cX6_add 26 = .ok (.getfield 18, 3) := by decide +kernel
theorem dX6_add_29 : decode cX6_add 29 = .ok (.iload_n 2, 1) := by decide +kernel
theorem dX6_add_30 : decode cX6_add 30 = .ok (.iastore, 1) := by decide +kernel
theorem dX6_add_31 : decode cX6_add 31 = .ok (.aload_n 0, 1) := by decide +kernel
theorem dX6_add_32 : decode cX6_add 32 = .ok (.dup, 1) := by decide +kernel
theorem dX6_add_33 : decode cX6_add 33 = .ok (.getfield 18, 3) := by decide +kernel
theorem dX6_add_36 : decode cX6_add 36 = .ok (.iconst 1, 1) := by decide +kernel
theorem dX6_add_37 : decode cX6_add 37 = .ok (.iadd, 1) := by decide +kernel
theorem dX6_add_38 : decode cX6_add 38 = .ok (.putfield 18, 3) := by decide +kernel
theorem dX6_add_41 : decode cX6_add 41 = .ok (.iconst 1, 1) := by decide +kernel
theorem dX6_add_42 : decode cX6_add 42 = .ok (.ireturn, 1) := by decide +kernel
theorem dX6_clear_0 : decode cX6_clear 0 = .ok (.aload_n 0, 1) := by decide +kernel
theorem dX6_clear_1 : decode cX6_clear 1 = .ok (.iconst 0, 1) := by decide +kernel
theorem dX6_clear_2 : decode cX6_clear 2 = .ok (.putfield 18, 3) := by decide +kernel
theorem dX6_clear_5 : decode cX6_clear 5 = .ok (.return_, 1) := by decide +kernel
theorem dX6_copyFrom_0 : decode cX6_copyFrom 0 = .ok (.iconst 0, 1) := by decide +kernel
theorem dX6_copyFrom_1 : decode cX6_copyFrom 1 = .ok (.istore_n 2, 1) := by decide +kernel
theorem dX6_copyFrom_2 : decode cX6_copyFrom 2 = .ok (.iload_n 2, 1) := by decide +kernel
theorem dX6_copyFrom_3 : decode cX6_copyFrom 3 = .ok (.bipush 8, 2) := by decide +kernel
theorem dX6_copyFrom_5 : decode cX6_copyFrom 5 = .ok (.if_icmp .ge 33, 3) := by decide +kernel
theorem dX6_copyFrom_8 : decode cX6_copyFrom 8 = .ok (.aload_n 0, 1) := by decide +kernel
theorem dX6_copyFrom_9 : decode cX6_copyFrom 9 = .ok (.getfield 9, 3) := by decide +kernel
theorem dX6_copyFrom_12 : decode cX6_copyFrom 12 = .ok (.iload_n 2, 1) := by decide +kernel
theorem dX6_copyFrom_13 : decode cX6_copyFrom 13 = .ok (.aload_n 1, 1) := by decide +kernel
theorem dX6_copyFrom_14 : decode cX6_copyFrom 14 = .ok (.getfield 9, 3) := by decide +kernel
theorem dX6_copyFrom_17 : decode cX6_copyFrom 17 = .ok (.iload_n 2, 1) := by decide +kernel
theorem dX6_copyFrom_18 : decode cX6_copyFrom 18 = .ok (.iaload, 1) := by decide +kernel
theorem dX6_copyFrom_19 : decode cX6_copyFrom 19 = .ok (.iastore, 1) := by decide +kernel
theorem dX6_copyFrom_20 : decode cX6_copyFrom 20 = .ok (.aload_n 0, 1) := by decide +kernel
theorem dX6_copyFrom_21 : decode cX6_copyFrom 21 = .ok (.getfield 15, 3) := by decide +kernel
theorem dX6_copyFrom_24 : decode cX6_copyFrom 24 = .ok (.iload_n 2, 1) := by decide +kernel
theorem dX6_copyFrom_25 : decode cX6_copyFrom 25 = .ok (.aload_n 1, 1) := by decide +kernel
theorem dX6_copyFrom_26 : decode cX6_copyFrom 26 = .ok (.getfield 15, 3) := by decide +kernel
theorem dX6_copyFrom_29 : decode cX6_copyFrom 29 = .ok (.iload_n 2, 1) := by decide +kernel
theorem dX6_copyFrom_30 : decode cX6_copyFrom 30 = .ok (.iaload, 1) := by decide +kernel
theorem dX6_copyFrom_31 : decode cX6_copyFrom 31 = .ok (.iastore, 1) := by decide +kernel
theorem dX6_copyFrom_32 : decode cX6_copyFrom 32 = .ok (.iinc 2 1, 3) := by decide +kernel
theorem dX6_copyFrom_35 : decode cX6_copyFrom 35 = .ok (.goto (-33), 3) := by decide +kernel
theorem dX6_copyFrom_38 : decode cX6_copyFrom 38 = .ok (.aload_n 0, 1) := by decide +kernel
theorem dX6_copyFrom_39 : decode cX6_copyFrom 39 = .ok (.aload_n 1, 1) := by decide +kernel
theorem dX6_copyFrom_40 : decode cX6_copyFrom 40 = .ok (.getfield 18, 3) := by decide +kernel
theorem dX6_copyFrom_43 : decode cX6_copyFrom 43 = .ok (.putfield 18, 3) := by decide +kernel
theorem dX6_copyFrom_46 : decode cX6_copyFrom 46 = .ok (.return_, 1) := by decide +kernel
end
section
set_option maxRecDepth 20000 in
theorem ggX7_init_X5_init : GoodIn wsX7_init wsX5_init := goodIn_r _ [36, 37, 2, 3, 38, 39, 40, 41, 42, 43, 84, 85, 86, 87, 88, 89, 90] (by decide +kernel) (by decide +kernel)
set_option maxRecDepth 20000 in
theorem gX7_init_X5_init : GoodIn wsX7_init (wsX5_init) := ggX7_init_X5_init
set_option maxRecDepth 20000 in
theorem ggX7_init_X3_init : GoodIn wsX7_init wsX3_init := goodIn_r _ [46, 47, 2, 3, 38, 48, 100, 101, 102, 103, 104, 105] (by decide +kernel) (by decide +kernel)
set_option maxRecDepth 20000 in
theorem gX7_init_X3_init : GoodIn wsX7_init (wsX3_init) := ggX7_init_X3_init
set_option maxRecDepth 20000 in
theorem ggX7_init_X0_init : GoodIn wsX7_init wsX0_init := goodIn_r _ [50, 51, 2, 3] (by decide +kernel) (by decide +kernel)
set_option maxRecDepth 20000 in
theorem gX7_init_X0_init_n28 : GoodIn wsX7_init (wsX0_init) := ggX7_init_X0_init
set_option maxRecDepth 20000 in
theorem ggX7_init_X6_init : GoodIn wsX7_init wsX6_init := goodIn_r _ [54, 55, 2, 3, 38, 56, 57, 112, 113, 114] (by decide +kernel) (by decide +kernel)
set_option maxRecDepth 20000 in
theorem gX7_init_X6_init : GoodIn wsX7_init (wsX6_init) := ggX7_init_X6_init
set_option maxRecDepth 20000 in
theorem ggX7_init_X1_init : GoodIn wsX7_init wsX1_init := goodIn_r _ [60, 61, 2, 3, 38, 62, 115, 116, 117] (by decide +kernel) (by decide +kernel)
set_option maxRecDepth 20000 in
theorem gX7_init_X1_init : GoodIn wsX7_init (wsX1_init) := ggX7_init_X1_init
set_option maxRecDepth 20000 in
theorem ggX7_init_X4_init : GoodIn wsX7_init wsX4_init := goodIn_r _ [65, 66, 2, 3, 38, 67, 68, 69, 70, 71, 72, 73, 118, 119, 120, 121, 122, 123] (by decide +kernel) (by decide +kernel)
set_option maxRecDepth 20000 in
theorem gX7_init_X4_init : GoodIn wsX7_init (wsX4_init) := ggX7_init_X4_init
set_option maxRecDepth 20000 in
theorem ggX7_init_X2_init : GoodIn wsX7_init wsX2_init := goodIn_r _ [76, 77, 2, 3, 78, 5, 6, 79, 80, 18, 19, 81, 82, 35, 36, 37, 38, 39, 40, 41, 42, 43, 83, 53, 54, 55, 56, 57, 84, 85, 86, 87, 88, 89, 90, 124, 125, 126, 112, 113, 114] (by decide +kernel) (by decide +kernel)
set_option maxRecDepth 20000 in
theorem gX7_init_X2_init : GoodIn wsX7_init (wsX2_init) := ggX7_init_X2_init
theorem dX7_init_0 : decode cX7_init 0 = .ok (.aload_n 0, 1) := by decide +kernel
theorem dX7_init_1 : decode cX7_init 1 = .ok (.invokespecial 1, 3) := by decide +kernel
theorem dX7_init_4 : decode cX7_init 4 = .ok (.aload_n 0, 1) := by decide +kernel
theorem dX7_init_5 : decode cX7_init 5 = .ok (.new 7, 3) := by decide +kernel
theorem dX7_init_8 : decode cX7_init 8 = .ok (.dup, 1) := by decide +kernel
theorem dX7_init_9 : decode cX7_init 9 = .ok (.invokespecial 9, 3) := by decide +kernel
theorem dX7_init_12 : decode cX7_init 12 = .ok (.putfield 10, 3) := by decide +kernel
theorem dX7_init_15 : decode cX7_init 15 = .ok (.aload_n 0, 1) := by decide +kernel
theorem dX7_init_16 : decode cX7_init 16 = .ok (.new 7, 3) := by decide +kernel
theorem dX7_init_19 : decode cX7_init 19 = .ok (.dup, 1) := by decide +kernel
theorem dX7_init_20 : decode cX7_init 20 = .ok (.invokespecial 9, 3) := by decide +kernel
theorem dX7_init_23 : decode cX7_init 23 = .ok (.putfield 16, 3) := by decide +kernel
theorem dX7_init_26 : decode cX7_init 26 = .ok (.aload_n 0, 1) := by decide +kernel
theorem dX7_init_27 : decode cX7_init 27 = .ok (.new 19, 3) := by decide +kernel
theorem dX7_init_30 : decode cX7_init 30 = .ok (.dup, 1) := by decide +kernel
theorem dX7_init_31 : decode cX7_init 31 = .ok (.invokespecial 21, 3) := by decide +kernel
theorem dX7_init_34 : decode cX7_init 34 = .ok (.putfield 22, 3) := by decide +kernel
theorem dX7_init_37 : decode cX7_init 37 = .ok (.aload_n 0, 1) := by decide +kernel
theorem dX7_init_38 : decode cX7_init 38 = .ok (.new 26, 3) := by decide +kernel
theorem dX7_init_41 : decode cX7_init 41 = .ok (.dup, 1) := by decide +kernel
theorem dX7_init_42 : decode cX7_init 42 = .ok (.invokespecial 28, 3) := by decide +kernel
theorem dX7_init_45 : decode cX7_init 45 = .ok (.putfield 29, 3) := by decide +kernel
theorem dX7_init_48 : decode cX7_init 48 = .ok (.aload_n 0, 1) := by decide +kernel
theorem dX7_init_49 : decode cX7_init 49 = .ok (.new 33, 3) := by decide +kernel
theorem dX7_init_52 : decode cX7_init 52 = .ok (.dup, 1) := by decide +kernel
theorem dX7_init_53 : decode cX7_init 53 = .ok (.invokespecial 35, 3) := by decide +kernel
theorem dX7_init_56 : decode cX7_init 56 = .ok (.putfield 36, 3) := by decide +kernel
theorem dX7_init_59 : decode cX7_init 59 = .ok (.aload_n 0, 1) := by decide +kernel
theorem dX7_init_60 : decode cX7_init 60 = .ok (.new 40, 3) := by decide +kernel
theorem dX7_init_63 : decode cX7_init 63 = .ok (.dup, 1) := by decide +kernel
theorem dX7_init_64 : decode cX7_init 64 = .ok (.invokespecial 42, 3) := by decide +kernel
theorem dX7_init_67 : decode cX7_init 67 = .ok (.putfield 43, 3) := by decide +kernel
theorem dX7_init_70 : decode cX7_init 70 = .ok (.aload_n 0, 1) := by decide +kernel
theorem dX7_init_71 : decode cX7_init 71 = .ok (.new 47, 3) := by decide +kernel
theorem dX7_init_74 : decode cX7_init 74 = .ok (.dup, 1) := by decide +kernel
theorem dX7_init_75 : decode cX7_init 75 = .ok (.invokespecial 49, 3) := by decide +kernel
theorem dX7_init_78 : decode cX7_init 78 = .ok (.putfield 50, 3) := by decide +kernel
theorem dX7_init_81 : decode cX7_init 81 = .ok (.aload_n 0, 1) := by decide +kernel
theorem dX7_init_82 : decode cX7_init 82 = .ok (.new 54, 3) := by decide +kernel
theorem dX7_init_85 : decode cX7_init 85 = .ok (.dup, 1) := by decide +kernel
theorem dX7_init_86 : decode cX7_init 86 = .ok (.invokespecial 56, 3) := by decide +kernel
theorem dX7_init_89 : decode cX7_init 89 = .ok (.putfield 57, 3) := by decide +kernel
theorem dX7_init_92 : decode cX7_init 92 = .ok (.aload_n 0, 1) := by decide +kernel
theorem dX7_init_93 : decode cX7_init 93 = .ok (.new 54, 3) := by decide +kernel
theorem dX7_init_96 : decode cX7_init 96 = .ok (.dup, 1) := by decide +kernel
theorem dX7_init_97 : decode cX7_init 97 = .ok (.invokespecial 56, 3) := by decide +kernel
theorem dX7_init_100 : decode cX7_init 100 = .ok (.putfield 61, 3) := by decide +kernel
theorem dX7_init_103 : decode cX7_init 103 = .ok (.return_, 1) := by decide +kernel
set_option maxRecDepth 20000 in
theorem ggX7_child_X7_isWithin : GoodIn wsX7_child wsX7_isWithin := goodIn_r _ [6] (by decide +kernel) (by decide +kernel)
set_option maxRecDepth 20000 in
theorem gX7_child_X7_isWithin : GoodIn wsX7_child (va_wsS RX7 64 yX7_isWithin wsX7_isWithin) := goodIn_app (goodIn_of _ (by decide +kernel)) ggX7_child_X7_isWithin
set_option maxRecDepth 20000 in
theorem ggX7_child_X5_hasStringFor : GoodIn wsX7_child wsX5_hasStringFor := goodIn_r _ [11, 12, 13, 14, 15, 16, 17, 36, 37, 38, 39, 40, 41, 42] (by decide +kernel) (by decide +kernel)
set_option maxRecDepth 20000 in
theorem gX7_child_X5_hasStringFor : GoodIn wsX7_child (wsV RX7 68 RX5 yX5_hasStringFor wsX5_hasStringFor) := goodIn_app (goodIn_of _ (by decide +kernel)) ggX7_child_X5_hasStringFor
set_option maxRecDepth 20000 in
theorem ggX7_child_X5_holdsFast : GoodIn wsX7_child wsX5_holdsFast := goodIn_r _ [21, 22, 36, 37, 38, 39, 40, 41, 42] (by decide +kernel) (by decide +kernel)
set_option maxRecDepth 20000 in
theorem gX7_child_X5_holdsFast : GoodIn wsX7_child (wsV RX7 76 RX5 yX5_holdsFast wsX5_holdsFast) := goodIn_app (goodIn_of _ (by decide +kernel)) ggX7_child_X5_holdsFast
set_option maxRecDepth 20000 in
theorem ggX7_child_X5_turnHold : GoodIn wsX7_child wsX5_turnHold := goodIn_r _ [26, 22, 36, 37, 38, 39, 40, 41, 42] (by decide +kernel) (by decide +kernel)
set_option maxRecDepth 20000 in
theorem gX7_child_X5_turnHold : GoodIn wsX7_child (wsV RX7 80 RX5 yX5_turnHold wsX5_turnHold) := goodIn_app (goodIn_of _ (by decide +kernel)) ggX7_child_X5_turnHold
theorem dX7_child_0 : decode cX7_child 0 = .ok (.iload_n 1, 1) := by decide +kernel
theorem dX7_child_1 : decode cX7_child 1 = .ok (.iconst 0, 1) := by decide +kernel
theorem dX7_child_2 : decode cX7_child 2 = .ok (.bipush 9, 2) := by decide +kernel
theorem dX7_child_4 : decode cX7_child 4 = .ok (.invokestatic 64, 3) := by decide +kernel
theorem dX7_child_7 : decode cX7_child 7 = .ok (.ifCond .ne 5, 3) := by decide +kernel
theorem dX7_child_10 : decode cX7_child 10 = .ok (.iconst (-1), 1) := by decide +kernel
theorem dX7_child_11 : decode cX7_child 11 = .ok (.ireturn, 1) := by decide +kernel
theorem dX7_child_12 : decode cX7_child 12 = .ok (.iload_n 2, 1) := by decide +kernel
theorem dX7_child_13 : decode cX7_child 13 = .ok (.iconst 0, 1) := by decide +kernel
theorem dX7_child_14 : decode cX7_child 14 = .ok (.sipush 999, 3) := by decide +kernel
theorem dX7_child_17 : decode cX7_child 17 = .ok (.invokestatic 64, 3) := by decide +kernel
theorem dX7_child_20 : decode cX7_child 20 = .ok (.ifCond .eq 12, 3) := by decide +kernel
theorem dX7_child_23 : decode cX7_child 23 = .ok (.iload_n 3, 1) := by decide +kernel
theorem dX7_child_24 : decode cX7_child 24 = .ok (.iconst 0, 1) := by decide +kernel
theorem dX7_child_25 : decode cX7_child 25 = .ok (.iconst 1, 1) := by decide +kernel
theorem dX7_child_26 : decode cX7_child 26 = .ok (.invokestatic 64, 3) := by decide +kernel
theorem dX7_child_29 : decode cX7_child 29 = .ok (.ifCond .ne 6, 3) := by decide +kernel
theorem dX7_child_32 : decode cX7_child 32 = .ok (.bipush (-2), 2) := by decide +kernel
theorem dX7_child_34 : decode cX7_child 34 = .ok (.ireturn, 1) := by decide +kernel
theorem dX7_child_35 : decode cX7_child 35 = .ok (.aload_n 0, 1) := by decide +kernel
theorem dX7_child_36 : decode cX7_child 36 = .ok (.getfield 10, 3) := by decide +kernel
theorem dX7_child_39 : decode cX7_child 39 = .ok (.iload_n 1, 1) := by decide +kernel
theorem dX7_child_40 : decode cX7_child 40 = .ok (.iload_n 2, 1) := by decide +kernel
theorem dX7_child_41 : decode cX7_child 41 = .ok (.invokevirtual 68, 3) := by decide +kernel
theorem dX7_child_44 : decode cX7_child 44 = .ok (.ifCond .ne 6, 3) := by decide +kernel
theorem dX7_child_47 : decode cX7_child 47 = .ok (.bipush (-3), 2) := by decide +kernel
theorem dX7_child_49 : decode cX7_child 49 = .ok (.ireturn, 1) := by decide +kernel
theorem dX7_child_50 : decode cX7_child 50 = .ok (.aload_n 0, 1) := by decide +kernel
theorem dX7_child_51 : decode cX7_child 51 = .ok (.getfield 10, 3) := by decide +kernel
theorem dX7_child_54 : decode cX7_child 54 = .ok (.getfield 72, 3) := by decide +kernel
theorem dX7_child_57 : decode cX7_child 57 = .ok (.iload_n 1, 1) := by decide +kernel
theorem dX7_child_58 : decode cX7_child 58 = .ok (.iaload, 1) := by decide +kernel
theorem dX7_child_59 : decode cX7_child 59 = .ok (.istore 4, 2) := by decide +kernel
theorem dX7_child_61 : decode cX7_child 61 = .ok (.aload_n 0, 1) := by decide +kernel
theorem dX7_child_62 : decode cX7_child 62 = .ok (.getfield 10, 3) := by decide +kernel
theorem dX7_child_65 : decode cX7_child 65 = .ok (.getfield 72, 3) := by decide +kernel
theorem dX7_child_68 : decode cX7_child 68 = .ok (.iload_n 1, 1) := by decide +kernel
theorem dX7_child_69 : decode cX7_child 69 = .ok (.iload_n 2, 1) := by decide +kernel
theorem dX7_child_70 : decode cX7_child 70 = .ok (.iastore, 1) := by decide +kernel
theorem dX7_child_71 : decode cX7_child 71 = .ok (.aload_n 0, 1) := by decide +kernel
theorem dX7_child_72 : decode cX7_child 72 = .ok (.getfield 10, 3) := by decide +kernel
theorem dX7_child_75 : decode cX7_child 75 = .ok (.iload_n 1, 1) := by decide +kernel
theorem dX7_child_76 : decode cX7_child 76 = .ok (.invokevirtual 76, 3) := by decide +kernel
theorem dX7_child_79 : decode cX7_child 79 = .ok (.iload_n 3, 1) := by decide +kernel
theorem dX7_child_80 : decode cX7_child 80 = .ok (.iconst 1, 1) := by decide +kernel
theorem dX7_child_81 : decode cX7_child 81 = .ok (.if_icmp .ne 7, 3) := by decide +kernel
theorem dX7_child_84 : decode cX7_child 84 = .ok (.iconst 1, 1) := by decide +kernel
theorem dX7_child_85 : decode cX7_child 85 = .ok (.goto 4, 3) := by decide +kernel
theorem dX7_child_88 : decode cX7_child 88 = .ok (.iconst 0, 1) := by decide +kernel
theorem dX7_child_89 : decode cX7_child 89 = .ok (.if_icmp .eq 11, 3) := by decide +kernel
theorem dX7_child_92 : decode cX7_child 92 = .ok (.aload_n 0, 1) := by decide +kernel
theorem dX7_child_93 : decode cX7_child 93 = .ok (.getfield 10, 3) := by decide +kernel
theorem dX7_child_96 : decode cX7_child 96 = .ok (.iload_n 1, 1) := by decide +kernel
theorem dX7_child_97 : decode cX7_child 97 = .ok (.invokevirtual 80, 3) := by decide +kernel
theorem dX7_child_100 : decode cX7_child 100 = .ok (.iload 4, 2) := by decide +kernel
theorem dX7_child_102 : decode cX7_child 102 = .ok (.ireturn, 1) := by decide +kernel
set_option maxRecDepth 20000 in
theorem ggX7_string_X7_isWithin : GoodIn wsX7_string wsX7_isWithin := goodIn_r _ [6] (by decide +kernel) (by decide +kernel)
set_option maxRecDepth 20000 in
theorem gX7_string_X7_isWithin : GoodIn wsX7_string (va_wsS RX7 64 yX7_isWithin wsX7_isWithin) := goodIn_app (goodIn_of _ (by decide +kernel)) ggX7_string_X7_isWithin
set_option maxRecDepth 20000 in
theorem ggX7_string_X5_apart : GoodIn wsX7_string wsX5_apart := goodIn_r _ [11, 12, 13, 14, 15, 16, 26, 27, 28, 29, 30, 31, 32] (by decide +kernel) (by decide +kernel)
set_option maxRecDepth 20000 in
theorem gX7_string_X5_apart : GoodIn wsX7_string (wsV RX7 84 RX5 yX5_apart wsX5_apart) := goodIn_app (goodIn_of _ (by decide +kernel)) ggX7_string_X5_apart
theorem dX7_string_0 : decode cX7_string 0 = .ok (.iload_n 1, 1) := by decide +kernel
theorem dX7_string_1 : decode cX7_string 1 = .ok (.iconst 0, 1) := by decide +kernel
theorem dX7_string_2 : decode cX7_string 2 = .ok (.bipush 8, 2) := by decide +kernel
theorem dX7_string_4 : decode cX7_string 4 = .ok (.invokestatic 64, 3) := by decide +kernel
theorem dX7_string_7 : decode cX7_string 7 = .ok (.ifCond .ne 5, 3) := by decide +kernel
theorem dX7_string_10 : decode cX7_string 10 = .ok (.iconst (-1), 1) := by decide +kernel
theorem dX7_string_11 : decode cX7_string 11 = .ok (.ireturn, 1) := by decide +kernel
theorem dX7_string_12 : decode cX7_string 12 = .ok (.iload_n 2, 1) := by decide +kernel
theorem dX7_string_13 : decode cX7_string 13 = .ok (.iconst 1, 1) := by decide +kernel
theorem dX7_string_14 : decode cX7_string 14 = .ok (.bipush 99, 2) := by decide +kernel
theorem dX7_string_16 : decode cX7_string 16 = .ok (.invokestatic 64, 3) := by decide +kernel
theorem dX7_string_19 : decode cX7_string 19 = .ok (.ifCond .ne 6, 3) := by decide +kernel
theorem dX7_string_22 : decode cX7_string 22 = .ok (.bipush (-2), 2) := by decide +kernel
theorem dX7_string_24 : decode cX7_string 24 = .ok (.ireturn, 1) := by decide +kernel
theorem dX7_string_25 : decode cX7_string 25 = .ok (.aload_n 0, 1) := by decide +kernel
theorem dX7_string_26 : decode cX7_string 26 = .ok (.getfield 10, 3) := by decide +kernel
theorem dX7_string_29 : decode cX7_string 29 = .ok (.iload_n 1, 1) := by decide +kernel
theorem dX7_string_30 : decode cX7_string 30 = .ok (.invokevirtual 84, 3) := by decide +kernel
theorem dX7_string_33 : decode cX7_string 33 = .ok (.iload_n 2, 1) := by decide +kernel
theorem dX7_string_34 : decode cX7_string 34 = .ok (.if_icmp .le 6, 3) := by decide +kernel
theorem dX7_string_37 : decode cX7_string 37 = .ok (.bipush (-3), 2) := by decide +kernel
theorem dX7_string_39 : decode cX7_string 39 = .ok (.ireturn, 1) := by decide +kernel
theorem dX7_string_40 : decode cX7_string 40 = .ok (.aload_n 0, 1) := by decide +kernel
theorem dX7_string_41 : decode cX7_string 41 = .ok (.getfield 10, 3) := by decide +kernel
theorem dX7_string_44 : decode cX7_string 44 = .ok (.getfield 88, 3) := by decide +kernel
theorem dX7_string_47 : decode cX7_string 47 = .ok (.iload_n 1, 1) := by decide +kernel
theorem dX7_string_48 : decode cX7_string 48 = .ok (.iaload, 1) := by decide +kernel
theorem dX7_string_49 : decode cX7_string 49 = .ok (.istore_n 3, 1) := by decide +kernel
theorem dX7_string_50 : decode cX7_string 50 = .ok (.aload_n 0, 1) := by decide +kernel
theorem dX7_string_51 : decode cX7_string 51 = .ok (.getfield 10, 3) := by decide +kernel
theorem dX7_string_54 : decode cX7_string 54 = .ok (.getfield 88, 3) := by decide +kernel
theorem dX7_string_57 : decode cX7_string 57 = .ok (.iload_n 1, 1) := by decide +kernel
theorem dX7_string_58 : decode cX7_string 58 = .ok (.iload_n 2, 1) := by decide +kernel
theorem dX7_string_59 : decode cX7_string 59 = .ok (.iastore, 1) := by decide +kernel
theorem dX7_string_60 : decode cX7_string 60 = .ok (.iload_n 3, 1) := by decide +kernel
theorem dX7_string_61 : decode cX7_string 61 = .ok (.ireturn, 1) := by decide +kernel
set_option maxRecDepth 20000 in
theorem ggX7_ball_X7_isWithin : GoodIn wsX7_ball wsX7_isWithin := goodIn_r _ [6] (by decide +kernel) (by decide +kernel)
set_option maxRecDepth 20000 in
theorem gX7_ball_X7_isWithin : GoodIn wsX7_ball (va_wsS RX7 64 yX7_isWithin wsX7_isWithin) := goodIn_app (goodIn_of _ (by decide +kernel)) ggX7_ball_X7_isWithin
theorem dX7_ball_0 : decode cX7_ball 0 = .ok (.iload_n 1, 1) := by decide +kernel
theorem dX7_ball_1 : decode cX7_ball 1 = .ok (.iconst 0, 1) := by decide +kernel
theorem dX7_ball_2 : decode cX7_ball 2 = .ok (.sipush 999, 3) := by decide +kernel
theorem dX7_ball_5 : decode cX7_ball 5 = .ok (.invokestatic 64, 3) := by decide +kernel
theorem dX7_ball_8 : decode cX7_ball 8 = .ok (.ifCond .ne 6, 3) := by decide +kernel
theorem dX7_ball_11 : decode cX7_ball 11 = .ok (.bipush (-2), 2) := by decide +kernel
theorem dX7_ball_13 : decode cX7_ball 13 = .ok (.ireturn, 1) := by decide +kernel
theorem dX7_ball_14 : decode cX7_ball 14 = .ok (.aload_n 0, 1) := by decide +kernel
theorem dX7_ball_15 : decode cX7_ball 15 = .ok (.getfield 10, 3) := by decide +kernel
theorem dX7_ball_18 : decode cX7_ball 18 = .ok (.getfield 91, 3) := by decide +kernel
theorem dX7_ball_21 : decode cX7_ball 21 = .ok (.istore_n 2, 1) := by decide +kernel
theorem dX7_ball_22 : decode cX7_ball 22 = .ok (.aload_n 0, 1) := by decide +kernel
theorem dX7_ball_23 : decode cX7_ball 23 = .ok (.getfield 10, 3) := by decide +kernel
theorem dX7_ball_26 : decode cX7_ball 26 = .ok (.iload_n 1, 1) := by decide +kernel
theorem dX7_ball_27 : decode cX7_ball 27 = .ok (.putfield 91, 3) := by decide +kernel
theorem dX7_ball_30 : decode cX7_ball 30 = .ok (.iload_n 2, 1) := by decide +kernel
theorem dX7_ball_31 : decode cX7_ball 31 = .ok (.ireturn, 1) := by decide +kernel
set_option maxRecDepth 20000 in
theorem ggX7_say_X7_isWithin : GoodIn wsX7_say wsX7_isWithin := goodIn_r _ [6] (by decide +kernel) (by decide +kernel)
set_option maxRecDepth 20000 in
theorem gX7_say_X7_isWithin : GoodIn wsX7_say (va_wsS RX7 64 yX7_isWithin wsX7_isWithin) := goodIn_app (goodIn_of _ (by decide +kernel)) ggX7_say_X7_isWithin
set_option maxRecDepth 20000 in
theorem ggX7_say_X3_add : GoodIn wsX7_say wsX3_add := goodIn_r _ [11, 12, 13, 23, 24, 25, 26, 27, 28] (by decide +kernel) (by decide +kernel)
set_option maxRecDepth 20000 in
theorem gX7_say_X3_add : GoodIn wsX7_say (wsV RX7 95 RX3 yX3_add wsX3_add) := goodIn_app (goodIn_of _ (by decide +kernel)) ggX7_say_X3_add
theorem dX7_say_0 : decode cX7_say 0 = .ok (.iload_n 1, 1) := by decide +kernel
theorem dX7_say_1 : decode cX7_say 1 = .ok (.bipush 33, 2) := by decide +kernel
theorem dX7_say_3 : decode cX7_say 3 = .ok (.bipush 126, 2) := by decide +kernel
theorem dX7_say_5 : decode cX7_say 5 = .ok (.invokestatic 64, 3) := by decide +kernel
theorem dX7_say_8 : decode cX7_say 8 = .ok (.ifCond .ne 6, 3) := by decide +kernel
theorem dX7_say_11 : decode cX7_say 11 = .ok (.bipush (-2), 2) := by decide +kernel
theorem dX7_say_13 : decode cX7_say 13 = .ok (.ireturn, 1) := by decide +kernel
theorem dX7_say_14 : decode cX7_say 14 = .ok (.aload_n 0, 1) := by decide +kernel
theorem dX7_say_15 : decode cX7_say 15 = .ok (.getfield 22, 3) := by decide +kernel
theorem dX7_say_18 : decode cX7_say 18 = .ok (.iload_n 1, 1) := by decide +kernel
theorem dX7_say_19 : decode cX7_say 19 = .ok (.invokevirtual 95, 3) := by decide +kernel
theorem dX7_say_22 : decode cX7_say 22 = .ok (.ifCond .eq 13, 3) := by decide +kernel
theorem dX7_say_25 : decode cX7_say 25 = .ok (.aload_n 0, 1) := by decide +kernel
theorem dX7_say_26 : decode cX7_say 26 = .ok (.getfield 22, 3) := by decide +kernel
theorem dX7_say_29 : decode cX7_say 29 = .ok (.getfield 98, 3) := by decide +kernel
theorem dX7_say_32 : decode cX7_say 32 = .ok (.goto 5, 3) := by decide +kernel
theorem dX7_say_35 : decode cX7_say 35 = .ok (.bipush (-4), 2) := by decide +kernel
theorem dX7_say_37 : decode cX7_say 37 = .ok (.ireturn, 1) := by decide +kernel
set_option maxRecDepth 20000 in
theorem ggX7_wipe_X3_clear : GoodIn wsX7_wipe wsX3_clear := goodIn_r _ [7, 8, 18, 19, 20, 21, 22, 23] (by decide +kernel) (by decide +kernel)
set_option maxRecDepth 20000 in
theorem gX7_wipe_X3_clear : GoodIn wsX7_wipe (wsV RX7 101 RX3 yX3_clear wsX3_clear) := goodIn_app (goodIn_of _ (by decide +kernel)) ggX7_wipe_X3_clear
theorem dX7_wipe_0 : decode cX7_wipe 0 = .ok (.aload_n 0, 1) := by decide +kernel
theorem dX7_wipe_1 : decode cX7_wipe 1 = .ok (.getfield 22, 3) := by decide +kernel
theorem dX7_wipe_4 : decode cX7_wipe 4 = .ok (.getfield 98, 3) := by decide +kernel
theorem dX7_wipe_7 : decode cX7_wipe 7 = .ok (.istore_n 1, 1) := by decide +kernel
theorem dX7_wipe_8 : decode cX7_wipe 8 = .ok (.aload_n 0, 1) := by decide +kernel
theorem dX7_wipe_9 : decode cX7_wipe 9 = .ok (.getfield 22, 3) := by decide +kernel
theorem dX7_wipe_12 : decode cX7_wipe 12 = .ok (.invokevirtual 101, 3) := by decide +kernel
theorem dX7_wipe_15 : decode cX7_wipe 15 = .ok (.iload_n 1, 1) := by decide +kernel
theorem dX7_wipe_16 : decode cX7_wipe 16 = .ok (.ireturn, 1) := by decide +kernel
set_option maxRecDepth 20000 in
theorem ggX7_fault_X3_faultPlace : GoodIn wsX7_fault wsX3_faultPlace := goodIn_r _ [6, 7, 8, 9, 10, 5, 11, 12, 13, 14, 24, 25, 26, 27, 28, 29] (by decide +kernel) (by decide +kernel)
set_option maxRecDepth 20000 in
theorem gX7_fault_X3_faultPlace : GoodIn wsX7_fault (wsV RX7 104 RX3 yX3_faultPlace wsX3_faultPlace) := goodIn_app (goodIn_of _ (by decide +kernel)) ggX7_fault_X3_faultPlace
theorem dX7_fault_0 : decode cX7_fault 0 = .ok (.aload_n 0, 1) := by decide +kernel
theorem dX7_fault_1 : decode cX7_fault 1 = .ok (.getfield 22, 3) := by decide +kernel
theorem dX7_fault_4 : decode cX7_fault 4 = .ok (.invokevirtual 104, 3) := by decide +kernel
theorem dX7_fault_7 : decode cX7_fault 7 = .ok (.ireturn, 1) := by decide +kernel
set_option maxRecDepth 20000 in
theorem ggX7_judge_X7_isWithin : GoodIn wsX7_judge wsX7_isWithin := goodIn_r _ [8] (by decide +kernel) (by decide +kernel)
set_option maxRecDepth 20000 in
theorem gX7_judge_X7_isWithin : GoodIn wsX7_judge (va_wsS RX7 64 yX7_isWithin wsX7_isWithin) := goodIn_app (goodIn_of _ (by decide +kernel)) ggX7_judge_X7_isWithin
set_option maxRecDepth 20000 in
theorem ggX7_judge_X7_runText : GoodIn wsX7_judge wsX7_runText := goodIn_r _ [12, 13, 14, 15, 1, 16, 2, 17, 18, 19, 20, 21, 22, 23, 24, 25, 26, 27, 28, 29, 6, 7, 8, 30, 31, 32, 33, 34, 35, 36, 37, 38, 39, 40, 41, 42, 43, 44, 45, 46, 47, 48, 49, 50, 51, 52, 53, 54, 55, 56, 57, 58, 59, 60, 61, 62, 63, 64, 65, 66, 67, 68, 69, 70, 71, 72, 73, 74, 75, 76, 77, 78, 79, 80, 81, 82, 83, 84, 85, 86, 87, 88, 89, 90, 91, 92, 93, 94, 95, 96, 97, 98, 99, 100, 101, 102, 103, 104, 105, 106, 107, 108, 109, 110, 111, 112, 113, 114, 115, 116, 117, 118, 119, 120, 121, 122, 123, 124, 125, 126, 127, 128, 129, 130, 131, 132, 133, 134, 135, 136, 137, 138, 139, 140, 141, 142, 143, 144, 145, 146, 147, 148, 149, 150, 151, 152, 153, 154, 155, 156, 157, 158, 159, 160, 161, 168, 169, 170, 171, 172, 173, 162, 163, 164, 165, 166, 167, 174, 175, 176, 177, 178, 179, 180] (by decide +kernel) (by decide +kernel)
set_option maxRecDepth 20000 in
theorem gX7_judge_X7_runText : GoodIn wsX7_judge (wsV RX7 108 RX7 yX7_runText wsX7_runText) := goodIn_app (goodIn_of _ (by decide +kernel)) ggX7_judge_X7_runText
theorem dX7_judge_0 : decode cX7_judge 0 = .ok (.iload_n 1, 1) := by decide +kernel
theorem dX7_judge_1 : decode cX7_judge 1 = .ok (.iconst 0, 1) := by decide +kernel
theorem dX7_judge_2 : decode cX7_judge 2 = .ok (.iconst 2, 1) := by decide +kernel
theorem dX7_judge_3 : decode cX7_judge 3 = .ok (.invokestatic 64, 3) := by decide +kernel
theorem dX7_judge_6 : decode cX7_judge 6 = .ok (.ifCond .ne 6, 3) := by decide +kernel
theorem dX7_judge_9 : decode cX7_judge 9 = .ok (.bipush (-2), 2) := by decide +kernel
theorem dX7_judge_11 : decode cX7_judge 11 = .ok (.ireturn, 1) := by decide +kernel
theorem dX7_judge_12 : decode cX7_judge 12 = .ok (.aload_n 0, 1) := by decide +kernel
theorem dX7_judge_13 : decode cX7_judge 13 = .ok (.invokevirtual 108, 3) := by decide +kernel
theorem dX7_judge_16 : decode cX7_judge 16 = .ok (.istore_n 2, 1) := by decide +kernel
theorem dX7_judge_17 : decode cX7_judge 17 = .ok (.iload_n 2, 1) := by decide +kernel
theorem dX7_judge_18 : decode cX7_judge 18 = .ok (.bipush (-5), 2) := by decide +kernel
theorem dX7_judge_20 : decode cX7_judge 20 = .ok (.if_icmp .ne 6, 3) := by decide +kernel
theorem dX7_judge_23 : decode cX7_judge 23 = .ok (.bipush (-5), 2) := by decide +kernel
theorem dX7_judge_25 : decode cX7_judge 25 = .ok (.ireturn, 1) := by decide +kernel
theorem dX7_judge_26 : decode cX7_judge 26 = .ok (.iload_n 1, 1) := by decide +kernel
theorem dX7_judge_27 : decode cX7_judge 27 = .ok (.ifCond .ne 11, 3) := by decide +kernel
theorem dX7_judge_30 : decode cX7_judge 30 = .ok (.aload_n 0, 1) := by decide +kernel
theorem dX7_judge_31 : decode cX7_judge 31 = .ok (.getfield 29, 3) := by decide +kernel
theorem dX7_judge_34 : decode cX7_judge 34 = .ok (.getfield 111, 3) := by decide +kernel
theorem dX7_judge_37 : decode cX7_judge 37 = .ok (.ireturn, 1) := by decide +kernel
theorem dX7_judge_38 : decode cX7_judge 38 = .ok (.iload_n 1, 1) := by decide +kernel
theorem dX7_judge_39 : decode cX7_judge 39 = .ok (.iconst 1, 1) := by decide +kernel
theorem dX7_judge_40 : decode cX7_judge 40 = .ok (.if_icmp .ne 11, 3) := by decide +kernel
theorem dX7_judge_43 : decode cX7_judge 43 = .ok (.aload_n 0, 1) := by decide +kernel
theorem dX7_judge_44 : decode cX7_judge 44 = .ok (.getfield 29, 3) := by decide +kernel
theorem dX7_judge_47 : decode cX7_judge 47 = .ok (.getfield 114, 3) := by decide +kernel
theorem dX7_judge_50 : decode cX7_judge 50 = .ok (.ireturn, 1) := by decide +kernel
theorem dX7_judge_51 : decode cX7_judge 51 = .ok (.iload_n 2, 1) := by decide +kernel
theorem dX7_judge_52 : decode cX7_judge 52 = .ok (.bipush (-3), 2) := by decide +kernel
theorem dX7_judge_54 : decode cX7_judge 54 = .ok (.if_icmp .ne 8, 3) := by decide +kernel
theorem dX7_judge_57 : decode cX7_judge 57 = .ok (.bipush (-3), 2) := by decide +kernel
theorem dX7_judge_59 : decode cX7_judge 59 = .ok (.goto 10, 3) := by decide +kernel
theorem dX7_judge_62 : decode cX7_judge 62 = .ok (.aload_n 0, 1) := by decide +kernel
theorem dX7_judge_63 : decode cX7_judge 63 = .ok (.getfield 29, 3) := by decide +kernel
theorem dX7_judge_66 : decode cX7_judge 66 = .ok (.getfield 117, 3) := by decide +kernel
theorem dX7_judge_69 : decode cX7_judge 69 = .ok (.ireturn, 1) := by decide +kernel
set_option maxRecDepth 20000 in
theorem ggX7_behind_X7_isWithin : GoodIn wsX7_behind wsX7_isWithin := goodIn_r _ [7] (by decide +kernel) (by decide +kernel)
set_option maxRecDepth 20000 in
theorem gX7_behind_X7_isWithin : GoodIn wsX7_behind (va_wsS RX7 64 yX7_isWithin wsX7_isWithin) := goodIn_app (goodIn_of _ (by decide +kernel)) ggX7_behind_X7_isWithin
set_option maxRecDepth 20000 in
theorem ggX7_behind_X7_runText : GoodIn wsX7_behind wsX7_runText := goodIn_r _ [11, 12, 1, 13, 14, 15, 16, 17, 18, 19, 20, 21, 22, 23, 24, 25, 26, 27, 28, 29, 5, 6, 7, 30, 31, 32, 33, 34, 35, 36, 37, 38, 39, 40, 41, 42, 43, 44, 45, 46, 47, 48, 49, 50, 51, 52, 53, 54, 55, 56, 57, 58, 59, 60, 61, 62, 63, 64, 65, 66, 67, 68, 69, 70, 71, 72, 73, 74, 75, 76, 77, 78, 79, 80, 81, 82, 83, 84, 85, 86, 87, 88, 89, 90, 91, 92, 93, 94, 95, 96, 97, 98, 99, 100, 101, 102, 103, 104, 105, 106, 107, 108, 109, 110, 111, 112, 113, 114, 115, 116, 117, 118, 119, 120, 121, 122, 123, 124, 125, 126, 127, 128, 129, 130, 131, 132, 133, 134, 135, 136, 137, 138, 139, 140, 141, 142, 143, 144, 145, 146, 147, 148, 149, 150, 151, 152, 157, 158, 159, 160, 161, 162, 163, 164, 165, 173, 174, 175, 176, 177, 178, 179, 180, 181, 182, 183, 184, 166, 167, 168, 169, 170, 171, 172] (by decide +kernel) (by decide +kernel)
set_option maxRecDepth 20000 in
theorem gX7_behind_X7_runText : GoodIn wsX7_behind (wsV RX7 108 RX7 yX7_runText wsX7_runText) := goodIn_app (goodIn_of _ (by decide +kernel)) ggX7_behind_X7_runText
set_option maxRecDepth 20000 in
theorem ggX7_behind_X5_holdsFast : GoodIn wsX7_behind wsX5_holdsFast := goodIn_r _ [156, 38, 166, 167, 168, 169, 170, 171, 172] (by decide +kernel) (by decide +kernel)
set_option maxRecDepth 20000 in
theorem gX7_behind_X5_holdsFast : GoodIn wsX7_behind (wsV RX7 76 RX5 yX5_holdsFast wsX5_holdsFast) := goodIn_app (goodIn_of _ (by decide +kernel)) ggX7_behind_X5_holdsFast
theorem dX7_behind_0 : decode cX7_behind 0 = .ok (.iload_n 1, 1) := by decide +kernel
theorem dX7_behind_1 : decode cX7_behind 1 = .ok (.iconst 0, 1) := by decide +kernel
theorem dX7_behind_2 : decode cX7_behind 2 = .ok (.bipush 9, 2) := by decide +kernel
theorem dX7_behind_4 : decode cX7_behind 4 = .ok (.invokestatic 64, 3) := by decide +kernel
theorem dX7_behind_7 : decode cX7_behind 7 = .ok (.ifCond .ne 5, 3) := by decide +kernel
theorem dX7_behind_10 : decode cX7_behind 10 = .ok (.iconst (-1), 1) := by decide +kernel
theorem dX7_behind_11 : decode cX7_behind 11 = .ok (.ireturn, 1) := by decide +kernel
theorem dX7_behind_12 : decode cX7_behind 12 = .ok (.iload_n 2, 1) := by decide +kernel
theorem dX7_behind_13 : decode cX7_behind 13 = .ok (.iconst 0, 1) := by decide +kernel
theorem dX7_behind_14 : decode cX7_behind 14 = .ok (.iconst 2, 1) := by decide +kernel
theorem dX7_behind_15 : decode cX7_behind 15 = .ok (.invokestatic 64, 3) := by decide +kernel
theorem dX7_behind_18 : decode cX7_behind 18 = .ok (.ifCond .ne 6, 3) := by decide +kernel
theorem dX7_behind_21 : decode cX7_behind 21 = .ok (.bipush (-2), 2) := by decide +kernel
theorem dX7_behind_23 : decode cX7_behind 23 = .ok (.ireturn, 1) := by decide +kernel
theorem dX7_behind_24 : decode cX7_behind 24 = .ok (.aload_n 0, 1) := by decide +kernel
theorem dX7_behind_25 : decode cX7_behind 25 = .ok (.invokevirtual 108, 3) := by decide +kernel
theorem dX7_behind_28 : decode cX7_behind 28 = .ok (.istore_n 3, 1) := by decide +kernel
theorem dX7_behind_29 : decode cX7_behind 29 = .ok (.iload_n 3, 1) := by decide +kernel
theorem dX7_behind_30 : decode cX7_behind 30 = .ok (.ifCond .eq 5, 3) := by decide +kernel
theorem dX7_behind_33 : decode cX7_behind 33 = .ok (.iload_n 3, 1) := by decide +kernel
theorem dX7_behind_34 : decode cX7_behind 34 = .ok (.ireturn, 1) := by decide +kernel
theorem dX7_behind_35 : decode cX7_behind 35 = .ok (.iload_n 2, 1) := by decide +kernel
theorem dX7_behind_36 : decode cX7_behind 36 = .ok (.ifCond .ne 13, 3) := by decide +kernel
theorem dX7_behind_39 : decode cX7_behind 39 = .ok (.aload_n 0, 1) := by decide +kernel
theorem dX7_behind_40 : decode cX7_behind 40 = .ok (.getfield 16, 3) := by decide +kernel
theorem dX7_behind_43 : decode cX7_behind 43 = .ok (.getfield 72, 3) := by decide +kernel
theorem dX7_behind_46 : decode cX7_behind 46 = .ok (.iload_n 1, 1) := by decide +kernel
theorem dX7_behind_47 : decode cX7_behind 47 = .ok (.iaload, 1) := by decide +kernel
theorem dX7_behind_48 : decode cX7_behind 48 = .ok (.ireturn, 1) := by decide +kernel
theorem dX7_behind_49 : decode cX7_behind 49 = .ok (.iload_n 2, 1) := by decide +kernel
theorem dX7_behind_50 : decode cX7_behind 50 = .ok (.iconst 1, 1) := by decide +kernel
theorem dX7_behind_51 : decode cX7_behind 51 = .ok (.if_icmp .ne 13, 3) := by decide +kernel
theorem dX7_behind_54 : decode cX7_behind 54 = .ok (.aload_n 0, 1) := by decide +kernel
theorem dX7_behind_55 : decode cX7_behind 55 = .ok (.getfield 16, 3) := by decide +kernel
theorem dX7_behind_58 : decode cX7_behind 58 = .ok (.getfield 120, 3) := by decide +kernel
theorem dX7_behind_61 : decode cX7_behind 61 = .ok (.iload_n 1, 1) := by decide +kernel
theorem dX7_behind_62 : decode cX7_behind 62 = .ok (.iaload, 1) := by decide +kernel
theorem dX7_behind_63 : decode cX7_behind 63 = .ok (.ireturn, 1) := by decide +kernel
theorem dX7_behind_64 : decode cX7_behind 64 = .ok (.aload_n 0, 1) := by decide +kernel
theorem dX7_behind_65 : decode cX7_behind 65 = .ok (.getfield 16, 3) := by decide +kernel
theorem dX7_behind_68 : decode cX7_behind 68 = .ok (.iload_n 1, 1) := by decide +kernel
theorem dX7_behind_69 : decode cX7_behind 69 = .ok (.invokevirtual 76, 3) := by decide +kernel
theorem dX7_behind_72 : decode cX7_behind 72 = .ok (.ifCond .eq 7, 3) := by decide +kernel
theorem dX7_behind_75 : decode cX7_behind 75 = .ok (.iconst 1, 1) := by decide +kernel
theorem dX7_behind_76 : decode cX7_behind 76 = .ok (.goto 4, 3) := by decide +kernel
theorem dX7_behind_79 : decode cX7_behind 79 = .ok (.iconst 0, 1) := by decide +kernel
theorem dX7_behind_80 : decode cX7_behind 80 = .ok (.ireturn, 1) := by decide +kernel
set_option maxRecDepth 20000 in
theorem ggX7_line_X7_isWithin : GoodIn wsX7_line wsX7_isWithin := goodIn_r _ [7] (by decide +kernel) (by decide +kernel)
set_option maxRecDepth 20000 in
theorem gX7_line_X7_isWithin : GoodIn wsX7_line (va_wsS RX7 64 yX7_isWithin wsX7_isWithin) := goodIn_app (goodIn_of _ (by decide +kernel)) ggX7_line_X7_isWithin
set_option maxRecDepth 20000 in
theorem ggX7_line_X7_runText : GoodIn wsX7_line wsX7_runText := goodIn_r _ [11, 12, 1, 13, 14, 15, 16, 17, 18, 19, 20, 21, 22, 23, 24, 25, 26, 27, 28, 29, 5, 6, 7, 30, 31, 32, 33, 34, 35, 36, 37, 38, 39, 40, 41, 42, 43, 44, 45, 46, 47, 48, 49, 50, 51, 52, 53, 54, 55, 56, 57, 58, 59, 60, 61, 62, 63, 64, 65, 66, 67, 68, 69, 70, 71, 72, 73, 74, 75, 76, 77, 78, 79, 80, 81, 82, 83, 84, 85, 86, 87, 88, 89, 90, 91, 92, 93, 94, 95, 96, 97, 98, 99, 100, 101, 102, 103, 104, 105, 106, 107, 108, 109, 110, 111, 112, 113, 114, 115, 116, 117, 118, 119, 120, 121, 122, 123, 124, 125, 126, 127, 128, 129, 130, 131, 132, 133, 134, 135, 136, 137, 138, 139, 140, 141, 142, 143, 144, 145, 146, 147, 148, 149, 150, 151, 152, 161, 162, 163, 164, 165, 166, 167, 168, 169, 177, 178, 179, 180, 181, 182, 183, 184, 185, 186, 187, 188, 170, 171, 172, 173, 174, 175, 176] (by decide +kernel) (by decide +kernel)
set_option maxRecDepth 20000 in
theorem gX7_line_X7_runText : GoodIn wsX7_line (wsV RX7 108 RX7 yX7_runText wsX7_runText) := goodIn_app (goodIn_of _ (by decide +kernel)) ggX7_line_X7_runText
set_option maxRecDepth 20000 in
theorem ggX7_line_X5_tautBits : GoodIn wsX7_line wsX5_tautBits := goodIn_r _ [156, 93, 94, 95, 33, 96, 37, 97, 98, 99, 100, 35, 101, 102, 103, 104, 170, 171, 172, 173, 174, 175, 176] (by decide +kernel) (by decide +kernel)
set_option maxRecDepth 20000 in
theorem gX7_line_X5_tautBits : GoodIn wsX7_line (wsV RX7 123 RX5 yX5_tautBits wsX5_tautBits) := goodIn_app (goodIn_of _ (by decide +kernel)) ggX7_line_X5_tautBits
set_option maxRecDepth 20000 in
theorem ggX7_line_X5_allLengths : GoodIn wsX7_line wsX5_allLengths := goodIn_r _ [160, 37, 170, 171, 172, 173, 174, 175, 176] (by decide +kernel) (by decide +kernel)
set_option maxRecDepth 20000 in
theorem gX7_line_X5_allLengths : GoodIn wsX7_line (wsV RX7 126 RX5 yX5_allLengths wsX5_allLengths) := goodIn_app (goodIn_of _ (by decide +kernel)) ggX7_line_X5_allLengths
theorem dX7_line_0 : decode cX7_line 0 = .ok (.iload_n 1, 1) := by decide +kernel
theorem dX7_line_1 : decode cX7_line 1 = .ok (.iconst 0, 1) := by decide +kernel
theorem dX7_line_2 : decode cX7_line 2 = .ok (.iconst 3, 1) := by decide +kernel
theorem dX7_line_3 : decode cX7_line 3 = .ok (.invokestatic 64, 3) := by decide +kernel
theorem dX7_line_6 : decode cX7_line 6 = .ok (.ifCond .ne 6, 3) := by decide +kernel
theorem dX7_line_9 : decode cX7_line 9 = .ok (.bipush (-2), 2) := by decide +kernel
theorem dX7_line_11 : decode cX7_line 11 = .ok (.ireturn, 1) := by decide +kernel
theorem dX7_line_12 : decode cX7_line 12 = .ok (.aload_n 0, 1) := by decide +kernel
theorem dX7_line_13 : decode cX7_line 13 = .ok (.invokevirtual 108, 3) := by decide +kernel
theorem dX7_line_16 : decode cX7_line 16 = .ok (.istore_n 2, 1) := by decide +kernel
theorem dX7_line_17 : decode cX7_line 17 = .ok (.iload_n 2, 1) := by decide +kernel
theorem dX7_line_18 : decode cX7_line 18 = .ok (.ifCond .eq 5, 3) := by decide +kernel
theorem dX7_line_21 : decode cX7_line 21 = .ok (.iload_n 2, 1) := by decide +kernel
theorem dX7_line_22 : decode cX7_line 22 = .ok (.ireturn, 1) := by decide +kernel
theorem dX7_line_23 : decode cX7_line 23 = .ok (.iload_n 1, 1) := by decide +kernel
theorem dX7_line_24 : decode cX7_line 24 = .ok (.ifCond .ne 11, 3) := by decide +kernel
theorem dX7_line_27 : decode cX7_line 27 = .ok (.aload_n 0, 1) := by decide +kernel
theorem dX7_line_28 : decode cX7_line 28 = .ok (.getfield 16, 3) := by decide +kernel
theorem dX7_line_31 : decode cX7_line 31 = .ok (.invokevirtual 123, 3) := by decide +kernel
theorem dX7_line_34 : decode cX7_line 34 = .ok (.ireturn, 1) := by decide +kernel
theorem dX7_line_35 : decode cX7_line 35 = .ok (.iload_n 1, 1) := by decide +kernel
theorem dX7_line_36 : decode cX7_line 36 = .ok (.iconst 1, 1) := by decide +kernel
theorem dX7_line_37 : decode cX7_line 37 = .ok (.if_icmp .ne 11, 3) := by decide +kernel
theorem dX7_line_40 : decode cX7_line 40 = .ok (.aload_n 0, 1) := by decide +kernel
theorem dX7_line_41 : decode cX7_line 41 = .ok (.getfield 16, 3) := by decide +kernel
theorem dX7_line_44 : decode cX7_line 44 = .ok (.getfield 91, 3) := by decide +kernel
theorem dX7_line_47 : decode cX7_line 47 = .ok (.ireturn, 1) := by decide +kernel
theorem dX7_line_48 : decode cX7_line 48 = .ok (.iload_n 1, 1) := by decide +kernel
theorem dX7_line_49 : decode cX7_line 49 = .ok (.iconst 2, 1) := by decide +kernel
theorem dX7_line_50 : decode cX7_line 50 = .ok (.if_icmp .ne 11, 3) := by decide +kernel
theorem dX7_line_53 : decode cX7_line 53 = .ok (.aload_n 0, 1) := by decide +kernel
theorem dX7_line_54 : decode cX7_line 54 = .ok (.getfield 16, 3) := by decide +kernel
theorem dX7_line_57 : decode cX7_line 57 = .ok (.invokevirtual 126, 3) := by decide +kernel
theorem dX7_line_60 : decode cX7_line 60 = .ok (.ireturn, 1) := by decide +kernel
theorem dX7_line_61 : decode cX7_line 61 = .ok (.aload_n 0, 1) := by decide +kernel
theorem dX7_line_62 : decode cX7_line 62 = .ok (.getfield 16, 3) := by decide +kernel
theorem dX7_line_65 : decode cX7_line 65 = .ok (.getfield 129, 3) := by decide +kernel
theorem dX7_line_68 : decode cX7_line 68 = .ok (.ireturn, 1) := by decide +kernel
set_option maxRecDepth 20000 in
theorem ggX7_drawn_X7_isWithin : GoodIn wsX7_drawn wsX7_isWithin := goodIn_r _ [7] (by decide +kernel) (by decide +kernel)
set_option maxRecDepth 20000 in
theorem gX7_drawn_X7_isWithin : GoodIn wsX7_drawn (va_wsS RX7 64 yX7_isWithin wsX7_isWithin) := goodIn_app (goodIn_of _ (by decide +kernel)) ggX7_drawn_X7_isWithin
set_option maxRecDepth 20000 in
theorem ggX7_drawn_X7_runText : GoodIn wsX7_drawn wsX7_runText := goodIn_r _ [11, 12, 13, 14, 1, 15, 16, 17, 18, 19, 20, 21, 22, 23, 24, 25, 26, 27, 28, 29, 5, 6, 7, 30, 31, 32, 33, 34, 35, 36, 37, 38, 39, 40, 41, 42, 43, 44, 45, 46, 47, 48, 49, 50, 51, 52, 53, 54, 55, 56, 57, 58, 59, 60, 61, 62, 63, 64, 65, 66, 67, 68, 69, 70, 71, 72, 73, 74, 75, 76, 77, 78, 79, 80, 81, 82, 83, 84, 85, 86, 87, 88, 89, 90, 91, 92, 93, 94, 95, 96, 97, 98, 99, 100, 101, 102, 103, 104, 105, 106, 107, 108, 109, 110, 111, 112, 113, 114, 115, 116, 117, 118, 119, 120, 121, 122, 123, 124, 125, 126, 127, 128, 129, 130, 131, 132, 133, 134, 135, 136, 137, 138, 139, 140, 141, 142, 143, 144, 145, 146, 147, 148, 149, 150, 151, 152, 153, 154, 155, 156, 157, 158, 159, 160, 161, 168, 169, 170, 171, 172, 173, 162, 163, 164, 165, 166, 167, 174, 175, 176, 177, 178, 179, 180] (by decide +kernel) (by decide +kernel)
set_option maxRecDepth 20000 in
theorem gX7_drawn_X7_runText : GoodIn wsX7_drawn (wsV RX7 108 RX7 yX7_runText wsX7_runText) := goodIn_app (goodIn_of _ (by decide +kernel)) ggX7_drawn_X7_runText
theorem dX7_drawn_0 : decode cX7_drawn 0 = .ok (.iload_n 1, 1) := by decide +kernel
theorem dX7_drawn_1 : decode cX7_drawn 1 = .ok (.iconst 0, 1) := by decide +kernel
theorem dX7_drawn_2 : decode cX7_drawn 2 = .ok (.iconst 1, 1) := by decide +kernel
theorem dX7_drawn_3 : decode cX7_drawn 3 = .ok (.invokestatic 64, 3) := by decide +kernel
theorem dX7_drawn_6 : decode cX7_drawn 6 = .ok (.ifCond .ne 6, 3) := by decide +kernel
theorem dX7_drawn_9 : decode cX7_drawn 9 = .ok (.bipush (-2), 2) := by decide +kernel
theorem dX7_drawn_11 : decode cX7_drawn 11 = .ok (.ireturn, 1) := by decide +kernel
theorem dX7_drawn_12 : decode cX7_drawn 12 = .ok (.aload_n 0, 1) := by decide +kernel
theorem dX7_drawn_13 : decode cX7_drawn 13 = .ok (.invokevirtual 108, 3) := by decide +kernel
theorem dX7_drawn_16 : decode cX7_drawn 16 = .ok (.istore_n 2, 1) := by decide +kernel
theorem dX7_drawn_17 : decode cX7_drawn 17 = .ok (.iload_n 2, 1) := by decide +kernel
theorem dX7_drawn_18 : decode cX7_drawn 18 = .ok (.ifCond .eq 5, 3) := by decide +kernel
theorem dX7_drawn_21 : decode cX7_drawn 21 = .ok (.iload_n 2, 1) := by decide +kernel
theorem dX7_drawn_22 : decode cX7_drawn 22 = .ok (.ireturn, 1) := by decide +kernel
theorem dX7_drawn_23 : decode cX7_drawn 23 = .ok (.iload_n 1, 1) := by decide +kernel
theorem dX7_drawn_24 : decode cX7_drawn 24 = .ok (.ifCond .ne 13, 3) := by decide +kernel
theorem dX7_drawn_27 : decode cX7_drawn 27 = .ok (.aload_n 0, 1) := by decide +kernel
theorem dX7_drawn_28 : decode cX7_drawn 28 = .ok (.getfield 29, 3) := by decide +kernel
theorem dX7_drawn_31 : decode cX7_drawn 31 = .ok (.getfield 132, 3) := by decide +kernel
theorem dX7_drawn_34 : decode cX7_drawn 34 = .ok (.goto 10, 3) := by decide +kernel
theorem dX7_drawn_37 : decode cX7_drawn 37 = .ok (.aload_n 0, 1) := by decide +kernel
theorem dX7_drawn_38 : decode cX7_drawn 38 = .ok (.getfield 29, 3) := by decide +kernel
theorem dX7_drawn_41 : decode cX7_drawn 41 = .ok (.getfield 135, 3) := by decide +kernel
theorem dX7_drawn_44 : decode cX7_drawn 44 = .ok (.ireturn, 1) := by decide +kernel
set_option maxRecDepth 20000 in
theorem ggX7_done_X7_runText : GoodIn wsX7_done wsX7_runText := goodIn_r _ [10, 3, 2, 1, 4, 11, 12, 13, 14, 15, 16, 17, 18, 19, 20, 21, 22, 23, 24, 25, 26, 9, 27, 28, 29, 30, 31, 32, 33, 34, 35, 36, 37, 38, 39, 40, 41, 42, 43, 44, 45, 46, 47, 48, 49, 50, 51, 52, 53, 54, 55, 56, 57, 58, 59, 60, 61, 62, 63, 64, 65, 66, 67, 68, 69, 70, 71, 72, 73, 74, 75, 76, 77, 78, 79, 80, 81, 82, 83, 84, 85, 86, 87, 88, 89, 90, 91, 92, 93, 94, 95, 96, 97, 98, 99, 100, 101, 102, 103, 104, 105, 106, 107, 108, 109, 110, 111, 112, 113, 114, 115, 116, 117, 118, 119, 120, 121, 122, 123, 124, 125, 126, 127, 128, 129, 130, 131, 132, 133, 134, 135, 136, 137, 138, 139, 140, 141, 142, 143, 144, 145, 146, 147, 148, 149, 150, 155, 156, 157, 158, 159, 160, 161, 162, 163, 170, 171, 172, 173, 174, 175, 164, 165, 166, 167, 168, 169, 176, 177, 178, 179, 180, 181, 182] (by decide +kernel) (by decide +kernel)
set_option maxRecDepth 20000 in
theorem gX7_done_X7_runText : GoodIn wsX7_done (wsV RX7 108 RX7 yX7_runText wsX7_runText) := goodIn_app (goodIn_of _ (by decide +kernel)) ggX7_done_X7_runText
set_option maxRecDepth 20000 in
theorem ggX7_done_X5_copyFrom : GoodIn wsX7_done wsX5_copyFrom := goodIn_r _ [32, 33, 34, 35, 36, 37, 38, 176, 177, 178, 179, 180, 181, 182] (by decide +kernel) (by decide +kernel)
set_option maxRecDepth 20000 in
theorem gX7_done_X5_copyFrom : GoodIn wsX7_done (wsV RX7 138 RX5 yX5_copyFrom wsX5_copyFrom) := goodIn_app (goodIn_of _ (by decide +kernel)) ggX7_done_X5_copyFrom
set_option maxRecDepth 20000 in
theorem ggX7_done_X3_clear : GoodIn wsX7_done wsX3_clear := goodIn_r _ [154, 21, 170, 171, 172, 173, 174, 175] (by decide +kernel) (by decide +kernel)
set_option maxRecDepth 20000 in
theorem gX7_done_X3_clear : GoodIn wsX7_done (wsV RX7 101 RX3 yX3_clear wsX3_clear) := goodIn_app (goodIn_of _ (by decide +kernel)) ggX7_done_X3_clear
theorem dX7_done_0 : decode cX7_done 0 = .ok (.aload_n 0, 1) := by decide +kernel
theorem dX7_done_1 : decode cX7_done 1 = .ok (.invokevirtual 108, 3) := by decide +kernel
theorem dX7_done_4 : decode cX7_done 4 = .ok (.istore_n 1, 1) := by decide +kernel
theorem dX7_done_5 : decode cX7_done 5 = .ok (.iload_n 1, 1) := by decide +kernel
theorem dX7_done_6 : decode cX7_done 6 = .ok (.ifCond .eq 5, 3) := by decide +kernel
theorem dX7_done_9 : decode cX7_done 9 = .ok (.iload_n 1, 1) := by decide +kernel
theorem dX7_done_10 : decode cX7_done 10 = .ok (.ireturn, 1) := by decide +kernel
theorem dX7_done_11 : decode cX7_done 11 = .ok (.aload_n 0, 1) := by decide +kernel
theorem dX7_done_12 : decode cX7_done 12 = .ok (.getfield 10, 3) := by decide +kernel
theorem dX7_done_15 : decode cX7_done 15 = .ok (.aload_n 0, 1) := by decide +kernel
theorem dX7_done_16 : decode cX7_done 16 = .ok (.getfield 16, 3) := by decide +kernel
theorem dX7_done_19 : decode cX7_done 19 = .ok (.invokevirtual 138, 3) := by decide +kernel
theorem dX7_done_22 : decode cX7_done 22 = .ok (.aload_n 0, 1) := by decide +kernel
theorem dX7_done_23 : decode cX7_done 23 = .ok (.getfield 22, 3) := by decide +kernel
theorem dX7_done_26 : decode cX7_done 26 = .ok (.invokevirtual 101, 3) := by decide +kernel
theorem dX7_done_29 : decode cX7_done 29 = .ok (.aload_n 0, 1) := by decide +kernel
theorem dX7_done_30 : decode cX7_done 30 = .ok (.getfield 29, 3) := by decide +kernel
theorem dX7_done_33 : decode cX7_done 33 = .ok (.getfield 142, 3) := by decide +kernel
theorem dX7_done_36 : decode cX7_done 36 = .ok (.ireturn, 1) := by decide +kernel
set_option maxRecDepth 20000 in
theorem ggX7_runText_X3_faultPlace : GoodIn wsX7_runText wsX3_faultPlace := goodIn_r _ [14, 15, 16, 17, 18, 13, 19, 20, 21, 22, 155, 156, 157, 158, 159, 160] (by decide +kernel) (by decide +kernel)
set_option maxRecDepth 20000 in
theorem gX7_runText_X3_faultPlace : GoodIn wsX7_runText (wsV RX7 104 RX3 yX3_faultPlace wsX3_faultPlace) := goodIn_app (goodIn_of _ (by decide +kernel)) ggX7_runText_X3_faultPlace
set_option maxRecDepth 20000 in
theorem ggX7_runText_X5_copyFrom : GoodIn wsX7_runText wsX5_copyFrom := goodIn_r _ [27, 28, 29, 30, 31, 32, 33, 167, 168, 169, 170, 171, 172, 173] (by decide +kernel) (by decide +kernel)
set_option maxRecDepth 20000 in
theorem gX7_runText_X5_copyFrom : GoodIn wsX7_runText (wsV RX7 138 RX5 yX5_copyFrom wsX5_copyFrom) := goodIn_app (goodIn_of _ (by decide +kernel)) ggX7_runText_X5_copyFrom
set_option maxRecDepth 20000 in
theorem ggX7_runText_X0_begin : GoodIn wsX7_runText wsX0_begin := goodIn_r _ [38, 39, 40, 41, 42, 43, 44, 161, 162, 163, 164, 165, 166] (by decide +kernel) (by decide +kernel)
set_option maxRecDepth 20000 in
theorem gX7_runText_X0_begin : GoodIn wsX7_runText (wsV RX7 145 RX0 yX0_begin wsX0_begin) := goodIn_app (goodIn_of _ (by decide +kernel)) ggX7_runText_X0_begin
set_option maxRecDepth 20000 in
theorem ggX7_runText_X3_beginActs : GoodIn wsX7_runText wsX3_beginActs := goodIn_r _ [48, 49, 50, 51, 52, 155, 156, 157, 158, 159, 160] (by decide +kernel) (by decide +kernel)
set_option maxRecDepth 20000 in
theorem gX7_runText_X3_beginActs : GoodIn wsX7_runText (wsV RX7 148 RX3 yX3_beginActs wsX3_beginActs) := goodIn_app (goodIn_of _ (by decide +kernel)) ggX7_runText_X3_beginActs
set_option maxRecDepth 20000 in
theorem ggX7_runText_X3_endsAct : GoodIn wsX7_runText wsX3_endsAct := goodIn_r _ [56, 15, 16, 49, 51, 50, 52, 20, 21, 22, 17, 18, 13, 19, 155, 156, 157, 158, 159, 160] (by decide +kernel) (by decide +kernel)
set_option maxRecDepth 20000 in
theorem gX7_runText_X3_endsAct : GoodIn wsX7_runText (wsV RX7 151 RX3 yX3_endsAct wsX3_endsAct) := goodIn_app (goodIn_of _ (by decide +kernel)) ggX7_runText_X3_endsAct
set_option maxRecDepth 20000 in
theorem ggX7_runText_X0_take : GoodIn wsX7_runText wsX0_take := goodIn_r _ [60, 39, 40, 41, 43, 44, 42, 61, 62, 63, 26, 64, 28, 33, 65, 66, 67, 68, 31, 20, 21, 22, 69, 70, 71, 72, 73, 30, 74, 75, 76, 77, 78, 79, 80, 81, 32, 82, 83, 84, 85, 86, 87, 88, 89, 90, 91, 92, 93, 94, 95, 96, 97, 98, 99, 100, 101, 102, 103, 104, 105, 106, 107, 108, 109, 110, 111, 112, 113, 114, 115, 116, 117, 118, 119, 120, 121, 29, 122, 123, 124, 125, 126, 127, 128, 129, 130, 131, 132, 133, 134, 135, 136, 137, 138, 139, 140, 141, 142, 143, 144, 145, 161, 162, 163, 164, 165, 166, 167, 168, 169, 170, 171, 172, 173] (by decide +kernel) (by decide +kernel)
set_option maxRecDepth 20000 in
theorem gX7_runText_X0_take : GoodIn wsX7_runText (wsV RX7 163 RX0 yX0_take wsX0_take) := goodIn_app (goodIn_of _ (by decide +kernel)) ggX7_runText_X0_take
theorem dX7_runText_0 : decode cX7_runText 0 = .ok (.aload_n 0, 1) := by decide +kernel
theorem dX7_runText_1 : decode cX7_runText 1 = .ok (.getfield 22, 3) := by decide +kernel
theorem dX7_runText_4 : decode cX7_runText 4 = .ok (.invokevirtual 104, 3) := by decide +kernel
theorem dX7_runText_7 : decode cX7_runText 7 = .ok (.bipush (-6), 2) := by decide +kernel
theorem dX7_runText_9 : decode cX7_runText 9 = .ok (.if_icmp .eq 6, 3) := by decide +kernel
theorem dX7_runText_12 : decode cX7_runText 12 = .ok (.bipush (-5), 2) := by decide +kernel
theorem dX7_runText_14 : decode cX7_runText 14 = .ok (.ireturn, 1) := by decide +kernel
theorem dX7_runText_15 : decode cX7_runText 15 = .ok (.aload_n 0, 1) := by decide +kernel
theorem dX7_runText_16 : decode cX7_runText 16 = .ok (.getfield 16, 3) := by decide +kernel
theorem dX7_runText_19 : decode cX7_runText 19 = .ok (.aload_n 0, 1) := by decide +kernel
theorem dX7_runText_20 : decode cX7_runText 20 = .ok (.getfield 10, 3) := by decide +kernel
theorem dX7_runText_23 : decode cX7_runText 23 = .ok (.invokevirtual 138, 3) := by decide +kernel
theorem dX7_runText_26 : decode cX7_runText 26 = .ok (.aload_n 0, 1) := by decide +kernel
theorem dX7_runText_27 : decode cX7_runText 27 = .ok (.getfield 29, 3) := by decide +kernel
theorem dX7_runText_30 : decode cX7_runText 30 = .ok (.invokevirtual 145, 3) := by decide +kernel
theorem dX7_runText_33 : decode cX7_runText 33 = .ok (.aload_n 0, 1) := by decide +kernel
theorem dX7_runText_34 : decode cX7_runText 34 = .ok (.getfield 22, 3) := by decide +kernel
theorem dX7_runText_37 : decode cX7_runText 37 = .ok (.invokevirtual 148, 3) := by decide +kernel
theorem dX7_runText_40 : decode cX7_runText 40 = .ok (.iconst 0, 1) := by decide +kernel
theorem dX7_runText_41 : decode cX7_runText 41 = .ok (.istore_n 1, 1) := by decide +kernel
theorem dX7_runText_42 : decode cX7_runText 42 = .ok (.iload_n 1, 1) := by decide +kernel
theorem dX7_runText_43 : decode cX7_runText 43 = .ok (.aload_n 0, 1) := by decide +kernel
theorem dX7_runText_44 : decode cX7_runText 44 = .ok (.getfield 22, 3) := by decide +kernel
theorem dX7_runText_47 : decode cX7_runText 47 = .ok (.getfield 98, 3) := by decide +kernel
theorem dX7_runText_50 : decode cX7_runText 50 = .ok (.if_icmp .ge 64, 3) := by decide +kernel
theorem dX7_runText_53 : decode cX7_runText 53 = .ok (.aload_n 0, 1) := by decide +kernel
theorem dX7_runText_54 : decode cX7_runText 54 = .ok (.getfield 29, 3) := by decide +kernel
theorem dX7_runText_57 : decode cX7_runText 57 = .ok (.getfield 111, 3) := by decide +kernel
theorem dX7_runText_60 : decode cX7_runText 60 = .ok (.bipush (-6), 2) := by decide +kernel
theorem dX7_runText_62 : decode cX7_runText 62 = .ok (.if_icmp .ne 52, 3) := by decide +kernel
theorem dX7_runText_65 : decode cX7_runText 65 = .ok (.aload_n 0, 1) := by decide +kernel
theorem dX7_runText_66 : decode cX7_runText 66 = .ok (.getfield 22, 3) := by decide +kernel
theorem dX7_runText_69 : decode cX7_runText 69 = .ok (.iload_n 1, 1) := by decide +kernel
theorem dX7_runText_70 : decode cX7_runText 70 = .ok (.invokevirtual 151, 3) := by decide +kernel
theorem dX7_runText_73 : decode cX7_runText 73 = .ok (.ifCond .eq 35, 3) := by decide +kernel
theorem dX7_runText_76 : decode cX7_runText 76 = .ok (.aload_n 0, 1) := by decide +kernel
theorem dX7_runText_77 : decode cX7_runText 77 = .ok (.getfield 29, 3) := by decide +kernel
theorem dX7_runText_80 : decode cX7_runText 80 = .ok (.aload_n 0, 1) := by decide +kernel
theorem dX7_runText_81 : decode cX7_runText 81 = .ok (.getfield 16, 3) := by decide +kernel
theorem dX7_runText_84 : decode cX7_runText 84 = .ok (.aload_n 0, 1) := by decide +kernel
theorem dX7_runText_85 : decode cX7_runText 85 = .ok (.getfield 22, 3) := by decide +kernel
theorem dX7_runText_88 : decode cX7_runText 88 = .ok (.getfield 154, 3) := by decide +kernel
theorem dX7_runText_91 : decode cX7_runText 91 = .ok (.aload_n 0, 1) := by decide +kernel
theorem dX7_runText_92 : decode cX7_runText 92 = .ok (.getfield 22, 3) := by decide +kernel
theorem dX7_runText_95 : decode cX7_runText 95 = .ok (.getfield 157, 3) := by decide +kernel
theorem dX7_runText_98 : decode cX7_runText 98 = .ok (.aload_n 0, 1) := by decide +kernel
theorem dX7_runText_99 : decode cX7_runText 99 = .ok (.getfield 22, 3) := by decide +kernel
theorem dX7_runText_102 : decode cX7_runText 102 = .ok (.getfield 160, 3) := by decide +kernel
theorem dX7_runText_105 : decode cX7_runText 105 = .ok (.invokevirtual 163, 3) := by decide +kernel
theorem dX7_runText_108 : decode cX7_runText 108 = .ok (.iinc 1 1, 3) := by decide +kernel
theorem dX7_runText_111 : decode cX7_runText 111 = .ok (.goto (-69), 3) := by decide +kernel
theorem dX7_runText_114 : decode cX7_runText 114 = .ok (.aload_n 0, 1) := by decide +kernel
theorem dX7_runText_115 : decode cX7_runText 115 = .ok (.getfield 29, 3) := by decide +kernel
theorem dX7_runText_118 : decode cX7_runText 118 = .ok (.getfield 111, 3) := by decide +kernel
theorem dX7_runText_121 : decode cX7_runText 121 = .ok (.bipush (-6), 2) := by decide +kernel
theorem dX7_runText_123 : decode cX7_runText 123 = .ok (.if_icmp .ne 7, 3) := by decide +kernel
theorem dX7_runText_126 : decode cX7_runText 126 = .ok (.iconst 0, 1) := by decide +kernel
theorem dX7_runText_127 : decode cX7_runText 127 = .ok (.goto 5, 3) := by decide +kernel
theorem dX7_runText_130 : decode cX7_runText 130 = .ok (.bipush (-3), 2) := by decide +kernel
theorem dX7_runText_132 : decode cX7_runText 132 = .ok (.ireturn, 1) := by decide +kernel
set_option maxRecDepth 20000 in
theorem ggX7_reach_X7_isWithin : GoodIn wsX7_reach wsX7_isWithin := goodIn_r _ [5] (by decide +kernel) (by decide +kernel)
set_option maxRecDepth 20000 in
theorem gX7_reach_X7_isWithin : GoodIn wsX7_reach (va_wsS RX7 64 yX7_isWithin wsX7_isWithin) := goodIn_app (goodIn_of _ (by decide +kernel)) ggX7_reach_X7_isWithin
set_option maxRecDepth 20000 in
theorem ggX7_reach_X5_farthest : GoodIn wsX7_reach wsX5_farthest := goodIn_r _ [10, 11, 12, 13, 14, 15, 16, 17, 18, 19, 9, 20, 21, 31, 32, 33, 34, 35, 36, 37] (by decide +kernel) (by decide +kernel)
set_option maxRecDepth 20000 in
theorem gX7_reach_X5_farthest : GoodIn wsX7_reach (wsV RX7 167 RX5 yX5_farthest wsX5_farthest) := goodIn_app (goodIn_of _ (by decide +kernel)) ggX7_reach_X5_farthest
theorem dX7_reach_0 : decode cX7_reach 0 = .ok (.iload_n 1, 1) := by decide +kernel
theorem dX7_reach_1 : decode cX7_reach 1 = .ok (.iconst 0, 1) := by decide +kernel
theorem dX7_reach_2 : decode cX7_reach 2 = .ok (.bipush 9, 2) := by decide +kernel
theorem dX7_reach_4 : decode cX7_reach 4 = .ok (.invokestatic 64, 3) := by decide +kernel
theorem dX7_reach_7 : decode cX7_reach 7 = .ok (.ifCond .ne 5, 3) := by decide +kernel
theorem dX7_reach_10 : decode cX7_reach 10 = .ok (.iconst (-1), 1) := by decide +kernel
theorem dX7_reach_11 : decode cX7_reach 11 = .ok (.ireturn, 1) := by decide +kernel
theorem dX7_reach_12 : decode cX7_reach 12 = .ok (.iload_n 2, 1) := by decide +kernel
theorem dX7_reach_13 : decode cX7_reach 13 = .ok (.iconst 0, 1) := by decide +kernel
theorem dX7_reach_14 : decode cX7_reach 14 = .ok (.iconst 1, 1) := by decide +kernel
theorem dX7_reach_15 : decode cX7_reach 15 = .ok (.invokestatic 64, 3) := by decide +kernel
theorem dX7_reach_18 : decode cX7_reach 18 = .ok (.ifCond .ne 6, 3) := by decide +kernel
theorem dX7_reach_21 : decode cX7_reach 21 = .ok (.bipush (-2), 2) := by decide +kernel
theorem dX7_reach_23 : decode cX7_reach 23 = .ok (.ireturn, 1) := by decide +kernel
theorem dX7_reach_24 : decode cX7_reach 24 = .ok (.aload_n 0, 1) := by decide +kernel
theorem dX7_reach_25 : decode cX7_reach 25 = .ok (.getfield 10, 3) := by decide +kernel
theorem dX7_reach_28 : decode cX7_reach 28 = .ok (.iload_n 1, 1) := by decide +kernel
theorem dX7_reach_29 : decode cX7_reach 29 = .ok (.iload_n 2, 1) := by decide +kernel
theorem dX7_reach_30 : decode cX7_reach 30 = .ok (.ifCond .ne 7, 3) := by decide +kernel
theorem dX7_reach_33 : decode cX7_reach 33 = .ok (.iconst 1, 1) := by decide +kernel
theorem dX7_reach_34 : decode cX7_reach 34 = .ok (.goto 4, 3) := by decide +kernel
theorem dX7_reach_37 : decode cX7_reach 37 = .ok (.iconst (-1), 1) := by decide +kernel
theorem dX7_reach_38 : decode cX7_reach 38 = .ok (.invokevirtual 167, 3) := by decide +kernel
theorem dX7_reach_41 : decode cX7_reach 41 = .ok (.ireturn, 1) := by decide +kernel
set_option maxRecDepth 20000 in
theorem ggX7_wind_X7_isWithin : GoodIn wsX7_wind wsX7_isWithin := goodIn_r _ [5] (by decide +kernel) (by decide +kernel)
set_option maxRecDepth 20000 in
theorem gX7_wind_X7_isWithin : GoodIn wsX7_wind (va_wsS RX7 64 yX7_isWithin wsX7_isWithin) := goodIn_app (goodIn_of _ (by decide +kernel)) ggX7_wind_X7_isWithin
set_option maxRecDepth 20000 in
theorem ggX7_wind_X7_digitCount : GoodIn wsX7_wind wsX7_digitCount := goodIn_r _ [8] (by decide +kernel) (by decide +kernel)
set_option maxRecDepth 20000 in
theorem gX7_wind_X7_digitCount : GoodIn wsX7_wind (va_wsS RX7 171 yX7_digitCount wsX7_digitCount) := goodIn_app (goodIn_of _ (by decide +kernel)) ggX7_wind_X7_digitCount
set_option maxRecDepth 20000 in
theorem ggX7_wind_X4_windingTime : GoodIn wsX7_wind wsX4_windingTime := goodIn_r _ [13, 14, 15, 16, 17, 18, 19, 12, 20, 21, 22, 23, 24, 25, 26, 27, 28, 29, 30, 31, 41, 42, 43, 44, 45, 46] (by decide +kernel) (by decide +kernel)
set_option maxRecDepth 20000 in
theorem gX7_wind_X4_windingTime : GoodIn wsX7_wind (wsV RX7 174 RX4 yX4_windingTime wsX4_windingTime) := goodIn_app (goodIn_of _ (by decide +kernel)) ggX7_wind_X4_windingTime
theorem dX7_wind_0 : decode cX7_wind 0 = .ok (.iload_n 2, 1) := by decide +kernel
theorem dX7_wind_1 : decode cX7_wind 1 = .ok (.iconst 1, 1) := by decide +kernel
theorem dX7_wind_2 : decode cX7_wind 2 = .ok (.bipush 9, 2) := by decide +kernel
theorem dX7_wind_4 : decode cX7_wind 4 = .ok (.invokestatic 64, 3) := by decide +kernel
theorem dX7_wind_7 : decode cX7_wind 7 = .ok (.ifCond .ne 6, 3) := by decide +kernel
theorem dX7_wind_10 : decode cX7_wind 10 = .ok (.bipush (-2), 2) := by decide +kernel
theorem dX7_wind_12 : decode cX7_wind 12 = .ok (.ireturn, 1) := by decide +kernel
theorem dX7_wind_13 : decode cX7_wind 13 = .ok (.iload_n 1, 1) := by decide +kernel
theorem dX7_wind_14 : decode cX7_wind 14 = .ok (.ifCond .lt 11, 3) := by decide +kernel
theorem dX7_wind_17 : decode cX7_wind 17 = .ok (.iload_n 1, 1) := by decide +kernel
theorem dX7_wind_18 : decode cX7_wind 18 = .ok (.invokestatic 171, 3) := by decide +kernel
theorem dX7_wind_21 : decode cX7_wind 21 = .ok (.iload_n 2, 1) := by decide +kernel
theorem dX7_wind_22 : decode cX7_wind 22 = .ok (.if_icmp .le 6, 3) := by decide +kernel
theorem dX7_wind_25 : decode cX7_wind 25 = .ok (.bipush (-2), 2) := by decide +kernel
theorem dX7_wind_27 : decode cX7_wind 27 = .ok (.ireturn, 1) := by decide +kernel
theorem dX7_wind_28 : decode cX7_wind 28 = .ok (.iload_n 3, 1) := by decide +kernel
theorem dX7_wind_29 : decode cX7_wind 29 = .ok (.iconst 0, 1) := by decide +kernel
theorem dX7_wind_30 : decode cX7_wind 30 = .ok (.iconst 1, 1) := by decide +kernel
theorem dX7_wind_31 : decode cX7_wind 31 = .ok (.invokestatic 64, 3) := by decide +kernel
theorem dX7_wind_34 : decode cX7_wind 34 = .ok (.ifCond .ne 6, 3) := by decide +kernel
theorem dX7_wind_37 : decode cX7_wind 37 = .ok (.bipush (-2), 2) := by decide +kernel
theorem dX7_wind_39 : decode cX7_wind 39 = .ok (.ireturn, 1) := by decide +kernel
theorem dX7_wind_40 : decode cX7_wind 40 = .ok (.aload_n 0, 1) := by decide +kernel
theorem dX7_wind_41 : decode cX7_wind 41 = .ok (.getfield 50, 3) := by decide +kernel
theorem dX7_wind_44 : decode cX7_wind 44 = .ok (.iload_n 1, 1) := by decide +kernel
theorem dX7_wind_45 : decode cX7_wind 45 = .ok (.iload_n 2, 1) := by decide +kernel
theorem dX7_wind_46 : decode cX7_wind 46 = .ok (.iload_n 3, 1) := by decide +kernel
theorem dX7_wind_47 : decode cX7_wind 47 = .ok (.iconst 1, 1) := by decide +kernel
theorem dX7_wind_48 : decode cX7_wind 48 = .ok (.if_icmp .ne 7, 3) := by decide +kernel
theorem dX7_wind_51 : decode cX7_wind 51 = .ok (.iconst 1, 1) := by decide +kernel
theorem dX7_wind_52 : decode cX7_wind 52 = .ok (.goto 4, 3) := by decide +kernel
theorem dX7_wind_55 : decode cX7_wind 55 = .ok (.iconst 0, 1) := by decide +kernel
theorem dX7_wind_56 : decode cX7_wind 56 = .ok (.invokevirtual 174, 3) := by decide +kernel
theorem dX7_wind_59 : decode cX7_wind 59 = .ok (.ireturn, 1) := by decide +kernel
set_option maxRecDepth 20000 in
theorem ggX7_read_X7_isWithin : GoodIn wsX7_read wsX7_isWithin := goodIn_r _ [6] (by decide +kernel) (by decide +kernel)
set_option maxRecDepth 20000 in
theorem gX7_read_X7_isWithin : GoodIn wsX7_read (va_wsS RX7 64 yX7_isWithin wsX7_isWithin) := goodIn_app (goodIn_of _ (by decide +kernel)) ggX7_read_X7_isWithin
set_option maxRecDepth 20000 in
theorem ggX7_read_X4_takeWords : GoodIn wsX7_read wsX4_takeWords := goodIn_r _ [11, 12, 47, 48, 49, 50, 51, 52] (by decide +kernel) (by decide +kernel)
set_option maxRecDepth 20000 in
theorem gX7_read_X4_takeWords : GoodIn wsX7_read (wsV RX7 179 RX4 yX4_takeWords wsX4_takeWords) := goodIn_app (goodIn_of _ (by decide +kernel)) ggX7_read_X4_takeWords
set_option maxRecDepth 20000 in
theorem ggX7_read_X7_digitCount : GoodIn wsX7_read wsX7_digitCount := goodIn_r _ [15] (by decide +kernel) (by decide +kernel)
set_option maxRecDepth 20000 in
theorem gX7_read_X7_digitCount : GoodIn wsX7_read (va_wsS RX7 171 yX7_digitCount wsX7_digitCount) := goodIn_app (goodIn_of _ (by decide +kernel)) ggX7_read_X7_digitCount
set_option maxRecDepth 20000 in
theorem ggX7_read_X4_takeDigits : GoodIn wsX7_read wsX4_takeDigits := goodIn_r _ [19, 20, 21, 22, 23, 24, 47, 48, 49, 50, 51, 52] (by decide +kernel) (by decide +kernel)
set_option maxRecDepth 20000 in
theorem gX7_read_X4_takeDigits : GoodIn wsX7_read (wsV RX7 183 RX4 yX4_takeDigits wsX4_takeDigits) := goodIn_app (goodIn_of _ (by decide +kernel)) ggX7_read_X4_takeDigits
set_option maxRecDepth 20000 in
theorem ggX7_read_X4_countReadings : GoodIn wsX7_read wsX4_countReadings := goodIn_r _ [28, 29, 12, 30, 31, 32, 10, 33, 24, 14, 5, 15, 47, 48, 49, 50, 51, 52] (by decide +kernel) (by decide +kernel)
set_option maxRecDepth 20000 in
theorem gX7_read_X4_countReadings : GoodIn wsX7_read (wsV RX7 186 RX4 yX4_countReadings wsX4_countReadings) := goodIn_app (goodIn_of _ (by decide +kernel)) ggX7_read_X4_countReadings
set_option maxRecDepth 20000 in
theorem ggX7_read_X4_fewestWords : GoodIn wsX7_read wsX4_fewestWords := goodIn_r _ [37, 29, 12, 30, 31, 32, 10, 33, 24, 14, 5, 15, 47, 48, 49, 50, 51, 52] (by decide +kernel) (by decide +kernel)
set_option maxRecDepth 20000 in
theorem gX7_read_X4_fewestWords : GoodIn wsX7_read (wsV RX7 189 RX4 yX4_fewestWords wsX4_fewestWords) := goodIn_app (goodIn_of _ (by decide +kernel)) ggX7_read_X4_fewestWords
theorem dX7_read_0 : decode cX7_read 0 = .ok (.iload_n 1, 1) := by decide +kernel
theorem dX7_read_1 : decode cX7_read 1 = .ok (.iconst 1, 1) := by decide +kernel
theorem dX7_read_2 : decode cX7_read 2 = .ok (.sipush 999, 3) := by decide +kernel
theorem dX7_read_5 : decode cX7_read 5 = .ok (.invokestatic 64, 3) := by decide +kernel
theorem dX7_read_8 : decode cX7_read 8 = .ok (.ifCond .eq 14, 3) := by decide +kernel
theorem dX7_read_11 : decode cX7_read 11 = .ok (.iload_n 2, 1) := by decide +kernel
theorem dX7_read_12 : decode cX7_read 12 = .ok (.iconst 1, 1) := by decide +kernel
theorem dX7_read_13 : decode cX7_read 13 = .ok (.sipush 999, 3) := by decide +kernel
theorem dX7_read_16 : decode cX7_read 16 = .ok (.invokestatic 64, 3) := by decide +kernel
theorem dX7_read_19 : decode cX7_read 19 = .ok (.ifCond .ne 6, 3) := by decide +kernel
theorem dX7_read_22 : decode cX7_read 22 = .ok (.bipush (-2), 2) := by decide +kernel
theorem dX7_read_24 : decode cX7_read 24 = .ok (.ireturn, 1) := by decide +kernel
theorem dX7_read_25 : decode cX7_read 25 = .ok (.iload_n 3, 1) := by decide +kernel
theorem dX7_read_26 : decode cX7_read 26 = .ok (.iconst 1, 1) := by decide +kernel
theorem dX7_read_27 : decode cX7_read 27 = .ok (.sipush 999, 3) := by decide +kernel
theorem dX7_read_30 : decode cX7_read 30 = .ok (.invokestatic 64, 3) := by decide +kernel
theorem dX7_read_33 : decode cX7_read 33 = .ok (.ifCond .eq 15, 3) := by decide +kernel
theorem dX7_read_36 : decode cX7_read 36 = .ok (.iload 4, 2) := by decide +kernel
theorem dX7_read_38 : decode cX7_read 38 = .ok (.iconst 1, 1) := by decide +kernel
theorem dX7_read_39 : decode cX7_read 39 = .ok (.sipush 999, 3) := by decide +kernel
theorem dX7_read_42 : decode cX7_read 42 = .ok (.invokestatic 64, 3) := by decide +kernel
theorem dX7_read_45 : decode cX7_read 45 = .ok (.ifCond .ne 6, 3) := by decide +kernel
theorem dX7_read_48 : decode cX7_read 48 = .ok (.bipush (-2), 2) := by decide +kernel
theorem dX7_read_50 : decode cX7_read 50 = .ok (.ireturn, 1) := by decide +kernel
theorem dX7_read_51 : decode cX7_read 51 = .ok (.iload 5, 2) := by decide +kernel
theorem dX7_read_53 : decode cX7_read 53 = .ok (.iconst 0, 1) := by decide +kernel
theorem dX7_read_54 : decode cX7_read 54 = .ok (.ldc 178, 2) := by decide +kernel
theorem dX7_read_56 : decode cX7_read 56 = .ok (.invokestatic 64, 3) := by decide +kernel
theorem dX7_read_59 : decode cX7_read 59 = .ok (.ifCond .eq 13, 3) := by decide +kernel
theorem dX7_read_62 : decode cX7_read 62 = .ok (.iload 6, 2) := by decide +kernel
theorem dX7_read_64 : decode cX7_read 64 = .ok (.iconst 0, 1) := by decide +kernel
theorem dX7_read_65 : decode cX7_read 65 = .ok (.iconst 1, 1) := by decide +kernel
theorem dX7_read_66 : decode cX7_read 66 = .ok (.invokestatic 64, 3) := by decide +kernel
theorem dX7_read_69 : decode cX7_read 69 = .ok (.ifCond .ne 6, 3) := by decide +kernel
theorem dX7_read_72 : decode cX7_read 72 = .ok (.bipush (-2), 2) := by decide +kernel
theorem dX7_read_74 : decode cX7_read 74 = .ok (.ireturn, 1) := by decide +kernel
theorem dX7_read_75 : decode cX7_read 75 = .ok (.aload_n 0, 1) := by decide +kernel
theorem dX7_read_76 : decode cX7_read 76 = .ok (.getfield 50, 3) := by decide +kernel
theorem dX7_read_79 : decode cX7_read 79 = .ok (.iload_n 1, 1) := by decide +kernel
theorem dX7_read_80 : decode cX7_read 80 = .ok (.iload_n 2, 1) := by decide +kernel
theorem dX7_read_81 : decode cX7_read 81 = .ok (.iload_n 3, 1) := by decide +kernel
theorem dX7_read_82 : decode cX7_read 82 = .ok (.iload 4, 2) := by decide +kernel
theorem dX7_read_84 : decode cX7_read 84 = .ok (.invokevirtual 179, 3) := by decide +kernel
theorem dX7_read_87 : decode cX7_read 87 = .ok (.aload_n 0, 1) := by decide +kernel
theorem dX7_read_88 : decode cX7_read 88 = .ok (.getfield 50, 3) := by decide +kernel
theorem dX7_read_91 : decode cX7_read 91 = .ok (.iload 5, 2) := by decide +kernel
theorem dX7_read_93 : decode cX7_read 93 = .ok (.iload 5, 2) := by decide +kernel
theorem dX7_read_95 : decode cX7_read 95 = .ok (.invokestatic 171, 3) := by decide +kernel
theorem dX7_read_98 : decode cX7_read 98 = .ok (.invokevirtual 183, 3) := by decide +kernel
theorem dX7_read_101 : decode cX7_read 101 = .ok (.istore 7, 2) := by decide +kernel
theorem dX7_read_103 : decode cX7_read 103 = .ok (.iload 6, 2) := by decide +kernel
theorem dX7_read_105 : decode cX7_read 105 = .ok (.ifCond .ne 15, 3) := by decide +kernel
theorem dX7_read_108 : decode cX7_read 108 = .ok (.aload_n 0, 1) := by decide +kernel
theorem dX7_read_109 : decode cX7_read 109 = .ok (.getfield 50, 3) := by decide +kernel
theorem dX7_read_112 : decode cX7_read 112 = .ok (.iload 7, 2) := by decide +kernel
theorem dX7_read_114 : decode cX7_read 114 = .ok (.invokevirtual 186, 3) := by decide +kernel
theorem dX7_read_117 : decode cX7_read 117 = .ok (.goto 12, 3) := by decide +kernel
theorem dX7_read_120 : decode cX7_read 120 = .ok (.aload_n 0, 1) := by decide +kernel
theorem dX7_read_121 : decode cX7_read 121 = .ok (.getfield 50, 3) := by decide +kernel
theorem dX7_read_124 : decode cX7_read 124 = .ok (.iload 7, 2) := by decide +kernel
theorem dX7_read_126 : decode cX7_read 126 = .ok (.invokevirtual 189, 3) := by decide +kernel
theorem dX7_read_129 : decode cX7_read 129 = .ok (.ireturn, 1) := by decide +kernel
set_option maxRecDepth 20000 in
theorem ggX7_felt_X7_isWithin : GoodIn wsX7_felt wsX7_isWithin := goodIn_r _ [6] (by decide +kernel) (by decide +kernel)
set_option maxRecDepth 20000 in
theorem gX7_felt_X7_isWithin : GoodIn wsX7_felt (va_wsS RX7 64 yX7_isWithin wsX7_isWithin) := goodIn_app (goodIn_of _ (by decide +kernel)) ggX7_felt_X7_isWithin
set_option maxRecDepth 20000 in
theorem ggX7_felt_X6_add : GoodIn wsX7_felt wsX6_add := goodIn_r _ [11, 12, 13, 14, 24, 25, 26] (by decide +kernel) (by decide +kernel)
set_option maxRecDepth 20000 in
theorem gX7_felt_X6_add : GoodIn wsX7_felt (wsV RX7 192 RX6 yX6_add wsX6_add) := goodIn_app (goodIn_of _ (by decide +kernel)) ggX7_felt_X6_add
theorem dX7_felt_0 : decode cX7_felt 0 = .ok (.iload_n 1, 1) := by decide +kernel
theorem dX7_felt_1 : decode cX7_felt 1 = .ok (.iconst 0, 1) := by decide +kernel
theorem dX7_felt_2 : decode cX7_felt 2 = .ok (.bipush 9, 2) := by decide +kernel
theorem dX7_felt_4 : decode cX7_felt 4 = .ok (.invokestatic 64, 3) := by decide +kernel
theorem dX7_felt_7 : decode cX7_felt 7 = .ok (.ifCond .ne 5, 3) := by decide +kernel
theorem dX7_felt_10 : decode cX7_felt 10 = .ok (.iconst (-1), 1) := by decide +kernel
theorem dX7_felt_11 : decode cX7_felt 11 = .ok (.ireturn, 1) := by decide +kernel
theorem dX7_felt_12 : decode cX7_felt 12 = .ok (.iload_n 2, 1) := by decide +kernel
theorem dX7_felt_13 : decode cX7_felt 13 = .ok (.iconst 0, 1) := by decide +kernel
theorem dX7_felt_14 : decode cX7_felt 14 = .ok (.bipush 9, 2) := by decide +kernel
theorem dX7_felt_16 : decode cX7_felt 16 = .ok (.invokestatic 64, 3) := by decide +kernel
theorem dX7_felt_19 : decode cX7_felt 19 = .ok (.ifCond .ne 6, 3) := by decide +kernel
theorem dX7_felt_22 : decode cX7_felt 22 = .ok (.bipush (-2), 2) := by decide +kernel
theorem dX7_felt_24 : decode cX7_felt 24 = .ok (.ireturn, 1) := by decide +kernel
theorem dX7_felt_25 : decode cX7_felt 25 = .ok (.aload_n 0, 1) := by decide +kernel
theorem dX7_felt_26 : decode cX7_felt 26 = .ok (.getfield 36, 3) := by decide +kernel
theorem dX7_felt_29 : decode cX7_felt 29 = .ok (.iload_n 1, 1) := by decide +kernel
theorem dX7_felt_30 : decode cX7_felt 30 = .ok (.iload_n 2, 1) := by decide +kernel
theorem dX7_felt_31 : decode cX7_felt 31 = .ok (.invokevirtual 192, 3) := by decide +kernel
theorem dX7_felt_34 : decode cX7_felt 34 = .ok (.ifCond .eq 13, 3) := by decide +kernel
theorem dX7_felt_37 : decode cX7_felt 37 = .ok (.aload_n 0, 1) := by decide +kernel
theorem dX7_felt_38 : decode cX7_felt 38 = .ok (.getfield 36, 3) := by decide +kernel
theorem dX7_felt_41 : decode cX7_felt 41 = .ok (.getfield 194, 3) := by decide +kernel
theorem dX7_felt_44 : decode cX7_felt 44 = .ok (.goto 5, 3) := by decide +kernel
theorem dX7_felt_47 : decode cX7_felt 47 = .ok (.bipush (-4), 2) := by decide +kernel
theorem dX7_felt_49 : decode cX7_felt 49 = .ok (.ireturn, 1) := by decide +kernel
set_option maxRecDepth 20000 in
theorem ggX7_forget_X6_clear : GoodIn wsX7_forget wsX6_clear := goodIn_r _ [7, 8, 18, 19, 20] (by decide +kernel) (by decide +kernel)
set_option maxRecDepth 20000 in
theorem gX7_forget_X6_clear : GoodIn wsX7_forget (wsV RX7 195 RX6 yX6_clear wsX6_clear) := goodIn_app (goodIn_of _ (by decide +kernel)) ggX7_forget_X6_clear
theorem dX7_forget_0 : decode cX7_forget 0 = .ok (.aload_n 0, 1) := by decide +kernel
theorem dX7_forget_1 : decode cX7_forget 1 = .ok (.getfield 36, 3) := by decide +kernel
theorem dX7_forget_4 : decode cX7_forget 4 = .ok (.getfield 194, 3) := by decide +kernel
theorem dX7_forget_7 : decode cX7_forget 7 = .ok (.istore_n 1, 1) := by decide +kernel
theorem dX7_forget_8 : decode cX7_forget 8 = .ok (.aload_n 0, 1) := by decide +kernel
theorem dX7_forget_9 : decode cX7_forget 9 = .ok (.getfield 36, 3) := by decide +kernel
theorem dX7_forget_12 : decode cX7_forget 12 = .ok (.invokevirtual 195, 3) := by decide +kernel
theorem dX7_forget_15 : decode cX7_forget 15 = .ok (.iload_n 1, 1) := by decide +kernel
theorem dX7_forget_16 : decode cX7_forget 16 = .ok (.ireturn, 1) := by decide +kernel
set_option maxRecDepth 20000 in
theorem ggX7_fits_X1_countFitting : GoodIn wsX7_fits wsX1_countFitting := goodIn_r _ [7, 8, 9, 6, 10, 11, 12, 13, 14, 15, 16, 17, 18, 19, 20, 21, 22, 23, 24, 25, 26, 27, 28, 29, 43, 44, 45] (by decide +kernel) (by decide +kernel)
set_option maxRecDepth 20000 in
theorem gX7_fits_X1_countFitting : GoodIn wsX7_fits (wsV RX7 196 RX1 yX1_countFitting wsX1_countFitting) := goodIn_app (goodIn_of _ (by decide +kernel)) ggX7_fits_X1_countFitting
set_option maxRecDepth 20000 in
theorem ggX7_fits_X1_fitting : GoodIn wsX7_fits wsX1_fitting := goodIn_r _ [33, 8, 9, 6, 10, 11, 12, 13, 14, 15, 16, 17, 18, 19, 20, 21, 22, 23, 24, 25, 26, 27, 28, 29, 43, 44, 45] (by decide +kernel) (by decide +kernel)
set_option maxRecDepth 20000 in
theorem gX7_fits_X1_fitting : GoodIn wsX7_fits (wsV RX7 200 RX1 yX1_fitting wsX1_fitting) := goodIn_app (goodIn_of _ (by decide +kernel)) ggX7_fits_X1_fitting
theorem dX7_fits_0 : decode cX7_fits 0 = .ok (.iload_n 1, 1) := by decide +kernel
theorem dX7_fits_1 : decode cX7_fits 1 = .ok (.iconst (-1), 1) := by decide +kernel
theorem dX7_fits_2 : decode cX7_fits 2 = .ok (.if_icmp .ge 6, 3) := by decide +kernel
theorem dX7_fits_5 : decode cX7_fits 5 = .ok (.bipush (-6), 2) := by decide +kernel
theorem dX7_fits_7 : decode cX7_fits 7 = .ok (.ireturn, 1) := by decide +kernel
theorem dX7_fits_8 : decode cX7_fits 8 = .ok (.iload_n 1, 1) := by decide +kernel
theorem dX7_fits_9 : decode cX7_fits 9 = .ok (.iconst (-1), 1) := by decide +kernel
theorem dX7_fits_10 : decode cX7_fits 10 = .ok (.if_icmp .ne 17, 3) := by decide +kernel
theorem dX7_fits_13 : decode cX7_fits 13 = .ok (.aload_n 0, 1) := by decide +kernel
theorem dX7_fits_14 : decode cX7_fits 14 = .ok (.getfield 43, 3) := by decide +kernel
theorem dX7_fits_17 : decode cX7_fits 17 = .ok (.aload_n 0, 1) := by decide +kernel
theorem dX7_fits_18 : decode cX7_fits 18 = .ok (.getfield 36, 3) := by decide +kernel
theorem dX7_fits_21 : decode cX7_fits 21 = .ok (.invokevirtual 196, 3) := by decide +kernel
theorem dX7_fits_24 : decode cX7_fits 24 = .ok (.goto 15, 3) := by decide +kernel
theorem dX7_fits_27 : decode cX7_fits 27 = .ok (.aload_n 0, 1) := by decide +kernel
theorem dX7_fits_28 : decode cX7_fits 28 = .ok (.getfield 43, 3) := by decide +kernel
theorem dX7_fits_31 : decode cX7_fits 31 = .ok (.aload_n 0, 1) := by decide +kernel
theorem dX7_fits_32 : decode cX7_fits 32 = .ok (.getfield 36, 3) := by decide +kernel
theorem dX7_fits_35 : decode cX7_fits 35 = .ok (.iload_n 1, 1) := by decide +kernel
theorem dX7_fits_36 : decode cX7_fits 36 = .ok (.invokevirtual 200, 3) := by decide +kernel
theorem dX7_fits_39 : decode cX7_fits 39 = .ok (.ireturn, 1) := by decide +kernel
set_option maxRecDepth 20000 in
theorem ggX7_ask_X7_isWithin : GoodIn wsX7_ask wsX7_isWithin := goodIn_r _ [8] (by decide +kernel) (by decide +kernel)
set_option maxRecDepth 20000 in
theorem gX7_ask_X7_isWithin : GoodIn wsX7_ask (va_wsS RX7 64 yX7_isWithin wsX7_isWithin) := goodIn_app (goodIn_of _ (by decide +kernel)) ggX7_ask_X7_isWithin
set_option maxRecDepth 20000 in
theorem ggX7_ask_X1_countFitting : GoodIn wsX7_ask wsX1_countFitting := goodIn_r _ [13, 14, 15, 12, 16, 17, 18, 19, 20, 21, 22, 6, 7, 8, 23, 24, 25, 26, 27, 28, 29, 30, 31, 32, 56, 57, 58] (by decide +kernel) (by decide +kernel)
set_option maxRecDepth 20000 in
theorem gX7_ask_X1_countFitting : GoodIn wsX7_ask (wsV RX7 196 RX1 yX1_countFitting wsX1_countFitting) := goodIn_app (goodIn_of _ (by decide +kernel)) ggX7_ask_X1_countFitting
set_option maxRecDepth 20000 in
theorem ggX7_ask_X1_chooseChild : GoodIn wsX7_ask wsX1_chooseChild := goodIn_r _ [36, 37, 38, 39, 40, 41, 12, 42, 43, 30, 31, 28, 32, 14, 15, 16, 17, 18, 19, 20, 21, 22, 6, 7, 8, 23, 24, 25, 26, 27, 29, 53, 54, 55, 56, 57, 58] (by decide +kernel) (by decide +kernel)
set_option maxRecDepth 20000 in
theorem gX7_ask_X1_chooseChild : GoodIn wsX7_ask (wsV RX7 204 RX1 yX1_chooseChild wsX1_chooseChild) := goodIn_app (goodIn_of _ (by decide +kernel)) ggX7_ask_X1_chooseChild
theorem dX7_ask_0 : decode cX7_ask 0 = .ok (.iload_n 1, 1) := by decide +kernel
theorem dX7_ask_1 : decode cX7_ask 1 = .ok (.iconst 0, 1) := by decide +kernel
theorem dX7_ask_2 : decode cX7_ask 2 = .ok (.iconst 1, 1) := by decide +kernel
theorem dX7_ask_3 : decode cX7_ask 3 = .ok (.invokestatic 64, 3) := by decide +kernel
theorem dX7_ask_6 : decode cX7_ask 6 = .ok (.ifCond .ne 6, 3) := by decide +kernel
theorem dX7_ask_9 : decode cX7_ask 9 = .ok (.bipush (-2), 2) := by decide +kernel
theorem dX7_ask_11 : decode cX7_ask 11 = .ok (.ireturn, 1) := by decide +kernel
theorem dX7_ask_12 : decode cX7_ask 12 = .ok (.aload_n 0, 1) := by decide +kernel
theorem dX7_ask_13 : decode cX7_ask 13 = .ok (.getfield 43, 3) := by decide +kernel
theorem dX7_ask_16 : decode cX7_ask 16 = .ok (.aload_n 0, 1) := by decide +kernel
theorem dX7_ask_17 : decode cX7_ask 17 = .ok (.getfield 36, 3) := by decide +kernel
theorem dX7_ask_20 : decode cX7_ask 20 = .ok (.invokevirtual 196, 3) := by decide +kernel
theorem dX7_ask_23 : decode cX7_ask 23 = .ok (.ifCond .ne 6, 3) := by decide +kernel
theorem dX7_ask_26 : decode cX7_ask 26 = .ok (.bipush (-6), 2) := by decide +kernel
theorem dX7_ask_28 : decode cX7_ask 28 = .ok (.ireturn, 1) := by decide +kernel
theorem dX7_ask_29 : decode cX7_ask 29 = .ok (.aload_n 0, 1) := by decide +kernel
theorem dX7_ask_30 : decode cX7_ask 30 = .ok (.getfield 43, 3) := by decide +kernel
theorem dX7_ask_33 : decode cX7_ask 33 = .ok (.aload_n 0, 1) := by decide +kernel
theorem dX7_ask_34 : decode cX7_ask 34 = .ok (.getfield 36, 3) := by decide +kernel
theorem dX7_ask_37 : decode cX7_ask 37 = .ok (.invokevirtual 204, 3) := by decide +kernel
theorem dX7_ask_40 : decode cX7_ask 40 = .ok (.iload_n 1, 1) := by decide +kernel
theorem dX7_ask_41 : decode cX7_ask 41 = .ok (.ifCond .ne 13, 3) := by decide +kernel
theorem dX7_ask_44 : decode cX7_ask 44 = .ok (.aload_n 0, 1) := by decide +kernel
theorem dX7_ask_45 : decode cX7_ask 45 = .ok (.getfield 43, 3) := by decide +kernel
theorem dX7_ask_48 : decode cX7_ask 48 = .ok (.getfield 208, 3) := by decide +kernel
theorem dX7_ask_51 : decode cX7_ask 51 = .ok (.goto 10, 3) := by decide +kernel
theorem dX7_ask_54 : decode cX7_ask 54 = .ok (.aload_n 0, 1) := by decide +kernel
theorem dX7_ask_55 : decode cX7_ask 55 = .ok (.getfield 43, 3) := by decide +kernel
theorem dX7_ask_58 : decode cX7_ask 58 = .ok (.getfield 211, 3) := by decide +kernel
theorem dX7_ask_61 : decode cX7_ask 61 = .ok (.ireturn, 1) := by decide +kernel
set_option maxRecDepth 20000 in
theorem ggX7_pull_X7_isWithin : GoodIn wsX7_pull wsX7_isWithin := goodIn_r _ [5] (by decide +kernel) (by decide +kernel)
set_option maxRecDepth 20000 in
theorem gX7_pull_X7_isWithin : GoodIn wsX7_pull (va_wsS RX7 64 yX7_isWithin wsX7_isWithin) := goodIn_app (goodIn_of _ (by decide +kernel)) ggX7_pull_X7_isWithin
set_option maxRecDepth 20000 in
theorem ggX7_pull_X4_winningPulls : GoodIn wsX7_pull wsX4_winningPulls := goodIn_r _ [10, 11, 24, 25, 26, 27, 28, 29] (by decide +kernel) (by decide +kernel)
set_option maxRecDepth 20000 in
theorem gX7_pull_X4_winningPulls : GoodIn wsX7_pull (wsV RX7 214 RX4 yX4_winningPulls wsX4_winningPulls) := goodIn_app (goodIn_of _ (by decide +kernel)) ggX7_pull_X4_winningPulls
set_option maxRecDepth 20000 in
theorem ggX7_pull_X7_leastBit : GoodIn wsX7_pull wsX7_leastBit := goodIn_r _ [14] (by decide +kernel) (by decide +kernel)
set_option maxRecDepth 20000 in
theorem gX7_pull_X7_leastBit : GoodIn wsX7_pull (va_wsS RX7 217 yX7_leastBit wsX7_leastBit) := goodIn_app (goodIn_of _ (by decide +kernel)) ggX7_pull_X7_leastBit
theorem dX7_pull_0 : decode cX7_pull 0 = .ok (.iload_n 1, 1) := by decide +kernel
theorem dX7_pull_1 : decode cX7_pull 1 = .ok (.iconst 0, 1) := by decide +kernel
theorem dX7_pull_2 : decode cX7_pull 2 = .ok (.bipush 99, 2) := by decide +kernel
theorem dX7_pull_4 : decode cX7_pull 4 = .ok (.invokestatic 64, 3) := by decide +kernel
theorem dX7_pull_7 : decode cX7_pull 7 = .ok (.ifCond .eq 13, 3) := by decide +kernel
theorem dX7_pull_10 : decode cX7_pull 10 = .ok (.iload_n 2, 1) := by decide +kernel
theorem dX7_pull_11 : decode cX7_pull 11 = .ok (.iconst 1, 1) := by decide +kernel
theorem dX7_pull_12 : decode cX7_pull 12 = .ok (.bipush 9, 2) := by decide +kernel
theorem dX7_pull_14 : decode cX7_pull 14 = .ok (.invokestatic 64, 3) := by decide +kernel
theorem dX7_pull_17 : decode cX7_pull 17 = .ok (.ifCond .ne 6, 3) := by decide +kernel
theorem dX7_pull_20 : decode cX7_pull 20 = .ok (.bipush (-2), 2) := by decide +kernel
theorem dX7_pull_22 : decode cX7_pull 22 = .ok (.ireturn, 1) := by decide +kernel
theorem dX7_pull_23 : decode cX7_pull 23 = .ok (.iload_n 3, 1) := by decide +kernel
theorem dX7_pull_24 : decode cX7_pull 24 = .ok (.iconst 0, 1) := by decide +kernel
theorem dX7_pull_25 : decode cX7_pull 25 = .ok (.bipush 9, 2) := by decide +kernel
theorem dX7_pull_27 : decode cX7_pull 27 = .ok (.invokestatic 64, 3) := by decide +kernel
theorem dX7_pull_30 : decode cX7_pull 30 = .ok (.ifCond .eq 13, 3) := by decide +kernel
theorem dX7_pull_33 : decode cX7_pull 33 = .ok (.iload 4, 2) := by decide +kernel
theorem dX7_pull_35 : decode cX7_pull 35 = .ok (.iconst 0, 1) := by decide +kernel
theorem dX7_pull_36 : decode cX7_pull 36 = .ok (.iconst 1, 1) := by decide +kernel
theorem dX7_pull_37 : decode cX7_pull 37 = .ok (.invokestatic 64, 3) := by decide +kernel
theorem dX7_pull_40 : decode cX7_pull 40 = .ok (.ifCond .ne 6, 3) := by decide +kernel
theorem dX7_pull_43 : decode cX7_pull 43 = .ok (.bipush (-2), 2) := by decide +kernel
theorem dX7_pull_45 : decode cX7_pull 45 = .ok (.ireturn, 1) := by decide +kernel
theorem dX7_pull_46 : decode cX7_pull 46 = .ok (.aload_n 0, 1) := by decide +kernel
theorem dX7_pull_47 : decode cX7_pull 47 = .ok (.getfield 50, 3) := by decide +kernel
theorem dX7_pull_50 : decode cX7_pull 50 = .ok (.iload_n 1, 1) := by decide +kernel
theorem dX7_pull_51 : decode cX7_pull 51 = .ok (.iload_n 2, 1) := by decide +kernel
theorem dX7_pull_52 : decode cX7_pull 52 = .ok (.invokevirtual 214, 3) := by decide +kernel
theorem dX7_pull_55 : decode cX7_pull 55 = .ok (.iconst 1, 1) := by decide +kernel
theorem dX7_pull_56 : decode cX7_pull 56 = .ok (.iload_n 3, 1) := by decide +kernel
theorem dX7_pull_57 : decode cX7_pull 57 = .ok (.ishl, 1) := by decide +kernel
theorem dX7_pull_58 : decode cX7_pull 58 = .ok (.iconst (-1), 1) := by decide +kernel
theorem dX7_pull_59 : decode cX7_pull 59 = .ok (.ixor, 1) := by decide +kernel
theorem dX7_pull_60 : decode cX7_pull 60 = .ok (.iand, 1) := by decide +kernel
theorem dX7_pull_61 : decode cX7_pull 61 = .ok (.istore 5, 2) := by decide +kernel
theorem dX7_pull_63 : decode cX7_pull 63 = .ok (.iload 4, 2) := by decide +kernel
theorem dX7_pull_65 : decode cX7_pull 65 = .ok (.ifCond .ne 14, 3) := by decide +kernel
theorem dX7_pull_68 : decode cX7_pull 68 = .ok (.iload 5, 2) := by decide +kernel
theorem dX7_pull_70 : decode cX7_pull 70 = .ok (.ifCond .eq 7, 3) := by decide +kernel
theorem dX7_pull_73 : decode cX7_pull 73 = .ok (.iconst 1, 1) := by decide +kernel
theorem dX7_pull_74 : decode cX7_pull 74 = .ok (.goto 4, 3) := by decide +kernel
theorem dX7_pull_77 : decode cX7_pull 77 = .ok (.iconst 0, 1) := by decide +kernel
theorem dX7_pull_78 : decode cX7_pull 78 = .ok (.ireturn, 1) := by decide +kernel
theorem dX7_pull_79 : decode cX7_pull 79 = .ok (.iload 5, 2) := by decide +kernel
theorem dX7_pull_81 : decode cX7_pull 81 = .ok (.invokestatic 217, 3) := by decide +kernel
theorem dX7_pull_84 : decode cX7_pull 84 = .ok (.ireturn, 1) := by decide +kernel
set_option maxRecDepth 20000 in
theorem ggX7_passed_X7_isWithin : GoodIn wsX7_passed wsX7_isWithin := goodIn_r _ [8] (by decide +kernel) (by decide +kernel)
set_option maxRecDepth 20000 in
theorem gX7_passed_X7_isWithin : GoodIn wsX7_passed (va_wsS RX7 64 yX7_isWithin wsX7_isWithin) := goodIn_app (goodIn_of _ (by decide +kernel)) ggX7_passed_X7_isWithin
set_option maxRecDepth 20000 in
theorem ggX7_passed_X7_lowestTerm : GoodIn wsX7_passed wsX7_lowestTerm := goodIn_r _ [11, 12, 13, 7, 14] (by decide +kernel) (by decide +kernel)
set_option maxRecDepth 20000 in
theorem gX7_passed_X7_lowestTerm : GoodIn wsX7_passed (va_wsS RX7 224 yX7_lowestTerm wsX7_lowestTerm) := goodIn_app (goodIn_of _ (by decide +kernel)) ggX7_passed_X7_lowestTerm
set_option maxRecDepth 20000 in
theorem ggX7_passed_X7_power : GoodIn wsX7_passed wsX7_power := goodIn_r _ [17] (by decide +kernel) (by decide +kernel)
set_option maxRecDepth 20000 in
theorem gX7_passed_X7_power : GoodIn wsX7_passed (va_wsS RX7 230 yX7_power wsX7_power) := goodIn_app (goodIn_of _ (by decide +kernel)) ggX7_passed_X7_power
theorem dX7_passed_0 : decode cX7_passed 0 = .ok (.iload_n 1, 1) := by decide +kernel
theorem dX7_passed_1 : decode cX7_passed 1 = .ok (.iconst 0, 1) := by decide +kernel
theorem dX7_passed_2 : decode cX7_passed 2 = .ok (.bipush 16, 2) := by decide +kernel
theorem dX7_passed_4 : decode cX7_passed 4 = .ok (.invokestatic 64, 3) := by decide +kernel
theorem dX7_passed_7 : decode cX7_passed 7 = .ok (.ifCond .eq 13, 3) := by decide +kernel
theorem dX7_passed_10 : decode cX7_passed 10 = .ok (.iload_n 2, 1) := by decide +kernel
theorem dX7_passed_11 : decode cX7_passed 11 = .ok (.iconst 0, 1) := by decide +kernel
theorem dX7_passed_12 : decode cX7_passed 12 = .ok (.bipush 10, 2) := by decide +kernel
theorem dX7_passed_14 : decode cX7_passed 14 = .ok (.invokestatic 64, 3) := by decide +kernel
theorem dX7_passed_17 : decode cX7_passed 17 = .ok (.ifCond .ne 7, 3) := by decide +kernel
theorem dX7_passed_20 : decode cX7_passed 20 = .ok (.ldc2_w 220, 3) := by decide +kernel
theorem dX7_passed_23 : decode cX7_passed 23 = .ok (.lreturn, 1) := by decide +kernel
theorem dX7_passed_24 : decode cX7_passed 24 = .ok (.iload_n 3, 1) := by decide +kernel
theorem dX7_passed_25 : decode cX7_passed 25 = .ok (.iconst 0, 1) := by decide +kernel
theorem dX7_passed_26 : decode cX7_passed 26 = .ok (.iconst 1, 1) := by decide +kernel
theorem dX7_passed_27 : decode cX7_passed 27 = .ok (.invokestatic 64, 3) := by decide +kernel
theorem dX7_passed_30 : decode cX7_passed 30 = .ok (.ifCond .eq 13, 3) := by decide +kernel
theorem dX7_passed_33 : decode cX7_passed 33 = .ok (.iload 4, 2) := by decide +kernel
theorem dX7_passed_35 : decode cX7_passed 35 = .ok (.iconst 0, 1) := by decide +kernel
theorem dX7_passed_36 : decode cX7_passed 36 = .ok (.iconst 1, 1) := by decide +kernel
theorem dX7_passed_37 : decode cX7_passed 37 = .ok (.invokestatic 64, 3) := by decide +kernel
theorem dX7_passed_40 : decode cX7_passed 40 = .ok (.ifCond .ne 7, 3) := by decide +kernel
theorem dX7_passed_43 : decode cX7_passed 43 = .ok (.ldc2_w 220, 3) := by decide +kernel
theorem dX7_passed_46 : decode cX7_passed 46 = .ok (.lreturn, 1) := by decide +kernel
theorem dX7_passed_47 : decode cX7_passed 47 = .ok (.iload_n 3, 1) := by decide +kernel
theorem dX7_passed_48 : decode cX7_passed 48 = .ok (.iconst 1, 1) := by decide +kernel
theorem dX7_passed_49 : decode cX7_passed 49 = .ok (.if_icmp .ne 17, 3) := by decide +kernel
theorem dX7_passed_52 : decode cX7_passed 52 = .ok (.iload_n 1, 1) := by decide +kernel
theorem dX7_passed_53 : decode cX7_passed 53 = .ok (.i2l, 1) := by decide +kernel
theorem dX7_passed_54 : decode cX7_passed 54 = .ok (.iload_n 2, 1) := by decide +kernel
theorem dX7_passed_55 : decode cX7_passed 55 = .ok (.i2l, 1) := by decide +kernel
theorem dX7_passed_56 : decode cX7_passed 56 = .ok (.lmul, 1) := by decide +kernel
theorem dX7_passed_57 : decode cX7_passed 57 = .ok (.ldc2_w 222, 3) := by decide +kernel
theorem dX7_passed_60 : decode cX7_passed 60 = .ok (.iload 4, 2) := by decide +kernel
theorem dX7_passed_62 : decode cX7_passed 62 = .ok (.invokestatic 224, 3) := by decide +kernel
theorem dX7_passed_65 : decode cX7_passed 65 = .ok (.lreturn, 1) := by decide +kernel
theorem dX7_passed_66 : decode cX7_passed 66 = .ok (.ldc2_w 228, 3) := by decide +kernel
theorem dX7_passed_69 : decode cX7_passed 69 = .ok (.iload_n 1, 1) := by decide +kernel
theorem dX7_passed_70 : decode cX7_passed 70 = .ok (.invokestatic 230, 3) := by decide +kernel
theorem dX7_passed_73 : decode cX7_passed 73 = .ok (.lstore 5, 2) := by decide +kernel
theorem dX7_passed_75 : decode cX7_passed 75 = .ok (.lload 5, 2) := by decide +kernel
theorem dX7_passed_77 : decode cX7_passed 77 = .ok (.iconst 5, 1) := by decide +kernel
theorem dX7_passed_78 : decode cX7_passed 78 = .ok (.iload_n 2, 1) := by decide +kernel
theorem dX7_passed_79 : decode cX7_passed 79 = .ok (.isub, 1) := by decide +kernel
theorem dX7_passed_80 : decode cX7_passed 80 = .ok (.i2l, 1) := by decide +kernel
theorem dX7_passed_81 : decode cX7_passed 81 = .ok (.iload_n 1, 1) := by decide +kernel
theorem dX7_passed_82 : decode cX7_passed 82 = .ok (.invokestatic 230, 3) := by decide +kernel
theorem dX7_passed_85 : decode cX7_passed 85 = .ok (.ladd, 1) := by decide +kernel
theorem dX7_passed_86 : decode cX7_passed 86 = .ok (.ldc2_w 234, 3) := by decide +kernel
theorem dX7_passed_89 : decode cX7_passed 89 = .ok (.lload 5, 2) := by decide +kernel
theorem dX7_passed_91 : decode cX7_passed 91 = .ok (.lmul, 1) := by decide +kernel
theorem dX7_passed_92 : decode cX7_passed 92 = .ok (.iload 4, 2) := by decide +kernel
theorem dX7_passed_94 : decode cX7_passed 94 = .ok (.invokestatic 224, 3) := by decide +kernel
theorem dX7_passed_97 : decode cX7_passed 97 = .ok (.lreturn, 1) := by decide +kernel
set_option maxRecDepth 20000 in
theorem ggX7_year_X7_isWithin : GoodIn wsX7_year wsX7_isWithin := goodIn_r _ [7] (by decide +kernel) (by decide +kernel)
set_option maxRecDepth 20000 in
theorem gX7_year_X7_isWithin : GoodIn wsX7_year (va_wsS RX7 64 yX7_isWithin wsX7_isWithin) := goodIn_app (goodIn_of _ (by decide +kernel)) ggX7_year_X7_isWithin
set_option maxRecDepth 20000 in
theorem ggX7_year_X7_runYear : GoodIn wsX7_year wsX7_runYear := goodIn_r _ [11, 1, 12, 13, 14, 15, 16, 17, 18, 19, 20, 21, 22, 23, 24, 25, 26, 6, 27, 28, 29, 30, 31, 32, 33, 34, 35, 5, 7, 36, 37, 38, 39, 40, 41, 42, 43, 44, 45, 46, 47, 48, 49, 50, 51, 52, 53, 54, 55, 56, 57, 58, 59, 60, 61, 62, 63, 64, 65, 66, 67, 68, 69, 70, 71, 72, 73, 74, 75, 76, 77, 78, 79, 80, 81, 82, 83, 84, 85, 86, 87, 88, 89, 90, 91, 92, 93, 94, 95, 96, 97, 98, 99, 100, 101, 102, 103, 104, 105, 106, 107, 108, 109, 110, 111, 112, 113, 114, 115, 116, 117, 118, 119, 120, 121, 122, 123, 124, 125, 126] (by decide +kernel) (by decide +kernel)
set_option maxRecDepth 20000 in
theorem gX7_year_X7_runYear : GoodIn wsX7_year (wsV RX7 236 RX7 yX7_runYear wsX7_runYear) := goodIn_app (goodIn_of _ (by decide +kernel)) ggX7_year_X7_runYear
theorem dX7_year_0 : decode cX7_year 0 = .ok (.iload_n 1, 1) := by decide +kernel
theorem dX7_year_1 : decode cX7_year 1 = .ok (.iconst 0, 1) := by decide +kernel
theorem dX7_year_2 : decode cX7_year 2 = .ok (.sipush 9999, 3) := by decide +kernel
theorem dX7_year_5 : decode cX7_year 5 = .ok (.invokestatic 64, 3) := by decide +kernel
theorem dX7_year_8 : decode cX7_year 8 = .ok (.ifCond .eq 13, 3) := by decide +kernel
theorem dX7_year_11 : decode cX7_year 11 = .ok (.iload_n 2, 1) := by decide +kernel
theorem dX7_year_12 : decode cX7_year 12 = .ok (.iconst 1, 1) := by decide +kernel
theorem dX7_year_13 : decode cX7_year 13 = .ok (.bipush 99, 2) := by decide +kernel
theorem dX7_year_15 : decode cX7_year 15 = .ok (.invokestatic 64, 3) := by decide +kernel
theorem dX7_year_18 : decode cX7_year 18 = .ok (.ifCond .ne 6, 3) := by decide +kernel
theorem dX7_year_21 : decode cX7_year 21 = .ok (.bipush (-2), 2) := by decide +kernel
theorem dX7_year_23 : decode cX7_year 23 = .ok (.ireturn, 1) := by decide +kernel
theorem dX7_year_24 : decode cX7_year 24 = .ok (.iload_n 3, 1) := by decide +kernel
theorem dX7_year_25 : decode cX7_year 25 = .ok (.iconst 0, 1) := by decide +kernel
theorem dX7_year_26 : decode cX7_year 26 = .ok (.iconst 2, 1) := by decide +kernel
theorem dX7_year_27 : decode cX7_year 27 = .ok (.invokestatic 64, 3) := by decide +kernel
theorem dX7_year_30 : decode cX7_year 30 = .ok (.ifCond .ne 6, 3) := by decide +kernel
theorem dX7_year_33 : decode cX7_year 33 = .ok (.bipush (-2), 2) := by decide +kernel
theorem dX7_year_35 : decode cX7_year 35 = .ok (.ireturn, 1) := by decide +kernel
theorem dX7_year_36 : decode cX7_year 36 = .ok (.aload_n 0, 1) := by decide +kernel
theorem dX7_year_37 : decode cX7_year 37 = .ok (.iload_n 1, 1) := by decide +kernel
theorem dX7_year_38 : decode cX7_year 38 = .ok (.iload_n 2, 1) := by decide +kernel
theorem dX7_year_39 : decode cX7_year 39 = .ok (.invokevirtual 236, 3) := by decide +kernel
theorem dX7_year_42 : decode cX7_year 42 = .ok (.istore 4, 2) := by decide +kernel
theorem dX7_year_44 : decode cX7_year 44 = .ok (.iload_n 3, 1) := by decide +kernel
theorem dX7_year_45 : decode cX7_year 45 = .ok (.ifCond .ne 13, 3) := by decide +kernel
theorem dX7_year_48 : decode cX7_year 48 = .ok (.aload_n 0, 1) := by decide +kernel
theorem dX7_year_49 : decode cX7_year 49 = .ok (.getfield 16, 3) := by decide +kernel
theorem dX7_year_52 : decode cX7_year 52 = .ok (.getfield 72, 3) := by decide +kernel
theorem dX7_year_55 : decode cX7_year 55 = .ok (.iconst 0, 1) := by decide +kernel
theorem dX7_year_56 : decode cX7_year 56 = .ok (.iaload, 1) := by decide +kernel
theorem dX7_year_57 : decode cX7_year 57 = .ok (.ireturn, 1) := by decide +kernel
theorem dX7_year_58 : decode cX7_year 58 = .ok (.iload_n 3, 1) := by decide +kernel
theorem dX7_year_59 : decode cX7_year 59 = .ok (.iconst 1, 1) := by decide +kernel
theorem dX7_year_60 : decode cX7_year 60 = .ok (.if_icmp .ne 8, 3) := by decide +kernel
theorem dX7_year_63 : decode cX7_year 63 = .ok (.iload 4, 2) := by decide +kernel
theorem dX7_year_65 : decode cX7_year 65 = .ok (.goto 10, 3) := by decide +kernel
theorem dX7_year_68 : decode cX7_year 68 = .ok (.aload_n 0, 1) := by decide +kernel
theorem dX7_year_69 : decode cX7_year 69 = .ok (.getfield 16, 3) := by decide +kernel
theorem dX7_year_72 : decode cX7_year 72 = .ok (.getfield 91, 3) := by decide +kernel
theorem dX7_year_75 : decode cX7_year 75 = .ok (.ireturn, 1) := by decide +kernel
set_option maxRecDepth 20000 in
theorem ggX7_runYear_X5_copyFrom : GoodIn wsX7_runYear wsX5_copyFrom := goodIn_r _ [8, 9, 10, 11, 12, 13, 14, 113, 114, 115, 116, 117, 118, 119] (by decide +kernel) (by decide +kernel)
set_option maxRecDepth 20000 in
theorem gX7_runYear_X5_copyFrom : GoodIn wsX7_runYear (wsV RX7 138 RX5 yX5_copyFrom wsX5_copyFrom) := goodIn_app (goodIn_of _ (by decide +kernel)) ggX7_runYear_X5_copyFrom
set_option maxRecDepth 20000 in
theorem ggX7_runYear_X7_kindByDraw : GoodIn wsX7_runYear wsX7_kindByDraw := goodIn_r _ [18] (by decide +kernel) (by decide +kernel)
set_option maxRecDepth 20000 in
theorem gX7_runYear_X7_kindByDraw : GoodIn wsX7_runYear (va_wsS RX7 240 yX7_kindByDraw wsX7_kindByDraw) := goodIn_app (goodIn_of _ (by decide +kernel)) ggX7_runYear_X7_kindByDraw
set_option maxRecDepth 20000 in
theorem ggX7_runYear_X5_whyNot : GoodIn wsX7_runYear wsX5_whyNot := goodIn_r _ [22, 9, 14, 23, 24, 25, 7, 26, 12, 27, 17, 28, 29, 30, 31, 32, 33, 11, 34, 35, 36, 37, 38, 39, 40, 41, 13, 42, 43, 44, 45, 46, 47, 48, 49, 50, 51, 52, 53, 54, 55, 56, 57, 113, 114, 115, 116, 117, 118, 119] (by decide +kernel) (by decide +kernel)
set_option maxRecDepth 20000 in
theorem gX7_runYear_X5_whyNot : GoodIn wsX7_runYear (wsV RX7 243 RX5 yX5_whyNot wsX5_whyNot) := goodIn_app (goodIn_of _ (by decide +kernel)) ggX7_runYear_X5_whyNot
set_option maxRecDepth 20000 in
theorem ggX7_runYear_X5_act : GoodIn wsX7_runYear wsX5_act := goodIn_r _ [61, 9, 62, 63, 64, 7, 65, 33, 29, 30, 31, 32, 11, 34, 35, 36, 37, 66, 67, 68, 69, 12, 70, 71, 72, 73, 74, 75, 76, 77, 46, 47, 48, 49, 50, 51, 52, 53, 54, 55, 56, 57, 78, 79, 80, 81, 10, 82, 83, 84, 85, 86, 87, 88, 13, 89, 90, 91, 92, 93, 94, 95, 96, 14, 113, 114, 115, 116, 117, 118, 119] (by decide +kernel) (by decide +kernel)
set_option maxRecDepth 20000 in
theorem gX7_runYear_X5_act : GoodIn wsX7_runYear (wsV RX7 247 RX5 yX5_act wsX5_act) := goodIn_app (goodIn_of _ (by decide +kernel)) ggX7_runYear_X5_act
set_option maxRecDepth 20000 in
theorem ggX7_runYear_J6_bitCount_0f7a4 : GoodIn wsX7_runYear wsJ6_bitCount_0f7a4 := goodIn_r _ [100, 101, 102, 103] (by decide +kernel) (by decide +kernel)
set_option maxRecDepth 20000 in
theorem gX7_runYear_J6_bitCount_0f7a4 : GoodIn wsX7_runYear (va_wsS RX7 250 yJ6_bitCount_0f7a4 wsJ6_bitCount_0f7a4) := goodIn_app (goodIn_of _ (by decide +kernel)) ggX7_runYear_J6_bitCount_0f7a4
theorem dX7_runYear_0 : decode cX7_runYear 0 = .ok (.aload_n 0, 1) := by decide +kernel
theorem dX7_runYear_1 : decode cX7_runYear 1 = .ok (.getfield 16, 3) := by decide +kernel
theorem dX7_runYear_4 : decode cX7_runYear 4 = .ok (.aload_n 0, 1) := by decide +kernel
theorem dX7_runYear_5 : decode cX7_runYear 5 = .ok (.getfield 10, 3) := by decide +kernel
theorem dX7_runYear_8 : decode cX7_runYear 8 = .ok (.invokevirtual 138, 3) := by decide +kernel
theorem dX7_runYear_11 : decode cX7_runYear 11 = .ok (.iconst 0, 1) := by decide +kernel
theorem dX7_runYear_12 : decode cX7_runYear 12 = .ok (.istore_n 3, 1) := by decide +kernel
theorem dX7_runYear_13 : decode cX7_runYear 13 = .ok (.iload_n 1, 1) := by decide +kernel
theorem dX7_runYear_14 : decode cX7_runYear 14 = .ok (.istore 4, 2) := by decide +kernel
theorem dX7_runYear_16 : decode cX7_runYear 16 = .ok (.iconst 0, 1) := by decide +kernel
theorem dX7_runYear_17 : decode cX7_runYear 17 = .ok (.istore 5, 2) := by decide +kernel
theorem dX7_runYear_19 : decode cX7_runYear 19 = .ok (.iload 5, 2) := by decide +kernel
theorem dX7_runYear_21 : decode cX7_runYear 21 = .ok (.iload_n 2, 1) := by decide +kernel
theorem dX7_runYear_22 : decode cX7_runYear 22 = .ok (.if_icmp .ge 89, 3) := by decide +kernel
theorem dX7_runYear_25 : decode cX7_runYear 25 = .ok (.bipush 75, 2) := by decide +kernel
theorem dX7_runYear_27 : decode cX7_runYear 27 = .ok (.iload 4, 2) := by decide +kernel
theorem dX7_runYear_29 : decode cX7_runYear 29 = .ok (.imul, 1) := by decide +kernel
theorem dX7_runYear_30 : decode cX7_runYear 30 = .ok (.bipush 74, 2) := by decide +kernel
theorem dX7_runYear_32 : decode cX7_runYear 32 = .ok (.iadd, 1) := by decide +kernel
theorem dX7_runYear_33 : decode cX7_runYear 33 = .ok (.ldc 239, 2) := by decide +kernel
theorem dX7_runYear_35 : decode cX7_runYear 35 = .ok (.irem, 1) := by decide +kernel
theorem dX7_runYear_36 : decode cX7_runYear 36 = .ok (.istore 4, 2) := by decide +kernel
theorem dX7_runYear_38 : decode cX7_runYear 38 = .ok (.iload 4, 2) := by decide +kernel
theorem dX7_runYear_40 : decode cX7_runYear 40 = .ok (.bipush 10, 2) := by decide +kernel
theorem dX7_runYear_42 : decode cX7_runYear 42 = .ok (.irem, 1) := by decide +kernel
theorem dX7_runYear_43 : decode cX7_runYear 43 = .ok (.istore 6, 2) := by decide +kernel
theorem dX7_runYear_45 : decode cX7_runYear 45 = .ok (.iload 4, 2) := by decide +kernel
theorem dX7_runYear_47 : decode cX7_runYear 47 = .ok (.bipush 10, 2) := by decide +kernel
theorem dX7_runYear_49 : decode cX7_runYear 49 = .ok (.idiv, 1) := by decide +kernel
theorem dX7_runYear_50 : decode cX7_runYear 50 = .ok (.bipush 8, 2) := by decide +kernel
theorem dX7_runYear_52 : decode cX7_runYear 52 = .ok (.irem, 1) := by decide +kernel
theorem dX7_runYear_53 : decode cX7_runYear 53 = .ok (.invokestatic 240, 3) := by decide +kernel
theorem dX7_runYear_56 : decode cX7_runYear 56 = .ok (.istore 7, 2) := by decide +kernel
theorem dX7_runYear_58 : decode cX7_runYear 58 = .ok (.iconst 1, 1) := by decide +kernel
theorem dX7_runYear_59 : decode cX7_runYear 59 = .ok (.iload 4, 2) := by decide +kernel
theorem dX7_runYear_61 : decode cX7_runYear 61 = .ok (.bipush 80, 2) := by decide +kernel
theorem dX7_runYear_63 : decode cX7_runYear 63 = .ok (.idiv, 1) := by decide +kernel
theorem dX7_runYear_64 : decode cX7_runYear 64 = .ok (.bipush 9, 2) := by decide +kernel
theorem dX7_runYear_66 : decode cX7_runYear 66 = .ok (.irem, 1) := by decide +kernel
theorem dX7_runYear_67 : decode cX7_runYear 67 = .ok (.iadd, 1) := by decide +kernel
theorem dX7_runYear_68 : decode cX7_runYear 68 = .ok (.istore 8, 2) := by decide +kernel
theorem dX7_runYear_70 : decode cX7_runYear 70 = .ok (.aload_n 0, 1) := by decide +kernel
theorem dX7_runYear_71 : decode cX7_runYear 71 = .ok (.getfield 16, 3) := by decide +kernel
theorem dX7_runYear_74 : decode cX7_runYear 74 = .ok (.iload 7, 2) := by decide +kernel
theorem dX7_runYear_76 : decode cX7_runYear 76 = .ok (.iload 6, 2) := by decide +kernel
theorem dX7_runYear_78 : decode cX7_runYear 78 = .ok (.iload 8, 2) := by decide +kernel
theorem dX7_runYear_80 : decode cX7_runYear 80 = .ok (.invokevirtual 243, 3) := by decide +kernel
theorem dX7_runYear_83 : decode cX7_runYear 83 = .ok (.ifCond .ne 22, 3) := by decide +kernel
theorem dX7_runYear_86 : decode cX7_runYear 86 = .ok (.iload_n 3, 1) := by decide +kernel
theorem dX7_runYear_87 : decode cX7_runYear 87 = .ok (.aload_n 0, 1) := by decide +kernel
theorem dX7_runYear_88 : decode cX7_runYear 88 = .ok (.getfield 16, 3) := by decide +kernel
theorem dX7_runYear_91 : decode cX7_runYear 91 = .ok (.iload 7, 2) := by decide +kernel
theorem dX7_runYear_93 : decode cX7_runYear 93 = .ok (.iload 6, 2) := by decide +kernel
theorem dX7_runYear_95 : decode cX7_runYear 95 = .ok (.iload 8, 2) := by decide +kernel
theorem dX7_runYear_97 : decode cX7_runYear 97 = .ok (.invokevirtual 247, 3) := by decide +kernel
theorem dX7_runYear_100 : decode cX7_runYear 100 = .ok (.invokestatic 250, 3) := by decide +kernel
theorem dX7_runYear_103 : decode cX7_runYear 103 = .ok (.iadd, 1) := by decide +kernel
theorem dX7_runYear_104 : decode cX7_runYear 104 = .ok (.istore_n 3, 1) := by decide +kernel
theorem dX7_runYear_105 : decode cX7_runYear 105 = .ok (.iinc 5 1, 3) := by decide +kernel
theorem dX7_runYear_108 : decode cX7_runYear 108 = .ok (.goto (-89), 3) := by decide +kernel
theorem dX7_runYear_111 : decode cX7_runYear 111 = .ok (.iload_n 3, 1) := by decide +kernel
theorem dX7_runYear_112 : decode cX7_runYear 112 = .ok (.ireturn, 1) := by decide +kernel
theorem dX7_kindByDraw_0 : decode cX7_kindByDraw 0 = .ok (.iload_n 0, 1) := by decide +kernel
theorem dX7_kindByDraw_1 : decode cX7_kindByDraw 1 = .ok (.tableswitch 61 0 6 #[43, 43, 46, 49, 52, 55, 58], 43) := by decide +kernel
theorem dX7_kindByDraw_44 : decode cX7_kindByDraw 44 = .ok (.bipush 62, 2) := by decide +kernel
theorem dX7_kindByDraw_46 : decode cX7_kindByDraw 46 = .ok (.ireturn, 1) := by decide +kernel
theorem dX7_kindByDraw_47 : decode cX7_kindByDraw 47 = .ok (.bipush 60, 2) := by decide +kernel
theorem dX7_kindByDraw_49 : decode cX7_kindByDraw 49 = .ok (.ireturn, 1) := by decide +kernel
theorem dX7_kindByDraw_50 : decode cX7_kindByDraw 50 = .ok (.bipush 35, 2) := by decide +kernel
theorem dX7_kindByDraw_52 : decode cX7_kindByDraw 52 = .ok (.ireturn, 1) := by decide +kernel
theorem dX7_kindByDraw_53 : decode cX7_kindByDraw 53 = .ok (.bipush 33, 2) := by decide +kernel
theorem dX7_kindByDraw_55 : decode cX7_kindByDraw 55 = .ok (.ireturn, 1) := by decide +kernel
theorem dX7_kindByDraw_56 : decode cX7_kindByDraw 56 = .ok (.bipush 43, 2) := by decide +kernel
theorem dX7_kindByDraw_58 : decode cX7_kindByDraw 58 = .ok (.ireturn, 1) := by decide +kernel
theorem dX7_kindByDraw_59 : decode cX7_kindByDraw 59 = .ok (.bipush 45, 2) := by decide +kernel
theorem dX7_kindByDraw_61 : decode cX7_kindByDraw 61 = .ok (.ireturn, 1) := by decide +kernel
theorem dX7_kindByDraw_62 : decode cX7_kindByDraw 62 = .ok (.bipush 46, 2) := by decide +kernel
theorem dX7_kindByDraw_64 : decode cX7_kindByDraw 64 = .ok (.ireturn, 1) := by decide +kernel
set_option maxRecDepth 20000 in
theorem ggX7_image_X7_isWithin : GoodIn wsX7_image wsX7_isWithin := goodIn_r _ [6] (by decide +kernel) (by decide +kernel)
set_option maxRecDepth 20000 in
theorem gX7_image_X7_isWithin : GoodIn wsX7_image (va_wsS RX7 64 yX7_isWithin wsX7_isWithin) := goodIn_app (goodIn_of _ (by decide +kernel)) ggX7_image_X7_isWithin
set_option maxRecDepth 20000 in
theorem ggX7_image_X7_imageAt : GoodIn wsX7_image wsX7_imageAt := goodIn_r _ [10, 11, 12, 40, 41, 42, 43, 44, 45, 46, 47, 48] (by decide +kernel) (by decide +kernel)
set_option maxRecDepth 20000 in
theorem gX7_image_X7_imageAt : GoodIn wsX7_image (wsV RX7 255 RX7 yX7_imageAt wsX7_imageAt) := goodIn_app (goodIn_of _ (by decide +kernel)) ggX7_image_X7_imageAt
set_option maxRecDepth 20000 in
theorem ggX7_image_X2_keep : GoodIn wsX7_image wsX2_keep := goodIn_r _ [17, 18, 19, 20, 21, 22, 23, 24, 25, 26, 27, 28, 29, 30, 31, 32, 33, 34, 35, 36, 37, 38, 39, 49, 50, 51, 52, 53, 54, 55, 56, 57, 58, 59, 60, 61] (by decide +kernel) (by decide +kernel)
set_option maxRecDepth 20000 in
theorem gX7_image_X2_keep : GoodIn wsX7_image (wsV RX7 259 RX2 yX2_keep wsX2_keep) := goodIn_app (goodIn_of _ (by decide +kernel)) ggX7_image_X2_keep
theorem dX7_image_0 : decode cX7_image 0 = .ok (.iload_n 1, 1) := by decide +kernel
theorem dX7_image_1 : decode cX7_image 1 = .ok (.iconst 0, 1) := by decide +kernel
theorem dX7_image_2 : decode cX7_image 2 = .ok (.iconst 1, 1) := by decide +kernel
theorem dX7_image_3 : decode cX7_image 3 = .ok (.invokestatic 64, 3) := by decide +kernel
theorem dX7_image_6 : decode cX7_image 6 = .ok (.ifCond .ne 6, 3) := by decide +kernel
theorem dX7_image_9 : decode cX7_image 9 = .ok (.bipush (-2), 2) := by decide +kernel
theorem dX7_image_11 : decode cX7_image 11 = .ok (.ireturn, 1) := by decide +kernel
theorem dX7_image_12 : decode cX7_image 12 = .ok (.aload_n 0, 1) := by decide +kernel
theorem dX7_image_13 : decode cX7_image 13 = .ok (.iload_n 1, 1) := by decide +kernel
theorem dX7_image_14 : decode cX7_image 14 = .ok (.invokevirtual 255, 3) := by decide +kernel
theorem dX7_image_17 : decode cX7_image 17 = .ok (.aload_n 0, 1) := by decide +kernel
theorem dX7_image_18 : decode cX7_image 18 = .ok (.getfield 10, 3) := by decide +kernel
theorem dX7_image_21 : decode cX7_image 21 = .ok (.aload_n 0, 1) := by decide +kernel
theorem dX7_image_22 : decode cX7_image 22 = .ok (.getfield 36, 3) := by decide +kernel
theorem dX7_image_25 : decode cX7_image 25 = .ok (.invokevirtual 259, 3) := by decide +kernel
theorem dX7_image_28 : decode cX7_image 28 = .ok (.iconst 1, 1) := by decide +kernel
theorem dX7_image_29 : decode cX7_image 29 = .ok (.ireturn, 1) := by decide +kernel
set_option maxRecDepth 20000 in
theorem ggX7_restore_X7_isWithin : GoodIn wsX7_restore wsX7_isWithin := goodIn_r _ [7] (by decide +kernel) (by decide +kernel)
set_option maxRecDepth 20000 in
theorem gX7_restore_X7_isWithin : GoodIn wsX7_restore (va_wsS RX7 64 yX7_isWithin wsX7_isWithin) := goodIn_app (goodIn_of _ (by decide +kernel)) ggX7_restore_X7_isWithin
set_option maxRecDepth 20000 in
theorem ggX7_restore_X7_imageAt : GoodIn wsX7_restore wsX7_imageAt := goodIn_r _ [11, 12, 13, 43, 44, 45, 46, 47, 48, 49, 50, 51] (by decide +kernel) (by decide +kernel)
set_option maxRecDepth 20000 in
theorem gX7_restore_X7_imageAt : GoodIn wsX7_restore (wsV RX7 255 RX7 yX7_imageAt wsX7_imageAt) := goodIn_app (goodIn_of _ (by decide +kernel)) ggX7_restore_X7_imageAt
set_option maxRecDepth 20000 in
theorem ggX7_restore_X2_giveBack : GoodIn wsX7_restore wsX2_giveBack := goodIn_r _ [18, 19, 20, 21, 22, 23, 24, 25, 26, 27, 28, 29, 30, 31, 32, 33, 34, 35, 36, 37, 38, 39, 40, 41, 42, 52, 53, 54, 55, 56, 57, 58, 59, 60, 61] (by decide +kernel) (by decide +kernel)
set_option maxRecDepth 20000 in
theorem gX7_restore_X2_giveBack : GoodIn wsX7_restore (wsV RX7 267 RX2 yX2_giveBack wsX2_giveBack) := goodIn_app (goodIn_of _ (by decide +kernel)) ggX7_restore_X2_giveBack
theorem dX7_restore_0 : decode cX7_restore 0 = .ok (.iload_n 1, 1) := by decide +kernel
theorem dX7_restore_1 : decode cX7_restore 1 = .ok (.iconst 0, 1) := by decide +kernel
theorem dX7_restore_2 : decode cX7_restore 2 = .ok (.iconst 1, 1) := by decide +kernel
theorem dX7_restore_3 : decode cX7_restore 3 = .ok (.invokestatic 64, 3) := by decide +kernel
theorem dX7_restore_6 : decode cX7_restore 6 = .ok (.ifCond .ne 6, 3) := by decide +kernel
theorem dX7_restore_9 : decode cX7_restore 9 = .ok (.bipush (-2), 2) := by decide +kernel
theorem dX7_restore_11 : decode cX7_restore 11 = .ok (.ireturn, 1) := by decide +kernel
theorem dX7_restore_12 : decode cX7_restore 12 = .ok (.aload_n 0, 1) := by decide +kernel
theorem dX7_restore_13 : decode cX7_restore 13 = .ok (.iload_n 1, 1) := by decide +kernel
theorem dX7_restore_14 : decode cX7_restore 14 = .ok (.invokevirtual 255, 3) := by decide +kernel
theorem dX7_restore_17 : decode cX7_restore 17 = .ok (.astore_n 2, 1) := by decide +kernel
theorem dX7_restore_18 : decode cX7_restore 18 = .ok (.aload_n 2, 1) := by decide +kernel
theorem dX7_restore_19 : decode cX7_restore 19 = .ok (.getfield 263, 3) := by decide +kernel
theorem dX7_restore_22 : decode cX7_restore 22 = .ok (.ifCond .ne 6, 3) := by decide +kernel
theorem dX7_restore_25 : decode cX7_restore 25 = .ok (.bipush (-3), 2) := by decide +kernel
theorem dX7_restore_27 : decode cX7_restore 27 = .ok (.ireturn, 1) := by decide +kernel
theorem dX7_restore_28 : decode cX7_restore 28 = .ok (.aload_n 2, 1) := by decide +kernel
theorem dX7_restore_29 : decode cX7_restore 29 = .ok (.aload_n 0, 1) := by decide +kernel
theorem dX7_restore_30 : decode cX7_restore 30 = .ok (.getfield 10, 3) := by decide +kernel
theorem dX7_restore_33 : decode cX7_restore 33 = .ok (.aload_n 0, 1) := by decide +kernel
theorem dX7_restore_34 : decode cX7_restore 34 = .ok (.getfield 36, 3) := by decide +kernel
theorem dX7_restore_37 : decode cX7_restore 37 = .ok (.invokevirtual 267, 3) := by decide +kernel
theorem dX7_restore_40 : decode cX7_restore 40 = .ok (.iconst 1, 1) := by decide +kernel
theorem dX7_restore_41 : decode cX7_restore 41 = .ok (.ireturn, 1) := by decide +kernel
theorem dX7_imageAt_0 : decode cX7_imageAt 0 = .ok (.iload_n 1, 1) := by decide +kernel
theorem dX7_imageAt_1 : decode cX7_imageAt 1 = .ok (.ifCond .ne 10, 3) := by decide +kernel
theorem dX7_imageAt_4 : decode cX7_imageAt 4 = .ok (.aload_n 0, 1) := by decide +kernel
theorem dX7_imageAt_5 : decode cX7_imageAt 5 = .ok (.getfield 57, 3) := by decide +kernel
theorem dX7_imageAt_8 : decode cX7_imageAt 8 = .ok (.goto 7, 3) := by decide +kernel
theorem dX7_imageAt_11 : decode cX7_imageAt 11 = .ok (.aload_n 0, 1) := by decide +kernel
theorem dX7_imageAt_12 : decode cX7_imageAt 12 = .ok (.getfield 61, 3) := by decide +kernel
theorem dX7_imageAt_15 : decode cX7_imageAt 15 = .ok (.areturn, 1) := by decide +kernel
set_option maxRecDepth 20000 in
theorem ggX7_told_X7_toldOfOne : GoodIn wsX7_told wsX7_toldOfOne := goodIn_r _ [13, 3, 14, 15, 16, 17, 18, 12, 19, 20, 21, 22, 23, 24, 25, 26, 27, 28, 35, 36, 37, 38, 39, 40, 41] (by decide +kernel) (by decide +kernel)
set_option maxRecDepth 20000 in
theorem gX7_told_X7_toldOfOne : GoodIn wsX7_told (wsV RX7 273 RX7 yX7_toldOfOne wsX7_toldOfOne) := goodIn_app (goodIn_of _ (by decide +kernel)) ggX7_told_X7_toldOfOne
theorem dX7_told_0 : decode cX7_told 0 = .ok (.iload_n 1, 1) := by decide +kernel
theorem dX7_told_1 : decode cX7_told 1 = .ok (.tableswitch 75 0 4 #[35, 43, 51, 59, 67], 35) := by decide +kernel
theorem dX7_told_36 : decode cX7_told 36 = .ok (.aload_n 0, 1) := by decide +kernel
theorem dX7_told_37 : decode cX7_told 37 = .ok (.getfield 22, 3) := by decide +kernel
theorem dX7_told_40 : decode cX7_told 40 = .ok (.getfield 98, 3) := by decide +kernel
theorem dX7_told_43 : decode cX7_told 43 = .ok (.ireturn, 1) := by decide +kernel
theorem dX7_told_44 : decode cX7_told 44 = .ok (.aload_n 0, 1) := by decide +kernel
theorem dX7_told_45 : decode cX7_told 45 = .ok (.getfield 10, 3) := by decide +kernel
theorem dX7_told_48 : decode cX7_told 48 = .ok (.getfield 270, 3) := by decide +kernel
theorem dX7_told_51 : decode cX7_told 51 = .ok (.ireturn, 1) := by decide +kernel
theorem dX7_told_52 : decode cX7_told 52 = .ok (.aload_n 0, 1) := by decide +kernel
theorem dX7_told_53 : decode cX7_told 53 = .ok (.getfield 10, 3) := by decide +kernel
theorem dX7_told_56 : decode cX7_told 56 = .ok (.getfield 91, 3) := by decide +kernel
theorem dX7_told_59 : decode cX7_told 59 = .ok (.ireturn, 1) := by decide +kernel
theorem dX7_told_60 : decode cX7_told 60 = .ok (.aload_n 0, 1) := by decide +kernel
theorem dX7_told_61 : decode cX7_told 61 = .ok (.getfield 10, 3) := by decide +kernel
theorem dX7_told_64 : decode cX7_told 64 = .ok (.getfield 129, 3) := by decide +kernel
theorem dX7_told_67 : decode cX7_told 67 = .ok (.ireturn, 1) := by decide +kernel
theorem dX7_told_68 : decode cX7_told 68 = .ok (.aload_n 0, 1) := by decide +kernel
theorem dX7_told_69 : decode cX7_told 69 = .ok (.getfield 36, 3) := by decide +kernel
theorem dX7_told_72 : decode cX7_told 72 = .ok (.getfield 194, 3) := by decide +kernel
theorem dX7_told_75 : decode cX7_told 75 = .ok (.ireturn, 1) := by decide +kernel
theorem dX7_told_76 : decode cX7_told 76 = .ok (.aload_n 0, 1) := by decide +kernel
theorem dX7_told_77 : decode cX7_told 77 = .ok (.iload_n 1, 1) := by decide +kernel
theorem dX7_told_78 : decode cX7_told 78 = .ok (.invokevirtual 273, 3) := by decide +kernel
theorem dX7_told_81 : decode cX7_told 81 = .ok (.ireturn, 1) := by decide +kernel
set_option maxRecDepth 20000 in
theorem ggX7_toldOfOne_X7_isWithin : GoodIn wsX7_toldOfOne wsX7_isWithin := goodIn_r _ [8] (by decide +kernel) (by decide +kernel)
set_option maxRecDepth 20000 in
theorem gX7_toldOfOne_X7_isWithin : GoodIn wsX7_toldOfOne (va_wsS RX7 64 yX7_isWithin wsX7_isWithin) := goodIn_app (goodIn_of _ (by decide +kernel)) ggX7_toldOfOne_X7_isWithin
theorem dX7_toldOfOne_0 : decode cX7_toldOfOne 0 = .ok (.iload_n 1, 1) := by decide +kernel
theorem dX7_toldOfOne_1 : decode cX7_toldOfOne 1 = .ok (.bipush 10, 2) := by decide +kernel
theorem dX7_toldOfOne_3 : decode cX7_toldOfOne 3 = .ok (.bipush 19, 2) := by decide +kernel
theorem dX7_toldOfOne_5 : decode cX7_toldOfOne 5 = .ok (.invokestatic 64, 3) := by decide +kernel
theorem dX7_toldOfOne_8 : decode cX7_toldOfOne 8 = .ok (.ifCond .eq 16, 3) := by decide +kernel
theorem dX7_toldOfOne_11 : decode cX7_toldOfOne 11 = .ok (.aload_n 0, 1) := by decide +kernel
theorem dX7_toldOfOne_12 : decode cX7_toldOfOne 12 = .ok (.getfield 10, 3) := by decide +kernel
theorem dX7_toldOfOne_15 : decode cX7_toldOfOne 15 = .ok (.getfield 72, 3) := by decide +kernel
theorem dX7_toldOfOne_18 : decode cX7_toldOfOne 18 = .ok (.iload_n 1, 1) := by decide +kernel
theorem dX7_toldOfOne_19 : decode cX7_toldOfOne 19 = .ok (.bipush 10, 2) := by decide +kernel
theorem dX7_toldOfOne_21 : decode cX7_toldOfOne 21 = .ok (.isub, 1) := by decide +kernel
theorem dX7_toldOfOne_22 : decode cX7_toldOfOne 22 = .ok (.iaload, 1) := by decide +kernel
theorem dX7_toldOfOne_23 : decode cX7_toldOfOne 23 = .ok (.ireturn, 1) := by decide +kernel
theorem dX7_toldOfOne_24 : decode cX7_toldOfOne 24 = .ok (.iload_n 1, 1) := by decide +kernel
theorem dX7_toldOfOne_25 : decode cX7_toldOfOne 25 = .ok (.bipush 20, 2) := by decide +kernel
theorem dX7_toldOfOne_27 : decode cX7_toldOfOne 27 = .ok (.bipush 29, 2) := by decide +kernel
theorem dX7_toldOfOne_29 : decode cX7_toldOfOne 29 = .ok (.invokestatic 64, 3) := by decide +kernel
theorem dX7_toldOfOne_32 : decode cX7_toldOfOne 32 = .ok (.ifCond .eq 16, 3) := by decide +kernel
theorem dX7_toldOfOne_35 : decode cX7_toldOfOne 35 = .ok (.aload_n 0, 1) := by decide +kernel
theorem dX7_toldOfOne_36 : decode cX7_toldOfOne 36 = .ok (.getfield 10, 3) := by decide +kernel
theorem dX7_toldOfOne_39 : decode cX7_toldOfOne 39 = .ok (.getfield 120, 3) := by decide +kernel
theorem dX7_toldOfOne_42 : decode cX7_toldOfOne 42 = .ok (.iload_n 1, 1) := by decide +kernel
theorem dX7_toldOfOne_43 : decode cX7_toldOfOne 43 = .ok (.bipush 20, 2) := by decide +kernel
theorem dX7_toldOfOne_45 : decode cX7_toldOfOne 45 = .ok (.isub, 1) := by decide +kernel
theorem dX7_toldOfOne_46 : decode cX7_toldOfOne 46 = .ok (.iaload, 1) := by decide +kernel
theorem dX7_toldOfOne_47 : decode cX7_toldOfOne 47 = .ok (.ireturn, 1) := by decide +kernel
theorem dX7_toldOfOne_48 : decode cX7_toldOfOne 48 = .ok (.iload_n 1, 1) := by decide +kernel
theorem dX7_toldOfOne_49 : decode cX7_toldOfOne 49 = .ok (.bipush 30, 2) := by decide +kernel
theorem dX7_toldOfOne_51 : decode cX7_toldOfOne 51 = .ok (.bipush 38, 2) := by decide +kernel
theorem dX7_toldOfOne_53 : decode cX7_toldOfOne 53 = .ok (.invokestatic 64, 3) := by decide +kernel
theorem dX7_toldOfOne_56 : decode cX7_toldOfOne 56 = .ok (.ifCond .eq 16, 3) := by decide +kernel
theorem dX7_toldOfOne_59 : decode cX7_toldOfOne 59 = .ok (.aload_n 0, 1) := by decide +kernel
theorem dX7_toldOfOne_60 : decode cX7_toldOfOne 60 = .ok (.getfield 10, 3) := by decide +kernel
theorem dX7_toldOfOne_63 : decode cX7_toldOfOne 63 = .ok (.getfield 88, 3) := by decide +kernel
theorem dX7_toldOfOne_66 : decode cX7_toldOfOne 66 = .ok (.iload_n 1, 1) := by decide +kernel
theorem dX7_toldOfOne_67 : decode cX7_toldOfOne 67 = .ok (.bipush 30, 2) := by decide +kernel
theorem dX7_toldOfOne_69 : decode cX7_toldOfOne 69 = .ok (.isub, 1) := by decide +kernel
theorem dX7_toldOfOne_70 : decode cX7_toldOfOne 70 = .ok (.iaload, 1) := by decide +kernel
theorem dX7_toldOfOne_71 : decode cX7_toldOfOne 71 = .ok (.ireturn, 1) := by decide +kernel
theorem dX7_toldOfOne_72 : decode cX7_toldOfOne 72 = .ok (.bipush (-2), 2) := by decide +kernel
theorem dX7_toldOfOne_74 : decode cX7_toldOfOne 74 = .ok (.ireturn, 1) := by decide +kernel
theorem dX7_isWithin_0 : decode cX7_isWithin 0 = .ok (.iload_n 0, 1) := by decide +kernel
theorem dX7_isWithin_1 : decode cX7_isWithin 1 = .ok (.iload_n 1, 1) := by decide +kernel
theorem dX7_isWithin_2 : decode cX7_isWithin 2 = .ok (.if_icmp .lt 12, 3) := by decide +kernel
theorem dX7_isWithin_5 : decode cX7_isWithin 5 = .ok (.iload_n 0, 1) := by decide +kernel
theorem dX7_isWithin_6 : decode cX7_isWithin 6 = .ok (.iload_n 2, 1) := by decide +kernel
theorem dX7_isWithin_7 : decode cX7_isWithin 7 = .ok (.if_icmp .gt 7, 3) := by decide +kernel
theorem dX7_isWithin_10 : decode cX7_isWithin 10 = .ok (.iconst 1, 1) := by decide +kernel
theorem dX7_isWithin_11 : decode cX7_isWithin 11 = .ok (.goto 4, 3) := by decide +kernel
theorem dX7_isWithin_14 : decode cX7_isWithin 14 = .ok (.iconst 0, 1) := by decide +kernel
theorem dX7_isWithin_15 : decode cX7_isWithin 15 = .ok (.ireturn, 1) := by decide +kernel
theorem dX7_digitCount_0 : decode cX7_digitCount 0 = .ok (.iconst 1, 1) := by decide +kernel
theorem dX7_digitCount_1 : decode cX7_digitCount 1 = .ok (.istore_n 1, 1) := by decide +kernel
theorem dX7_digitCount_2 : decode cX7_digitCount 2 = .ok (.iload_n 0, 1) := by decide +kernel
theorem dX7_digitCount_3 : decode cX7_digitCount 3 = .ok (.bipush 10, 2) := by decide +kernel
theorem dX7_digitCount_5 : decode cX7_digitCount 5 = .ok (.idiv, 1) := by decide +kernel
theorem dX7_digitCount_6 : decode cX7_digitCount 6 = .ok (.istore_n 2, 1) := by decide +kernel
theorem dX7_digitCount_7 : decode cX7_digitCount 7 = .ok (.iconst 0, 1) := by decide +kernel
theorem dX7_digitCount_8 : decode cX7_digitCount 8 = .ok (.istore_n 3, 1) := by decide +kernel
theorem dX7_digitCount_9 : decode cX7_digitCount 9 = .ok (.iload_n 3, 1) := by decide +kernel
theorem dX7_digitCount_10 : decode cX7_digitCount 10 = .ok (.bipush 10, 2) := by decide +kernel
theorem dX7_digitCount_12 : decode cX7_digitCount 12 = .ok (.if_icmp .ge 21, 3) := by decide +kernel
theorem dX7_digitCount_15 : decode cX7_digitCount 15 = .ok (.iload_n 2, 1) := by decide +kernel
theorem dX7_digitCount_16 : decode cX7_digitCount 16 = .ok (.ifCond .le 17, 3) := by decide +kernel
theorem dX7_digitCount_19 : decode cX7_digitCount 19 = .ok (.iload_n 2, 1) := by decide +kernel
theorem dX7_digitCount_20 : decode cX7_digitCount 20 = .ok (.bipush 10, 2) := by decide +kernel
theorem dX7_digitCount_22 : decode cX7_digitCount 22 = .ok (.idiv, 1) := by decide +kernel
theorem dX7_digitCount_23 : decode cX7_digitCount 23 = .ok (.istore_n 2, 1) := by decide +kernel
theorem dX7_digitCount_24 : decode cX7_digitCount 24 = .ok (.iinc 1 1, 3) := by decide +kernel
theorem dX7_digitCount_27 : decode cX7_digitCount 27 = .ok (.iinc 3 1, 3) := by decide +kernel
theorem dX7_digitCount_30 : decode cX7_digitCount 30 = .ok (.goto (-21), 3) := by decide +kernel
theorem dX7_digitCount_33 : decode cX7_digitCount 33 = .ok (.iload_n 1, 1) := by decide +kernel
theorem dX7_digitCount_34 : decode cX7_digitCount 34 = .ok (.ireturn, 1) := by decide +kernel
theorem dX7_leastBit_0 : decode cX7_leastBit 0 = .ok (.iconst 0, 1) := by decide +kernel
theorem dX7_leastBit_1 : decode cX7_leastBit 1 = .ok (.istore_n 1, 1) := by decide +kernel
theorem dX7_leastBit_2 : decode cX7_leastBit 2 = .ok (.iload_n 1, 1) := by decide +kernel
theorem dX7_leastBit_3 : decode cX7_leastBit 3 = .ok (.bipush 9, 2) := by decide +kernel
theorem dX7_leastBit_5 : decode cX7_leastBit 5 = .ok (.if_icmp .gt 20, 3) := by decide +kernel
theorem dX7_leastBit_8 : decode cX7_leastBit 8 = .ok (.iload_n 0, 1) := by decide +kernel
theorem dX7_leastBit_9 : decode cX7_leastBit 9 = .ok (.iload_n 1, 1) := by decide +kernel
theorem dX7_leastBit_10 : decode cX7_leastBit 10 = .ok (.ishr, 1) := by decide +kernel
theorem dX7_leastBit_11 : decode cX7_leastBit 11 = .ok (.iconst 1, 1) := by decide +kernel
theorem dX7_leastBit_12 : decode cX7_leastBit 12 = .ok (.iand, 1) := by decide +kernel
theorem dX7_leastBit_13 : decode cX7_leastBit 13 = .ok (.iconst 1, 1) := by decide +kernel
theorem dX7_leastBit_14 : decode cX7_leastBit 14 = .ok (.if_icmp .ne 5, 3) := by decide +kernel
theorem dX7_leastBit_17 : decode cX7_leastBit 17 = .ok (.iload_n 1, 1) := by decide +kernel
theorem dX7_leastBit_18 : decode cX7_leastBit 18 = .ok (.ireturn, 1) := by decide +kernel
theorem dX7_leastBit_19 : decode cX7_leastBit 19 = .ok (.iinc 1 1, 3) := by decide +kernel
theorem dX7_leastBit_22 : decode cX7_leastBit 22 = .ok (.goto (-20), 3) := by decide +kernel
theorem dX7_leastBit_25 : decode cX7_leastBit 25 = .ok (.bipush (-6), 2) := by decide +kernel
theorem dX7_leastBit_27 : decode cX7_leastBit 27 = .ok (.ireturn, 1) := by decide +kernel
theorem dX7_power_0 : decode cX7_power 0 = .ok (.lconst 1, 1) := by decide +kernel
theorem dX7_power_1 : decode cX7_power 1 = .ok (.lstore_n 3, 1) := by decide +kernel
theorem dX7_power_2 : decode cX7_power 2 = .ok (.iconst 0, 1) := by decide +kernel
theorem dX7_power_3 : decode cX7_power 3 = .ok (.istore 5, 2) := by decide +kernel
theorem dX7_power_5 : decode cX7_power 5 = .ok (.iload 5, 2) := by decide +kernel
theorem dX7_power_7 : decode cX7_power 7 = .ok (.iload_n 2, 1) := by decide +kernel
theorem dX7_power_8 : decode cX7_power 8 = .ok (.if_icmp .ge 13, 3) := by decide +kernel
theorem dX7_power_11 : decode cX7_power 11 = .ok (.lload_n 3, 1) := by decide +kernel
theorem dX7_power_12 : decode cX7_power 12 = .ok (.lload_n 0, 1) := by decide +kernel
theorem dX7_power_13 : decode cX7_power 13 = .ok (.lmul, 1) := by decide +kernel
theorem dX7_power_14 : decode cX7_power 14 = .ok (.lstore_n 3, 1) := by decide +kernel
theorem dX7_power_15 : decode cX7_power 15 = .ok (.iinc 5 1, 3) := by decide +kernel
theorem dX7_power_18 : decode cX7_power 18 = .ok (.goto (-13), 3) := by decide +kernel
theorem dX7_power_21 : decode cX7_power 21 = .ok (.lload_n 3, 1) := by decide +kernel
theorem dX7_power_22 : decode cX7_power 22 = .ok (.lreturn, 1) := by decide +kernel
set_option maxRecDepth 20000 in
theorem ggX7_lowestTerm_X7_commonDivisor : GoodIn wsX7_lowestTerm wsX7_commonDivisor := goodIn_r _ [4] (by decide +kernel) (by decide +kernel)
set_option maxRecDepth 20000 in
theorem gX7_lowestTerm_X7_commonDivisor : GoodIn wsX7_lowestTerm (va_wsS RX7 276 yX7_commonDivisor wsX7_commonDivisor) := goodIn_app (goodIn_of _ (by decide +kernel)) ggX7_lowestTerm_X7_commonDivisor
theorem dX7_lowestTerm_0 : decode cX7_lowestTerm 0 = .ok (.lload_n 0, 1) := by decide +kernel
theorem dX7_lowestTerm_1 : decode cX7_lowestTerm 1 = .ok (.lload_n 2, 1) := by decide +kernel
theorem dX7_lowestTerm_2 : decode cX7_lowestTerm 2 = .ok (.invokestatic 276, 3) := by decide +kernel
theorem dX7_lowestTerm_5 : decode cX7_lowestTerm 5 = .ok (.lstore 5, 2) := by decide +kernel
theorem dX7_lowestTerm_7 : decode cX7_lowestTerm 7 = .ok (.lload 5, 2) := by decide +kernel
theorem dX7_lowestTerm_9 : decode cX7_lowestTerm 9 = .ok (.lconst 0, 1) := by decide +kernel
theorem dX7_lowestTerm_10 : decode cX7_lowestTerm 10 = .ok (.lcmp, 1) := by decide +kernel
theorem dX7_lowestTerm_11 : decode cX7_lowestTerm 11 = .ok (.ifCond .ne 5, 3) := by decide +kernel
theorem dX7_lowestTerm_14 : decode cX7_lowestTerm 14 = .ok (.lconst 0, 1) := by decide +kernel
theorem dX7_lowestTerm_15 : decode cX7_lowestTerm 15 = .ok (.lreturn, 1) := by decide +kernel
theorem dX7_lowestTerm_16 : decode cX7_lowestTerm 16 = .ok (.iload 4, 2) := by decide +kernel
theorem dX7_lowestTerm_18 : decode cX7_lowestTerm 18 = .ok (.ifCond .ne 10, 3) := by decide +kernel
theorem dX7_lowestTerm_21 : decode cX7_lowestTerm 21 = .ok (.lload_n 0, 1) := by decide +kernel
theorem dX7_lowestTerm_22 : decode cX7_lowestTerm 22 = .ok (.lload 5, 2) := by decide +kernel
theorem dX7_lowestTerm_24 : decode cX7_lowestTerm 24 = .ok (.ldiv, 1) := by decide +kernel
theorem dX7_lowestTerm_25 : decode cX7_lowestTerm 25 = .ok (.goto 7, 3) := by decide +kernel
theorem dX7_lowestTerm_28 : decode cX7_lowestTerm 28 = .ok (.lload_n 2, 1) := by decide +kernel
theorem dX7_lowestTerm_29 : decode cX7_lowestTerm 29 = .ok (.lload 5, 2) := by decide +kernel
theorem dX7_lowestTerm_31 : decode cX7_lowestTerm 31 = .ok (.ldiv, 1) := by decide +kernel
theorem dX7_lowestTerm_32 : decode cX7_lowestTerm 32 = .ok (.lreturn, 1) := by decide +kernel
theorem dX7_commonDivisor_0 : decode cX7_commonDivisor 0 = .ok (.lload_n 0, 1) := by decide +kernel
theorem dX7_commonDivisor_1 : decode cX7_commonDivisor 1 = .ok (.lstore 4, 2) := by decide +kernel
theorem dX7_commonDivisor_3 : decode cX7_commonDivisor 3 = .ok (.lload_n 2, 1) := by decide +kernel
theorem dX7_commonDivisor_4 : decode cX7_commonDivisor 4 = .ok (.lstore 6, 2) := by decide +kernel
theorem dX7_commonDivisor_6 : decode cX7_commonDivisor 6 = .ok (.iconst 0, 1) := by decide +kernel
theorem dX7_commonDivisor_7 : decode cX7_commonDivisor 7 = .ok (.istore 8, 2) := by decide +kernel
theorem dX7_commonDivisor_9 : decode cX7_commonDivisor 9 = .ok (.iload 8, 2) := by decide +kernel
theorem dX7_commonDivisor_11 : decode cX7_commonDivisor 11 = .ok (.bipush 100, 2) := by decide +kernel
theorem dX7_commonDivisor_13 : decode cX7_commonDivisor 13 = .ok (.if_icmp .ge 31, 3) := by decide +kernel
theorem dX7_commonDivisor_16 : decode cX7_commonDivisor 16 = .ok (.lload 6, 2) := by decide +kernel
theorem dX7_commonDivisor_18 : decode cX7_commonDivisor 18 = .ok (.lconst 0, 1) := by decide +kernel
theorem dX7_commonDivisor_19 : decode cX7_commonDivisor 19 = .ok (.lcmp, 1) := by decide +kernel
theorem dX7_commonDivisor_20 : decode cX7_commonDivisor 20 = .ok (.ifCond .eq 24, 3) := by decide +kernel
theorem dX7_commonDivisor_23 : decode cX7_commonDivisor 23 = .ok (.lload 4, 2) := by decide +kernel
theorem dX7_commonDivisor_25 : decode cX7_commonDivisor 25 = .ok (.lload 6, 2) := by decide +kernel
theorem dX7_commonDivisor_27 : decode cX7_commonDivisor 27 = .ok (.lrem, 1) := by decide +kernel
theorem dX7_commonDivisor_28 : decode cX7_commonDivisor 28 = .ok (.lstore 9, 2) := by decide +kernel
theorem dX7_commonDivisor_30 : decode cX7_commonDivisor 30 = .ok (.lload 6, 2) := by decide +kernel
theorem dX7_commonDivisor_32 : decode cX7_commonDivisor 32 = .ok (.lstore 4, 2) := by decide +kernel
theorem dX7_commonDivisor_34 : decode cX7_commonDivisor 34 = .ok (.lload 9, 2) := by decide +kernel
theorem dX7_commonDivisor_36 : decode cX7_commonDivisor 36 = .ok (.lstore 6, 2) := by decide +kernel
theorem dX7_commonDivisor_38 : decode cX7_commonDivisor 38 = .ok (.iinc 8 1, 3) := by decide +kernel
theorem dX7_commonDivisor_41 : decode cX7_commonDivisor 41 = .ok (.goto (-32), 3) := by decide +kernel
theorem dX7_commonDivisor_44 : decode cX7_commonDivisor 44 = .ok (.lload 4, 2) := by decide +kernel
theorem dX7_commonDivisor_46 : decode cX7_commonDivisor 46 = .ok (.lreturn, 1) := by decide +kernel
end
section
theorem dX8_init_0 : decode cX8_init 0 = .ok (.aload_n 0, 1) := by decide +kernel
theorem dX8_init_1 : decode cX8_init 1 = .ok (.invokespecial 1, 3) := by decide +kernel
theorem dX8_init_4 : decode cX8_init 4 = .ok (.aload_n 0, 1) := by decide +kernel
theorem dX8_init_5 : decode cX8_init 5 = .ok (.bipush 10, 2) := by decide +kernel
theorem dX8_init_7 : decode cX8_init 7 = .ok (.newarray .int, 2) := by decide +kernel
theorem dX8_init_9 : decode cX8_init 9 = .ok (.putfield 7, 3) := by decide +kernel
theorem dX8_init_12 : decode cX8_init 12 = .ok (.aload_n 0, 1) := by decide +kernel
theorem dX8_init_13 : decode cX8_init 13 = .ok (.bipush 10, 2) := by decide +kernel
theorem dX8_init_15 : decode cX8_init 15 = .ok (.newarray .int, 2) := by decide +kernel
theorem dX8_init_17 : decode cX8_init 17 = .ok (.putfield 13, 3) := by decide +kernel
theorem dX8_init_20 : decode cX8_init 20 = .ok (.aload_n 0, 1) := by decide +kernel
theorem dX8_init_21 : decode cX8_init 21 = .ok (.bipush 9, 2) := by decide +kernel
theorem dX8_init_23 : decode cX8_init 23 = .ok (.newarray .int, 2) := by decide +kernel
theorem dX8_init_25 : decode cX8_init 25 = .ok (.putfield 16, 3) := by decide +kernel
theorem dX8_init_28 : decode cX8_init 28 = .ok (.aload_n 0, 1) := by decide +kernel
theorem dX8_init_29 : decode cX8_init 29 = .ok (.bipush 8, 2) := by decide +kernel
theorem dX8_init_31 : decode cX8_init 31 = .ok (.newarray .int, 2) := by decide +kernel
theorem dX8_init_33 : decode cX8_init 33 = .ok (.putfield 19, 3) := by decide +kernel
theorem dX8_init_36 : decode cX8_init 36 = .ok (.aload_n 0, 1) := by decide +kernel
theorem dX8_init_37 : decode cX8_init 37 = .ok (.bipush 8, 2) := by decide +kernel
theorem dX8_init_39 : decode cX8_init 39 = .ok (.newarray .int, 2) := by decide +kernel
theorem dX8_init_41 : decode cX8_init 41 = .ok (.putfield 22, 3) := by decide +kernel
theorem dX8_init_44 : decode cX8_init 44 = .ok (.aload_n 0, 1) := by decide +kernel
theorem dX8_init_45 : decode cX8_init 45 = .ok (.bipush 60, 2) := by decide +kernel
theorem dX8_init_47 : decode cX8_init 47 = .ok (.newarray .int, 2) := by decide +kernel
theorem dX8_init_49 : decode cX8_init 49 = .ok (.putfield 25, 3) := by decide +kernel
theorem dX8_init_52 : decode cX8_init 52 = .ok (.aload_n 0, 1) := by decide +kernel
theorem dX8_init_53 : decode cX8_init 53 = .ok (.bipush 60, 2) := by decide +kernel
theorem dX8_init_55 : decode cX8_init 55 = .ok (.newarray .int, 2) := by decide +kernel
theorem dX8_init_57 : decode cX8_init 57 = .ok (.putfield 28, 3) := by decide +kernel
theorem dX8_init_60 : decode cX8_init 60 = .ok (.aload_n 0, 1) := by decide +kernel
theorem dX8_init_61 : decode cX8_init 61 = .ok (.bipush 60, 2) := by decide +kernel
theorem dX8_init_63 : decode cX8_init 63 = .ok (.newarray .int, 2) := by decide +kernel
theorem dX8_init_65 : decode cX8_init 65 = .ok (.putfield 31, 3) := by decide +kernel
theorem dX8_init_68 : decode cX8_init 68 = .ok (.aload_n 0, 1) := by decide +kernel
theorem dX8_init_69 : decode cX8_init 69 = .ok (.bipush 60, 2) := by decide +kernel
theorem dX8_init_71 : decode cX8_init 71 = .ok (.newarray .int, 2) := by decide +kernel
theorem dX8_init_73 : decode cX8_init 73 = .ok (.putfield 34, 3) := by decide +kernel
theorem dX8_init_76 : decode cX8_init 76 = .ok (.aload_n 0, 1) := by decide +kernel
theorem dX8_init_77 : decode cX8_init 77 = .ok (.bipush 10, 2) := by decide +kernel
theorem dX8_init_79 : decode cX8_init 79 = .ok (.newarray .int, 2) := by decide +kernel
theorem dX8_init_81 : decode cX8_init 81 = .ok (.putfield 37, 3) := by decide +kernel
theorem dX8_init_84 : decode cX8_init 84 = .ok (.aload_n 0, 1) := by decide +kernel
theorem dX8_init_85 : decode cX8_init 85 = .ok (.bipush 32, 2) := by decide +kernel
theorem dX8_init_87 : decode cX8_init 87 = .ok (.newarray .int, 2) := by decide +kernel
theorem dX8_init_89 : decode cX8_init 89 = .ok (.putfield 40, 3) := by decide +kernel
theorem dX8_init_92 : decode cX8_init 92 = .ok (.aload_n 0, 1) := by decide +kernel
theorem dX8_init_93 : decode cX8_init 93 = .ok (.bipush 9, 2) := by decide +kernel
theorem dX8_init_95 : decode cX8_init 95 = .ok (.newarray .int, 2) := by decide +kernel
theorem dX8_init_97 : decode cX8_init 97 = .ok (.putfield 43, 3) := by decide +kernel
theorem dX8_init_100 : decode cX8_init 100 = .ok (.aload_n 0, 1) := by decide +kernel
theorem dX8_init_101 : decode cX8_init 101 = .ok (.bipush 100, 2) := by decide +kernel
theorem dX8_init_103 : decode cX8_init 103 = .ok (.newarray .int, 2) := by decide +kernel
theorem dX8_init_105 : decode cX8_init 105 = .ok (.putfield 46, 3) := by decide +kernel
theorem dX8_init_108 : decode cX8_init 108 = .ok (.aload_n 0, 1) := by decide +kernel
theorem dX8_init_109 : decode cX8_init 109 = .ok (.bipush 100, 2) := by decide +kernel
theorem dX8_init_111 : decode cX8_init 111 = .ok (.newarray .int, 2) := by decide +kernel
theorem dX8_init_113 : decode cX8_init 113 = .ok (.putfield 49, 3) := by decide +kernel
theorem dX8_init_116 : decode cX8_init 116 = .ok (.aload_n 0, 1) := by decide +kernel
theorem dX8_init_117 : decode cX8_init 117 = .ok (.iconst 4, 1) := by decide +kernel
theorem dX8_init_118 : decode cX8_init 118 = .ok (.newarray .int, 2) := by decide +kernel
theorem dX8_init_120 : decode cX8_init 120 = .ok (.putfield 52, 3) := by decide +kernel
theorem dX8_init_123 : decode cX8_init 123 = .ok (.aload_n 0, 1) := by decide +kernel
theorem dX8_init_124 : decode cX8_init 124 = .ok (.bipush 9, 2) := by decide +kernel
theorem dX8_init_126 : decode cX8_init 126 = .ok (.newarray .int, 2) := by decide +kernel
theorem dX8_init_128 : decode cX8_init 128 = .ok (.putfield 55, 3) := by decide +kernel
theorem dX8_init_131 : decode cX8_init 131 = .ok (.aload_n 0, 1) := by decide +kernel
theorem dX8_init_132 : decode cX8_init 132 = .ok (.bipush 10, 2) := by decide +kernel
theorem dX8_init_134 : decode cX8_init 134 = .ok (.newarray .int, 2) := by decide +kernel
theorem dX8_init_136 : decode cX8_init 136 = .ok (.putfield 58, 3) := by decide +kernel
theorem dX8_init_139 : decode cX8_init 139 = .ok (.aload_n 0, 1) := by decide +kernel
theorem dX8_init_140 : decode cX8_init 140 = .ok (.bipush 10, 2) := by decide +kernel
theorem dX8_init_142 : decode cX8_init 142 = .ok (.newarray .int, 2) := by decide +kernel
theorem dX8_init_144 : decode cX8_init 144 = .ok (.putfield 61, 3) := by decide +kernel
theorem dX8_init_147 : decode cX8_init 147 = .ok (.aload_n 0, 1) := by decide +kernel
theorem dX8_init_148 : decode cX8_init 148 = .ok (.bipush 10, 2) := by decide +kernel
theorem dX8_init_150 : decode cX8_init 150 = .ok (.newarray .int, 2) := by decide +kernel
theorem dX8_init_152 : decode cX8_init 152 = .ok (.putfield 64, 3) := by decide +kernel
theorem dX8_init_155 : decode cX8_init 155 = .ok (.aload_n 0, 1) := by decide +kernel
theorem dX8_init_156 : decode cX8_init 156 = .ok (.sipush 1000, 3) := by decide +kernel
theorem dX8_init_159 : decode cX8_init 159 = .ok (.newarray .boolean, 2) := by decide +kernel
theorem dX8_init_161 : decode cX8_init 161 = .ok (.putfield 67, 3) := by decide +kernel
theorem dX8_init_164 : decode cX8_init 164 = .ok (.aload_n 0, 1) := by decide +kernel
theorem dX8_init_165 : decode cX8_init 165 = .ok (.bipush 120, 2) := by decide +kernel
theorem dX8_init_167 : decode cX8_init 167 = .ok (.newarray .int, 2) := by decide +kernel
theorem dX8_init_169 : decode cX8_init 169 = .ok (.putfield 71, 3) := by decide +kernel
theorem dX8_init_172 : decode cX8_init 172 = .ok (.aload_n 0, 1) := by decide +kernel
theorem dX8_init_173 : decode cX8_init 173 = .ok (.iconst 2, 1) := by decide +kernel
theorem dX8_init_174 : decode cX8_init 174 = .ok (.newarray .boolean, 2) := by decide +kernel
theorem dX8_init_176 : decode cX8_init 176 = .ok (.putfield 74, 3) := by decide +kernel
theorem dX8_init_179 : decode cX8_init 179 = .ok (.iconst 0, 1) := by decide +kernel
theorem dX8_init_180 : decode cX8_init 180 = .ok (.istore_n 1, 1) := by decide +kernel
theorem dX8_init_181 : decode cX8_init 181 = .ok (.iload_n 1, 1) := by decide +kernel
theorem dX8_init_182 : decode cX8_init 182 = .ok (.bipush 10, 2) := by decide +kernel
theorem dX8_init_184 : decode cX8_init 184 = .ok (.if_icmp .ge 19, 3) := by decide +kernel
theorem dX8_init_187 : decode cX8_init 187 = .ok (.aload_n 0, 1) := by decide +kernel
theorem dX8_init_188 : decode cX8_init 188 = .ok (.getfield 7, 3) := by decide +kernel
theorem dX8_init_191 : decode cX8_init 191 = .ok (.iload_n 1, 1) := by decide +kernel
theorem dX8_init_192 : decode cX8_init 192 = .ok (.bipush 10, 2) := by decide +kernel
theorem dX8_init_194 : decode cX8_init 194 = .ok (.iload_n 1, 1) := by decide +kernel
theorem dX8_init_195 : decode cX8_init 195 = .ok (.imul, 1) := by decide +kernel
theorem dX8_init_196 : decode cX8_init 196 = .ok (.iastore, 1) := by decide +kernel
theorem dX8_init_197 : decode cX8_init 197 = .ok (.iinc 1 1, 3) := by decide +kernel
theorem dX8_init_200 : decode cX8_init 200 = .ok (.goto (-19), 3) := by decide +kernel
theorem dX8_init_203 : decode cX8_init 203 = .ok (.iconst 0, 1) := by decide +kernel
theorem dX8_init_204 : decode cX8_init 204 = .ok (.istore_n 1, 1) := by decide +kernel
theorem dX8_init_205 : decode cX8_init 205 = .ok (.iload_n 1, 1) := by decide +kernel
theorem dX8_init_206 : decode cX8_init 206 = .ok (.bipush 9, 2) := by decide +kernel
theorem dX8_init_208 : decode cX8_init 208 = .ok (.if_icmp .ge 17, 3) := by decide +kernel
theorem dX8_init_211 : decode cX8_init 211 = .ok (.aload_n 0, 1) := by decide +kernel
theorem dX8_init_212 : decode cX8_init 212 = .ok (.getfield 16, 3) := by decide +kernel
theorem dX8_init_215 : decode cX8_init 215 = .ok (.iload_n 1, 1) := by decide +kernel
theorem dX8_init_216 : decode cX8_init 216 = .ok (.bipush 15, 2) := by decide +kernel
theorem dX8_init_218 : decode cX8_init 218 = .ok (.iastore, 1) := by decide +kernel
theorem dX8_init_219 : decode cX8_init 219 = .ok (.iinc 1 1, 3) := by decide +kernel
theorem dX8_init_222 : decode cX8_init 222 = .ok (.goto (-17), 3) := by decide +kernel
theorem dX8_init_225 : decode cX8_init 225 = .ok (.aload_n 0, 1) := by decide +kernel
theorem dX8_init_226 : decode cX8_init 226 = .ok (.bipush 20, 2) := by decide +kernel
theorem dX8_init_228 : decode cX8_init 228 = .ok (.putfield 77, 3) := by decide +kernel
theorem dX8_init_231 : decode cX8_init 231 = .ok (.return_, 1) := by decide +kernel
theorem dX8_in_0 : decode cX8_in 0 = .ok (.lload_n 0, 1) := by decide +kernel
theorem dX8_in_1 : decode cX8_in 1 = .ok (.lload_n 2, 1) := by decide +kernel
theorem dX8_in_2 : decode cX8_in 2 = .ok (.lcmp, 1) := by decide +kernel
theorem dX8_in_3 : decode cX8_in 3 = .ok (.ifCond .lt 14, 3) := by decide +kernel
theorem dX8_in_6 : decode cX8_in 6 = .ok (.lload_n 0, 1) := by decide +kernel
theorem dX8_in_7 : decode cX8_in 7 = .ok (.lload 4, 2) := by decide +kernel
theorem dX8_in_9 : decode cX8_in 9 = .ok (.lcmp, 1) := by decide +kernel
theorem dX8_in_10 : decode cX8_in 10 = .ok (.ifCond .gt 7, 3) := by decide +kernel
theorem dX8_in_13 : decode cX8_in 13 = .ok (.iconst 1, 1) := by decide +kernel
theorem dX8_in_14 : decode cX8_in 14 = .ok (.goto 4, 3) := by decide +kernel
theorem dX8_in_17 : decode cX8_in 17 = .ok (.iconst 0, 1) := by decide +kernel
theorem dX8_in_18 : decode cX8_in 18 = .ok (.ireturn, 1) := by decide +kernel
set_option maxRecDepth 20000 in
theorem ggX8_isChild_X8_in : GoodIn wsX8_isChild wsX8_in := goodIn_r _ [5] (by decide +kernel) (by decide +kernel)
set_option maxRecDepth 20000 in
theorem gX8_isChild_X8_in : GoodIn wsX8_isChild (va_wsS RX8 83 yX8_in wsX8_in) := goodIn_app (goodIn_of _ (by decide +kernel)) ggX8_isChild_X8_in
theorem dX8_isChild_0 : decode cX8_isChild 0 = .ok (.iload_n 0, 1) := by decide +kernel
theorem dX8_isChild_1 : decode cX8_isChild 1 = .ok (.i2l, 1) := by decide +kernel
theorem dX8_isChild_2 : decode cX8_isChild 2 = .ok (.lconst 0, 1) := by decide +kernel
theorem dX8_isChild_3 : decode cX8_isChild 3 = .ok (.ldc2_w 81, 3) := by decide +kernel
theorem dX8_isChild_6 : decode cX8_isChild 6 = .ok (.invokestatic 83, 3) := by decide +kernel
theorem dX8_isChild_9 : decode cX8_isChild 9 = .ok (.ireturn, 1) := by decide +kernel
theorem dX8_has_0 : decode cX8_has 0 = .ok (.iload_n 0, 1) := by decide +kernel
theorem dX8_has_1 : decode cX8_has 1 = .ok (.iload_n 1, 1) := by decide +kernel
theorem dX8_has_2 : decode cX8_has 2 = .ok (.ishr, 1) := by decide +kernel
theorem dX8_has_3 : decode cX8_has 3 = .ok (.iconst 1, 1) := by decide +kernel
theorem dX8_has_4 : decode cX8_has 4 = .ok (.iand, 1) := by decide +kernel
theorem dX8_has_5 : decode cX8_has 5 = .ok (.iconst 1, 1) := by decide +kernel
theorem dX8_has_6 : decode cX8_has 6 = .ok (.if_icmp .ne 7, 3) := by decide +kernel
theorem dX8_has_9 : decode cX8_has 9 = .ok (.iconst 1, 1) := by decide +kernel
theorem dX8_has_10 : decode cX8_has 10 = .ok (.goto 4, 3) := by decide +kernel
theorem dX8_has_13 : decode cX8_has 13 = .ok (.iconst 0, 1) := by decide +kernel
theorem dX8_has_14 : decode cX8_has 14 = .ok (.ireturn, 1) := by decide +kernel
theorem dX8_less_0 : decode cX8_less 0 = .ok (.iload_n 0, 1) := by decide +kernel
theorem dX8_less_1 : decode cX8_less 1 = .ok (.iload_n 1, 1) := by decide +kernel
theorem dX8_less_2 : decode cX8_less 2 = .ok (.if_icmp .ge 7, 3) := by decide +kernel
theorem dX8_less_5 : decode cX8_less 5 = .ok (.iload_n 0, 1) := by decide +kernel
theorem dX8_less_6 : decode cX8_less 6 = .ok (.goto 4, 3) := by decide +kernel
theorem dX8_less_9 : decode cX8_less 9 = .ok (.iload_n 1, 1) := by decide +kernel
theorem dX8_less_10 : decode cX8_less 10 = .ok (.ireturn, 1) := by decide +kernel
theorem dX8_off_0 : decode cX8_off 0 = .ok (.iload_n 0, 1) := by decide +kernel
theorem dX8_off_1 : decode cX8_off 1 = .ok (.iload_n 1, 1) := by decide +kernel
theorem dX8_off_2 : decode cX8_off 2 = .ok (.if_icmp .ge 9, 3) := by decide +kernel
theorem dX8_off_5 : decode cX8_off 5 = .ok (.iload_n 1, 1) := by decide +kernel
theorem dX8_off_6 : decode cX8_off 6 = .ok (.iload_n 0, 1) := by decide +kernel
theorem dX8_off_7 : decode cX8_off 7 = .ok (.isub, 1) := by decide +kernel
theorem dX8_off_8 : decode cX8_off 8 = .ok (.goto 6, 3) := by decide +kernel
theorem dX8_off_11 : decode cX8_off 11 = .ok (.iload_n 0, 1) := by decide +kernel
theorem dX8_off_12 : decode cX8_off 12 = .ok (.iload_n 1, 1) := by decide +kernel
theorem dX8_off_13 : decode cX8_off 13 = .ok (.isub, 1) := by decide +kernel
theorem dX8_off_14 : decode cX8_off 14 = .ok (.ireturn, 1) := by decide +kernel
set_option maxRecDepth 20000 in
theorem ggX8_isReached_X8_off : GoodIn wsX8_isReached wsX8_off := goodIn_r _ [6] (by decide +kernel) (by decide +kernel)
set_option maxRecDepth 20000 in
theorem gX8_isReached_X8_off : GoodIn wsX8_isReached (va_wsS RX8 87 yX8_off wsX8_off) := goodIn_app (goodIn_of _ (by decide +kernel)) ggX8_isReached_X8_off
theorem dX8_isReached_0 : decode cX8_isReached 0 = .ok (.iload_n 1, 1) := by decide +kernel
theorem dX8_isReached_1 : decode cX8_isReached 1 = .ok (.ifCond .eq 26, 3) := by decide +kernel
theorem dX8_isReached_4 : decode cX8_isReached 4 = .ok (.iload_n 2, 1) := by decide +kernel
theorem dX8_isReached_5 : decode cX8_isReached 5 = .ok (.aload_n 0, 1) := by decide +kernel
theorem dX8_isReached_6 : decode cX8_isReached 6 = .ok (.getfield 7, 3) := by decide +kernel
theorem dX8_isReached_9 : decode cX8_isReached 9 = .ok (.iload_n 1, 1) := by decide +kernel
theorem dX8_isReached_10 : decode cX8_isReached 10 = .ok (.iconst 1, 1) := by decide +kernel
theorem dX8_isReached_11 : decode cX8_isReached 11 = .ok (.isub, 1) := by decide +kernel
theorem dX8_isReached_12 : decode cX8_isReached 12 = .ok (.iaload, 1) := by decide +kernel
theorem dX8_isReached_13 : decode cX8_isReached 13 = .ok (.invokestatic 87, 3) := by decide +kernel
theorem dX8_isReached_16 : decode cX8_isReached 16 = .ok (.aload_n 0, 1) := by decide +kernel
theorem dX8_isReached_17 : decode cX8_isReached 17 = .ok (.getfield 16, 3) := by decide +kernel
theorem dX8_isReached_20 : decode cX8_isReached 20 = .ok (.iload_n 1, 1) := by decide +kernel
theorem dX8_isReached_21 : decode cX8_isReached 21 = .ok (.iconst 1, 1) := by decide +kernel
theorem dX8_isReached_22 : decode cX8_isReached 22 = .ok (.isub, 1) := by decide +kernel
theorem dX8_isReached_23 : decode cX8_isReached 23 = .ok (.iaload, 1) := by decide +kernel
theorem dX8_isReached_24 : decode cX8_isReached 24 = .ok (.if_icmp .gt 7, 3) := by decide +kernel
theorem dX8_isReached_27 : decode cX8_isReached 27 = .ok (.iconst 1, 1) := by decide +kernel
theorem dX8_isReached_28 : decode cX8_isReached 28 = .ok (.goto 4, 3) := by decide +kernel
theorem dX8_isReached_31 : decode cX8_isReached 31 = .ok (.iconst 0, 1) := by decide +kernel
theorem dX8_isReached_32 : decode cX8_isReached 32 = .ok (.istore_n 3, 1) := by decide +kernel
theorem dX8_isReached_33 : decode cX8_isReached 33 = .ok (.iload_n 1, 1) := by decide +kernel
theorem dX8_isReached_34 : decode cX8_isReached 34 = .ok (.bipush 9, 2) := by decide +kernel
theorem dX8_isReached_36 : decode cX8_isReached 36 = .ok (.if_icmp .eq 24, 3) := by decide +kernel
theorem dX8_isReached_39 : decode cX8_isReached 39 = .ok (.iload_n 2, 1) := by decide +kernel
theorem dX8_isReached_40 : decode cX8_isReached 40 = .ok (.aload_n 0, 1) := by decide +kernel
theorem dX8_isReached_41 : decode cX8_isReached 41 = .ok (.getfield 7, 3) := by decide +kernel
theorem dX8_isReached_44 : decode cX8_isReached 44 = .ok (.iload_n 1, 1) := by decide +kernel
theorem dX8_isReached_45 : decode cX8_isReached 45 = .ok (.iconst 1, 1) := by decide +kernel
theorem dX8_isReached_46 : decode cX8_isReached 46 = .ok (.iadd, 1) := by decide +kernel
theorem dX8_isReached_47 : decode cX8_isReached 47 = .ok (.iaload, 1) := by decide +kernel
theorem dX8_isReached_48 : decode cX8_isReached 48 = .ok (.invokestatic 87, 3) := by decide +kernel
theorem dX8_isReached_51 : decode cX8_isReached 51 = .ok (.aload_n 0, 1) := by decide +kernel
theorem dX8_isReached_52 : decode cX8_isReached 52 = .ok (.getfield 16, 3) := by decide +kernel
theorem dX8_isReached_55 : decode cX8_isReached 55 = .ok (.iload_n 1, 1) := by decide +kernel
theorem dX8_isReached_56 : decode cX8_isReached 56 = .ok (.iaload, 1) := by decide +kernel
theorem dX8_isReached_57 : decode cX8_isReached 57 = .ok (.if_icmp .gt 7, 3) := by decide +kernel
theorem dX8_isReached_60 : decode cX8_isReached 60 = .ok (.iconst 1, 1) := by decide +kernel
theorem dX8_isReached_61 : decode cX8_isReached 61 = .ok (.goto 4, 3) := by decide +kernel
theorem dX8_isReached_64 : decode cX8_isReached 64 = .ok (.iconst 0, 1) := by decide +kernel
theorem dX8_isReached_65 : decode cX8_isReached 65 = .ok (.istore 4, 2) := by decide +kernel
theorem dX8_isReached_67 : decode cX8_isReached 67 = .ok (.iload_n 3, 1) := by decide +kernel
theorem dX8_isReached_68 : decode cX8_isReached 68 = .ok (.ifCond .eq 12, 3) := by decide +kernel
theorem dX8_isReached_71 : decode cX8_isReached 71 = .ok (.iload 4, 2) := by decide +kernel
theorem dX8_isReached_73 : decode cX8_isReached 73 = .ok (.ifCond .eq 7, 3) := by decide +kernel
theorem dX8_isReached_76 : decode cX8_isReached 76 = .ok (.iconst 1, 1) := by decide +kernel
theorem dX8_isReached_77 : decode cX8_isReached 77 = .ok (.goto 4, 3) := by decide +kernel
theorem dX8_isReached_80 : decode cX8_isReached 80 = .ok (.iconst 0, 1) := by decide +kernel
theorem dX8_isReached_81 : decode cX8_isReached 81 = .ok (.ireturn, 1) := by decide +kernel
set_option maxRecDepth 20000 in
theorem ggX8_child_X8_isChild : GoodIn wsX8_child wsX8_isChild := goodIn_r _ [7, 8, 9, 10, 6, 11] (by decide +kernel) (by decide +kernel)
set_option maxRecDepth 20000 in
theorem gX8_child_X8_isChild : GoodIn wsX8_child (va_wsS RX8 91 yX8_isChild wsX8_isChild) := goodIn_app (goodIn_of _ (by decide +kernel)) ggX8_child_X8_isChild
set_option maxRecDepth 20000 in
theorem ggX8_child_X8_in : GoodIn wsX8_child wsX8_in := goodIn_r _ [11] (by decide +kernel) (by decide +kernel)
set_option maxRecDepth 20000 in
theorem gX8_child_X8_in : GoodIn wsX8_child (va_wsS RX8 83 yX8_in wsX8_in) := goodIn_app (goodIn_of _ (by decide +kernel)) ggX8_child_X8_in
set_option maxRecDepth 20000 in
theorem ggX8_child_X8_isReached : GoodIn wsX8_child wsX8_isReached := goodIn_r _ [15, 2, 16, 17, 18, 6, 19, 20, 21, 22, 23, 24, 25, 26, 27, 28, 29, 30, 31, 32, 33, 34, 35, 36, 37, 38, 39, 40, 41, 42, 43, 44, 45, 46, 47, 48, 49, 50, 51, 52, 53, 54, 55, 56] (by decide +kernel) (by decide +kernel)
set_option maxRecDepth 20000 in
theorem gX8_child_X8_isReached : GoodIn wsX8_child (wsV RX8 97 RX8 yX8_isReached wsX8_isReached) := goodIn_app (goodIn_of _ (by decide +kernel)) ggX8_child_X8_isReached
theorem dX8_child_0 : decode cX8_child 0 = .ok (.iload_n 1, 1) := by decide +kernel
theorem dX8_child_1 : decode cX8_child 1 = .ok (.invokestatic 91, 3) := by decide +kernel
theorem dX8_child_4 : decode cX8_child 4 = .ok (.ifCond .ne 5, 3) := by decide +kernel
theorem dX8_child_7 : decode cX8_child 7 = .ok (.iconst (-1), 1) := by decide +kernel
theorem dX8_child_8 : decode cX8_child 8 = .ok (.ireturn, 1) := by decide +kernel
theorem dX8_child_9 : decode cX8_child 9 = .ok (.iload_n 2, 1) := by decide +kernel
theorem dX8_child_10 : decode cX8_child 10 = .ok (.i2l, 1) := by decide +kernel
theorem dX8_child_11 : decode cX8_child 11 = .ok (.lconst 0, 1) := by decide +kernel
theorem dX8_child_12 : decode cX8_child 12 = .ok (.ldc2_w 95, 3) := by decide +kernel
theorem dX8_child_15 : decode cX8_child 15 = .ok (.invokestatic 83, 3) := by decide +kernel
theorem dX8_child_18 : decode cX8_child 18 = .ok (.ifCond .eq 13, 3) := by decide +kernel
theorem dX8_child_21 : decode cX8_child 21 = .ok (.iload_n 3, 1) := by decide +kernel
theorem dX8_child_22 : decode cX8_child 22 = .ok (.i2l, 1) := by decide +kernel
theorem dX8_child_23 : decode cX8_child 23 = .ok (.lconst 0, 1) := by decide +kernel
theorem dX8_child_24 : decode cX8_child 24 = .ok (.lconst 1, 1) := by decide +kernel
theorem dX8_child_25 : decode cX8_child 25 = .ok (.invokestatic 83, 3) := by decide +kernel
theorem dX8_child_28 : decode cX8_child 28 = .ok (.ifCond .ne 6, 3) := by decide +kernel
theorem dX8_child_31 : decode cX8_child 31 = .ok (.bipush (-2), 2) := by decide +kernel
theorem dX8_child_33 : decode cX8_child 33 = .ok (.ireturn, 1) := by decide +kernel
theorem dX8_child_34 : decode cX8_child 34 = .ok (.aload_n 0, 1) := by decide +kernel
theorem dX8_child_35 : decode cX8_child 35 = .ok (.iload_n 1, 1) := by decide +kernel
theorem dX8_child_36 : decode cX8_child 36 = .ok (.iload_n 2, 1) := by decide +kernel
theorem dX8_child_37 : decode cX8_child 37 = .ok (.invokevirtual 97, 3) := by decide +kernel
theorem dX8_child_40 : decode cX8_child 40 = .ok (.ifCond .ne 6, 3) := by decide +kernel
theorem dX8_child_43 : decode cX8_child 43 = .ok (.bipush (-3), 2) := by decide +kernel
theorem dX8_child_45 : decode cX8_child 45 = .ok (.ireturn, 1) := by decide +kernel
theorem dX8_child_46 : decode cX8_child 46 = .ok (.aload_n 0, 1) := by decide +kernel
theorem dX8_child_47 : decode cX8_child 47 = .ok (.getfield 7, 3) := by decide +kernel
theorem dX8_child_50 : decode cX8_child 50 = .ok (.iload_n 1, 1) := by decide +kernel
theorem dX8_child_51 : decode cX8_child 51 = .ok (.iaload, 1) := by decide +kernel
theorem dX8_child_52 : decode cX8_child 52 = .ok (.istore 4, 2) := by decide +kernel
theorem dX8_child_54 : decode cX8_child 54 = .ok (.aload_n 0, 1) := by decide +kernel
theorem dX8_child_55 : decode cX8_child 55 = .ok (.getfield 7, 3) := by decide +kernel
theorem dX8_child_58 : decode cX8_child 58 = .ok (.iload_n 1, 1) := by decide +kernel
theorem dX8_child_59 : decode cX8_child 59 = .ok (.iload_n 2, 1) := by decide +kernel
theorem dX8_child_60 : decode cX8_child 60 = .ok (.iastore, 1) := by decide +kernel
theorem dX8_child_61 : decode cX8_child 61 = .ok (.aload_n 0, 1) := by decide +kernel
theorem dX8_child_62 : decode cX8_child 62 = .ok (.iload_n 3, 1) := by decide +kernel
theorem dX8_child_63 : decode cX8_child 63 = .ok (.iconst 1, 1) := by decide +kernel
theorem dX8_child_64 : decode cX8_child 64 = .ok (.if_icmp .ne 14, 3) := by decide +kernel
theorem dX8_child_67 : decode cX8_child 67 = .ok (.aload_n 0, 1) := by decide +kernel
theorem dX8_child_68 : decode cX8_child 68 = .ok (.getfield 101, 3) := by decide +kernel
theorem dX8_child_71 : decode cX8_child 71 = .ok (.iconst 1, 1) := by decide +kernel
theorem dX8_child_72 : decode cX8_child 72 = .ok (.iload_n 1, 1) := by decide +kernel
theorem dX8_child_73 : decode cX8_child 73 = .ok (.ishl, 1) := by decide +kernel
theorem dX8_child_74 : decode cX8_child 74 = .ok (.ior, 1) := by decide +kernel
theorem dX8_child_75 : decode cX8_child 75 = .ok (.goto 13, 3) := by decide +kernel
theorem dX8_child_78 : decode cX8_child 78 = .ok (.aload_n 0, 1) := by decide +kernel
theorem dX8_child_79 : decode cX8_child 79 = .ok (.getfield 101, 3) := by decide +kernel
theorem dX8_child_82 : decode cX8_child 82 = .ok (.iconst 1, 1) := by decide +kernel
theorem dX8_child_83 : decode cX8_child 83 = .ok (.iload_n 1, 1) := by decide +kernel
theorem dX8_child_84 : decode cX8_child 84 = .ok (.ishl, 1) := by decide +kernel
theorem dX8_child_85 : decode cX8_child 85 = .ok (.iconst (-1), 1) := by decide +kernel
theorem dX8_child_86 : decode cX8_child 86 = .ok (.ixor, 1) := by decide +kernel
theorem dX8_child_87 : decode cX8_child 87 = .ok (.iand, 1) := by decide +kernel
theorem dX8_child_88 : decode cX8_child 88 = .ok (.putfield 101, 3) := by decide +kernel
theorem dX8_child_91 : decode cX8_child 91 = .ok (.iload 4, 2) := by decide +kernel
theorem dX8_child_93 : decode cX8_child 93 = .ok (.ireturn, 1) := by decide +kernel
set_option maxRecDepth 20000 in
theorem ggX8_string_X8_in : GoodIn wsX8_string wsX8_in := goodIn_r _ [8] (by decide +kernel) (by decide +kernel)
set_option maxRecDepth 20000 in
theorem gX8_string_X8_in : GoodIn wsX8_string (va_wsS RX8 83 yX8_in wsX8_in) := goodIn_app (goodIn_of _ (by decide +kernel)) ggX8_string_X8_in
set_option maxRecDepth 20000 in
theorem ggX8_string_X8_off : GoodIn wsX8_string wsX8_off := goodIn_r _ [11] (by decide +kernel) (by decide +kernel)
set_option maxRecDepth 20000 in
theorem gX8_string_X8_off : GoodIn wsX8_string (va_wsS RX8 87 yX8_off wsX8_off) := goodIn_app (goodIn_of _ (by decide +kernel)) ggX8_string_X8_off
theorem dX8_string_0 : decode cX8_string 0 = .ok (.iload_n 1, 1) := by decide +kernel
theorem dX8_string_1 : decode cX8_string 1 = .ok (.i2l, 1) := by decide +kernel
theorem dX8_string_2 : decode cX8_string 2 = .ok (.lconst 0, 1) := by decide +kernel
theorem dX8_string_3 : decode cX8_string 3 = .ok (.ldc2_w 104, 3) := by decide +kernel
theorem dX8_string_6 : decode cX8_string 6 = .ok (.invokestatic 83, 3) := by decide +kernel
theorem dX8_string_9 : decode cX8_string 9 = .ok (.ifCond .ne 5, 3) := by decide +kernel
theorem dX8_string_12 : decode cX8_string 12 = .ok (.iconst (-1), 1) := by decide +kernel
theorem dX8_string_13 : decode cX8_string 13 = .ok (.ireturn, 1) := by decide +kernel
theorem dX8_string_14 : decode cX8_string 14 = .ok (.iload_n 2, 1) := by decide +kernel
theorem dX8_string_15 : decode cX8_string 15 = .ok (.i2l, 1) := by decide +kernel
theorem dX8_string_16 : decode cX8_string 16 = .ok (.lconst 1, 1) := by decide +kernel
theorem dX8_string_17 : decode cX8_string 17 = .ok (.ldc2_w 106, 3) := by decide +kernel
theorem dX8_string_20 : decode cX8_string 20 = .ok (.invokestatic 83, 3) := by decide +kernel
theorem dX8_string_23 : decode cX8_string 23 = .ok (.ifCond .ne 6, 3) := by decide +kernel
theorem dX8_string_26 : decode cX8_string 26 = .ok (.bipush (-2), 2) := by decide +kernel
theorem dX8_string_28 : decode cX8_string 28 = .ok (.ireturn, 1) := by decide +kernel
theorem dX8_string_29 : decode cX8_string 29 = .ok (.aload_n 0, 1) := by decide +kernel
theorem dX8_string_30 : decode cX8_string 30 = .ok (.getfield 7, 3) := by decide +kernel
theorem dX8_string_33 : decode cX8_string 33 = .ok (.iload_n 1, 1) := by decide +kernel
theorem dX8_string_34 : decode cX8_string 34 = .ok (.iaload, 1) := by decide +kernel
theorem dX8_string_35 : decode cX8_string 35 = .ok (.aload_n 0, 1) := by decide +kernel
theorem dX8_string_36 : decode cX8_string 36 = .ok (.getfield 7, 3) := by decide +kernel
theorem dX8_string_39 : decode cX8_string 39 = .ok (.iload_n 1, 1) := by decide +kernel
theorem dX8_string_40 : decode cX8_string 40 = .ok (.iconst 1, 1) := by decide +kernel
theorem dX8_string_41 : decode cX8_string 41 = .ok (.iadd, 1) := by decide +kernel
theorem dX8_string_42 : decode cX8_string 42 = .ok (.iaload, 1) := by decide +kernel
theorem dX8_string_43 : decode cX8_string 43 = .ok (.invokestatic 87, 3) := by decide +kernel
theorem dX8_string_46 : decode cX8_string 46 = .ok (.iload_n 2, 1) := by decide +kernel
theorem dX8_string_47 : decode cX8_string 47 = .ok (.if_icmp .le 6, 3) := by decide +kernel
theorem dX8_string_50 : decode cX8_string 50 = .ok (.bipush (-3), 2) := by decide +kernel
theorem dX8_string_52 : decode cX8_string 52 = .ok (.ireturn, 1) := by decide +kernel
theorem dX8_string_53 : decode cX8_string 53 = .ok (.aload_n 0, 1) := by decide +kernel
theorem dX8_string_54 : decode cX8_string 54 = .ok (.getfield 16, 3) := by decide +kernel
theorem dX8_string_57 : decode cX8_string 57 = .ok (.iload_n 1, 1) := by decide +kernel
theorem dX8_string_58 : decode cX8_string 58 = .ok (.iaload, 1) := by decide +kernel
theorem dX8_string_59 : decode cX8_string 59 = .ok (.istore_n 3, 1) := by decide +kernel
theorem dX8_string_60 : decode cX8_string 60 = .ok (.aload_n 0, 1) := by decide +kernel
theorem dX8_string_61 : decode cX8_string 61 = .ok (.getfield 16, 3) := by decide +kernel
theorem dX8_string_64 : decode cX8_string 64 = .ok (.iload_n 1, 1) := by decide +kernel
theorem dX8_string_65 : decode cX8_string 65 = .ok (.iload_n 2, 1) := by decide +kernel
theorem dX8_string_66 : decode cX8_string 66 = .ok (.iastore, 1) := by decide +kernel
theorem dX8_string_67 : decode cX8_string 67 = .ok (.iload_n 3, 1) := by decide +kernel
theorem dX8_string_68 : decode cX8_string 68 = .ok (.ireturn, 1) := by decide +kernel
set_option maxRecDepth 20000 in
theorem ggX8_ball_X8_in : GoodIn wsX8_ball wsX8_in := goodIn_r _ [6] (by decide +kernel) (by decide +kernel)
set_option maxRecDepth 20000 in
theorem gX8_ball_X8_in : GoodIn wsX8_ball (va_wsS RX8 83 yX8_in wsX8_in) := goodIn_app (goodIn_of _ (by decide +kernel)) ggX8_ball_X8_in
theorem dX8_ball_0 : decode cX8_ball 0 = .ok (.iload_n 1, 1) := by decide +kernel
theorem dX8_ball_1 : decode cX8_ball 1 = .ok (.i2l, 1) := by decide +kernel
theorem dX8_ball_2 : decode cX8_ball 2 = .ok (.lconst 0, 1) := by decide +kernel
theorem dX8_ball_3 : decode cX8_ball 3 = .ok (.ldc2_w 95, 3) := by decide +kernel
theorem dX8_ball_6 : decode cX8_ball 6 = .ok (.invokestatic 83, 3) := by decide +kernel
theorem dX8_ball_9 : decode cX8_ball 9 = .ok (.ifCond .ne 6, 3) := by decide +kernel
theorem dX8_ball_12 : decode cX8_ball 12 = .ok (.bipush (-2), 2) := by decide +kernel
theorem dX8_ball_14 : decode cX8_ball 14 = .ok (.ireturn, 1) := by decide +kernel
theorem dX8_ball_15 : decode cX8_ball 15 = .ok (.aload_n 0, 1) := by decide +kernel
theorem dX8_ball_16 : decode cX8_ball 16 = .ok (.getfield 77, 3) := by decide +kernel
theorem dX8_ball_19 : decode cX8_ball 19 = .ok (.istore_n 2, 1) := by decide +kernel
theorem dX8_ball_20 : decode cX8_ball 20 = .ok (.aload_n 0, 1) := by decide +kernel
theorem dX8_ball_21 : decode cX8_ball 21 = .ok (.iload_n 1, 1) := by decide +kernel
theorem dX8_ball_22 : decode cX8_ball 22 = .ok (.putfield 77, 3) := by decide +kernel
theorem dX8_ball_25 : decode cX8_ball 25 = .ok (.iload_n 2, 1) := by decide +kernel
theorem dX8_ball_26 : decode cX8_ball 26 = .ok (.ireturn, 1) := by decide +kernel
set_option maxRecDepth 20000 in
theorem ggX8_say_X8_in : GoodIn wsX8_say wsX8_in := goodIn_r _ [8] (by decide +kernel) (by decide +kernel)
set_option maxRecDepth 20000 in
theorem gX8_say_X8_in : GoodIn wsX8_say (va_wsS RX8 83 yX8_in wsX8_in) := goodIn_app (goodIn_of _ (by decide +kernel)) ggX8_say_X8_in
theorem dX8_say_0 : decode cX8_say 0 = .ok (.iload_n 1, 1) := by decide +kernel
theorem dX8_say_1 : decode cX8_say 1 = .ok (.i2l, 1) := by decide +kernel
theorem dX8_say_2 : decode cX8_say 2 = .ok (.ldc2_w 108, 3) := by decide +kernel
theorem dX8_say_5 : decode cX8_say 5 = .ok (.ldc2_w 110, 3) := by decide +kernel
theorem dX8_say_8 : decode cX8_say 8 = .ok (.invokestatic 83, 3) := by decide +kernel
theorem dX8_say_11 : decode cX8_say 11 = .ok (.ifCond .ne 6, 3) := by decide +kernel
theorem dX8_say_14 : decode cX8_say 14 = .ok (.bipush (-2), 2) := by decide +kernel
theorem dX8_say_16 : decode cX8_say 16 = .ok (.ireturn, 1) := by decide +kernel
theorem dX8_say_17 : decode cX8_say 17 = .ok (.aload_n 0, 1) := by decide +kernel
theorem dX8_say_18 : decode cX8_say 18 = .ok (.getfield 112, 3) := by decide +kernel
theorem dX8_say_21 : decode cX8_say 21 = .ok (.bipush 60, 2) := by decide +kernel
theorem dX8_say_23 : decode cX8_say 23 = .ok (.if_icmp .ne 6, 3) := by decide +kernel
theorem dX8_say_26 : decode cX8_say 26 = .ok (.bipush (-4), 2) := by decide +kernel
theorem dX8_say_28 : decode cX8_say 28 = .ok (.ireturn, 1) := by decide +kernel
theorem dX8_say_29 : decode cX8_say 29 = .ok (.aload_n 0, 1) := by decide +kernel
theorem dX8_say_30 : decode cX8_say 30 = .ok (.getfield 25, 3) := by decide +kernel
theorem dX8_say_33 : decode cX8_say 33 = .ok (.aload_n 0, 1) := by decide +kernel
theorem dX8_say_34 : decode cX8_say 34 = .ok (.getfield 112, 3) := by decide +kernel
theorem dX8_say_37 : decode cX8_say 37 = .ok (.iload_n 1, 1) := by decide +kernel
theorem dX8_say_38 : decode cX8_say 38 = .ok (.iastore, 1) := by decide +kernel
theorem dX8_say_39 : decode cX8_say 39 = .ok (.aload_n 0, 1) := by decide +kernel
theorem dX8_say_40 : decode cX8_say 40 = .ok (.dup, 1) := by decide +kernel
theorem dX8_say_41 : decode cX8_say 41 = .ok (.getfield 112, 3) := by decide +kernel
theorem dX8_say_44 : decode cX8_say 44 = .ok (.iconst 1, 1) := by decide +kernel
theorem dX8_say_45 : decode cX8_say 45 = .ok (.iadd, 1) := by decide +kernel
theorem dX8_say_46 : decode cX8_say 46 = .ok (.putfield 112, 3) := by decide +kernel
theorem dX8_say_49 : decode cX8_say 49 = .ok (.aload_n 0, 1) := by decide +kernel
theorem dX8_say_50 : decode cX8_say 50 = .ok (.getfield 112, 3) := by decide +kernel
theorem dX8_say_53 : decode cX8_say 53 = .ok (.ireturn, 1) := by decide +kernel
theorem dX8_wipe_0 : decode cX8_wipe 0 = .ok (.aload_n 0, 1) := by decide +kernel
theorem dX8_wipe_1 : decode cX8_wipe 1 = .ok (.getfield 112, 3) := by decide +kernel
theorem dX8_wipe_4 : decode cX8_wipe 4 = .ok (.istore_n 1, 1) := by decide +kernel
theorem dX8_wipe_5 : decode cX8_wipe 5 = .ok (.aload_n 0, 1) := by decide +kernel
theorem dX8_wipe_6 : decode cX8_wipe 6 = .ok (.iconst 0, 1) := by decide +kernel
theorem dX8_wipe_7 : decode cX8_wipe 7 = .ok (.putfield 112, 3) := by decide +kernel
theorem dX8_wipe_10 : decode cX8_wipe 10 = .ok (.iload_n 1, 1) := by decide +kernel
theorem dX8_wipe_11 : decode cX8_wipe 11 = .ok (.ireturn, 1) := by decide +kernel
theorem dX8_close_0 : decode cX8_close 0 = .ok (.aload_n 0, 1) := by decide +kernel
theorem dX8_close_1 : decode cX8_close 1 = .ok (.getfield 28, 3) := by decide +kernel
theorem dX8_close_4 : decode cX8_close 4 = .ok (.aload_n 0, 1) := by decide +kernel
theorem dX8_close_5 : decode cX8_close 5 = .ok (.getfield 115, 3) := by decide +kernel
theorem dX8_close_8 : decode cX8_close 8 = .ok (.iload_n 1, 1) := by decide +kernel
theorem dX8_close_9 : decode cX8_close 9 = .ok (.iastore, 1) := by decide +kernel
theorem dX8_close_10 : decode cX8_close 10 = .ok (.aload_n 0, 1) := by decide +kernel
theorem dX8_close_11 : decode cX8_close 11 = .ok (.dup, 1) := by decide +kernel
theorem dX8_close_12 : decode cX8_close 12 = .ok (.getfield 115, 3) := by decide +kernel
theorem dX8_close_15 : decode cX8_close 15 = .ok (.iconst 1, 1) := by decide +kernel
theorem dX8_close_16 : decode cX8_close 16 = .ok (.iadd, 1) := by decide +kernel
theorem dX8_close_17 : decode cX8_close 17 = .ok (.putfield 115, 3) := by decide +kernel
theorem dX8_close_20 : decode cX8_close 20 = .ok (.iconst 0, 1) := by decide +kernel
theorem dX8_close_21 : decode cX8_close 21 = .ok (.ireturn, 1) := by decide +kernel
set_option maxRecDepth 20000 in
theorem ggX8_begin_X8_in : GoodIn wsX8_begin wsX8_in := goodIn_r _ [9] (by decide +kernel) (by decide +kernel)
set_option maxRecDepth 20000 in
theorem gX8_begin_X8_in : GoodIn wsX8_begin (va_wsS RX8 83 yX8_in wsX8_in) := goodIn_app (goodIn_of _ (by decide +kernel)) ggX8_begin_X8_in
set_option maxRecDepth 20000 in
theorem ggX8_begin_X8_close : GoodIn wsX8_begin wsX8_close := goodIn_r _ [13, 14, 4, 15, 16, 17, 18, 19, 20, 21, 22, 23, 24, 25, 26, 27, 28, 29, 30, 31, 32, 33, 34, 35, 36, 37, 38, 39, 40, 41, 42, 43, 44, 45, 46, 47, 48, 49, 50, 51] (by decide +kernel) (by decide +kernel)
set_option maxRecDepth 20000 in
theorem gX8_begin_X8_close : GoodIn wsX8_begin (wsV RX8 122 RX8 yX8_close wsX8_close) := goodIn_app (goodIn_of _ (by decide +kernel)) ggX8_begin_X8_close
theorem dX8_begin_0 : decode cX8_begin 0 = .ok (.iload_n 1, 1) := by decide +kernel
theorem dX8_begin_1 : decode cX8_begin 1 = .ok (.i2l, 1) := by decide +kernel
theorem dX8_begin_2 : decode cX8_begin 2 = .ok (.ldc2_w 118, 3) := by decide +kernel
theorem dX8_begin_5 : decode cX8_begin 5 = .ok (.ldc2_w 120, 3) := by decide +kernel
theorem dX8_begin_8 : decode cX8_begin 8 = .ok (.invokestatic 83, 3) := by decide +kernel
theorem dX8_begin_11 : decode cX8_begin 11 = .ok (.istore_n 2, 1) := by decide +kernel
theorem dX8_begin_12 : decode cX8_begin 12 = .ok (.aload_n 0, 1) := by decide +kernel
theorem dX8_begin_13 : decode cX8_begin 13 = .ok (.getfield 31, 3) := by decide +kernel
theorem dX8_begin_16 : decode cX8_begin 16 = .ok (.aload_n 0, 1) := by decide +kernel
theorem dX8_begin_17 : decode cX8_begin 17 = .ok (.getfield 115, 3) := by decide +kernel
theorem dX8_begin_20 : decode cX8_begin 20 = .ok (.iload_n 2, 1) := by decide +kernel
theorem dX8_begin_21 : decode cX8_begin 21 = .ok (.ifCond .eq 10, 3) := by decide +kernel
theorem dX8_begin_24 : decode cX8_begin 24 = .ok (.iload_n 1, 1) := by decide +kernel
theorem dX8_begin_25 : decode cX8_begin 25 = .ok (.bipush 65, 2) := by decide +kernel
theorem dX8_begin_27 : decode cX8_begin 27 = .ok (.isub, 1) := by decide +kernel
theorem dX8_begin_28 : decode cX8_begin 28 = .ok (.goto 4, 3) := by decide +kernel
theorem dX8_begin_31 : decode cX8_begin 31 = .ok (.iconst 0, 1) := by decide +kernel
theorem dX8_begin_32 : decode cX8_begin 32 = .ok (.iastore, 1) := by decide +kernel
theorem dX8_begin_33 : decode cX8_begin 33 = .ok (.aload_n 0, 1) := by decide +kernel
theorem dX8_begin_34 : decode cX8_begin 34 = .ok (.getfield 34, 3) := by decide +kernel
theorem dX8_begin_37 : decode cX8_begin 37 = .ok (.aload_n 0, 1) := by decide +kernel
theorem dX8_begin_38 : decode cX8_begin 38 = .ok (.getfield 115, 3) := by decide +kernel
theorem dX8_begin_41 : decode cX8_begin 41 = .ok (.iconst 0, 1) := by decide +kernel
theorem dX8_begin_42 : decode cX8_begin 42 = .ok (.iastore, 1) := by decide +kernel
theorem dX8_begin_43 : decode cX8_begin 43 = .ok (.iload_n 2, 1) := by decide +kernel
theorem dX8_begin_44 : decode cX8_begin 44 = .ok (.ifCond .eq 7, 3) := by decide +kernel
theorem dX8_begin_47 : decode cX8_begin 47 = .ok (.iconst 1, 1) := by decide +kernel
theorem dX8_begin_48 : decode cX8_begin 48 = .ok (.goto 20, 3) := by decide +kernel
theorem dX8_begin_51 : decode cX8_begin 51 = .ok (.iload_n 1, 1) := by decide +kernel
theorem dX8_begin_52 : decode cX8_begin 52 = .ok (.bipush 46, 2) := by decide +kernel
theorem dX8_begin_54 : decode cX8_begin 54 = .ok (.if_icmp .ne 12, 3) := by decide +kernel
theorem dX8_begin_57 : decode cX8_begin 57 = .ok (.aload_n 0, 1) := by decide +kernel
theorem dX8_begin_58 : decode cX8_begin 58 = .ok (.bipush 6, 2) := by decide +kernel
theorem dX8_begin_60 : decode cX8_begin 60 = .ok (.invokevirtual 122, 3) := by decide +kernel
theorem dX8_begin_63 : decode cX8_begin 63 = .ok (.goto 5, 3) := by decide +kernel
theorem dX8_begin_66 : decode cX8_begin 66 = .ok (.bipush (-6), 2) := by decide +kernel
theorem dX8_begin_68 : decode cX8_begin 68 = .ok (.ireturn, 1) := by decide +kernel
set_option maxRecDepth 20000 in
theorem ggX8_deed_X8_close : GoodIn wsX8_deed wsX8_close := goodIn_r _ [5, 6, 7, 8, 9, 10, 11, 12, 13, 14, 15, 16, 17, 18, 19, 20, 21, 22, 23, 24, 25, 26, 27, 28, 29, 30, 31, 32, 33, 34, 35, 36, 37, 38, 39, 40, 41, 42, 43, 44] (by decide +kernel) (by decide +kernel)
set_option maxRecDepth 20000 in
theorem gX8_deed_X8_close : GoodIn wsX8_deed (wsV RX8 122 RX8 yX8_close wsX8_close) := goodIn_app (goodIn_of _ (by decide +kernel)) ggX8_deed_X8_close
theorem dX8_deed_0 : decode cX8_deed 0 = .ok (.iload_n 1, 1) := by decide +kernel
theorem dX8_deed_1 : decode cX8_deed 1 = .ok (.lookupswitch 83 #[(33, 63), (35, 65), (43, 71), (45, 77), (60, 61), (62, 59)], 59) := by decide +kernel
theorem dX8_deed_60 : decode cX8_deed 60 = .ok (.iconst 2, 1) := by decide +kernel
theorem dX8_deed_61 : decode cX8_deed 61 = .ok (.ireturn, 1) := by decide +kernel
theorem dX8_deed_62 : decode cX8_deed 62 = .ok (.iconst 3, 1) := by decide +kernel
theorem dX8_deed_63 : decode cX8_deed 63 = .ok (.ireturn, 1) := by decide +kernel
theorem dX8_deed_64 : decode cX8_deed 64 = .ok (.iconst 4, 1) := by decide +kernel
theorem dX8_deed_65 : decode cX8_deed 65 = .ok (.ireturn, 1) := by decide +kernel
theorem dX8_deed_66 : decode cX8_deed 66 = .ok (.aload_n 0, 1) := by decide +kernel
theorem dX8_deed_67 : decode cX8_deed 67 = .ok (.iconst 2, 1) := by decide +kernel
theorem dX8_deed_68 : decode cX8_deed 68 = .ok (.invokevirtual 122, 3) := by decide +kernel
theorem dX8_deed_71 : decode cX8_deed 71 = .ok (.ireturn, 1) := by decide +kernel
theorem dX8_deed_72 : decode cX8_deed 72 = .ok (.aload_n 0, 1) := by decide +kernel
theorem dX8_deed_73 : decode cX8_deed 73 = .ok (.iconst 4, 1) := by decide +kernel
theorem dX8_deed_74 : decode cX8_deed 74 = .ok (.invokevirtual 122, 3) := by decide +kernel
theorem dX8_deed_77 : decode cX8_deed 77 = .ok (.ireturn, 1) := by decide +kernel
theorem dX8_deed_78 : decode cX8_deed 78 = .ok (.aload_n 0, 1) := by decide +kernel
theorem dX8_deed_79 : decode cX8_deed 79 = .ok (.iconst 5, 1) := by decide +kernel
theorem dX8_deed_80 : decode cX8_deed 80 = .ok (.invokevirtual 122, 3) := by decide +kernel
theorem dX8_deed_83 : decode cX8_deed 83 = .ok (.ireturn, 1) := by decide +kernel
theorem dX8_deed_84 : decode cX8_deed 84 = .ok (.bipush (-6), 2) := by decide +kernel
theorem dX8_deed_86 : decode cX8_deed 86 = .ok (.ireturn, 1) := by decide +kernel
set_option maxRecDepth 20000 in
theorem ggX8_digit_X8_in : GoodIn wsX8_digit wsX8_in := goodIn_r _ [8] (by decide +kernel) (by decide +kernel)
set_option maxRecDepth 20000 in
theorem gX8_digit_X8_in : GoodIn wsX8_digit (va_wsS RX8 83 yX8_in wsX8_in) := goodIn_app (goodIn_of _ (by decide +kernel)) ggX8_digit_X8_in
set_option maxRecDepth 20000 in
theorem ggX8_digit_X8_close : GoodIn wsX8_digit wsX8_close := goodIn_r _ [12, 13, 2, 14, 15, 16, 17, 18, 19, 20, 21, 22, 23, 24, 25, 26, 27, 28, 29, 30, 31, 32, 33, 34, 35, 36, 37, 38, 39, 40, 41, 42, 43, 44, 45, 46, 47, 48, 49, 50] (by decide +kernel) (by decide +kernel)
set_option maxRecDepth 20000 in
theorem gX8_digit_X8_close : GoodIn wsX8_digit (wsV RX8 122 RX8 yX8_close wsX8_close) := goodIn_app (goodIn_of _ (by decide +kernel)) ggX8_digit_X8_close
theorem dX8_digit_0 : decode cX8_digit 0 = .ok (.aload_n 0, 1) := by decide +kernel
theorem dX8_digit_1 : decode cX8_digit 1 = .ok (.getfield 34, 3) := by decide +kernel
theorem dX8_digit_4 : decode cX8_digit 4 = .ok (.aload_n 0, 1) := by decide +kernel
theorem dX8_digit_5 : decode cX8_digit 5 = .ok (.getfield 115, 3) := by decide +kernel
theorem dX8_digit_8 : decode cX8_digit 8 = .ok (.iload_n 2, 1) := by decide +kernel
theorem dX8_digit_9 : decode cX8_digit 9 = .ok (.bipush 48, 2) := by decide +kernel
theorem dX8_digit_11 : decode cX8_digit 11 = .ok (.isub, 1) := by decide +kernel
theorem dX8_digit_12 : decode cX8_digit 12 = .ok (.iastore, 1) := by decide +kernel
theorem dX8_digit_13 : decode cX8_digit 13 = .ok (.iload_n 2, 1) := by decide +kernel
theorem dX8_digit_14 : decode cX8_digit 14 = .ok (.i2l, 1) := by decide +kernel
theorem dX8_digit_15 : decode cX8_digit 15 = .ok (.ldc2_w 126, 3) := by decide +kernel
theorem dX8_digit_18 : decode cX8_digit 18 = .ok (.ldc2_w 128, 3) := by decide +kernel
theorem dX8_digit_21 : decode cX8_digit 21 = .ok (.invokestatic 83, 3) := by decide +kernel
theorem dX8_digit_24 : decode cX8_digit 24 = .ok (.ifCond .eq 29, 3) := by decide +kernel
theorem dX8_digit_27 : decode cX8_digit 27 = .ok (.aload_n 0, 1) := by decide +kernel
theorem dX8_digit_28 : decode cX8_digit 28 = .ok (.iload_n 1, 1) := by decide +kernel
theorem dX8_digit_29 : decode cX8_digit 29 = .ok (.iconst 2, 1) := by decide +kernel
theorem dX8_digit_30 : decode cX8_digit 30 = .ok (.if_icmp .ne 7, 3) := by decide +kernel
theorem dX8_digit_33 : decode cX8_digit 33 = .ok (.iconst 0, 1) := by decide +kernel
theorem dX8_digit_34 : decode cX8_digit 34 = .ok (.goto 13, 3) := by decide +kernel
theorem dX8_digit_37 : decode cX8_digit 37 = .ok (.iload_n 1, 1) := by decide +kernel
theorem dX8_digit_38 : decode cX8_digit 38 = .ok (.iconst 3, 1) := by decide +kernel
theorem dX8_digit_39 : decode cX8_digit 39 = .ok (.if_icmp .ne 7, 3) := by decide +kernel
theorem dX8_digit_42 : decode cX8_digit 42 = .ok (.iconst 1, 1) := by decide +kernel
theorem dX8_digit_43 : decode cX8_digit 43 = .ok (.goto 4, 3) := by decide +kernel
theorem dX8_digit_46 : decode cX8_digit 46 = .ok (.iconst 3, 1) := by decide +kernel
theorem dX8_digit_47 : decode cX8_digit 47 = .ok (.invokevirtual 122, 3) := by decide +kernel
theorem dX8_digit_50 : decode cX8_digit 50 = .ok (.goto 5, 3) := by decide +kernel
theorem dX8_digit_53 : decode cX8_digit 53 = .ok (.bipush (-6), 2) := by decide +kernel
theorem dX8_digit_55 : decode cX8_digit 55 = .ok (.ireturn, 1) := by decide +kernel
set_option maxRecDepth 20000 in
theorem ggX8_readOn_X8_begin : GoodIn wsX8_readOn wsX8_begin := goodIn_r _ [5, 6, 7, 8, 9, 10, 11, 12, 4, 13, 14, 15, 16, 17, 18, 29, 30, 31, 32, 33, 34, 35, 36, 37, 38, 39, 40, 41, 42, 43, 44, 45, 46, 47, 48, 49, 50, 51, 52, 53, 54, 55, 56, 57, 58, 59, 60, 61, 62, 63, 64, 65] (by decide +kernel) (by decide +kernel)
set_option maxRecDepth 20000 in
theorem gX8_readOn_X8_begin : GoodIn wsX8_readOn (wsV RX8 130 RX8 yX8_begin wsX8_begin) := goodIn_app (goodIn_of _ (by decide +kernel)) ggX8_readOn_X8_begin
set_option maxRecDepth 20000 in
theorem ggX8_readOn_X8_deed : GoodIn wsX8_readOn wsX8_deed := goodIn_r _ [22, 14, 15, 16, 4, 17, 18, 9, 29, 30, 31, 32, 33, 34, 35, 36, 37, 38, 39, 40, 41, 42, 43, 44, 45, 46, 47, 48, 49, 50, 51, 52, 53, 54, 55, 56, 57, 58, 59, 60, 61, 62, 63, 64, 65] (by decide +kernel) (by decide +kernel)
set_option maxRecDepth 20000 in
theorem gX8_readOn_X8_deed : GoodIn wsX8_readOn (wsV RX8 133 RX8 yX8_deed wsX8_deed) := goodIn_app (goodIn_of _ (by decide +kernel)) ggX8_readOn_X8_deed
set_option maxRecDepth 20000 in
theorem ggX8_readOn_X8_digit : GoodIn wsX8_readOn wsX8_digit := goodIn_r _ [26, 10, 9, 27, 28, 11, 12, 4, 13, 14, 15, 16, 17, 18, 29, 30, 31, 32, 33, 34, 35, 36, 37, 38, 39, 40, 41, 42, 43, 44, 45, 46, 47, 48, 49, 50, 51, 52, 53, 54, 55, 56, 57, 58, 59, 60, 61, 62, 63, 64, 65] (by decide +kernel) (by decide +kernel)
set_option maxRecDepth 20000 in
theorem gX8_readOn_X8_digit : GoodIn wsX8_readOn (wsV RX8 136 RX8 yX8_digit wsX8_digit) := goodIn_app (goodIn_of _ (by decide +kernel)) ggX8_readOn_X8_digit
theorem dX8_readOn_0 : decode cX8_readOn 0 = .ok (.iload_n 1, 1) := by decide +kernel
theorem dX8_readOn_1 : decode cX8_readOn 1 = .ok (.ifCond .ne 11, 3) := by decide +kernel
theorem dX8_readOn_4 : decode cX8_readOn 4 = .ok (.aload_n 0, 1) := by decide +kernel
theorem dX8_readOn_5 : decode cX8_readOn 5 = .ok (.iload_n 2, 1) := by decide +kernel
theorem dX8_readOn_6 : decode cX8_readOn 6 = .ok (.invokevirtual 130, 3) := by decide +kernel
theorem dX8_readOn_9 : decode cX8_readOn 9 = .ok (.goto 22, 3) := by decide +kernel
theorem dX8_readOn_12 : decode cX8_readOn 12 = .ok (.iload_n 1, 1) := by decide +kernel
theorem dX8_readOn_13 : decode cX8_readOn 13 = .ok (.iconst 1, 1) := by decide +kernel
theorem dX8_readOn_14 : decode cX8_readOn 14 = .ok (.if_icmp .ne 11, 3) := by decide +kernel
theorem dX8_readOn_17 : decode cX8_readOn 17 = .ok (.aload_n 0, 1) := by decide +kernel
theorem dX8_readOn_18 : decode cX8_readOn 18 = .ok (.iload_n 2, 1) := by decide +kernel
theorem dX8_readOn_19 : decode cX8_readOn 19 = .ok (.invokevirtual 133, 3) := by decide +kernel
theorem dX8_readOn_22 : decode cX8_readOn 22 = .ok (.goto 9, 3) := by decide +kernel
theorem dX8_readOn_25 : decode cX8_readOn 25 = .ok (.aload_n 0, 1) := by decide +kernel
theorem dX8_readOn_26 : decode cX8_readOn 26 = .ok (.iload_n 1, 1) := by decide +kernel
theorem dX8_readOn_27 : decode cX8_readOn 27 = .ok (.iload_n 2, 1) := by decide +kernel
theorem dX8_readOn_28 : decode cX8_readOn 28 = .ok (.invokevirtual 136, 3) := by decide +kernel
theorem dX8_readOn_31 : decode cX8_readOn 31 = .ok (.ireturn, 1) := by decide +kernel
set_option maxRecDepth 20000 in
theorem ggX8_fault_X8_readOn : GoodIn wsX8_fault wsX8_readOn := goodIn_r _ [8, 9, 10, 11, 7, 12, 13, 14, 15, 1, 16, 17, 18, 19, 20, 21, 22, 23, 24, 25, 26, 27, 28, 29, 30, 31, 32, 33, 34, 35, 36, 37, 38, 39, 40, 41, 42, 43, 44, 45, 46, 47, 48, 49, 50, 51, 52, 53, 54, 55, 56, 57, 58, 59, 60, 61, 62, 63, 64, 65, 66, 67, 68, 69, 70, 71] (by decide +kernel) (by decide +kernel)
set_option maxRecDepth 20000 in
theorem gX8_fault_X8_readOn : GoodIn wsX8_fault (wsV RX8 139 RX8 yX8_readOn wsX8_readOn) := goodIn_app (goodIn_of _ (by decide +kernel)) ggX8_fault_X8_readOn
theorem dX8_fault_0 : decode cX8_fault 0 = .ok (.aload_n 0, 1) := by decide +kernel
theorem dX8_fault_1 : decode cX8_fault 1 = .ok (.iconst 0, 1) := by decide +kernel
theorem dX8_fault_2 : decode cX8_fault 2 = .ok (.putfield 115, 3) := by decide +kernel
theorem dX8_fault_5 : decode cX8_fault 5 = .ok (.iconst 0, 1) := by decide +kernel
theorem dX8_fault_6 : decode cX8_fault 6 = .ok (.istore_n 1, 1) := by decide +kernel
theorem dX8_fault_7 : decode cX8_fault 7 = .ok (.iconst 0, 1) := by decide +kernel
theorem dX8_fault_8 : decode cX8_fault 8 = .ok (.istore_n 2, 1) := by decide +kernel
theorem dX8_fault_9 : decode cX8_fault 9 = .ok (.iload_n 2, 1) := by decide +kernel
theorem dX8_fault_10 : decode cX8_fault 10 = .ok (.aload_n 0, 1) := by decide +kernel
theorem dX8_fault_11 : decode cX8_fault 11 = .ok (.getfield 112, 3) := by decide +kernel
theorem dX8_fault_14 : decode cX8_fault 14 = .ok (.if_icmp .ge 27, 3) := by decide +kernel
theorem dX8_fault_17 : decode cX8_fault 17 = .ok (.aload_n 0, 1) := by decide +kernel
theorem dX8_fault_18 : decode cX8_fault 18 = .ok (.iload_n 1, 1) := by decide +kernel
theorem dX8_fault_19 : decode cX8_fault 19 = .ok (.aload_n 0, 1) := by decide +kernel
theorem dX8_fault_20 : decode cX8_fault 20 = .ok (.getfield 25, 3) := by decide +kernel
theorem dX8_fault_23 : decode cX8_fault 23 = .ok (.iload_n 2, 1) := by decide +kernel
theorem dX8_fault_24 : decode cX8_fault 24 = .ok (.iaload, 1) := by decide +kernel
theorem dX8_fault_25 : decode cX8_fault 25 = .ok (.invokevirtual 139, 3) := by decide +kernel
theorem dX8_fault_28 : decode cX8_fault 28 = .ok (.istore_n 1, 1) := by decide +kernel
theorem dX8_fault_29 : decode cX8_fault 29 = .ok (.iload_n 1, 1) := by decide +kernel
theorem dX8_fault_30 : decode cX8_fault 30 = .ok (.ifCond .ge 5, 3) := by decide +kernel
theorem dX8_fault_33 : decode cX8_fault 33 = .ok (.iload_n 2, 1) := by decide +kernel
theorem dX8_fault_34 : decode cX8_fault 34 = .ok (.ireturn, 1) := by decide +kernel
theorem dX8_fault_35 : decode cX8_fault 35 = .ok (.iinc 2 1, 3) := by decide +kernel
theorem dX8_fault_38 : decode cX8_fault 38 = .ok (.goto (-29), 3) := by decide +kernel
theorem dX8_fault_41 : decode cX8_fault 41 = .ok (.iload_n 1, 1) := by decide +kernel
theorem dX8_fault_42 : decode cX8_fault 42 = .ok (.ifCond .ne 8, 3) := by decide +kernel
theorem dX8_fault_45 : decode cX8_fault 45 = .ok (.bipush (-6), 2) := by decide +kernel
theorem dX8_fault_47 : decode cX8_fault 47 = .ok (.goto 7, 3) := by decide +kernel
theorem dX8_fault_50 : decode cX8_fault 50 = .ok (.aload_n 0, 1) := by decide +kernel
theorem dX8_fault_51 : decode cX8_fault 51 = .ok (.getfield 112, 3) := by decide +kernel
theorem dX8_fault_54 : decode cX8_fault 54 = .ok (.ireturn, 1) := by decide +kernel
set_option maxRecDepth 20000 in
theorem ggX8_draws_X8_off : GoodIn wsX8_draws wsX8_off := goodIn_r _ [7] (by decide +kernel) (by decide +kernel)
set_option maxRecDepth 20000 in
theorem gX8_draws_X8_off : GoodIn wsX8_draws (va_wsS RX8 87 yX8_off wsX8_off) := goodIn_app (goodIn_of _ (by decide +kernel)) ggX8_draws_X8_off
theorem dX8_draws_0 : decode cX8_draws 0 = .ok (.aload_n 0, 1) := by decide +kernel
theorem dX8_draws_1 : decode cX8_draws 1 = .ok (.getfield 37, 3) := by decide +kernel
theorem dX8_draws_4 : decode cX8_draws 4 = .ok (.iload_n 1, 1) := by decide +kernel
theorem dX8_draws_5 : decode cX8_draws 5 = .ok (.iaload, 1) := by decide +kernel
theorem dX8_draws_6 : decode cX8_draws 6 = .ok (.aload_n 0, 1) := by decide +kernel
theorem dX8_draws_7 : decode cX8_draws 7 = .ok (.getfield 37, 3) := by decide +kernel
theorem dX8_draws_10 : decode cX8_draws 10 = .ok (.iload_n 2, 1) := by decide +kernel
theorem dX8_draws_11 : decode cX8_draws 11 = .ok (.iaload, 1) := by decide +kernel
theorem dX8_draws_12 : decode cX8_draws 12 = .ok (.invokestatic 87, 3) := by decide +kernel
theorem dX8_draws_15 : decode cX8_draws 15 = .ok (.aload_n 0, 1) := by decide +kernel
theorem dX8_draws_16 : decode cX8_draws 16 = .ok (.getfield 16, 3) := by decide +kernel
theorem dX8_draws_19 : decode cX8_draws 19 = .ok (.iload_n 3, 1) := by decide +kernel
theorem dX8_draws_20 : decode cX8_draws 20 = .ok (.iaload, 1) := by decide +kernel
theorem dX8_draws_21 : decode cX8_draws 21 = .ok (.if_icmp .gt 5, 3) := by decide +kernel
theorem dX8_draws_24 : decode cX8_draws 24 = .ok (.iconst 0, 1) := by decide +kernel
theorem dX8_draws_25 : decode cX8_draws 25 = .ok (.ireturn, 1) := by decide +kernel
theorem dX8_draws_26 : decode cX8_draws 26 = .ok (.aload_n 0, 1) := by decide +kernel
theorem dX8_draws_27 : decode cX8_draws 27 = .ok (.getfield 37, 3) := by decide +kernel
theorem dX8_draws_30 : decode cX8_draws 30 = .ok (.iload_n 1, 1) := by decide +kernel
theorem dX8_draws_31 : decode cX8_draws 31 = .ok (.aload_n 0, 1) := by decide +kernel
theorem dX8_draws_32 : decode cX8_draws 32 = .ok (.getfield 37, 3) := by decide +kernel
theorem dX8_draws_35 : decode cX8_draws 35 = .ok (.iload_n 1, 1) := by decide +kernel
theorem dX8_draws_36 : decode cX8_draws 36 = .ok (.iaload, 1) := by decide +kernel
theorem dX8_draws_37 : decode cX8_draws 37 = .ok (.aload_n 0, 1) := by decide +kernel
theorem dX8_draws_38 : decode cX8_draws 38 = .ok (.getfield 37, 3) := by decide +kernel
theorem dX8_draws_41 : decode cX8_draws 41 = .ok (.iload_n 2, 1) := by decide +kernel
theorem dX8_draws_42 : decode cX8_draws 42 = .ok (.iaload, 1) := by decide +kernel
theorem dX8_draws_43 : decode cX8_draws 43 = .ok (.if_icmp .le 19, 3) := by decide +kernel
theorem dX8_draws_46 : decode cX8_draws 46 = .ok (.aload_n 0, 1) := by decide +kernel
theorem dX8_draws_47 : decode cX8_draws 47 = .ok (.getfield 37, 3) := by decide +kernel
theorem dX8_draws_50 : decode cX8_draws 50 = .ok (.iload_n 2, 1) := by decide +kernel
theorem dX8_draws_51 : decode cX8_draws 51 = .ok (.iaload, 1) := by decide +kernel
theorem dX8_draws_52 : decode cX8_draws 52 = .ok (.aload_n 0, 1) := by decide +kernel
theorem dX8_draws_53 : decode cX8_draws 53 = .ok (.getfield 16, 3) := by decide +kernel
theorem dX8_draws_56 : decode cX8_draws 56 = .ok (.iload_n 3, 1) := by decide +kernel
theorem dX8_draws_57 : decode cX8_draws 57 = .ok (.iaload, 1) := by decide +kernel
theorem dX8_draws_58 : decode cX8_draws 58 = .ok (.iadd, 1) := by decide +kernel
theorem dX8_draws_59 : decode cX8_draws 59 = .ok (.goto 16, 3) := by decide +kernel
theorem dX8_draws_62 : decode cX8_draws 62 = .ok (.aload_n 0, 1) := by decide +kernel
theorem dX8_draws_63 : decode cX8_draws 63 = .ok (.getfield 37, 3) := by decide +kernel
theorem dX8_draws_66 : decode cX8_draws 66 = .ok (.iload_n 2, 1) := by decide +kernel
theorem dX8_draws_67 : decode cX8_draws 67 = .ok (.iaload, 1) := by decide +kernel
theorem dX8_draws_68 : decode cX8_draws 68 = .ok (.aload_n 0, 1) := by decide +kernel
theorem dX8_draws_69 : decode cX8_draws 69 = .ok (.getfield 16, 3) := by decide +kernel
theorem dX8_draws_72 : decode cX8_draws 72 = .ok (.iload_n 3, 1) := by decide +kernel
theorem dX8_draws_73 : decode cX8_draws 73 = .ok (.iaload, 1) := by decide +kernel
theorem dX8_draws_74 : decode cX8_draws 74 = .ok (.isub, 1) := by decide +kernel
theorem dX8_draws_75 : decode cX8_draws 75 = .ok (.iastore, 1) := by decide +kernel
theorem dX8_draws_76 : decode cX8_draws 76 = .ok (.aload_n 0, 1) := by decide +kernel
theorem dX8_draws_77 : decode cX8_draws 77 = .ok (.dup, 1) := by decide +kernel
theorem dX8_draws_78 : decode cX8_draws 78 = .ok (.getfield 142, 3) := by decide +kernel
theorem dX8_draws_81 : decode cX8_draws 81 = .ok (.iconst 1, 1) := by decide +kernel
theorem dX8_draws_82 : decode cX8_draws 82 = .ok (.iload_n 1, 1) := by decide +kernel
theorem dX8_draws_83 : decode cX8_draws 83 = .ok (.ishl, 1) := by decide +kernel
theorem dX8_draws_84 : decode cX8_draws 84 = .ok (.ior, 1) := by decide +kernel
theorem dX8_draws_85 : decode cX8_draws 85 = .ok (.putfield 142, 3) := by decide +kernel
theorem dX8_draws_88 : decode cX8_draws 88 = .ok (.iconst 1, 1) := by decide +kernel
theorem dX8_draws_89 : decode cX8_draws 89 = .ok (.ireturn, 1) := by decide +kernel
set_option maxRecDepth 20000 in
theorem ggX8_findThen_X8_draws : GoodIn wsX8_findThen wsX8_draws := goodIn_r _ [8, 1, 9, 3, 10, 11, 7, 12, 13, 14, 15, 16, 17, 18, 19, 20, 21, 22, 23, 24, 25, 26, 27, 28, 29, 30, 31, 32, 33, 34, 35, 36, 37, 38, 39, 40, 41, 42, 43, 44, 45, 46, 47, 48, 49] (by decide +kernel) (by decide +kernel)
set_option maxRecDepth 20000 in
theorem gX8_findThen_X8_draws : GoodIn wsX8_findThen (wsV RX8 145 RX8 yX8_draws wsX8_draws) := goodIn_app (goodIn_of _ (by decide +kernel)) ggX8_findThen_X8_draws
theorem dX8_findThen_0 : decode cX8_findThen 0 = .ok (.iconst 0, 1) := by decide +kernel
theorem dX8_findThen_1 : decode cX8_findThen 1 = .ok (.istore_n 3, 1) := by decide +kernel
theorem dX8_findThen_2 : decode cX8_findThen 2 = .ok (.iload_n 3, 1) := by decide +kernel
theorem dX8_findThen_3 : decode cX8_findThen 3 = .ok (.bipush 10, 2) := by decide +kernel
theorem dX8_findThen_5 : decode cX8_findThen 5 = .ok (.if_icmp .ge 21, 3) := by decide +kernel
theorem dX8_findThen_8 : decode cX8_findThen 8 = .ok (.aload_n 0, 1) := by decide +kernel
theorem dX8_findThen_9 : decode cX8_findThen 9 = .ok (.getfield 37, 3) := by decide +kernel
theorem dX8_findThen_12 : decode cX8_findThen 12 = .ok (.iload_n 3, 1) := by decide +kernel
theorem dX8_findThen_13 : decode cX8_findThen 13 = .ok (.aload_n 0, 1) := by decide +kernel
theorem dX8_findThen_14 : decode cX8_findThen 14 = .ok (.getfield 7, 3) := by decide +kernel
theorem dX8_findThen_17 : decode cX8_findThen 17 = .ok (.iload_n 3, 1) := by decide +kernel
theorem dX8_findThen_18 : decode cX8_findThen 18 = .ok (.iaload, 1) := by decide +kernel
theorem dX8_findThen_19 : decode cX8_findThen 19 = .ok (.iastore, 1) := by decide +kernel
theorem dX8_findThen_20 : decode cX8_findThen 20 = .ok (.iinc 3 1, 3) := by decide +kernel
theorem dX8_findThen_23 : decode cX8_findThen 23 = .ok (.goto (-21), 3) := by decide +kernel
theorem dX8_findThen_26 : decode cX8_findThen 26 = .ok (.aload_n 0, 1) := by decide +kernel
theorem dX8_findThen_27 : decode cX8_findThen 27 = .ok (.iconst 0, 1) := by decide +kernel
theorem dX8_findThen_28 : decode cX8_findThen 28 = .ok (.putfield 142, 3) := by decide +kernel
theorem dX8_findThen_31 : decode cX8_findThen 31 = .ok (.aload_n 0, 1) := by decide +kernel
theorem dX8_findThen_32 : decode cX8_findThen 32 = .ok (.getfield 37, 3) := by decide +kernel
theorem dX8_findThen_35 : decode cX8_findThen 35 = .ok (.iload_n 1, 1) := by decide +kernel
theorem dX8_findThen_36 : decode cX8_findThen 36 = .ok (.dup2, 1) := by decide +kernel
theorem dX8_findThen_37 : decode cX8_findThen 37 = .ok (.iaload, 1) := by decide +kernel
theorem dX8_findThen_38 : decode cX8_findThen 38 = .ok (.iload_n 2, 1) := by decide +kernel
theorem dX8_findThen_39 : decode cX8_findThen 39 = .ok (.iadd, 1) := by decide +kernel
theorem dX8_findThen_40 : decode cX8_findThen 40 = .ok (.iastore, 1) := by decide +kernel
theorem dX8_findThen_41 : decode cX8_findThen 41 = .ok (.iconst 1, 1) := by decide +kernel
theorem dX8_findThen_42 : decode cX8_findThen 42 = .ok (.istore_n 3, 1) := by decide +kernel
theorem dX8_findThen_43 : decode cX8_findThen 43 = .ok (.iload_n 1, 1) := by decide +kernel
theorem dX8_findThen_44 : decode cX8_findThen 44 = .ok (.iconst 1, 1) := by decide +kernel
theorem dX8_findThen_45 : decode cX8_findThen 45 = .ok (.iadd, 1) := by decide +kernel
theorem dX8_findThen_46 : decode cX8_findThen 46 = .ok (.istore 4, 2) := by decide +kernel
theorem dX8_findThen_48 : decode cX8_findThen 48 = .ok (.iload 4, 2) := by decide +kernel
theorem dX8_findThen_50 : decode cX8_findThen 50 = .ok (.bipush 10, 2) := by decide +kernel
theorem dX8_findThen_52 : decode cX8_findThen 52 = .ok (.if_icmp .ge 28, 3) := by decide +kernel
theorem dX8_findThen_55 : decode cX8_findThen 55 = .ok (.iload_n 3, 1) := by decide +kernel
theorem dX8_findThen_56 : decode cX8_findThen 56 = .ok (.ifCond .eq 24, 3) := by decide +kernel
theorem dX8_findThen_59 : decode cX8_findThen 59 = .ok (.aload_n 0, 1) := by decide +kernel
theorem dX8_findThen_60 : decode cX8_findThen 60 = .ok (.iload 4, 2) := by decide +kernel
theorem dX8_findThen_62 : decode cX8_findThen 62 = .ok (.iload 4, 2) := by decide +kernel
theorem dX8_findThen_64 : decode cX8_findThen 64 = .ok (.iconst 1, 1) := by decide +kernel
theorem dX8_findThen_65 : decode cX8_findThen 65 = .ok (.isub, 1) := by decide +kernel
theorem dX8_findThen_66 : decode cX8_findThen 66 = .ok (.iload 4, 2) := by decide +kernel
theorem dX8_findThen_68 : decode cX8_findThen 68 = .ok (.iconst 1, 1) := by decide +kernel
theorem dX8_findThen_69 : decode cX8_findThen 69 = .ok (.isub, 1) := by decide +kernel
theorem dX8_findThen_70 : decode cX8_findThen 70 = .ok (.invokevirtual 145, 3) := by decide +kernel
theorem dX8_findThen_73 : decode cX8_findThen 73 = .ok (.istore_n 3, 1) := by decide +kernel
theorem dX8_findThen_74 : decode cX8_findThen 74 = .ok (.iinc 4 1, 3) := by decide +kernel
theorem dX8_findThen_77 : decode cX8_findThen 77 = .ok (.goto (-29), 3) := by decide +kernel
theorem dX8_findThen_80 : decode cX8_findThen 80 = .ok (.iconst 1, 1) := by decide +kernel
theorem dX8_findThen_81 : decode cX8_findThen 81 = .ok (.istore_n 3, 1) := by decide +kernel
theorem dX8_findThen_82 : decode cX8_findThen 82 = .ok (.iload_n 1, 1) := by decide +kernel
theorem dX8_findThen_83 : decode cX8_findThen 83 = .ok (.iconst 1, 1) := by decide +kernel
theorem dX8_findThen_84 : decode cX8_findThen 84 = .ok (.isub, 1) := by decide +kernel
theorem dX8_findThen_85 : decode cX8_findThen 85 = .ok (.istore 4, 2) := by decide +kernel
theorem dX8_findThen_87 : decode cX8_findThen 87 = .ok (.iload 4, 2) := by decide +kernel
theorem dX8_findThen_89 : decode cX8_findThen 89 = .ok (.ifCond .lt 26, 3) := by decide +kernel
theorem dX8_findThen_92 : decode cX8_findThen 92 = .ok (.iload_n 3, 1) := by decide +kernel
theorem dX8_findThen_93 : decode cX8_findThen 93 = .ok (.ifCond .eq 22, 3) := by decide +kernel
theorem dX8_findThen_96 : decode cX8_findThen 96 = .ok (.aload_n 0, 1) := by decide +kernel
theorem dX8_findThen_97 : decode cX8_findThen 97 = .ok (.iload 4, 2) := by decide +kernel
theorem dX8_findThen_99 : decode cX8_findThen 99 = .ok (.iload 4, 2) := by decide +kernel
theorem dX8_findThen_101 : decode cX8_findThen 101 = .ok (.iconst 1, 1) := by decide +kernel
theorem dX8_findThen_102 : decode cX8_findThen 102 = .ok (.iadd, 1) := by decide +kernel
theorem dX8_findThen_103 : decode cX8_findThen 103 = .ok (.iload 4, 2) := by decide +kernel
theorem dX8_findThen_105 : decode cX8_findThen 105 = .ok (.invokevirtual 145, 3) := by decide +kernel
theorem dX8_findThen_108 : decode cX8_findThen 108 = .ok (.istore_n 3, 1) := by decide +kernel
theorem dX8_findThen_109 : decode cX8_findThen 109 = .ok (.iinc 4 (-1), 3) := by decide +kernel
theorem dX8_findThen_112 : decode cX8_findThen 112 = .ok (.goto (-25), 3) := by decide +kernel
theorem dX8_findThen_115 : decode cX8_findThen 115 = .ok (.return_, 1) := by decide +kernel
set_option maxRecDepth 20000 in
theorem ggX8_whyNotGo_X8_in : GoodIn wsX8_whyNotGo wsX8_in := goodIn_r _ [8] (by decide +kernel) (by decide +kernel)
set_option maxRecDepth 20000 in
theorem gX8_whyNotGo_X8_in : GoodIn wsX8_whyNotGo (va_wsS RX8 83 yX8_in wsX8_in) := goodIn_app (goodIn_of _ (by decide +kernel)) ggX8_whyNotGo_X8_in
set_option maxRecDepth 20000 in
theorem ggX8_whyNotGo_X8_findThen : GoodIn wsX8_whyNotGo wsX8_findThen := goodIn_r _ [12, 13, 1, 4, 14, 15, 16, 7, 17, 18, 19, 20, 21, 25, 26, 27, 28, 29, 30, 31, 32, 33, 34, 35, 36, 37, 38, 39, 40, 41, 42, 43, 44, 45, 46, 47, 48, 49, 50, 51, 52, 53, 54, 55, 56, 57, 58, 59, 60, 61] (by decide +kernel) (by decide +kernel)
set_option maxRecDepth 20000 in
theorem gX8_whyNotGo_X8_findThen : GoodIn wsX8_whyNotGo (wsV RX8 149 RX8 yX8_findThen wsX8_findThen) := goodIn_app (goodIn_of _ (by decide +kernel)) ggX8_whyNotGo_X8_findThen
set_option maxRecDepth 20000 in
theorem ggX8_whyNotGo_X8_has : GoodIn wsX8_whyNotGo wsX8_has := goodIn_r _ [24] (by decide +kernel) (by decide +kernel)
set_option maxRecDepth 20000 in
theorem gX8_whyNotGo_X8_has : GoodIn wsX8_whyNotGo (va_wsS RX8 153 yX8_has wsX8_has) := goodIn_app (goodIn_of _ (by decide +kernel)) ggX8_whyNotGo_X8_has
theorem dX8_whyNotGo_0 : decode cX8_whyNotGo 0 = .ok (.aload_n 0, 1) := by decide +kernel
theorem dX8_whyNotGo_1 : decode cX8_whyNotGo 1 = .ok (.getfield 7, 3) := by decide +kernel
theorem dX8_whyNotGo_4 : decode cX8_whyNotGo 4 = .ok (.iload_n 1, 1) := by decide +kernel
theorem dX8_whyNotGo_5 : decode cX8_whyNotGo 5 = .ok (.iaload, 1) := by decide +kernel
theorem dX8_whyNotGo_6 : decode cX8_whyNotGo 6 = .ok (.iload_n 2, 1) := by decide +kernel
theorem dX8_whyNotGo_7 : decode cX8_whyNotGo 7 = .ok (.iadd, 1) := by decide +kernel
theorem dX8_whyNotGo_8 : decode cX8_whyNotGo 8 = .ok (.i2l, 1) := by decide +kernel
theorem dX8_whyNotGo_9 : decode cX8_whyNotGo 9 = .ok (.lconst 0, 1) := by decide +kernel
theorem dX8_whyNotGo_10 : decode cX8_whyNotGo 10 = .ok (.ldc2_w 95, 3) := by decide +kernel
theorem dX8_whyNotGo_13 : decode cX8_whyNotGo 13 = .ok (.invokestatic 83, 3) := by decide +kernel
theorem dX8_whyNotGo_16 : decode cX8_whyNotGo 16 = .ok (.ifCond .ne 5, 3) := by decide +kernel
theorem dX8_whyNotGo_19 : decode cX8_whyNotGo 19 = .ok (.iconst 1, 1) := by decide +kernel
theorem dX8_whyNotGo_20 : decode cX8_whyNotGo 20 = .ok (.ireturn, 1) := by decide +kernel
theorem dX8_whyNotGo_21 : decode cX8_whyNotGo 21 = .ok (.aload_n 0, 1) := by decide +kernel
theorem dX8_whyNotGo_22 : decode cX8_whyNotGo 22 = .ok (.iload_n 1, 1) := by decide +kernel
theorem dX8_whyNotGo_23 : decode cX8_whyNotGo 23 = .ok (.iload_n 2, 1) := by decide +kernel
theorem dX8_whyNotGo_24 : decode cX8_whyNotGo 24 = .ok (.invokevirtual 149, 3) := by decide +kernel
theorem dX8_whyNotGo_27 : decode cX8_whyNotGo 27 = .ok (.aload_n 0, 1) := by decide +kernel
theorem dX8_whyNotGo_28 : decode cX8_whyNotGo 28 = .ok (.getfield 101, 3) := by decide +kernel
theorem dX8_whyNotGo_31 : decode cX8_whyNotGo 31 = .ok (.iload_n 1, 1) := by decide +kernel
theorem dX8_whyNotGo_32 : decode cX8_whyNotGo 32 = .ok (.invokestatic 153, 3) := by decide +kernel
theorem dX8_whyNotGo_35 : decode cX8_whyNotGo 35 = .ok (.ifCond .ne 15, 3) := by decide +kernel
theorem dX8_whyNotGo_38 : decode cX8_whyNotGo 38 = .ok (.aload_n 0, 1) := by decide +kernel
theorem dX8_whyNotGo_39 : decode cX8_whyNotGo 39 = .ok (.getfield 142, 3) := by decide +kernel
theorem dX8_whyNotGo_42 : decode cX8_whyNotGo 42 = .ok (.aload_n 0, 1) := by decide +kernel
theorem dX8_whyNotGo_43 : decode cX8_whyNotGo 43 = .ok (.getfield 101, 3) := by decide +kernel
theorem dX8_whyNotGo_46 : decode cX8_whyNotGo 46 = .ok (.iand, 1) := by decide +kernel
theorem dX8_whyNotGo_47 : decode cX8_whyNotGo 47 = .ok (.ifCond .eq 7, 3) := by decide +kernel
theorem dX8_whyNotGo_50 : decode cX8_whyNotGo 50 = .ok (.iconst 2, 1) := by decide +kernel
theorem dX8_whyNotGo_51 : decode cX8_whyNotGo 51 = .ok (.goto 4, 3) := by decide +kernel
theorem dX8_whyNotGo_54 : decode cX8_whyNotGo 54 = .ok (.iconst 0, 1) := by decide +kernel
theorem dX8_whyNotGo_55 : decode cX8_whyNotGo 55 = .ok (.ireturn, 1) := by decide +kernel
set_option maxRecDepth 20000 in
theorem ggX8_isTaut_X8_off : GoodIn wsX8_isTaut wsX8_off := goodIn_r _ [6] (by decide +kernel) (by decide +kernel)
set_option maxRecDepth 20000 in
theorem gX8_isTaut_X8_off : GoodIn wsX8_isTaut (va_wsS RX8 87 yX8_off wsX8_off) := goodIn_app (goodIn_of _ (by decide +kernel)) ggX8_isTaut_X8_off
theorem dX8_isTaut_0 : decode cX8_isTaut 0 = .ok (.aload_n 0, 1) := by decide +kernel
theorem dX8_isTaut_1 : decode cX8_isTaut 1 = .ok (.getfield 7, 3) := by decide +kernel
theorem dX8_isTaut_4 : decode cX8_isTaut 4 = .ok (.iload_n 1, 1) := by decide +kernel
theorem dX8_isTaut_5 : decode cX8_isTaut 5 = .ok (.iaload, 1) := by decide +kernel
theorem dX8_isTaut_6 : decode cX8_isTaut 6 = .ok (.aload_n 0, 1) := by decide +kernel
theorem dX8_isTaut_7 : decode cX8_isTaut 7 = .ok (.getfield 7, 3) := by decide +kernel
theorem dX8_isTaut_10 : decode cX8_isTaut 10 = .ok (.iload_n 1, 1) := by decide +kernel
theorem dX8_isTaut_11 : decode cX8_isTaut 11 = .ok (.iconst 1, 1) := by decide +kernel
theorem dX8_isTaut_12 : decode cX8_isTaut 12 = .ok (.iadd, 1) := by decide +kernel
theorem dX8_isTaut_13 : decode cX8_isTaut 13 = .ok (.iaload, 1) := by decide +kernel
theorem dX8_isTaut_14 : decode cX8_isTaut 14 = .ok (.invokestatic 87, 3) := by decide +kernel
theorem dX8_isTaut_17 : decode cX8_isTaut 17 = .ok (.aload_n 0, 1) := by decide +kernel
theorem dX8_isTaut_18 : decode cX8_isTaut 18 = .ok (.getfield 16, 3) := by decide +kernel
theorem dX8_isTaut_21 : decode cX8_isTaut 21 = .ok (.iload_n 1, 1) := by decide +kernel
theorem dX8_isTaut_22 : decode cX8_isTaut 22 = .ok (.iaload, 1) := by decide +kernel
theorem dX8_isTaut_23 : decode cX8_isTaut 23 = .ok (.if_icmp .ne 7, 3) := by decide +kernel
theorem dX8_isTaut_26 : decode cX8_isTaut 26 = .ok (.iconst 1, 1) := by decide +kernel
theorem dX8_isTaut_27 : decode cX8_isTaut 27 = .ok (.goto 4, 3) := by decide +kernel
theorem dX8_isTaut_30 : decode cX8_isTaut 30 = .ok (.iconst 0, 1) := by decide +kernel
theorem dX8_isTaut_31 : decode cX8_isTaut 31 = .ok (.ireturn, 1) := by decide +kernel
theorem dX8_whyNotLet_0 : decode cX8_whyNotLet 0 = .ok (.iload_n 1, 1) := by decide +kernel
theorem dX8_whyNotLet_1 : decode cX8_whyNotLet 1 = .ok (.bipush 9, 2) := by decide +kernel
theorem dX8_whyNotLet_3 : decode cX8_whyNotLet 3 = .ok (.if_icmp .ne 7, 3) := by decide +kernel
theorem dX8_whyNotLet_6 : decode cX8_whyNotLet 6 = .ok (.iconst 3, 1) := by decide +kernel
theorem dX8_whyNotLet_7 : decode cX8_whyNotLet 7 = .ok (.goto 30, 3) := by decide +kernel
theorem dX8_whyNotLet_10 : decode cX8_whyNotLet 10 = .ok (.aload_n 0, 1) := by decide +kernel
theorem dX8_whyNotLet_11 : decode cX8_whyNotLet 11 = .ok (.getfield 77, 3) := by decide +kernel
theorem dX8_whyNotLet_14 : decode cX8_whyNotLet 14 = .ok (.ifCond .ne 7, 3) := by decide +kernel
theorem dX8_whyNotLet_17 : decode cX8_whyNotLet 17 = .ok (.iconst 4, 1) := by decide +kernel
theorem dX8_whyNotLet_18 : decode cX8_whyNotLet 18 = .ok (.goto 19, 3) := by decide +kernel
theorem dX8_whyNotLet_21 : decode cX8_whyNotLet 21 = .ok (.aload_n 0, 1) := by decide +kernel
theorem dX8_whyNotLet_22 : decode cX8_whyNotLet 22 = .ok (.getfield 16, 3) := by decide +kernel
theorem dX8_whyNotLet_25 : decode cX8_whyNotLet 25 = .ok (.iload_n 1, 1) := by decide +kernel
theorem dX8_whyNotLet_26 : decode cX8_whyNotLet 26 = .ok (.iaload, 1) := by decide +kernel
theorem dX8_whyNotLet_27 : decode cX8_whyNotLet 27 = .ok (.bipush 99, 2) := by decide +kernel
theorem dX8_whyNotLet_29 : decode cX8_whyNotLet 29 = .ok (.if_icmp .ne 7, 3) := by decide +kernel
theorem dX8_whyNotLet_32 : decode cX8_whyNotLet 32 = .ok (.iconst 5, 1) := by decide +kernel
theorem dX8_whyNotLet_33 : decode cX8_whyNotLet 33 = .ok (.goto 4, 3) := by decide +kernel
theorem dX8_whyNotLet_36 : decode cX8_whyNotLet 36 = .ok (.iconst 0, 1) := by decide +kernel
theorem dX8_whyNotLet_37 : decode cX8_whyNotLet 37 = .ok (.ireturn, 1) := by decide +kernel
set_option maxRecDepth 20000 in
theorem ggX8_whyNotTake_X8_isTaut : GoodIn wsX8_whyNotTake wsX8_isTaut := goodIn_r _ [6, 7, 1, 8, 9, 5, 10, 11, 12, 13, 14, 15, 16, 17, 18, 19, 20, 21, 22, 23, 24, 25, 26, 27, 28, 29, 30, 31, 32, 33, 34, 35, 36, 37, 38, 39, 40, 41, 42, 43, 44, 45, 46, 47] (by decide +kernel) (by decide +kernel)
set_option maxRecDepth 20000 in
theorem gX8_whyNotTake_X8_isTaut : GoodIn wsX8_whyNotTake (wsV RX8 156 RX8 yX8_isTaut wsX8_isTaut) := goodIn_app (goodIn_of _ (by decide +kernel)) ggX8_whyNotTake_X8_isTaut
theorem dX8_whyNotTake_0 : decode cX8_whyNotTake 0 = .ok (.iload_n 1, 1) := by decide +kernel
theorem dX8_whyNotTake_1 : decode cX8_whyNotTake 1 = .ok (.bipush 9, 2) := by decide +kernel
theorem dX8_whyNotTake_3 : decode cX8_whyNotTake 3 = .ok (.if_icmp .ne 7, 3) := by decide +kernel
theorem dX8_whyNotTake_6 : decode cX8_whyNotTake 6 = .ok (.iconst 3, 1) := by decide +kernel
theorem dX8_whyNotTake_7 : decode cX8_whyNotTake 7 = .ok (.goto 26, 3) := by decide +kernel
theorem dX8_whyNotTake_10 : decode cX8_whyNotTake 10 = .ok (.aload_n 0, 1) := by decide +kernel
theorem dX8_whyNotTake_11 : decode cX8_whyNotTake 11 = .ok (.iload_n 1, 1) := by decide +kernel
theorem dX8_whyNotTake_12 : decode cX8_whyNotTake 12 = .ok (.invokevirtual 156, 3) := by decide +kernel
theorem dX8_whyNotTake_15 : decode cX8_whyNotTake 15 = .ok (.ifCond .ne 13, 3) := by decide +kernel
theorem dX8_whyNotTake_18 : decode cX8_whyNotTake 18 = .ok (.aload_n 0, 1) := by decide +kernel
theorem dX8_whyNotTake_19 : decode cX8_whyNotTake 19 = .ok (.getfield 16, 3) := by decide +kernel
theorem dX8_whyNotTake_22 : decode cX8_whyNotTake 22 = .ok (.iload_n 1, 1) := by decide +kernel
theorem dX8_whyNotTake_23 : decode cX8_whyNotTake 23 = .ok (.iaload, 1) := by decide +kernel
theorem dX8_whyNotTake_24 : decode cX8_whyNotTake 24 = .ok (.iconst 1, 1) := by decide +kernel
theorem dX8_whyNotTake_25 : decode cX8_whyNotTake 25 = .ok (.if_icmp .ne 7, 3) := by decide +kernel
theorem dX8_whyNotTake_28 : decode cX8_whyNotTake 28 = .ok (.iconst 5, 1) := by decide +kernel
theorem dX8_whyNotTake_29 : decode cX8_whyNotTake 29 = .ok (.goto 4, 3) := by decide +kernel
theorem dX8_whyNotTake_32 : decode cX8_whyNotTake 32 = .ok (.iconst 0, 1) := by decide +kernel
theorem dX8_whyNotTake_33 : decode cX8_whyNotTake 33 = .ok (.ireturn, 1) := by decide +kernel
set_option maxRecDepth 20000 in
theorem ggX8_whyNot_X8_whyNotGo : GoodIn wsX8_whyNot wsX8_whyNotGo := goodIn_r _ [6, 7, 8, 9, 10, 11, 12, 5, 13, 14, 15, 16, 17, 18, 19, 20, 21, 22, 23, 24, 25, 26, 27, 28, 29, 43, 44, 45, 46, 47, 48, 49, 50, 51, 52, 53, 54, 55, 56, 57, 58, 59, 60, 61, 62, 63, 64, 65, 66, 67, 68, 69, 70, 71, 72, 73, 74, 75, 76, 77, 78, 79] (by decide +kernel) (by decide +kernel)
set_option maxRecDepth 20000 in
theorem gX8_whyNot_X8_whyNotGo : GoodIn wsX8_whyNot (wsV RX8 159 RX8 yX8_whyNotGo wsX8_whyNotGo) := goodIn_app (goodIn_of _ (by decide +kernel)) ggX8_whyNot_X8_whyNotGo
set_option maxRecDepth 20000 in
theorem ggX8_whyNot_X8_whyNotLet : GoodIn wsX8_whyNot wsX8_whyNotLet := goodIn_r _ [33, 34, 23, 43, 44, 45, 46, 47, 48, 49, 50, 51, 52, 53, 54, 55, 56, 57, 58, 59, 60, 61, 62, 63, 64, 65, 66, 67, 68, 69, 70, 71, 72, 73, 74, 75, 76, 77, 78, 79] (by decide +kernel) (by decide +kernel)
set_option maxRecDepth 20000 in
theorem gX8_whyNot_X8_whyNotLet : GoodIn wsX8_whyNot (wsV RX8 162 RX8 yX8_whyNotLet wsX8_whyNotLet) := goodIn_app (goodIn_of _ (by decide +kernel)) ggX8_whyNot_X8_whyNotLet
set_option maxRecDepth 20000 in
theorem ggX8_whyNot_X8_whyNotTake : GoodIn wsX8_whyNot wsX8_whyNotTake := goodIn_r _ [38, 23, 39, 40, 41, 5, 42, 7, 24, 25, 26, 43, 44, 45, 46, 47, 48, 49, 50, 51, 52, 53, 54, 55, 56, 57, 58, 59, 60, 61, 62, 63, 64, 65, 66, 67, 68, 69, 70, 71, 72, 73, 74, 75, 76, 77, 78, 79] (by decide +kernel) (by decide +kernel)
set_option maxRecDepth 20000 in
theorem gX8_whyNot_X8_whyNotTake : GoodIn wsX8_whyNot (wsV RX8 165 RX8 yX8_whyNotTake wsX8_whyNotTake) := goodIn_app (goodIn_of _ (by decide +kernel)) ggX8_whyNot_X8_whyNotTake
theorem dX8_whyNot_0 : decode cX8_whyNot 0 = .ok (.iload_n 1, 1) := by decide +kernel
theorem dX8_whyNot_1 : decode cX8_whyNot 1 = .ok (.tableswitch 86 0 6 #[43, 50, 86, 86, 58, 64, 70], 43) := by decide +kernel
theorem dX8_whyNot_44 : decode cX8_whyNot 44 = .ok (.aload_n 0, 1) := by decide +kernel
theorem dX8_whyNot_45 : decode cX8_whyNot 45 = .ok (.iload_n 2, 1) := by decide +kernel
theorem dX8_whyNot_46 : decode cX8_whyNot 46 = .ok (.iload_n 3, 1) := by decide +kernel
theorem dX8_whyNot_47 : decode cX8_whyNot 47 = .ok (.invokevirtual 159, 3) := by decide +kernel
theorem dX8_whyNot_50 : decode cX8_whyNot 50 = .ok (.ireturn, 1) := by decide +kernel
theorem dX8_whyNot_51 : decode cX8_whyNot 51 = .ok (.aload_n 0, 1) := by decide +kernel
theorem dX8_whyNot_52 : decode cX8_whyNot 52 = .ok (.iload_n 2, 1) := by decide +kernel
theorem dX8_whyNot_53 : decode cX8_whyNot 53 = .ok (.iload_n 3, 1) := by decide +kernel
theorem dX8_whyNot_54 : decode cX8_whyNot 54 = .ok (.ineg, 1) := by decide +kernel
theorem dX8_whyNot_55 : decode cX8_whyNot 55 = .ok (.invokevirtual 159, 3) := by decide +kernel
theorem dX8_whyNot_58 : decode cX8_whyNot 58 = .ok (.ireturn, 1) := by decide +kernel
theorem dX8_whyNot_59 : decode cX8_whyNot 59 = .ok (.aload_n 0, 1) := by decide +kernel
theorem dX8_whyNot_60 : decode cX8_whyNot 60 = .ok (.iload_n 2, 1) := by decide +kernel
theorem dX8_whyNot_61 : decode cX8_whyNot 61 = .ok (.invokevirtual 162, 3) := by decide +kernel
theorem dX8_whyNot_64 : decode cX8_whyNot 64 = .ok (.ireturn, 1) := by decide +kernel
theorem dX8_whyNot_65 : decode cX8_whyNot 65 = .ok (.aload_n 0, 1) := by decide +kernel
theorem dX8_whyNot_66 : decode cX8_whyNot 66 = .ok (.iload_n 2, 1) := by decide +kernel
theorem dX8_whyNot_67 : decode cX8_whyNot 67 = .ok (.invokevirtual 165, 3) := by decide +kernel
theorem dX8_whyNot_70 : decode cX8_whyNot 70 = .ok (.ireturn, 1) := by decide +kernel
theorem dX8_whyNot_71 : decode cX8_whyNot 71 = .ok (.aload_n 0, 1) := by decide +kernel
theorem dX8_whyNot_72 : decode cX8_whyNot 72 = .ok (.getfield 168, 3) := by decide +kernel
theorem dX8_whyNot_75 : decode cX8_whyNot 75 = .ok (.bipush 99, 2) := by decide +kernel
theorem dX8_whyNot_77 : decode cX8_whyNot 77 = .ok (.if_icmp .ne 8, 3) := by decide +kernel
theorem dX8_whyNot_80 : decode cX8_whyNot 80 = .ok (.bipush 6, 2) := by decide +kernel
theorem dX8_whyNot_82 : decode cX8_whyNot 82 = .ok (.goto 4, 3) := by decide +kernel
theorem dX8_whyNot_85 : decode cX8_whyNot 85 = .ok (.iconst 0, 1) := by decide +kernel
theorem dX8_whyNot_86 : decode cX8_whyNot 86 = .ok (.ireturn, 1) := by decide +kernel
theorem dX8_whyNot_87 : decode cX8_whyNot 87 = .ok (.iconst 0, 1) := by decide +kernel
theorem dX8_whyNot_88 : decode cX8_whyNot 88 = .ok (.ireturn, 1) := by decide +kernel
theorem dX8_ones_0 : decode cX8_ones 0 = .ok (.iconst 0, 1) := by decide +kernel
theorem dX8_ones_1 : decode cX8_ones 1 = .ok (.istore_n 1, 1) := by decide +kernel
theorem dX8_ones_2 : decode cX8_ones 2 = .ok (.iload_n 0, 1) := by decide +kernel
theorem dX8_ones_3 : decode cX8_ones 3 = .ok (.istore_n 2, 1) := by decide +kernel
theorem dX8_ones_4 : decode cX8_ones 4 = .ok (.iload_n 2, 1) := by decide +kernel
theorem dX8_ones_5 : decode cX8_ones 5 = .ok (.ifCond .eq 15, 3) := by decide +kernel
theorem dX8_ones_8 : decode cX8_ones 8 = .ok (.iinc 1 1, 3) := by decide +kernel
theorem dX8_ones_11 : decode cX8_ones 11 = .ok (.iload_n 2, 1) := by decide +kernel
theorem dX8_ones_12 : decode cX8_ones 12 = .ok (.iload_n 2, 1) := by decide +kernel
theorem dX8_ones_13 : decode cX8_ones 13 = .ok (.iconst 1, 1) := by decide +kernel
theorem dX8_ones_14 : decode cX8_ones 14 = .ok (.isub, 1) := by decide +kernel
theorem dX8_ones_15 : decode cX8_ones 15 = .ok (.iand, 1) := by decide +kernel
theorem dX8_ones_16 : decode cX8_ones 16 = .ok (.istore_n 2, 1) := by decide +kernel
theorem dX8_ones_17 : decode cX8_ones 17 = .ok (.goto (-13), 3) := by decide +kernel
theorem dX8_ones_20 : decode cX8_ones 20 = .ok (.iload_n 1, 1) := by decide +kernel
theorem dX8_ones_21 : decode cX8_ones 21 = .ok (.ireturn, 1) := by decide +kernel
set_option maxRecDepth 20000 in
theorem ggX8_go_X8_findThen : GoodIn wsX8_go wsX8_findThen := goodIn_r _ [10, 5, 4, 1, 11, 12, 13, 9, 14, 15, 16, 17, 18, 22, 23, 24, 25, 26, 27, 28, 29, 30, 31, 32, 33, 34, 35, 36, 37, 38, 39, 40, 41, 42, 43, 44, 45, 46, 47, 48, 49, 50, 51, 52, 53, 54, 55, 56, 57, 58] (by decide +kernel) (by decide +kernel)
set_option maxRecDepth 20000 in
theorem gX8_go_X8_findThen : GoodIn wsX8_go (wsV RX8 149 RX8 yX8_findThen wsX8_findThen) := goodIn_app (goodIn_of _ (by decide +kernel)) ggX8_go_X8_findThen
set_option maxRecDepth 20000 in
theorem ggX8_go_X8_ones : GoodIn wsX8_go wsX8_ones := goodIn_r _ [21] (by decide +kernel) (by decide +kernel)
set_option maxRecDepth 20000 in
theorem gX8_go_X8_ones : GoodIn wsX8_go (va_wsS RX8 177 yX8_ones wsX8_ones) := goodIn_app (goodIn_of _ (by decide +kernel)) ggX8_go_X8_ones
theorem dX8_go_0 : decode cX8_go 0 = .ok (.aload_n 0, 1) := by decide +kernel
theorem dX8_go_1 : decode cX8_go 1 = .ok (.iload_n 1, 1) := by decide +kernel
theorem dX8_go_2 : decode cX8_go 2 = .ok (.iload_n 2, 1) := by decide +kernel
theorem dX8_go_3 : decode cX8_go 3 = .ok (.invokevirtual 149, 3) := by decide +kernel
theorem dX8_go_6 : decode cX8_go 6 = .ok (.aload_n 0, 1) := by decide +kernel
theorem dX8_go_7 : decode cX8_go 7 = .ok (.aload_n 0, 1) := by decide +kernel
theorem dX8_go_8 : decode cX8_go 8 = .ok (.getfield 142, 3) := by decide +kernel
theorem dX8_go_11 : decode cX8_go 11 = .ok (.putfield 171, 3) := by decide +kernel
theorem dX8_go_14 : decode cX8_go 14 = .ok (.aload_n 0, 1) := by decide +kernel
theorem dX8_go_15 : decode cX8_go 15 = .ok (.dup, 1) := by decide +kernel
theorem dX8_go_16 : decode cX8_go 16 = .ok (.getfield 174, 3) := by decide +kernel
theorem dX8_go_19 : decode cX8_go 19 = .ok (.aload_n 0, 1) := by decide +kernel
theorem dX8_go_20 : decode cX8_go 20 = .ok (.getfield 142, 3) := by decide +kernel
theorem dX8_go_23 : decode cX8_go 23 = .ok (.invokestatic 177, 3) := by decide +kernel
theorem dX8_go_26 : decode cX8_go 26 = .ok (.iadd, 1) := by decide +kernel
theorem dX8_go_27 : decode cX8_go 27 = .ok (.putfield 174, 3) := by decide +kernel
theorem dX8_go_30 : decode cX8_go 30 = .ok (.iconst 0, 1) := by decide +kernel
theorem dX8_go_31 : decode cX8_go 31 = .ok (.istore_n 3, 1) := by decide +kernel
theorem dX8_go_32 : decode cX8_go 32 = .ok (.iload_n 3, 1) := by decide +kernel
theorem dX8_go_33 : decode cX8_go 33 = .ok (.bipush 10, 2) := by decide +kernel
theorem dX8_go_35 : decode cX8_go 35 = .ok (.if_icmp .ge 21, 3) := by decide +kernel
theorem dX8_go_38 : decode cX8_go 38 = .ok (.aload_n 0, 1) := by decide +kernel
theorem dX8_go_39 : decode cX8_go 39 = .ok (.getfield 7, 3) := by decide +kernel
theorem dX8_go_42 : decode cX8_go 42 = .ok (.iload_n 3, 1) := by decide +kernel
theorem dX8_go_43 : decode cX8_go 43 = .ok (.aload_n 0, 1) := by decide +kernel
theorem dX8_go_44 : decode cX8_go 44 = .ok (.getfield 37, 3) := by decide +kernel
theorem dX8_go_47 : decode cX8_go 47 = .ok (.iload_n 3, 1) := by decide +kernel
theorem dX8_go_48 : decode cX8_go 48 = .ok (.iaload, 1) := by decide +kernel
theorem dX8_go_49 : decode cX8_go 49 = .ok (.iastore, 1) := by decide +kernel
theorem dX8_go_50 : decode cX8_go 50 = .ok (.iinc 3 1, 3) := by decide +kernel
theorem dX8_go_53 : decode cX8_go 53 = .ok (.goto (-21), 3) := by decide +kernel
theorem dX8_go_56 : decode cX8_go 56 = .ok (.return_, 1) := by decide +kernel
set_option maxRecDepth 20000 in
theorem ggX8_feel_X8_less : GoodIn wsX8_feel wsX8_less := goodIn_r _ [5] (by decide +kernel) (by decide +kernel)
set_option maxRecDepth 20000 in
theorem gX8_feel_X8_less : GoodIn wsX8_feel (va_wsS RX8 180 yX8_less wsX8_less) := goodIn_app (goodIn_of _ (by decide +kernel)) ggX8_feel_X8_less
theorem dX8_feel_0 : decode cX8_feel 0 = .ok (.aload_n 0, 1) := by decide +kernel
theorem dX8_feel_1 : decode cX8_feel 1 = .ok (.getfield 13, 3) := by decide +kernel
theorem dX8_feel_4 : decode cX8_feel 4 = .ok (.iload_n 1, 1) := by decide +kernel
theorem dX8_feel_5 : decode cX8_feel 5 = .ok (.bipush 99, 2) := by decide +kernel
theorem dX8_feel_7 : decode cX8_feel 7 = .ok (.aload_n 0, 1) := by decide +kernel
theorem dX8_feel_8 : decode cX8_feel 8 = .ok (.getfield 13, 3) := by decide +kernel
theorem dX8_feel_11 : decode cX8_feel 11 = .ok (.iload_n 1, 1) := by decide +kernel
theorem dX8_feel_12 : decode cX8_feel 12 = .ok (.iaload, 1) := by decide +kernel
theorem dX8_feel_13 : decode cX8_feel 13 = .ok (.iload_n 2, 1) := by decide +kernel
theorem dX8_feel_14 : decode cX8_feel 14 = .ok (.iadd, 1) := by decide +kernel
theorem dX8_feel_15 : decode cX8_feel 15 = .ok (.invokestatic 180, 3) := by decide +kernel
theorem dX8_feel_18 : decode cX8_feel 18 = .ok (.iastore, 1) := by decide +kernel
theorem dX8_feel_19 : decode cX8_feel 19 = .ok (.return_, 1) := by decide +kernel
set_option maxRecDepth 20000 in
theorem ggX8_squeeze_X8_isTaut : GoodIn wsX8_squeeze wsX8_isTaut := goodIn_r _ [5, 6, 7, 8, 9, 4, 10, 19, 20, 21, 22, 23, 24, 25, 26, 27, 28, 29, 30, 31, 32, 33, 34, 35, 36, 37, 38, 39, 40, 41, 42, 43, 44, 45, 46, 47, 48, 49, 50, 51, 52, 53, 54, 55] (by decide +kernel) (by decide +kernel)
set_option maxRecDepth 20000 in
theorem gX8_squeeze_X8_isTaut : GoodIn wsX8_squeeze (wsV RX8 156 RX8 yX8_isTaut wsX8_isTaut) := goodIn_app (goodIn_of _ (by decide +kernel)) ggX8_squeeze_X8_isTaut
set_option maxRecDepth 20000 in
theorem ggX8_squeeze_X8_feel : GoodIn wsX8_squeeze wsX8_feel := goodIn_r _ [14, 15, 16, 17, 4, 18, 19, 20, 21, 22, 23, 24, 25, 26, 27, 28, 29, 30, 31, 32, 33, 34, 35, 36, 37, 38, 39, 40, 41, 42, 43, 44, 45, 46, 47, 48, 49, 50, 51, 52, 53, 54, 55] (by decide +kernel) (by decide +kernel)
set_option maxRecDepth 20000 in
theorem gX8_squeeze_X8_feel : GoodIn wsX8_squeeze (wsV RX8 183 RX8 yX8_feel wsX8_feel) := goodIn_app (goodIn_of _ (by decide +kernel)) ggX8_squeeze_X8_feel
theorem dX8_squeeze_0 : decode cX8_squeeze 0 = .ok (.iload_n 2, 1) := by decide +kernel
theorem dX8_squeeze_1 : decode cX8_squeeze 1 = .ok (.istore_n 3, 1) := by decide +kernel
theorem dX8_squeeze_2 : decode cX8_squeeze 2 = .ok (.iload_n 1, 1) := by decide +kernel
theorem dX8_squeeze_3 : decode cX8_squeeze 3 = .ok (.iconst 1, 1) := by decide +kernel
theorem dX8_squeeze_4 : decode cX8_squeeze 4 = .ok (.iadd, 1) := by decide +kernel
theorem dX8_squeeze_5 : decode cX8_squeeze 5 = .ok (.istore 4, 2) := by decide +kernel
theorem dX8_squeeze_7 : decode cX8_squeeze 7 = .ok (.iload 4, 2) := by decide +kernel
theorem dX8_squeeze_9 : decode cX8_squeeze 9 = .ok (.bipush 10, 2) := by decide +kernel
theorem dX8_squeeze_11 : decode cX8_squeeze 11 = .ok (.if_icmp .ge 47, 3) := by decide +kernel
theorem dX8_squeeze_14 : decode cX8_squeeze 14 = .ok (.iload_n 3, 1) := by decide +kernel
theorem dX8_squeeze_15 : decode cX8_squeeze 15 = .ok (.ifCond .le 43, 3) := by decide +kernel
theorem dX8_squeeze_18 : decode cX8_squeeze 18 = .ok (.iload_n 3, 1) := by decide +kernel
theorem dX8_squeeze_19 : decode cX8_squeeze 19 = .ok (.aload_n 0, 1) := by decide +kernel
theorem dX8_squeeze_20 : decode cX8_squeeze 20 = .ok (.iload 4, 2) := by decide +kernel
theorem dX8_squeeze_22 : decode cX8_squeeze 22 = .ok (.iconst 1, 1) := by decide +kernel
theorem dX8_squeeze_23 : decode cX8_squeeze 23 = .ok (.isub, 1) := by decide +kernel
theorem dX8_squeeze_24 : decode cX8_squeeze 24 = .ok (.invokevirtual 156, 3) := by decide +kernel
theorem dX8_squeeze_27 : decode cX8_squeeze 27 = .ok (.ifCond .eq 7, 3) := by decide +kernel
theorem dX8_squeeze_30 : decode cX8_squeeze 30 = .ok (.iconst 1, 1) := by decide +kernel
theorem dX8_squeeze_31 : decode cX8_squeeze 31 = .ok (.goto 4, 3) := by decide +kernel
theorem dX8_squeeze_34 : decode cX8_squeeze 34 = .ok (.iconst 3, 1) := by decide +kernel
theorem dX8_squeeze_35 : decode cX8_squeeze 35 = .ok (.isub, 1) := by decide +kernel
theorem dX8_squeeze_36 : decode cX8_squeeze 36 = .ok (.istore_n 3, 1) := by decide +kernel
theorem dX8_squeeze_37 : decode cX8_squeeze 37 = .ok (.aload_n 0, 1) := by decide +kernel
theorem dX8_squeeze_38 : decode cX8_squeeze 38 = .ok (.iload 4, 2) := by decide +kernel
theorem dX8_squeeze_40 : decode cX8_squeeze 40 = .ok (.iload_n 3, 1) := by decide +kernel
theorem dX8_squeeze_41 : decode cX8_squeeze 41 = .ok (.ifCond .le 7, 3) := by decide +kernel
theorem dX8_squeeze_44 : decode cX8_squeeze 44 = .ok (.iload_n 3, 1) := by decide +kernel
theorem dX8_squeeze_45 : decode cX8_squeeze 45 = .ok (.goto 4, 3) := by decide +kernel
theorem dX8_squeeze_48 : decode cX8_squeeze 48 = .ok (.iconst 0, 1) := by decide +kernel
theorem dX8_squeeze_49 : decode cX8_squeeze 49 = .ok (.invokevirtual 183, 3) := by decide +kernel
theorem dX8_squeeze_52 : decode cX8_squeeze 52 = .ok (.iinc 4 1, 3) := by decide +kernel
theorem dX8_squeeze_55 : decode cX8_squeeze 55 = .ok (.goto (-48), 3) := by decide +kernel
theorem dX8_squeeze_58 : decode cX8_squeeze 58 = .ok (.iload_n 2, 1) := by decide +kernel
theorem dX8_squeeze_59 : decode cX8_squeeze 59 = .ok (.istore_n 3, 1) := by decide +kernel
theorem dX8_squeeze_60 : decode cX8_squeeze 60 = .ok (.iload_n 1, 1) := by decide +kernel
theorem dX8_squeeze_61 : decode cX8_squeeze 61 = .ok (.iconst 1, 1) := by decide +kernel
theorem dX8_squeeze_62 : decode cX8_squeeze 62 = .ok (.isub, 1) := by decide +kernel
theorem dX8_squeeze_63 : decode cX8_squeeze 63 = .ok (.istore 4, 2) := by decide +kernel
theorem dX8_squeeze_65 : decode cX8_squeeze 65 = .ok (.iload 4, 2) := by decide +kernel
theorem dX8_squeeze_67 : decode cX8_squeeze 67 = .ok (.ifCond .lt 45, 3) := by decide +kernel
theorem dX8_squeeze_70 : decode cX8_squeeze 70 = .ok (.iload_n 3, 1) := by decide +kernel
theorem dX8_squeeze_71 : decode cX8_squeeze 71 = .ok (.ifCond .le 41, 3) := by decide +kernel
theorem dX8_squeeze_74 : decode cX8_squeeze 74 = .ok (.iload_n 3, 1) := by decide +kernel
theorem dX8_squeeze_75 : decode cX8_squeeze 75 = .ok (.aload_n 0, 1) := by decide +kernel
theorem dX8_squeeze_76 : decode cX8_squeeze 76 = .ok (.iload 4, 2) := by decide +kernel
theorem dX8_squeeze_78 : decode cX8_squeeze 78 = .ok (.invokevirtual 156, 3) := by decide +kernel
theorem dX8_squeeze_81 : decode cX8_squeeze 81 = .ok (.ifCond .eq 7, 3) := by decide +kernel
theorem dX8_squeeze_84 : decode cX8_squeeze 84 = .ok (.iconst 1, 1) := by decide +kernel
theorem dX8_squeeze_85 : decode cX8_squeeze 85 = .ok (.goto 4, 3) := by decide +kernel
theorem dX8_squeeze_88 : decode cX8_squeeze 88 = .ok (.iconst 3, 1) := by decide +kernel
theorem dX8_squeeze_89 : decode cX8_squeeze 89 = .ok (.isub, 1) := by decide +kernel
theorem dX8_squeeze_90 : decode cX8_squeeze 90 = .ok (.istore_n 3, 1) := by decide +kernel
theorem dX8_squeeze_91 : decode cX8_squeeze 91 = .ok (.aload_n 0, 1) := by decide +kernel
theorem dX8_squeeze_92 : decode cX8_squeeze 92 = .ok (.iload 4, 2) := by decide +kernel
theorem dX8_squeeze_94 : decode cX8_squeeze 94 = .ok (.iload_n 3, 1) := by decide +kernel
theorem dX8_squeeze_95 : decode cX8_squeeze 95 = .ok (.ifCond .le 7, 3) := by decide +kernel
theorem dX8_squeeze_98 : decode cX8_squeeze 98 = .ok (.iload_n 3, 1) := by decide +kernel
theorem dX8_squeeze_99 : decode cX8_squeeze 99 = .ok (.goto 4, 3) := by decide +kernel
theorem dX8_squeeze_102 : decode cX8_squeeze 102 = .ok (.iconst 0, 1) := by decide +kernel
theorem dX8_squeeze_103 : decode cX8_squeeze 103 = .ok (.invokevirtual 183, 3) := by decide +kernel
theorem dX8_squeeze_106 : decode cX8_squeeze 106 = .ok (.iinc 4 (-1), 3) := by decide +kernel
theorem dX8_squeeze_109 : decode cX8_squeeze 109 = .ok (.goto (-44), 3) := by decide +kernel
theorem dX8_squeeze_112 : decode cX8_squeeze 112 = .ok (.return_, 1) := by decide +kernel
theorem dX8_passDay_0 : decode cX8_passDay 0 = .ok (.iconst 0, 1) := by decide +kernel
theorem dX8_passDay_1 : decode cX8_passDay 1 = .ok (.istore_n 1, 1) := by decide +kernel
theorem dX8_passDay_2 : decode cX8_passDay 2 = .ok (.iload_n 1, 1) := by decide +kernel
theorem dX8_passDay_3 : decode cX8_passDay 3 = .ok (.bipush 10, 2) := by decide +kernel
theorem dX8_passDay_5 : decode cX8_passDay 5 = .ok (.if_icmp .ge 16, 3) := by decide +kernel
theorem dX8_passDay_8 : decode cX8_passDay 8 = .ok (.aload_n 0, 1) := by decide +kernel
theorem dX8_passDay_9 : decode cX8_passDay 9 = .ok (.getfield 13, 3) := by decide +kernel
theorem dX8_passDay_12 : decode cX8_passDay 12 = .ok (.iload_n 1, 1) := by decide +kernel
theorem dX8_passDay_13 : decode cX8_passDay 13 = .ok (.iconst 0, 1) := by decide +kernel
theorem dX8_passDay_14 : decode cX8_passDay 14 = .ok (.iastore, 1) := by decide +kernel
theorem dX8_passDay_15 : decode cX8_passDay 15 = .ok (.iinc 1 1, 3) := by decide +kernel
theorem dX8_passDay_18 : decode cX8_passDay 18 = .ok (.goto (-16), 3) := by decide +kernel
theorem dX8_passDay_21 : decode cX8_passDay 21 = .ok (.aload_n 0, 1) := by decide +kernel
theorem dX8_passDay_22 : decode cX8_passDay 22 = .ok (.dup, 1) := by decide +kernel
theorem dX8_passDay_23 : decode cX8_passDay 23 = .ok (.getfield 168, 3) := by decide +kernel
theorem dX8_passDay_26 : decode cX8_passDay 26 = .ok (.iconst 1, 1) := by decide +kernel
theorem dX8_passDay_27 : decode cX8_passDay 27 = .ok (.iadd, 1) := by decide +kernel
theorem dX8_passDay_28 : decode cX8_passDay 28 = .ok (.putfield 168, 3) := by decide +kernel
theorem dX8_passDay_31 : decode cX8_passDay 31 = .ok (.return_, 1) := by decide +kernel
set_option maxRecDepth 20000 in
theorem ggX8_happen_X8_go : GoodIn wsX8_happen wsX8_go := goodIn_r _ [8, 9, 10, 11, 12, 13, 14, 15, 16, 7, 17, 18, 19, 20, 21, 2, 22, 23, 24, 25, 26, 27, 49, 50, 51, 52, 53, 54, 55, 56, 57, 58, 59, 60, 61, 62, 63, 64, 65, 66, 67, 68, 69, 70, 71, 72, 73, 74, 75, 76, 77, 78, 79, 80, 81, 82, 83, 84, 85] (by decide +kernel) (by decide +kernel)
set_option maxRecDepth 20000 in
theorem gX8_happen_X8_go : GoodIn wsX8_happen (wsV RX8 186 RX8 yX8_go wsX8_go) := goodIn_app (goodIn_of _ (by decide +kernel)) ggX8_happen_X8_go
set_option maxRecDepth 20000 in
theorem ggX8_happen_X8_squeeze : GoodIn wsX8_happen wsX8_squeeze := goodIn_r _ [31, 32, 33, 34, 7, 35, 12, 2, 22, 23, 24, 36, 37, 38, 39, 40, 41, 42, 43, 49, 50, 51, 52, 53, 54, 55, 56, 57, 58, 59, 60, 61, 62, 63, 64, 65, 66, 67, 68, 69, 70, 71, 72, 73, 74, 75, 76, 77, 78, 79, 80, 81, 82, 83, 84, 85] (by decide +kernel) (by decide +kernel)
set_option maxRecDepth 20000 in
theorem gX8_happen_X8_squeeze : GoodIn wsX8_happen (wsV RX8 189 RX8 yX8_squeeze wsX8_squeeze) := goodIn_app (goodIn_of _ (by decide +kernel)) ggX8_happen_X8_squeeze
set_option maxRecDepth 20000 in
theorem ggX8_happen_X8_less : GoodIn wsX8_happen wsX8_less := goodIn_r _ [43] (by decide +kernel) (by decide +kernel)
set_option maxRecDepth 20000 in
theorem gX8_happen_X8_less : GoodIn wsX8_happen (va_wsS RX8 180 yX8_less wsX8_less) := goodIn_app (goodIn_of _ (by decide +kernel)) ggX8_happen_X8_less
set_option maxRecDepth 20000 in
theorem ggX8_happen_X8_passDay : GoodIn wsX8_happen wsX8_passDay := goodIn_r _ [47, 40, 48, 49, 50, 51, 52, 53, 54, 55, 56, 57, 58, 59, 60, 61, 62, 63, 64, 65, 66, 67, 68, 69, 70, 71, 72, 73, 74, 75, 76, 77, 78, 79, 80, 81, 82, 83, 84, 85] (by decide +kernel) (by decide +kernel)
set_option maxRecDepth 20000 in
theorem gX8_happen_X8_passDay : GoodIn wsX8_happen (wsV RX8 192 RX8 yX8_passDay wsX8_passDay) := goodIn_app (goodIn_of _ (by decide +kernel)) ggX8_happen_X8_passDay
theorem dX8_happen_0 : decode cX8_happen 0 = .ok (.iload_n 1, 1) := by decide +kernel
theorem dX8_happen_1 : decode cX8_happen 1 = .ok (.tableswitch 134 0 5 #[39, 48, 58, 73, 82, 105], 39) := by decide +kernel
theorem dX8_happen_40 : decode cX8_happen 40 = .ok (.aload_n 0, 1) := by decide +kernel
theorem dX8_happen_41 : decode cX8_happen 41 = .ok (.iload_n 2, 1) := by decide +kernel
theorem dX8_happen_42 : decode cX8_happen 42 = .ok (.iload_n 3, 1) := by decide +kernel
theorem dX8_happen_43 : decode cX8_happen 43 = .ok (.invokevirtual 186, 3) := by decide +kernel
theorem dX8_happen_46 : decode cX8_happen 46 = .ok (.goto 93, 3) := by decide +kernel
theorem dX8_happen_49 : decode cX8_happen 49 = .ok (.aload_n 0, 1) := by decide +kernel
theorem dX8_happen_50 : decode cX8_happen 50 = .ok (.iload_n 2, 1) := by decide +kernel
theorem dX8_happen_51 : decode cX8_happen 51 = .ok (.iload_n 3, 1) := by decide +kernel
theorem dX8_happen_52 : decode cX8_happen 52 = .ok (.ineg, 1) := by decide +kernel
theorem dX8_happen_53 : decode cX8_happen 53 = .ok (.invokevirtual 186, 3) := by decide +kernel
theorem dX8_happen_56 : decode cX8_happen 56 = .ok (.goto 83, 3) := by decide +kernel
theorem dX8_happen_59 : decode cX8_happen 59 = .ok (.aload_n 0, 1) := by decide +kernel
theorem dX8_happen_60 : decode cX8_happen 60 = .ok (.dup, 1) := by decide +kernel
theorem dX8_happen_61 : decode cX8_happen 61 = .ok (.getfield 101, 3) := by decide +kernel
theorem dX8_happen_64 : decode cX8_happen 64 = .ok (.iconst 1, 1) := by decide +kernel
theorem dX8_happen_65 : decode cX8_happen 65 = .ok (.iload_n 2, 1) := by decide +kernel
theorem dX8_happen_66 : decode cX8_happen 66 = .ok (.ishl, 1) := by decide +kernel
theorem dX8_happen_67 : decode cX8_happen 67 = .ok (.ixor, 1) := by decide +kernel
theorem dX8_happen_68 : decode cX8_happen 68 = .ok (.putfield 101, 3) := by decide +kernel
theorem dX8_happen_71 : decode cX8_happen 71 = .ok (.goto 68, 3) := by decide +kernel
theorem dX8_happen_74 : decode cX8_happen 74 = .ok (.aload_n 0, 1) := by decide +kernel
theorem dX8_happen_75 : decode cX8_happen 75 = .ok (.iload_n 2, 1) := by decide +kernel
theorem dX8_happen_76 : decode cX8_happen 76 = .ok (.iload_n 3, 1) := by decide +kernel
theorem dX8_happen_77 : decode cX8_happen 77 = .ok (.invokevirtual 189, 3) := by decide +kernel
theorem dX8_happen_80 : decode cX8_happen 80 = .ok (.goto 59, 3) := by decide +kernel
theorem dX8_happen_83 : decode cX8_happen 83 = .ok (.aload_n 0, 1) := by decide +kernel
theorem dX8_happen_84 : decode cX8_happen 84 = .ok (.getfield 16, 3) := by decide +kernel
theorem dX8_happen_87 : decode cX8_happen 87 = .ok (.iload_n 2, 1) := by decide +kernel
theorem dX8_happen_88 : decode cX8_happen 88 = .ok (.dup2, 1) := by decide +kernel
theorem dX8_happen_89 : decode cX8_happen 89 = .ok (.iaload, 1) := by decide +kernel
theorem dX8_happen_90 : decode cX8_happen 90 = .ok (.iconst 1, 1) := by decide +kernel
theorem dX8_happen_91 : decode cX8_happen 91 = .ok (.iadd, 1) := by decide +kernel
theorem dX8_happen_92 : decode cX8_happen 92 = .ok (.iastore, 1) := by decide +kernel
theorem dX8_happen_93 : decode cX8_happen 93 = .ok (.aload_n 0, 1) := by decide +kernel
theorem dX8_happen_94 : decode cX8_happen 94 = .ok (.dup, 1) := by decide +kernel
theorem dX8_happen_95 : decode cX8_happen 95 = .ok (.getfield 77, 3) := by decide +kernel
theorem dX8_happen_98 : decode cX8_happen 98 = .ok (.iconst 1, 1) := by decide +kernel
theorem dX8_happen_99 : decode cX8_happen 99 = .ok (.isub, 1) := by decide +kernel
theorem dX8_happen_100 : decode cX8_happen 100 = .ok (.putfield 77, 3) := by decide +kernel
theorem dX8_happen_103 : decode cX8_happen 103 = .ok (.goto 36, 3) := by decide +kernel
theorem dX8_happen_106 : decode cX8_happen 106 = .ok (.aload_n 0, 1) := by decide +kernel
theorem dX8_happen_107 : decode cX8_happen 107 = .ok (.getfield 16, 3) := by decide +kernel
theorem dX8_happen_110 : decode cX8_happen 110 = .ok (.iload_n 2, 1) := by decide +kernel
theorem dX8_happen_111 : decode cX8_happen 111 = .ok (.dup2, 1) := by decide +kernel
theorem dX8_happen_112 : decode cX8_happen 112 = .ok (.iaload, 1) := by decide +kernel
theorem dX8_happen_113 : decode cX8_happen 113 = .ok (.iconst 1, 1) := by decide +kernel
theorem dX8_happen_114 : decode cX8_happen 114 = .ok (.isub, 1) := by decide +kernel
theorem dX8_happen_115 : decode cX8_happen 115 = .ok (.iastore, 1) := by decide +kernel
theorem dX8_happen_116 : decode cX8_happen 116 = .ok (.aload_n 0, 1) := by decide +kernel
theorem dX8_happen_117 : decode cX8_happen 117 = .ok (.sipush 999, 3) := by decide +kernel
theorem dX8_happen_120 : decode cX8_happen 120 = .ok (.aload_n 0, 1) := by decide +kernel
theorem dX8_happen_121 : decode cX8_happen 121 = .ok (.getfield 77, 3) := by decide +kernel
theorem dX8_happen_124 : decode cX8_happen 124 = .ok (.iconst 1, 1) := by decide +kernel
theorem dX8_happen_125 : decode cX8_happen 125 = .ok (.iadd, 1) := by decide +kernel
theorem dX8_happen_126 : decode cX8_happen 126 = .ok (.invokestatic 180, 3) := by decide +kernel
theorem dX8_happen_129 : decode cX8_happen 129 = .ok (.putfield 77, 3) := by decide +kernel
theorem dX8_happen_132 : decode cX8_happen 132 = .ok (.goto 7, 3) := by decide +kernel
theorem dX8_happen_135 : decode cX8_happen 135 = .ok (.aload_n 0, 1) := by decide +kernel
theorem dX8_happen_136 : decode cX8_happen 136 = .ok (.invokevirtual 192, 3) := by decide +kernel
theorem dX8_happen_139 : decode cX8_happen 139 = .ok (.return_, 1) := by decide +kernel
theorem dX8_keepNow_0 : decode cX8_keepNow 0 = .ok (.iconst 0, 1) := by decide +kernel
theorem dX8_keepNow_1 : decode cX8_keepNow 1 = .ok (.istore_n 1, 1) := by decide +kernel
theorem dX8_keepNow_2 : decode cX8_keepNow 2 = .ok (.iload_n 1, 1) := by decide +kernel
theorem dX8_keepNow_3 : decode cX8_keepNow 3 = .ok (.bipush 10, 2) := by decide +kernel
theorem dX8_keepNow_5 : decode cX8_keepNow 5 = .ok (.if_icmp .ge 36, 3) := by decide +kernel
theorem dX8_keepNow_8 : decode cX8_keepNow 8 = .ok (.aload_n 0, 1) := by decide +kernel
theorem dX8_keepNow_9 : decode cX8_keepNow 9 = .ok (.getfield 40, 3) := by decide +kernel
theorem dX8_keepNow_12 : decode cX8_keepNow 12 = .ok (.iload_n 1, 1) := by decide +kernel
theorem dX8_keepNow_13 : decode cX8_keepNow 13 = .ok (.aload_n 0, 1) := by decide +kernel
theorem dX8_keepNow_14 : decode cX8_keepNow 14 = .ok (.getfield 7, 3) := by decide +kernel
theorem dX8_keepNow_17 : decode cX8_keepNow 17 = .ok (.iload_n 1, 1) := by decide +kernel
theorem dX8_keepNow_18 : decode cX8_keepNow 18 = .ok (.iaload, 1) := by decide +kernel
theorem dX8_keepNow_19 : decode cX8_keepNow 19 = .ok (.iastore, 1) := by decide +kernel
theorem dX8_keepNow_20 : decode cX8_keepNow 20 = .ok (.aload_n 0, 1) := by decide +kernel
theorem dX8_keepNow_21 : decode cX8_keepNow 21 = .ok (.getfield 40, 3) := by decide +kernel
theorem dX8_keepNow_24 : decode cX8_keepNow 24 = .ok (.bipush 10, 2) := by decide +kernel
theorem dX8_keepNow_26 : decode cX8_keepNow 26 = .ok (.iload_n 1, 1) := by decide +kernel
theorem dX8_keepNow_27 : decode cX8_keepNow 27 = .ok (.iadd, 1) := by decide +kernel
theorem dX8_keepNow_28 : decode cX8_keepNow 28 = .ok (.aload_n 0, 1) := by decide +kernel
theorem dX8_keepNow_29 : decode cX8_keepNow 29 = .ok (.getfield 13, 3) := by decide +kernel
theorem dX8_keepNow_32 : decode cX8_keepNow 32 = .ok (.iload_n 1, 1) := by decide +kernel
theorem dX8_keepNow_33 : decode cX8_keepNow 33 = .ok (.iaload, 1) := by decide +kernel
theorem dX8_keepNow_34 : decode cX8_keepNow 34 = .ok (.iastore, 1) := by decide +kernel
theorem dX8_keepNow_35 : decode cX8_keepNow 35 = .ok (.iinc 1 1, 3) := by decide +kernel
theorem dX8_keepNow_38 : decode cX8_keepNow 38 = .ok (.goto (-36), 3) := by decide +kernel
theorem dX8_keepNow_41 : decode cX8_keepNow 41 = .ok (.iconst 0, 1) := by decide +kernel
theorem dX8_keepNow_42 : decode cX8_keepNow 42 = .ok (.istore_n 1, 1) := by decide +kernel
theorem dX8_keepNow_43 : decode cX8_keepNow 43 = .ok (.iload_n 1, 1) := by decide +kernel
theorem dX8_keepNow_44 : decode cX8_keepNow 44 = .ok (.bipush 9, 2) := by decide +kernel
theorem dX8_keepNow_46 : decode cX8_keepNow 46 = .ok (.if_icmp .ge 24, 3) := by decide +kernel
theorem dX8_keepNow_49 : decode cX8_keepNow 49 = .ok (.aload_n 0, 1) := by decide +kernel
theorem dX8_keepNow_50 : decode cX8_keepNow 50 = .ok (.getfield 40, 3) := by decide +kernel
theorem dX8_keepNow_53 : decode cX8_keepNow 53 = .ok (.bipush 20, 2) := by decide +kernel
theorem dX8_keepNow_55 : decode cX8_keepNow 55 = .ok (.iload_n 1, 1) := by decide +kernel
theorem dX8_keepNow_56 : decode cX8_keepNow 56 = .ok (.iadd, 1) := by decide +kernel
theorem dX8_keepNow_57 : decode cX8_keepNow 57 = .ok (.aload_n 0, 1) := by decide +kernel
theorem dX8_keepNow_58 : decode cX8_keepNow 58 = .ok (.getfield 16, 3) := by decide +kernel
theorem dX8_keepNow_61 : decode cX8_keepNow 61 = .ok (.iload_n 1, 1) := by decide +kernel
theorem dX8_keepNow_62 : decode cX8_keepNow 62 = .ok (.iaload, 1) := by decide +kernel
theorem dX8_keepNow_63 : decode cX8_keepNow 63 = .ok (.iastore, 1) := by decide +kernel
theorem dX8_keepNow_64 : decode cX8_keepNow 64 = .ok (.iinc 1 1, 3) := by decide +kernel
theorem dX8_keepNow_67 : decode cX8_keepNow 67 = .ok (.goto (-24), 3) := by decide +kernel
theorem dX8_keepNow_70 : decode cX8_keepNow 70 = .ok (.aload_n 0, 1) := by decide +kernel
theorem dX8_keepNow_71 : decode cX8_keepNow 71 = .ok (.getfield 40, 3) := by decide +kernel
theorem dX8_keepNow_74 : decode cX8_keepNow 74 = .ok (.bipush 29, 2) := by decide +kernel
theorem dX8_keepNow_76 : decode cX8_keepNow 76 = .ok (.aload_n 0, 1) := by decide +kernel
theorem dX8_keepNow_77 : decode cX8_keepNow 77 = .ok (.getfield 101, 3) := by decide +kernel
theorem dX8_keepNow_80 : decode cX8_keepNow 80 = .ok (.iastore, 1) := by decide +kernel
theorem dX8_keepNow_81 : decode cX8_keepNow 81 = .ok (.aload_n 0, 1) := by decide +kernel
theorem dX8_keepNow_82 : decode cX8_keepNow 82 = .ok (.getfield 40, 3) := by decide +kernel
theorem dX8_keepNow_85 : decode cX8_keepNow 85 = .ok (.bipush 30, 2) := by decide +kernel
theorem dX8_keepNow_87 : decode cX8_keepNow 87 = .ok (.aload_n 0, 1) := by decide +kernel
theorem dX8_keepNow_88 : decode cX8_keepNow 88 = .ok (.getfield 77, 3) := by decide +kernel
theorem dX8_keepNow_91 : decode cX8_keepNow 91 = .ok (.iastore, 1) := by decide +kernel
theorem dX8_keepNow_92 : decode cX8_keepNow 92 = .ok (.aload_n 0, 1) := by decide +kernel
theorem dX8_keepNow_93 : decode cX8_keepNow 93 = .ok (.getfield 40, 3) := by decide +kernel
theorem dX8_keepNow_96 : decode cX8_keepNow 96 = .ok (.bipush 31, 2) := by decide +kernel
theorem dX8_keepNow_98 : decode cX8_keepNow 98 = .ok (.aload_n 0, 1) := by decide +kernel
theorem dX8_keepNow_99 : decode cX8_keepNow 99 = .ok (.getfield 168, 3) := by decide +kernel
theorem dX8_keepNow_102 : decode cX8_keepNow 102 = .ok (.iastore, 1) := by decide +kernel
theorem dX8_keepNow_103 : decode cX8_keepNow 103 = .ok (.return_, 1) := by decide +kernel
theorem dX8_back_0 : decode cX8_back 0 = .ok (.iconst 0, 1) := by decide +kernel
theorem dX8_back_1 : decode cX8_back 1 = .ok (.istore_n 2, 1) := by decide +kernel
theorem dX8_back_2 : decode cX8_back 2 = .ok (.iload_n 2, 1) := by decide +kernel
theorem dX8_back_3 : decode cX8_back 3 = .ok (.bipush 10, 2) := by decide +kernel
theorem dX8_back_5 : decode cX8_back 5 = .ok (.if_icmp .ge 36, 3) := by decide +kernel
theorem dX8_back_8 : decode cX8_back 8 = .ok (.aload_n 0, 1) := by decide +kernel
theorem dX8_back_9 : decode cX8_back 9 = .ok (.getfield 7, 3) := by decide +kernel
theorem dX8_back_12 : decode cX8_back 12 = .ok (.iload_n 2, 1) := by decide +kernel
theorem dX8_back_13 : decode cX8_back 13 = .ok (.aload_n 0, 1) := by decide +kernel
theorem dX8_back_14 : decode cX8_back 14 = .ok (.getfield 40, 3) := by decide +kernel
theorem dX8_back_17 : decode cX8_back 17 = .ok (.iload_n 2, 1) := by decide +kernel
theorem dX8_back_18 : decode cX8_back 18 = .ok (.iaload, 1) := by decide +kernel
theorem dX8_back_19 : decode cX8_back 19 = .ok (.iastore, 1) := by decide +kernel
theorem dX8_back_20 : decode cX8_back 20 = .ok (.aload_n 0, 1) := by decide +kernel
theorem dX8_back_21 : decode cX8_back 21 = .ok (.getfield 13, 3) := by decide +kernel
theorem dX8_back_24 : decode cX8_back 24 = .ok (.iload_n 2, 1) := by decide +kernel
theorem dX8_back_25 : decode cX8_back 25 = .ok (.aload_n 0, 1) := by decide +kernel
theorem dX8_back_26 : decode cX8_back 26 = .ok (.getfield 40, 3) := by decide +kernel
theorem dX8_back_29 : decode cX8_back 29 = .ok (.bipush 10, 2) := by decide +kernel
theorem dX8_back_31 : decode cX8_back 31 = .ok (.iload_n 2, 1) := by decide +kernel
theorem dX8_back_32 : decode cX8_back 32 = .ok (.iadd, 1) := by decide +kernel
theorem dX8_back_33 : decode cX8_back 33 = .ok (.iaload, 1) := by decide +kernel
theorem dX8_back_34 : decode cX8_back 34 = .ok (.iastore, 1) := by decide +kernel
theorem dX8_back_35 : decode cX8_back 35 = .ok (.iinc 2 1, 3) := by decide +kernel
theorem dX8_back_38 : decode cX8_back 38 = .ok (.goto (-36), 3) := by decide +kernel
theorem dX8_back_41 : decode cX8_back 41 = .ok (.iconst 0, 1) := by decide +kernel
theorem dX8_back_42 : decode cX8_back 42 = .ok (.istore_n 2, 1) := by decide +kernel
theorem dX8_back_43 : decode cX8_back 43 = .ok (.iload_n 2, 1) := by decide +kernel
theorem dX8_back_44 : decode cX8_back 44 = .ok (.bipush 9, 2) := by decide +kernel
theorem dX8_back_46 : decode cX8_back 46 = .ok (.if_icmp .ge 24, 3) := by decide +kernel
theorem dX8_back_49 : decode cX8_back 49 = .ok (.aload_n 0, 1) := by decide +kernel
theorem dX8_back_50 : decode cX8_back 50 = .ok (.getfield 16, 3) := by decide +kernel
theorem dX8_back_53 : decode cX8_back 53 = .ok (.iload_n 2, 1) := by decide +kernel
theorem dX8_back_54 : decode cX8_back 54 = .ok (.aload_n 0, 1) := by decide +kernel
theorem dX8_back_55 : decode cX8_back 55 = .ok (.getfield 40, 3) := by decide +kernel
theorem dX8_back_58 : decode cX8_back 58 = .ok (.bipush 20, 2) := by decide +kernel
theorem dX8_back_60 : decode cX8_back 60 = .ok (.iload_n 2, 1) := by decide +kernel
theorem dX8_back_61 : decode cX8_back 61 = .ok (.iadd, 1) := by decide +kernel
theorem dX8_back_62 : decode cX8_back 62 = .ok (.iaload, 1) := by decide +kernel
theorem dX8_back_63 : decode cX8_back 63 = .ok (.iastore, 1) := by decide +kernel
theorem dX8_back_64 : decode cX8_back 64 = .ok (.iinc 2 1, 3) := by decide +kernel
theorem dX8_back_67 : decode cX8_back 67 = .ok (.goto (-24), 3) := by decide +kernel
theorem dX8_back_70 : decode cX8_back 70 = .ok (.aload_n 0, 1) := by decide +kernel
theorem dX8_back_71 : decode cX8_back 71 = .ok (.aload_n 0, 1) := by decide +kernel
theorem dX8_back_72 : decode cX8_back 72 = .ok (.getfield 40, 3) := by decide +kernel
theorem dX8_back_75 : decode cX8_back 75 = .ok (.bipush 29, 2) := by decide +kernel
theorem dX8_back_77 : decode cX8_back 77 = .ok (.iaload, 1) := by decide +kernel
theorem dX8_back_78 : decode cX8_back 78 = .ok (.putfield 101, 3) := by decide +kernel
theorem dX8_back_81 : decode cX8_back 81 = .ok (.aload_n 0, 1) := by decide +kernel
theorem dX8_back_82 : decode cX8_back 82 = .ok (.aload_n 0, 1) := by decide +kernel
theorem dX8_back_83 : decode cX8_back 83 = .ok (.getfield 40, 3) := by decide +kernel
theorem dX8_back_86 : decode cX8_back 86 = .ok (.bipush 30, 2) := by decide +kernel
theorem dX8_back_88 : decode cX8_back 88 = .ok (.iaload, 1) := by decide +kernel
theorem dX8_back_89 : decode cX8_back 89 = .ok (.putfield 77, 3) := by decide +kernel
theorem dX8_back_92 : decode cX8_back 92 = .ok (.aload_n 0, 1) := by decide +kernel
theorem dX8_back_93 : decode cX8_back 93 = .ok (.aload_n 0, 1) := by decide +kernel
theorem dX8_back_94 : decode cX8_back 94 = .ok (.getfield 40, 3) := by decide +kernel
theorem dX8_back_97 : decode cX8_back 97 = .ok (.bipush 31, 2) := by decide +kernel
theorem dX8_back_99 : decode cX8_back 99 = .ok (.iaload, 1) := by decide +kernel
theorem dX8_back_100 : decode cX8_back 100 = .ok (.putfield 168, 3) := by decide +kernel
theorem dX8_back_103 : decode cX8_back 103 = .ok (.iload_n 1, 1) := by decide +kernel
theorem dX8_back_104 : decode cX8_back 104 = .ok (.ireturn, 1) := by decide +kernel
set_option maxRecDepth 20000 in
theorem ggX8_leastOf_X8_has : GoodIn wsX8_leastOf wsX8_has := goodIn_r _ [4] (by decide +kernel) (by decide +kernel)
set_option maxRecDepth 20000 in
theorem gX8_leastOf_X8_has : GoodIn wsX8_leastOf (va_wsS RX8 153 yX8_has wsX8_has) := goodIn_app (goodIn_of _ (by decide +kernel)) ggX8_leastOf_X8_has
theorem dX8_leastOf_0 : decode cX8_leastOf 0 = .ok (.bipush (-6), 2) := by decide +kernel
theorem dX8_leastOf_2 : decode cX8_leastOf 2 = .ok (.istore_n 1, 1) := by decide +kernel
theorem dX8_leastOf_3 : decode cX8_leastOf 3 = .ok (.bipush 9, 2) := by decide +kernel
theorem dX8_leastOf_5 : decode cX8_leastOf 5 = .ok (.istore_n 2, 1) := by decide +kernel
theorem dX8_leastOf_6 : decode cX8_leastOf 6 = .ok (.iload_n 2, 1) := by decide +kernel
theorem dX8_leastOf_7 : decode cX8_leastOf 7 = .ok (.ifCond .lt 23, 3) := by decide +kernel
theorem dX8_leastOf_10 : decode cX8_leastOf 10 = .ok (.iload_n 0, 1) := by decide +kernel
theorem dX8_leastOf_11 : decode cX8_leastOf 11 = .ok (.iload_n 2, 1) := by decide +kernel
theorem dX8_leastOf_12 : decode cX8_leastOf 12 = .ok (.invokestatic 153, 3) := by decide +kernel
theorem dX8_leastOf_15 : decode cX8_leastOf 15 = .ok (.ifCond .eq 7, 3) := by decide +kernel
theorem dX8_leastOf_18 : decode cX8_leastOf 18 = .ok (.iload_n 2, 1) := by decide +kernel
theorem dX8_leastOf_19 : decode cX8_leastOf 19 = .ok (.goto 4, 3) := by decide +kernel
theorem dX8_leastOf_22 : decode cX8_leastOf 22 = .ok (.iload_n 1, 1) := by decide +kernel
theorem dX8_leastOf_23 : decode cX8_leastOf 23 = .ok (.istore_n 1, 1) := by decide +kernel
theorem dX8_leastOf_24 : decode cX8_leastOf 24 = .ok (.iinc 2 (-1), 3) := by decide +kernel
theorem dX8_leastOf_27 : decode cX8_leastOf 27 = .ok (.goto (-21), 3) := by decide +kernel
theorem dX8_leastOf_30 : decode cX8_leastOf 30 = .ok (.iload_n 1, 1) := by decide +kernel
theorem dX8_leastOf_31 : decode cX8_leastOf 31 = .ok (.ireturn, 1) := by decide +kernel
set_option maxRecDepth 20000 in
theorem ggX8_goOne_X8_happen : GoodIn wsX8_goOne wsX8_happen := goodIn_r _ [11, 12, 13, 14, 15, 16, 17, 10, 18, 19, 1, 20, 21, 22, 23, 24, 25, 26, 27, 28, 29, 30, 31, 32, 33, 34, 35, 36, 37, 38, 39, 40, 41, 42, 43, 44, 45, 46, 47, 48, 49, 50, 51, 52, 53, 54, 55, 56, 57, 64, 65, 66, 67, 68, 69, 70, 71, 72, 73, 74, 75, 76, 77, 78, 79, 80, 81, 82, 83, 84, 85, 86, 87, 88, 89, 90, 91, 92, 93, 94, 95, 96, 97, 98, 99, 100] (by decide +kernel) (by decide +kernel)
set_option maxRecDepth 20000 in
theorem gX8_goOne_X8_happen : GoodIn wsX8_goOne (wsV RX8 195 RX8 yX8_happen wsX8_happen) := goodIn_app (goodIn_of _ (by decide +kernel)) ggX8_goOne_X8_happen
set_option maxRecDepth 20000 in
theorem ggX8_goOne_X8_leastOf : GoodIn wsX8_goOne wsX8_leastOf := goodIn_r _ [60, 61, 62, 10, 63] (by decide +kernel) (by decide +kernel)
set_option maxRecDepth 20000 in
theorem gX8_goOne_X8_leastOf : GoodIn wsX8_goOne (va_wsS RX8 202 yX8_leastOf wsX8_leastOf) := goodIn_app (goodIn_of _ (by decide +kernel)) ggX8_goOne_X8_leastOf
theorem dX8_goOne_0 : decode cX8_goOne 0 = .ok (.aload_n 0, 1) := by decide +kernel
theorem dX8_goOne_1 : decode cX8_goOne 1 = .ok (.iconst 0, 1) := by decide +kernel
theorem dX8_goOne_2 : decode cX8_goOne 2 = .ok (.putfield 171, 3) := by decide +kernel
theorem dX8_goOne_5 : decode cX8_goOne 5 = .ok (.aload_n 0, 1) := by decide +kernel
theorem dX8_goOne_6 : decode cX8_goOne 6 = .ok (.aload_n 0, 1) := by decide +kernel
theorem dX8_goOne_7 : decode cX8_goOne 7 = .ok (.getfield 28, 3) := by decide +kernel
theorem dX8_goOne_10 : decode cX8_goOne 10 = .ok (.iload_n 1, 1) := by decide +kernel
theorem dX8_goOne_11 : decode cX8_goOne 11 = .ok (.iaload, 1) := by decide +kernel
theorem dX8_goOne_12 : decode cX8_goOne 12 = .ok (.aload_n 0, 1) := by decide +kernel
theorem dX8_goOne_13 : decode cX8_goOne 13 = .ok (.getfield 31, 3) := by decide +kernel
theorem dX8_goOne_16 : decode cX8_goOne 16 = .ok (.iload_n 1, 1) := by decide +kernel
theorem dX8_goOne_17 : decode cX8_goOne 17 = .ok (.iaload, 1) := by decide +kernel
theorem dX8_goOne_18 : decode cX8_goOne 18 = .ok (.aload_n 0, 1) := by decide +kernel
theorem dX8_goOne_19 : decode cX8_goOne 19 = .ok (.getfield 34, 3) := by decide +kernel
theorem dX8_goOne_22 : decode cX8_goOne 22 = .ok (.iload_n 1, 1) := by decide +kernel
theorem dX8_goOne_23 : decode cX8_goOne 23 = .ok (.iaload, 1) := by decide +kernel
theorem dX8_goOne_24 : decode cX8_goOne 24 = .ok (.invokevirtual 195, 3) := by decide +kernel
theorem dX8_goOne_27 : decode cX8_goOne 27 = .ok (.aload_n 0, 1) := by decide +kernel
theorem dX8_goOne_28 : decode cX8_goOne 28 = .ok (.getfield 171, 3) := by decide +kernel
theorem dX8_goOne_31 : decode cX8_goOne 31 = .ok (.ifCond .eq 26, 3) := by decide +kernel
theorem dX8_goOne_34 : decode cX8_goOne 34 = .ok (.aload_n 0, 1) := by decide +kernel
theorem dX8_goOne_35 : decode cX8_goOne 35 = .ok (.getfield 199, 3) := by decide +kernel
theorem dX8_goOne_38 : decode cX8_goOne 38 = .ok (.ifCond .ge 19, 3) := by decide +kernel
theorem dX8_goOne_41 : decode cX8_goOne 41 = .ok (.aload_n 0, 1) := by decide +kernel
theorem dX8_goOne_42 : decode cX8_goOne 42 = .ok (.iload_n 1, 1) := by decide +kernel
theorem dX8_goOne_43 : decode cX8_goOne 43 = .ok (.putfield 199, 3) := by decide +kernel
theorem dX8_goOne_46 : decode cX8_goOne 46 = .ok (.aload_n 0, 1) := by decide +kernel
theorem dX8_goOne_47 : decode cX8_goOne 47 = .ok (.aload_n 0, 1) := by decide +kernel
theorem dX8_goOne_48 : decode cX8_goOne 48 = .ok (.getfield 171, 3) := by decide +kernel
theorem dX8_goOne_51 : decode cX8_goOne 51 = .ok (.invokestatic 202, 3) := by decide +kernel
theorem dX8_goOne_54 : decode cX8_goOne 54 = .ok (.putfield 205, 3) := by decide +kernel
theorem dX8_goOne_57 : decode cX8_goOne 57 = .ok (.return_, 1) := by decide +kernel
set_option maxRecDepth 20000 in
theorem ggX8_goDays_X8_whyNot : GoodIn wsX8_goDays wsX8_whyNot := goodIn_r _ [14, 15, 16, 17, 18, 13, 19, 20, 21, 22, 23, 24, 25, 26, 27, 28, 29, 30, 31, 32, 33, 34, 35, 36, 37, 38, 39, 40, 41, 42, 43, 44, 45, 46, 47, 48, 49, 50, 51, 52, 53, 54, 55, 91, 92, 93, 94, 95, 96, 97, 98, 99, 100, 101, 102, 103, 104, 105, 106, 107, 108, 109, 110, 111, 112, 113, 114, 115, 116, 117, 118, 119, 120, 121, 122, 123, 124, 125, 126, 127] (by decide +kernel) (by decide +kernel)
set_option maxRecDepth 20000 in
theorem gX8_goDays_X8_whyNot : GoodIn wsX8_goDays (wsV RX8 214 RX8 yX8_whyNot wsX8_whyNot) := goodIn_app (goodIn_of _ (by decide +kernel)) ggX8_goDays_X8_whyNot
set_option maxRecDepth 20000 in
theorem ggX8_goDays_X8_goOne : GoodIn wsX8_goDays wsX8_goOne := goodIn_r _ [59, 60, 7, 8, 9, 3, 4, 61, 62, 63, 13, 64, 22, 36, 47, 65, 66, 67, 68, 23, 5, 20, 31, 27, 28, 29, 30, 32, 33, 34, 35, 37, 38, 39, 69, 70, 71, 72, 73, 74, 75, 52, 53, 54, 55, 76, 77, 78, 79, 80, 81, 82, 83, 84, 85, 86, 87, 15, 88, 89, 90, 40, 41, 42, 91, 92, 93, 94, 95, 96, 97, 98, 99, 100, 101, 102, 103, 104, 105, 106, 107, 108, 109, 110, 111, 112, 113, 114, 115, 116, 117, 118, 119, 120, 121, 122, 123, 124, 125, 126, 127] (by decide +kernel) (by decide +kernel)
set_option maxRecDepth 20000 in
theorem gX8_goDays_X8_goOne : GoodIn wsX8_goDays (wsV RX8 218 RX8 yX8_goOne wsX8_goOne) := goodIn_app (goodIn_of _ (by decide +kernel)) ggX8_goDays_X8_goOne
theorem dX8_goDays_0 : decode cX8_goDays 0 = .ok (.aload_n 0, 1) := by decide +kernel
theorem dX8_goDays_1 : decode cX8_goDays 1 = .ok (.bipush (-6), 2) := by decide +kernel
theorem dX8_goDays_3 : decode cX8_goDays 3 = .ok (.putfield 208, 3) := by decide +kernel
theorem dX8_goDays_6 : decode cX8_goDays 6 = .ok (.aload_n 0, 1) := by decide +kernel
theorem dX8_goDays_7 : decode cX8_goDays 7 = .ok (.bipush (-6), 2) := by decide +kernel
theorem dX8_goDays_9 : decode cX8_goDays 9 = .ok (.putfield 211, 3) := by decide +kernel
theorem dX8_goDays_12 : decode cX8_goDays 12 = .ok (.aload_n 0, 1) := by decide +kernel
theorem dX8_goDays_13 : decode cX8_goDays 13 = .ok (.bipush (-6), 2) := by decide +kernel
theorem dX8_goDays_15 : decode cX8_goDays 15 = .ok (.putfield 199, 3) := by decide +kernel
theorem dX8_goDays_18 : decode cX8_goDays 18 = .ok (.aload_n 0, 1) := by decide +kernel
theorem dX8_goDays_19 : decode cX8_goDays 19 = .ok (.bipush (-6), 2) := by decide +kernel
theorem dX8_goDays_21 : decode cX8_goDays 21 = .ok (.putfield 205, 3) := by decide +kernel
theorem dX8_goDays_24 : decode cX8_goDays 24 = .ok (.aload_n 0, 1) := by decide +kernel
theorem dX8_goDays_25 : decode cX8_goDays 25 = .ok (.iconst 0, 1) := by decide +kernel
theorem dX8_goDays_26 : decode cX8_goDays 26 = .ok (.putfield 174, 3) := by decide +kernel
theorem dX8_goDays_29 : decode cX8_goDays 29 = .ok (.iconst 0, 1) := by decide +kernel
theorem dX8_goDays_30 : decode cX8_goDays 30 = .ok (.istore_n 1, 1) := by decide +kernel
theorem dX8_goDays_31 : decode cX8_goDays 31 = .ok (.iload_n 1, 1) := by decide +kernel
theorem dX8_goDays_32 : decode cX8_goDays 32 = .ok (.aload_n 0, 1) := by decide +kernel
theorem dX8_goDays_33 : decode cX8_goDays 33 = .ok (.getfield 115, 3) := by decide +kernel
theorem dX8_goDays_36 : decode cX8_goDays 36 = .ok (.if_icmp .ge 76, 3) := by decide +kernel
theorem dX8_goDays_39 : decode cX8_goDays 39 = .ok (.aload_n 0, 1) := by decide +kernel
theorem dX8_goDays_40 : decode cX8_goDays 40 = .ok (.getfield 208, 3) := by decide +kernel
theorem dX8_goDays_43 : decode cX8_goDays 43 = .ok (.ifCond .ge 69, 3) := by decide +kernel
theorem dX8_goDays_46 : decode cX8_goDays 46 = .ok (.aload_n 0, 1) := by decide +kernel
theorem dX8_goDays_47 : decode cX8_goDays 47 = .ok (.aload_n 0, 1) := by decide +kernel
theorem dX8_goDays_48 : decode cX8_goDays 48 = .ok (.getfield 28, 3) := by decide +kernel
theorem dX8_goDays_51 : decode cX8_goDays 51 = .ok (.iload_n 1, 1) := by decide +kernel
theorem dX8_goDays_52 : decode cX8_goDays 52 = .ok (.iaload, 1) := by decide +kernel
theorem dX8_goDays_53 : decode cX8_goDays 53 = .ok (.aload_n 0, 1) := by decide +kernel
theorem dX8_goDays_54 : decode cX8_goDays 54 = .ok (.getfield 31, 3) := by decide +kernel
theorem dX8_goDays_57 : decode cX8_goDays 57 = .ok (.iload_n 1, 1) := by decide +kernel
theorem dX8_goDays_58 : decode cX8_goDays 58 = .ok (.iaload, 1) := by decide +kernel
theorem dX8_goDays_59 : decode cX8_goDays 59 = .ok (.aload_n 0, 1) := by decide +kernel
theorem dX8_goDays_60 : decode cX8_goDays 60 = .ok (.getfield 34, 3) := by decide +kernel
theorem dX8_goDays_63 : decode cX8_goDays 63 = .ok (.iload_n 1, 1) := by decide +kernel
theorem dX8_goDays_64 : decode cX8_goDays 64 = .ok (.iaload, 1) := by decide +kernel
theorem dX8_goDays_65 : decode cX8_goDays 65 = .ok (.invokevirtual 214, 3) := by decide +kernel
theorem dX8_goDays_68 : decode cX8_goDays 68 = .ok (.istore_n 2, 1) := by decide +kernel
theorem dX8_goDays_69 : decode cX8_goDays 69 = .ok (.aload_n 0, 1) := by decide +kernel
theorem dX8_goDays_70 : decode cX8_goDays 70 = .ok (.iload_n 2, 1) := by decide +kernel
theorem dX8_goDays_71 : decode cX8_goDays 71 = .ok (.ifCond .le 7, 3) := by decide +kernel
theorem dX8_goDays_74 : decode cX8_goDays 74 = .ok (.iload_n 1, 1) := by decide +kernel
theorem dX8_goDays_75 : decode cX8_goDays 75 = .ok (.goto 5, 3) := by decide +kernel
theorem dX8_goDays_78 : decode cX8_goDays 78 = .ok (.bipush (-6), 2) := by decide +kernel
theorem dX8_goDays_80 : decode cX8_goDays 80 = .ok (.putfield 208, 3) := by decide +kernel
theorem dX8_goDays_83 : decode cX8_goDays 83 = .ok (.aload_n 0, 1) := by decide +kernel
theorem dX8_goDays_84 : decode cX8_goDays 84 = .ok (.iload_n 2, 1) := by decide +kernel
theorem dX8_goDays_85 : decode cX8_goDays 85 = .ok (.ifCond .le 7, 3) := by decide +kernel
theorem dX8_goDays_88 : decode cX8_goDays 88 = .ok (.iload_n 2, 1) := by decide +kernel
theorem dX8_goDays_89 : decode cX8_goDays 89 = .ok (.goto 5, 3) := by decide +kernel
theorem dX8_goDays_92 : decode cX8_goDays 92 = .ok (.bipush (-6), 2) := by decide +kernel
theorem dX8_goDays_94 : decode cX8_goDays 94 = .ok (.putfield 211, 3) := by decide +kernel
theorem dX8_goDays_97 : decode cX8_goDays 97 = .ok (.iload_n 2, 1) := by decide +kernel
theorem dX8_goDays_98 : decode cX8_goDays 98 = .ok (.ifCond .ne 8, 3) := by decide +kernel
theorem dX8_goDays_101 : decode cX8_goDays 101 = .ok (.aload_n 0, 1) := by decide +kernel
theorem dX8_goDays_102 : decode cX8_goDays 102 = .ok (.iload_n 1, 1) := by decide +kernel
theorem dX8_goDays_103 : decode cX8_goDays 103 = .ok (.invokevirtual 218, 3) := by decide +kernel
theorem dX8_goDays_106 : decode cX8_goDays 106 = .ok (.iinc 1 1, 3) := by decide +kernel
theorem dX8_goDays_109 : decode cX8_goDays 109 = .ok (.goto (-78), 3) := by decide +kernel
theorem dX8_goDays_112 : decode cX8_goDays 112 = .ok (.return_, 1) := by decide +kernel
set_option maxRecDepth 20000 in
theorem ggX8_refusal_X8_keepNow : GoodIn wsX8_refusal wsX8_keepNow := goodIn_r _ [6, 7, 8, 9, 10, 11, 12, 13, 130, 131, 132, 133, 134, 135, 136, 137, 138, 139, 140, 141, 142, 143, 144, 145, 146, 147, 148, 149, 150, 151, 152, 153, 154, 155, 156, 157, 158, 159, 160, 161, 162, 163, 164, 165, 166] (by decide +kernel) (by decide +kernel)
set_option maxRecDepth 20000 in
theorem gX8_refusal_X8_keepNow : GoodIn wsX8_refusal (wsV RX8 222 RX8 yX8_keepNow wsX8_keepNow) := goodIn_app (goodIn_of _ (by decide +kernel)) ggX8_refusal_X8_keepNow
set_option maxRecDepth 20000 in
theorem ggX8_refusal_X8_fault : GoodIn wsX8_refusal wsX8_fault := goodIn_r _ [17, 18, 19, 20, 21, 22, 23, 5, 24, 25, 26, 27, 28, 29, 30, 31, 32, 33, 34, 35, 36, 37, 38, 39, 40, 41, 42, 43, 44, 45, 46, 47, 48, 49, 50, 130, 131, 132, 133, 134, 135, 136, 137, 138, 139, 140, 141, 142, 143, 144, 145, 146, 147, 148, 149, 150, 151, 152, 153, 154, 155, 156, 157, 158, 159, 160, 161, 162, 163, 164, 165, 166] (by decide +kernel) (by decide +kernel)
set_option maxRecDepth 20000 in
theorem gX8_refusal_X8_fault : GoodIn wsX8_refusal (wsV RX8 225 RX8 yX8_fault wsX8_fault) := goodIn_app (goodIn_of _ (by decide +kernel)) ggX8_refusal_X8_fault
set_option maxRecDepth 20000 in
theorem ggX8_refusal_X8_goDays : GoodIn wsX8_refusal wsX8_goDays := goodIn_r _ [54, 1, 55, 56, 57, 58, 18, 40, 31, 32, 59, 60, 61, 5, 62, 13, 63, 64, 65, 66, 8, 67, 11, 68, 33, 34, 35, 69, 70, 71, 72, 73, 74, 75, 76, 77, 10, 78, 79, 80, 81, 82, 83, 84, 85, 86, 87, 12, 88, 89, 90, 91, 92, 93, 94, 95, 96, 97, 98, 99, 100, 101, 102, 103, 104, 105, 106, 107, 108, 109, 110, 111, 112, 113, 114, 115, 116, 117, 118, 119, 9, 120, 121, 122, 123, 124, 125, 126, 127, 128, 129, 130, 131, 132, 133, 134, 135, 136, 137, 138, 139, 140, 141, 142, 143, 144, 145, 146, 147, 148, 149, 150, 151, 152, 153, 154, 155, 156, 157, 158, 159, 160, 161, 162, 163, 164, 165, 166] (by decide +kernel) (by decide +kernel)
set_option maxRecDepth 20000 in
theorem gX8_refusal_X8_goDays : GoodIn wsX8_refusal (wsV RX8 229 RX8 yX8_goDays wsX8_goDays) := goodIn_app (goodIn_of _ (by decide +kernel)) ggX8_refusal_X8_goDays
theorem dX8_refusal_0 : decode cX8_refusal 0 = .ok (.aload_n 0, 1) := by decide +kernel
theorem dX8_refusal_1 : decode cX8_refusal 1 = .ok (.invokevirtual 222, 3) := by decide +kernel
theorem dX8_refusal_4 : decode cX8_refusal 4 = .ok (.aload_n 0, 1) := by decide +kernel
theorem dX8_refusal_5 : decode cX8_refusal 5 = .ok (.invokevirtual 225, 3) := by decide +kernel
theorem dX8_refusal_8 : decode cX8_refusal 8 = .ok (.ifCond .lt 6, 3) := by decide +kernel
theorem dX8_refusal_11 : decode cX8_refusal 11 = .ok (.bipush (-5), 2) := by decide +kernel
theorem dX8_refusal_13 : decode cX8_refusal 13 = .ok (.ireturn, 1) := by decide +kernel
theorem dX8_refusal_14 : decode cX8_refusal 14 = .ok (.aload_n 0, 1) := by decide +kernel
theorem dX8_refusal_15 : decode cX8_refusal 15 = .ok (.invokevirtual 229, 3) := by decide +kernel
theorem dX8_refusal_18 : decode cX8_refusal 18 = .ok (.aload_n 0, 1) := by decide +kernel
theorem dX8_refusal_19 : decode cX8_refusal 19 = .ok (.getfield 208, 3) := by decide +kernel
theorem dX8_refusal_22 : decode cX8_refusal 22 = .ok (.ifCond .lt 8, 3) := by decide +kernel
theorem dX8_refusal_25 : decode cX8_refusal 25 = .ok (.bipush (-3), 2) := by decide +kernel
theorem dX8_refusal_27 : decode cX8_refusal 27 = .ok (.goto 5, 3) := by decide +kernel
theorem dX8_refusal_30 : decode cX8_refusal 30 = .ok (.bipush (-6), 2) := by decide +kernel
theorem dX8_refusal_32 : decode cX8_refusal 32 = .ok (.ireturn, 1) := by decide +kernel
set_option maxRecDepth 20000 in
theorem ggX8_judge_X8_in : GoodIn wsX8_judge wsX8_in := goodIn_r _ [8] (by decide +kernel) (by decide +kernel)
set_option maxRecDepth 20000 in
theorem gX8_judge_X8_in : GoodIn wsX8_judge (va_wsS RX8 83 yX8_in wsX8_in) := goodIn_app (goodIn_of _ (by decide +kernel)) ggX8_judge_X8_in
set_option maxRecDepth 20000 in
theorem ggX8_judge_X8_refusal : GoodIn wsX8_judge wsX8_refusal := goodIn_r _ [12, 2, 13, 14, 15, 7, 16, 17, 18, 19, 20, 21, 22, 23, 24, 25, 26, 27, 28, 29, 30, 31, 32, 33, 34, 35, 36, 37, 38, 39, 40, 41, 42, 5, 6, 8, 43, 44, 45, 46, 47, 48, 49, 50, 51, 52, 53, 54, 55, 56, 57, 58, 59, 60, 61, 3, 62, 63, 4, 64, 65, 66, 67, 68, 69, 70, 71, 72, 73, 74, 75, 76, 77, 78, 79, 80, 81, 82, 83, 84, 85, 86, 87, 88, 89, 90, 91, 92, 93, 94, 95, 96, 97, 98, 99, 100, 101, 102, 103, 104, 105, 106, 107, 108, 109, 110, 111, 112, 113, 114, 115, 116, 117, 118, 119, 120, 121, 122, 123, 124, 125, 126, 127, 128, 129, 130, 131, 132, 133, 134, 139, 140, 141, 142, 143, 144, 145, 146, 147, 148, 149, 150, 151, 152, 153, 154, 155, 156, 157, 158, 159, 160, 161, 162, 163, 164, 165, 166, 167, 168, 169, 170, 171, 172, 173, 174, 175] (by decide +kernel) (by decide +kernel)
set_option maxRecDepth 20000 in
theorem gX8_judge_X8_refusal : GoodIn wsX8_judge (wsV RX8 234 RX8 yX8_refusal wsX8_refusal) := goodIn_app (goodIn_of _ (by decide +kernel)) ggX8_judge_X8_refusal
set_option maxRecDepth 20000 in
theorem ggX8_judge_X8_back : GoodIn wsX8_judge wsX8_back := goodIn_r _ [138, 18, 17, 19, 20, 21, 22, 23, 139, 140, 141, 142, 143, 144, 145, 146, 147, 148, 149, 150, 151, 152, 153, 154, 155, 156, 157, 158, 159, 160, 161, 162, 163, 164, 165, 166, 167, 168, 169, 170, 171, 172, 173, 174, 175] (by decide +kernel) (by decide +kernel)
set_option maxRecDepth 20000 in
theorem gX8_judge_X8_back : GoodIn wsX8_judge (wsV RX8 237 RX8 yX8_back wsX8_back) := goodIn_app (goodIn_of _ (by decide +kernel)) ggX8_judge_X8_back
theorem dX8_judge_0 : decode cX8_judge 0 = .ok (.iload_n 1, 1) := by decide +kernel
theorem dX8_judge_1 : decode cX8_judge 1 = .ok (.i2l, 1) := by decide +kernel
theorem dX8_judge_2 : decode cX8_judge 2 = .ok (.lconst 0, 1) := by decide +kernel
theorem dX8_judge_3 : decode cX8_judge 3 = .ok (.ldc2_w 232, 3) := by decide +kernel
theorem dX8_judge_6 : decode cX8_judge 6 = .ok (.invokestatic 83, 3) := by decide +kernel
theorem dX8_judge_9 : decode cX8_judge 9 = .ok (.ifCond .ne 6, 3) := by decide +kernel
theorem dX8_judge_12 : decode cX8_judge 12 = .ok (.bipush (-2), 2) := by decide +kernel
theorem dX8_judge_14 : decode cX8_judge 14 = .ok (.ireturn, 1) := by decide +kernel
theorem dX8_judge_15 : decode cX8_judge 15 = .ok (.aload_n 0, 1) := by decide +kernel
theorem dX8_judge_16 : decode cX8_judge 16 = .ok (.aload_n 0, 1) := by decide +kernel
theorem dX8_judge_17 : decode cX8_judge 17 = .ok (.invokevirtual 234, 3) := by decide +kernel
theorem dX8_judge_20 : decode cX8_judge 20 = .ok (.invokevirtual 237, 3) := by decide +kernel
theorem dX8_judge_23 : decode cX8_judge 23 = .ok (.istore_n 2, 1) := by decide +kernel
theorem dX8_judge_24 : decode cX8_judge 24 = .ok (.iload_n 2, 1) := by decide +kernel
theorem dX8_judge_25 : decode cX8_judge 25 = .ok (.bipush (-5), 2) := by decide +kernel
theorem dX8_judge_27 : decode cX8_judge 27 = .ok (.if_icmp .eq 14, 3) := by decide +kernel
theorem dX8_judge_30 : decode cX8_judge 30 = .ok (.iload_n 1, 1) := by decide +kernel
theorem dX8_judge_31 : decode cX8_judge 31 = .ok (.iconst 1, 1) := by decide +kernel
theorem dX8_judge_32 : decode cX8_judge 32 = .ok (.if_icmp .le 11, 3) := by decide +kernel
theorem dX8_judge_35 : decode cX8_judge 35 = .ok (.iload_n 2, 1) := by decide +kernel
theorem dX8_judge_36 : decode cX8_judge 36 = .ok (.bipush (-3), 2) := by decide +kernel
theorem dX8_judge_38 : decode cX8_judge 38 = .ok (.if_icmp .ne 5, 3) := by decide +kernel
theorem dX8_judge_41 : decode cX8_judge 41 = .ok (.iload_n 2, 1) := by decide +kernel
theorem dX8_judge_42 : decode cX8_judge 42 = .ok (.ireturn, 1) := by decide +kernel
theorem dX8_judge_43 : decode cX8_judge 43 = .ok (.iload_n 1, 1) := by decide +kernel
theorem dX8_judge_44 : decode cX8_judge 44 = .ok (.ifCond .ne 10, 3) := by decide +kernel
theorem dX8_judge_47 : decode cX8_judge 47 = .ok (.aload_n 0, 1) := by decide +kernel
theorem dX8_judge_48 : decode cX8_judge 48 = .ok (.getfield 208, 3) := by decide +kernel
theorem dX8_judge_51 : decode cX8_judge 51 = .ok (.goto 19, 3) := by decide +kernel
theorem dX8_judge_54 : decode cX8_judge 54 = .ok (.iload_n 1, 1) := by decide +kernel
theorem dX8_judge_55 : decode cX8_judge 55 = .ok (.iconst 1, 1) := by decide +kernel
theorem dX8_judge_56 : decode cX8_judge 56 = .ok (.if_icmp .ne 10, 3) := by decide +kernel
theorem dX8_judge_59 : decode cX8_judge 59 = .ok (.aload_n 0, 1) := by decide +kernel
theorem dX8_judge_60 : decode cX8_judge 60 = .ok (.getfield 211, 3) := by decide +kernel
theorem dX8_judge_63 : decode cX8_judge 63 = .ok (.goto 7, 3) := by decide +kernel
theorem dX8_judge_66 : decode cX8_judge 66 = .ok (.aload_n 0, 1) := by decide +kernel
theorem dX8_judge_67 : decode cX8_judge 67 = .ok (.getfield 174, 3) := by decide +kernel
theorem dX8_judge_70 : decode cX8_judge 70 = .ok (.ireturn, 1) := by decide +kernel
set_option maxRecDepth 20000 in
theorem ggX8_behind_X8_isChild : GoodIn wsX8_behind wsX8_isChild := goodIn_r _ [8, 9, 10, 11, 7, 12] (by decide +kernel) (by decide +kernel)
set_option maxRecDepth 20000 in
theorem gX8_behind_X8_isChild : GoodIn wsX8_behind (va_wsS RX8 91 yX8_isChild wsX8_isChild) := goodIn_app (goodIn_of _ (by decide +kernel)) ggX8_behind_X8_isChild
set_option maxRecDepth 20000 in
theorem ggX8_behind_X8_in : GoodIn wsX8_behind wsX8_in := goodIn_r _ [12] (by decide +kernel) (by decide +kernel)
set_option maxRecDepth 20000 in
theorem gX8_behind_X8_in : GoodIn wsX8_behind (va_wsS RX8 83 yX8_in wsX8_in) := goodIn_app (goodIn_of _ (by decide +kernel)) ggX8_behind_X8_in
set_option maxRecDepth 20000 in
theorem ggX8_behind_X8_refusal : GoodIn wsX8_behind wsX8_refusal := goodIn_r _ [16, 17, 18, 19, 20, 7, 21, 22, 2, 3, 23, 4, 24, 25, 26, 27, 28, 29, 30, 31, 32, 33, 34, 35, 36, 37, 38, 39, 40, 41, 42, 43, 44, 10, 11, 12, 45, 46, 47, 48, 49, 50, 51, 52, 53, 54, 55, 56, 57, 58, 59, 60, 61, 62, 63, 64, 65, 66, 67, 68, 69, 70, 71, 72, 73, 74, 75, 76, 77, 78, 79, 80, 81, 82, 83, 84, 85, 86, 87, 88, 89, 90, 91, 92, 93, 94, 95, 96, 97, 98, 99, 100, 101, 102, 103, 104, 105, 106, 107, 108, 109, 110, 111, 112, 113, 114, 115, 116, 117, 118, 119, 120, 121, 122, 123, 124, 125, 126, 127, 128, 129, 130, 131, 132, 133, 134, 135, 136, 137, 138, 143, 144, 145, 146, 147, 148, 149, 150, 151, 152, 153, 154, 155, 156, 157, 158, 159, 160, 161, 162, 163, 164, 165, 166, 167, 168, 169, 170, 171, 172, 173, 174, 175, 176, 177, 178, 179] (by decide +kernel) (by decide +kernel)
set_option maxRecDepth 20000 in
theorem gX8_behind_X8_refusal : GoodIn wsX8_behind (wsV RX8 234 RX8 yX8_refusal wsX8_refusal) := goodIn_app (goodIn_of _ (by decide +kernel)) ggX8_behind_X8_refusal
set_option maxRecDepth 20000 in
theorem ggX8_behind_X8_back : GoodIn wsX8_behind wsX8_back := goodIn_r _ [142, 2, 22, 3, 23, 4, 24, 25, 143, 144, 145, 146, 147, 148, 149, 150, 151, 152, 153, 154, 155, 156, 157, 158, 159, 160, 161, 162, 163, 164, 165, 166, 167, 168, 169, 170, 171, 172, 173, 174, 175, 176, 177, 178, 179] (by decide +kernel) (by decide +kernel)
set_option maxRecDepth 20000 in
theorem gX8_behind_X8_back : GoodIn wsX8_behind (wsV RX8 237 RX8 yX8_back wsX8_back) := goodIn_app (goodIn_of _ (by decide +kernel)) ggX8_behind_X8_back
theorem dX8_behind_0 : decode cX8_behind 0 = .ok (.iload_n 1, 1) := by decide +kernel
theorem dX8_behind_1 : decode cX8_behind 1 = .ok (.invokestatic 91, 3) := by decide +kernel
theorem dX8_behind_4 : decode cX8_behind 4 = .ok (.ifCond .ne 5, 3) := by decide +kernel
theorem dX8_behind_7 : decode cX8_behind 7 = .ok (.iconst (-1), 1) := by decide +kernel
theorem dX8_behind_8 : decode cX8_behind 8 = .ok (.ireturn, 1) := by decide +kernel
theorem dX8_behind_9 : decode cX8_behind 9 = .ok (.iload_n 2, 1) := by decide +kernel
theorem dX8_behind_10 : decode cX8_behind 10 = .ok (.i2l, 1) := by decide +kernel
theorem dX8_behind_11 : decode cX8_behind 11 = .ok (.lconst 0, 1) := by decide +kernel
theorem dX8_behind_12 : decode cX8_behind 12 = .ok (.ldc2_w 232, 3) := by decide +kernel
theorem dX8_behind_15 : decode cX8_behind 15 = .ok (.invokestatic 83, 3) := by decide +kernel
theorem dX8_behind_18 : decode cX8_behind 18 = .ok (.ifCond .ne 6, 3) := by decide +kernel
theorem dX8_behind_21 : decode cX8_behind 21 = .ok (.bipush (-2), 2) := by decide +kernel
theorem dX8_behind_23 : decode cX8_behind 23 = .ok (.ireturn, 1) := by decide +kernel
theorem dX8_behind_24 : decode cX8_behind 24 = .ok (.aload_n 0, 1) := by decide +kernel
theorem dX8_behind_25 : decode cX8_behind 25 = .ok (.invokevirtual 234, 3) := by decide +kernel
theorem dX8_behind_28 : decode cX8_behind 28 = .ok (.istore_n 3, 1) := by decide +kernel
theorem dX8_behind_29 : decode cX8_behind 29 = .ok (.aload_n 0, 1) := by decide +kernel
theorem dX8_behind_30 : decode cX8_behind 30 = .ok (.iload_n 3, 1) := by decide +kernel
theorem dX8_behind_31 : decode cX8_behind 31 = .ok (.bipush (-6), 2) := by decide +kernel
theorem dX8_behind_33 : decode cX8_behind 33 = .ok (.if_icmp .eq 7, 3) := by decide +kernel
theorem dX8_behind_36 : decode cX8_behind 36 = .ok (.iload_n 3, 1) := by decide +kernel
theorem dX8_behind_37 : decode cX8_behind 37 = .ok (.goto 38, 3) := by decide +kernel
theorem dX8_behind_40 : decode cX8_behind 40 = .ok (.iload_n 2, 1) := by decide +kernel
theorem dX8_behind_41 : decode cX8_behind 41 = .ok (.ifCond .ne 12, 3) := by decide +kernel
theorem dX8_behind_44 : decode cX8_behind 44 = .ok (.aload_n 0, 1) := by decide +kernel
theorem dX8_behind_45 : decode cX8_behind 45 = .ok (.getfield 7, 3) := by decide +kernel
theorem dX8_behind_48 : decode cX8_behind 48 = .ok (.iload_n 1, 1) := by decide +kernel
theorem dX8_behind_49 : decode cX8_behind 49 = .ok (.iaload, 1) := by decide +kernel
theorem dX8_behind_50 : decode cX8_behind 50 = .ok (.goto 25, 3) := by decide +kernel
theorem dX8_behind_53 : decode cX8_behind 53 = .ok (.iload_n 2, 1) := by decide +kernel
theorem dX8_behind_54 : decode cX8_behind 54 = .ok (.iconst 1, 1) := by decide +kernel
theorem dX8_behind_55 : decode cX8_behind 55 = .ok (.if_icmp .ne 12, 3) := by decide +kernel
theorem dX8_behind_58 : decode cX8_behind 58 = .ok (.aload_n 0, 1) := by decide +kernel
theorem dX8_behind_59 : decode cX8_behind 59 = .ok (.getfield 13, 3) := by decide +kernel
theorem dX8_behind_62 : decode cX8_behind 62 = .ok (.iload_n 1, 1) := by decide +kernel
theorem dX8_behind_63 : decode cX8_behind 63 = .ok (.iaload, 1) := by decide +kernel
theorem dX8_behind_64 : decode cX8_behind 64 = .ok (.goto 11, 3) := by decide +kernel
theorem dX8_behind_67 : decode cX8_behind 67 = .ok (.aload_n 0, 1) := by decide +kernel
theorem dX8_behind_68 : decode cX8_behind 68 = .ok (.getfield 101, 3) := by decide +kernel
theorem dX8_behind_71 : decode cX8_behind 71 = .ok (.iload_n 1, 1) := by decide +kernel
theorem dX8_behind_72 : decode cX8_behind 72 = .ok (.ishr, 1) := by decide +kernel
theorem dX8_behind_73 : decode cX8_behind 73 = .ok (.iconst 1, 1) := by decide +kernel
theorem dX8_behind_74 : decode cX8_behind 74 = .ok (.iand, 1) := by decide +kernel
theorem dX8_behind_75 : decode cX8_behind 75 = .ok (.invokevirtual 237, 3) := by decide +kernel
theorem dX8_behind_78 : decode cX8_behind 78 = .ok (.ireturn, 1) := by decide +kernel
set_option maxRecDepth 20000 in
theorem ggX8_taut_X8_isTaut : GoodIn wsX8_taut wsX8_isTaut := goodIn_r _ [5, 6, 7, 8, 9, 4, 10, 11, 12, 13, 14, 15, 16, 17, 18, 19, 20, 21, 22, 23, 24, 25, 26, 27, 28, 29, 30, 31, 32, 33, 34, 35, 36, 37, 38, 39, 40, 41, 42, 43, 44, 45, 46, 47] (by decide +kernel) (by decide +kernel)
set_option maxRecDepth 20000 in
theorem gX8_taut_X8_isTaut : GoodIn wsX8_taut (wsV RX8 156 RX8 yX8_isTaut wsX8_isTaut) := goodIn_app (goodIn_of _ (by decide +kernel)) ggX8_taut_X8_isTaut
theorem dX8_taut_0 : decode cX8_taut 0 = .ok (.iconst 0, 1) := by decide +kernel
theorem dX8_taut_1 : decode cX8_taut 1 = .ok (.istore_n 1, 1) := by decide +kernel
theorem dX8_taut_2 : decode cX8_taut 2 = .ok (.iconst 0, 1) := by decide +kernel
theorem dX8_taut_3 : decode cX8_taut 3 = .ok (.istore_n 2, 1) := by decide +kernel
theorem dX8_taut_4 : decode cX8_taut 4 = .ok (.iload_n 2, 1) := by decide +kernel
theorem dX8_taut_5 : decode cX8_taut 5 = .ok (.bipush 9, 2) := by decide +kernel
theorem dX8_taut_7 : decode cX8_taut 7 = .ok (.if_icmp .ge 27, 3) := by decide +kernel
theorem dX8_taut_10 : decode cX8_taut 10 = .ok (.iload_n 1, 1) := by decide +kernel
theorem dX8_taut_11 : decode cX8_taut 11 = .ok (.aload_n 0, 1) := by decide +kernel
theorem dX8_taut_12 : decode cX8_taut 12 = .ok (.iload_n 2, 1) := by decide +kernel
theorem dX8_taut_13 : decode cX8_taut 13 = .ok (.invokevirtual 156, 3) := by decide +kernel
theorem dX8_taut_16 : decode cX8_taut 16 = .ok (.ifCond .eq 9, 3) := by decide +kernel
theorem dX8_taut_19 : decode cX8_taut 19 = .ok (.iconst 1, 1) := by decide +kernel
theorem dX8_taut_20 : decode cX8_taut 20 = .ok (.iload_n 2, 1) := by decide +kernel
theorem dX8_taut_21 : decode cX8_taut 21 = .ok (.ishl, 1) := by decide +kernel
theorem dX8_taut_22 : decode cX8_taut 22 = .ok (.goto 4, 3) := by decide +kernel
theorem dX8_taut_25 : decode cX8_taut 25 = .ok (.iconst 0, 1) := by decide +kernel
theorem dX8_taut_26 : decode cX8_taut 26 = .ok (.ior, 1) := by decide +kernel
theorem dX8_taut_27 : decode cX8_taut 27 = .ok (.istore_n 1, 1) := by decide +kernel
theorem dX8_taut_28 : decode cX8_taut 28 = .ok (.iinc 2 1, 3) := by decide +kernel
theorem dX8_taut_31 : decode cX8_taut 31 = .ok (.goto (-27), 3) := by decide +kernel
theorem dX8_taut_34 : decode cX8_taut 34 = .ok (.iload_n 1, 1) := by decide +kernel
theorem dX8_taut_35 : decode cX8_taut 35 = .ok (.ireturn, 1) := by decide +kernel
theorem dX8_allYards_0 : decode cX8_allYards 0 = .ok (.iconst 0, 1) := by decide +kernel
theorem dX8_allYards_1 : decode cX8_allYards 1 = .ok (.istore_n 1, 1) := by decide +kernel
theorem dX8_allYards_2 : decode cX8_allYards 2 = .ok (.iconst 0, 1) := by decide +kernel
theorem dX8_allYards_3 : decode cX8_allYards 3 = .ok (.istore_n 2, 1) := by decide +kernel
theorem dX8_allYards_4 : decode cX8_allYards 4 = .ok (.iload_n 2, 1) := by decide +kernel
theorem dX8_allYards_5 : decode cX8_allYards 5 = .ok (.bipush 9, 2) := by decide +kernel
theorem dX8_allYards_7 : decode cX8_allYards 7 = .ok (.if_icmp .ge 18, 3) := by decide +kernel
theorem dX8_allYards_10 : decode cX8_allYards 10 = .ok (.iload_n 1, 1) := by decide +kernel
theorem dX8_allYards_11 : decode cX8_allYards 11 = .ok (.aload_n 0, 1) := by decide +kernel
theorem dX8_allYards_12 : decode cX8_allYards 12 = .ok (.getfield 16, 3) := by decide +kernel
theorem dX8_allYards_15 : decode cX8_allYards 15 = .ok (.iload_n 2, 1) := by decide +kernel
theorem dX8_allYards_16 : decode cX8_allYards 16 = .ok (.iaload, 1) := by decide +kernel
theorem dX8_allYards_17 : decode cX8_allYards 17 = .ok (.iadd, 1) := by decide +kernel
theorem dX8_allYards_18 : decode cX8_allYards 18 = .ok (.istore_n 1, 1) := by decide +kernel
theorem dX8_allYards_19 : decode cX8_allYards 19 = .ok (.iinc 2 1, 3) := by decide +kernel
theorem dX8_allYards_22 : decode cX8_allYards 22 = .ok (.goto (-18), 3) := by decide +kernel
theorem dX8_allYards_25 : decode cX8_allYards 25 = .ok (.iload_n 1, 1) := by decide +kernel
theorem dX8_allYards_26 : decode cX8_allYards 26 = .ok (.ireturn, 1) := by decide +kernel
set_option maxRecDepth 20000 in
theorem ggX8_line_X8_in : GoodIn wsX8_line wsX8_in := goodIn_r _ [7] (by decide +kernel) (by decide +kernel)
set_option maxRecDepth 20000 in
theorem gX8_line_X8_in : GoodIn wsX8_line (va_wsS RX8 83 yX8_in wsX8_in) := goodIn_app (goodIn_of _ (by decide +kernel)) ggX8_line_X8_in
set_option maxRecDepth 20000 in
theorem ggX8_line_X8_refusal : GoodIn wsX8_line wsX8_refusal := goodIn_r _ [11, 12, 13, 14, 15, 6, 16, 17, 18, 19, 20, 21, 2, 3, 22, 23, 24, 25, 26, 27, 28, 29, 30, 31, 32, 33, 34, 35, 36, 37, 38, 39, 40, 4, 5, 7, 41, 42, 43, 44, 45, 46, 47, 48, 49, 50, 51, 52, 53, 54, 55, 56, 57, 58, 59, 60, 61, 62, 63, 64, 65, 66, 67, 68, 69, 70, 71, 72, 73, 74, 75, 76, 77, 78, 79, 80, 81, 82, 83, 84, 85, 86, 87, 88, 89, 90, 91, 92, 93, 94, 95, 96, 97, 98, 99, 100, 101, 102, 103, 104, 105, 106, 107, 108, 109, 110, 111, 112, 113, 114, 115, 116, 117, 118, 119, 120, 121, 122, 123, 124, 125, 126, 127, 128, 129, 130, 131, 132, 133, 134, 147, 148, 149, 150, 151, 152, 153, 154, 155, 156, 157, 158, 159, 160, 161, 162, 163, 164, 165, 166, 167, 168, 169, 170, 171, 172, 173, 174, 175, 176, 177, 178, 179, 180, 181, 182, 183] (by decide +kernel) (by decide +kernel)
set_option maxRecDepth 20000 in
theorem gX8_line_X8_refusal : GoodIn wsX8_line (wsV RX8 234 RX8 yX8_refusal wsX8_refusal) := goodIn_app (goodIn_of _ (by decide +kernel)) ggX8_line_X8_refusal
set_option maxRecDepth 20000 in
theorem ggX8_line_X8_taut : GoodIn wsX8_line wsX8_taut := goodIn_r _ [138, 97, 98, 99, 6, 100, 18, 20, 83, 84, 85, 147, 148, 149, 150, 151, 152, 153, 154, 155, 156, 157, 158, 159, 160, 161, 162, 163, 164, 165, 166, 167, 168, 169, 170, 171, 172, 173, 174, 175, 176, 177, 178, 179, 180, 181, 182, 183] (by decide +kernel) (by decide +kernel)
set_option maxRecDepth 20000 in
theorem gX8_line_X8_taut : GoodIn wsX8_line (wsV RX8 242 RX8 yX8_taut wsX8_taut) := goodIn_app (goodIn_of _ (by decide +kernel)) ggX8_line_X8_taut
set_option maxRecDepth 20000 in
theorem ggX8_line_X8_allYards : GoodIn wsX8_line wsX8_allYards := goodIn_r _ [142, 20, 147, 148, 149, 150, 151, 152, 153, 154, 155, 156, 157, 158, 159, 160, 161, 162, 163, 164, 165, 166, 167, 168, 169, 170, 171, 172, 173, 174, 175, 176, 177, 178, 179, 180, 181, 182, 183] (by decide +kernel) (by decide +kernel)
set_option maxRecDepth 20000 in
theorem gX8_line_X8_allYards : GoodIn wsX8_line (wsV RX8 245 RX8 yX8_allYards wsX8_allYards) := goodIn_app (goodIn_of _ (by decide +kernel)) ggX8_line_X8_allYards
set_option maxRecDepth 20000 in
theorem ggX8_line_X8_back : GoodIn wsX8_line wsX8_back := goodIn_r _ [146, 18, 17, 19, 20, 21, 2, 3, 147, 148, 149, 150, 151, 152, 153, 154, 155, 156, 157, 158, 159, 160, 161, 162, 163, 164, 165, 166, 167, 168, 169, 170, 171, 172, 173, 174, 175, 176, 177, 178, 179, 180, 181, 182, 183] (by decide +kernel) (by decide +kernel)
set_option maxRecDepth 20000 in
theorem gX8_line_X8_back : GoodIn wsX8_line (wsV RX8 237 RX8 yX8_back wsX8_back) := goodIn_app (goodIn_of _ (by decide +kernel)) ggX8_line_X8_back
theorem dX8_line_0 : decode cX8_line 0 = .ok (.iload_n 1, 1) := by decide +kernel
theorem dX8_line_1 : decode cX8_line 1 = .ok (.i2l, 1) := by decide +kernel
theorem dX8_line_2 : decode cX8_line 2 = .ok (.lconst 0, 1) := by decide +kernel
theorem dX8_line_3 : decode cX8_line 3 = .ok (.ldc2_w 240, 3) := by decide +kernel
theorem dX8_line_6 : decode cX8_line 6 = .ok (.invokestatic 83, 3) := by decide +kernel
theorem dX8_line_9 : decode cX8_line 9 = .ok (.ifCond .ne 6, 3) := by decide +kernel
theorem dX8_line_12 : decode cX8_line 12 = .ok (.bipush (-2), 2) := by decide +kernel
theorem dX8_line_14 : decode cX8_line 14 = .ok (.ireturn, 1) := by decide +kernel
theorem dX8_line_15 : decode cX8_line 15 = .ok (.aload_n 0, 1) := by decide +kernel
theorem dX8_line_16 : decode cX8_line 16 = .ok (.invokevirtual 234, 3) := by decide +kernel
theorem dX8_line_19 : decode cX8_line 19 = .ok (.istore_n 2, 1) := by decide +kernel
theorem dX8_line_20 : decode cX8_line 20 = .ok (.aload_n 0, 1) := by decide +kernel
theorem dX8_line_21 : decode cX8_line 21 = .ok (.iload_n 2, 1) := by decide +kernel
theorem dX8_line_22 : decode cX8_line 22 = .ok (.bipush (-6), 2) := by decide +kernel
theorem dX8_line_24 : decode cX8_line 24 = .ok (.if_icmp .eq 7, 3) := by decide +kernel
theorem dX8_line_27 : decode cX8_line 27 = .ok (.iload_n 2, 1) := by decide +kernel
theorem dX8_line_28 : decode cX8_line 28 = .ok (.goto 42, 3) := by decide +kernel
theorem dX8_line_31 : decode cX8_line 31 = .ok (.iload_n 1, 1) := by decide +kernel
theorem dX8_line_32 : decode cX8_line 32 = .ok (.ifCond .ne 10, 3) := by decide +kernel
theorem dX8_line_35 : decode cX8_line 35 = .ok (.aload_n 0, 1) := by decide +kernel
theorem dX8_line_36 : decode cX8_line 36 = .ok (.invokevirtual 242, 3) := by decide +kernel
theorem dX8_line_39 : decode cX8_line 39 = .ok (.goto 31, 3) := by decide +kernel
theorem dX8_line_42 : decode cX8_line 42 = .ok (.iload_n 1, 1) := by decide +kernel
theorem dX8_line_43 : decode cX8_line 43 = .ok (.iconst 1, 1) := by decide +kernel
theorem dX8_line_44 : decode cX8_line 44 = .ok (.if_icmp .ne 10, 3) := by decide +kernel
theorem dX8_line_47 : decode cX8_line 47 = .ok (.aload_n 0, 1) := by decide +kernel
theorem dX8_line_48 : decode cX8_line 48 = .ok (.getfield 77, 3) := by decide +kernel
theorem dX8_line_51 : decode cX8_line 51 = .ok (.goto 19, 3) := by decide +kernel
theorem dX8_line_54 : decode cX8_line 54 = .ok (.iload_n 1, 1) := by decide +kernel
theorem dX8_line_55 : decode cX8_line 55 = .ok (.iconst 2, 1) := by decide +kernel
theorem dX8_line_56 : decode cX8_line 56 = .ok (.if_icmp .ne 10, 3) := by decide +kernel
theorem dX8_line_59 : decode cX8_line 59 = .ok (.aload_n 0, 1) := by decide +kernel
theorem dX8_line_60 : decode cX8_line 60 = .ok (.invokevirtual 245, 3) := by decide +kernel
theorem dX8_line_63 : decode cX8_line 63 = .ok (.goto 7, 3) := by decide +kernel
theorem dX8_line_66 : decode cX8_line 66 = .ok (.aload_n 0, 1) := by decide +kernel
theorem dX8_line_67 : decode cX8_line 67 = .ok (.getfield 168, 3) := by decide +kernel
theorem dX8_line_70 : decode cX8_line 70 = .ok (.invokevirtual 237, 3) := by decide +kernel
theorem dX8_line_73 : decode cX8_line 73 = .ok (.ireturn, 1) := by decide +kernel
set_option maxRecDepth 20000 in
theorem ggX8_drawn_X8_in : GoodIn wsX8_drawn wsX8_in := goodIn_r _ [6] (by decide +kernel) (by decide +kernel)
set_option maxRecDepth 20000 in
theorem gX8_drawn_X8_in : GoodIn wsX8_drawn (va_wsS RX8 83 yX8_in wsX8_in) := goodIn_app (goodIn_of _ (by decide +kernel)) ggX8_drawn_X8_in
set_option maxRecDepth 20000 in
theorem ggX8_drawn_X8_refusal : GoodIn wsX8_drawn wsX8_refusal := goodIn_r _ [10, 11, 12, 13, 14, 5, 15, 16, 17, 18, 19, 20, 21, 22, 23, 24, 25, 26, 27, 28, 29, 30, 31, 32, 33, 34, 35, 36, 37, 38, 39, 40, 41, 3, 4, 6, 42, 43, 44, 45, 46, 47, 48, 49, 50, 51, 52, 53, 54, 55, 56, 57, 58, 59, 60, 61, 1, 2, 62, 63, 64, 65, 66, 67, 68, 69, 70, 71, 72, 73, 74, 75, 76, 77, 78, 79, 80, 81, 82, 83, 84, 85, 86, 87, 88, 89, 90, 91, 92, 93, 94, 95, 96, 97, 98, 99, 100, 101, 102, 103, 104, 105, 106, 107, 108, 109, 110, 111, 112, 113, 114, 115, 116, 117, 118, 119, 120, 121, 122, 123, 124, 125, 126, 127, 128, 129, 130, 131, 132, 133, 138, 139, 140, 141, 142, 143, 144, 145, 146, 147, 148, 149, 150, 151, 152, 153, 154, 155, 156, 157, 158, 159, 160, 161, 162, 163, 164, 165, 166, 167, 168, 169, 170, 171, 172, 173, 174] (by decide +kernel) (by decide +kernel)
set_option maxRecDepth 20000 in
theorem gX8_drawn_X8_refusal : GoodIn wsX8_drawn (wsV RX8 234 RX8 yX8_refusal wsX8_refusal) := goodIn_app (goodIn_of _ (by decide +kernel)) ggX8_drawn_X8_refusal
set_option maxRecDepth 20000 in
theorem ggX8_drawn_X8_back : GoodIn wsX8_drawn wsX8_back := goodIn_r _ [137, 17, 16, 18, 19, 20, 21, 22, 138, 139, 140, 141, 142, 143, 144, 145, 146, 147, 148, 149, 150, 151, 152, 153, 154, 155, 156, 157, 158, 159, 160, 161, 162, 163, 164, 165, 166, 167, 168, 169, 170, 171, 172, 173, 174] (by decide +kernel) (by decide +kernel)
set_option maxRecDepth 20000 in
theorem gX8_drawn_X8_back : GoodIn wsX8_drawn (wsV RX8 237 RX8 yX8_back wsX8_back) := goodIn_app (goodIn_of _ (by decide +kernel)) ggX8_drawn_X8_back
theorem dX8_drawn_0 : decode cX8_drawn 0 = .ok (.iload_n 1, 1) := by decide +kernel
theorem dX8_drawn_1 : decode cX8_drawn 1 = .ok (.i2l, 1) := by decide +kernel
theorem dX8_drawn_2 : decode cX8_drawn 2 = .ok (.lconst 0, 1) := by decide +kernel
theorem dX8_drawn_3 : decode cX8_drawn 3 = .ok (.lconst 1, 1) := by decide +kernel
theorem dX8_drawn_4 : decode cX8_drawn 4 = .ok (.invokestatic 83, 3) := by decide +kernel
theorem dX8_drawn_7 : decode cX8_drawn 7 = .ok (.ifCond .ne 6, 3) := by decide +kernel
theorem dX8_drawn_10 : decode cX8_drawn 10 = .ok (.bipush (-2), 2) := by decide +kernel
theorem dX8_drawn_12 : decode cX8_drawn 12 = .ok (.ireturn, 1) := by decide +kernel
theorem dX8_drawn_13 : decode cX8_drawn 13 = .ok (.aload_n 0, 1) := by decide +kernel
theorem dX8_drawn_14 : decode cX8_drawn 14 = .ok (.aload_n 0, 1) := by decide +kernel
theorem dX8_drawn_15 : decode cX8_drawn 15 = .ok (.invokevirtual 234, 3) := by decide +kernel
theorem dX8_drawn_18 : decode cX8_drawn 18 = .ok (.invokevirtual 237, 3) := by decide +kernel
theorem dX8_drawn_21 : decode cX8_drawn 21 = .ok (.istore_n 2, 1) := by decide +kernel
theorem dX8_drawn_22 : decode cX8_drawn 22 = .ok (.iload_n 2, 1) := by decide +kernel
theorem dX8_drawn_23 : decode cX8_drawn 23 = .ok (.bipush (-6), 2) := by decide +kernel
theorem dX8_drawn_25 : decode cX8_drawn 25 = .ok (.if_icmp .eq 7, 3) := by decide +kernel
theorem dX8_drawn_28 : decode cX8_drawn 28 = .ok (.iload_n 2, 1) := by decide +kernel
theorem dX8_drawn_29 : decode cX8_drawn 29 = .ok (.goto 18, 3) := by decide +kernel
theorem dX8_drawn_32 : decode cX8_drawn 32 = .ok (.iload_n 1, 1) := by decide +kernel
theorem dX8_drawn_33 : decode cX8_drawn 33 = .ok (.ifCond .ne 10, 3) := by decide +kernel
theorem dX8_drawn_36 : decode cX8_drawn 36 = .ok (.aload_n 0, 1) := by decide +kernel
theorem dX8_drawn_37 : decode cX8_drawn 37 = .ok (.getfield 199, 3) := by decide +kernel
theorem dX8_drawn_40 : decode cX8_drawn 40 = .ok (.goto 7, 3) := by decide +kernel
theorem dX8_drawn_43 : decode cX8_drawn 43 = .ok (.aload_n 0, 1) := by decide +kernel
theorem dX8_drawn_44 : decode cX8_drawn 44 = .ok (.getfield 205, 3) := by decide +kernel
theorem dX8_drawn_47 : decode cX8_drawn 47 = .ok (.ireturn, 1) := by decide +kernel
set_option maxRecDepth 20000 in
theorem ggX8_done_X8_refusal : GoodIn wsX8_done wsX8_refusal := goodIn_r _ [7, 8, 9, 10, 11, 6, 12, 13, 14, 15, 16, 17, 18, 19, 20, 21, 22, 23, 2, 1, 24, 25, 26, 27, 28, 29, 30, 31, 32, 33, 34, 35, 36, 37, 38, 39, 40, 41, 42, 43, 44, 45, 46, 47, 48, 49, 50, 51, 52, 53, 54, 55, 56, 57, 58, 59, 60, 61, 62, 63, 64, 65, 66, 67, 68, 69, 70, 71, 72, 73, 74, 75, 76, 77, 78, 79, 80, 81, 82, 83, 84, 85, 86, 87, 88, 89, 90, 91, 92, 93, 94, 95, 96, 97, 98, 99, 100, 101, 102, 103, 104, 105, 106, 107, 108, 109, 110, 111, 112, 113, 114, 115, 116, 117, 118, 119, 120, 121, 122, 123, 124, 125, 126, 127, 128, 129, 130, 131, 132, 133, 138, 139, 140, 141, 142, 143, 144, 145, 146, 147, 148, 149, 150, 151, 152, 153, 154, 155, 156, 157, 158, 159, 160, 161, 162, 163, 164, 165, 166, 167, 168, 169, 170, 171, 172, 173, 174] (by decide +kernel) (by decide +kernel)
set_option maxRecDepth 20000 in
theorem gX8_done_X8_refusal : GoodIn wsX8_done (wsV RX8 234 RX8 yX8_refusal wsX8_refusal) := goodIn_app (goodIn_of _ (by decide +kernel)) ggX8_done_X8_refusal
set_option maxRecDepth 20000 in
theorem ggX8_done_X8_back : GoodIn wsX8_done wsX8_back := goodIn_r _ [137, 14, 13, 15, 16, 17, 18, 19, 138, 139, 140, 141, 142, 143, 144, 145, 146, 147, 148, 149, 150, 151, 152, 153, 154, 155, 156, 157, 158, 159, 160, 161, 162, 163, 164, 165, 166, 167, 168, 169, 170, 171, 172, 173, 174] (by decide +kernel) (by decide +kernel)
set_option maxRecDepth 20000 in
theorem gX8_done_X8_back : GoodIn wsX8_done (wsV RX8 237 RX8 yX8_back wsX8_back) := goodIn_app (goodIn_of _ (by decide +kernel)) ggX8_done_X8_back
theorem dX8_done_0 : decode cX8_done 0 = .ok (.aload_n 0, 1) := by decide +kernel
theorem dX8_done_1 : decode cX8_done 1 = .ok (.invokevirtual 234, 3) := by decide +kernel
theorem dX8_done_4 : decode cX8_done 4 = .ok (.istore_n 1, 1) := by decide +kernel
theorem dX8_done_5 : decode cX8_done 5 = .ok (.iload_n 1, 1) := by decide +kernel
theorem dX8_done_6 : decode cX8_done 6 = .ok (.bipush (-6), 2) := by decide +kernel
theorem dX8_done_8 : decode cX8_done 8 = .ok (.if_icmp .eq 9, 3) := by decide +kernel
theorem dX8_done_11 : decode cX8_done 11 = .ok (.aload_n 0, 1) := by decide +kernel
theorem dX8_done_12 : decode cX8_done 12 = .ok (.iload_n 1, 1) := by decide +kernel
theorem dX8_done_13 : decode cX8_done 13 = .ok (.invokevirtual 237, 3) := by decide +kernel
theorem dX8_done_16 : decode cX8_done 16 = .ok (.ireturn, 1) := by decide +kernel
theorem dX8_done_17 : decode cX8_done 17 = .ok (.aload_n 0, 1) := by decide +kernel
theorem dX8_done_18 : decode cX8_done 18 = .ok (.iconst 0, 1) := by decide +kernel
theorem dX8_done_19 : decode cX8_done 19 = .ok (.putfield 112, 3) := by decide +kernel
theorem dX8_done_22 : decode cX8_done 22 = .ok (.aload_n 0, 1) := by decide +kernel
theorem dX8_done_23 : decode cX8_done 23 = .ok (.getfield 115, 3) := by decide +kernel
theorem dX8_done_26 : decode cX8_done 26 = .ok (.ireturn, 1) := by decide +kernel
set_option maxRecDepth 20000 in
theorem ggX8_reach_X8_isChild : GoodIn wsX8_reach wsX8_isChild := goodIn_r _ [4, 5, 6, 7, 3, 8] (by decide +kernel) (by decide +kernel)
set_option maxRecDepth 20000 in
theorem gX8_reach_X8_isChild : GoodIn wsX8_reach (va_wsS RX8 91 yX8_isChild wsX8_isChild) := goodIn_app (goodIn_of _ (by decide +kernel)) ggX8_reach_X8_isChild
set_option maxRecDepth 20000 in
theorem ggX8_reach_X8_in : GoodIn wsX8_reach wsX8_in := goodIn_r _ [8] (by decide +kernel) (by decide +kernel)
set_option maxRecDepth 20000 in
theorem gX8_reach_X8_in : GoodIn wsX8_reach (va_wsS RX8 83 yX8_in wsX8_in) := goodIn_app (goodIn_of _ (by decide +kernel)) ggX8_reach_X8_in
set_option maxRecDepth 20000 in
theorem ggX8_reach_X8_whyNotGo : GoodIn wsX8_reach wsX8_whyNotGo := goodIn_r _ [12, 13, 14, 15, 16, 6, 7, 3, 8, 17, 18, 19, 20, 21, 22, 23, 24, 25, 26, 27, 28, 29, 30, 31, 32, 33, 34, 35, 36, 37, 38, 39, 40, 41, 42, 43, 44, 45, 46, 47, 48, 49, 50, 51, 52, 53, 54, 55, 56, 57, 58, 59, 60, 61, 62, 63, 64, 65, 66, 67, 68, 69] (by decide +kernel) (by decide +kernel)
set_option maxRecDepth 20000 in
theorem gX8_reach_X8_whyNotGo : GoodIn wsX8_reach (wsV RX8 159 RX8 yX8_whyNotGo wsX8_whyNotGo) := goodIn_app (goodIn_of _ (by decide +kernel)) ggX8_reach_X8_whyNotGo
theorem dX8_reach_0 : decode cX8_reach 0 = .ok (.iload_n 1, 1) := by decide +kernel
theorem dX8_reach_1 : decode cX8_reach 1 = .ok (.invokestatic 91, 3) := by decide +kernel
theorem dX8_reach_4 : decode cX8_reach 4 = .ok (.ifCond .ne 5, 3) := by decide +kernel
theorem dX8_reach_7 : decode cX8_reach 7 = .ok (.iconst (-1), 1) := by decide +kernel
theorem dX8_reach_8 : decode cX8_reach 8 = .ok (.ireturn, 1) := by decide +kernel
theorem dX8_reach_9 : decode cX8_reach 9 = .ok (.iload_n 2, 1) := by decide +kernel
theorem dX8_reach_10 : decode cX8_reach 10 = .ok (.i2l, 1) := by decide +kernel
theorem dX8_reach_11 : decode cX8_reach 11 = .ok (.lconst 0, 1) := by decide +kernel
theorem dX8_reach_12 : decode cX8_reach 12 = .ok (.lconst 1, 1) := by decide +kernel
theorem dX8_reach_13 : decode cX8_reach 13 = .ok (.invokestatic 83, 3) := by decide +kernel
theorem dX8_reach_16 : decode cX8_reach 16 = .ok (.ifCond .ne 6, 3) := by decide +kernel
theorem dX8_reach_19 : decode cX8_reach 19 = .ok (.bipush (-2), 2) := by decide +kernel
theorem dX8_reach_21 : decode cX8_reach 21 = .ok (.ireturn, 1) := by decide +kernel
theorem dX8_reach_22 : decode cX8_reach 22 = .ok (.iconst 0, 1) := by decide +kernel
theorem dX8_reach_23 : decode cX8_reach 23 = .ok (.istore_n 3, 1) := by decide +kernel
theorem dX8_reach_24 : decode cX8_reach 24 = .ok (.aload_n 0, 1) := by decide +kernel
theorem dX8_reach_25 : decode cX8_reach 25 = .ok (.iload_n 1, 1) := by decide +kernel
theorem dX8_reach_26 : decode cX8_reach 26 = .ok (.iload_n 2, 1) := by decide +kernel
theorem dX8_reach_27 : decode cX8_reach 27 = .ok (.ifCond .ne 9, 3) := by decide +kernel
theorem dX8_reach_30 : decode cX8_reach 30 = .ok (.iload_n 3, 1) := by decide +kernel
theorem dX8_reach_31 : decode cX8_reach 31 = .ok (.iconst 1, 1) := by decide +kernel
theorem dX8_reach_32 : decode cX8_reach 32 = .ok (.iadd, 1) := by decide +kernel
theorem dX8_reach_33 : decode cX8_reach 33 = .ok (.goto 7, 3) := by decide +kernel
theorem dX8_reach_36 : decode cX8_reach 36 = .ok (.iload_n 3, 1) := by decide +kernel
theorem dX8_reach_37 : decode cX8_reach 37 = .ok (.ineg, 1) := by decide +kernel
theorem dX8_reach_38 : decode cX8_reach 38 = .ok (.iconst 1, 1) := by decide +kernel
theorem dX8_reach_39 : decode cX8_reach 39 = .ok (.isub, 1) := by decide +kernel
theorem dX8_reach_40 : decode cX8_reach 40 = .ok (.invokevirtual 159, 3) := by decide +kernel
theorem dX8_reach_43 : decode cX8_reach 43 = .ok (.ifCond .ne 9, 3) := by decide +kernel
theorem dX8_reach_46 : decode cX8_reach 46 = .ok (.iinc 3 1, 3) := by decide +kernel
theorem dX8_reach_49 : decode cX8_reach 49 = .ok (.goto (-25), 3) := by decide +kernel
theorem dX8_reach_52 : decode cX8_reach 52 = .ok (.iload_n 3, 1) := by decide +kernel
theorem dX8_reach_53 : decode cX8_reach 53 = .ok (.ireturn, 1) := by decide +kernel
theorem dX8_readBalls_0 : decode cX8_readBalls 0 = .ok (.iload_n 1, 1) := by decide +kernel
theorem dX8_readBalls_1 : decode cX8_readBalls 1 = .ok (.istore_n 3, 1) := by decide +kernel
theorem dX8_readBalls_2 : decode cX8_readBalls 2 = .ok (.iload_n 2, 1) := by decide +kernel
theorem dX8_readBalls_3 : decode cX8_readBalls 3 = .ok (.iconst 1, 1) := by decide +kernel
theorem dX8_readBalls_4 : decode cX8_readBalls 4 = .ok (.isub, 1) := by decide +kernel
theorem dX8_readBalls_5 : decode cX8_readBalls 5 = .ok (.istore 4, 2) := by decide +kernel
theorem dX8_readBalls_7 : decode cX8_readBalls 7 = .ok (.iload 4, 2) := by decide +kernel
theorem dX8_readBalls_9 : decode cX8_readBalls 9 = .ok (.ifCond .lt 25, 3) := by decide +kernel
theorem dX8_readBalls_12 : decode cX8_readBalls 12 = .ok (.aload_n 0, 1) := by decide +kernel
theorem dX8_readBalls_13 : decode cX8_readBalls 13 = .ok (.getfield 43, 3) := by decide +kernel
theorem dX8_readBalls_16 : decode cX8_readBalls 16 = .ok (.iload 4, 2) := by decide +kernel
theorem dX8_readBalls_18 : decode cX8_readBalls 18 = .ok (.iload_n 3, 1) := by decide +kernel
theorem dX8_readBalls_19 : decode cX8_readBalls 19 = .ok (.bipush 10, 2) := by decide +kernel
theorem dX8_readBalls_21 : decode cX8_readBalls 21 = .ok (.irem, 1) := by decide +kernel
theorem dX8_readBalls_22 : decode cX8_readBalls 22 = .ok (.iastore, 1) := by decide +kernel
theorem dX8_readBalls_23 : decode cX8_readBalls 23 = .ok (.iload_n 3, 1) := by decide +kernel
theorem dX8_readBalls_24 : decode cX8_readBalls 24 = .ok (.bipush 10, 2) := by decide +kernel
theorem dX8_readBalls_26 : decode cX8_readBalls 26 = .ok (.idiv, 1) := by decide +kernel
theorem dX8_readBalls_27 : decode cX8_readBalls 27 = .ok (.istore_n 3, 1) := by decide +kernel
theorem dX8_readBalls_28 : decode cX8_readBalls 28 = .ok (.iinc 4 (-1), 3) := by decide +kernel
theorem dX8_readBalls_31 : decode cX8_readBalls 31 = .ok (.goto (-24), 3) := by decide +kernel
theorem dX8_readBalls_34 : decode cX8_readBalls 34 = .ok (.iload_n 1, 1) := by decide +kernel
theorem dX8_readBalls_35 : decode cX8_readBalls 35 = .ok (.ifCond .lt 11, 3) := by decide +kernel
theorem dX8_readBalls_38 : decode cX8_readBalls 38 = .ok (.iload_n 3, 1) := by decide +kernel
theorem dX8_readBalls_39 : decode cX8_readBalls 39 = .ok (.ifCond .ne 7, 3) := by decide +kernel
theorem dX8_readBalls_42 : decode cX8_readBalls 42 = .ok (.iconst 1, 1) := by decide +kernel
theorem dX8_readBalls_43 : decode cX8_readBalls 43 = .ok (.goto 4, 3) := by decide +kernel
theorem dX8_readBalls_46 : decode cX8_readBalls 46 = .ok (.iconst 0, 1) := by decide +kernel
theorem dX8_readBalls_47 : decode cX8_readBalls 47 = .ok (.ireturn, 1) := by decide +kernel
theorem dX8_sizeOf_0 : decode cX8_sizeOf 0 = .ok (.iconst 0, 1) := by decide +kernel
theorem dX8_sizeOf_1 : decode cX8_sizeOf 1 = .ok (.istore_n 3, 1) := by decide +kernel
theorem dX8_sizeOf_2 : decode cX8_sizeOf 2 = .ok (.iload_n 1, 1) := by decide +kernel
theorem dX8_sizeOf_3 : decode cX8_sizeOf 3 = .ok (.istore 4, 2) := by decide +kernel
theorem dX8_sizeOf_5 : decode cX8_sizeOf 5 = .ok (.iload 4, 2) := by decide +kernel
theorem dX8_sizeOf_7 : decode cX8_sizeOf 7 = .ok (.iload_n 2, 1) := by decide +kernel
theorem dX8_sizeOf_8 : decode cX8_sizeOf 8 = .ok (.if_icmp .ge 19, 3) := by decide +kernel
theorem dX8_sizeOf_11 : decode cX8_sizeOf 11 = .ok (.iload_n 3, 1) := by decide +kernel
theorem dX8_sizeOf_12 : decode cX8_sizeOf 12 = .ok (.aload_n 0, 1) := by decide +kernel
theorem dX8_sizeOf_13 : decode cX8_sizeOf 13 = .ok (.getfield 43, 3) := by decide +kernel
theorem dX8_sizeOf_16 : decode cX8_sizeOf 16 = .ok (.iload 4, 2) := by decide +kernel
theorem dX8_sizeOf_18 : decode cX8_sizeOf 18 = .ok (.iaload, 1) := by decide +kernel
theorem dX8_sizeOf_19 : decode cX8_sizeOf 19 = .ok (.iadd, 1) := by decide +kernel
theorem dX8_sizeOf_20 : decode cX8_sizeOf 20 = .ok (.istore_n 3, 1) := by decide +kernel
theorem dX8_sizeOf_21 : decode cX8_sizeOf 21 = .ok (.iinc 4 1, 3) := by decide +kernel
theorem dX8_sizeOf_24 : decode cX8_sizeOf 24 = .ok (.goto (-19), 3) := by decide +kernel
theorem dX8_sizeOf_27 : decode cX8_sizeOf 27 = .ok (.iload_n 3, 1) := by decide +kernel
theorem dX8_sizeOf_28 : decode cX8_sizeOf 28 = .ok (.ireturn, 1) := by decide +kernel
set_option maxRecDepth 20000 in
theorem ggX8_windOne_X8_less : GoodIn wsX8_windOne wsX8_less := goodIn_r _ [6] (by decide +kernel) (by decide +kernel)
set_option maxRecDepth 20000 in
theorem gX8_windOne_X8_less : GoodIn wsX8_windOne (va_wsS RX8 180 yX8_less wsX8_less) := goodIn_app (goodIn_of _ (by decide +kernel)) ggX8_windOne_X8_less
set_option maxRecDepth 20000 in
theorem ggX8_windOne_X8_sizeOf : GoodIn wsX8_windOne wsX8_sizeOf := goodIn_r _ [10, 11, 12, 13, 14, 15, 16, 17, 18, 19, 20, 21, 22, 23, 24, 25, 26, 27, 28, 29, 30, 31, 32, 33, 34, 35, 36, 37, 38, 39, 40, 41, 42, 43, 44, 45, 46, 47, 48] (by decide +kernel) (by decide +kernel)
set_option maxRecDepth 20000 in
theorem gX8_windOne_X8_sizeOf : GoodIn wsX8_windOne (wsV RX8 248 RX8 yX8_sizeOf wsX8_sizeOf) := goodIn_app (goodIn_of _ (by decide +kernel)) ggX8_windOne_X8_sizeOf
theorem dX8_windOne_0 : decode cX8_windOne 0 = .ok (.iconst 0, 1) := by decide +kernel
theorem dX8_windOne_1 : decode cX8_windOne 1 = .ok (.istore_n 3, 1) := by decide +kernel
theorem dX8_windOne_2 : decode cX8_windOne 2 = .ok (.iconst 0, 1) := by decide +kernel
theorem dX8_windOne_3 : decode cX8_windOne 3 = .ok (.istore 4, 2) := by decide +kernel
theorem dX8_windOne_5 : decode cX8_windOne 5 = .ok (.iload_n 1, 1) := by decide +kernel
theorem dX8_windOne_6 : decode cX8_windOne 6 = .ok (.iconst 1, 1) := by decide +kernel
theorem dX8_windOne_7 : decode cX8_windOne 7 = .ok (.iadd, 1) := by decide +kernel
theorem dX8_windOne_8 : decode cX8_windOne 8 = .ok (.istore 5, 2) := by decide +kernel
theorem dX8_windOne_10 : decode cX8_windOne 10 = .ok (.iload 5, 2) := by decide +kernel
theorem dX8_windOne_12 : decode cX8_windOne 12 = .ok (.iload_n 2, 1) := by decide +kernel
theorem dX8_windOne_13 : decode cX8_windOne 13 = .ok (.if_icmp .ge 99, 3) := by decide +kernel
theorem dX8_windOne_16 : decode cX8_windOne 16 = .ok (.aload_n 0, 1) := by decide +kernel
theorem dX8_windOne_17 : decode cX8_windOne 17 = .ok (.getfield 46, 3) := by decide +kernel
theorem dX8_windOne_20 : decode cX8_windOne 20 = .ok (.bipush 10, 2) := by decide +kernel
theorem dX8_windOne_22 : decode cX8_windOne 22 = .ok (.iload_n 1, 1) := by decide +kernel
theorem dX8_windOne_23 : decode cX8_windOne 23 = .ok (.imul, 1) := by decide +kernel
theorem dX8_windOne_24 : decode cX8_windOne 24 = .ok (.iload 5, 2) := by decide +kernel
theorem dX8_windOne_26 : decode cX8_windOne 26 = .ok (.iadd, 1) := by decide +kernel
theorem dX8_windOne_27 : decode cX8_windOne 27 = .ok (.iaload, 1) := by decide +kernel
theorem dX8_windOne_28 : decode cX8_windOne 28 = .ok (.aload_n 0, 1) := by decide +kernel
theorem dX8_windOne_29 : decode cX8_windOne 29 = .ok (.getfield 46, 3) := by decide +kernel
theorem dX8_windOne_32 : decode cX8_windOne 32 = .ok (.bipush 10, 2) := by decide +kernel
theorem dX8_windOne_34 : decode cX8_windOne 34 = .ok (.iload 5, 2) := by decide +kernel
theorem dX8_windOne_36 : decode cX8_windOne 36 = .ok (.imul, 1) := by decide +kernel
theorem dX8_windOne_37 : decode cX8_windOne 37 = .ok (.iload_n 2, 1) := by decide +kernel
theorem dX8_windOne_38 : decode cX8_windOne 38 = .ok (.iadd, 1) := by decide +kernel
theorem dX8_windOne_39 : decode cX8_windOne 39 = .ok (.iaload, 1) := by decide +kernel
theorem dX8_windOne_40 : decode cX8_windOne 40 = .ok (.iadd, 1) := by decide +kernel
theorem dX8_windOne_41 : decode cX8_windOne 41 = .ok (.istore 6, 2) := by decide +kernel
theorem dX8_windOne_43 : decode cX8_windOne 43 = .ok (.aload_n 0, 1) := by decide +kernel
theorem dX8_windOne_44 : decode cX8_windOne 44 = .ok (.getfield 49, 3) := by decide +kernel
theorem dX8_windOne_47 : decode cX8_windOne 47 = .ok (.bipush 10, 2) := by decide +kernel
theorem dX8_windOne_49 : decode cX8_windOne 49 = .ok (.iload_n 1, 1) := by decide +kernel
theorem dX8_windOne_50 : decode cX8_windOne 50 = .ok (.imul, 1) := by decide +kernel
theorem dX8_windOne_51 : decode cX8_windOne 51 = .ok (.iload 5, 2) := by decide +kernel
theorem dX8_windOne_53 : decode cX8_windOne 53 = .ok (.iadd, 1) := by decide +kernel
theorem dX8_windOne_54 : decode cX8_windOne 54 = .ok (.iaload, 1) := by decide +kernel
theorem dX8_windOne_55 : decode cX8_windOne 55 = .ok (.aload_n 0, 1) := by decide +kernel
theorem dX8_windOne_56 : decode cX8_windOne 56 = .ok (.getfield 49, 3) := by decide +kernel
theorem dX8_windOne_59 : decode cX8_windOne 59 = .ok (.bipush 10, 2) := by decide +kernel
theorem dX8_windOne_61 : decode cX8_windOne 61 = .ok (.iload 5, 2) := by decide +kernel
theorem dX8_windOne_63 : decode cX8_windOne 63 = .ok (.imul, 1) := by decide +kernel
theorem dX8_windOne_64 : decode cX8_windOne 64 = .ok (.iload_n 2, 1) := by decide +kernel
theorem dX8_windOne_65 : decode cX8_windOne 65 = .ok (.iadd, 1) := by decide +kernel
theorem dX8_windOne_66 : decode cX8_windOne 66 = .ok (.iaload, 1) := by decide +kernel
theorem dX8_windOne_67 : decode cX8_windOne 67 = .ok (.iadd, 1) := by decide +kernel
theorem dX8_windOne_68 : decode cX8_windOne 68 = .ok (.istore 7, 2) := by decide +kernel
theorem dX8_windOne_70 : decode cX8_windOne 70 = .ok (.iload 5, 2) := by decide +kernel
theorem dX8_windOne_72 : decode cX8_windOne 72 = .ok (.iload_n 1, 1) := by decide +kernel
theorem dX8_windOne_73 : decode cX8_windOne 73 = .ok (.iconst 1, 1) := by decide +kernel
theorem dX8_windOne_74 : decode cX8_windOne 74 = .ok (.iadd, 1) := by decide +kernel
theorem dX8_windOne_75 : decode cX8_windOne 75 = .ok (.if_icmp .ne 8, 3) := by decide +kernel
theorem dX8_windOne_78 : decode cX8_windOne 78 = .ok (.iload 6, 2) := by decide +kernel
theorem dX8_windOne_80 : decode cX8_windOne 80 = .ok (.goto 9, 3) := by decide +kernel
theorem dX8_windOne_83 : decode cX8_windOne 83 = .ok (.iload_n 3, 1) := by decide +kernel
theorem dX8_windOne_84 : decode cX8_windOne 84 = .ok (.iload 6, 2) := by decide +kernel
theorem dX8_windOne_86 : decode cX8_windOne 86 = .ok (.invokestatic 180, 3) := by decide +kernel
theorem dX8_windOne_89 : decode cX8_windOne 89 = .ok (.istore_n 3, 1) := by decide +kernel
theorem dX8_windOne_90 : decode cX8_windOne 90 = .ok (.iload 7, 2) := by decide +kernel
theorem dX8_windOne_92 : decode cX8_windOne 92 = .ok (.iload 4, 2) := by decide +kernel
theorem dX8_windOne_94 : decode cX8_windOne 94 = .ok (.if_icmp .le 8, 3) := by decide +kernel
theorem dX8_windOne_97 : decode cX8_windOne 97 = .ok (.iload 7, 2) := by decide +kernel
theorem dX8_windOne_99 : decode cX8_windOne 99 = .ok (.goto 5, 3) := by decide +kernel
theorem dX8_windOne_102 : decode cX8_windOne 102 = .ok (.iload 4, 2) := by decide +kernel
theorem dX8_windOne_104 : decode cX8_windOne 104 = .ok (.istore 4, 2) := by decide +kernel
theorem dX8_windOne_106 : decode cX8_windOne 106 = .ok (.iinc 5 1, 3) := by decide +kernel
theorem dX8_windOne_109 : decode cX8_windOne 109 = .ok (.goto (-99), 3) := by decide +kernel
theorem dX8_windOne_112 : decode cX8_windOne 112 = .ok (.iload_n 2, 1) := by decide +kernel
theorem dX8_windOne_113 : decode cX8_windOne 113 = .ok (.iload_n 1, 1) := by decide +kernel
theorem dX8_windOne_114 : decode cX8_windOne 114 = .ok (.isub, 1) := by decide +kernel
theorem dX8_windOne_115 : decode cX8_windOne 115 = .ok (.iconst 1, 1) := by decide +kernel
theorem dX8_windOne_116 : decode cX8_windOne 116 = .ok (.if_icmp .le 12, 3) := by decide +kernel
theorem dX8_windOne_119 : decode cX8_windOne 119 = .ok (.aload_n 0, 1) := by decide +kernel
theorem dX8_windOne_120 : decode cX8_windOne 120 = .ok (.iload_n 1, 1) := by decide +kernel
theorem dX8_windOne_121 : decode cX8_windOne 121 = .ok (.iload_n 2, 1) := by decide +kernel
theorem dX8_windOne_122 : decode cX8_windOne 122 = .ok (.invokevirtual 248, 3) := by decide +kernel
theorem dX8_windOne_125 : decode cX8_windOne 125 = .ok (.goto 4, 3) := by decide +kernel
theorem dX8_windOne_128 : decode cX8_windOne 128 = .ok (.iconst 0, 1) := by decide +kernel
theorem dX8_windOne_129 : decode cX8_windOne 129 = .ok (.istore 5, 2) := by decide +kernel
theorem dX8_windOne_131 : decode cX8_windOne 131 = .ok (.aload_n 0, 1) := by decide +kernel
theorem dX8_windOne_132 : decode cX8_windOne 132 = .ok (.getfield 46, 3) := by decide +kernel
theorem dX8_windOne_135 : decode cX8_windOne 135 = .ok (.bipush 10, 2) := by decide +kernel
theorem dX8_windOne_137 : decode cX8_windOne 137 = .ok (.iload_n 1, 1) := by decide +kernel
theorem dX8_windOne_138 : decode cX8_windOne 138 = .ok (.imul, 1) := by decide +kernel
theorem dX8_windOne_139 : decode cX8_windOne 139 = .ok (.iload_n 2, 1) := by decide +kernel
theorem dX8_windOne_140 : decode cX8_windOne 140 = .ok (.iadd, 1) := by decide +kernel
theorem dX8_windOne_141 : decode cX8_windOne 141 = .ok (.iload_n 3, 1) := by decide +kernel
theorem dX8_windOne_142 : decode cX8_windOne 142 = .ok (.iload 5, 2) := by decide +kernel
theorem dX8_windOne_144 : decode cX8_windOne 144 = .ok (.iadd, 1) := by decide +kernel
theorem dX8_windOne_145 : decode cX8_windOne 145 = .ok (.iastore, 1) := by decide +kernel
theorem dX8_windOne_146 : decode cX8_windOne 146 = .ok (.aload_n 0, 1) := by decide +kernel
theorem dX8_windOne_147 : decode cX8_windOne 147 = .ok (.getfield 49, 3) := by decide +kernel
theorem dX8_windOne_150 : decode cX8_windOne 150 = .ok (.bipush 10, 2) := by decide +kernel
theorem dX8_windOne_152 : decode cX8_windOne 152 = .ok (.iload_n 1, 1) := by decide +kernel
theorem dX8_windOne_153 : decode cX8_windOne 153 = .ok (.imul, 1) := by decide +kernel
theorem dX8_windOne_154 : decode cX8_windOne 154 = .ok (.iload_n 2, 1) := by decide +kernel
theorem dX8_windOne_155 : decode cX8_windOne 155 = .ok (.iadd, 1) := by decide +kernel
theorem dX8_windOne_156 : decode cX8_windOne 156 = .ok (.iload 4, 2) := by decide +kernel
theorem dX8_windOne_158 : decode cX8_windOne 158 = .ok (.iload 5, 2) := by decide +kernel
theorem dX8_windOne_160 : decode cX8_windOne 160 = .ok (.iadd, 1) := by decide +kernel
theorem dX8_windOne_161 : decode cX8_windOne 161 = .ok (.iastore, 1) := by decide +kernel
theorem dX8_windOne_162 : decode cX8_windOne 162 = .ok (.return_, 1) := by decide +kernel
set_option maxRecDepth 20000 in
theorem ggX8_wind_X8_in : GoodIn wsX8_wind wsX8_in := goodIn_r _ [7] (by decide +kernel) (by decide +kernel)
set_option maxRecDepth 20000 in
theorem gX8_wind_X8_in : GoodIn wsX8_wind (va_wsS RX8 83 yX8_in wsX8_in) := goodIn_app (goodIn_of _ (by decide +kernel)) ggX8_wind_X8_in
set_option maxRecDepth 20000 in
theorem ggX8_wind_X8_readBalls : GoodIn wsX8_wind wsX8_readBalls := goodIn_r _ [11, 12, 24, 25, 26, 27, 28, 29, 30, 31, 32, 33, 34, 35, 36, 37, 38, 39, 40, 41, 42, 43, 44, 45, 46, 47, 48, 49, 50, 51, 52, 53, 54, 55, 56, 57, 58, 59, 60] (by decide +kernel) (by decide +kernel)
set_option maxRecDepth 20000 in
theorem gX8_wind_X8_readBalls : GoodIn wsX8_wind (wsV RX8 251 RX8 yX8_readBalls wsX8_readBalls) := goodIn_app (goodIn_of _ (by decide +kernel)) ggX8_wind_X8_readBalls
set_option maxRecDepth 20000 in
theorem ggX8_wind_X8_windOne : GoodIn wsX8_wind wsX8_windOne := goodIn_r _ [16, 2, 3, 17, 18, 6, 19, 20, 21, 22, 23, 12, 24, 25, 26, 27, 28, 29, 30, 31, 32, 33, 34, 35, 36, 37, 38, 39, 40, 41, 42, 43, 44, 45, 46, 47, 48, 49, 50, 51, 52, 53, 54, 55, 56, 57, 58, 59, 60] (by decide +kernel) (by decide +kernel)
set_option maxRecDepth 20000 in
theorem gX8_wind_X8_windOne : GoodIn wsX8_wind (wsV RX8 254 RX8 yX8_windOne wsX8_windOne) := goodIn_app (goodIn_of _ (by decide +kernel)) ggX8_wind_X8_windOne
theorem dX8_wind_0 : decode cX8_wind 0 = .ok (.iload_n 2, 1) := by decide +kernel
theorem dX8_wind_1 : decode cX8_wind 1 = .ok (.i2l, 1) := by decide +kernel
theorem dX8_wind_2 : decode cX8_wind 2 = .ok (.lconst 1, 1) := by decide +kernel
theorem dX8_wind_3 : decode cX8_wind 3 = .ok (.ldc2_w 81, 3) := by decide +kernel
theorem dX8_wind_6 : decode cX8_wind 6 = .ok (.invokestatic 83, 3) := by decide +kernel
theorem dX8_wind_9 : decode cX8_wind 9 = .ok (.ifCond .eq 22, 3) := by decide +kernel
theorem dX8_wind_12 : decode cX8_wind 12 = .ok (.aload_n 0, 1) := by decide +kernel
theorem dX8_wind_13 : decode cX8_wind 13 = .ok (.iload_n 1, 1) := by decide +kernel
theorem dX8_wind_14 : decode cX8_wind 14 = .ok (.iload_n 2, 1) := by decide +kernel
theorem dX8_wind_15 : decode cX8_wind 15 = .ok (.invokevirtual 251, 3) := by decide +kernel
theorem dX8_wind_18 : decode cX8_wind 18 = .ok (.ifCond .eq 13, 3) := by decide +kernel
theorem dX8_wind_21 : decode cX8_wind 21 = .ok (.iload_n 3, 1) := by decide +kernel
theorem dX8_wind_22 : decode cX8_wind 22 = .ok (.i2l, 1) := by decide +kernel
theorem dX8_wind_23 : decode cX8_wind 23 = .ok (.lconst 0, 1) := by decide +kernel
theorem dX8_wind_24 : decode cX8_wind 24 = .ok (.lconst 1, 1) := by decide +kernel
theorem dX8_wind_25 : decode cX8_wind 25 = .ok (.invokestatic 83, 3) := by decide +kernel
theorem dX8_wind_28 : decode cX8_wind 28 = .ok (.ifCond .ne 6, 3) := by decide +kernel
theorem dX8_wind_31 : decode cX8_wind 31 = .ok (.bipush (-2), 2) := by decide +kernel
theorem dX8_wind_33 : decode cX8_wind 33 = .ok (.ireturn, 1) := by decide +kernel
theorem dX8_wind_34 : decode cX8_wind 34 = .ok (.iconst 1, 1) := by decide +kernel
theorem dX8_wind_35 : decode cX8_wind 35 = .ok (.istore 4, 2) := by decide +kernel
theorem dX8_wind_37 : decode cX8_wind 37 = .ok (.iload 4, 2) := by decide +kernel
theorem dX8_wind_39 : decode cX8_wind 39 = .ok (.iload_n 2, 1) := by decide +kernel
theorem dX8_wind_40 : decode cX8_wind 40 = .ok (.if_icmp .gt 38, 3) := by decide +kernel
theorem dX8_wind_43 : decode cX8_wind 43 = .ok (.iconst 0, 1) := by decide +kernel
theorem dX8_wind_44 : decode cX8_wind 44 = .ok (.istore 5, 2) := by decide +kernel
theorem dX8_wind_46 : decode cX8_wind 46 = .ok (.iload 5, 2) := by decide +kernel
theorem dX8_wind_48 : decode cX8_wind 48 = .ok (.iload 4, 2) := by decide +kernel
theorem dX8_wind_50 : decode cX8_wind 50 = .ok (.iadd, 1) := by decide +kernel
theorem dX8_wind_51 : decode cX8_wind 51 = .ok (.iload_n 2, 1) := by decide +kernel
theorem dX8_wind_52 : decode cX8_wind 52 = .ok (.if_icmp .gt 20, 3) := by decide +kernel
theorem dX8_wind_55 : decode cX8_wind 55 = .ok (.aload_n 0, 1) := by decide +kernel
theorem dX8_wind_56 : decode cX8_wind 56 = .ok (.iload 5, 2) := by decide +kernel
theorem dX8_wind_58 : decode cX8_wind 58 = .ok (.iload 5, 2) := by decide +kernel
theorem dX8_wind_60 : decode cX8_wind 60 = .ok (.iload 4, 2) := by decide +kernel
theorem dX8_wind_62 : decode cX8_wind 62 = .ok (.iadd, 1) := by decide +kernel
theorem dX8_wind_63 : decode cX8_wind 63 = .ok (.invokevirtual 254, 3) := by decide +kernel
theorem dX8_wind_66 : decode cX8_wind 66 = .ok (.iinc 5 1, 3) := by decide +kernel
theorem dX8_wind_69 : decode cX8_wind 69 = .ok (.goto (-23), 3) := by decide +kernel
theorem dX8_wind_72 : decode cX8_wind 72 = .ok (.iinc 4 1, 3) := by decide +kernel
theorem dX8_wind_75 : decode cX8_wind 75 = .ok (.goto (-38), 3) := by decide +kernel
theorem dX8_wind_78 : decode cX8_wind 78 = .ok (.iload_n 3, 1) := by decide +kernel
theorem dX8_wind_79 : decode cX8_wind 79 = .ok (.ifCond .ne 12, 3) := by decide +kernel
theorem dX8_wind_82 : decode cX8_wind 82 = .ok (.aload_n 0, 1) := by decide +kernel
theorem dX8_wind_83 : decode cX8_wind 83 = .ok (.getfield 46, 3) := by decide +kernel
theorem dX8_wind_86 : decode cX8_wind 86 = .ok (.iload_n 2, 1) := by decide +kernel
theorem dX8_wind_87 : decode cX8_wind 87 = .ok (.iaload, 1) := by decide +kernel
theorem dX8_wind_88 : decode cX8_wind 88 = .ok (.goto 9, 3) := by decide +kernel
theorem dX8_wind_91 : decode cX8_wind 91 = .ok (.aload_n 0, 1) := by decide +kernel
theorem dX8_wind_92 : decode cX8_wind 92 = .ok (.getfield 49, 3) := by decide +kernel
theorem dX8_wind_95 : decode cX8_wind 95 = .ok (.iload_n 2, 1) := by decide +kernel
theorem dX8_wind_96 : decode cX8_wind 96 = .ok (.iaload, 1) := by decide +kernel
theorem dX8_wind_97 : decode cX8_wind 97 = .ok (.ireturn, 1) := by decide +kernel
theorem dX8_digitsOf_0 : decode cX8_digitsOf 0 = .ok (.iload_n 0, 1) := by decide +kernel
theorem dX8_digitsOf_1 : decode cX8_digitsOf 1 = .ok (.bipush 99, 2) := by decide +kernel
theorem dX8_digitsOf_3 : decode cX8_digitsOf 3 = .ok (.if_icmp .le 7, 3) := by decide +kernel
theorem dX8_digitsOf_6 : decode cX8_digitsOf 6 = .ok (.iconst 3, 1) := by decide +kernel
theorem dX8_digitsOf_7 : decode cX8_digitsOf 7 = .ok (.goto 14, 3) := by decide +kernel
theorem dX8_digitsOf_10 : decode cX8_digitsOf 10 = .ok (.iload_n 0, 1) := by decide +kernel
theorem dX8_digitsOf_11 : decode cX8_digitsOf 11 = .ok (.bipush 9, 2) := by decide +kernel
theorem dX8_digitsOf_13 : decode cX8_digitsOf 13 = .ok (.if_icmp .le 7, 3) := by decide +kernel
theorem dX8_digitsOf_16 : decode cX8_digitsOf 16 = .ok (.iconst 2, 1) := by decide +kernel
theorem dX8_digitsOf_17 : decode cX8_digitsOf 17 = .ok (.goto 4, 3) := by decide +kernel
theorem dX8_digitsOf_20 : decode cX8_digitsOf 20 = .ok (.iconst 1, 1) := by decide +kernel
theorem dX8_digitsOf_21 : decode cX8_digitsOf 21 = .ok (.ireturn, 1) := by decide +kernel
set_option maxRecDepth 20000 in
theorem ggX8_isWord_X8_digitsOf : GoodIn wsX8_isWord wsX8_digitsOf := goodIn_r _ [5] (by decide +kernel) (by decide +kernel)
set_option maxRecDepth 20000 in
theorem gX8_isWord_X8_digitsOf : GoodIn wsX8_isWord (va_wsS RX8 257 yX8_digitsOf wsX8_digitsOf) := goodIn_app (goodIn_of _ (by decide +kernel)) ggX8_isWord_X8_digitsOf
theorem dX8_isWord_0 : decode cX8_isWord 0 = .ok (.iload_n 1, 1) := by decide +kernel
theorem dX8_isWord_1 : decode cX8_isWord 1 = .ok (.invokestatic 257, 3) := by decide +kernel
theorem dX8_isWord_4 : decode cX8_isWord 4 = .ok (.istore 4, 2) := by decide +kernel
theorem dX8_isWord_6 : decode cX8_isWord 6 = .ok (.iload_n 2, 1) := by decide +kernel
theorem dX8_isWord_7 : decode cX8_isWord 7 = .ok (.iload 4, 2) := by decide +kernel
theorem dX8_isWord_9 : decode cX8_isWord 9 = .ok (.iadd, 1) := by decide +kernel
theorem dX8_isWord_10 : decode cX8_isWord 10 = .ok (.iload_n 3, 1) := by decide +kernel
theorem dX8_isWord_11 : decode cX8_isWord 11 = .ok (.if_icmp .le 5, 3) := by decide +kernel
theorem dX8_isWord_14 : decode cX8_isWord 14 = .ok (.iconst 0, 1) := by decide +kernel
theorem dX8_isWord_15 : decode cX8_isWord 15 = .ok (.ireturn, 1) := by decide +kernel
theorem dX8_isWord_16 : decode cX8_isWord 16 = .ok (.iconst 0, 1) := by decide +kernel
theorem dX8_isWord_17 : decode cX8_isWord 17 = .ok (.istore 5, 2) := by decide +kernel
theorem dX8_isWord_19 : decode cX8_isWord 19 = .ok (.iload_n 2, 1) := by decide +kernel
theorem dX8_isWord_20 : decode cX8_isWord 20 = .ok (.istore 6, 2) := by decide +kernel
theorem dX8_isWord_22 : decode cX8_isWord 22 = .ok (.iload 6, 2) := by decide +kernel
theorem dX8_isWord_24 : decode cX8_isWord 24 = .ok (.iload_n 2, 1) := by decide +kernel
theorem dX8_isWord_25 : decode cX8_isWord 25 = .ok (.iload 4, 2) := by decide +kernel
theorem dX8_isWord_27 : decode cX8_isWord 27 = .ok (.iadd, 1) := by decide +kernel
theorem dX8_isWord_28 : decode cX8_isWord 28 = .ok (.if_icmp .ge 24, 3) := by decide +kernel
theorem dX8_isWord_31 : decode cX8_isWord 31 = .ok (.bipush 10, 2) := by decide +kernel
theorem dX8_isWord_33 : decode cX8_isWord 33 = .ok (.iload 5, 2) := by decide +kernel
theorem dX8_isWord_35 : decode cX8_isWord 35 = .ok (.imul, 1) := by decide +kernel
theorem dX8_isWord_36 : decode cX8_isWord 36 = .ok (.aload_n 0, 1) := by decide +kernel
theorem dX8_isWord_37 : decode cX8_isWord 37 = .ok (.getfield 55, 3) := by decide +kernel
theorem dX8_isWord_40 : decode cX8_isWord 40 = .ok (.iload 6, 2) := by decide +kernel
theorem dX8_isWord_42 : decode cX8_isWord 42 = .ok (.iaload, 1) := by decide +kernel
theorem dX8_isWord_43 : decode cX8_isWord 43 = .ok (.iadd, 1) := by decide +kernel
theorem dX8_isWord_44 : decode cX8_isWord 44 = .ok (.istore 5, 2) := by decide +kernel
theorem dX8_isWord_46 : decode cX8_isWord 46 = .ok (.iinc 6 1, 3) := by decide +kernel
theorem dX8_isWord_49 : decode cX8_isWord 49 = .ok (.goto (-27), 3) := by decide +kernel
theorem dX8_isWord_52 : decode cX8_isWord 52 = .ok (.iload 5, 2) := by decide +kernel
theorem dX8_isWord_54 : decode cX8_isWord 54 = .ok (.iload_n 1, 1) := by decide +kernel
theorem dX8_isWord_55 : decode cX8_isWord 55 = .ok (.if_icmp .ne 7, 3) := by decide +kernel
theorem dX8_isWord_58 : decode cX8_isWord 58 = .ok (.iconst 1, 1) := by decide +kernel
theorem dX8_isWord_59 : decode cX8_isWord 59 = .ok (.goto 4, 3) := by decide +kernel
theorem dX8_isWord_62 : decode cX8_isWord 62 = .ok (.iconst 0, 1) := by decide +kernel
theorem dX8_isWord_63 : decode cX8_isWord 63 = .ok (.ireturn, 1) := by decide +kernel
theorem dX8_isAnew_0 : decode cX8_isAnew 0 = .ok (.iconst 1, 1) := by decide +kernel
theorem dX8_isAnew_1 : decode cX8_isAnew 1 = .ok (.istore_n 2, 1) := by decide +kernel
theorem dX8_isAnew_2 : decode cX8_isAnew 2 = .ok (.iconst 0, 1) := by decide +kernel
theorem dX8_isAnew_3 : decode cX8_isAnew 3 = .ok (.istore_n 3, 1) := by decide +kernel
theorem dX8_isAnew_4 : decode cX8_isAnew 4 = .ok (.iload_n 3, 1) := by decide +kernel
theorem dX8_isAnew_5 : decode cX8_isAnew 5 = .ok (.iload_n 1, 1) := by decide +kernel
theorem dX8_isAnew_6 : decode cX8_isAnew 6 = .ok (.if_icmp .ge 34, 3) := by decide +kernel
theorem dX8_isAnew_9 : decode cX8_isAnew 9 = .ok (.iload_n 2, 1) := by decide +kernel
theorem dX8_isAnew_10 : decode cX8_isAnew 10 = .ok (.ifCond .eq 22, 3) := by decide +kernel
theorem dX8_isAnew_13 : decode cX8_isAnew 13 = .ok (.aload_n 0, 1) := by decide +kernel
theorem dX8_isAnew_14 : decode cX8_isAnew 14 = .ok (.getfield 52, 3) := by decide +kernel
theorem dX8_isAnew_17 : decode cX8_isAnew 17 = .ok (.iload_n 3, 1) := by decide +kernel
theorem dX8_isAnew_18 : decode cX8_isAnew 18 = .ok (.iaload, 1) := by decide +kernel
theorem dX8_isAnew_19 : decode cX8_isAnew 19 = .ok (.aload_n 0, 1) := by decide +kernel
theorem dX8_isAnew_20 : decode cX8_isAnew 20 = .ok (.getfield 52, 3) := by decide +kernel
theorem dX8_isAnew_23 : decode cX8_isAnew 23 = .ok (.iload_n 1, 1) := by decide +kernel
theorem dX8_isAnew_24 : decode cX8_isAnew 24 = .ok (.iaload, 1) := by decide +kernel
theorem dX8_isAnew_25 : decode cX8_isAnew 25 = .ok (.if_icmp .eq 7, 3) := by decide +kernel
theorem dX8_isAnew_28 : decode cX8_isAnew 28 = .ok (.iconst 1, 1) := by decide +kernel
theorem dX8_isAnew_29 : decode cX8_isAnew 29 = .ok (.goto 4, 3) := by decide +kernel
theorem dX8_isAnew_32 : decode cX8_isAnew 32 = .ok (.iconst 0, 1) := by decide +kernel
theorem dX8_isAnew_33 : decode cX8_isAnew 33 = .ok (.istore_n 2, 1) := by decide +kernel
theorem dX8_isAnew_34 : decode cX8_isAnew 34 = .ok (.iinc 3 1, 3) := by decide +kernel
theorem dX8_isAnew_37 : decode cX8_isAnew 37 = .ok (.goto (-33), 3) := by decide +kernel
theorem dX8_isAnew_40 : decode cX8_isAnew 40 = .ok (.iload_n 2, 1) := by decide +kernel
theorem dX8_isAnew_41 : decode cX8_isAnew 41 = .ok (.ireturn, 1) := by decide +kernel
set_option maxRecDepth 20000 in
theorem ggX8_readFrom_X8_isAnew : GoodIn wsX8_readFrom wsX8_isAnew := goodIn_r _ [8, 3, 17, 18, 19, 20, 21, 22, 23, 24, 25, 26, 27, 28, 29, 30, 31, 32, 33, 34, 35, 36, 37, 38, 39, 40, 41, 42, 43, 44, 45, 46, 47, 48, 49, 50, 51, 52, 53] (by decide +kernel) (by decide +kernel)
set_option maxRecDepth 20000 in
theorem gX8_readFrom_X8_isAnew : GoodIn wsX8_readFrom (wsV RX8 260 RX8 yX8_isAnew wsX8_isAnew) := goodIn_app (goodIn_of _ (by decide +kernel)) ggX8_readFrom_X8_isAnew
set_option maxRecDepth 20000 in
theorem ggX8_readFrom_X8_isWord : GoodIn wsX8_readFrom wsX8_isWord := goodIn_r _ [12, 13, 14, 15, 7, 16, 17, 18, 19, 20, 21, 22, 23, 24, 25, 26, 27, 28, 29, 30, 31, 32, 33, 34, 35, 36, 37, 38, 39, 40, 41, 42, 43, 44, 45, 46, 47, 48, 49, 50, 51, 52, 53] (by decide +kernel) (by decide +kernel)
set_option maxRecDepth 20000 in
theorem gX8_readFrom_X8_isWord : GoodIn wsX8_readFrom (wsV RX8 263 RX8 yX8_isWord wsX8_isWord) := goodIn_app (goodIn_of _ (by decide +kernel)) ggX8_readFrom_X8_isWord
set_option maxRecDepth 20000 in
theorem ggX8_readFrom_X8_digitsOf : GoodIn wsX8_readFrom wsX8_digitsOf := goodIn_r _ [16] (by decide +kernel) (by decide +kernel)
set_option maxRecDepth 20000 in
theorem gX8_readFrom_X8_digitsOf : GoodIn wsX8_readFrom (va_wsS RX8 257 yX8_digitsOf wsX8_digitsOf) := goodIn_app (goodIn_of _ (by decide +kernel)) ggX8_readFrom_X8_digitsOf
theorem dX8_readFrom_0 : decode cX8_readFrom 0 = .ok (.aload_n 0, 1) := by decide +kernel
theorem dX8_readFrom_1 : decode cX8_readFrom 1 = .ok (.getfield 58, 3) := by decide +kernel
theorem dX8_readFrom_4 : decode cX8_readFrom 4 = .ok (.iload_n 1, 1) := by decide +kernel
theorem dX8_readFrom_5 : decode cX8_readFrom 5 = .ok (.iconst 0, 1) := by decide +kernel
theorem dX8_readFrom_6 : decode cX8_readFrom 6 = .ok (.iastore, 1) := by decide +kernel
theorem dX8_readFrom_7 : decode cX8_readFrom 7 = .ok (.aload_n 0, 1) := by decide +kernel
theorem dX8_readFrom_8 : decode cX8_readFrom 8 = .ok (.getfield 61, 3) := by decide +kernel
theorem dX8_readFrom_11 : decode cX8_readFrom 11 = .ok (.iload_n 1, 1) := by decide +kernel
theorem dX8_readFrom_12 : decode cX8_readFrom 12 = .ok (.bipush (-6), 2) := by decide +kernel
theorem dX8_readFrom_14 : decode cX8_readFrom 14 = .ok (.iastore, 1) := by decide +kernel
theorem dX8_readFrom_15 : decode cX8_readFrom 15 = .ok (.iconst 0, 1) := by decide +kernel
theorem dX8_readFrom_16 : decode cX8_readFrom 16 = .ok (.istore_n 3, 1) := by decide +kernel
theorem dX8_readFrom_17 : decode cX8_readFrom 17 = .ok (.iload_n 3, 1) := by decide +kernel
theorem dX8_readFrom_18 : decode cX8_readFrom 18 = .ok (.iconst 4, 1) := by decide +kernel
theorem dX8_readFrom_19 : decode cX8_readFrom 19 = .ok (.if_icmp .ge 134, 3) := by decide +kernel
theorem dX8_readFrom_22 : decode cX8_readFrom 22 = .ok (.aload_n 0, 1) := by decide +kernel
theorem dX8_readFrom_23 : decode cX8_readFrom 23 = .ok (.iload_n 3, 1) := by decide +kernel
theorem dX8_readFrom_24 : decode cX8_readFrom 24 = .ok (.invokevirtual 260, 3) := by decide +kernel
theorem dX8_readFrom_27 : decode cX8_readFrom 27 = .ok (.ifCond .eq 120, 3) := by decide +kernel
theorem dX8_readFrom_30 : decode cX8_readFrom 30 = .ok (.aload_n 0, 1) := by decide +kernel
theorem dX8_readFrom_31 : decode cX8_readFrom 31 = .ok (.aload_n 0, 1) := by decide +kernel
theorem dX8_readFrom_32 : decode cX8_readFrom 32 = .ok (.getfield 52, 3) := by decide +kernel
theorem dX8_readFrom_35 : decode cX8_readFrom 35 = .ok (.iload_n 3, 1) := by decide +kernel
theorem dX8_readFrom_36 : decode cX8_readFrom 36 = .ok (.iaload, 1) := by decide +kernel
theorem dX8_readFrom_37 : decode cX8_readFrom 37 = .ok (.iload_n 1, 1) := by decide +kernel
theorem dX8_readFrom_38 : decode cX8_readFrom 38 = .ok (.iload_n 2, 1) := by decide +kernel
theorem dX8_readFrom_39 : decode cX8_readFrom 39 = .ok (.invokevirtual 263, 3) := by decide +kernel
theorem dX8_readFrom_42 : decode cX8_readFrom 42 = .ok (.ifCond .eq 105, 3) := by decide +kernel
theorem dX8_readFrom_45 : decode cX8_readFrom 45 = .ok (.iload_n 1, 1) := by decide +kernel
theorem dX8_readFrom_46 : decode cX8_readFrom 46 = .ok (.aload_n 0, 1) := by decide +kernel
theorem dX8_readFrom_47 : decode cX8_readFrom 47 = .ok (.getfield 52, 3) := by decide +kernel
theorem dX8_readFrom_50 : decode cX8_readFrom 50 = .ok (.iload_n 3, 1) := by decide +kernel
theorem dX8_readFrom_51 : decode cX8_readFrom 51 = .ok (.iaload, 1) := by decide +kernel
theorem dX8_readFrom_52 : decode cX8_readFrom 52 = .ok (.invokestatic 257, 3) := by decide +kernel
theorem dX8_readFrom_55 : decode cX8_readFrom 55 = .ok (.iadd, 1) := by decide +kernel
theorem dX8_readFrom_56 : decode cX8_readFrom 56 = .ok (.istore 4, 2) := by decide +kernel
theorem dX8_readFrom_58 : decode cX8_readFrom 58 = .ok (.aload_n 0, 1) := by decide +kernel
theorem dX8_readFrom_59 : decode cX8_readFrom 59 = .ok (.getfield 58, 3) := by decide +kernel
theorem dX8_readFrom_62 : decode cX8_readFrom 62 = .ok (.iload_n 1, 1) := by decide +kernel
theorem dX8_readFrom_63 : decode cX8_readFrom 63 = .ok (.dup2, 1) := by decide +kernel
theorem dX8_readFrom_64 : decode cX8_readFrom 64 = .ok (.iaload, 1) := by decide +kernel
theorem dX8_readFrom_65 : decode cX8_readFrom 65 = .ok (.aload_n 0, 1) := by decide +kernel
theorem dX8_readFrom_66 : decode cX8_readFrom 66 = .ok (.getfield 58, 3) := by decide +kernel
theorem dX8_readFrom_69 : decode cX8_readFrom 69 = .ok (.iload 4, 2) := by decide +kernel
theorem dX8_readFrom_71 : decode cX8_readFrom 71 = .ok (.iaload, 1) := by decide +kernel
theorem dX8_readFrom_72 : decode cX8_readFrom 72 = .ok (.iadd, 1) := by decide +kernel
theorem dX8_readFrom_73 : decode cX8_readFrom 73 = .ok (.iastore, 1) := by decide +kernel
theorem dX8_readFrom_74 : decode cX8_readFrom 74 = .ok (.aload_n 0, 1) := by decide +kernel
theorem dX8_readFrom_75 : decode cX8_readFrom 75 = .ok (.getfield 61, 3) := by decide +kernel
theorem dX8_readFrom_78 : decode cX8_readFrom 78 = .ok (.iload 4, 2) := by decide +kernel
theorem dX8_readFrom_80 : decode cX8_readFrom 80 = .ok (.iaload, 1) := by decide +kernel
theorem dX8_readFrom_81 : decode cX8_readFrom 81 = .ok (.ifCond .lt 34, 3) := by decide +kernel
theorem dX8_readFrom_84 : decode cX8_readFrom 84 = .ok (.aload_n 0, 1) := by decide +kernel
theorem dX8_readFrom_85 : decode cX8_readFrom 85 = .ok (.getfield 61, 3) := by decide +kernel
theorem dX8_readFrom_88 : decode cX8_readFrom 88 = .ok (.iload_n 1, 1) := by decide +kernel
theorem dX8_readFrom_89 : decode cX8_readFrom 89 = .ok (.iaload, 1) := by decide +kernel
theorem dX8_readFrom_90 : decode cX8_readFrom 90 = .ok (.ifCond .lt 21, 3) := by decide +kernel
theorem dX8_readFrom_93 : decode cX8_readFrom 93 = .ok (.aload_n 0, 1) := by decide +kernel
theorem dX8_readFrom_94 : decode cX8_readFrom 94 = .ok (.getfield 61, 3) := by decide +kernel
theorem dX8_readFrom_97 : decode cX8_readFrom 97 = .ok (.iload 4, 2) := by decide +kernel
theorem dX8_readFrom_99 : decode cX8_readFrom 99 = .ok (.iaload, 1) := by decide +kernel
theorem dX8_readFrom_100 : decode cX8_readFrom 100 = .ok (.iconst 1, 1) := by decide +kernel
theorem dX8_readFrom_101 : decode cX8_readFrom 101 = .ok (.iadd, 1) := by decide +kernel
theorem dX8_readFrom_102 : decode cX8_readFrom 102 = .ok (.aload_n 0, 1) := by decide +kernel
theorem dX8_readFrom_103 : decode cX8_readFrom 103 = .ok (.getfield 61, 3) := by decide +kernel
theorem dX8_readFrom_106 : decode cX8_readFrom 106 = .ok (.iload_n 1, 1) := by decide +kernel
theorem dX8_readFrom_107 : decode cX8_readFrom 107 = .ok (.iaload, 1) := by decide +kernel
theorem dX8_readFrom_108 : decode cX8_readFrom 108 = .ok (.if_icmp .ge 7, 3) := by decide +kernel
theorem dX8_readFrom_111 : decode cX8_readFrom 111 = .ok (.iconst 1, 1) := by decide +kernel
theorem dX8_readFrom_112 : decode cX8_readFrom 112 = .ok (.goto 4, 3) := by decide +kernel
theorem dX8_readFrom_115 : decode cX8_readFrom 115 = .ok (.iconst 0, 1) := by decide +kernel
theorem dX8_readFrom_116 : decode cX8_readFrom 116 = .ok (.istore 5, 2) := by decide +kernel
theorem dX8_readFrom_118 : decode cX8_readFrom 118 = .ok (.aload_n 0, 1) := by decide +kernel
theorem dX8_readFrom_119 : decode cX8_readFrom 119 = .ok (.getfield 61, 3) := by decide +kernel
theorem dX8_readFrom_122 : decode cX8_readFrom 122 = .ok (.iload_n 1, 1) := by decide +kernel
theorem dX8_readFrom_123 : decode cX8_readFrom 123 = .ok (.iload 5, 2) := by decide +kernel
theorem dX8_readFrom_125 : decode cX8_readFrom 125 = .ok (.ifCond .eq 15, 3) := by decide +kernel
theorem dX8_readFrom_128 : decode cX8_readFrom 128 = .ok (.aload_n 0, 1) := by decide +kernel
theorem dX8_readFrom_129 : decode cX8_readFrom 129 = .ok (.getfield 61, 3) := by decide +kernel
theorem dX8_readFrom_132 : decode cX8_readFrom 132 = .ok (.iload 4, 2) := by decide +kernel
theorem dX8_readFrom_134 : decode cX8_readFrom 134 = .ok (.iaload, 1) := by decide +kernel
theorem dX8_readFrom_135 : decode cX8_readFrom 135 = .ok (.iconst 1, 1) := by decide +kernel
theorem dX8_readFrom_136 : decode cX8_readFrom 136 = .ok (.iadd, 1) := by decide +kernel
theorem dX8_readFrom_137 : decode cX8_readFrom 137 = .ok (.goto 9, 3) := by decide +kernel
theorem dX8_readFrom_140 : decode cX8_readFrom 140 = .ok (.aload_n 0, 1) := by decide +kernel
theorem dX8_readFrom_141 : decode cX8_readFrom 141 = .ok (.getfield 61, 3) := by decide +kernel
theorem dX8_readFrom_144 : decode cX8_readFrom 144 = .ok (.iload_n 1, 1) := by decide +kernel
theorem dX8_readFrom_145 : decode cX8_readFrom 145 = .ok (.iaload, 1) := by decide +kernel
theorem dX8_readFrom_146 : decode cX8_readFrom 146 = .ok (.iastore, 1) := by decide +kernel
theorem dX8_readFrom_147 : decode cX8_readFrom 147 = .ok (.iinc 3 1, 3) := by decide +kernel
theorem dX8_readFrom_150 : decode cX8_readFrom 150 = .ok (.goto (-133), 3) := by decide +kernel
theorem dX8_readFrom_153 : decode cX8_readFrom 153 = .ok (.return_, 1) := by decide +kernel
set_option maxRecDepth 20000 in
theorem ggX8_isAWord_X8_in : GoodIn wsX8_isAWord wsX8_in := goodIn_r _ [5] (by decide +kernel) (by decide +kernel)
set_option maxRecDepth 20000 in
theorem gX8_isAWord_X8_in : GoodIn wsX8_isAWord (va_wsS RX8 83 yX8_in wsX8_in) := goodIn_app (goodIn_of _ (by decide +kernel)) ggX8_isAWord_X8_in
theorem dX8_isAWord_0 : decode cX8_isAWord 0 = .ok (.iload_n 0, 1) := by decide +kernel
theorem dX8_isAWord_1 : decode cX8_isAWord 1 = .ok (.i2l, 1) := by decide +kernel
theorem dX8_isAWord_2 : decode cX8_isAWord 2 = .ok (.lconst 1, 1) := by decide +kernel
theorem dX8_isAWord_3 : decode cX8_isAWord 3 = .ok (.ldc2_w 95, 3) := by decide +kernel
theorem dX8_isAWord_6 : decode cX8_isAWord 6 = .ok (.invokestatic 83, 3) := by decide +kernel
theorem dX8_isAWord_9 : decode cX8_isAWord 9 = .ok (.ireturn, 1) := by decide +kernel
set_option maxRecDepth 20000 in
theorem ggX8_read_X8_isAWord : GoodIn wsX8_read wsX8_isAWord := goodIn_r _ [9, 10, 11, 12, 8, 13] (by decide +kernel) (by decide +kernel)
set_option maxRecDepth 20000 in
theorem gX8_read_X8_isAWord : GoodIn wsX8_read (va_wsS RX8 266 yX8_isAWord wsX8_isAWord) := goodIn_app (goodIn_of _ (by decide +kernel)) ggX8_read_X8_isAWord
set_option maxRecDepth 20000 in
theorem ggX8_read_X8_in : GoodIn wsX8_read wsX8_in := goodIn_r _ [13] (by decide +kernel) (by decide +kernel)
set_option maxRecDepth 20000 in
theorem gX8_read_X8_in : GoodIn wsX8_read (va_wsS RX8 83 yX8_in wsX8_in) := goodIn_app (goodIn_of _ (by decide +kernel)) ggX8_read_X8_in
set_option maxRecDepth 20000 in
theorem ggX8_read_X8_readFrom : GoodIn wsX8_read wsX8_readFrom := goodIn_r _ [17, 4, 5, 2, 18, 19, 20, 8, 21, 22, 23, 24, 25, 3, 26, 27, 28, 29, 30, 31, 32, 33, 34, 35, 36, 37, 38, 39, 40, 41, 42, 43, 44, 45, 46, 47, 48, 49, 50, 51, 52, 53, 54, 55, 56, 57, 58, 59, 60, 61, 62, 63, 64, 65] (by decide +kernel) (by decide +kernel)
set_option maxRecDepth 20000 in
theorem gX8_read_X8_readFrom : GoodIn wsX8_read (wsV RX8 271 RX8 yX8_readFrom wsX8_readFrom) := goodIn_app (goodIn_of _ (by decide +kernel)) ggX8_read_X8_readFrom
theorem dX8_read_0 : decode cX8_read 0 = .ok (.iload_n 1, 1) := by decide +kernel
theorem dX8_read_1 : decode cX8_read 1 = .ok (.invokestatic 266, 3) := by decide +kernel
theorem dX8_read_4 : decode cX8_read 4 = .ok (.ifCond .eq 49, 3) := by decide +kernel
theorem dX8_read_7 : decode cX8_read 7 = .ok (.iload_n 2, 1) := by decide +kernel
theorem dX8_read_8 : decode cX8_read 8 = .ok (.invokestatic 266, 3) := by decide +kernel
theorem dX8_read_11 : decode cX8_read 11 = .ok (.ifCond .eq 42, 3) := by decide +kernel
theorem dX8_read_14 : decode cX8_read 14 = .ok (.iload_n 3, 1) := by decide +kernel
theorem dX8_read_15 : decode cX8_read 15 = .ok (.invokestatic 266, 3) := by decide +kernel
theorem dX8_read_18 : decode cX8_read 18 = .ok (.ifCond .eq 35, 3) := by decide +kernel
theorem dX8_read_21 : decode cX8_read 21 = .ok (.iload 4, 2) := by decide +kernel
theorem dX8_read_23 : decode cX8_read 23 = .ok (.invokestatic 266, 3) := by decide +kernel
theorem dX8_read_26 : decode cX8_read 26 = .ok (.ifCond .eq 27, 3) := by decide +kernel
theorem dX8_read_29 : decode cX8_read 29 = .ok (.iload 5, 2) := by decide +kernel
theorem dX8_read_31 : decode cX8_read 31 = .ok (.i2l, 1) := by decide +kernel
theorem dX8_read_32 : decode cX8_read 32 = .ok (.lconst 0, 1) := by decide +kernel
theorem dX8_read_33 : decode cX8_read 33 = .ok (.ldc2_w 269, 3) := by decide +kernel
theorem dX8_read_36 : decode cX8_read 36 = .ok (.invokestatic 83, 3) := by decide +kernel
theorem dX8_read_39 : decode cX8_read 39 = .ok (.ifCond .eq 14, 3) := by decide +kernel
theorem dX8_read_42 : decode cX8_read 42 = .ok (.iload 6, 2) := by decide +kernel
theorem dX8_read_44 : decode cX8_read 44 = .ok (.i2l, 1) := by decide +kernel
theorem dX8_read_45 : decode cX8_read 45 = .ok (.lconst 0, 1) := by decide +kernel
theorem dX8_read_46 : decode cX8_read 46 = .ok (.lconst 1, 1) := by decide +kernel
theorem dX8_read_47 : decode cX8_read 47 = .ok (.invokestatic 83, 3) := by decide +kernel
theorem dX8_read_50 : decode cX8_read 50 = .ok (.ifCond .ne 6, 3) := by decide +kernel
theorem dX8_read_53 : decode cX8_read 53 = .ok (.bipush (-2), 2) := by decide +kernel
theorem dX8_read_55 : decode cX8_read 55 = .ok (.ireturn, 1) := by decide +kernel
theorem dX8_read_56 : decode cX8_read 56 = .ok (.aload_n 0, 1) := by decide +kernel
theorem dX8_read_57 : decode cX8_read 57 = .ok (.getfield 52, 3) := by decide +kernel
theorem dX8_read_60 : decode cX8_read 60 = .ok (.iconst 0, 1) := by decide +kernel
theorem dX8_read_61 : decode cX8_read 61 = .ok (.iload_n 1, 1) := by decide +kernel
theorem dX8_read_62 : decode cX8_read 62 = .ok (.iastore, 1) := by decide +kernel
theorem dX8_read_63 : decode cX8_read 63 = .ok (.aload_n 0, 1) := by decide +kernel
theorem dX8_read_64 : decode cX8_read 64 = .ok (.getfield 52, 3) := by decide +kernel
theorem dX8_read_67 : decode cX8_read 67 = .ok (.iconst 1, 1) := by decide +kernel
theorem dX8_read_68 : decode cX8_read 68 = .ok (.iload_n 2, 1) := by decide +kernel
theorem dX8_read_69 : decode cX8_read 69 = .ok (.iastore, 1) := by decide +kernel
theorem dX8_read_70 : decode cX8_read 70 = .ok (.aload_n 0, 1) := by decide +kernel
theorem dX8_read_71 : decode cX8_read 71 = .ok (.getfield 52, 3) := by decide +kernel
theorem dX8_read_74 : decode cX8_read 74 = .ok (.iconst 2, 1) := by decide +kernel
theorem dX8_read_75 : decode cX8_read 75 = .ok (.iload_n 3, 1) := by decide +kernel
theorem dX8_read_76 : decode cX8_read 76 = .ok (.iastore, 1) := by decide +kernel
theorem dX8_read_77 : decode cX8_read 77 = .ok (.aload_n 0, 1) := by decide +kernel
theorem dX8_read_78 : decode cX8_read 78 = .ok (.getfield 52, 3) := by decide +kernel
theorem dX8_read_81 : decode cX8_read 81 = .ok (.iconst 3, 1) := by decide +kernel
theorem dX8_read_82 : decode cX8_read 82 = .ok (.iload 4, 2) := by decide +kernel
theorem dX8_read_84 : decode cX8_read 84 = .ok (.iastore, 1) := by decide +kernel
theorem dX8_read_85 : decode cX8_read 85 = .ok (.iconst 1, 1) := by decide +kernel
theorem dX8_read_86 : decode cX8_read 86 = .ok (.istore 7, 2) := by decide +kernel
theorem dX8_read_88 : decode cX8_read 88 = .ok (.iload 5, 2) := by decide +kernel
theorem dX8_read_90 : decode cX8_read 90 = .ok (.bipush 10, 2) := by decide +kernel
theorem dX8_read_92 : decode cX8_read 92 = .ok (.idiv, 1) := by decide +kernel
theorem dX8_read_93 : decode cX8_read 93 = .ok (.istore 8, 2) := by decide +kernel
theorem dX8_read_95 : decode cX8_read 95 = .ok (.iload 8, 2) := by decide +kernel
theorem dX8_read_97 : decode cX8_read 97 = .ok (.ifCond .le 16, 3) := by decide +kernel
theorem dX8_read_100 : decode cX8_read 100 = .ok (.iinc 7 1, 3) := by decide +kernel
theorem dX8_read_103 : decode cX8_read 103 = .ok (.iload 8, 2) := by decide +kernel
theorem dX8_read_105 : decode cX8_read 105 = .ok (.bipush 10, 2) := by decide +kernel
theorem dX8_read_107 : decode cX8_read 107 = .ok (.idiv, 1) := by decide +kernel
theorem dX8_read_108 : decode cX8_read 108 = .ok (.istore 8, 2) := by decide +kernel
theorem dX8_read_110 : decode cX8_read 110 = .ok (.goto (-15), 3) := by decide +kernel
theorem dX8_read_113 : decode cX8_read 113 = .ok (.iload 5, 2) := by decide +kernel
theorem dX8_read_115 : decode cX8_read 115 = .ok (.istore 8, 2) := by decide +kernel
theorem dX8_read_117 : decode cX8_read 117 = .ok (.iload 7, 2) := by decide +kernel
theorem dX8_read_119 : decode cX8_read 119 = .ok (.iconst 1, 1) := by decide +kernel
theorem dX8_read_120 : decode cX8_read 120 = .ok (.isub, 1) := by decide +kernel
theorem dX8_read_121 : decode cX8_read 121 = .ok (.istore 9, 2) := by decide +kernel
theorem dX8_read_123 : decode cX8_read 123 = .ok (.iload 9, 2) := by decide +kernel
theorem dX8_read_125 : decode cX8_read 125 = .ok (.ifCond .lt 28, 3) := by decide +kernel
theorem dX8_read_128 : decode cX8_read 128 = .ok (.aload_n 0, 1) := by decide +kernel
theorem dX8_read_129 : decode cX8_read 129 = .ok (.getfield 55, 3) := by decide +kernel
theorem dX8_read_132 : decode cX8_read 132 = .ok (.iload 9, 2) := by decide +kernel
theorem dX8_read_134 : decode cX8_read 134 = .ok (.iload 8, 2) := by decide +kernel
theorem dX8_read_136 : decode cX8_read 136 = .ok (.bipush 10, 2) := by decide +kernel
theorem dX8_read_138 : decode cX8_read 138 = .ok (.irem, 1) := by decide +kernel
theorem dX8_read_139 : decode cX8_read 139 = .ok (.iastore, 1) := by decide +kernel
theorem dX8_read_140 : decode cX8_read 140 = .ok (.iload 8, 2) := by decide +kernel
theorem dX8_read_142 : decode cX8_read 142 = .ok (.bipush 10, 2) := by decide +kernel
theorem dX8_read_144 : decode cX8_read 144 = .ok (.idiv, 1) := by decide +kernel
theorem dX8_read_145 : decode cX8_read 145 = .ok (.istore 8, 2) := by decide +kernel
theorem dX8_read_147 : decode cX8_read 147 = .ok (.iinc 9 (-1), 3) := by decide +kernel
theorem dX8_read_150 : decode cX8_read 150 = .ok (.goto (-27), 3) := by decide +kernel
theorem dX8_read_153 : decode cX8_read 153 = .ok (.aload_n 0, 1) := by decide +kernel
theorem dX8_read_154 : decode cX8_read 154 = .ok (.getfield 58, 3) := by decide +kernel
theorem dX8_read_157 : decode cX8_read 157 = .ok (.iload 7, 2) := by decide +kernel
theorem dX8_read_159 : decode cX8_read 159 = .ok (.iconst 1, 1) := by decide +kernel
theorem dX8_read_160 : decode cX8_read 160 = .ok (.iastore, 1) := by decide +kernel
theorem dX8_read_161 : decode cX8_read 161 = .ok (.aload_n 0, 1) := by decide +kernel
theorem dX8_read_162 : decode cX8_read 162 = .ok (.getfield 61, 3) := by decide +kernel
theorem dX8_read_165 : decode cX8_read 165 = .ok (.iload 7, 2) := by decide +kernel
theorem dX8_read_167 : decode cX8_read 167 = .ok (.iconst 0, 1) := by decide +kernel
theorem dX8_read_168 : decode cX8_read 168 = .ok (.iastore, 1) := by decide +kernel
theorem dX8_read_169 : decode cX8_read 169 = .ok (.iload 7, 2) := by decide +kernel
theorem dX8_read_171 : decode cX8_read 171 = .ok (.iconst 1, 1) := by decide +kernel
theorem dX8_read_172 : decode cX8_read 172 = .ok (.isub, 1) := by decide +kernel
theorem dX8_read_173 : decode cX8_read 173 = .ok (.istore 9, 2) := by decide +kernel
theorem dX8_read_175 : decode cX8_read 175 = .ok (.iload 9, 2) := by decide +kernel
theorem dX8_read_177 : decode cX8_read 177 = .ok (.ifCond .lt 17, 3) := by decide +kernel
theorem dX8_read_180 : decode cX8_read 180 = .ok (.aload_n 0, 1) := by decide +kernel
theorem dX8_read_181 : decode cX8_read 181 = .ok (.iload 9, 2) := by decide +kernel
theorem dX8_read_183 : decode cX8_read 183 = .ok (.iload 7, 2) := by decide +kernel
theorem dX8_read_185 : decode cX8_read 185 = .ok (.invokevirtual 271, 3) := by decide +kernel
theorem dX8_read_188 : decode cX8_read 188 = .ok (.iinc 9 (-1), 3) := by decide +kernel
theorem dX8_read_191 : decode cX8_read 191 = .ok (.goto (-16), 3) := by decide +kernel
theorem dX8_read_194 : decode cX8_read 194 = .ok (.iload 6, 2) := by decide +kernel
theorem dX8_read_196 : decode cX8_read 196 = .ok (.ifCond .ne 12, 3) := by decide +kernel
theorem dX8_read_199 : decode cX8_read 199 = .ok (.aload_n 0, 1) := by decide +kernel
theorem dX8_read_200 : decode cX8_read 200 = .ok (.getfield 58, 3) := by decide +kernel
theorem dX8_read_203 : decode cX8_read 203 = .ok (.iconst 0, 1) := by decide +kernel
theorem dX8_read_204 : decode cX8_read 204 = .ok (.iaload, 1) := by decide +kernel
theorem dX8_read_205 : decode cX8_read 205 = .ok (.goto 9, 3) := by decide +kernel
theorem dX8_read_208 : decode cX8_read 208 = .ok (.aload_n 0, 1) := by decide +kernel
theorem dX8_read_209 : decode cX8_read 209 = .ok (.getfield 61, 3) := by decide +kernel
theorem dX8_read_212 : decode cX8_read 212 = .ok (.iconst 0, 1) := by decide +kernel
theorem dX8_read_213 : decode cX8_read 213 = .ok (.iaload, 1) := by decide +kernel
theorem dX8_read_214 : decode cX8_read 214 = .ok (.ireturn, 1) := by decide +kernel
set_option maxRecDepth 20000 in
theorem ggX8_felt_X8_isChild : GoodIn wsX8_felt wsX8_isChild := goodIn_r _ [8, 1, 9, 10, 7, 11] (by decide +kernel) (by decide +kernel)
set_option maxRecDepth 20000 in
theorem gX8_felt_X8_isChild : GoodIn wsX8_felt (va_wsS RX8 91 yX8_isChild wsX8_isChild) := goodIn_app (goodIn_of _ (by decide +kernel)) ggX8_felt_X8_isChild
set_option maxRecDepth 20000 in
theorem ggX8_felt_X8_in : GoodIn wsX8_felt wsX8_in := goodIn_r _ [11] (by decide +kernel) (by decide +kernel)
set_option maxRecDepth 20000 in
theorem gX8_felt_X8_in : GoodIn wsX8_felt (va_wsS RX8 83 yX8_in wsX8_in) := goodIn_app (goodIn_of _ (by decide +kernel)) ggX8_felt_X8_in
theorem dX8_felt_0 : decode cX8_felt 0 = .ok (.iload_n 1, 1) := by decide +kernel
theorem dX8_felt_1 : decode cX8_felt 1 = .ok (.invokestatic 91, 3) := by decide +kernel
theorem dX8_felt_4 : decode cX8_felt 4 = .ok (.ifCond .ne 5, 3) := by decide +kernel
theorem dX8_felt_7 : decode cX8_felt 7 = .ok (.iconst (-1), 1) := by decide +kernel
theorem dX8_felt_8 : decode cX8_felt 8 = .ok (.ireturn, 1) := by decide +kernel
theorem dX8_felt_9 : decode cX8_felt 9 = .ok (.iload_n 2, 1) := by decide +kernel
theorem dX8_felt_10 : decode cX8_felt 10 = .ok (.i2l, 1) := by decide +kernel
theorem dX8_felt_11 : decode cX8_felt 11 = .ok (.lconst 0, 1) := by decide +kernel
theorem dX8_felt_12 : decode cX8_felt 12 = .ok (.ldc2_w 81, 3) := by decide +kernel
theorem dX8_felt_15 : decode cX8_felt 15 = .ok (.invokestatic 83, 3) := by decide +kernel
theorem dX8_felt_18 : decode cX8_felt 18 = .ok (.ifCond .ne 6, 3) := by decide +kernel
theorem dX8_felt_21 : decode cX8_felt 21 = .ok (.bipush (-2), 2) := by decide +kernel
theorem dX8_felt_23 : decode cX8_felt 23 = .ok (.ireturn, 1) := by decide +kernel
theorem dX8_felt_24 : decode cX8_felt 24 = .ok (.aload_n 0, 1) := by decide +kernel
theorem dX8_felt_25 : decode cX8_felt 25 = .ok (.getfield 274, 3) := by decide +kernel
theorem dX8_felt_28 : decode cX8_felt 28 = .ok (.bipush 8, 2) := by decide +kernel
theorem dX8_felt_30 : decode cX8_felt 30 = .ok (.if_icmp .ne 6, 3) := by decide +kernel
theorem dX8_felt_33 : decode cX8_felt 33 = .ok (.bipush (-4), 2) := by decide +kernel
theorem dX8_felt_35 : decode cX8_felt 35 = .ok (.ireturn, 1) := by decide +kernel
theorem dX8_felt_36 : decode cX8_felt 36 = .ok (.aload_n 0, 1) := by decide +kernel
theorem dX8_felt_37 : decode cX8_felt 37 = .ok (.getfield 19, 3) := by decide +kernel
theorem dX8_felt_40 : decode cX8_felt 40 = .ok (.aload_n 0, 1) := by decide +kernel
theorem dX8_felt_41 : decode cX8_felt 41 = .ok (.getfield 274, 3) := by decide +kernel
theorem dX8_felt_44 : decode cX8_felt 44 = .ok (.iload_n 1, 1) := by decide +kernel
theorem dX8_felt_45 : decode cX8_felt 45 = .ok (.iastore, 1) := by decide +kernel
theorem dX8_felt_46 : decode cX8_felt 46 = .ok (.aload_n 0, 1) := by decide +kernel
theorem dX8_felt_47 : decode cX8_felt 47 = .ok (.getfield 22, 3) := by decide +kernel
theorem dX8_felt_50 : decode cX8_felt 50 = .ok (.aload_n 0, 1) := by decide +kernel
theorem dX8_felt_51 : decode cX8_felt 51 = .ok (.getfield 274, 3) := by decide +kernel
theorem dX8_felt_54 : decode cX8_felt 54 = .ok (.iload_n 2, 1) := by decide +kernel
theorem dX8_felt_55 : decode cX8_felt 55 = .ok (.iastore, 1) := by decide +kernel
theorem dX8_felt_56 : decode cX8_felt 56 = .ok (.aload_n 0, 1) := by decide +kernel
theorem dX8_felt_57 : decode cX8_felt 57 = .ok (.dup, 1) := by decide +kernel
theorem dX8_felt_58 : decode cX8_felt 58 = .ok (.getfield 274, 3) := by decide +kernel
theorem dX8_felt_61 : decode cX8_felt 61 = .ok (.iconst 1, 1) := by decide +kernel
theorem dX8_felt_62 : decode cX8_felt 62 = .ok (.iadd, 1) := by decide +kernel
theorem dX8_felt_63 : decode cX8_felt 63 = .ok (.putfield 274, 3) := by decide +kernel
theorem dX8_felt_66 : decode cX8_felt 66 = .ok (.aload_n 0, 1) := by decide +kernel
theorem dX8_felt_67 : decode cX8_felt 67 = .ok (.getfield 274, 3) := by decide +kernel
theorem dX8_felt_70 : decode cX8_felt 70 = .ok (.ireturn, 1) := by decide +kernel
theorem dX8_forget_0 : decode cX8_forget 0 = .ok (.aload_n 0, 1) := by decide +kernel
theorem dX8_forget_1 : decode cX8_forget 1 = .ok (.getfield 274, 3) := by decide +kernel
theorem dX8_forget_4 : decode cX8_forget 4 = .ok (.istore_n 1, 1) := by decide +kernel
theorem dX8_forget_5 : decode cX8_forget 5 = .ok (.aload_n 0, 1) := by decide +kernel
theorem dX8_forget_6 : decode cX8_forget 6 = .ok (.iconst 0, 1) := by decide +kernel
theorem dX8_forget_7 : decode cX8_forget 7 = .ok (.putfield 274, 3) := by decide +kernel
theorem dX8_forget_10 : decode cX8_forget 10 = .ok (.iload_n 1, 1) := by decide +kernel
theorem dX8_forget_11 : decode cX8_forget 11 = .ok (.ireturn, 1) := by decide +kernel
set_option maxRecDepth 20000 in
theorem ggX8_feltBy_X8_off : GoodIn wsX8_feltBy wsX8_off := goodIn_r _ [4] (by decide +kernel) (by decide +kernel)
set_option maxRecDepth 20000 in
theorem gX8_feltBy_X8_off : GoodIn wsX8_feltBy (va_wsS RX8 87 yX8_off wsX8_off) := goodIn_app (goodIn_of _ (by decide +kernel)) ggX8_feltBy_X8_off
theorem dX8_feltBy_0 : decode cX8_feltBy 0 = .ok (.iload_n 0, 1) := by decide +kernel
theorem dX8_feltBy_1 : decode cX8_feltBy 1 = .ok (.bipush 10, 2) := by decide +kernel
theorem dX8_feltBy_3 : decode cX8_feltBy 3 = .ok (.idiv, 1) := by decide +kernel
theorem dX8_feltBy_4 : decode cX8_feltBy 4 = .ok (.bipush 10, 2) := by decide +kernel
theorem dX8_feltBy_6 : decode cX8_feltBy 6 = .ok (.irem, 1) := by decide +kernel
theorem dX8_feltBy_7 : decode cX8_feltBy 7 = .ok (.iload_n 0, 1) := by decide +kernel
theorem dX8_feltBy_8 : decode cX8_feltBy 8 = .ok (.bipush 10, 2) := by decide +kernel
theorem dX8_feltBy_10 : decode cX8_feltBy 10 = .ok (.irem, 1) := by decide +kernel
theorem dX8_feltBy_11 : decode cX8_feltBy 11 = .ok (.iload_n 0, 1) := by decide +kernel
theorem dX8_feltBy_12 : decode cX8_feltBy 12 = .ok (.bipush 100, 2) := by decide +kernel
theorem dX8_feltBy_14 : decode cX8_feltBy 14 = .ok (.idiv, 1) := by decide +kernel
theorem dX8_feltBy_15 : decode cX8_feltBy 15 = .ok (.iload_n 1, 1) := by decide +kernel
theorem dX8_feltBy_16 : decode cX8_feltBy 16 = .ok (.invokestatic 87, 3) := by decide +kernel
theorem dX8_feltBy_19 : decode cX8_feltBy 19 = .ok (.imul, 1) := by decide +kernel
theorem dX8_feltBy_20 : decode cX8_feltBy 20 = .ok (.isub, 1) := by decide +kernel
theorem dX8_feltBy_21 : decode cX8_feltBy 21 = .ok (.istore_n 2, 1) := by decide +kernel
theorem dX8_feltBy_22 : decode cX8_feltBy 22 = .ok (.iload_n 2, 1) := by decide +kernel
theorem dX8_feltBy_23 : decode cX8_feltBy 23 = .ok (.ifCond .ge 7, 3) := by decide +kernel
theorem dX8_feltBy_26 : decode cX8_feltBy 26 = .ok (.iconst 0, 1) := by decide +kernel
theorem dX8_feltBy_27 : decode cX8_feltBy 27 = .ok (.goto 4, 3) := by decide +kernel
theorem dX8_feltBy_30 : decode cX8_feltBy 30 = .ok (.iload_n 2, 1) := by decide +kernel
theorem dX8_feltBy_31 : decode cX8_feltBy 31 = .ok (.ireturn, 1) := by decide +kernel
set_option maxRecDepth 20000 in
theorem ggX8_isFit_X8_in : GoodIn wsX8_isFit wsX8_in := goodIn_r _ [8] (by decide +kernel) (by decide +kernel)
set_option maxRecDepth 20000 in
theorem gX8_isFit_X8_in : GoodIn wsX8_isFit (va_wsS RX8 83 yX8_in wsX8_in) := goodIn_app (goodIn_of _ (by decide +kernel)) ggX8_isFit_X8_in
set_option maxRecDepth 20000 in
theorem ggX8_isFit_X8_feltBy : GoodIn wsX8_isFit wsX8_feltBy := goodIn_r _ [11, 12, 13, 7, 14] (by decide +kernel) (by decide +kernel)
set_option maxRecDepth 20000 in
theorem gX8_isFit_X8_feltBy : GoodIn wsX8_isFit (va_wsS RX8 277 yX8_feltBy wsX8_feltBy) := goodIn_app (goodIn_of _ (by decide +kernel)) ggX8_isFit_X8_feltBy
theorem dX8_isFit_0 : decode cX8_isFit 0 = .ok (.iload_n 1, 1) := by decide +kernel
theorem dX8_isFit_1 : decode cX8_isFit 1 = .ok (.bipush 10, 2) := by decide +kernel
theorem dX8_isFit_3 : decode cX8_isFit 3 = .ok (.idiv, 1) := by decide +kernel
theorem dX8_isFit_4 : decode cX8_isFit 4 = .ok (.bipush 10, 2) := by decide +kernel
theorem dX8_isFit_6 : decode cX8_isFit 6 = .ok (.irem, 1) := by decide +kernel
theorem dX8_isFit_7 : decode cX8_isFit 7 = .ok (.ifCond .le 22, 3) := by decide +kernel
theorem dX8_isFit_10 : decode cX8_isFit 10 = .ok (.iload_n 1, 1) := by decide +kernel
theorem dX8_isFit_11 : decode cX8_isFit 11 = .ok (.bipush 10, 2) := by decide +kernel
theorem dX8_isFit_13 : decode cX8_isFit 13 = .ok (.irem, 1) := by decide +kernel
theorem dX8_isFit_14 : decode cX8_isFit 14 = .ok (.i2l, 1) := by decide +kernel
theorem dX8_isFit_15 : decode cX8_isFit 15 = .ok (.lconst 1, 1) := by decide +kernel
theorem dX8_isFit_16 : decode cX8_isFit 16 = .ok (.ldc2_w 240, 3) := by decide +kernel
theorem dX8_isFit_19 : decode cX8_isFit 19 = .ok (.invokestatic 83, 3) := by decide +kernel
theorem dX8_isFit_22 : decode cX8_isFit 22 = .ok (.ifCond .eq 7, 3) := by decide +kernel
theorem dX8_isFit_25 : decode cX8_isFit 25 = .ok (.iconst 1, 1) := by decide +kernel
theorem dX8_isFit_26 : decode cX8_isFit 26 = .ok (.goto 4, 3) := by decide +kernel
theorem dX8_isFit_29 : decode cX8_isFit 29 = .ok (.iconst 0, 1) := by decide +kernel
theorem dX8_isFit_30 : decode cX8_isFit 30 = .ok (.istore_n 2, 1) := by decide +kernel
theorem dX8_isFit_31 : decode cX8_isFit 31 = .ok (.iconst 0, 1) := by decide +kernel
theorem dX8_isFit_32 : decode cX8_isFit 32 = .ok (.istore_n 3, 1) := by decide +kernel
theorem dX8_isFit_33 : decode cX8_isFit 33 = .ok (.iload_n 3, 1) := by decide +kernel
theorem dX8_isFit_34 : decode cX8_isFit 34 = .ok (.aload_n 0, 1) := by decide +kernel
theorem dX8_isFit_35 : decode cX8_isFit 35 = .ok (.getfield 274, 3) := by decide +kernel
theorem dX8_isFit_38 : decode cX8_isFit 38 = .ok (.if_icmp .ge 38, 3) := by decide +kernel
theorem dX8_isFit_41 : decode cX8_isFit 41 = .ok (.iload_n 2, 1) := by decide +kernel
theorem dX8_isFit_42 : decode cX8_isFit 42 = .ok (.ifCond .eq 34, 3) := by decide +kernel
theorem dX8_isFit_45 : decode cX8_isFit 45 = .ok (.iload_n 1, 1) := by decide +kernel
theorem dX8_isFit_46 : decode cX8_isFit 46 = .ok (.aload_n 0, 1) := by decide +kernel
theorem dX8_isFit_47 : decode cX8_isFit 47 = .ok (.getfield 19, 3) := by decide +kernel
theorem dX8_isFit_50 : decode cX8_isFit 50 = .ok (.iload_n 3, 1) := by decide +kernel
theorem dX8_isFit_51 : decode cX8_isFit 51 = .ok (.iaload, 1) := by decide +kernel
theorem dX8_isFit_52 : decode cX8_isFit 52 = .ok (.invokestatic 277, 3) := by decide +kernel
theorem dX8_isFit_55 : decode cX8_isFit 55 = .ok (.aload_n 0, 1) := by decide +kernel
theorem dX8_isFit_56 : decode cX8_isFit 56 = .ok (.getfield 22, 3) := by decide +kernel
theorem dX8_isFit_59 : decode cX8_isFit 59 = .ok (.iload_n 3, 1) := by decide +kernel
theorem dX8_isFit_60 : decode cX8_isFit 60 = .ok (.iaload, 1) := by decide +kernel
theorem dX8_isFit_61 : decode cX8_isFit 61 = .ok (.if_icmp .ne 7, 3) := by decide +kernel
theorem dX8_isFit_64 : decode cX8_isFit 64 = .ok (.iconst 1, 1) := by decide +kernel
theorem dX8_isFit_65 : decode cX8_isFit 65 = .ok (.goto 4, 3) := by decide +kernel
theorem dX8_isFit_68 : decode cX8_isFit 68 = .ok (.iconst 0, 1) := by decide +kernel
theorem dX8_isFit_69 : decode cX8_isFit 69 = .ok (.istore_n 2, 1) := by decide +kernel
theorem dX8_isFit_70 : decode cX8_isFit 70 = .ok (.iinc 3 1, 3) := by decide +kernel
theorem dX8_isFit_73 : decode cX8_isFit 73 = .ok (.goto (-40), 3) := by decide +kernel
theorem dX8_isFit_76 : decode cX8_isFit 76 = .ok (.iload_n 2, 1) := by decide +kernel
theorem dX8_isFit_77 : decode cX8_isFit 77 = .ok (.ireturn, 1) := by decide +kernel
set_option maxRecDepth 20000 in
theorem ggX8_fits_X8_isFit : GoodIn wsX8_fits wsX8_isFit := goodIn_r _ [5, 6, 7, 8, 9, 10, 11, 4, 12, 13, 14, 15, 16, 17, 18, 19, 20, 21, 22, 23, 24, 25, 26, 27, 28, 29, 30, 31, 32, 33, 34, 35, 36, 37, 38, 39, 40, 41, 42, 43, 44, 45, 46, 47, 48, 49, 50, 51, 52, 53, 54, 55] (by decide +kernel) (by decide +kernel)
set_option maxRecDepth 20000 in
theorem gX8_fits_X8_isFit : GoodIn wsX8_fits (wsV RX8 280 RX8 yX8_isFit wsX8_isFit) := goodIn_app (goodIn_of _ (by decide +kernel)) ggX8_fits_X8_isFit
theorem dX8_fits_0 : decode cX8_fits 0 = .ok (.iconst 0, 1) := by decide +kernel
theorem dX8_fits_1 : decode cX8_fits 1 = .ok (.istore_n 2, 1) := by decide +kernel
theorem dX8_fits_2 : decode cX8_fits 2 = .ok (.iconst 0, 1) := by decide +kernel
theorem dX8_fits_3 : decode cX8_fits 3 = .ok (.istore_n 3, 1) := by decide +kernel
theorem dX8_fits_4 : decode cX8_fits 4 = .ok (.iload_n 3, 1) := by decide +kernel
theorem dX8_fits_5 : decode cX8_fits 5 = .ok (.sipush 1000, 3) := by decide +kernel
theorem dX8_fits_8 : decode cX8_fits 8 = .ok (.if_icmp .ge 27, 3) := by decide +kernel
theorem dX8_fits_11 : decode cX8_fits 11 = .ok (.aload_n 0, 1) := by decide +kernel
theorem dX8_fits_12 : decode cX8_fits 12 = .ok (.iload_n 3, 1) := by decide +kernel
theorem dX8_fits_13 : decode cX8_fits 13 = .ok (.invokevirtual 280, 3) := by decide +kernel
theorem dX8_fits_16 : decode cX8_fits 16 = .ok (.ifCond .eq 13, 3) := by decide +kernel
theorem dX8_fits_19 : decode cX8_fits 19 = .ok (.iload_n 2, 1) := by decide +kernel
theorem dX8_fits_20 : decode cX8_fits 20 = .ok (.iload_n 1, 1) := by decide +kernel
theorem dX8_fits_21 : decode cX8_fits 21 = .ok (.if_icmp .ne 5, 3) := by decide +kernel
theorem dX8_fits_24 : decode cX8_fits 24 = .ok (.iload_n 3, 1) := by decide +kernel
theorem dX8_fits_25 : decode cX8_fits 25 = .ok (.ireturn, 1) := by decide +kernel
theorem dX8_fits_26 : decode cX8_fits 26 = .ok (.iinc 2 1, 3) := by decide +kernel
theorem dX8_fits_29 : decode cX8_fits 29 = .ok (.iinc 3 1, 3) := by decide +kernel
theorem dX8_fits_32 : decode cX8_fits 32 = .ok (.goto (-28), 3) := by decide +kernel
theorem dX8_fits_35 : decode cX8_fits 35 = .ok (.iload_n 1, 1) := by decide +kernel
theorem dX8_fits_36 : decode cX8_fits 36 = .ok (.iconst (-1), 1) := by decide +kernel
theorem dX8_fits_37 : decode cX8_fits 37 = .ok (.if_icmp .ne 7, 3) := by decide +kernel
theorem dX8_fits_40 : decode cX8_fits 40 = .ok (.iload_n 2, 1) := by decide +kernel
theorem dX8_fits_41 : decode cX8_fits 41 = .ok (.goto 5, 3) := by decide +kernel
theorem dX8_fits_44 : decode cX8_fits 44 = .ok (.bipush (-6), 2) := by decide +kernel
theorem dX8_fits_46 : decode cX8_fits 46 = .ok (.ireturn, 1) := by decide +kernel
set_option maxRecDepth 20000 in
theorem ggX8_mostLeft_X8_isFit : GoodIn wsX8_mostLeft wsX8_isFit := goodIn_r _ [6, 7, 8, 9, 10, 11, 12, 5, 13, 14, 15, 16, 17, 18, 19, 20, 21, 22, 23, 24, 25, 26, 27, 28, 29, 30, 31, 32, 33, 34, 35, 36, 37, 38, 39, 40, 41, 42, 43, 44, 45, 46, 47, 48, 49, 50, 51, 52, 53, 54, 55, 56] (by decide +kernel) (by decide +kernel)
set_option maxRecDepth 20000 in
theorem gX8_mostLeft_X8_isFit : GoodIn wsX8_mostLeft (wsV RX8 280 RX8 yX8_isFit wsX8_isFit) := goodIn_app (goodIn_of _ (by decide +kernel)) ggX8_mostLeft_X8_isFit
set_option maxRecDepth 20000 in
theorem ggX8_mostLeft_X8_feltBy : GoodIn wsX8_mostLeft wsX8_feltBy := goodIn_r _ [16, 17, 18, 5, 19] (by decide +kernel) (by decide +kernel)
set_option maxRecDepth 20000 in
theorem gX8_mostLeft_X8_feltBy : GoodIn wsX8_mostLeft (va_wsS RX8 277 yX8_feltBy wsX8_feltBy) := goodIn_app (goodIn_of _ (by decide +kernel)) ggX8_mostLeft_X8_feltBy
theorem dX8_mostLeft_0 : decode cX8_mostLeft 0 = .ok (.iconst 0, 1) := by decide +kernel
theorem dX8_mostLeft_1 : decode cX8_mostLeft 1 = .ok (.istore_n 2, 1) := by decide +kernel
theorem dX8_mostLeft_2 : decode cX8_mostLeft 2 = .ok (.iconst 0, 1) := by decide +kernel
theorem dX8_mostLeft_3 : decode cX8_mostLeft 3 = .ok (.istore_n 3, 1) := by decide +kernel
theorem dX8_mostLeft_4 : decode cX8_mostLeft 4 = .ok (.iload_n 3, 1) := by decide +kernel
theorem dX8_mostLeft_5 : decode cX8_mostLeft 5 = .ok (.bipush 10, 2) := by decide +kernel
theorem dX8_mostLeft_7 : decode cX8_mostLeft 7 = .ok (.if_icmp .ge 16, 3) := by decide +kernel
theorem dX8_mostLeft_10 : decode cX8_mostLeft 10 = .ok (.aload_n 0, 1) := by decide +kernel
theorem dX8_mostLeft_11 : decode cX8_mostLeft 11 = .ok (.getfield 64, 3) := by decide +kernel
theorem dX8_mostLeft_14 : decode cX8_mostLeft 14 = .ok (.iload_n 3, 1) := by decide +kernel
theorem dX8_mostLeft_15 : decode cX8_mostLeft 15 = .ok (.iconst 0, 1) := by decide +kernel
theorem dX8_mostLeft_16 : decode cX8_mostLeft 16 = .ok (.iastore, 1) := by decide +kernel
theorem dX8_mostLeft_17 : decode cX8_mostLeft 17 = .ok (.iinc 3 1, 3) := by decide +kernel
theorem dX8_mostLeft_20 : decode cX8_mostLeft 20 = .ok (.goto (-16), 3) := by decide +kernel
theorem dX8_mostLeft_23 : decode cX8_mostLeft 23 = .ok (.iconst 0, 1) := by decide +kernel
theorem dX8_mostLeft_24 : decode cX8_mostLeft 24 = .ok (.istore_n 3, 1) := by decide +kernel
theorem dX8_mostLeft_25 : decode cX8_mostLeft 25 = .ok (.iload_n 3, 1) := by decide +kernel
theorem dX8_mostLeft_26 : decode cX8_mostLeft 26 = .ok (.sipush 1000, 3) := by decide +kernel
theorem dX8_mostLeft_29 : decode cX8_mostLeft 29 = .ok (.if_icmp .ge 58, 3) := by decide +kernel
theorem dX8_mostLeft_32 : decode cX8_mostLeft 32 = .ok (.aload_n 0, 1) := by decide +kernel
theorem dX8_mostLeft_33 : decode cX8_mostLeft 33 = .ok (.iload_n 3, 1) := by decide +kernel
theorem dX8_mostLeft_34 : decode cX8_mostLeft 34 = .ok (.invokevirtual 280, 3) := by decide +kernel
theorem dX8_mostLeft_37 : decode cX8_mostLeft 37 = .ok (.ifCond .eq 44, 3) := by decide +kernel
theorem dX8_mostLeft_40 : decode cX8_mostLeft 40 = .ok (.iload_n 3, 1) := by decide +kernel
theorem dX8_mostLeft_41 : decode cX8_mostLeft 41 = .ok (.iload_n 1, 1) := by decide +kernel
theorem dX8_mostLeft_42 : decode cX8_mostLeft 42 = .ok (.invokestatic 277, 3) := by decide +kernel
theorem dX8_mostLeft_45 : decode cX8_mostLeft 45 = .ok (.istore 4, 2) := by decide +kernel
theorem dX8_mostLeft_47 : decode cX8_mostLeft 47 = .ok (.aload_n 0, 1) := by decide +kernel
theorem dX8_mostLeft_48 : decode cX8_mostLeft 48 = .ok (.getfield 64, 3) := by decide +kernel
theorem dX8_mostLeft_51 : decode cX8_mostLeft 51 = .ok (.iload 4, 2) := by decide +kernel
theorem dX8_mostLeft_53 : decode cX8_mostLeft 53 = .ok (.dup2, 1) := by decide +kernel
theorem dX8_mostLeft_54 : decode cX8_mostLeft 54 = .ok (.iaload, 1) := by decide +kernel
theorem dX8_mostLeft_55 : decode cX8_mostLeft 55 = .ok (.iconst 1, 1) := by decide +kernel
theorem dX8_mostLeft_56 : decode cX8_mostLeft 56 = .ok (.iadd, 1) := by decide +kernel
theorem dX8_mostLeft_57 : decode cX8_mostLeft 57 = .ok (.iastore, 1) := by decide +kernel
theorem dX8_mostLeft_58 : decode cX8_mostLeft 58 = .ok (.aload_n 0, 1) := by decide +kernel
theorem dX8_mostLeft_59 : decode cX8_mostLeft 59 = .ok (.getfield 64, 3) := by decide +kernel
theorem dX8_mostLeft_62 : decode cX8_mostLeft 62 = .ok (.iload 4, 2) := by decide +kernel
theorem dX8_mostLeft_64 : decode cX8_mostLeft 64 = .ok (.iaload, 1) := by decide +kernel
theorem dX8_mostLeft_65 : decode cX8_mostLeft 65 = .ok (.iload_n 2, 1) := by decide +kernel
theorem dX8_mostLeft_66 : decode cX8_mostLeft 66 = .ok (.if_icmp .le 13, 3) := by decide +kernel
theorem dX8_mostLeft_69 : decode cX8_mostLeft 69 = .ok (.aload_n 0, 1) := by decide +kernel
theorem dX8_mostLeft_70 : decode cX8_mostLeft 70 = .ok (.getfield 64, 3) := by decide +kernel
theorem dX8_mostLeft_73 : decode cX8_mostLeft 73 = .ok (.iload 4, 2) := by decide +kernel
theorem dX8_mostLeft_75 : decode cX8_mostLeft 75 = .ok (.iaload, 1) := by decide +kernel
theorem dX8_mostLeft_76 : decode cX8_mostLeft 76 = .ok (.goto 4, 3) := by decide +kernel
theorem dX8_mostLeft_79 : decode cX8_mostLeft 79 = .ok (.iload_n 2, 1) := by decide +kernel
theorem dX8_mostLeft_80 : decode cX8_mostLeft 80 = .ok (.istore_n 2, 1) := by decide +kernel
theorem dX8_mostLeft_81 : decode cX8_mostLeft 81 = .ok (.iinc 3 1, 3) := by decide +kernel
theorem dX8_mostLeft_84 : decode cX8_mostLeft 84 = .ok (.goto (-59), 3) := by decide +kernel
theorem dX8_mostLeft_87 : decode cX8_mostLeft 87 = .ok (.iload_n 2, 1) := by decide +kernel
theorem dX8_mostLeft_88 : decode cX8_mostLeft 88 = .ok (.ireturn, 1) := by decide +kernel
set_option maxRecDepth 20000 in
theorem ggX8_ask_X8_in : GoodIn wsX8_ask wsX8_in := goodIn_r _ [4] (by decide +kernel) (by decide +kernel)
set_option maxRecDepth 20000 in
theorem gX8_ask_X8_in : GoodIn wsX8_ask (va_wsS RX8 83 yX8_in wsX8_in) := goodIn_app (goodIn_of _ (by decide +kernel)) ggX8_ask_X8_in
set_option maxRecDepth 20000 in
theorem ggX8_ask_X8_mostLeft : GoodIn wsX8_ask wsX8_mostLeft := goodIn_r _ [8, 9, 10, 11, 12, 3, 13, 14, 15, 16, 17, 1, 2, 4, 18, 19, 20, 21, 22, 23, 27, 28, 29, 30, 31, 32, 33, 34, 35, 36, 37, 38, 39, 40, 41, 42, 43, 44, 45, 46, 47, 48, 49, 50, 51, 52, 53, 54, 55, 56, 57, 58, 59, 60, 61, 62, 63] (by decide +kernel) (by decide +kernel)
set_option maxRecDepth 20000 in
theorem gX8_ask_X8_mostLeft : GoodIn wsX8_ask (wsV RX8 283 RX8 yX8_mostLeft wsX8_mostLeft) := goodIn_app (goodIn_of _ (by decide +kernel)) ggX8_ask_X8_mostLeft
set_option maxRecDepth 20000 in
theorem ggX8_ask_X8_less : GoodIn wsX8_ask wsX8_less := goodIn_r _ [26] (by decide +kernel) (by decide +kernel)
set_option maxRecDepth 20000 in
theorem gX8_ask_X8_less : GoodIn wsX8_ask (va_wsS RX8 180 yX8_less wsX8_less) := goodIn_app (goodIn_of _ (by decide +kernel)) ggX8_ask_X8_less
theorem dX8_ask_0 : decode cX8_ask 0 = .ok (.iload_n 1, 1) := by decide +kernel
theorem dX8_ask_1 : decode cX8_ask 1 = .ok (.i2l, 1) := by decide +kernel
theorem dX8_ask_2 : decode cX8_ask 2 = .ok (.lconst 0, 1) := by decide +kernel
theorem dX8_ask_3 : decode cX8_ask 3 = .ok (.lconst 1, 1) := by decide +kernel
theorem dX8_ask_4 : decode cX8_ask 4 = .ok (.invokestatic 83, 3) := by decide +kernel
theorem dX8_ask_7 : decode cX8_ask 7 = .ok (.ifCond .ne 6, 3) := by decide +kernel
theorem dX8_ask_10 : decode cX8_ask 10 = .ok (.bipush (-2), 2) := by decide +kernel
theorem dX8_ask_12 : decode cX8_ask 12 = .ok (.ireturn, 1) := by decide +kernel
theorem dX8_ask_13 : decode cX8_ask 13 = .ok (.iconst 0, 1) := by decide +kernel
theorem dX8_ask_14 : decode cX8_ask 14 = .ok (.istore_n 2, 1) := by decide +kernel
theorem dX8_ask_15 : decode cX8_ask 15 = .ok (.aload_n 0, 1) := by decide +kernel
theorem dX8_ask_16 : decode cX8_ask 16 = .ok (.iconst 0, 1) := by decide +kernel
theorem dX8_ask_17 : decode cX8_ask 17 = .ok (.invokevirtual 283, 3) := by decide +kernel
theorem dX8_ask_20 : decode cX8_ask 20 = .ok (.istore_n 3, 1) := by decide +kernel
theorem dX8_ask_21 : decode cX8_ask 21 = .ok (.iconst 1, 1) := by decide +kernel
theorem dX8_ask_22 : decode cX8_ask 22 = .ok (.istore 4, 2) := by decide +kernel
theorem dX8_ask_24 : decode cX8_ask 24 = .ok (.iload 4, 2) := by decide +kernel
theorem dX8_ask_26 : decode cX8_ask 26 = .ok (.bipush 10, 2) := by decide +kernel
theorem dX8_ask_28 : decode cX8_ask 28 = .ok (.if_icmp .ge 37, 3) := by decide +kernel
theorem dX8_ask_31 : decode cX8_ask 31 = .ok (.aload_n 0, 1) := by decide +kernel
theorem dX8_ask_32 : decode cX8_ask 32 = .ok (.iload 4, 2) := by decide +kernel
theorem dX8_ask_34 : decode cX8_ask 34 = .ok (.invokevirtual 283, 3) := by decide +kernel
theorem dX8_ask_37 : decode cX8_ask 37 = .ok (.istore 5, 2) := by decide +kernel
theorem dX8_ask_39 : decode cX8_ask 39 = .ok (.iload 5, 2) := by decide +kernel
theorem dX8_ask_41 : decode cX8_ask 41 = .ok (.iload_n 3, 1) := by decide +kernel
theorem dX8_ask_42 : decode cX8_ask 42 = .ok (.if_icmp .ge 8, 3) := by decide +kernel
theorem dX8_ask_45 : decode cX8_ask 45 = .ok (.iload 4, 2) := by decide +kernel
theorem dX8_ask_47 : decode cX8_ask 47 = .ok (.goto 4, 3) := by decide +kernel
theorem dX8_ask_50 : decode cX8_ask 50 = .ok (.iload_n 2, 1) := by decide +kernel
theorem dX8_ask_51 : decode cX8_ask 51 = .ok (.istore_n 2, 1) := by decide +kernel
theorem dX8_ask_52 : decode cX8_ask 52 = .ok (.iload_n 3, 1) := by decide +kernel
theorem dX8_ask_53 : decode cX8_ask 53 = .ok (.iload 5, 2) := by decide +kernel
theorem dX8_ask_55 : decode cX8_ask 55 = .ok (.invokestatic 180, 3) := by decide +kernel
theorem dX8_ask_58 : decode cX8_ask 58 = .ok (.istore_n 3, 1) := by decide +kernel
theorem dX8_ask_59 : decode cX8_ask 59 = .ok (.iinc 4 1, 3) := by decide +kernel
theorem dX8_ask_62 : decode cX8_ask 62 = .ok (.goto (-38), 3) := by decide +kernel
theorem dX8_ask_65 : decode cX8_ask 65 = .ok (.iload_n 3, 1) := by decide +kernel
theorem dX8_ask_66 : decode cX8_ask 66 = .ok (.ifCond .ne 8, 3) := by decide +kernel
theorem dX8_ask_69 : decode cX8_ask 69 = .ok (.bipush (-6), 2) := by decide +kernel
theorem dX8_ask_71 : decode cX8_ask 71 = .ok (.goto 12, 3) := by decide +kernel
theorem dX8_ask_74 : decode cX8_ask 74 = .ok (.iload_n 1, 1) := by decide +kernel
theorem dX8_ask_75 : decode cX8_ask 75 = .ok (.ifCond .ne 7, 3) := by decide +kernel
theorem dX8_ask_78 : decode cX8_ask 78 = .ok (.iload_n 2, 1) := by decide +kernel
theorem dX8_ask_79 : decode cX8_ask 79 = .ok (.goto 4, 3) := by decide +kernel
theorem dX8_ask_82 : decode cX8_ask 82 = .ok (.iload_n 3, 1) := by decide +kernel
theorem dX8_ask_83 : decode cX8_ask 83 = .ok (.ireturn, 1) := by decide +kernel
set_option maxRecDepth 20000 in
theorem ggX8_leastPull_X8_less : GoodIn wsX8_leastPull wsX8_less := goodIn_r _ [5] (by decide +kernel) (by decide +kernel)
set_option maxRecDepth 20000 in
theorem gX8_leastPull_X8_less : GoodIn wsX8_leastPull (va_wsS RX8 180 yX8_less wsX8_less) := goodIn_app (goodIn_of _ (by decide +kernel)) ggX8_leastPull_X8_less
theorem dX8_leastPull_0 : decode cX8_leastPull 0 = .ok (.bipush (-6), 2) := by decide +kernel
theorem dX8_leastPull_2 : decode cX8_leastPull 2 = .ok (.istore 4, 2) := by decide +kernel
theorem dX8_leastPull_4 : decode cX8_leastPull 4 = .ok (.iload_n 1, 1) := by decide +kernel
theorem dX8_leastPull_5 : decode cX8_leastPull 5 = .ok (.iload_n 2, 1) := by decide +kernel
theorem dX8_leastPull_6 : decode cX8_leastPull 6 = .ok (.invokestatic 180, 3) := by decide +kernel
theorem dX8_leastPull_9 : decode cX8_leastPull 9 = .ok (.istore 5, 2) := by decide +kernel
theorem dX8_leastPull_11 : decode cX8_leastPull 11 = .ok (.iload 5, 2) := by decide +kernel
theorem dX8_leastPull_13 : decode cX8_leastPull 13 = .ok (.ifCond .le 54, 3) := by decide +kernel
theorem dX8_leastPull_16 : decode cX8_leastPull 16 = .ok (.iload 5, 2) := by decide +kernel
theorem dX8_leastPull_18 : decode cX8_leastPull 18 = .ok (.iload_n 3, 1) := by decide +kernel
theorem dX8_leastPull_19 : decode cX8_leastPull 19 = .ok (.if_icmp .eq 25, 3) := by decide +kernel
theorem dX8_leastPull_22 : decode cX8_leastPull 22 = .ok (.aload_n 0, 1) := by decide +kernel
theorem dX8_leastPull_23 : decode cX8_leastPull 23 = .ok (.getfield 67, 3) := by decide +kernel
theorem dX8_leastPull_26 : decode cX8_leastPull 26 = .ok (.bipush 10, 2) := by decide +kernel
theorem dX8_leastPull_28 : decode cX8_leastPull 28 = .ok (.iload_n 1, 1) := by decide +kernel
theorem dX8_leastPull_29 : decode cX8_leastPull 29 = .ok (.iload 5, 2) := by decide +kernel
theorem dX8_leastPull_31 : decode cX8_leastPull 31 = .ok (.isub, 1) := by decide +kernel
theorem dX8_leastPull_32 : decode cX8_leastPull 32 = .ok (.imul, 1) := by decide +kernel
theorem dX8_leastPull_33 : decode cX8_leastPull 33 = .ok (.iload 5, 2) := by decide +kernel
theorem dX8_leastPull_35 : decode cX8_leastPull 35 = .ok (.iadd, 1) := by decide +kernel
theorem dX8_leastPull_36 : decode cX8_leastPull 36 = .ok (.baload, 1) := by decide +kernel
theorem dX8_leastPull_37 : decode cX8_leastPull 37 = .ok (.ifCond .ne 7, 3) := by decide +kernel
theorem dX8_leastPull_40 : decode cX8_leastPull 40 = .ok (.iconst 1, 1) := by decide +kernel
theorem dX8_leastPull_41 : decode cX8_leastPull 41 = .ok (.goto 4, 3) := by decide +kernel
theorem dX8_leastPull_44 : decode cX8_leastPull 44 = .ok (.iconst 0, 1) := by decide +kernel
theorem dX8_leastPull_45 : decode cX8_leastPull 45 = .ok (.istore 6, 2) := by decide +kernel
theorem dX8_leastPull_47 : decode cX8_leastPull 47 = .ok (.iload 6, 2) := by decide +kernel
theorem dX8_leastPull_49 : decode cX8_leastPull 49 = .ok (.ifCond .eq 8, 3) := by decide +kernel
theorem dX8_leastPull_52 : decode cX8_leastPull 52 = .ok (.iload 5, 2) := by decide +kernel
theorem dX8_leastPull_54 : decode cX8_leastPull 54 = .ok (.goto 5, 3) := by decide +kernel
theorem dX8_leastPull_57 : decode cX8_leastPull 57 = .ok (.iload 4, 2) := by decide +kernel
theorem dX8_leastPull_59 : decode cX8_leastPull 59 = .ok (.istore 4, 2) := by decide +kernel
theorem dX8_leastPull_61 : decode cX8_leastPull 61 = .ok (.iinc 5 (-1), 3) := by decide +kernel
theorem dX8_leastPull_64 : decode cX8_leastPull 64 = .ok (.goto (-53), 3) := by decide +kernel
theorem dX8_leastPull_67 : decode cX8_leastPull 67 = .ok (.iload 4, 2) := by decide +kernel
theorem dX8_leastPull_69 : decode cX8_leastPull 69 = .ok (.ireturn, 1) := by decide +kernel
set_option maxRecDepth 20000 in
theorem ggX8_pull_X8_in : GoodIn wsX8_pull wsX8_in := goodIn_r _ [7] (by decide +kernel) (by decide +kernel)
set_option maxRecDepth 20000 in
theorem gX8_pull_X8_in : GoodIn wsX8_pull (va_wsS RX8 83 yX8_in wsX8_in) := goodIn_app (goodIn_of _ (by decide +kernel)) ggX8_pull_X8_in
set_option maxRecDepth 20000 in
theorem ggX8_pull_X8_leastPull : GoodIn wsX8_pull wsX8_leastPull := goodIn_r _ [11, 3, 12, 13, 6, 14, 15, 16, 17, 18, 19, 20, 21, 22, 23, 24, 25, 26, 27, 28, 29, 30, 31, 32, 33, 34, 35, 36, 37, 38, 39, 40, 41, 42, 43, 44, 45, 46, 47, 48, 49, 50, 51] (by decide +kernel) (by decide +kernel)
set_option maxRecDepth 20000 in
theorem gX8_pull_X8_leastPull : GoodIn wsX8_pull (wsV RX8 286 RX8 yX8_leastPull wsX8_leastPull) := goodIn_app (goodIn_of _ (by decide +kernel)) ggX8_pull_X8_leastPull
theorem dX8_pull_0 : decode cX8_pull 0 = .ok (.iload_n 1, 1) := by decide +kernel
theorem dX8_pull_1 : decode cX8_pull 1 = .ok (.i2l, 1) := by decide +kernel
theorem dX8_pull_2 : decode cX8_pull 2 = .ok (.lconst 0, 1) := by decide +kernel
theorem dX8_pull_3 : decode cX8_pull 3 = .ok (.ldc2_w 106, 3) := by decide +kernel
theorem dX8_pull_6 : decode cX8_pull 6 = .ok (.invokestatic 83, 3) := by decide +kernel
theorem dX8_pull_9 : decode cX8_pull 9 = .ok (.ifCond .eq 38, 3) := by decide +kernel
theorem dX8_pull_12 : decode cX8_pull 12 = .ok (.iload_n 2, 1) := by decide +kernel
theorem dX8_pull_13 : decode cX8_pull 13 = .ok (.i2l, 1) := by decide +kernel
theorem dX8_pull_14 : decode cX8_pull 14 = .ok (.lconst 1, 1) := by decide +kernel
theorem dX8_pull_15 : decode cX8_pull 15 = .ok (.ldc2_w 81, 3) := by decide +kernel
theorem dX8_pull_18 : decode cX8_pull 18 = .ok (.invokestatic 83, 3) := by decide +kernel
theorem dX8_pull_21 : decode cX8_pull 21 = .ok (.ifCond .eq 26, 3) := by decide +kernel
theorem dX8_pull_24 : decode cX8_pull 24 = .ok (.iload_n 3, 1) := by decide +kernel
theorem dX8_pull_25 : decode cX8_pull 25 = .ok (.i2l, 1) := by decide +kernel
theorem dX8_pull_26 : decode cX8_pull 26 = .ok (.lconst 0, 1) := by decide +kernel
theorem dX8_pull_27 : decode cX8_pull 27 = .ok (.ldc2_w 81, 3) := by decide +kernel
theorem dX8_pull_30 : decode cX8_pull 30 = .ok (.invokestatic 83, 3) := by decide +kernel
theorem dX8_pull_33 : decode cX8_pull 33 = .ok (.ifCond .eq 14, 3) := by decide +kernel
theorem dX8_pull_36 : decode cX8_pull 36 = .ok (.iload 4, 2) := by decide +kernel
theorem dX8_pull_38 : decode cX8_pull 38 = .ok (.i2l, 1) := by decide +kernel
theorem dX8_pull_39 : decode cX8_pull 39 = .ok (.lconst 0, 1) := by decide +kernel
theorem dX8_pull_40 : decode cX8_pull 40 = .ok (.lconst 1, 1) := by decide +kernel
theorem dX8_pull_41 : decode cX8_pull 41 = .ok (.invokestatic 83, 3) := by decide +kernel
theorem dX8_pull_44 : decode cX8_pull 44 = .ok (.ifCond .ne 6, 3) := by decide +kernel
theorem dX8_pull_47 : decode cX8_pull 47 = .ok (.bipush (-2), 2) := by decide +kernel
theorem dX8_pull_49 : decode cX8_pull 49 = .ok (.ireturn, 1) := by decide +kernel
theorem dX8_pull_50 : decode cX8_pull 50 = .ok (.iconst 0, 1) := by decide +kernel
theorem dX8_pull_51 : decode cX8_pull 51 = .ok (.istore 5, 2) := by decide +kernel
theorem dX8_pull_53 : decode cX8_pull 53 = .ok (.iload 5, 2) := by decide +kernel
theorem dX8_pull_55 : decode cX8_pull 55 = .ok (.bipush 10, 2) := by decide +kernel
theorem dX8_pull_57 : decode cX8_pull 57 = .ok (.iload_n 1, 1) := by decide +kernel
theorem dX8_pull_58 : decode cX8_pull 58 = .ok (.imul, 1) := by decide +kernel
theorem dX8_pull_59 : decode cX8_pull 59 = .ok (.if_icmp .ge 39, 3) := by decide +kernel
theorem dX8_pull_62 : decode cX8_pull 62 = .ok (.aload_n 0, 1) := by decide +kernel
theorem dX8_pull_63 : decode cX8_pull 63 = .ok (.getfield 67, 3) := by decide +kernel
theorem dX8_pull_66 : decode cX8_pull 66 = .ok (.iload 5, 2) := by decide +kernel
theorem dX8_pull_68 : decode cX8_pull 68 = .ok (.aload_n 0, 1) := by decide +kernel
theorem dX8_pull_69 : decode cX8_pull 69 = .ok (.iload 5, 2) := by decide +kernel
theorem dX8_pull_71 : decode cX8_pull 71 = .ok (.bipush 10, 2) := by decide +kernel
theorem dX8_pull_73 : decode cX8_pull 73 = .ok (.idiv, 1) := by decide +kernel
theorem dX8_pull_74 : decode cX8_pull 74 = .ok (.iload_n 2, 1) := by decide +kernel
theorem dX8_pull_75 : decode cX8_pull 75 = .ok (.iload 5, 2) := by decide +kernel
theorem dX8_pull_77 : decode cX8_pull 77 = .ok (.bipush 10, 2) := by decide +kernel
theorem dX8_pull_79 : decode cX8_pull 79 = .ok (.irem, 1) := by decide +kernel
theorem dX8_pull_80 : decode cX8_pull 80 = .ok (.invokevirtual 286, 3) := by decide +kernel
theorem dX8_pull_83 : decode cX8_pull 83 = .ok (.ifCond .lt 7, 3) := by decide +kernel
theorem dX8_pull_86 : decode cX8_pull 86 = .ok (.iconst 1, 1) := by decide +kernel
theorem dX8_pull_87 : decode cX8_pull 87 = .ok (.goto 4, 3) := by decide +kernel
theorem dX8_pull_90 : decode cX8_pull 90 = .ok (.iconst 0, 1) := by decide +kernel
theorem dX8_pull_91 : decode cX8_pull 91 = .ok (.bastore, 1) := by decide +kernel
theorem dX8_pull_92 : decode cX8_pull 92 = .ok (.iinc 5 1, 3) := by decide +kernel
theorem dX8_pull_95 : decode cX8_pull 95 = .ok (.goto (-42), 3) := by decide +kernel
theorem dX8_pull_98 : decode cX8_pull 98 = .ok (.aload_n 0, 1) := by decide +kernel
theorem dX8_pull_99 : decode cX8_pull 99 = .ok (.iload_n 1, 1) := by decide +kernel
theorem dX8_pull_100 : decode cX8_pull 100 = .ok (.iload_n 2, 1) := by decide +kernel
theorem dX8_pull_101 : decode cX8_pull 101 = .ok (.iload_n 3, 1) := by decide +kernel
theorem dX8_pull_102 : decode cX8_pull 102 = .ok (.invokevirtual 286, 3) := by decide +kernel
theorem dX8_pull_105 : decode cX8_pull 105 = .ok (.istore 5, 2) := by decide +kernel
theorem dX8_pull_107 : decode cX8_pull 107 = .ok (.iload 4, 2) := by decide +kernel
theorem dX8_pull_109 : decode cX8_pull 109 = .ok (.iconst 1, 1) := by decide +kernel
theorem dX8_pull_110 : decode cX8_pull 110 = .ok (.if_icmp .ne 8, 3) := by decide +kernel
theorem dX8_pull_113 : decode cX8_pull 113 = .ok (.iload 5, 2) := by decide +kernel
theorem dX8_pull_115 : decode cX8_pull 115 = .ok (.goto 13, 3) := by decide +kernel
theorem dX8_pull_118 : decode cX8_pull 118 = .ok (.iload 5, 2) := by decide +kernel
theorem dX8_pull_120 : decode cX8_pull 120 = .ok (.ifCond .ge 7, 3) := by decide +kernel
theorem dX8_pull_123 : decode cX8_pull 123 = .ok (.iconst 0, 1) := by decide +kernel
theorem dX8_pull_124 : decode cX8_pull 124 = .ok (.goto 4, 3) := by decide +kernel
theorem dX8_pull_127 : decode cX8_pull 127 = .ok (.iconst 1, 1) := by decide +kernel
theorem dX8_pull_128 : decode cX8_pull 128 = .ok (.ireturn, 1) := by decide +kernel
theorem dX8_lowest_0 : decode cX8_lowest 0 = .ok (.lload_n 2, 1) := by decide +kernel
theorem dX8_lowest_1 : decode cX8_lowest 1 = .ok (.lstore 5, 2) := by decide +kernel
theorem dX8_lowest_3 : decode cX8_lowest 3 = .ok (.lload_n 0, 1) := by decide +kernel
theorem dX8_lowest_4 : decode cX8_lowest 4 = .ok (.lstore 7, 2) := by decide +kernel
theorem dX8_lowest_6 : decode cX8_lowest 6 = .ok (.lload 7, 2) := by decide +kernel
theorem dX8_lowest_8 : decode cX8_lowest 8 = .ok (.lconst 0, 1) := by decide +kernel
theorem dX8_lowest_9 : decode cX8_lowest 9 = .ok (.lcmp, 1) := by decide +kernel
theorem dX8_lowest_10 : decode cX8_lowest 10 = .ok (.ifCond .eq 21, 3) := by decide +kernel
theorem dX8_lowest_13 : decode cX8_lowest 13 = .ok (.lload 5, 2) := by decide +kernel
theorem dX8_lowest_15 : decode cX8_lowest 15 = .ok (.lload 7, 2) := by decide +kernel
theorem dX8_lowest_17 : decode cX8_lowest 17 = .ok (.lrem, 1) := by decide +kernel
theorem dX8_lowest_18 : decode cX8_lowest 18 = .ok (.lstore 9, 2) := by decide +kernel
theorem dX8_lowest_20 : decode cX8_lowest 20 = .ok (.lload 7, 2) := by decide +kernel
theorem dX8_lowest_22 : decode cX8_lowest 22 = .ok (.lstore 5, 2) := by decide +kernel
theorem dX8_lowest_24 : decode cX8_lowest 24 = .ok (.lload 9, 2) := by decide +kernel
theorem dX8_lowest_26 : decode cX8_lowest 26 = .ok (.lstore 7, 2) := by decide +kernel
theorem dX8_lowest_28 : decode cX8_lowest 28 = .ok (.goto (-22), 3) := by decide +kernel
theorem dX8_lowest_31 : decode cX8_lowest 31 = .ok (.iload 4, 2) := by decide +kernel
theorem dX8_lowest_33 : decode cX8_lowest 33 = .ok (.ifCond .ne 10, 3) := by decide +kernel
theorem dX8_lowest_36 : decode cX8_lowest 36 = .ok (.lload_n 0, 1) := by decide +kernel
theorem dX8_lowest_37 : decode cX8_lowest 37 = .ok (.lload 5, 2) := by decide +kernel
theorem dX8_lowest_39 : decode cX8_lowest 39 = .ok (.ldiv, 1) := by decide +kernel
theorem dX8_lowest_40 : decode cX8_lowest 40 = .ok (.goto 7, 3) := by decide +kernel
theorem dX8_lowest_43 : decode cX8_lowest 43 = .ok (.lload_n 2, 1) := by decide +kernel
theorem dX8_lowest_44 : decode cX8_lowest 44 = .ok (.lload 5, 2) := by decide +kernel
theorem dX8_lowest_46 : decode cX8_lowest 46 = .ok (.ldiv, 1) := by decide +kernel
theorem dX8_lowest_47 : decode cX8_lowest 47 = .ok (.lreturn, 1) := by decide +kernel
set_option maxRecDepth 20000 in
theorem ggX8_passed_X8_in : GoodIn wsX8_passed wsX8_in := goodIn_r _ [7] (by decide +kernel) (by decide +kernel)
set_option maxRecDepth 20000 in
theorem gX8_passed_X8_in : GoodIn wsX8_passed (va_wsS RX8 83 yX8_in wsX8_in) := goodIn_app (goodIn_of _ (by decide +kernel)) ggX8_passed_X8_in
set_option maxRecDepth 20000 in
theorem ggX8_passed_X8_lowest : GoodIn wsX8_passed wsX8_lowest := goodIn_r _ [10] (by decide +kernel) (by decide +kernel)
set_option maxRecDepth 20000 in
theorem gX8_passed_X8_lowest : GoodIn wsX8_passed (va_wsS RX8 295 yX8_lowest wsX8_lowest) := goodIn_app (goodIn_of _ (by decide +kernel)) ggX8_passed_X8_lowest
theorem dX8_passed_0 : decode cX8_passed 0 = .ok (.iload_n 1, 1) := by decide +kernel
theorem dX8_passed_1 : decode cX8_passed 1 = .ok (.i2l, 1) := by decide +kernel
theorem dX8_passed_2 : decode cX8_passed 2 = .ok (.lconst 0, 1) := by decide +kernel
theorem dX8_passed_3 : decode cX8_passed 3 = .ok (.ldc2_w 289, 3) := by decide +kernel
theorem dX8_passed_6 : decode cX8_passed 6 = .ok (.invokestatic 83, 3) := by decide +kernel
theorem dX8_passed_9 : decode cX8_passed 9 = .ok (.ifCond .eq 36, 3) := by decide +kernel
theorem dX8_passed_12 : decode cX8_passed 12 = .ok (.iload_n 2, 1) := by decide +kernel
theorem dX8_passed_13 : decode cX8_passed 13 = .ok (.i2l, 1) := by decide +kernel
theorem dX8_passed_14 : decode cX8_passed 14 = .ok (.lconst 0, 1) := by decide +kernel
theorem dX8_passed_15 : decode cX8_passed 15 = .ok (.ldc2_w 291, 3) := by decide +kernel
theorem dX8_passed_18 : decode cX8_passed 18 = .ok (.invokestatic 83, 3) := by decide +kernel
theorem dX8_passed_21 : decode cX8_passed 21 = .ok (.ifCond .eq 24, 3) := by decide +kernel
theorem dX8_passed_24 : decode cX8_passed 24 = .ok (.iload_n 3, 1) := by decide +kernel
theorem dX8_passed_25 : decode cX8_passed 25 = .ok (.i2l, 1) := by decide +kernel
theorem dX8_passed_26 : decode cX8_passed 26 = .ok (.lconst 0, 1) := by decide +kernel
theorem dX8_passed_27 : decode cX8_passed 27 = .ok (.lconst 1, 1) := by decide +kernel
theorem dX8_passed_28 : decode cX8_passed 28 = .ok (.invokestatic 83, 3) := by decide +kernel
theorem dX8_passed_31 : decode cX8_passed 31 = .ok (.ifCond .eq 14, 3) := by decide +kernel
theorem dX8_passed_34 : decode cX8_passed 34 = .ok (.iload 4, 2) := by decide +kernel
theorem dX8_passed_36 : decode cX8_passed 36 = .ok (.i2l, 1) := by decide +kernel
theorem dX8_passed_37 : decode cX8_passed 37 = .ok (.lconst 0, 1) := by decide +kernel
theorem dX8_passed_38 : decode cX8_passed 38 = .ok (.lconst 1, 1) := by decide +kernel
theorem dX8_passed_39 : decode cX8_passed 39 = .ok (.invokestatic 83, 3) := by decide +kernel
theorem dX8_passed_42 : decode cX8_passed 42 = .ok (.ifCond .ne 7, 3) := by decide +kernel
theorem dX8_passed_45 : decode cX8_passed 45 = .ok (.ldc2_w 293, 3) := by decide +kernel
theorem dX8_passed_48 : decode cX8_passed 48 = .ok (.lreturn, 1) := by decide +kernel
theorem dX8_passed_49 : decode cX8_passed 49 = .ok (.iload_n 3, 1) := by decide +kernel
theorem dX8_passed_50 : decode cX8_passed 50 = .ok (.iconst 1, 1) := by decide +kernel
theorem dX8_passed_51 : decode cX8_passed 51 = .ok (.if_icmp .ne 16, 3) := by decide +kernel
theorem dX8_passed_54 : decode cX8_passed 54 = .ok (.iload_n 1, 1) := by decide +kernel
theorem dX8_passed_55 : decode cX8_passed 55 = .ok (.iload_n 2, 1) := by decide +kernel
theorem dX8_passed_56 : decode cX8_passed 56 = .ok (.imul, 1) := by decide +kernel
theorem dX8_passed_57 : decode cX8_passed 57 = .ok (.i2l, 1) := by decide +kernel
theorem dX8_passed_58 : decode cX8_passed 58 = .ok (.ldc2_w 291, 3) := by decide +kernel
theorem dX8_passed_61 : decode cX8_passed 61 = .ok (.iload 4, 2) := by decide +kernel
theorem dX8_passed_63 : decode cX8_passed 63 = .ok (.invokestatic 295, 3) := by decide +kernel
theorem dX8_passed_66 : decode cX8_passed 66 = .ok (.lreturn, 1) := by decide +kernel
theorem dX8_passed_67 : decode cX8_passed 67 = .ok (.lconst 1, 1) := by decide +kernel
theorem dX8_passed_68 : decode cX8_passed 68 = .ok (.lstore 5, 2) := by decide +kernel
theorem dX8_passed_70 : decode cX8_passed 70 = .ok (.lconst 0, 1) := by decide +kernel
theorem dX8_passed_71 : decode cX8_passed 71 = .ok (.lstore 7, 2) := by decide +kernel
theorem dX8_passed_73 : decode cX8_passed 73 = .ok (.iconst 0, 1) := by decide +kernel
theorem dX8_passed_74 : decode cX8_passed 74 = .ok (.istore 9, 2) := by decide +kernel
theorem dX8_passed_76 : decode cX8_passed 76 = .ok (.iload 9, 2) := by decide +kernel
theorem dX8_passed_78 : decode cX8_passed 78 = .ok (.iload_n 1, 1) := by decide +kernel
theorem dX8_passed_79 : decode cX8_passed 79 = .ok (.if_icmp .ge 45, 3) := by decide +kernel
theorem dX8_passed_82 : decode cX8_passed 82 = .ok (.lload 5, 2) := by decide +kernel
theorem dX8_passed_84 : decode cX8_passed 84 = .ok (.bipush 10, 2) := by decide +kernel
theorem dX8_passed_86 : decode cX8_passed 86 = .ok (.iload_n 2, 1) := by decide +kernel
theorem dX8_passed_87 : decode cX8_passed 87 = .ok (.isub, 1) := by decide +kernel
theorem dX8_passed_88 : decode cX8_passed 88 = .ok (.i2l, 1) := by decide +kernel
theorem dX8_passed_89 : decode cX8_passed 89 = .ok (.lmul, 1) := by decide +kernel
theorem dX8_passed_90 : decode cX8_passed 90 = .ok (.lload 7, 2) := by decide +kernel
theorem dX8_passed_92 : decode cX8_passed 92 = .ok (.iload_n 2, 1) := by decide +kernel
theorem dX8_passed_93 : decode cX8_passed 93 = .ok (.i2l, 1) := by decide +kernel
theorem dX8_passed_94 : decode cX8_passed 94 = .ok (.lmul, 1) := by decide +kernel
theorem dX8_passed_95 : decode cX8_passed 95 = .ok (.ladd, 1) := by decide +kernel
theorem dX8_passed_96 : decode cX8_passed 96 = .ok (.lstore 10, 2) := by decide +kernel
theorem dX8_passed_98 : decode cX8_passed 98 = .ok (.lload 5, 2) := by decide +kernel
theorem dX8_passed_100 : decode cX8_passed 100 = .ok (.iload_n 2, 1) := by decide +kernel
theorem dX8_passed_101 : decode cX8_passed 101 = .ok (.i2l, 1) := by decide +kernel
theorem dX8_passed_102 : decode cX8_passed 102 = .ok (.lmul, 1) := by decide +kernel
theorem dX8_passed_103 : decode cX8_passed 103 = .ok (.lload 7, 2) := by decide +kernel
theorem dX8_passed_105 : decode cX8_passed 105 = .ok (.bipush 10, 2) := by decide +kernel
theorem dX8_passed_107 : decode cX8_passed 107 = .ok (.iload_n 2, 1) := by decide +kernel
theorem dX8_passed_108 : decode cX8_passed 108 = .ok (.isub, 1) := by decide +kernel
theorem dX8_passed_109 : decode cX8_passed 109 = .ok (.i2l, 1) := by decide +kernel
theorem dX8_passed_110 : decode cX8_passed 110 = .ok (.lmul, 1) := by decide +kernel
theorem dX8_passed_111 : decode cX8_passed 111 = .ok (.ladd, 1) := by decide +kernel
theorem dX8_passed_112 : decode cX8_passed 112 = .ok (.lstore 7, 2) := by decide +kernel
theorem dX8_passed_114 : decode cX8_passed 114 = .ok (.lload 10, 2) := by decide +kernel
theorem dX8_passed_116 : decode cX8_passed 116 = .ok (.lstore 5, 2) := by decide +kernel
theorem dX8_passed_118 : decode cX8_passed 118 = .ok (.iinc 9 1, 3) := by decide +kernel
theorem dX8_passed_121 : decode cX8_passed 121 = .ok (.goto (-45), 3) := by decide +kernel
theorem dX8_passed_124 : decode cX8_passed 124 = .ok (.lload 5, 2) := by decide +kernel
theorem dX8_passed_126 : decode cX8_passed 126 = .ok (.lload 5, 2) := by decide +kernel
theorem dX8_passed_128 : decode cX8_passed 128 = .ok (.lload 7, 2) := by decide +kernel
theorem dX8_passed_130 : decode cX8_passed 130 = .ok (.ladd, 1) := by decide +kernel
theorem dX8_passed_131 : decode cX8_passed 131 = .ok (.iload 4, 2) := by decide +kernel
theorem dX8_passed_133 : decode cX8_passed 133 = .ok (.invokestatic 295, 3) := by decide +kernel
theorem dX8_passed_136 : decode cX8_passed 136 = .ok (.lreturn, 1) := by decide +kernel
theorem dX8_actBy_0 : decode cX8_actBy 0 = .ok (.iload_n 0, 1) := by decide +kernel
theorem dX8_actBy_1 : decode cX8_actBy 1 = .ok (.tableswitch 55 0 6 #[43, 43, 45, 47, 49, 51, 53], 43) := by decide +kernel
theorem dX8_actBy_44 : decode cX8_actBy 44 = .ok (.iconst 0, 1) := by decide +kernel
theorem dX8_actBy_45 : decode cX8_actBy 45 = .ok (.ireturn, 1) := by decide +kernel
theorem dX8_actBy_46 : decode cX8_actBy 46 = .ok (.iconst 1, 1) := by decide +kernel
theorem dX8_actBy_47 : decode cX8_actBy 47 = .ok (.ireturn, 1) := by decide +kernel
theorem dX8_actBy_48 : decode cX8_actBy 48 = .ok (.iconst 2, 1) := by decide +kernel
theorem dX8_actBy_49 : decode cX8_actBy 49 = .ok (.ireturn, 1) := by decide +kernel
theorem dX8_actBy_50 : decode cX8_actBy 50 = .ok (.iconst 3, 1) := by decide +kernel
theorem dX8_actBy_51 : decode cX8_actBy 51 = .ok (.ireturn, 1) := by decide +kernel
theorem dX8_actBy_52 : decode cX8_actBy 52 = .ok (.iconst 4, 1) := by decide +kernel
theorem dX8_actBy_53 : decode cX8_actBy 53 = .ok (.ireturn, 1) := by decide +kernel
theorem dX8_actBy_54 : decode cX8_actBy 54 = .ok (.iconst 5, 1) := by decide +kernel
theorem dX8_actBy_55 : decode cX8_actBy 55 = .ok (.ireturn, 1) := by decide +kernel
theorem dX8_actBy_56 : decode cX8_actBy 56 = .ok (.bipush 6, 2) := by decide +kernel
theorem dX8_actBy_58 : decode cX8_actBy 58 = .ok (.ireturn, 1) := by decide +kernel
set_option maxRecDepth 20000 in
theorem ggX8_year_X8_in : GoodIn wsX8_year wsX8_in := goodIn_r _ [13] (by decide +kernel) (by decide +kernel)
set_option maxRecDepth 20000 in
theorem gX8_year_X8_in : GoodIn wsX8_year (va_wsS RX8 83 yX8_in wsX8_in) := goodIn_app (goodIn_of _ (by decide +kernel)) ggX8_year_X8_in
set_option maxRecDepth 20000 in
theorem ggX8_year_X8_keepNow : GoodIn wsX8_year wsX8_keepNow := goodIn_r _ [17, 18, 8, 19, 20, 21, 9, 22, 94, 95, 96, 97, 98, 99, 100, 101, 102, 103, 104, 105, 106, 107, 108, 109, 110, 111, 112, 113, 114, 115, 116, 117, 118, 119, 120, 121, 122, 123, 124, 125, 126, 127, 128, 129, 130] (by decide +kernel) (by decide +kernel)
set_option maxRecDepth 20000 in
theorem gX8_year_X8_keepNow : GoodIn wsX8_year (wsV RX8 222 RX8 yX8_keepNow wsX8_keepNow) := goodIn_app (goodIn_of _ (by decide +kernel)) ggX8_year_X8_keepNow
set_option maxRecDepth 20000 in
theorem ggX8_year_X8_actBy : GoodIn wsX8_year wsX8_actBy := goodIn_r _ [25] (by decide +kernel) (by decide +kernel)
set_option maxRecDepth 20000 in
theorem gX8_year_X8_actBy : GoodIn wsX8_year (va_wsS RX8 305 yX8_actBy wsX8_actBy) := goodIn_app (goodIn_of _ (by decide +kernel)) ggX8_year_X8_actBy
set_option maxRecDepth 20000 in
theorem ggX8_year_X8_whyNot : GoodIn wsX8_year wsX8_whyNot := goodIn_r _ [29, 22, 30, 31, 32, 12, 33, 8, 34, 21, 35, 10, 11, 13, 36, 37, 38, 39, 40, 41, 42, 43, 44, 20, 45, 46, 47, 48, 49, 50, 51, 52, 53, 54, 9, 55, 56, 57, 58, 59, 60, 61, 62, 94, 95, 96, 97, 98, 99, 100, 101, 102, 103, 104, 105, 106, 107, 108, 109, 110, 111, 112, 113, 114, 115, 116, 117, 118, 119, 120, 121, 122, 123, 124, 125, 126, 127, 128, 129, 130] (by decide +kernel) (by decide +kernel)
set_option maxRecDepth 20000 in
theorem gX8_year_X8_whyNot : GoodIn wsX8_year (wsV RX8 214 RX8 yX8_whyNot wsX8_whyNot) := goodIn_app (goodIn_of _ (by decide +kernel)) ggX8_year_X8_whyNot
set_option maxRecDepth 20000 in
theorem ggX8_year_X8_happen : GoodIn wsX8_year wsX8_happen := goodIn_r _ [66, 21, 20, 9, 67, 68, 69, 12, 70, 35, 71, 4, 8, 40, 36, 37, 38, 39, 41, 42, 43, 44, 45, 46, 47, 72, 73, 74, 75, 76, 77, 78, 59, 60, 61, 62, 79, 80, 81, 82, 19, 83, 84, 85, 86, 87, 88, 89, 22, 94, 95, 96, 97, 98, 99, 100, 101, 102, 103, 104, 105, 106, 107, 108, 109, 110, 111, 112, 113, 114, 115, 116, 117, 118, 119, 120, 121, 122, 123, 124, 125, 126, 127, 128, 129, 130] (by decide +kernel) (by decide +kernel)
set_option maxRecDepth 20000 in
theorem gX8_year_X8_happen : GoodIn wsX8_year (wsV RX8 195 RX8 yX8_happen wsX8_happen) := goodIn_app (goodIn_of _ (by decide +kernel)) ggX8_year_X8_happen
set_option maxRecDepth 20000 in
theorem ggX8_year_X8_back : GoodIn wsX8_year wsX8_back := goodIn_r _ [93, 8, 18, 19, 20, 21, 9, 22, 94, 95, 96, 97, 98, 99, 100, 101, 102, 103, 104, 105, 106, 107, 108, 109, 110, 111, 112, 113, 114, 115, 116, 117, 118, 119, 120, 121, 122, 123, 124, 125, 126, 127, 128, 129, 130] (by decide +kernel) (by decide +kernel)
set_option maxRecDepth 20000 in
theorem gX8_year_X8_back : GoodIn wsX8_year (wsV RX8 237 RX8 yX8_back wsX8_back) := goodIn_app (goodIn_of _ (by decide +kernel)) ggX8_year_X8_back
theorem dX8_year_0 : decode cX8_year 0 = .ok (.iload_n 1, 1) := by decide +kernel
theorem dX8_year_1 : decode cX8_year 1 = .ok (.i2l, 1) := by decide +kernel
theorem dX8_year_2 : decode cX8_year 2 = .ok (.lconst 0, 1) := by decide +kernel
theorem dX8_year_3 : decode cX8_year 3 = .ok (.ldc2_w 299, 3) := by decide +kernel
theorem dX8_year_6 : decode cX8_year 6 = .ok (.invokestatic 83, 3) := by decide +kernel
theorem dX8_year_9 : decode cX8_year 9 = .ok (.ifCond .eq 27, 3) := by decide +kernel
theorem dX8_year_12 : decode cX8_year 12 = .ok (.iload_n 2, 1) := by decide +kernel
theorem dX8_year_13 : decode cX8_year 13 = .ok (.i2l, 1) := by decide +kernel
theorem dX8_year_14 : decode cX8_year 14 = .ok (.lconst 1, 1) := by decide +kernel
theorem dX8_year_15 : decode cX8_year 15 = .ok (.ldc2_w 106, 3) := by decide +kernel
theorem dX8_year_18 : decode cX8_year 18 = .ok (.invokestatic 83, 3) := by decide +kernel
theorem dX8_year_21 : decode cX8_year 21 = .ok (.ifCond .eq 15, 3) := by decide +kernel
theorem dX8_year_24 : decode cX8_year 24 = .ok (.iload_n 3, 1) := by decide +kernel
theorem dX8_year_25 : decode cX8_year 25 = .ok (.i2l, 1) := by decide +kernel
theorem dX8_year_26 : decode cX8_year 26 = .ok (.lconst 0, 1) := by decide +kernel
theorem dX8_year_27 : decode cX8_year 27 = .ok (.ldc2_w 232, 3) := by decide +kernel
theorem dX8_year_30 : decode cX8_year 30 = .ok (.invokestatic 83, 3) := by decide +kernel
theorem dX8_year_33 : decode cX8_year 33 = .ok (.ifCond .ne 6, 3) := by decide +kernel
theorem dX8_year_36 : decode cX8_year 36 = .ok (.bipush (-2), 2) := by decide +kernel
theorem dX8_year_38 : decode cX8_year 38 = .ok (.ireturn, 1) := by decide +kernel
theorem dX8_year_39 : decode cX8_year 39 = .ok (.aload_n 0, 1) := by decide +kernel
theorem dX8_year_40 : decode cX8_year 40 = .ok (.invokevirtual 222, 3) := by decide +kernel
theorem dX8_year_43 : decode cX8_year 43 = .ok (.aload_n 0, 1) := by decide +kernel
theorem dX8_year_44 : decode cX8_year 44 = .ok (.iconst 0, 1) := by decide +kernel
theorem dX8_year_45 : decode cX8_year 45 = .ok (.putfield 174, 3) := by decide +kernel
theorem dX8_year_48 : decode cX8_year 48 = .ok (.iload_n 1, 1) := by decide +kernel
theorem dX8_year_49 : decode cX8_year 49 = .ok (.istore 4, 2) := by decide +kernel
theorem dX8_year_51 : decode cX8_year 51 = .ok (.iconst 0, 1) := by decide +kernel
theorem dX8_year_52 : decode cX8_year 52 = .ok (.istore 5, 2) := by decide +kernel
theorem dX8_year_54 : decode cX8_year 54 = .ok (.iload 5, 2) := by decide +kernel
theorem dX8_year_56 : decode cX8_year 56 = .ok (.iload_n 2, 1) := by decide +kernel
theorem dX8_year_57 : decode cX8_year 57 = .ok (.if_icmp .ge 81, 3) := by decide +kernel
theorem dX8_year_60 : decode cX8_year 60 = .ok (.ldc2_w 301, 3) := by decide +kernel
theorem dX8_year_63 : decode cX8_year 63 = .ok (.iload 4, 2) := by decide +kernel
theorem dX8_year_65 : decode cX8_year 65 = .ok (.i2l, 1) := by decide +kernel
theorem dX8_year_66 : decode cX8_year 66 = .ok (.lmul, 1) := by decide +kernel
theorem dX8_year_67 : decode cX8_year 67 = .ok (.ldc2_w 120, 3) := by decide +kernel
theorem dX8_year_70 : decode cX8_year 70 = .ok (.ladd, 1) := by decide +kernel
theorem dX8_year_71 : decode cX8_year 71 = .ok (.ldc2_w 303, 3) := by decide +kernel
theorem dX8_year_74 : decode cX8_year 74 = .ok (.lrem, 1) := by decide +kernel
theorem dX8_year_75 : decode cX8_year 75 = .ok (.l2i, 1) := by decide +kernel
theorem dX8_year_76 : decode cX8_year 76 = .ok (.istore 4, 2) := by decide +kernel
theorem dX8_year_78 : decode cX8_year 78 = .ok (.iload 4, 2) := by decide +kernel
theorem dX8_year_80 : decode cX8_year 80 = .ok (.bipush 10, 2) := by decide +kernel
theorem dX8_year_82 : decode cX8_year 82 = .ok (.idiv, 1) := by decide +kernel
theorem dX8_year_83 : decode cX8_year 83 = .ok (.bipush 8, 2) := by decide +kernel
theorem dX8_year_85 : decode cX8_year 85 = .ok (.irem, 1) := by decide +kernel
theorem dX8_year_86 : decode cX8_year 86 = .ok (.invokestatic 305, 3) := by decide +kernel
theorem dX8_year_89 : decode cX8_year 89 = .ok (.istore 6, 2) := by decide +kernel
theorem dX8_year_91 : decode cX8_year 91 = .ok (.iconst 1, 1) := by decide +kernel
theorem dX8_year_92 : decode cX8_year 92 = .ok (.iload 4, 2) := by decide +kernel
theorem dX8_year_94 : decode cX8_year 94 = .ok (.bipush 80, 2) := by decide +kernel
theorem dX8_year_96 : decode cX8_year 96 = .ok (.idiv, 1) := by decide +kernel
theorem dX8_year_97 : decode cX8_year 97 = .ok (.bipush 9, 2) := by decide +kernel
theorem dX8_year_99 : decode cX8_year 99 = .ok (.irem, 1) := by decide +kernel
theorem dX8_year_100 : decode cX8_year 100 = .ok (.iadd, 1) := by decide +kernel
theorem dX8_year_101 : decode cX8_year 101 = .ok (.istore 7, 2) := by decide +kernel
theorem dX8_year_103 : decode cX8_year 103 = .ok (.aload_n 0, 1) := by decide +kernel
theorem dX8_year_104 : decode cX8_year 104 = .ok (.iload 6, 2) := by decide +kernel
theorem dX8_year_106 : decode cX8_year 106 = .ok (.iload 4, 2) := by decide +kernel
theorem dX8_year_108 : decode cX8_year 108 = .ok (.bipush 10, 2) := by decide +kernel
theorem dX8_year_110 : decode cX8_year 110 = .ok (.irem, 1) := by decide +kernel
theorem dX8_year_111 : decode cX8_year 111 = .ok (.iload 7, 2) := by decide +kernel
theorem dX8_year_113 : decode cX8_year 113 = .ok (.invokevirtual 214, 3) := by decide +kernel
theorem dX8_year_116 : decode cX8_year 116 = .ok (.ifCond .ne 16, 3) := by decide +kernel
theorem dX8_year_119 : decode cX8_year 119 = .ok (.aload_n 0, 1) := by decide +kernel
theorem dX8_year_120 : decode cX8_year 120 = .ok (.iload 6, 2) := by decide +kernel
theorem dX8_year_122 : decode cX8_year 122 = .ok (.iload 4, 2) := by decide +kernel
theorem dX8_year_124 : decode cX8_year 124 = .ok (.bipush 10, 2) := by decide +kernel
theorem dX8_year_126 : decode cX8_year 126 = .ok (.irem, 1) := by decide +kernel
theorem dX8_year_127 : decode cX8_year 127 = .ok (.iload 7, 2) := by decide +kernel
theorem dX8_year_129 : decode cX8_year 129 = .ok (.invokevirtual 195, 3) := by decide +kernel
theorem dX8_year_132 : decode cX8_year 132 = .ok (.iinc 5 1, 3) := by decide +kernel
theorem dX8_year_135 : decode cX8_year 135 = .ok (.goto (-81), 3) := by decide +kernel
theorem dX8_year_138 : decode cX8_year 138 = .ok (.aload_n 0, 1) := by decide +kernel
theorem dX8_year_139 : decode cX8_year 139 = .ok (.iload_n 3, 1) := by decide +kernel
theorem dX8_year_140 : decode cX8_year 140 = .ok (.ifCond .ne 12, 3) := by decide +kernel
theorem dX8_year_143 : decode cX8_year 143 = .ok (.aload_n 0, 1) := by decide +kernel
theorem dX8_year_144 : decode cX8_year 144 = .ok (.getfield 7, 3) := by decide +kernel
theorem dX8_year_147 : decode cX8_year 147 = .ok (.iconst 0, 1) := by decide +kernel
theorem dX8_year_148 : decode cX8_year 148 = .ok (.iaload, 1) := by decide +kernel
theorem dX8_year_149 : decode cX8_year 149 = .ok (.goto 19, 3) := by decide +kernel
theorem dX8_year_152 : decode cX8_year 152 = .ok (.iload_n 3, 1) := by decide +kernel
theorem dX8_year_153 : decode cX8_year 153 = .ok (.iconst 1, 1) := by decide +kernel
theorem dX8_year_154 : decode cX8_year 154 = .ok (.if_icmp .ne 10, 3) := by decide +kernel
theorem dX8_year_157 : decode cX8_year 157 = .ok (.aload_n 0, 1) := by decide +kernel
theorem dX8_year_158 : decode cX8_year 158 = .ok (.getfield 174, 3) := by decide +kernel
theorem dX8_year_161 : decode cX8_year 161 = .ok (.goto 7, 3) := by decide +kernel
theorem dX8_year_164 : decode cX8_year 164 = .ok (.aload_n 0, 1) := by decide +kernel
theorem dX8_year_165 : decode cX8_year 165 = .ok (.getfield 77, 3) := by decide +kernel
theorem dX8_year_168 : decode cX8_year 168 = .ok (.invokevirtual 237, 3) := by decide +kernel
theorem dX8_year_171 : decode cX8_year 171 = .ok (.ireturn, 1) := by decide +kernel
theorem dX8_pass_0 : decode cX8_pass 0 = .ok (.aload_n 0, 1) := by decide +kernel
theorem dX8_pass_1 : decode cX8_pass 1 = .ok (.getfield 308, 3) := by decide +kernel
theorem dX8_pass_4 : decode cX8_pass 4 = .ok (.ifCond .eq 7, 3) := by decide +kernel
theorem dX8_pass_7 : decode cX8_pass 7 = .ok (.iload_n 1, 1) := by decide +kernel
theorem dX8_pass_8 : decode cX8_pass 8 = .ok (.goto 12, 3) := by decide +kernel
theorem dX8_pass_11 : decode cX8_pass 11 = .ok (.aload_n 0, 1) := by decide +kernel
theorem dX8_pass_12 : decode cX8_pass 12 = .ok (.getfield 71, 3) := by decide +kernel
theorem dX8_pass_15 : decode cX8_pass 15 = .ok (.aload_n 0, 1) := by decide +kernel
theorem dX8_pass_16 : decode cX8_pass 16 = .ok (.getfield 312, 3) := by decide +kernel
theorem dX8_pass_19 : decode cX8_pass 19 = .ok (.iaload, 1) := by decide +kernel
theorem dX8_pass_20 : decode cX8_pass 20 = .ok (.istore_n 2, 1) := by decide +kernel
theorem dX8_pass_21 : decode cX8_pass 21 = .ok (.aload_n 0, 1) := by decide +kernel
theorem dX8_pass_22 : decode cX8_pass 22 = .ok (.getfield 71, 3) := by decide +kernel
theorem dX8_pass_25 : decode cX8_pass 25 = .ok (.aload_n 0, 1) := by decide +kernel
theorem dX8_pass_26 : decode cX8_pass 26 = .ok (.getfield 312, 3) := by decide +kernel
theorem dX8_pass_29 : decode cX8_pass 29 = .ok (.iload_n 2, 1) := by decide +kernel
theorem dX8_pass_30 : decode cX8_pass 30 = .ok (.iastore, 1) := by decide +kernel
theorem dX8_pass_31 : decode cX8_pass 31 = .ok (.aload_n 0, 1) := by decide +kernel
theorem dX8_pass_32 : decode cX8_pass 32 = .ok (.dup, 1) := by decide +kernel
theorem dX8_pass_33 : decode cX8_pass 33 = .ok (.getfield 312, 3) := by decide +kernel
theorem dX8_pass_36 : decode cX8_pass 36 = .ok (.iconst 1, 1) := by decide +kernel
theorem dX8_pass_37 : decode cX8_pass 37 = .ok (.iadd, 1) := by decide +kernel
theorem dX8_pass_38 : decode cX8_pass 38 = .ok (.putfield 312, 3) := by decide +kernel
theorem dX8_pass_41 : decode cX8_pass 41 = .ok (.iload_n 2, 1) := by decide +kernel
theorem dX8_pass_42 : decode cX8_pass 42 = .ok (.ireturn, 1) := by decide +kernel
set_option maxRecDepth 20000 in
theorem ggX8_passRow_X8_pass : GoodIn wsX8_passRow wsX8_pass := goodIn_r _ [5, 6, 7, 8, 9, 10, 11, 12, 13, 14, 15, 16, 17, 18, 19, 20, 21, 22, 23, 24, 25, 26, 27, 28, 29, 30, 31, 32, 33, 34, 35, 36, 37, 38, 39, 40, 41, 42, 43, 44, 45] (by decide +kernel) (by decide +kernel)
set_option maxRecDepth 20000 in
theorem gX8_passRow_X8_pass : GoodIn wsX8_passRow (wsV RX8 315 RX8 yX8_pass wsX8_pass) := goodIn_app (goodIn_of _ (by decide +kernel)) ggX8_passRow_X8_pass
theorem dX8_passRow_0 : decode cX8_passRow 0 = .ok (.iconst 0, 1) := by decide +kernel
theorem dX8_passRow_1 : decode cX8_passRow 1 = .ok (.istore_n 3, 1) := by decide +kernel
theorem dX8_passRow_2 : decode cX8_passRow 2 = .ok (.iload_n 3, 1) := by decide +kernel
theorem dX8_passRow_3 : decode cX8_passRow 3 = .ok (.iload_n 2, 1) := by decide +kernel
theorem dX8_passRow_4 : decode cX8_passRow 4 = .ok (.if_icmp .ge 19, 3) := by decide +kernel
theorem dX8_passRow_7 : decode cX8_passRow 7 = .ok (.aload_n 1, 1) := by decide +kernel
theorem dX8_passRow_8 : decode cX8_passRow 8 = .ok (.iload_n 3, 1) := by decide +kernel
theorem dX8_passRow_9 : decode cX8_passRow 9 = .ok (.aload_n 0, 1) := by decide +kernel
theorem dX8_passRow_10 : decode cX8_passRow 10 = .ok (.aload_n 1, 1) := by decide +kernel
theorem dX8_passRow_11 : decode cX8_passRow 11 = .ok (.iload_n 3, 1) := by decide +kernel
theorem dX8_passRow_12 : decode cX8_passRow 12 = .ok (.iaload, 1) := by decide +kernel
theorem dX8_passRow_13 : decode cX8_passRow 13 = .ok (.invokevirtual 315, 3) := by decide +kernel
theorem dX8_passRow_16 : decode cX8_passRow 16 = .ok (.iastore, 1) := by decide +kernel
theorem dX8_passRow_17 : decode cX8_passRow 17 = .ok (.iinc 3 1, 3) := by decide +kernel
theorem dX8_passRow_20 : decode cX8_passRow 20 = .ok (.goto (-18), 3) := by decide +kernel
theorem dX8_passRow_23 : decode cX8_passRow 23 = .ok (.return_, 1) := by decide +kernel
set_option maxRecDepth 20000 in
theorem ggX8_passAll_X8_pass : GoodIn wsX8_passAll wsX8_pass := goodIn_r _ [14, 15, 16, 17, 22, 23, 24, 25, 26, 27, 28, 29, 30, 31, 32, 33, 34, 35, 36, 37, 38, 39, 40, 41, 42, 43, 44, 45, 46, 47, 48, 49, 50, 51, 52, 53, 54, 55, 56, 57, 58] (by decide +kernel) (by decide +kernel)
set_option maxRecDepth 20000 in
theorem gX8_passAll_X8_pass : GoodIn wsX8_passAll (wsV RX8 315 RX8 yX8_pass wsX8_pass) := goodIn_app (goodIn_of _ (by decide +kernel)) ggX8_passAll_X8_pass
set_option maxRecDepth 20000 in
theorem ggX8_passAll_X8_passRow : GoodIn wsX8_passAll wsX8_passRow := goodIn_r _ [21, 10, 11, 12, 13, 14, 15, 16, 17, 22, 23, 24, 25, 26, 27, 28, 29, 30, 31, 32, 33, 34, 35, 36, 37, 38, 39, 40, 41, 42, 43, 44, 45, 46, 47, 48, 49, 50, 51, 52, 53, 54, 55, 56, 57, 58] (by decide +kernel) (by decide +kernel)
set_option maxRecDepth 20000 in
theorem gX8_passAll_X8_passRow : GoodIn wsX8_passAll (wsV RX8 318 RX8 yX8_passRow wsX8_passRow) := goodIn_app (goodIn_of _ (by decide +kernel)) ggX8_passAll_X8_passRow
theorem dX8_passAll_0 : decode cX8_passAll 0 = .ok (.aload_n 0, 1) := by decide +kernel
theorem dX8_passAll_1 : decode cX8_passAll 1 = .ok (.aload_n 0, 1) := by decide +kernel
theorem dX8_passAll_2 : decode cX8_passAll 2 = .ok (.aload_n 0, 1) := by decide +kernel
theorem dX8_passAll_3 : decode cX8_passAll 3 = .ok (.getfield 101, 3) := by decide +kernel
theorem dX8_passAll_6 : decode cX8_passAll 6 = .ok (.invokevirtual 315, 3) := by decide +kernel
theorem dX8_passAll_9 : decode cX8_passAll 9 = .ok (.putfield 101, 3) := by decide +kernel
theorem dX8_passAll_12 : decode cX8_passAll 12 = .ok (.aload_n 0, 1) := by decide +kernel
theorem dX8_passAll_13 : decode cX8_passAll 13 = .ok (.aload_n 0, 1) := by decide +kernel
theorem dX8_passAll_14 : decode cX8_passAll 14 = .ok (.aload_n 0, 1) := by decide +kernel
theorem dX8_passAll_15 : decode cX8_passAll 15 = .ok (.getfield 77, 3) := by decide +kernel
theorem dX8_passAll_18 : decode cX8_passAll 18 = .ok (.invokevirtual 315, 3) := by decide +kernel
theorem dX8_passAll_21 : decode cX8_passAll 21 = .ok (.putfield 77, 3) := by decide +kernel
theorem dX8_passAll_24 : decode cX8_passAll 24 = .ok (.aload_n 0, 1) := by decide +kernel
theorem dX8_passAll_25 : decode cX8_passAll 25 = .ok (.aload_n 0, 1) := by decide +kernel
theorem dX8_passAll_26 : decode cX8_passAll 26 = .ok (.aload_n 0, 1) := by decide +kernel
theorem dX8_passAll_27 : decode cX8_passAll 27 = .ok (.getfield 168, 3) := by decide +kernel
theorem dX8_passAll_30 : decode cX8_passAll 30 = .ok (.invokevirtual 315, 3) := by decide +kernel
theorem dX8_passAll_33 : decode cX8_passAll 33 = .ok (.putfield 168, 3) := by decide +kernel
theorem dX8_passAll_36 : decode cX8_passAll 36 = .ok (.aload_n 0, 1) := by decide +kernel
theorem dX8_passAll_37 : decode cX8_passAll 37 = .ok (.aload_n 0, 1) := by decide +kernel
theorem dX8_passAll_38 : decode cX8_passAll 38 = .ok (.aload_n 0, 1) := by decide +kernel
theorem dX8_passAll_39 : decode cX8_passAll 39 = .ok (.getfield 274, 3) := by decide +kernel
theorem dX8_passAll_42 : decode cX8_passAll 42 = .ok (.invokevirtual 315, 3) := by decide +kernel
theorem dX8_passAll_45 : decode cX8_passAll 45 = .ok (.putfield 274, 3) := by decide +kernel
theorem dX8_passAll_48 : decode cX8_passAll 48 = .ok (.aload_n 0, 1) := by decide +kernel
theorem dX8_passAll_49 : decode cX8_passAll 49 = .ok (.aload_n 0, 1) := by decide +kernel
theorem dX8_passAll_50 : decode cX8_passAll 50 = .ok (.getfield 7, 3) := by decide +kernel
theorem dX8_passAll_53 : decode cX8_passAll 53 = .ok (.bipush 10, 2) := by decide +kernel
theorem dX8_passAll_55 : decode cX8_passAll 55 = .ok (.invokevirtual 318, 3) := by decide +kernel
theorem dX8_passAll_58 : decode cX8_passAll 58 = .ok (.aload_n 0, 1) := by decide +kernel
theorem dX8_passAll_59 : decode cX8_passAll 59 = .ok (.aload_n 0, 1) := by decide +kernel
theorem dX8_passAll_60 : decode cX8_passAll 60 = .ok (.getfield 13, 3) := by decide +kernel
theorem dX8_passAll_63 : decode cX8_passAll 63 = .ok (.bipush 10, 2) := by decide +kernel
theorem dX8_passAll_65 : decode cX8_passAll 65 = .ok (.invokevirtual 318, 3) := by decide +kernel
theorem dX8_passAll_68 : decode cX8_passAll 68 = .ok (.aload_n 0, 1) := by decide +kernel
theorem dX8_passAll_69 : decode cX8_passAll 69 = .ok (.aload_n 0, 1) := by decide +kernel
theorem dX8_passAll_70 : decode cX8_passAll 70 = .ok (.getfield 16, 3) := by decide +kernel
theorem dX8_passAll_73 : decode cX8_passAll 73 = .ok (.bipush 9, 2) := by decide +kernel
theorem dX8_passAll_75 : decode cX8_passAll 75 = .ok (.invokevirtual 318, 3) := by decide +kernel
theorem dX8_passAll_78 : decode cX8_passAll 78 = .ok (.aload_n 0, 1) := by decide +kernel
theorem dX8_passAll_79 : decode cX8_passAll 79 = .ok (.aload_n 0, 1) := by decide +kernel
theorem dX8_passAll_80 : decode cX8_passAll 80 = .ok (.getfield 19, 3) := by decide +kernel
theorem dX8_passAll_83 : decode cX8_passAll 83 = .ok (.bipush 8, 2) := by decide +kernel
theorem dX8_passAll_85 : decode cX8_passAll 85 = .ok (.invokevirtual 318, 3) := by decide +kernel
theorem dX8_passAll_88 : decode cX8_passAll 88 = .ok (.aload_n 0, 1) := by decide +kernel
theorem dX8_passAll_89 : decode cX8_passAll 89 = .ok (.aload_n 0, 1) := by decide +kernel
theorem dX8_passAll_90 : decode cX8_passAll 90 = .ok (.getfield 22, 3) := by decide +kernel
theorem dX8_passAll_93 : decode cX8_passAll 93 = .ok (.bipush 8, 2) := by decide +kernel
theorem dX8_passAll_95 : decode cX8_passAll 95 = .ok (.invokevirtual 318, 3) := by decide +kernel
theorem dX8_passAll_98 : decode cX8_passAll 98 = .ok (.return_, 1) := by decide +kernel
set_option maxRecDepth 20000 in
theorem ggX8_image_X8_in : GoodIn wsX8_image wsX8_in := goodIn_r _ [7] (by decide +kernel) (by decide +kernel)
set_option maxRecDepth 20000 in
theorem gX8_image_X8_in : GoodIn wsX8_image (va_wsS RX8 83 yX8_in wsX8_in) := goodIn_app (goodIn_of _ (by decide +kernel)) ggX8_image_X8_in
set_option maxRecDepth 20000 in
theorem ggX8_image_X8_passAll : GoodIn wsX8_image wsX8_passAll := goodIn_r _ [11, 12, 13, 14, 15, 16, 17, 18, 19, 20, 21, 22, 23, 6, 24, 2, 25, 1, 26, 27, 28, 29, 30, 31, 32, 33, 34, 35, 36, 37, 38, 39, 40, 41, 42, 43, 44, 45, 46, 47, 48, 49, 50, 51, 52, 53, 54, 55, 56, 57, 58, 59, 60, 61, 62, 63, 64, 65, 66] (by decide +kernel) (by decide +kernel)
set_option maxRecDepth 20000 in
theorem gX8_image_X8_passAll : GoodIn wsX8_image (wsV RX8 322 RX8 yX8_passAll wsX8_passAll) := goodIn_app (goodIn_of _ (by decide +kernel)) ggX8_image_X8_passAll
theorem dX8_image_0 : decode cX8_image 0 = .ok (.iload_n 1, 1) := by decide +kernel
theorem dX8_image_1 : decode cX8_image 1 = .ok (.i2l, 1) := by decide +kernel
theorem dX8_image_2 : decode cX8_image 2 = .ok (.lconst 0, 1) := by decide +kernel
theorem dX8_image_3 : decode cX8_image 3 = .ok (.lconst 1, 1) := by decide +kernel
theorem dX8_image_4 : decode cX8_image 4 = .ok (.invokestatic 83, 3) := by decide +kernel
theorem dX8_image_7 : decode cX8_image 7 = .ok (.ifCond .ne 6, 3) := by decide +kernel
theorem dX8_image_10 : decode cX8_image 10 = .ok (.bipush (-2), 2) := by decide +kernel
theorem dX8_image_12 : decode cX8_image 12 = .ok (.ireturn, 1) := by decide +kernel
theorem dX8_image_13 : decode cX8_image 13 = .ok (.aload_n 0, 1) := by decide +kernel
theorem dX8_image_14 : decode cX8_image 14 = .ok (.bipush 60, 2) := by decide +kernel
theorem dX8_image_16 : decode cX8_image 16 = .ok (.iload_n 1, 1) := by decide +kernel
theorem dX8_image_17 : decode cX8_image 17 = .ok (.imul, 1) := by decide +kernel
theorem dX8_image_18 : decode cX8_image 18 = .ok (.putfield 312, 3) := by decide +kernel
theorem dX8_image_21 : decode cX8_image 21 = .ok (.aload_n 0, 1) := by decide +kernel
theorem dX8_image_22 : decode cX8_image 22 = .ok (.iconst 1, 1) := by decide +kernel
theorem dX8_image_23 : decode cX8_image 23 = .ok (.putfield 308, 3) := by decide +kernel
theorem dX8_image_26 : decode cX8_image 26 = .ok (.aload_n 0, 1) := by decide +kernel
theorem dX8_image_27 : decode cX8_image 27 = .ok (.invokevirtual 322, 3) := by decide +kernel
theorem dX8_image_30 : decode cX8_image 30 = .ok (.aload_n 0, 1) := by decide +kernel
theorem dX8_image_31 : decode cX8_image 31 = .ok (.getfield 74, 3) := by decide +kernel
theorem dX8_image_34 : decode cX8_image 34 = .ok (.iload_n 1, 1) := by decide +kernel
theorem dX8_image_35 : decode cX8_image 35 = .ok (.iconst 1, 1) := by decide +kernel
theorem dX8_image_36 : decode cX8_image 36 = .ok (.bastore, 1) := by decide +kernel
theorem dX8_image_37 : decode cX8_image 37 = .ok (.iconst 1, 1) := by decide +kernel
theorem dX8_image_38 : decode cX8_image 38 = .ok (.ireturn, 1) := by decide +kernel
set_option maxRecDepth 20000 in
theorem ggX8_restore_X8_in : GoodIn wsX8_restore wsX8_in := goodIn_r _ [7] (by decide +kernel) (by decide +kernel)
set_option maxRecDepth 20000 in
theorem gX8_restore_X8_in : GoodIn wsX8_restore (va_wsS RX8 83 yX8_in wsX8_in) := goodIn_app (goodIn_of _ (by decide +kernel)) ggX8_restore_X8_in
set_option maxRecDepth 20000 in
theorem ggX8_restore_X8_passAll : GoodIn wsX8_restore wsX8_passAll := goodIn_r _ [11, 12, 13, 14, 15, 16, 17, 18, 19, 20, 21, 22, 23, 6, 24, 3, 25, 2, 26, 27, 28, 29, 30, 31, 32, 33, 34, 35, 36, 37, 38, 39, 40, 41, 42, 43, 44, 45, 46, 47, 48, 49, 50, 51, 52, 53, 54, 55, 56, 57, 58, 59, 60, 61, 62, 63, 64, 65, 66] (by decide +kernel) (by decide +kernel)
set_option maxRecDepth 20000 in
theorem gX8_restore_X8_passAll : GoodIn wsX8_restore (wsV RX8 322 RX8 yX8_passAll wsX8_passAll) := goodIn_app (goodIn_of _ (by decide +kernel)) ggX8_restore_X8_passAll
theorem dX8_restore_0 : decode cX8_restore 0 = .ok (.iload_n 1, 1) := by decide +kernel
theorem dX8_restore_1 : decode cX8_restore 1 = .ok (.i2l, 1) := by decide +kernel
theorem dX8_restore_2 : decode cX8_restore 2 = .ok (.lconst 0, 1) := by decide +kernel
theorem dX8_restore_3 : decode cX8_restore 3 = .ok (.lconst 1, 1) := by decide +kernel
theorem dX8_restore_4 : decode cX8_restore 4 = .ok (.invokestatic 83, 3) := by decide +kernel
theorem dX8_restore_7 : decode cX8_restore 7 = .ok (.ifCond .ne 6, 3) := by decide +kernel
theorem dX8_restore_10 : decode cX8_restore 10 = .ok (.bipush (-2), 2) := by decide +kernel
theorem dX8_restore_12 : decode cX8_restore 12 = .ok (.ireturn, 1) := by decide +kernel
theorem dX8_restore_13 : decode cX8_restore 13 = .ok (.aload_n 0, 1) := by decide +kernel
theorem dX8_restore_14 : decode cX8_restore 14 = .ok (.getfield 74, 3) := by decide +kernel
theorem dX8_restore_17 : decode cX8_restore 17 = .ok (.iload_n 1, 1) := by decide +kernel
theorem dX8_restore_18 : decode cX8_restore 18 = .ok (.baload, 1) := by decide +kernel
theorem dX8_restore_19 : decode cX8_restore 19 = .ok (.ifCond .ne 6, 3) := by decide +kernel
theorem dX8_restore_22 : decode cX8_restore 22 = .ok (.bipush (-3), 2) := by decide +kernel
theorem dX8_restore_24 : decode cX8_restore 24 = .ok (.ireturn, 1) := by decide +kernel
theorem dX8_restore_25 : decode cX8_restore 25 = .ok (.aload_n 0, 1) := by decide +kernel
theorem dX8_restore_26 : decode cX8_restore 26 = .ok (.bipush 60, 2) := by decide +kernel
theorem dX8_restore_28 : decode cX8_restore 28 = .ok (.iload_n 1, 1) := by decide +kernel
theorem dX8_restore_29 : decode cX8_restore 29 = .ok (.imul, 1) := by decide +kernel
theorem dX8_restore_30 : decode cX8_restore 30 = .ok (.putfield 312, 3) := by decide +kernel
theorem dX8_restore_33 : decode cX8_restore 33 = .ok (.aload_n 0, 1) := by decide +kernel
theorem dX8_restore_34 : decode cX8_restore 34 = .ok (.iconst 0, 1) := by decide +kernel
theorem dX8_restore_35 : decode cX8_restore 35 = .ok (.putfield 308, 3) := by decide +kernel
theorem dX8_restore_38 : decode cX8_restore 38 = .ok (.aload_n 0, 1) := by decide +kernel
theorem dX8_restore_39 : decode cX8_restore 39 = .ok (.invokevirtual 322, 3) := by decide +kernel
theorem dX8_restore_42 : decode cX8_restore 42 = .ok (.iconst 1, 1) := by decide +kernel
theorem dX8_restore_43 : decode cX8_restore 43 = .ok (.ireturn, 1) := by decide +kernel
set_option maxRecDepth 20000 in
theorem ggX8_told_X8_in : GoodIn wsX8_told wsX8_in := goodIn_r _ [18] (by decide +kernel) (by decide +kernel)
set_option maxRecDepth 20000 in
theorem gX8_told_X8_in : GoodIn wsX8_told (va_wsS RX8 83 yX8_in wsX8_in) := goodIn_app (goodIn_of _ (by decide +kernel)) ggX8_told_X8_in
theorem dX8_told_0 : decode cX8_told 0 = .ok (.iload_n 1, 1) := by decide +kernel
theorem dX8_told_1 : decode cX8_told 1 = .ok (.i2l, 1) := by decide +kernel
theorem dX8_told_2 : decode cX8_told 2 = .ok (.ldc2_w 291, 3) := by decide +kernel
theorem dX8_told_5 : decode cX8_told 5 = .ok (.ldc2_w 325, 3) := by decide +kernel
theorem dX8_told_8 : decode cX8_told 8 = .ok (.invokestatic 83, 3) := by decide +kernel
theorem dX8_told_11 : decode cX8_told 11 = .ok (.ifCond .eq 13, 3) := by decide +kernel
theorem dX8_told_14 : decode cX8_told 14 = .ok (.aload_n 0, 1) := by decide +kernel
theorem dX8_told_15 : decode cX8_told 15 = .ok (.getfield 7, 3) := by decide +kernel
theorem dX8_told_18 : decode cX8_told 18 = .ok (.iload_n 1, 1) := by decide +kernel
theorem dX8_told_19 : decode cX8_told 19 = .ok (.bipush 10, 2) := by decide +kernel
theorem dX8_told_21 : decode cX8_told 21 = .ok (.isub, 1) := by decide +kernel
theorem dX8_told_22 : decode cX8_told 22 = .ok (.iaload, 1) := by decide +kernel
theorem dX8_told_23 : decode cX8_told 23 = .ok (.ireturn, 1) := by decide +kernel
theorem dX8_told_24 : decode cX8_told 24 = .ok (.iload_n 1, 1) := by decide +kernel
theorem dX8_told_25 : decode cX8_told 25 = .ok (.i2l, 1) := by decide +kernel
theorem dX8_told_26 : decode cX8_told 26 = .ok (.ldc2_w 327, 3) := by decide +kernel
theorem dX8_told_29 : decode cX8_told 29 = .ok (.ldc2_w 329, 3) := by decide +kernel
theorem dX8_told_32 : decode cX8_told 32 = .ok (.invokestatic 83, 3) := by decide +kernel
theorem dX8_told_35 : decode cX8_told 35 = .ok (.ifCond .eq 13, 3) := by decide +kernel
theorem dX8_told_38 : decode cX8_told 38 = .ok (.aload_n 0, 1) := by decide +kernel
theorem dX8_told_39 : decode cX8_told 39 = .ok (.getfield 13, 3) := by decide +kernel
theorem dX8_told_42 : decode cX8_told 42 = .ok (.iload_n 1, 1) := by decide +kernel
theorem dX8_told_43 : decode cX8_told 43 = .ok (.bipush 20, 2) := by decide +kernel
theorem dX8_told_45 : decode cX8_told 45 = .ok (.isub, 1) := by decide +kernel
theorem dX8_told_46 : decode cX8_told 46 = .ok (.iaload, 1) := by decide +kernel
theorem dX8_told_47 : decode cX8_told 47 = .ok (.ireturn, 1) := by decide +kernel
theorem dX8_told_48 : decode cX8_told 48 = .ok (.iload_n 1, 1) := by decide +kernel
theorem dX8_told_49 : decode cX8_told 49 = .ok (.i2l, 1) := by decide +kernel
theorem dX8_told_50 : decode cX8_told 50 = .ok (.ldc2_w 331, 3) := by decide +kernel
theorem dX8_told_53 : decode cX8_told 53 = .ok (.ldc2_w 333, 3) := by decide +kernel
theorem dX8_told_56 : decode cX8_told 56 = .ok (.invokestatic 83, 3) := by decide +kernel
theorem dX8_told_59 : decode cX8_told 59 = .ok (.ifCond .eq 13, 3) := by decide +kernel
theorem dX8_told_62 : decode cX8_told 62 = .ok (.aload_n 0, 1) := by decide +kernel
theorem dX8_told_63 : decode cX8_told 63 = .ok (.getfield 16, 3) := by decide +kernel
theorem dX8_told_66 : decode cX8_told 66 = .ok (.iload_n 1, 1) := by decide +kernel
theorem dX8_told_67 : decode cX8_told 67 = .ok (.bipush 30, 2) := by decide +kernel
theorem dX8_told_69 : decode cX8_told 69 = .ok (.isub, 1) := by decide +kernel
theorem dX8_told_70 : decode cX8_told 70 = .ok (.iaload, 1) := by decide +kernel
theorem dX8_told_71 : decode cX8_told 71 = .ok (.ireturn, 1) := by decide +kernel
theorem dX8_told_72 : decode cX8_told 72 = .ok (.iload_n 1, 1) := by decide +kernel
theorem dX8_told_73 : decode cX8_told 73 = .ok (.tableswitch 60 0 4 #[35, 40, 45, 50, 55], 35) := by decide +kernel
theorem dX8_told_108 : decode cX8_told 108 = .ok (.aload_n 0, 1) := by decide +kernel
theorem dX8_told_109 : decode cX8_told 109 = .ok (.getfield 112, 3) := by decide +kernel
theorem dX8_told_112 : decode cX8_told 112 = .ok (.ireturn, 1) := by decide +kernel
theorem dX8_told_113 : decode cX8_told 113 = .ok (.aload_n 0, 1) := by decide +kernel
theorem dX8_told_114 : decode cX8_told 114 = .ok (.getfield 101, 3) := by decide +kernel
theorem dX8_told_117 : decode cX8_told 117 = .ok (.ireturn, 1) := by decide +kernel
theorem dX8_told_118 : decode cX8_told 118 = .ok (.aload_n 0, 1) := by decide +kernel
theorem dX8_told_119 : decode cX8_told 119 = .ok (.getfield 77, 3) := by decide +kernel
theorem dX8_told_122 : decode cX8_told 122 = .ok (.ireturn, 1) := by decide +kernel
theorem dX8_told_123 : decode cX8_told 123 = .ok (.aload_n 0, 1) := by decide +kernel
theorem dX8_told_124 : decode cX8_told 124 = .ok (.getfield 168, 3) := by decide +kernel
theorem dX8_told_127 : decode cX8_told 127 = .ok (.ireturn, 1) := by decide +kernel
theorem dX8_told_128 : decode cX8_told 128 = .ok (.aload_n 0, 1) := by decide +kernel
theorem dX8_told_129 : decode cX8_told 129 = .ok (.getfield 274, 3) := by decide +kernel
theorem dX8_told_132 : decode cX8_told 132 = .ok (.ireturn, 1) := by decide +kernel
theorem dX8_told_133 : decode cX8_told 133 = .ok (.bipush (-2), 2) := by decide +kernel
theorem dX8_told_135 : decode cX8_told 135 = .ok (.ireturn, 1) := by decide +kernel
theorem dJ6_bitCount_0f7a4_0 : decode cJ6_bitCount_0f7a4 0 = .ok (.iload_n 0, 1) := by decide +kernel
theorem dJ6_bitCount_0f7a4_1 : decode cJ6_bitCount_0f7a4 1 = .ok (.iload_n 0, 1) := by decide +kernel
theorem dJ6_bitCount_0f7a4_2 : decode cJ6_bitCount_0f7a4 2 = .ok (.iconst 1, 1) := by decide +kernel
theorem dJ6_bitCount_0f7a4_3 : decode cJ6_bitCount_0f7a4 3 = .ok (.iushr, 1) := by decide +kernel
theorem dJ6_bitCount_0f7a4_4 : decode cJ6_bitCount_0f7a4 4 = .ok (.ldc_w 265, 3) := by decide +kernel
theorem dJ6_bitCount_0f7a4_7 : decode cJ6_bitCount_0f7a4 7 = .ok (.iand, 1) := by decide +kernel
theorem dJ6_bitCount_0f7a4_8 : decode cJ6_bitCount_0f7a4 8 = .ok (.isub, 1) := by decide +kernel
theorem dJ6_bitCount_0f7a4_9 : decode cJ6_bitCount_0f7a4 9 = .ok (.istore_n 0, 1) := by decide +kernel
theorem dJ6_bitCount_0f7a4_10 : decode cJ6_bitCount_0f7a4 10 = .ok (.iload_n 0, 1) := by decide +kernel
theorem dJ6_bitCount_0f7a4_11 : decode cJ6_bitCount_0f7a4 11 = .ok (.ldc_w 266, 3) := by decide +kernel
theorem dJ6_bitCount_0f7a4_14 : decode cJ6_bitCount_0f7a4 14 = .ok (.iand, 1) := by decide +kernel
theorem dJ6_bitCount_0f7a4_15 : decode cJ6_bitCount_0f7a4 15 = .ok (.iload_n 0, 1) := by decide +kernel
theorem dJ6_bitCount_0f7a4_16 : decode cJ6_bitCount_0f7a4 16 = .ok (.iconst 2, 1) := by decide +kernel
theorem dJ6_bitCount_0f7a4_17 : decode cJ6_bitCount_0f7a4 17 = .ok (.iushr, 1) := by decide +kernel
theorem dJ6_bitCount_0f7a4_18 : decode cJ6_bitCount_0f7a4 18 = .ok (.ldc_w 266, 3) := by decide +kernel
theorem dJ6_bitCount_0f7a4_21 : decode cJ6_bitCount_0f7a4 21 = .ok (.iand, 1) := by decide +kernel
theorem dJ6_bitCount_0f7a4_22 : decode cJ6_bitCount_0f7a4 22 = .ok (.iadd, 1) := by decide +kernel
theorem dJ6_bitCount_0f7a4_23 : decode cJ6_bitCount_0f7a4 23 = .ok (.istore_n 0, 1) := by decide +kernel
theorem dJ6_bitCount_0f7a4_24 : decode cJ6_bitCount_0f7a4 24 = .ok (.iload_n 0, 1) := by decide +kernel
theorem dJ6_bitCount_0f7a4_25 : decode cJ6_bitCount_0f7a4 25 = .ok (.iload_n 0, 1) := by decide +kernel
theorem dJ6_bitCount_0f7a4_26 : decode cJ6_bitCount_0f7a4 26 = .ok (.iconst 4, 1) := by decide +kernel
theorem dJ6_bitCount_0f7a4_27 : decode cJ6_bitCount_0f7a4 27 = .ok (.iushr, 1) := by decide +kernel
theorem dJ6_bitCount_0f7a4_28 : decode cJ6_bitCount_0f7a4 28 = .ok (.iadd, 1) := by decide +kernel
theorem dJ6_bitCount_0f7a4_29 : decode cJ6_bitCount_0f7a4 29 = .ok (.ldc_w 267, 3) := by decide +kernel
theorem dJ6_bitCount_0f7a4_32 : decode cJ6_bitCount_0f7a4 32 = .ok (.iand, 1) := by decide +kernel
theorem dJ6_bitCount_0f7a4_33 : decode cJ6_bitCount_0f7a4 33 = .ok (.istore_n 0, 1) := by decide +kernel
theorem dJ6_bitCount_0f7a4_34 : decode cJ6_bitCount_0f7a4 34 = .ok (.iload_n 0, 1) := by decide +kernel
theorem dJ6_bitCount_0f7a4_35 : decode cJ6_bitCount_0f7a4 35 = .ok (.iload_n 0, 1) := by decide +kernel
theorem dJ6_bitCount_0f7a4_36 : decode cJ6_bitCount_0f7a4 36 = .ok (.bipush 8, 2) := by decide +kernel
theorem dJ6_bitCount_0f7a4_38 : decode cJ6_bitCount_0f7a4 38 = .ok (.iushr, 1) := by decide +kernel
theorem dJ6_bitCount_0f7a4_39 : decode cJ6_bitCount_0f7a4 39 = .ok (.iadd, 1) := by decide +kernel
theorem dJ6_bitCount_0f7a4_40 : decode cJ6_bitCount_0f7a4 40 = .ok (.istore_n 0, 1) := by decide +kernel
theorem dJ6_bitCount_0f7a4_41 : decode cJ6_bitCount_0f7a4 41 = .ok (.iload_n 0, 1) := by decide +kernel
theorem dJ6_bitCount_0f7a4_42 : decode cJ6_bitCount_0f7a4 42 = .ok (.iload_n 0, 1) := by decide +kernel
theorem dJ6_bitCount_0f7a4_43 : decode cJ6_bitCount_0f7a4 43 = .ok (.bipush 16, 2) := by decide +kernel
theorem dJ6_bitCount_0f7a4_45 : decode cJ6_bitCount_0f7a4 45 = .ok (.iushr, 1) := by decide +kernel
theorem dJ6_bitCount_0f7a4_46 : decode cJ6_bitCount_0f7a4 46 = .ok (.iadd, 1) := by decide +kernel
theorem dJ6_bitCount_0f7a4_47 : decode cJ6_bitCount_0f7a4 47 = .ok (.istore_n 0, 1) := by decide +kernel
theorem dJ6_bitCount_0f7a4_48 : decode cJ6_bitCount_0f7a4 48 = .ok (.iload_n 0, 1) := by decide +kernel
theorem dJ6_bitCount_0f7a4_49 : decode cJ6_bitCount_0f7a4 49 = .ok (.bipush 63, 2) := by decide +kernel
theorem dJ6_bitCount_0f7a4_51 : decode cJ6_bitCount_0f7a4 51 = .ok (.iand, 1) := by decide +kernel
theorem dJ6_bitCount_0f7a4_52 : decode cJ6_bitCount_0f7a4 52 = .ok (.ireturn, 1) := by decide +kernel
theorem dJ9_abs_0f7a4_0 : decode cJ9_abs_0f7a4 0 = .ok (.iload_n 0, 1) := by decide +kernel
theorem dJ9_abs_0f7a4_1 : decode cJ9_abs_0f7a4 1 = .ok (.ifCond .ge 8, 3) := by decide +kernel
theorem dJ9_abs_0f7a4_4 : decode cJ9_abs_0f7a4 4 = .ok (.iload_n 0, 1) := by decide +kernel
theorem dJ9_abs_0f7a4_5 : decode cJ9_abs_0f7a4 5 = .ok (.ineg, 1) := by decide +kernel
theorem dJ9_abs_0f7a4_6 : decode cJ9_abs_0f7a4 6 = .ok (.goto 4, 3) := by decide +kernel
theorem dJ9_abs_0f7a4_9 : decode cJ9_abs_0f7a4 9 = .ok (.iload_n 0, 1) := by decide +kernel
theorem dJ9_abs_0f7a4_10 : decode cJ9_abs_0f7a4 10 = .ok (.ireturn, 1) := by decide +kernel
theorem dJ9_max_7cf53_0 : decode cJ9_max_7cf53 0 = .ok (.iload_n 0, 1) := by decide +kernel
theorem dJ9_max_7cf53_1 : decode cJ9_max_7cf53 1 = .ok (.iload_n 1, 1) := by decide +kernel
theorem dJ9_max_7cf53_2 : decode cJ9_max_7cf53 2 = .ok (.if_icmp .lt 7, 3) := by decide +kernel
theorem dJ9_max_7cf53_5 : decode cJ9_max_7cf53 5 = .ok (.iload_n 0, 1) := by decide +kernel
theorem dJ9_max_7cf53_6 : decode cJ9_max_7cf53 6 = .ok (.goto 4, 3) := by decide +kernel
theorem dJ9_max_7cf53_9 : decode cJ9_max_7cf53 9 = .ok (.iload_n 1, 1) := by decide +kernel
theorem dJ9_max_7cf53_10 : decode cJ9_max_7cf53 10 = .ok (.ireturn, 1) := by decide +kernel
theorem dJ9_min_7cf53_0 : decode cJ9_min_7cf53 0 = .ok (.iload_n 0, 1) := by decide +kernel
theorem dJ9_min_7cf53_1 : decode cJ9_min_7cf53 1 = .ok (.iload_n 1, 1) := by decide +kernel
theorem dJ9_min_7cf53_2 : decode cJ9_min_7cf53 2 = .ok (.if_icmp .gt 7, 3) := by decide +kernel
theorem dJ9_min_7cf53_5 : decode cJ9_min_7cf53 5 = .ok (.iload_n 0, 1) := by decide +kernel
theorem dJ9_min_7cf53_6 : decode cJ9_min_7cf53 6 = .ok (.goto 4, 3) := by decide +kernel
theorem dJ9_min_7cf53_9 : decode cJ9_min_7cf53 9 = .ok (.iload_n 1, 1) := by decide +kernel
theorem dJ9_min_7cf53_10 : decode cJ9_min_7cf53 10 = .ok (.ireturn, 1) := by decide +kernel
end
section
/-- the links of nest mates' private methods -/
def nxl : List (String × Nat × MethodName × String) := [(RX7, 28, yX0_init, RX7), (RX3, 23, yX7_isWithin, RX7), (RX5, 57, yX7_isWithin, RX7), (RX0, 39, yX7_leastBit, RX7), (RX4, 48, yX7_digitCount, RX7), (RX1, 15, yX7_isWithin, RX7)]
def NX (U : State) : Prop := ∀ q ∈ nxl, va_Nw (.methodLinkNest q.1 q.2.1 q.2.2.1 q.2.2.2) U
theorem NX.warm {s U : State} (hW : s.WarmedH U.vm) (h : NX s) : NX U := fun q hq => va_Nw.warmM hW (h q hq)
theorem NX.same {u U : State} (e : u.vm = U.vm) (h : NX u) : NX U := fun q hq => va_Nw.same rfl e (h q hq)
/-! THE FRAME: a walk's state is data: cells ws, locals lv, place pc, stack st; a row for each instruction turns Wd at one state into Wd at the next. -/
def Cx (p : Program) (s : State) (m : MethodId) (args : Array Value) (meth : Method) (c : Code) (D : va_G) (tys : List (ClassId × FieldType)) (own : String) (cc : ByteArray) (nL : Nat) (Ts : List Cond) (rt : Option FieldType) : Prop :=
  p.tables.exec = Jvm.exec ∧ c.code = cc ∧ c.maxLocals = nL ∧ s.vm.findClass own = some m.cls ∧ (∀ w ∈ Ts, w.before args s = true) ∧ va_K D vwCl tys s ∧ meth.sig.returnType = rt ∧ meth.locks = false ∧ NX s
def Wd (p : Program) (l : Launch) (e : Env) (R : Room) (s : State) (m : MethodId) (args : Array Value) (below : List Frame) (meth : Method) (c : Code) (D : va_G) (w0 : va_W) (nL cs sl : Nat) (Q : State → Prop) (ws : va_W) (lv : List (Nat × Value)) (pc : Nat) (st : List Value) : Prop :=
  ∀ (H : Heap) (locs : List Loc) (ls : Array Slot), va_P D vwCl ws H → va_D (va_A w0 s.heap.size) ws → va_S (va_A w0 s.heap.size) s.heap H locs → lv_has ls nL lv → W p l e R s m args below meth c H locs cs sl Q (F0 m pc ls st)
theorem Met.ofWF {l : Launch} {y : MethodName} {ws ws' : List Cond} {rm : Room} {Pc : Array Value → State → Prop} {Qc : Array Value → State → Outcome → State → Prop} {mc ms : Nat} {free : Addr → Prop} {cc : ByteArray} {maxL : Nat} {ret : Option FieldType}
    (hy : plainFor y = true) (hw : ws = Cond.code y cc maxL ret :: ws')
    (body : ∀ p e s m args below meth c s₁, BodyLoose p l y (headSpec ws rm) cc maxL ret e s m args below meth c s₁ → c.maxLocals = maxL → Pc args s →
      W p l e (headSpec ws rm).room s m args below meth c s.heap [] 0 0 (MQ below Qc args s mc ms free) (entryFrame m args maxL)) : Met l y ws rm Pc Qc mc ms free := by
  refine MetFree.of_bodySF (code := cc) (maxLocals := maxL) (ret := ret) hy ?_ ?_
  · intro args s m h hn
    obtain ⟨meth, c, h1, h2, h3, h4, h5, h6, -, -⟩ := Cond.code_spec hn (atoms_spec (ws := ws) h _ (by rw [hw]; exact List.mem_cons_self))
    exact ⟨meth, c, h1, h2, h3, h4, h5, h6⟩
  · intro p e s m args below meth c s₁ B hml hP _
    have hh0 : s₁.heap = s.heap := by rw [B.state]; rfl
    obtain ⟨t, a1, o, b1, b2, b3⟩ := body p e s m args below meth c s₁ B hml hP s₁ hh0 (Stand.of_body B)
    exact ⟨t, o, a1, b1, b2, ⟨b3.1, b3.2⟩⟩
abbrev PreW (D : va_G) (tys : List (ClassId × FieldType)) (w : va_W) (sz : Nat) : State → Prop := fun U => U.heap.size = sz ∧ va_P D vwCl w U.heap ∧ va_K D vwCl tys U ∧ va_D (fun _ => True) w ∧ NX U
abbrev PostW (D : va_G) (tys : List (ClassId × FieldType)) (w w' : va_W) (sz : Nat) : Unit → State → Prop := fun _ t => va_P D vwCl w' t.heap ∧ va_K D vwCl tys t ∧ va_D (va_A w sz) w'
/-- a contract: from the cells w, the method ends as Qc says -/
def CG (l : Launch) (D : va_G) (tys : List (ClassId × FieldType)) (y : MethodName) (wy : List Cond) (rm : Room) (av : List Value) (w : va_W) (Qc : Nat → Array Value → State → Outcome → State → Prop) : Prop :=
  ∀ sz : Nat, Met l y wy rm (va_Pc av (PreW D tys w sz)) (Qc sz) 0 0 (va_A w sz)
def QcI (D : va_G) (tys : List (ClassId × FieldType)) (w w' : va_W) (r : Int32) (sz : Nat) : Array Value → State → Outcome → State → Prop := va_Qi (fun (r' : Int32) (_ : Unit) => r' = r) (PostW D tys w w' sz) (va_A w sz)
def QcL (D : va_G) (tys : List (ClassId × FieldType)) (w w' : va_W) (r : Int64) (sz : Nat) : Array Value → State → Outcome → State → Prop := va_Ql (fun (r' : Int64) (_ : Unit) => r' = r) (PostW D tys w w' sz) (va_A w sz)
def QcV (D : va_G) (tys : List (ClassId × FieldType)) (w w' : va_W) (sz : Nat) : Array Value → State → Outcome → State → Prop := va_Qv (fun (_ : Unit) => True) (PostW D tys w w' sz) (va_A w sz)
def QcR (D : va_G) (tys : List (ClassId × FieldType)) (w w' : va_W) (r : Nat) (sz : Nat) : Array Value → State → Outcome → State → Prop := va_Qr (fun (_ : Unit) => True) (fun _ a t => a = r ∧ va_P D vwCl w' t.heap ∧ va_K D vwCl tys t ∧ va_D (va_A w sz) w') (va_A w sz)
def CI (l : Launch) (D : va_G) (tys : List (ClassId × FieldType)) (y : MethodName) (wy : List Cond) (rm : Room) (av : List Value) (w : va_W) (r : Int32) (w' : va_W) : Prop := CG l D tys y wy rm av w (QcI D tys w w' r)
def CL (l : Launch) (D : va_G) (tys : List (ClassId × FieldType)) (y : MethodName) (wy : List Cond) (rm : Room) (av : List Value) (w : va_W) (r : Int64) (w' : va_W) : Prop := CG l D tys y wy rm av w (QcL D tys w w' r)
def CV (l : Launch) (D : va_G) (tys : List (ClassId × FieldType)) (y : MethodName) (wy : List Cond) (rm : Room) (av : List Value) (w w' : va_W) : Prop := CG l D tys y wy rm av w (QcV D tys w w')
def CR (l : Launch) (D : va_G) (tys : List (ClassId × FieldType)) (y : MethodName) (wy : List Cond) (rm : Room) (av : List Value) (w : va_W) (r : Nat) (w' : va_W) : Prop := CG l D tys y wy rm av w (QcR D tys w w' r)
theorem PreW.blind {D : va_G} {tys : List (ClassId × FieldType)} {w : va_W} {sz : Nat} {av : List Value} : FrameBlind (va_Pc av (PreW D tys w sz)) := fun a U g mk q => by
  obtain ⟨q0, q1, qP, qK, qD, qN⟩ := q
  exact ⟨q0, q1, qP, va_K.moved (u := U) (U := U.calling g mk a) (Vm.Alike.refl U.vm) qK, qD, NX.same rfl qN⟩
theorem CG.intro {l : Launch} {D : va_G} {tys : List (ClassId × FieldType)} {y : MethodName} {wy wy' : List Cond} {rm : Room} {av : List Value} {w : va_W} {Qc : Nat → Array Value → State → Outcome → State → Prop} {own : String} {cc : ByteArray} {nL : Nat} {rt : Option FieldType}
    (hy : plainFor y = true) (ho : y.cls = own) (hw : wy = Cond.code y cc nL rt :: wy') (hav : (lg_sl av).length ≤ nL)
    (body : ∀ (p : Program) (e : Env) (s : State) (m : MethodId) (args : Array Value) (below : List Frame) (meth : Method) (c : Code), Cx p s m args meth c D tys own cc nL wy rt → Wd p l e rm s m args below meth c D w nL 0 0 (MQ below (Qc s.heap.size) args s 0 0 (va_A w s.heap.size)) w (lv_args 0 av) 0 []) : CG l D tys y wy rm av w Qc := by
  intro sz
  refine Met.ofWF (cc := cc) (maxL := nL) (ret := rt) hy hw ?_
  intro p e s m args below meth c s₁ B hml hv
  obtain ⟨rfl, hsz, hP, hK, hD0, hN⟩ := hv
  subst hsz
  subst ho
  have hl := lv_entry av (n := nL) hav
  rw [lg_entry_eq]
  exact body p e s m _ below meth c ⟨B.exec, B.bytes, hml, findClass_of_methodNamed B.named, atoms_spec (ws := wy) B.pre, hK, B.returns, B.notSynchronized, hN⟩ s.heap [] _ hP (hD0.self (sz := s.heap.size)) va_S.rf hl
/-! cells put back in their places -/
def cputs : va_W → List Nat → va_W → va_W
  | ws, [], _ => ws
  | ws, _ :: _, [] => ws
  | ws, i :: is, x :: xs => (cputs ws is xs).set i x
theorem cputs_get : ∀ (is : List Nat) (xs ws : va_W) (k : Nat) (q : Nat × va_E), is.length = xs.length → (cputs ws is xs)[k]? = some q → (∃ j : Nat, is[j]? = some k ∧ xs[j]? = some q) ∨ (k ∉ is ∧ ws[k]? = some q)
  | [], _, ws, k, q, _, h => Or.inr ⟨by simp, h⟩
  | _ :: _, [], ws, k, q, hl, h => by simp at hl
  | i :: is, x :: xs, ws, k, q, hl, h => by
    have hl' : is.length = xs.length := by simpa using hl
    have h' : ((cputs ws is xs).set i x)[k]? = some q := h
    by_cases e : i = k
    · subst e
      have hlt : i < (cputs ws is xs).length := by
        have := (List.getElem?_eq_some_iff.mp h').1
        simpa using this
      rw [List.getElem?_set_self hlt] at h'
      exact Or.inl ⟨0, rfl, h'⟩
    · rw [List.getElem?_set_ne e] at h'
      rcases cputs_get is xs ws k q hl' h' with ⟨j, a, b⟩ | ⟨a, b⟩
      · exact Or.inl ⟨j + 1, a, b⟩
      · exact Or.inr ⟨fun z => by
          rcases List.mem_cons.mp z with z | z
          · exact e z.symm
          · exact a z, b⟩
theorem at_map {α : Type} {is : List Nat} {ws wc : List α} (hC : is.map (fun i => ws[i]?) = wc.map some) (j : Nat) (q : α) (h : wc[j]? = some q) : ∃ i, is[j]? = some i ∧ ws[i]? = some q := by
  have h1 : (is.map (fun i => ws[i]?))[j]? = some (some q) := by rw [hC, List.getElem?_map, h]; rfl
  rw [List.getElem?_map] at h1
  cases hi : is[j]? with
  | none => rw [hi] at h1; cases h1
  | some i => rw [hi] at h1; exact ⟨i, rfl, Option.some.inj h1⟩
theorem at_addr {w w' : va_W} (h : w'.map Prod.fst = w.map Prod.fst) (j : Nat) (q : Nat × va_E) (hq : w'[j]? = some q) : ∃ q0, w[j]? = some q0 ∧ q0.1 = q.1 := by
  have h1 : (w'.map Prod.fst)[j]? = some q.1 := by rw [List.getElem?_map, hq]; rfl
  rw [h, List.getElem?_map] at h1
  cases hi : w[j]? with
  | none => rw [hi] at h1; cases h1
  | some q0 => rw [hi] at h1; exact ⟨q0, rfl, Option.some.inj h1⟩
theorem cputs_join {A0 : Nat → Prop} {D : va_G} {ws wc wc' : va_W} {H H1 : Heap} (hP : va_P D vwCl ws H) (hD : va_D A0 ws) (isC : List Nat) (hC : isC.map (fun i => ws[i]?) = wc.map some) (ha : wc'.map Prod.fst = wc.map Prod.fst)
    (hk : ∀ q : Nat, q < H.size → ¬ va_A wc H.size q → H1[q]? = H[q]?) (hP1 : va_P D vwCl wc' H1) : va_P D vwCl (cputs ws isC wc') H1 ∧ va_D A0 (cputs ws isC wc') := by
  have hlen : isC.length = wc'.length := by
    have h1 := congrArg List.length hC
    have h2 := congrArg List.length ha
    simp at h1 h2
    omega
  have adr : ∀ (k : Nat) (q : Nat × va_E), (cputs ws isC wc')[k]? = some q → ∃ q0, ws[k]? = some q0 ∧ q0.1 = q.1 := by
    intro k q hq
    rcases cputs_get isC wc' ws k q hlen hq with ⟨j, h1, h2⟩ | ⟨-, h⟩
    · obtain ⟨q0, h3, h4⟩ := at_addr ha j q h2
      obtain ⟨i, h5, h6⟩ := at_map hC j q0 h3
      rw [h1] at h5
      cases h5
      exact ⟨q0, h6, h4⟩
    · exact ⟨q, h, rfl⟩
  refine ⟨fun k q hq => ?_, fun i j x y hx hy hxy => ?_, fun k q hq => ?_⟩
  · rcases cputs_get isC wc' ws k q hlen hq with ⟨j, h1, h2⟩ | ⟨hn, h⟩
    · exact hP1 j q h2
    · refine (hP k q h).kept (hk q.1 (hP k q h).lt ?_)
      rintro (⟨j, e, h3⟩ | h3)
      · obtain ⟨i, h4, h5⟩ := at_map hC j (q.1, e) h3
        have hki := hD.1 k i q (q.1, e) h h5 rfl
        subst hki
        exact hn (List.mem_of_getElem? h4)
      · exact absurd (hP k q h).lt (Nat.not_lt.mpr h3)
  · obtain ⟨x0, a1, a2⟩ := adr i x hx
    obtain ⟨y0, b1, b2⟩ := adr j y hy
    exact hD.1 i j x0 y0 a1 b1 (a2.trans (hxy.trans b2.symm))
  · obtain ⟨q0, a1, a2⟩ := adr k q hq
    rw [← a2]
    exact hD.2 k q0 a1
/-! guards of the pure functions -/
theorem gd_n {α : Type} {c : Prop} [Decidable c] {k : Option α} {r : α} (h : (if c then none else k) = some r) : ¬ c ∧ k = some r := by
  by_cases hc : c
  · rw [if_pos hc] at h; cases h
  · rw [if_neg hc] at h; exact ⟨hc, h⟩
theorem gd_p {α : Type} {c : Prop} [Decidable c] {k : Option α} {r : α} (h : (if c then k else none) = some r) : c ∧ k = some r := by
  by_cases hc : c
  · rw [if_pos hc] at h; exact ⟨hc, h⟩
  · rw [if_neg hc] at h; cases h
theorem gd_b {α β : Type} {o : Option α} {f : α → Option β} {r : β} (h : o.bind f = some r) : ∃ a, o = some a ∧ f a = some r := Option.bind_eq_some_iff.mp h
theorem gd_t {α : Type} {c : Prop} [Decidable c] {a b : α} {r : α} (hc : c) (h : (if c then a else b) = r) : a = r := by rw [if_pos hc] at h; exact h
theorem gd_f {α : Type} {c : Prop} [Decidable c] {a b : α} {r : α} (hc : ¬ c) (h : (if c then a else b) = r) : b = r := by rw [if_neg hc] at h; exact h
section RW
variable {p : Program} {l : Launch} {e : Env} {R : Room} {s : State} {m : MethodId} {args : Array Value} {below : List Frame} {meth : Method} {c : Code} {D : va_G} {tys : List (ClassId × FieldType)} {own : String} {cc : ByteArray} {nL : Nat} {Ts : List Cond} {rt : Option FieldType} {w0 ws : va_W} {cs sl : Nat} {Q : State → Prop} {lv : List (Nat × Value)} {pc q : Nat} {st : List Value}

theorem r_iconst (C : Cx p s m args meth c D tys own cc nL Ts rt) {n : Int} {v : Int32} (hdg : decode cc pc = .ok (.iconst n, 1)) (hv : Int32.ofInt n = v) (hq : pc + 1 = q) (k : Wd p l e R s m args below meth c D w0 nL cs sl Q ws lv q (.int v :: st)) : Wd p l e R s m args below meth c D w0 nL cs sl Q ws lv pc st := by
  subst hq
  exact fun H locs ls hP hD hS hl => lv_iconst C.1 C.2.1 hdg hv (k H locs ls hP hD hS hl)

theorem r_bipush (C : Cx p s m args meth c D tys own cc nL Ts rt) {n : Int} {v : Int32} (hdg : decode cc pc = .ok (.bipush n, 2)) (hv : (Int8.ofInt n).toInt32 = v) (hq : pc + 2 = q) (k : Wd p l e R s m args below meth c D w0 nL cs sl Q ws lv q (.int v :: st)) : Wd p l e R s m args below meth c D w0 nL cs sl Q ws lv pc st := by
  subst hq
  exact fun H locs ls hP hD hS hl => lv_bipush C.1 C.2.1 hdg hv (k H locs ls hP hD hS hl)

theorem r_sipush (C : Cx p s m args meth c D tys own cc nL Ts rt) {n : Int} {v : Int32} (hdg : decode cc pc = .ok (.sipush n, 3)) (hv : (Int16.ofInt n).toInt32 = v) (hq : pc + 3 = q) (k : Wd p l e R s m args below meth c D w0 nL cs sl Q ws lv q (.int v :: st)) : Wd p l e R s m args below meth c D w0 nL cs sl Q ws lv pc st := by
  subst hq
  exact fun H locs ls hP hD hS hl => lv_sipush C.1 C.2.1 hdg hv (k H locs ls hP hD hS hl)

theorem r_lconst (C : Cx p s m args meth c D tys own cc nL Ts rt) {n : Fin 2} {v : Int64} (hdg : decode cc pc = .ok (.lconst n, 1)) (hv : Int64.ofNat (n : Nat) = v) (hq : pc + 1 = q) (k : Wd p l e R s m args below meth c D w0 nL cs sl Q ws lv q (.long v :: st)) : Wd p l e R s m args below meth c D w0 nL cs sl Q ws lv pc st := by
  subst hq
  exact fun H locs ls hP hD hS hl => lv_lconst C.1 C.2.1 hdg hv (k H locs ls hP hD hS hl)

theorem r_ldc (C : Cx p s m args meth c D tys own cc nL Ts rt) {index : Nat} {v : Int32} (hdg : decode cc pc = .ok (.ldc index, 2)) (hw : Jvm.Cond.constant own index v ∈ Ts) (hq : pc + 2 = q) (k : Wd p l e R s m args below meth c D w0 nL cs sl Q ws lv q (.int v :: st)) : Wd p l e R s m args below meth c D w0 nL cs sl Q ws lv pc st := by
  subst hq
  exact fun H locs ls hP hD hS hl => lv_ldc C.1 C.2.1 C.2.2.2.1 (C.2.2.2.2.1 _ hw) hdg (k H locs ls hP hD hS hl)

theorem r_ldcw (C : Cx p s m args meth c D tys own cc nL Ts rt) {index : Nat} {v : Int32} (hdg : decode cc pc = .ok (.ldc_w index, 3)) (hw : Jvm.Cond.constant own index v ∈ Ts) (hq : pc + 3 = q) (k : Wd p l e R s m args below meth c D w0 nL cs sl Q ws lv q (.int v :: st)) : Wd p l e R s m args below meth c D w0 nL cs sl Q ws lv pc st := by
  subst hq
  exact fun H locs ls hP hD hS hl => lv_ldcw C.1 C.2.1 C.2.2.2.1 (C.2.2.2.2.1 _ hw) hdg (k H locs ls hP hD hS hl)

theorem r_ldc2 (C : Cx p s m args meth c D tys own cc nL Ts rt) {index : Nat} {v : Int64} (hdg : decode cc pc = .ok (.ldc2_w index, 3)) (hw : Jvm.Cond.constantLong own index v ∈ Ts) (hq : pc + 3 = q) (k : Wd p l e R s m args below meth c D w0 nL cs sl Q ws lv q (.long v :: st)) : Wd p l e R s m args below meth c D w0 nL cs sl Q ws lv pc st := by
  subst hq
  exact fun H locs ls hP hD hS hl => lv_ldc2 C.1 C.2.1 C.2.2.2.1 (C.2.2.2.2.1 _ hw) hdg (k H locs ls hP hD hS hl)

theorem r_iload_n (C : Cx p s m args meth c D tys own cc nL Ts rt) {k4 : Fin 4} {i : Nat} {x : Int32} (hdg : decode cc pc = .ok (.iload_n k4, 1)) (hi : (k4 : Nat) = i) (kk : Nat) (hk : lv[kk]? = some (i, .int x)) (hq : pc + 1 = q) (k : Wd p l e R s m args below meth c D w0 nL cs sl Q ws lv q (.int x :: st)) : Wd p l e R s m args below meth c D w0 nL cs sl Q ws lv pc st := by
  subst hq
  exact fun H locs ls hP hD hS hl => lv_iload_n C.1 C.2.1 hdg hi (lv_at hl kk hk) (k H locs ls hP hD hS hl)

theorem r_iload (C : Cx p s m args meth c D tys own cc nL Ts rt) {i : Nat} {x : Int32} (hdg : decode cc pc = .ok (.iload i, 2)) (kk : Nat) (hk : lv[kk]? = some (i, .int x)) (hq : pc + 2 = q) (k : Wd p l e R s m args below meth c D w0 nL cs sl Q ws lv q (.int x :: st)) : Wd p l e R s m args below meth c D w0 nL cs sl Q ws lv pc st := by
  subst hq
  exact fun H locs ls hP hD hS hl => lv_iload C.1 C.2.1 hdg (lv_at hl kk hk) (k H locs ls hP hD hS hl)

theorem r_istore_n (C : Cx p s m args meth c D tys own cc nL Ts rt) {k4 : Fin 4} {i : Nat} {x : Int32} {lv' : List (Nat × Value)} (hdg : decode cc pc = .ok (.istore_n k4, 1)) (hi : (k4 : Nat) = i) (hn : i < nL) (hlv : (i, Value.int x) :: lv.filter (fun q => !(q.1 == i) && !(q.1 + 1 == i && q.2.category == 2)) = lv') (hq : pc + 1 = q) (k : Wd p l e R s m args below meth c D w0 nL cs sl Q ws lv' q st) : Wd p l e R s m args below meth c D w0 nL cs sl Q ws lv pc (.int x :: st) := by
  subst hq
  exact fun H locs ls hP hD hS hl => lv_istore_n C.1 C.2.1 hdg hi hl hn hlv (fun ls' hl' => k H locs ls' hP hD hS hl')

theorem r_istore (C : Cx p s m args meth c D tys own cc nL Ts rt) {i : Nat} {x : Int32} {lv' : List (Nat × Value)} (hdg : decode cc pc = .ok (.istore i, 2)) (hn : i < nL) (hlv : (i, Value.int x) :: lv.filter (fun q => !(q.1 == i) && !(q.1 + 1 == i && q.2.category == 2)) = lv') (hq : pc + 2 = q) (k : Wd p l e R s m args below meth c D w0 nL cs sl Q ws lv' q st) : Wd p l e R s m args below meth c D w0 nL cs sl Q ws lv pc (.int x :: st) := by
  subst hq
  exact fun H locs ls hP hD hS hl => lv_istore C.1 C.2.1 hdg hl hn hlv (fun ls' hl' => k H locs ls' hP hD hS hl')

theorem r_lload_n (C : Cx p s m args meth c D tys own cc nL Ts rt) {k4 : Fin 4} {i : Nat} {x : Int64} (hdg : decode cc pc = .ok (.lload_n k4, 1)) (hi : (k4 : Nat) = i) (kk : Nat) (hk : lv[kk]? = some (i, .long x)) (hq : pc + 1 = q) (k : Wd p l e R s m args below meth c D w0 nL cs sl Q ws lv q (.long x :: st)) : Wd p l e R s m args below meth c D w0 nL cs sl Q ws lv pc st := by
  subst hq
  exact fun H locs ls hP hD hS hl => lv_lload_n C.1 C.2.1 hdg hi (lv_at hl kk hk) (k H locs ls hP hD hS hl)

theorem r_lload (C : Cx p s m args meth c D tys own cc nL Ts rt) {i : Nat} {x : Int64} (hdg : decode cc pc = .ok (.lload i, 2)) (kk : Nat) (hk : lv[kk]? = some (i, .long x)) (hq : pc + 2 = q) (k : Wd p l e R s m args below meth c D w0 nL cs sl Q ws lv q (.long x :: st)) : Wd p l e R s m args below meth c D w0 nL cs sl Q ws lv pc st := by
  subst hq
  exact fun H locs ls hP hD hS hl => lv_lload C.1 C.2.1 hdg (lv_at hl kk hk) (k H locs ls hP hD hS hl)

theorem r_lstore_n (C : Cx p s m args meth c D tys own cc nL Ts rt) {k4 : Fin 4} {i : Nat} {x : Int64} {lv' : List (Nat × Value)} (hdg : decode cc pc = .ok (.lstore_n k4, 1)) (hi : (k4 : Nat) = i) (hn : i + 1 < nL) (hlv : (i, Value.long x) :: lv.filter (fun q => !(q.1 == i) && (!(q.1 == i + 1) && !(q.1 + 1 == i && q.2.category == 2))) = lv') (hq : pc + 1 = q) (k : Wd p l e R s m args below meth c D w0 nL cs sl Q ws lv' q st) : Wd p l e R s m args below meth c D w0 nL cs sl Q ws lv pc (.long x :: st) := by
  subst hq
  exact fun H locs ls hP hD hS hl => lv_lstore_n C.1 C.2.1 hdg hi hl hn hlv (fun ls' hl' => k H locs ls' hP hD hS hl')

theorem r_lstore (C : Cx p s m args meth c D tys own cc nL Ts rt) {i : Nat} {x : Int64} {lv' : List (Nat × Value)} (hdg : decode cc pc = .ok (.lstore i, 2)) (hn : i + 1 < nL) (hlv : (i, Value.long x) :: lv.filter (fun q => !(q.1 == i) && (!(q.1 == i + 1) && !(q.1 + 1 == i && q.2.category == 2))) = lv') (hq : pc + 2 = q) (k : Wd p l e R s m args below meth c D w0 nL cs sl Q ws lv' q st) : Wd p l e R s m args below meth c D w0 nL cs sl Q ws lv pc (.long x :: st) := by
  subst hq
  exact fun H locs ls hP hD hS hl => lv_lstore C.1 C.2.1 hdg hl hn hlv (fun ls' hl' => k H locs ls' hP hD hS hl')

theorem r_aload_n (C : Cx p s m args meth c D tys own cc nL Ts rt) {k4 : Fin 4} {i : Nat} {x : Nat} (hdg : decode cc pc = .ok (.aload_n k4, 1)) (hi : (k4 : Nat) = i) (kk : Nat) (hk : lv[kk]? = some (i, .ref x)) (hq : pc + 1 = q) (k : Wd p l e R s m args below meth c D w0 nL cs sl Q ws lv q (.ref x :: st)) : Wd p l e R s m args below meth c D w0 nL cs sl Q ws lv pc st := by
  subst hq
  exact fun H locs ls hP hD hS hl => lv_aload_n C.1 C.2.1 hdg hi (lv_at hl kk hk) (k H locs ls hP hD hS hl)

theorem r_aload (C : Cx p s m args meth c D tys own cc nL Ts rt) {i : Nat} {x : Nat} (hdg : decode cc pc = .ok (.aload i, 2)) (kk : Nat) (hk : lv[kk]? = some (i, .ref x)) (hq : pc + 2 = q) (k : Wd p l e R s m args below meth c D w0 nL cs sl Q ws lv q (.ref x :: st)) : Wd p l e R s m args below meth c D w0 nL cs sl Q ws lv pc st := by
  subst hq
  exact fun H locs ls hP hD hS hl => lv_aload C.1 C.2.1 hdg (lv_at hl kk hk) (k H locs ls hP hD hS hl)

theorem r_astore_n (C : Cx p s m args meth c D tys own cc nL Ts rt) {k4 : Fin 4} {i : Nat} {x : Nat} {lv' : List (Nat × Value)} (hdg : decode cc pc = .ok (.astore_n k4, 1)) (hi : (k4 : Nat) = i) (hn : i < nL) (hlv : (i, Value.ref x) :: lv.filter (fun q => !(q.1 == i) && !(q.1 + 1 == i && q.2.category == 2)) = lv') (hq : pc + 1 = q) (k : Wd p l e R s m args below meth c D w0 nL cs sl Q ws lv' q st) : Wd p l e R s m args below meth c D w0 nL cs sl Q ws lv pc (.ref x :: st) := by
  subst hq
  exact fun H locs ls hP hD hS hl => lv_astore_n C.1 C.2.1 hdg hi hl hn hlv (fun ls' hl' => k H locs ls' hP hD hS hl')

theorem r_astore (C : Cx p s m args meth c D tys own cc nL Ts rt) {i : Nat} {x : Nat} {lv' : List (Nat × Value)} (hdg : decode cc pc = .ok (.astore i, 2)) (hn : i < nL) (hlv : (i, Value.ref x) :: lv.filter (fun q => !(q.1 == i) && !(q.1 + 1 == i && q.2.category == 2)) = lv') (hq : pc + 2 = q) (k : Wd p l e R s m args below meth c D w0 nL cs sl Q ws lv' q st) : Wd p l e R s m args below meth c D w0 nL cs sl Q ws lv pc (.ref x :: st) := by
  subst hq
  exact fun H locs ls hP hD hS hl => lv_astore C.1 C.2.1 hdg hl hn hlv (fun ls' hl' => k H locs ls' hP hD hS hl')

theorem r_iinc (C : Cx p s m args meth c D tys own cc nL Ts rt) {i : Nat} {n : Int} {x v : Int32} {lv' : List (Nat × Value)} (hdg : decode cc pc = .ok (.iinc i n, 3)) (kk : Nat) (hk : lv[kk]? = some (i, .int x)) (hv : x + Int32.ofInt n = v) (hn : i < nL) (hlv : (i, Value.int v) :: lv.filter (fun q => !(q.1 == i) && !(q.1 + 1 == i && q.2.category == 2)) = lv') (hq : pc + 3 = q) (k : Wd p l e R s m args below meth c D w0 nL cs sl Q ws lv' q st) : Wd p l e R s m args below meth c D w0 nL cs sl Q ws lv pc st := by
  subst hq
  exact fun H locs ls hP hD hS hl => lv_iinc C.1 C.2.1 hdg hl hk hv hn hlv (fun ls' hl' => k H locs ls' hP hD hS hl')

theorem r_iadd (C : Cx p s m args meth c D tys own cc nL Ts rt) {x y : Int32} (hdg : decode cc pc = .ok (.iadd, 1)) (hq : pc + 1 = q) (k : Wd p l e R s m args below meth c D w0 nL cs sl Q ws lv q (.int (x + y) :: st)) : Wd p l e R s m args below meth c D w0 nL cs sl Q ws lv pc (.int y :: .int x :: st) := by
  subst hq
  exact fun H locs ls hP hD hS hl => lv_iadd C.1 C.2.1 hdg (k H locs ls hP hD hS hl)

theorem r_isub (C : Cx p s m args meth c D tys own cc nL Ts rt) {x y : Int32} (hdg : decode cc pc = .ok (.isub, 1)) (hq : pc + 1 = q) (k : Wd p l e R s m args below meth c D w0 nL cs sl Q ws lv q (.int (x - y) :: st)) : Wd p l e R s m args below meth c D w0 nL cs sl Q ws lv pc (.int y :: .int x :: st) := by
  subst hq
  exact fun H locs ls hP hD hS hl => lv_isub C.1 C.2.1 hdg (k H locs ls hP hD hS hl)

theorem r_imul (C : Cx p s m args meth c D tys own cc nL Ts rt) {x y : Int32} (hdg : decode cc pc = .ok (.imul, 1)) (hq : pc + 1 = q) (k : Wd p l e R s m args below meth c D w0 nL cs sl Q ws lv q (.int (x * y) :: st)) : Wd p l e R s m args below meth c D w0 nL cs sl Q ws lv pc (.int y :: .int x :: st) := by
  subst hq
  exact fun H locs ls hP hD hS hl => lv_imul C.1 C.2.1 hdg (k H locs ls hP hD hS hl)

theorem r_iand (C : Cx p s m args meth c D tys own cc nL Ts rt) {x y : Int32} (hdg : decode cc pc = .ok (.iand, 1)) (hq : pc + 1 = q) (k : Wd p l e R s m args below meth c D w0 nL cs sl Q ws lv q (.int (x &&& y) :: st)) : Wd p l e R s m args below meth c D w0 nL cs sl Q ws lv pc (.int y :: .int x :: st) := by
  subst hq
  exact fun H locs ls hP hD hS hl => lv_iand C.1 C.2.1 hdg (k H locs ls hP hD hS hl)

theorem r_ior (C : Cx p s m args meth c D tys own cc nL Ts rt) {x y : Int32} (hdg : decode cc pc = .ok (.ior, 1)) (hq : pc + 1 = q) (k : Wd p l e R s m args below meth c D w0 nL cs sl Q ws lv q (.int (x ||| y) :: st)) : Wd p l e R s m args below meth c D w0 nL cs sl Q ws lv pc (.int y :: .int x :: st) := by
  subst hq
  exact fun H locs ls hP hD hS hl => lv_ior C.1 C.2.1 hdg (k H locs ls hP hD hS hl)

theorem r_ixor (C : Cx p s m args meth c D tys own cc nL Ts rt) {x y : Int32} (hdg : decode cc pc = .ok (.ixor, 1)) (hq : pc + 1 = q) (k : Wd p l e R s m args below meth c D w0 nL cs sl Q ws lv q (.int (x ^^^ y) :: st)) : Wd p l e R s m args below meth c D w0 nL cs sl Q ws lv pc (.int y :: .int x :: st) := by
  subst hq
  exact fun H locs ls hP hD hS hl => lv_ixor C.1 C.2.1 hdg (k H locs ls hP hD hS hl)

theorem r_ishl (C : Cx p s m args meth c D tys own cc nL Ts rt) {x y : Int32} (hdg : decode cc pc = .ok (.ishl, 1)) (hq : pc + 1 = q) (k : Wd p l e R s m args below meth c D w0 nL cs sl Q ws lv q (.int (x <<< (y &&& 31)) :: st)) : Wd p l e R s m args below meth c D w0 nL cs sl Q ws lv pc (.int y :: .int x :: st) := by
  subst hq
  exact fun H locs ls hP hD hS hl => lv_ishl C.1 C.2.1 hdg (k H locs ls hP hD hS hl)

theorem r_ishr (C : Cx p s m args meth c D tys own cc nL Ts rt) {x y : Int32} (hdg : decode cc pc = .ok (.ishr, 1)) (hq : pc + 1 = q) (k : Wd p l e R s m args below meth c D w0 nL cs sl Q ws lv q (.int (x >>> (y &&& 31)) :: st)) : Wd p l e R s m args below meth c D w0 nL cs sl Q ws lv pc (.int y :: .int x :: st) := by
  subst hq
  exact fun H locs ls hP hD hS hl => lv_ishr C.1 C.2.1 hdg (k H locs ls hP hD hS hl)

theorem r_iushr (C : Cx p s m args meth c D tys own cc nL Ts rt) {x y : Int32} (hdg : decode cc pc = .ok (.iushr, 1)) (hq : pc + 1 = q) (k : Wd p l e R s m args below meth c D w0 nL cs sl Q ws lv q (.int ((x.toUInt32 >>> (y.toUInt32 &&& Int32.toUInt32 31)).toInt32) :: st)) : Wd p l e R s m args below meth c D w0 nL cs sl Q ws lv pc (.int y :: .int x :: st) := by
  subst hq
  exact fun H locs ls hP hD hS hl => lv_iushr C.1 C.2.1 hdg rfl (k H locs ls hP hD hS hl)

theorem r_idiv (C : Cx p s m args meth c D tys own cc nL Ts rt) {x y : Int32} (hdg : decode cc pc = .ok (.idiv, 1)) (hne : ¬ y = 0) (hq : pc + 1 = q) (k : Wd p l e R s m args below meth c D w0 nL cs sl Q ws lv q (.int (x / y) :: st)) : Wd p l e R s m args below meth c D w0 nL cs sl Q ws lv pc (.int y :: .int x :: st) := by
  subst hq
  exact fun H locs ls hP hD hS hl => lv_idiv C.1 C.2.1 hdg hne (k H locs ls hP hD hS hl)

theorem r_irem (C : Cx p s m args meth c D tys own cc nL Ts rt) {x y : Int32} (hdg : decode cc pc = .ok (.irem, 1)) (hne : ¬ y = 0) (hq : pc + 1 = q) (k : Wd p l e R s m args below meth c D w0 nL cs sl Q ws lv q (.int (x - x / y * y) :: st)) : Wd p l e R s m args below meth c D w0 nL cs sl Q ws lv pc (.int y :: .int x :: st) := by
  subst hq
  exact fun H locs ls hP hD hS hl => lv_irem C.1 C.2.1 hdg hne (k H locs ls hP hD hS hl)

theorem r_ineg (C : Cx p s m args meth c D tys own cc nL Ts rt) {x : Int32} (hdg : decode cc pc = .ok (.ineg, 1)) (hq : pc + 1 = q) (k : Wd p l e R s m args below meth c D w0 nL cs sl Q ws lv q (.int (-x) :: st)) : Wd p l e R s m args below meth c D w0 nL cs sl Q ws lv pc (.int x :: st) := by
  subst hq
  exact fun H locs ls hP hD hS hl => lv_ineg C.1 C.2.1 hdg (k H locs ls hP hD hS hl)

theorem r_ladd (C : Cx p s m args meth c D tys own cc nL Ts rt) {x y : Int64} (hdg : decode cc pc = .ok (.ladd, 1)) (hq : pc + 1 = q) (k : Wd p l e R s m args below meth c D w0 nL cs sl Q ws lv q (.long (x + y) :: st)) : Wd p l e R s m args below meth c D w0 nL cs sl Q ws lv pc (.long y :: .long x :: st) := by
  subst hq
  exact fun H locs ls hP hD hS hl => lv_ladd C.1 C.2.1 hdg (k H locs ls hP hD hS hl)

theorem r_lmul (C : Cx p s m args meth c D tys own cc nL Ts rt) {x y : Int64} (hdg : decode cc pc = .ok (.lmul, 1)) (hq : pc + 1 = q) (k : Wd p l e R s m args below meth c D w0 nL cs sl Q ws lv q (.long (x * y) :: st)) : Wd p l e R s m args below meth c D w0 nL cs sl Q ws lv pc (.long y :: .long x :: st) := by
  subst hq
  exact fun H locs ls hP hD hS hl => lv_lmul C.1 C.2.1 hdg (k H locs ls hP hD hS hl)

theorem r_ldiv (C : Cx p s m args meth c D tys own cc nL Ts rt) {x y : Int64} (hdg : decode cc pc = .ok (.ldiv, 1)) (hne : ¬ y = 0) (hq : pc + 1 = q) (k : Wd p l e R s m args below meth c D w0 nL cs sl Q ws lv q (.long (x / y) :: st)) : Wd p l e R s m args below meth c D w0 nL cs sl Q ws lv pc (.long y :: .long x :: st) := by
  subst hq
  exact fun H locs ls hP hD hS hl => lv_ldiv C.1 C.2.1 hdg hne (k H locs ls hP hD hS hl)

theorem r_lrem (C : Cx p s m args meth c D tys own cc nL Ts rt) {x y : Int64} (hdg : decode cc pc = .ok (.lrem, 1)) (hne : ¬ y = 0) (hq : pc + 1 = q) (k : Wd p l e R s m args below meth c D w0 nL cs sl Q ws lv q (.long (x - x / y * y) :: st)) : Wd p l e R s m args below meth c D w0 nL cs sl Q ws lv pc (.long y :: .long x :: st) := by
  subst hq
  exact fun H locs ls hP hD hS hl => lv_lrem C.1 C.2.1 hdg hne (k H locs ls hP hD hS hl)

theorem r_i2l (C : Cx p s m args meth c D tys own cc nL Ts rt) {x : Int32} (hdg : decode cc pc = .ok (.i2l, 1)) (hq : pc + 1 = q) (k : Wd p l e R s m args below meth c D w0 nL cs sl Q ws lv q (.long x.toInt64 :: st)) : Wd p l e R s m args below meth c D w0 nL cs sl Q ws lv pc (.int x :: st) := by
  subst hq
  exact fun H locs ls hP hD hS hl => lv_i2l C.1 C.2.1 hdg rfl (k H locs ls hP hD hS hl)

theorem r_l2i (C : Cx p s m args meth c D tys own cc nL Ts rt) {x : Int64} (hdg : decode cc pc = .ok (.l2i, 1)) (hq : pc + 1 = q) (k : Wd p l e R s m args below meth c D w0 nL cs sl Q ws lv q (.int x.toInt32 :: st)) : Wd p l e R s m args below meth c D w0 nL cs sl Q ws lv pc (.long x :: st) := by
  subst hq
  exact fun H locs ls hP hD hS hl => lv_l2i C.1 C.2.1 hdg rfl (k H locs ls hP hD hS hl)

theorem r_lcmp (C : Cx p s m args meth c D tys own cc nL Ts rt) {x y : Int64} (hdg : decode cc pc = .ok (.lcmp, 1)) (hq : pc + 1 = q) (k : Wd p l e R s m args below meth c D w0 nL cs sl Q ws lv q (.int (lg_cmp x y) :: st)) : Wd p l e R s m args below meth c D w0 nL cs sl Q ws lv pc (.long y :: .long x :: st) := by
  subst hq
  exact fun H locs ls hP hD hS hl => W.lcmp C.1 C.2.1 hdg (k H locs ls hP hD hS hl)

theorem r_dup (C : Cx p s m args meth c D tys own cc nL Ts rt) {va : Value} (hdg : decode cc pc = .ok (.dup, 1)) (hva : va.category = 1) (hq : pc + 1 = q) (k : Wd p l e R s m args below meth c D w0 nL cs sl Q ws lv q (va :: va :: st)) : Wd p l e R s m args below meth c D w0 nL cs sl Q ws lv pc (va :: st) := by
  subst hq
  exact fun H locs ls hP hD hS hl => lv_dup C.1 C.2.1 hdg hva (k H locs ls hP hD hS hl)

theorem r_dup2 (C : Cx p s m args meth c D tys own cc nL Ts rt) {va vb : Value} (hdg : decode cc pc = .ok (.dup2, 1)) (hva : va.category = 1) (hvb : vb.category = 1) (hq : pc + 1 = q) (k : Wd p l e R s m args below meth c D w0 nL cs sl Q ws lv q (va :: vb :: va :: vb :: st)) : Wd p l e R s m args below meth c D w0 nL cs sl Q ws lv pc (va :: vb :: st) := by
  subst hq
  exact fun H locs ls hP hD hS hl => lv_dup2_11 C.1 C.2.1 hdg hva hvb (k H locs ls hP hD hS hl)

theorem r_icmp_eq (C : Cx p s m args meth c D tys own cc nL Ts rt) {x y : Int32} {off : Int} {tgt : Nat} (hdg : decode cc pc = .ok (.if_icmp .eq off, 3)) (ht : (pc : Int) + off = (tgt : Int)) (hq : pc + 3 = q) (kt : x = y → Wd p l e R s m args below meth c D w0 nL cs sl Q ws lv tgt st) (kf : ¬ (x = y) → Wd p l e R s m args below meth c D w0 nL cs sl Q ws lv q st) : Wd p l e R s m args below meth c D w0 nL cs sl Q ws lv pc (.int y :: .int x :: st) := by
  subst hq
  exact fun H locs ls hP hD hS hl => lv_icmp_eq C.1 C.2.1 hdg ht (fun h => kt h H locs ls hP hD hS hl) (fun h => kf h H locs ls hP hD hS hl)

theorem r_if_eq (C : Cx p s m args meth c D tys own cc nL Ts rt) {x y : Int32} {off : Int} {tgt : Nat} (hdg : decode cc pc = .ok (.ifCond .eq off, 3)) (ht : (pc : Int) + off = (tgt : Int)) (hq : pc + 3 = q) (kt : x = 0 → Wd p l e R s m args below meth c D w0 nL cs sl Q ws lv tgt st) (kf : ¬ (x = 0) → Wd p l e R s m args below meth c D w0 nL cs sl Q ws lv q st) : Wd p l e R s m args below meth c D w0 nL cs sl Q ws lv pc (.int x :: st) := by
  subst hq
  exact fun H locs ls hP hD hS hl => lv_if_eq C.1 C.2.1 hdg ht (fun h => kt h H locs ls hP hD hS hl) (fun h => kf h H locs ls hP hD hS hl)

theorem r_icmp_ne (C : Cx p s m args meth c D tys own cc nL Ts rt) {x y : Int32} {off : Int} {tgt : Nat} (hdg : decode cc pc = .ok (.if_icmp .ne off, 3)) (ht : (pc : Int) + off = (tgt : Int)) (hq : pc + 3 = q) (kt : ¬ x = y → Wd p l e R s m args below meth c D w0 nL cs sl Q ws lv tgt st) (kf : ¬ (¬ x = y) → Wd p l e R s m args below meth c D w0 nL cs sl Q ws lv q st) : Wd p l e R s m args below meth c D w0 nL cs sl Q ws lv pc (.int y :: .int x :: st) := by
  subst hq
  exact fun H locs ls hP hD hS hl => lv_icmp_ne C.1 C.2.1 hdg ht (fun h => kt h H locs ls hP hD hS hl) (fun h => kf h H locs ls hP hD hS hl)

theorem r_if_ne (C : Cx p s m args meth c D tys own cc nL Ts rt) {x y : Int32} {off : Int} {tgt : Nat} (hdg : decode cc pc = .ok (.ifCond .ne off, 3)) (ht : (pc : Int) + off = (tgt : Int)) (hq : pc + 3 = q) (kt : ¬ x = 0 → Wd p l e R s m args below meth c D w0 nL cs sl Q ws lv tgt st) (kf : ¬ (¬ x = 0) → Wd p l e R s m args below meth c D w0 nL cs sl Q ws lv q st) : Wd p l e R s m args below meth c D w0 nL cs sl Q ws lv pc (.int x :: st) := by
  subst hq
  exact fun H locs ls hP hD hS hl => lv_if_ne C.1 C.2.1 hdg ht (fun h => kt h H locs ls hP hD hS hl) (fun h => kf h H locs ls hP hD hS hl)

theorem r_icmp_lt (C : Cx p s m args meth c D tys own cc nL Ts rt) {x y : Int32} {off : Int} {tgt : Nat} (hdg : decode cc pc = .ok (.if_icmp .lt off, 3)) (ht : (pc : Int) + off = (tgt : Int)) (hq : pc + 3 = q) (kt : x < y → Wd p l e R s m args below meth c D w0 nL cs sl Q ws lv tgt st) (kf : ¬ (x < y) → Wd p l e R s m args below meth c D w0 nL cs sl Q ws lv q st) : Wd p l e R s m args below meth c D w0 nL cs sl Q ws lv pc (.int y :: .int x :: st) := by
  subst hq
  exact fun H locs ls hP hD hS hl => lv_icmp_lt C.1 C.2.1 hdg ht (fun h => kt h H locs ls hP hD hS hl) (fun h => kf h H locs ls hP hD hS hl)

theorem r_if_lt (C : Cx p s m args meth c D tys own cc nL Ts rt) {x y : Int32} {off : Int} {tgt : Nat} (hdg : decode cc pc = .ok (.ifCond .lt off, 3)) (ht : (pc : Int) + off = (tgt : Int)) (hq : pc + 3 = q) (kt : x < 0 → Wd p l e R s m args below meth c D w0 nL cs sl Q ws lv tgt st) (kf : ¬ (x < 0) → Wd p l e R s m args below meth c D w0 nL cs sl Q ws lv q st) : Wd p l e R s m args below meth c D w0 nL cs sl Q ws lv pc (.int x :: st) := by
  subst hq
  exact fun H locs ls hP hD hS hl => lv_if_lt C.1 C.2.1 hdg ht (fun h => kt h H locs ls hP hD hS hl) (fun h => kf h H locs ls hP hD hS hl)

theorem r_icmp_ge (C : Cx p s m args meth c D tys own cc nL Ts rt) {x y : Int32} {off : Int} {tgt : Nat} (hdg : decode cc pc = .ok (.if_icmp .ge off, 3)) (ht : (pc : Int) + off = (tgt : Int)) (hq : pc + 3 = q) (kt : y ≤ x → Wd p l e R s m args below meth c D w0 nL cs sl Q ws lv tgt st) (kf : ¬ (y ≤ x) → Wd p l e R s m args below meth c D w0 nL cs sl Q ws lv q st) : Wd p l e R s m args below meth c D w0 nL cs sl Q ws lv pc (.int y :: .int x :: st) := by
  subst hq
  exact fun H locs ls hP hD hS hl => lv_icmp_ge C.1 C.2.1 hdg ht (fun h => kt h H locs ls hP hD hS hl) (fun h => kf h H locs ls hP hD hS hl)

theorem r_if_ge (C : Cx p s m args meth c D tys own cc nL Ts rt) {x y : Int32} {off : Int} {tgt : Nat} (hdg : decode cc pc = .ok (.ifCond .ge off, 3)) (ht : (pc : Int) + off = (tgt : Int)) (hq : pc + 3 = q) (kt : 0 ≤ x → Wd p l e R s m args below meth c D w0 nL cs sl Q ws lv tgt st) (kf : ¬ (0 ≤ x) → Wd p l e R s m args below meth c D w0 nL cs sl Q ws lv q st) : Wd p l e R s m args below meth c D w0 nL cs sl Q ws lv pc (.int x :: st) := by
  subst hq
  exact fun H locs ls hP hD hS hl => lv_if_ge C.1 C.2.1 hdg ht (fun h => kt h H locs ls hP hD hS hl) (fun h => kf h H locs ls hP hD hS hl)

theorem r_icmp_gt (C : Cx p s m args meth c D tys own cc nL Ts rt) {x y : Int32} {off : Int} {tgt : Nat} (hdg : decode cc pc = .ok (.if_icmp .gt off, 3)) (ht : (pc : Int) + off = (tgt : Int)) (hq : pc + 3 = q) (kt : y < x → Wd p l e R s m args below meth c D w0 nL cs sl Q ws lv tgt st) (kf : ¬ (y < x) → Wd p l e R s m args below meth c D w0 nL cs sl Q ws lv q st) : Wd p l e R s m args below meth c D w0 nL cs sl Q ws lv pc (.int y :: .int x :: st) := by
  subst hq
  exact fun H locs ls hP hD hS hl => lv_icmp_gt C.1 C.2.1 hdg ht (fun h => kt h H locs ls hP hD hS hl) (fun h => kf h H locs ls hP hD hS hl)

theorem r_if_gt (C : Cx p s m args meth c D tys own cc nL Ts rt) {x y : Int32} {off : Int} {tgt : Nat} (hdg : decode cc pc = .ok (.ifCond .gt off, 3)) (ht : (pc : Int) + off = (tgt : Int)) (hq : pc + 3 = q) (kt : 0 < x → Wd p l e R s m args below meth c D w0 nL cs sl Q ws lv tgt st) (kf : ¬ (0 < x) → Wd p l e R s m args below meth c D w0 nL cs sl Q ws lv q st) : Wd p l e R s m args below meth c D w0 nL cs sl Q ws lv pc (.int x :: st) := by
  subst hq
  exact fun H locs ls hP hD hS hl => lv_if_gt C.1 C.2.1 hdg ht (fun h => kt h H locs ls hP hD hS hl) (fun h => kf h H locs ls hP hD hS hl)

theorem r_icmp_le (C : Cx p s m args meth c D tys own cc nL Ts rt) {x y : Int32} {off : Int} {tgt : Nat} (hdg : decode cc pc = .ok (.if_icmp .le off, 3)) (ht : (pc : Int) + off = (tgt : Int)) (hq : pc + 3 = q) (kt : x ≤ y → Wd p l e R s m args below meth c D w0 nL cs sl Q ws lv tgt st) (kf : ¬ (x ≤ y) → Wd p l e R s m args below meth c D w0 nL cs sl Q ws lv q st) : Wd p l e R s m args below meth c D w0 nL cs sl Q ws lv pc (.int y :: .int x :: st) := by
  subst hq
  exact fun H locs ls hP hD hS hl => lv_icmp_le C.1 C.2.1 hdg ht (fun h => kt h H locs ls hP hD hS hl) (fun h => kf h H locs ls hP hD hS hl)

theorem r_if_le (C : Cx p s m args meth c D tys own cc nL Ts rt) {x y : Int32} {off : Int} {tgt : Nat} (hdg : decode cc pc = .ok (.ifCond .le off, 3)) (ht : (pc : Int) + off = (tgt : Int)) (hq : pc + 3 = q) (kt : x ≤ 0 → Wd p l e R s m args below meth c D w0 nL cs sl Q ws lv tgt st) (kf : ¬ (x ≤ 0) → Wd p l e R s m args below meth c D w0 nL cs sl Q ws lv q st) : Wd p l e R s m args below meth c D w0 nL cs sl Q ws lv pc (.int x :: st) := by
  subst hq
  exact fun H locs ls hP hD hS hl => lv_if_le C.1 C.2.1 hdg ht (fun h => kt h H locs ls hP hD hS hl) (fun h => kf h H locs ls hP hD hS hl)

theorem r_goto (C : Cx p s m args meth c D tys own cc nL Ts rt) {off : Int} {tgt : Nat} (hdg : decode cc pc = .ok (.goto off, 3)) (ht : (pc : Int) + off = (tgt : Int)) (k : Wd p l e R s m args below meth c D w0 nL cs sl Q ws lv tgt st) : Wd p l e R s m args below meth c D w0 nL cs sl Q ws lv pc st := fun H locs ls hP hD hS hl => lv_goto C.1 C.2.1 hdg ht (k H locs ls hP hD hS hl)

theorem r_tabIn (C : Cx p s m args meth c D tys own cc nL Ts rt) {dflt lo hi : Int} {offs : Array Int} {len : Nat} {x v : Int32} {off : Int} {tgt : Nat} (hdg : decode cc pc = .ok (.tableswitch dflt lo hi offs, len)) (hx : x = v) (h1 : ¬ v.toInt < lo) (h2 : ¬ hi < v.toInt) (ho : offs[(v.toInt - lo).toNat]? = some off) (ht : (pc : Int) + off = (tgt : Int)) (k : Wd p l e R s m args below meth c D w0 nL cs sl Q ws lv tgt st) : Wd p l e R s m args below meth c D w0 nL cs sl Q ws lv pc (.int x :: st) := by
  subst hx
  exact fun H locs ls hP hD hS hl => lv_tableIn C.1 C.2.1 hdg h1 h2 ho ht (k H locs ls hP hD hS hl)

theorem r_tabOut (C : Cx p s m args meth c D tys own cc nL Ts rt) {dflt lo hi : Int} {offs : Array Int} {len : Nat} {x : Int32} {tgt : Nat} (hdg : decode cc pc = .ok (.tableswitch dflt lo hi offs, len)) (h : x.toInt < lo ∨ hi < x.toInt) (ht : (pc : Int) + dflt = (tgt : Int)) (k : Wd p l e R s m args below meth c D w0 nL cs sl Q ws lv tgt st) : Wd p l e R s m args below meth c D w0 nL cs sl Q ws lv pc (.int x :: st) := fun H locs ls hP hD hS hl => lv_tableOut C.1 C.2.1 hdg h ht (k H locs ls hP hD hS hl)

theorem r_look (C : Cx p s m args meth c D tys own cc nL Ts rt) {dflt : Int} {ps : Array (Int × Int)} {len : Nat} {x : Int32} {off : Int} {tgt : Nat} (hdg : decode cc pc = .ok (.lookupswitch dflt ps, len)) (hp : (ps.toList.zip (ps.toList.drop 1)).all (fun (a, next) => a.1 < next.1) = true) (ho : Op.lookupswitch.offset ps.toList dflt x.toInt = off) (ht : (pc : Int) + off = (tgt : Int)) (k : Wd p l e R s m args below meth c D w0 nL cs sl Q ws lv tgt st) : Wd p l e R s m args below meth c D w0 nL cs sl Q ws lv pc (.int x :: st) := fun H locs ls hP hD hS hl => lv_lookup C.1 C.2.1 hdg hp ho ht (k H locs ls hP hD hS hl)

theorem r_get (C : Cx p s m args meth c D tys own cc nL Ts rt) {C0 ref : String} {T : u_T} {N ci index a : Nat} {fs : List Value} {v : Value} (hdg : decode cc pc = .ok (.getfield index, 3)) (hin : ∀ w ∈ u_ws C0 T N, w ∈ Ts) (q0 : Nat) (he : ws[q0]? = some (a, .inr (ci, fs))) (hc : vwCl[ci]? = some (C0, T, N)) (kf : Nat) (hk : kf < N) (href : (T kf).1 = ref) (hlink : Cond.fieldLink own index ref (T kf).2.1 (T kf).2.2.1 ∈ Ts) (hv : fs[kf]? = some v) (hq : pc + 3 = q) (k : Wd p l e R s m args below meth c D w0 nL cs sl Q ws lv q (v :: st)) : Wd p l e R s m args below meth c D w0 nL cs sl Q ws lv pc (.ref a :: st) := by
  subst hq
  subst href
  exact fun H locs ls hP hD hS hl => va_get C.1 C.2.1 C.2.2.2.2.1 hin C.2.2.2.1 C.2.2.2.2.2.1 hP q0 he hc kf hk (C.2.2.2.2.1 _ hlink) (fun _ h => h) hv hdg (k H locs ls hP hD hS hl)

theorem r_put (C : Cx p s m args meth c D tys own cc nL Ts rt) {C0 ref : String} {T : u_T} {N ci index a : Nat} {fs : List Value} {v : Value} {ty : FieldType} {ws' : va_W} (hdg : decode cc pc = .ok (.putfield index, 3)) (hin : ∀ w ∈ u_ws C0 T N, w ∈ Ts) (ty0 : Nat → FieldType) (hty : ∀ k, k < N → parseFieldDescriptor (T k).2.2.1 = some (ty0 k)) (hnm : ∀ a, a < N → ∀ b, b < N → a ≠ b → (T a).2.1 ≠ (T b).2.1) (q0 : Nat) (he : ws[q0]? = some (a, .inr (ci, fs))) (hc : vwCl[ci]? = some (C0, T, N)) (kf : Nat) (hk : kf < N) (href : (T kf).1 = ref) (hlink : Cond.fieldLink own index ref (T kf).2.1 (T kf).2.2.1 ∈ Ts) (hfin : (T kf).2.2.2 = false) (hd : parseFieldDescriptor (T kf).2.2.1 = some ty) (hn : narrow ty v = v) (hfit : fits ty v = true) (hl0 : kf < fs.length) (hws : ws.set q0 (a, .inr (ci, fs.set kf v)) = ws') (hq : pc + 3 = q) (k : Wd p l e R s m args below meth c D w0 nL cs sl Q ws' lv q st) : Wd p l e R s m args below meth c D w0 nL cs sl Q ws lv pc (v :: .ref a :: st) := by
  subst hq
  subst href
  subst hws
  exact fun H locs ls hP hD hS hl => va_put C.1 C.2.1 C.2.2.2.2.1 hin ty0 hty hnm C.2.2.2.1 C.2.2.2.2.2.1 hP hD hS q0 he hc kf hk (C.2.2.2.2.1 _ hlink) (fun _ h => h) hfin hd hn hfit hl0 hdg (fun H1 locs1 hP1 hD1 hS1 => k H1 locs1 ls hP1 hD1 hS1 hl)

theorem r_iald (C : Cx p s m args meth c D tys own cc nL Ts rt) {a : Nat} {cA : ClassId} {n : Nat} {f : Nat → Int32} {i : Int32} (hdg : decode cc pc = .ok (.iaload, 1)) (q0 t0 : Nat) (ha : ws[q0]? = some (a, .inl (cA, n, .inl f))) (ht : tys[t0]? = some (cA, .int)) (hin : ¬ (i < 0 ∨ n ≤ i.toNatClampNeg)) (hq : pc + 1 = q) (k : Wd p l e R s m args below meth c D w0 nL cs sl Q ws lv q (.int (f i.toNatClampNeg) :: st)) : Wd p l e R s m args below meth c D w0 nL cs sl Q ws lv pc (.int i :: .ref a :: st) := by
  subst hq
  exact fun H locs ls hP hD hS hl => va_iald C.1 C.2.1 C.2.2.2.2.2.1 hP q0 t0 ha ht hin hdg (k H locs ls hP hD hS hl)

theorem r_zald (C : Cx p s m args meth c D tys own cc nL Ts rt) {a : Nat} {cA : ClassId} {n : Nat} {f : Nat → Int32} {i : Int32} (hdg : decode cc pc = .ok (.baload, 1)) (q0 t0 : Nat) (ha : ws[q0]? = some (a, .inl (cA, n, .inl f))) (ht : tys[t0]? = some (cA, .boolean)) (hin : ¬ (i < 0 ∨ n ≤ i.toNatClampNeg)) (hq : pc + 1 = q) (k : Wd p l e R s m args below meth c D w0 nL cs sl Q ws lv q (.int (f i.toNatClampNeg) :: st)) : Wd p l e R s m args below meth c D w0 nL cs sl Q ws lv pc (.int i :: .ref a :: st) := by
  subst hq
  exact fun H locs ls hP hD hS hl => va_zald C.1 C.2.1 C.2.2.2.2.2.1 hP q0 t0 ha ht hin hdg (k H locs ls hP hD hS hl)

theorem r_iast (C : Cx p s m args meth c D tys own cc nL Ts rt) {a : Nat} {cA : ClassId} {n : Nat} {f : Nat → Int32} {i x : Int32} {ws' : va_W} (hdg : decode cc pc = .ok (.iastore, 1)) (q0 t0 : Nat) (ha : ws[q0]? = some (a, .inl (cA, n, .inl f))) (ht : tys[t0]? = some (cA, .int)) (hin : ¬ (i < 0 ∨ n ≤ i.toNatClampNeg)) (hws : ws.set q0 (a, .inl (cA, n, .inl (upd f i.toNatClampNeg x))) = ws') (hq : pc + 1 = q) (k : Wd p l e R s m args below meth c D w0 nL cs sl Q ws' lv q st) : Wd p l e R s m args below meth c D w0 nL cs sl Q ws lv pc (.int x :: .int i :: .ref a :: st) := by
  subst hq
  subst hws
  exact fun H locs ls hP hD hS hl => va_iast C.1 C.2.1 C.2.2.2.2.2.1 hP hD hS q0 t0 ha ht hin hdg (fun H1 locs1 hP1 hD1 hS1 => k H1 locs1 ls hP1 hD1 hS1 hl)

theorem r_zast (C : Cx p s m args meth c D tys own cc nL Ts rt) {a : Nat} {cA : ClassId} {n : Nat} {f : Nat → Int32} {i x : Int32} {ws' : va_W} (hdg : decode cc pc = .ok (.bastore, 1)) (q0 t0 : Nat) (ha : ws[q0]? = some (a, .inl (cA, n, .inl f))) (ht : tys[t0]? = some (cA, .boolean)) (hin : ¬ (i < 0 ∨ n ≤ i.toNatClampNeg)) (hws : ws.set q0 (a, .inl (cA, n, .inl (upd f i.toNatClampNeg (vp_nar .boolean x)))) = ws') (hq : pc + 1 = q) (k : Wd p l e R s m args below meth c D w0 nL cs sl Q ws' lv q st) : Wd p l e R s m args below meth c D w0 nL cs sl Q ws lv pc (.int x :: .int i :: .ref a :: st) := by
  subst hq
  subst hws
  exact fun H locs ls hP hD hS hl => va_zast C.1 C.2.1 C.2.2.2.2.2.1 hP hD hS q0 t0 ha ht hin hdg (fun H1 locs1 hP1 hD1 hS1 => k H1 locs1 ls hP1 hD1 hS1 hl)

theorem r_mabs (C : Cx p s m args meth c D tys own cc nL Ts rt) {index : Nat} {x : Int32} (hdg : decode cc pc = .ok (.invokestatic index, 3)) (h1 : Cond.methodLink own index Lib.Math.abs.name ∈ Ts) (h2 : Cond.static Lib.Math.abs.name ∈ Ts) (h3 : Cond.initialized "java/lang/Math" ∈ Ts) (h4 : Cond.code Lib.Math.abs.name Lib.Math.abs.code 1 (some .int) ∈ Ts) (hf : 1 ≤ R.frames) (ho : (st.map fun v => v.category).sum + 13 ≤ R.locals) (hc : cs ≤ R.cells) (hs : sl ≤ R.slots) (hq : pc + 3 = q) (k : Wd p l e R s m args below meth c D w0 nL cs sl Q ws lv q (.int (if 0 ≤ x then x else 0 - x) :: st)) : Wd p l e R s m args below meth c D w0 nL cs sl Q ws lv pc (.int x :: st) := by
  subst hq
  exact fun H locs ls hP hD hS hl => va_mabs C.1 C.2.1 (C.2.2.1.trans hl.1.symm) C.2.2.2.1 (C.2.2.2.2.1 _ h1) (C.2.2.2.2.1 _ h2) (C.2.2.2.2.1 _ h3) (C.2.2.2.2.1 _ h4) hf ho hc hs hdg (k H locs ls hP hD hS hl)

theorem r_mmax (C : Cx p s m args meth c D tys own cc nL Ts rt) {index : Nat} {x y : Int32} (hdg : decode cc pc = .ok (.invokestatic index, 3)) (h1 : Cond.methodLink own index Lib.Math.max.name ∈ Ts) (h2 : Cond.static Lib.Math.max.name ∈ Ts) (h3 : Cond.initialized "java/lang/Math" ∈ Ts) (h4 : Cond.code Lib.Math.max.name Lib.Math.max.code 2 (some .int) ∈ Ts) (hf : 1 ≤ R.frames) (ho : (st.map fun v => v.category).sum + 13 ≤ R.locals) (hc : cs ≤ R.cells) (hs : sl ≤ R.slots) (hq : pc + 3 = q) (k : Wd p l e R s m args below meth c D w0 nL cs sl Q ws lv q (.int (if x < y then y else x) :: st)) : Wd p l e R s m args below meth c D w0 nL cs sl Q ws lv pc (.int y :: .int x :: st) := by
  subst hq
  exact fun H locs ls hP hD hS hl => va_mmax C.1 C.2.1 (C.2.2.1.trans hl.1.symm) C.2.2.2.1 (C.2.2.2.2.1 _ h1) (C.2.2.2.2.1 _ h2) (C.2.2.2.2.1 _ h3) (C.2.2.2.2.1 _ h4) hf ho hc hs hdg (k H locs ls hP hD hS hl)

theorem r_mmin (C : Cx p s m args meth c D tys own cc nL Ts rt) {index : Nat} {x y : Int32} (hdg : decode cc pc = .ok (.invokestatic index, 3)) (h1 : Cond.methodLink own index Lib.Math.min.name ∈ Ts) (h2 : Cond.static Lib.Math.min.name ∈ Ts) (h3 : Cond.initialized "java/lang/Math" ∈ Ts) (h4 : Cond.code Lib.Math.min.name Lib.Math.min.code 2 (some .int) ∈ Ts) (hf : 1 ≤ R.frames) (ho : (st.map fun v => v.category).sum + 13 ≤ R.locals) (hc : cs ≤ R.cells) (hs : sl ≤ R.slots) (hq : pc + 3 = q) (k : Wd p l e R s m args below meth c D w0 nL cs sl Q ws lv q (.int (if y < x then y else x) :: st)) : Wd p l e R s m args below meth c D w0 nL cs sl Q ws lv pc (.int y :: .int x :: st) := by
  subst hq
  exact fun H locs ls hP hD hS hl => va_mmin C.1 C.2.1 (C.2.2.1.trans hl.1.symm) C.2.2.2.1 (C.2.2.2.2.1 _ h1) (C.2.2.2.2.1 _ h2) (C.2.2.2.2.1 _ h3) (C.2.2.2.2.1 _ h4) hf ho hc hs hdg (k H locs ls hP hD hS hl)

theorem r_iret (C : Cx p s m args meth c D tys own cc nL Ts (some .int)) {v : Int32} {w' : va_W} (hdg : decode cc pc = .ok (.ireturn, 1)) (hw : ws = w') : Wd p l e R s m args below meth c D w0 nL cs sl (MQ below (QcI D tys w0 w' v s.heap.size) args s cs sl (va_A w0 s.heap.size)) ws lv pc [.int v] := by
  subst hw
  exact fun H locs ls hP hD hS hl => W.iret C.1 C.2.1 C.2.2.2.2.2.2.1 (fun t ht hW => ⟨⟨v, (), rfl, rfl, by rw [ht]; exact hP, va_K.moved hW.alike C.2.2.2.2.2.1, hD⟩, hS.F ht⟩) hS.2.2 hdg C.2.2.2.2.2.2.2.1
theorem r_zret (C : Cx p s m args meth c D tys own cc nL Ts (some .boolean)) {v : Int32} {w' : va_W} (hdg : decode cc pc = .ok (.ireturn, 1)) (hn : narrow .boolean (.int v) = .int v) (hw : ws = w') : Wd p l e R s m args below meth c D w0 nL cs sl (MQ below (QcI D tys w0 w' v s.heap.size) args s cs sl (va_A w0 s.heap.size)) ws lv pc [.int v] := by
  subst hw
  exact fun H locs ls hP hD hS hl => W.zret C.1 C.2.1 C.2.2.2.2.2.2.1 hn (fun t ht hW => ⟨⟨v, (), rfl, rfl, by rw [ht]; exact hP, va_K.moved hW.alike C.2.2.2.2.2.1, hD⟩, hS.F ht⟩) hS.2.2 hdg C.2.2.2.2.2.2.2.1
theorem r_lret (C : Cx p s m args meth c D tys own cc nL Ts (some .long)) {v : Int64} {w' : va_W} (hdg : decode cc pc = .ok (.lreturn, 1)) (hw : ws = w') : Wd p l e R s m args below meth c D w0 nL cs sl (MQ below (QcL D tys w0 w' v s.heap.size) args s cs sl (va_A w0 s.heap.size)) ws lv pc [.long v] := by
  subst hw
  exact fun H locs ls hP hD hS hl => W.lret C.1 C.2.1 C.2.2.2.2.2.2.1 (fun t ht hW => ⟨⟨v, (), rfl, rfl, by rw [ht]; exact hP, va_K.moved hW.alike C.2.2.2.2.2.1, hD⟩, hS.F ht⟩) hS.2.2 hdg C.2.2.2.2.2.2.2.1
theorem r_vret (C : Cx p s m args meth c D tys own cc nL Ts none) {w' : va_W} (hdg : decode cc pc = .ok (.return_, 1)) (hw : ws = w') : Wd p l e R s m args below meth c D w0 nL cs sl (MQ below (QcV D tys w0 w' s.heap.size) args s cs sl (va_A w0 s.heap.size)) ws lv pc [] := by
  subst hw
  exact fun H locs ls hP hD hS hl => W.vret C.1 C.2.1 C.2.2.2.2.2.2.1 (fun t ht hW => ⟨⟨(), rfl, trivial, by rw [ht]; exact hP, va_K.moved hW.alike C.2.2.2.2.2.1, hD⟩, hS.F ht⟩) hS.2.2 hdg C.2.2.2.2.2.2.2.1
theorem r_aret {nm : String} (C : Cx p s m args meth c D tys own cc nL Ts (some (.object nm))) {a : Nat} {w' : va_W} (hdg : decode cc pc = .ok (.areturn, 1)) (hw : ws = w') : Wd p l e R s m args below meth c D w0 nL cs sl (MQ below (QcR D tys w0 w' a s.heap.size) args s cs sl (va_A w0 s.heap.size)) ws lv pc [.ref a] := by
  subst hw
  exact fun H locs ls hP hD hS hl => W.aret C.1 C.2.1 C.2.2.2.2.2.2.1 (Or.inl ⟨_, rfl⟩) (Or.inr ⟨_, rfl⟩) (fun t ht hW => ⟨⟨(), a, rfl, trivial, rfl, by rw [ht]; exact hP, va_K.moved hW.alike C.2.2.2.2.2.1, hD⟩, hS.F ht⟩) hS.2.2 hdg C.2.2.2.2.2.2.2.1
theorem r_lv {lv' : List (Nat × Value)} (ks : List Nat) (h : lv_pick lv ks = lv') (k : Wd p l e R s m args below meth c D w0 nL cs sl Q ws lv' pc st) : Wd p l e R s m args below meth c D w0 nL cs sl Q ws lv pc st := fun H locs ls hP hD hS hl => k H locs ls hP hD hS (lv_sub hl ks h)

def Rn (p : Program) (l : Launch) (e : Env) (R : Room) (s : State) (m : MethodId) (args : Array Value) (below : List Frame) (meth : Method) (c : Code) (D : va_G) (w0 : va_W) (nL cs sl : Nat) (ws : va_W) (lv : List (Nat × Value)) (pc : Nat) (stk st av : List Value) (wc : va_W) (Qc : Nat → Array Value → State → Outcome → State → Prop) : Prop :=
  ∀ (H : Heap) (locs : List Loc) (ls : Array Slot), va_P D vwCl ws H → va_D (va_A w0 s.heap.size) ws → lv_has ls nL lv → va_Run p l e R s m args below meth c H locs cs sl 0 0 (F0 m pc ls stk) st (Qc H.size av.toArray) (va_A wc H.size)

theorem sub_of_map {ws wc : va_W} {is : List Nat} (h : is.map (fun i => ws[i]?) = wc.map some) : is.filterMap (fun i => ws[i]?) = wc := by
  induction is generalizing wc with
  | nil => cases wc with
    | nil => rfl
    | cons a t => simp at h
  | cons i is ih => cases wc with
    | nil => simp at h
    | cons a t =>
      simp only [List.map_cons, List.cons.injEq] at h
      rw [List.filterMap_cons, h.1]
      simp only [ih h.2]

theorem x_V (C : Cx p s m args meth c D tys own cc nL Ts rt) {y : MethodName} {wy wy' : List Cond} {rmy : Room} {bytes : ByteArray} {maxL n index : Nat} {rty : Option FieldType} {As av : List Value} {wc : va_W} {Qc : Nat → Array Value → State → Outcome → State → Prop} {C1 : String} {b ci N : Nat} {T : u_T} {fs : List Value} (hdg : decode cc pc = .ok (.invokevirtual index, 3)) (hM : CG l D tys y wy rmy av wc Qc) (hav : av = .ref b :: As) (hG : GoodIn Ts (wsV own index C1 y wy)) (hd : y.cls = C1 ∧ y.cls ≠ "java/lang/invoke/MethodHandle" ∧ y.cls ≠ "java/lang/invoke/VarHandle" ∧ (parseMethodDescriptor y.desc).map (fun d => d.parameters.length) = some n) (hwy : wy = Cond.code y bytes maxL rty :: wy') (hR : rmy.frames + 1 ≤ R.frames ∧ 8 + (maxL + 11) + rmy.locals ≤ R.locals) (hz : rmy.cells = 0 ∧ rmy.slots = 0) (hcs : cs + 0 ≤ R.cells ∧ sl + 0 ≤ R.slots) (hn : As.length = n) (isC : List Nat) (hC : isC.map (fun i => ws[i]?) = wc.map some) (hnd : va_nd isC = true) (kr : Nat) (hr : ws[kr]? = some (b, .inr (ci, fs))) (hcl : vwCl[ci]? = some (C1, T, N)) (hcat : (st.map fun v => v.category).sum ≤ 8) {stk : List Value} (hst : stk = As.reverse ++ .ref b :: st) : Rn p l e R s m args below meth c D w0 nL cs sl ws lv pc stk st av wc Qc := by
  subst hav
  intro H locs ls hP hD hl
  exact va_runV (C := C1) (As := As) ⟨C.1, C.2.1, C.2.2.1, C.2.2.2.1, C.2.2.2.2.1⟩ (hM H.size) (cwV n C.2.2.2.2.1 hG hwy hz.1 hz.2 hd hR) ⟨PreW.blind, va_recv C.2.2.2.2.2.1 hP hcl hr, fun U hU hW => ⟨rfl, by rw [hU], by rw [hU]; exact hP.sub isC (sub_of_map hC), va_K.moved hW.alike C.2.2.2.2.2.1, (hD.sub isC hnd hC).weaken (fun _ _ _ _ => trivial), C.2.2.2.2.2.2.2.2.warm hW⟩⟩ rfl hn hl.1 hst (lv_room hcat) hdg hcs

theorem x_S (C : Cx p s m args meth c D tys own cc nL Ts rt) {y : MethodName} {wy wy' : List Cond} {rmy : Room} {bytes : ByteArray} {maxL n index : Nat} {rty : Option FieldType} {As av : List Value} {wc : va_W} {Qc : Nat → Array Value → State → Outcome → State → Prop}  (hdg : decode cc pc = .ok (.invokestatic index, 3)) (hM : CG l D tys y wy rmy av wc Qc) (hav : av = As) (hG : GoodIn Ts (va_wsS own index y wy)) (hd : y.cls ≠ "java/lang/invoke/MethodHandle" ∧ y.cls ≠ "java/lang/invoke/VarHandle" ∧ (parseMethodDescriptor y.desc).map (fun d => d.parameters.length) = some n) (hwy : wy = Cond.code y bytes maxL rty :: wy') (hR : rmy.frames + 1 ≤ R.frames ∧ 8 + (maxL + 11) + rmy.locals ≤ R.locals) (hz : rmy.cells = 0 ∧ rmy.slots = 0) (hcs : cs + 0 ≤ R.cells ∧ sl + 0 ≤ R.slots) (hn : As.length = n) (isC : List Nat) (hC : isC.map (fun i => ws[i]?) = wc.map some) (hnd : va_nd isC = true)  (hcat : (st.map fun v => v.category).sum ≤ 8) {stk : List Value} (hst : stk = As.reverse ++ st) : Rn p l e R s m args below meth c D w0 nL cs sl ws lv pc stk st av wc Qc := by
  subst hav
  intro H locs ls hP hD hl
  exact va_runS (As := As) ⟨C.1, C.2.1, C.2.2.1, C.2.2.2.1, C.2.2.2.2.1⟩ (hM H.size) (va_cwS n C.2.2.2.2.1 hG hwy hz.1 hz.2 hd hR) ⟨PreW.blind, fun U hU hW => ⟨rfl, by rw [hU], by rw [hU]; exact hP.sub isC (sub_of_map hC), va_K.moved hW.alike C.2.2.2.2.2.1, (hD.sub isC hnd hC).weaken (fun _ _ _ _ => trivial), C.2.2.2.2.2.2.2.2.warm hW⟩⟩ rfl hn hl.1 hst (lv_room hcat) hdg hcs

theorem x_SN (C : Cx p s m args meth c D tys own cc nL Ts rt) {y : MethodName} {wy wy' : List Cond} {rmy : Room} {bytes : ByteArray} {maxL n index : Nat} {rty : Option FieldType} {As av : List Value} {wc : va_W} {Qc : Nat → Array Value → State → Outcome → State → Prop} {host : String} (hdg : decode cc pc = .ok (.invokestatic index, 3)) (hM : CG l D tys y wy rmy av wc Qc) (hav : av = As) (hG : GoodIn Ts wy) (h1 : (own, index, y, host) ∈ nxl) (h2 : Cond.static y ∈ Ts) (h3 : Cond.initialized y.cls ∈ Ts) (hd : y.cls ≠ "java/lang/invoke/MethodHandle" ∧ y.cls ≠ "java/lang/invoke/VarHandle" ∧ (parseMethodDescriptor y.desc).map (fun d => d.parameters.length) = some n) (hwy : wy = Cond.code y bytes maxL rty :: wy') (hR : rmy.frames + 1 ≤ R.frames ∧ 8 + (maxL + 11) + rmy.locals ≤ R.locals) (hz : rmy.cells = 0 ∧ rmy.slots = 0) (hcs : cs + 0 ≤ R.cells ∧ sl + 0 ≤ R.slots) (hn : As.length = n) (isC : List Nat) (hC : isC.map (fun i => ws[i]?) = wc.map some) (hnd : va_nd isC = true)  (hcat : (st.map fun v => v.category).sum ≤ 8) {stk : List Value} (hst : stk = As.reverse ++ st) : Rn p l e R s m args below meth c D w0 nL cs sl ws lv pc stk st av wc Qc := by
  subst hav
  intro H locs ls hP hD hl
  exact va_runSN (As := As) ⟨C.1, C.2.1, C.2.2.1, C.2.2.2.1, C.2.2.2.2.1⟩ (hM H.size) ⟨va_cnB n C.2.2.2.2.1 hG hwy hz.1 hz.2 (C.2.2.2.2.2.2.2.2 _ h1) (C.2.2.2.2.1 _ h3) hd hR, C.2.2.2.2.1 _ h2, trivial⟩ ⟨PreW.blind, fun U hU hW => ⟨rfl, by rw [hU], by rw [hU]; exact hP.sub isC (sub_of_map hC), va_K.moved hW.alike C.2.2.2.2.2.1, (hD.sub isC hnd hC).weaken (fun _ _ _ _ => trivial), C.2.2.2.2.2.2.2.2.warm hW⟩⟩ rfl hn hl.1 hst (lv_room hcat) hdg hcs

theorem o_I (C : Cx p s m args meth c D tys own cc nL Ts rt) {r : Int32} {av stk : List Value} {wc wc' wn : va_W} (isC : List Nat) (hC : isC.map (fun i => ws[i]?) = wc.map some) (hr : Rn p l e R s m args below meth c D w0 nL cs sl ws lv pc stk st av wc (QcI D tys wc wc' r)) (ha : wc'.map Prod.fst = wc.map Prod.fst) (hwn : cputs ws isC wc' = wn) (hq : pc + 3 = q) (k : Wd p l e R s m args below meth c D w0 nL cs sl Q wn lv q (.int r :: st)) : Wd p l e R s m args below meth c D w0 nL cs sl Q ws lv pc stk := by
  subst hq
  subst hwn
  intro H locs ls hP hD hS hl
  have hFc : ∀ x, va_A wc H.size x → va_A w0 s.heap.size x := va_free hD hS (fun _ h => Or.inr h) isC hC
  refine va_calli (hr H locs ls hP hD hl) hS (fun x _ h => hFc x h) hFc (fun r' u t H1 locs1 ht hvm hw hB hz1 hk1 hS1 => ?_)
  obtain ⟨hP1, -, -⟩ := hB
  have e9 : r' = r := hw
  subst e9
  rw [ht] at hP1
  obtain ⟨hP2, hD2⟩ := cputs_join hP hD isC hC ha hk1 hP1
  exact k H1 locs1 ls hP2 hD2 hS1 hl

theorem o_L (C : Cx p s m args meth c D tys own cc nL Ts rt) {r : Int64} {av stk : List Value} {wc wc' wn : va_W} (isC : List Nat) (hC : isC.map (fun i => ws[i]?) = wc.map some) (hr : Rn p l e R s m args below meth c D w0 nL cs sl ws lv pc stk st av wc (QcL D tys wc wc' r)) (ha : wc'.map Prod.fst = wc.map Prod.fst) (hwn : cputs ws isC wc' = wn) (hq : pc + 3 = q) (k : Wd p l e R s m args below meth c D w0 nL cs sl Q wn lv q (.long r :: st)) : Wd p l e R s m args below meth c D w0 nL cs sl Q ws lv pc stk := by
  subst hq
  subst hwn
  intro H locs ls hP hD hS hl
  have hFc : ∀ x, va_A wc H.size x → va_A w0 s.heap.size x := va_free hD hS (fun _ h => Or.inr h) isC hC
  refine va_calll (hr H locs ls hP hD hl) hS (fun x _ h => hFc x h) hFc (fun r' u t H1 locs1 ht hvm hw hB hz1 hk1 hS1 => ?_)
  obtain ⟨hP1, -, -⟩ := hB
  have e9 : r' = r := hw
  subst e9
  rw [ht] at hP1
  obtain ⟨hP2, hD2⟩ := cputs_join hP hD isC hC ha hk1 hP1
  exact k H1 locs1 ls hP2 hD2 hS1 hl

theorem o_V (C : Cx p s m args meth c D tys own cc nL Ts rt)  {av stk : List Value} {wc wc' wn : va_W} (isC : List Nat) (hC : isC.map (fun i => ws[i]?) = wc.map some) (hr : Rn p l e R s m args below meth c D w0 nL cs sl ws lv pc stk st av wc (QcV D tys wc wc')) (ha : wc'.map Prod.fst = wc.map Prod.fst) (hwn : cputs ws isC wc' = wn) (hq : pc + 3 = q) (k : Wd p l e R s m args below meth c D w0 nL cs sl Q wn lv q st) : Wd p l e R s m args below meth c D w0 nL cs sl Q ws lv pc stk := by
  subst hq
  subst hwn
  intro H locs ls hP hD hS hl
  have hFc : ∀ x, va_A wc H.size x → va_A w0 s.heap.size x := va_free hD hS (fun _ h => Or.inr h) isC hC
  refine va_callv (hr H locs ls hP hD hl) hS (fun x _ h => hFc x h) hFc (fun u t H1 locs1 ht hvm hw hB hz1 hk1 hS1 => ?_)
  obtain ⟨hP1, -, -⟩ := hB
  rw [ht] at hP1
  obtain ⟨hP2, hD2⟩ := cputs_join hP hD isC hC ha hk1 hP1
  exact k H1 locs1 ls hP2 hD2 hS1 hl

theorem o_R (C : Cx p s m args meth c D tys own cc nL Ts rt) {r : Nat} {av stk : List Value} {wc wc' wn : va_W} (isC : List Nat) (hC : isC.map (fun i => ws[i]?) = wc.map some) (hr : Rn p l e R s m args below meth c D w0 nL cs sl ws lv pc stk st av wc (QcR D tys wc wc' r)) (ha : wc'.map Prod.fst = wc.map Prod.fst) (hwn : cputs ws isC wc' = wn) (hq : pc + 3 = q) (k : Wd p l e R s m args below meth c D w0 nL cs sl Q wn lv q (.ref r :: st)) : Wd p l e R s m args below meth c D w0 nL cs sl Q ws lv pc stk := by
  subst hq
  subst hwn
  intro H locs ls hP hD hS hl
  have hFc : ∀ x, va_A wc H.size x → va_A w0 s.heap.size x := va_free hD hS (fun _ h => Or.inr h) isC hC
  refine va_callr (hr H locs ls hP hD hl) hS (fun x _ h => hFc x h) hFc (fun u r' t H1 locs1 ht hvm hw hB hz1 hk1 hS1 => ?_)
  obtain ⟨e9, hP1, -, -⟩ := hB
  subst e9
  rw [ht] at hP1
  obtain ⟨hP2, hD2⟩ := cputs_join hP hD isC hC ha hk1 hP1
  exact k H1 locs1 ls hP2 hD2 hS1 hl

end RW
end
