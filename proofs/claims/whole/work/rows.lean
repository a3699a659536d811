section
-- ===== PART A: goes FIRST, ahead of the names: the tables' words, and 'selects' of the private methods out of them =====
/-- a private method of a class that the tables say can be made, by its rows of tables_1 -/
def lw_okq (q : MethodName × Nat) : Prop := (q.1.cls ≠ "java/lang/invoke/MethodHandle" ∧ q.1.cls ≠ "java/lang/invoke/VarHandle") ∧ Cond.instantiable q.1.cls q.2 ∈ tables_1 ∧ Cond.privateMethod q.1 ∈ tables_1 ∧ Cond.instanceMethod q.1 ∈ tables_1
theorem lw_p0 : lw_okq (⟨"LoopGuesses", "emptySlots", "()V"⟩, 17) := ⟨⟨by decide +kernel, by decide +kernel⟩, List.mem_of_getElem? (i := 18) (by decide +kernel), List.mem_of_getElem? (i := 360) (by decide +kernel), List.mem_of_getElem? (i := 361) (by decide +kernel)⟩
theorem lw_p1 : lw_okq (⟨"LoopGuesses$Reader", "take", "(CLLoopGuesses$Code;)Z"⟩, 6) := ⟨⟨by decide +kernel, by decide +kernel⟩, List.mem_of_getElem? (i := 26) (by decide +kernel), List.mem_of_getElem? (i := 436) (by decide +kernel), List.mem_of_getElem? (i := 437) (by decide +kernel)⟩
theorem lw_p2 : lw_okq (⟨"LoopGuesses$Reader", "takeStatement", "(CLLoopGuesses$Code;)Z"⟩, 6) := ⟨⟨by decide +kernel, by decide +kernel⟩, List.mem_of_getElem? (i := 26) (by decide +kernel), List.mem_of_getElem? (i := 440) (by decide +kernel), List.mem_of_getElem? (i := 441) (by decide +kernel)⟩
theorem lw_p3 : lw_okq (⟨"LoopGuesses$Reader", "expectCondition", "(I)Z"⟩, 6) := ⟨⟨by decide +kernel, by decide +kernel⟩, List.mem_of_getElem? (i := 26) (by decide +kernel), List.mem_of_getElem? (i := 447) (by decide +kernel), List.mem_of_getElem? (i := 448) (by decide +kernel)⟩
theorem lw_p4 : lw_okq (⟨"LoopGuesses$Reader", "closeLoop", "(LLoopGuesses$Code;)Z"⟩, 6) := ⟨⟨by decide +kernel, by decide +kernel⟩, List.mem_of_getElem? (i := 26) (by decide +kernel), List.mem_of_getElem? (i := 451) (by decide +kernel), List.mem_of_getElem? (i := 452) (by decide +kernel)⟩
theorem lw_p5 : lw_okq (⟨"LoopGuesses$Reader", "innermost", "(ILLoopGuesses$Code;)I"⟩, 6) := ⟨⟨by decide +kernel, by decide +kernel⟩, List.mem_of_getElem? (i := 26) (by decide +kernel), List.mem_of_getElem? (i := 455) (by decide +kernel), List.mem_of_getElem? (i := 456) (by decide +kernel)⟩
theorem lw_p6 : lw_okq (⟨"LoopGuesses$Reader", "openChoice", "(LLoopGuesses$Code;)Z"⟩, 6) := ⟨⟨by decide +kernel, by decide +kernel⟩, List.mem_of_getElem? (i := 26) (by decide +kernel), List.mem_of_getElem? (i := 475) (by decide +kernel), List.mem_of_getElem? (i := 476) (by decide +kernel)⟩
theorem lw_p7 : lw_okq (⟨"LoopGuesses$Reader", "push", "(I)V"⟩, 6) := ⟨⟨by decide +kernel, by decide +kernel⟩, List.mem_of_getElem? (i := 26) (by decide +kernel), List.mem_of_getElem? (i := 479) (by decide +kernel), List.mem_of_getElem? (i := 480) (by decide +kernel)⟩
theorem lw_p8 : lw_okq (⟨"LoopGuesses$Reader", "passBar", "(IILLoopGuesses$Code;)Z"⟩, 6) := ⟨⟨by decide +kernel, by decide +kernel⟩, List.mem_of_getElem? (i := 26) (by decide +kernel), List.mem_of_getElem? (i := 483) (by decide +kernel), List.mem_of_getElem? (i := 484) (by decide +kernel)⟩
theorem lw_p9 : lw_okq (⟨"LoopGuesses$Reader", "beginGuess", "(LLoopGuesses$Code;)Z"⟩, 6) := ⟨⟨by decide +kernel, by decide +kernel⟩, List.mem_of_getElem? (i := 26) (by decide +kernel), List.mem_of_getElem? (i := 487) (by decide +kernel), List.mem_of_getElem? (i := 488) (by decide +kernel)⟩
theorem lw_p10 : lw_okq (⟨"LoopGuesses$Reader", "takeOperation", "(CLLoopGuesses$Code;)Z"⟩, 6) := ⟨⟨by decide +kernel, by decide +kernel⟩, List.mem_of_getElem? (i := 26) (by decide +kernel), List.mem_of_getElem? (i := 491) (by decide +kernel), List.mem_of_getElem? (i := 492) (by decide +kernel)⟩
theorem lw_p11 : lw_okq (⟨"LoopGuesses$Reader", "appendChange", "(ILLoopGuesses$Code;)Z"⟩, 6) := ⟨⟨by decide +kernel, by decide +kernel⟩, List.mem_of_getElem? (i := 26) (by decide +kernel), List.mem_of_getElem? (i := 495) (by decide +kernel), List.mem_of_getElem? (i := 496) (by decide +kernel)⟩
theorem lw_p12 : lw_okq (⟨"LoopGuesses$Reader", "takeLeft", "(C)Z"⟩, 6) := ⟨⟨by decide +kernel, by decide +kernel⟩, List.mem_of_getElem? (i := 26) (by decide +kernel), List.mem_of_getElem? (i := 499) (by decide +kernel), List.mem_of_getElem? (i := 500) (by decide +kernel)⟩
theorem lw_p13 : lw_okq (⟨"LoopGuesses$Reader", "takeSign", "(C)Z"⟩, 6) := ⟨⟨by decide +kernel, by decide +kernel⟩, List.mem_of_getElem? (i := 26) (by decide +kernel), List.mem_of_getElem? (i := 503) (by decide +kernel), List.mem_of_getElem? (i := 504) (by decide +kernel)⟩
theorem lw_p14 : lw_okq (⟨"LoopGuesses$Reader", "takeNewValue", "(ILLoopGuesses$Code;)Z"⟩, 6) := ⟨⟨by decide +kernel, by decide +kernel⟩, List.mem_of_getElem? (i := 26) (by decide +kernel), List.mem_of_getElem? (i := 510) (by decide +kernel), List.mem_of_getElem? (i := 511) (by decide +kernel)⟩
theorem lw_p15 : lw_okq (⟨"LoopGuesses$Reader", "takeRight", "(ILLoopGuesses$Code;)Z"⟩, 6) := ⟨⟨by decide +kernel, by decide +kernel⟩, List.mem_of_getElem? (i := 26) (by decide +kernel), List.mem_of_getElem? (i := 522) (by decide +kernel), List.mem_of_getElem? (i := 523) (by decide +kernel)⟩
def lw_privs_1 : List (MethodName × Nat) := [(⟨"LoopGuesses", "emptySlots", "()V"⟩, 17), (⟨"LoopGuesses$Reader", "take", "(CLLoopGuesses$Code;)Z"⟩, 6), (⟨"LoopGuesses$Reader", "takeStatement", "(CLLoopGuesses$Code;)Z"⟩, 6), (⟨"LoopGuesses$Reader", "expectCondition", "(I)Z"⟩, 6), (⟨"LoopGuesses$Reader", "closeLoop", "(LLoopGuesses$Code;)Z"⟩, 6), (⟨"LoopGuesses$Reader", "innermost", "(ILLoopGuesses$Code;)I"⟩, 6), (⟨"LoopGuesses$Reader", "openChoice", "(LLoopGuesses$Code;)Z"⟩, 6), (⟨"LoopGuesses$Reader", "push", "(I)V"⟩, 6), (⟨"LoopGuesses$Reader", "passBar", "(IILLoopGuesses$Code;)Z"⟩, 6), (⟨"LoopGuesses$Reader", "beginGuess", "(LLoopGuesses$Code;)Z"⟩, 6), (⟨"LoopGuesses$Reader", "takeOperation", "(CLLoopGuesses$Code;)Z"⟩, 6), (⟨"LoopGuesses$Reader", "appendChange", "(ILLoopGuesses$Code;)Z"⟩, 6), (⟨"LoopGuesses$Reader", "takeLeft", "(C)Z"⟩, 6), (⟨"LoopGuesses$Reader", "takeSign", "(C)Z"⟩, 6), (⟨"LoopGuesses$Reader", "takeNewValue", "(ILLoopGuesses$Code;)Z"⟩, 6), (⟨"LoopGuesses$Reader", "takeRight", "(ILLoopGuesses$Code;)Z"⟩, 6)]
theorem lw_r1 : ∀ q ∈ lw_privs_1, lw_okq q := List.forall_mem_cons.mpr ⟨lw_p0, List.forall_mem_cons.mpr ⟨lw_p1, List.forall_mem_cons.mpr ⟨lw_p2, List.forall_mem_cons.mpr ⟨lw_p3, List.forall_mem_cons.mpr ⟨lw_p4, List.forall_mem_cons.mpr ⟨lw_p5, List.forall_mem_cons.mpr ⟨lw_p6, List.forall_mem_cons.mpr ⟨lw_p7, List.forall_mem_cons.mpr ⟨lw_p8, List.forall_mem_cons.mpr ⟨lw_p9, List.forall_mem_cons.mpr ⟨lw_p10, List.forall_mem_cons.mpr ⟨lw_p11, List.forall_mem_cons.mpr ⟨lw_p12, List.forall_mem_cons.mpr ⟨lw_p13, List.forall_mem_cons.mpr ⟨lw_p14, List.forall_mem_cons.mpr ⟨lw_p15, fun _ h => absurd h List.not_mem_nil⟩⟩⟩⟩⟩⟩⟩⟩⟩⟩⟩⟩⟩⟩⟩⟩
theorem lw_p16 : lw_okq (⟨"LoopGuesses$Reader", "openLoop", "(LLoopGuesses$Condition;LLoopGuesses$Code;)V"⟩, 6) := ⟨⟨by decide +kernel, by decide +kernel⟩, List.mem_of_getElem? (i := 26) (by decide +kernel), List.mem_of_getElem? (i := 531) (by decide +kernel), List.mem_of_getElem? (i := 532) (by decide +kernel)⟩
theorem lw_p17 : lw_okq (⟨"LoopGuesses", "view", "(LLoopGuesses$Setup;)LLoopGuesses$Analysis;"⟩, 17) := ⟨⟨by decide +kernel, by decide +kernel⟩, List.mem_of_getElem? (i := 18) (by decide +kernel), List.mem_of_getElem? (i := 579) (by decide +kernel), List.mem_of_getElem? (i := 580) (by decide +kernel)⟩
theorem lw_p18 : lw_okq (⟨"LoopGuesses", "active", "(LLoopGuesses$Setup;)I"⟩, 17) := ⟨⟨by decide +kernel, by decide +kernel⟩, List.mem_of_getElem? (i := 18) (by decide +kernel), List.mem_of_getElem? (i := 606) (by decide +kernel), List.mem_of_getElem? (i := 607) (by decide +kernel)⟩
theorem lw_p19 : lw_okq (⟨"LoopGuesses$Flow", "passLoop", "(LLoopGuesses$Step;[LLoopGuesses$States;)Z"⟩, 6) := ⟨⟨by decide +kernel, by decide +kernel⟩, List.mem_of_getElem? (i := 216) (by decide +kernel), List.mem_of_getElem? (i := 637) (by decide +kernel), List.mem_of_getElem? (i := 638) (by decide +kernel)⟩
theorem lw_p20 : lw_okq (⟨"LoopGuesses$Flow", "passChoice", "(LLoopGuesses$Step;)V"⟩, 6) := ⟨⟨by decide +kernel, by decide +kernel⟩, List.mem_of_getElem? (i := 216) (by decide +kernel), List.mem_of_getElem? (i := 650) (by decide +kernel), List.mem_of_getElem? (i := 651) (by decide +kernel)⟩
theorem lw_p21 : lw_okq (⟨"LoopGuesses$Flow", "passSimple", "(LLoopGuesses$Step;)V"⟩, 6) := ⟨⟨by decide +kernel, by decide +kernel⟩, List.mem_of_getElem? (i := 216) (by decide +kernel), List.mem_of_getElem? (i := 654) (by decide +kernel), List.mem_of_getElem? (i := 655) (by decide +kernel)⟩
theorem lw_p22 : lw_okq (⟨"LoopGuesses", "remember", "()V"⟩, 17) := ⟨⟨by decide +kernel, by decide +kernel⟩, List.mem_of_getElem? (i := 18) (by decide +kernel), List.mem_of_getElem? (i := 733) (by decide +kernel), List.mem_of_getElem? (i := 734) (by decide +kernel)⟩
theorem lw_p23 : lw_okq (⟨"LoopGuesses", "stands", "(IIII)Z"⟩, 17) := ⟨⟨by decide +kernel, by decide +kernel⟩, List.mem_of_getElem? (i := 18) (by decide +kernel), List.mem_of_getElem? (i := 782) (by decide +kernel), List.mem_of_getElem? (i := 783) (by decide +kernel)⟩
theorem lw_p24 : lw_okq (⟨"LoopGuesses", "findAgreeing", "()V"⟩, 17) := ⟨⟨by decide +kernel, by decide +kernel⟩, List.mem_of_getElem? (i := 18) (by decide +kernel), List.mem_of_getElem? (i := 822) (by decide +kernel), List.mem_of_getElem? (i := 823) (by decide +kernel)⟩
theorem lw_p25 : lw_okq (⟨"LoopGuesses$Blame", "pass", "(LLoopGuesses$Code;I)Z"⟩, 5) := ⟨⟨by decide +kernel, by decide +kernel⟩, List.mem_of_getElem? (i := 279) (by decide +kernel), List.mem_of_getElem? (i := 836) (by decide +kernel), List.mem_of_getElem? (i := 837) (by decide +kernel)⟩
theorem lw_p26 : lw_okq (⟨"LoopGuesses$Blame", "passLoop", "(LLoopGuesses$Step;)Z"⟩, 5) := ⟨⟨by decide +kernel, by decide +kernel⟩, List.mem_of_getElem? (i := 279) (by decide +kernel), List.mem_of_getElem? (i := 841) (by decide +kernel), List.mem_of_getElem? (i := 842) (by decide +kernel)⟩
theorem lw_p27 : lw_okq (⟨"LoopGuesses$Blame", "passChoice", "(LLoopGuesses$Step;)V"⟩, 5) := ⟨⟨by decide +kernel, by decide +kernel⟩, List.mem_of_getElem? (i := 279) (by decide +kernel), List.mem_of_getElem? (i := 849) (by decide +kernel), List.mem_of_getElem? (i := 850) (by decide +kernel)⟩
theorem lw_p28 : lw_okq (⟨"LoopGuesses$Blame", "passSimple", "(LLoopGuesses$Step;I)V"⟩, 5) := ⟨⟨by decide +kernel, by decide +kernel⟩, List.mem_of_getElem? (i := 279) (by decide +kernel), List.mem_of_getElem? (i := 853) (by decide +kernel), List.mem_of_getElem? (i := 854) (by decide +kernel)⟩
theorem lw_p29 : lw_okq (⟨"LoopGuesses$Runner", "draw", "(I)I"⟩, 2) := ⟨⟨by decide +kernel, by decide +kernel⟩, List.mem_of_getElem? (i := 346) (by decide +kernel), List.mem_of_getElem? (i := 889) (by decide +kernel), List.mem_of_getElem? (i := 890) (by decide +kernel)⟩
theorem lw_p30 : lw_okq (⟨"LoopGuesses$Runner", "isTrue", "(LLoopGuesses$Step;)Z"⟩, 2) := ⟨⟨by decide +kernel, by decide +kernel⟩, List.mem_of_getElem? (i := 346) (by decide +kernel), List.mem_of_getElem? (i := 897) (by decide +kernel), List.mem_of_getElem? (i := 898) (by decide +kernel)⟩
theorem lw_p31 : lw_okq (⟨"LoopGuesses$Runner", "change", "(LLoopGuesses$Step;)V"⟩, 2) := ⟨⟨by decide +kernel, by decide +kernel⟩, List.mem_of_getElem? (i := 346) (by decide +kernel), List.mem_of_getElem? (i := 902) (by decide +kernel), List.mem_of_getElem? (i := 903) (by decide +kernel)⟩
def lw_privs_2 : List (MethodName × Nat) := [(⟨"LoopGuesses$Reader", "openLoop", "(LLoopGuesses$Condition;LLoopGuesses$Code;)V"⟩, 6), (⟨"LoopGuesses", "view", "(LLoopGuesses$Setup;)LLoopGuesses$Analysis;"⟩, 17), (⟨"LoopGuesses", "active", "(LLoopGuesses$Setup;)I"⟩, 17), (⟨"LoopGuesses$Flow", "passLoop", "(LLoopGuesses$Step;[LLoopGuesses$States;)Z"⟩, 6), (⟨"LoopGuesses$Flow", "passChoice", "(LLoopGuesses$Step;)V"⟩, 6), (⟨"LoopGuesses$Flow", "passSimple", "(LLoopGuesses$Step;)V"⟩, 6), (⟨"LoopGuesses", "remember", "()V"⟩, 17), (⟨"LoopGuesses", "stands", "(IIII)Z"⟩, 17), (⟨"LoopGuesses", "findAgreeing", "()V"⟩, 17), (⟨"LoopGuesses$Blame", "pass", "(LLoopGuesses$Code;I)Z"⟩, 5), (⟨"LoopGuesses$Blame", "passLoop", "(LLoopGuesses$Step;)Z"⟩, 5), (⟨"LoopGuesses$Blame", "passChoice", "(LLoopGuesses$Step;)V"⟩, 5), (⟨"LoopGuesses$Blame", "passSimple", "(LLoopGuesses$Step;I)V"⟩, 5), (⟨"LoopGuesses$Runner", "draw", "(I)I"⟩, 2), (⟨"LoopGuesses$Runner", "isTrue", "(LLoopGuesses$Step;)Z"⟩, 2), (⟨"LoopGuesses$Runner", "change", "(LLoopGuesses$Step;)V"⟩, 2)]
theorem lw_r2 : ∀ q ∈ lw_privs_2, lw_okq q := List.forall_mem_cons.mpr ⟨lw_p16, List.forall_mem_cons.mpr ⟨lw_p17, List.forall_mem_cons.mpr ⟨lw_p18, List.forall_mem_cons.mpr ⟨lw_p19, List.forall_mem_cons.mpr ⟨lw_p20, List.forall_mem_cons.mpr ⟨lw_p21, List.forall_mem_cons.mpr ⟨lw_p22, List.forall_mem_cons.mpr ⟨lw_p23, List.forall_mem_cons.mpr ⟨lw_p24, List.forall_mem_cons.mpr ⟨lw_p25, List.forall_mem_cons.mpr ⟨lw_p26, List.forall_mem_cons.mpr ⟨lw_p27, List.forall_mem_cons.mpr ⟨lw_p28, List.forall_mem_cons.mpr ⟨lw_p29, List.forall_mem_cons.mpr ⟨lw_p30, List.forall_mem_cons.mpr ⟨lw_p31, fun _ h => absurd h List.not_mem_nil⟩⟩⟩⟩⟩⟩⟩⟩⟩⟩⟩⟩⟩⟩⟩⟩
theorem lw_p32 : lw_okq (⟨"LoopGuesses$Runner", "next", "(LLoopGuesses$Step;I)I"⟩, 2) := ⟨⟨by decide +kernel, by decide +kernel⟩, List.mem_of_getElem? (i := 346) (by decide +kernel), List.mem_of_getElem? (i := 909) (by decide +kernel), List.mem_of_getElem? (i := 910) (by decide +kernel)⟩
theorem lw_p33 : lw_okq (⟨"LoopGuessesModel", "readText", "()I"⟩, 51) := ⟨⟨by decide +kernel, by decide +kernel⟩, List.mem_of_getElem? (i := 921) (by decide +kernel), List.mem_of_getElem? (i := 1098) (by decide +kernel), List.mem_of_getElem? (i := 1099) (by decide +kernel)⟩
theorem lw_p34 : lw_okq (⟨"LoopGuessesModel", "take", "(I)Z"⟩, 51) := ⟨⟨by decide +kernel, by decide +kernel⟩, List.mem_of_getElem? (i := 921) (by decide +kernel), List.mem_of_getElem? (i := 1102) (by decide +kernel), List.mem_of_getElem? (i := 1103) (by decide +kernel)⟩
theorem lw_p35 : lw_okq (⟨"LoopGuessesModel", "takeStatement", "(I)Z"⟩, 51) := ⟨⟨by decide +kernel, by decide +kernel⟩, List.mem_of_getElem? (i := 921) (by decide +kernel), List.mem_of_getElem? (i := 1106) (by decide +kernel), List.mem_of_getElem? (i := 1107) (by decide +kernel)⟩
theorem lw_p36 : lw_okq (⟨"LoopGuessesModel", "newNode", "(I)V"⟩, 51) := ⟨⟨by decide +kernel, by decide +kernel⟩, List.mem_of_getElem? (i := 921) (by decide +kernel), List.mem_of_getElem? (i := 1115) (by decide +kernel), List.mem_of_getElem? (i := 1116) (by decide +kernel)⟩
theorem lw_p37 : lw_okq (⟨"LoopGuessesModel", "takeAsking", "(I)Z"⟩, 51) := ⟨⟨by decide +kernel, by decide +kernel⟩, List.mem_of_getElem? (i := 921) (by decide +kernel), List.mem_of_getElem? (i := 1119) (by decide +kernel), List.mem_of_getElem? (i := 1120) (by decide +kernel)⟩
theorem lw_p38 : lw_okq (⟨"LoopGuessesModel", "takeEither", "()Z"⟩, 51) := ⟨⟨by decide +kernel, by decide +kernel⟩, List.mem_of_getElem? (i := 921) (by decide +kernel), List.mem_of_getElem? (i := 1123) (by decide +kernel), List.mem_of_getElem? (i := 1124) (by decide +kernel)⟩
theorem lw_p39 : lw_okq (⟨"LoopGuessesModel", "innermost", "()I"⟩, 51) := ⟨⟨by decide +kernel, by decide +kernel⟩, List.mem_of_getElem? (i := 921) (by decide +kernel), List.mem_of_getElem? (i := 1127) (by decide +kernel), List.mem_of_getElem? (i := 1128) (by decide +kernel)⟩
theorem lw_p40 : lw_okq (⟨"LoopGuessesModel", "takeClose", "()Z"⟩, 51) := ⟨⟨by decide +kernel, by decide +kernel⟩, List.mem_of_getElem? (i := 921) (by decide +kernel), List.mem_of_getElem? (i := 1131) (by decide +kernel), List.mem_of_getElem? (i := 1132) (by decide +kernel)⟩
theorem lw_p41 : lw_okq (⟨"LoopGuessesModel", "takeBar", "()Z"⟩, 51) := ⟨⟨by decide +kernel, by decide +kernel⟩, List.mem_of_getElem? (i := 921) (by decide +kernel), List.mem_of_getElem? (i := 1135) (by decide +kernel), List.mem_of_getElem? (i := 1136) (by decide +kernel)⟩
theorem lw_p42 : lw_okq (⟨"LoopGuessesModel", "takeJoin", "()Z"⟩, 51) := ⟨⟨by decide +kernel, by decide +kernel⟩, List.mem_of_getElem? (i := 921) (by decide +kernel), List.mem_of_getElem? (i := 1139) (by decide +kernel), List.mem_of_getElem? (i := 1140) (by decide +kernel)⟩
theorem lw_p43 : lw_okq (⟨"LoopGuessesModel", "takeGuess", "()Z"⟩, 51) := ⟨⟨by decide +kernel, by decide +kernel⟩, List.mem_of_getElem? (i := 921) (by decide +kernel), List.mem_of_getElem? (i := 1143) (by decide +kernel), List.mem_of_getElem? (i := 1144) (by decide +kernel)⟩
theorem lw_p44 : lw_okq (⟨"LoopGuessesModel", "takeDeed", "(I)Z"⟩, 51) := ⟨⟨by decide +kernel, by decide +kernel⟩, List.mem_of_getElem? (i := 921) (by decide +kernel), List.mem_of_getElem? (i := 1147) (by decide +kernel), List.mem_of_getElem? (i := 1148) (by decide +kernel)⟩
theorem lw_p45 : lw_okq (⟨"LoopGuessesModel", "takePart", "(II)Z"⟩, 51) := ⟨⟨by decide +kernel, by decide +kernel⟩, List.mem_of_getElem? (i := 921) (by decide +kernel), List.mem_of_getElem? (i := 1156) (by decide +kernel), List.mem_of_getElem? (i := 1157) (by decide +kernel)⟩
theorem lw_p46 : lw_okq (⟨"LoopGuessesModel", "invariants", "([I)V"⟩, 51) := ⟨⟨by decide +kernel, by decide +kernel⟩, List.mem_of_getElem? (i := 921) (by decide +kernel), List.mem_of_getElem? (i := 1174) (by decide +kernel), List.mem_of_getElem? (i := 1175) (by decide +kernel)⟩
theorem lw_p47 : lw_okq (⟨"LoopGuessesModel", "left", "([I)I"⟩, 51) := ⟨⟨by decide +kernel, by decide +kernel⟩, List.mem_of_getElem? (i := 921) (by decide +kernel), List.mem_of_getElem? (i := 1178) (by decide +kernel), List.mem_of_getElem? (i := 1179) (by decide +kernel)⟩
def lw_privs_3 : List (MethodName × Nat) := [(⟨"LoopGuesses$Runner", "next", "(LLoopGuesses$Step;I)I"⟩, 2), (⟨"LoopGuessesModel", "readText", "()I"⟩, 51), (⟨"LoopGuessesModel", "take", "(I)Z"⟩, 51), (⟨"LoopGuessesModel", "takeStatement", "(I)Z"⟩, 51), (⟨"LoopGuessesModel", "newNode", "(I)V"⟩, 51), (⟨"LoopGuessesModel", "takeAsking", "(I)Z"⟩, 51), (⟨"LoopGuessesModel", "takeEither", "()Z"⟩, 51), (⟨"LoopGuessesModel", "innermost", "()I"⟩, 51), (⟨"LoopGuessesModel", "takeClose", "()Z"⟩, 51), (⟨"LoopGuessesModel", "takeBar", "()Z"⟩, 51), (⟨"LoopGuessesModel", "takeJoin", "()Z"⟩, 51), (⟨"LoopGuessesModel", "takeGuess", "()Z"⟩, 51), (⟨"LoopGuessesModel", "takeDeed", "(I)Z"⟩, 51), (⟨"LoopGuessesModel", "takePart", "(II)Z"⟩, 51), (⟨"LoopGuessesModel", "invariants", "([I)V"⟩, 51), (⟨"LoopGuessesModel", "left", "([I)I"⟩, 51)]
theorem lw_r3 : ∀ q ∈ lw_privs_3, lw_okq q := List.forall_mem_cons.mpr ⟨lw_p32, List.forall_mem_cons.mpr ⟨lw_p33, List.forall_mem_cons.mpr ⟨lw_p34, List.forall_mem_cons.mpr ⟨lw_p35, List.forall_mem_cons.mpr ⟨lw_p36, List.forall_mem_cons.mpr ⟨lw_p37, List.forall_mem_cons.mpr ⟨lw_p38, List.forall_mem_cons.mpr ⟨lw_p39, List.forall_mem_cons.mpr ⟨lw_p40, List.forall_mem_cons.mpr ⟨lw_p41, List.forall_mem_cons.mpr ⟨lw_p42, List.forall_mem_cons.mpr ⟨lw_p43, List.forall_mem_cons.mpr ⟨lw_p44, List.forall_mem_cons.mpr ⟨lw_p45, List.forall_mem_cons.mpr ⟨lw_p46, List.forall_mem_cons.mpr ⟨lw_p47, fun _ h => absurd h List.not_mem_nil⟩⟩⟩⟩⟩⟩⟩⟩⟩⟩⟩⟩⟩⟩⟩⟩
theorem lw_p48 : lw_okq (⟨"LoopGuessesModel", "findInvariants", "([II)V"⟩, 51) := ⟨⟨by decide +kernel, by decide +kernel⟩, List.mem_of_getElem? (i := 921) (by decide +kernel), List.mem_of_getElem? (i := 1182) (by decide +kernel), List.mem_of_getElem? (i := 1183) (by decide +kernel)⟩
theorem lw_p49 : lw_okq (⟨"LoopGuessesModel", "layComes", "([I)V"⟩, 51) := ⟨⟨by decide +kernel, by decide +kernel⟩, List.mem_of_getElem? (i := 921) (by decide +kernel), List.mem_of_getElem? (i := 1186) (by decide +kernel), List.mem_of_getElem? (i := 1187) (by decide +kernel)⟩
theorem lw_p50 : lw_okq (⟨"LoopGuessesModel", "beginAt", "([I)V"⟩, 51) := ⟨⟨by decide +kernel, by decide +kernel⟩, List.mem_of_getElem? (i := 921) (by decide +kernel), List.mem_of_getElem? (i := 1190) (by decide +kernel), List.mem_of_getElem? (i := 1191) (by decide +kernel)⟩
theorem lw_p51 : lw_okq (⟨"LoopGuessesModel", "put", "(II)Z"⟩, 51) := ⟨⟨by decide +kernel, by decide +kernel⟩, List.mem_of_getElem? (i := 921) (by decide +kernel), List.mem_of_getElem? (i := 1200) (by decide +kernel), List.mem_of_getElem? (i := 1201) (by decide +kernel)⟩
theorem lw_p52 : lw_okq (⟨"LoopGuessesModel", "isThere", "(II)Z"⟩, 51) := ⟨⟨by decide +kernel, by decide +kernel⟩, List.mem_of_getElem? (i := 921) (by decide +kernel), List.mem_of_getElem? (i := 1204) (by decide +kernel), List.mem_of_getElem? (i := 1205) (by decide +kernel)⟩
theorem lw_p53 : lw_okq (⟨"LoopGuessesModel", "areGuessed", "(II)Z"⟩, 51) := ⟨⟨by decide +kernel, by decide +kernel⟩, List.mem_of_getElem? (i := 921) (by decide +kernel), List.mem_of_getElem? (i := 1208) (by decide +kernel), List.mem_of_getElem? (i := 1209) (by decide +kernel)⟩
theorem lw_p54 : lw_okq (⟨"LoopGuessesModel", "isGuessed", "(II)Z"⟩, 51) := ⟨⟨by decide +kernel, by decide +kernel⟩, List.mem_of_getElem? (i := 921) (by decide +kernel), List.mem_of_getElem? (i := 1215) (by decide +kernel), List.mem_of_getElem? (i := 1216) (by decide +kernel)⟩
theorem lw_p55 : lw_okq (⟨"LoopGuessesModel", "goOn", "(II)Z"⟩, 51) := ⟨⟨by decide +kernel, by decide +kernel⟩, List.mem_of_getElem? (i := 921) (by decide +kernel), List.mem_of_getElem? (i := 1225) (by decide +kernel), List.mem_of_getElem? (i := 1226) (by decide +kernel)⟩
theorem lw_p56 : lw_okq (⟨"LoopGuessesModel", "done", "(III)I"⟩, 51) := ⟨⟨by decide +kernel, by decide +kernel⟩, List.mem_of_getElem? (i := 921) (by decide +kernel), List.mem_of_getElem? (i := 1229) (by decide +kernel), List.mem_of_getElem? (i := 1230) (by decide +kernel)⟩
theorem lw_p57 : lw_okq (⟨"LoopGuessesModel", "isSo", "(II)Z"⟩, 51) := ⟨⟨by decide +kernel, by decide +kernel⟩, List.mem_of_getElem? (i := 921) (by decide +kernel), List.mem_of_getElem? (i := 1236) (by decide +kernel), List.mem_of_getElem? (i := 1237) (by decide +kernel)⟩
theorem lw_p58 : lw_okq (⟨"LoopGuessesModel", "giveUp", "()I"⟩, 51) := ⟨⟨by decide +kernel, by decide +kernel⟩, List.mem_of_getElem? (i := 921) (by decide +kernel), List.mem_of_getElem? (i := 1240) (by decide +kernel), List.mem_of_getElem? (i := 1241) (by decide +kernel)⟩
theorem lw_p59 : lw_okq (⟨"LoopGuessesModel", "isSoInAll", "(II)Z"⟩, 51) := ⟨⟨by decide +kernel, by decide +kernel⟩, List.mem_of_getElem? (i := 921) (by decide +kernel), List.mem_of_getElem? (i := 1244) (by decide +kernel), List.mem_of_getElem? (i := 1245) (by decide +kernel)⟩
theorem lw_p60 : lw_okq (⟨"LoopGuessesModel", "fine", "()I"⟩, 51) := ⟨⟨by decide +kernel, by decide +kernel⟩, List.mem_of_getElem? (i := 921) (by decide +kernel), List.mem_of_getElem? (i := 1248) (by decide +kernel), List.mem_of_getElem? (i := 1249) (by decide +kernel)⟩
theorem lw_p61 : lw_okq (⟨"LoopGuessesModel", "failing", "(I)I"⟩, 51) := ⟨⟨by decide +kernel, by decide +kernel⟩, List.mem_of_getElem? (i := 921) (by decide +kernel), List.mem_of_getElem? (i := 1252) (by decide +kernel), List.mem_of_getElem? (i := 1253) (by decide +kernel)⟩
theorem lw_p62 : lw_okq (⟨"LoopGuessesModel", "nodeOf", "(II)I"⟩, 51) := ⟨⟨by decide +kernel, by decide +kernel⟩, List.mem_of_getElem? (i := 921) (by decide +kernel), List.mem_of_getElem? (i := 1256) (by decide +kernel), List.mem_of_getElem? (i := 1257) (by decide +kernel)⟩
theorem lw_p63 : lw_okq (⟨"LoopGuessesModel", "layReached", "([I)V"⟩, 51) := ⟨⟨by decide +kernel, by decide +kernel⟩, List.mem_of_getElem? (i := 921) (by decide +kernel), List.mem_of_getElem? (i := 1263) (by decide +kernel), List.mem_of_getElem? (i := 1264) (by decide +kernel)⟩
def lw_privs_4 : List (MethodName × Nat) := [(⟨"LoopGuessesModel", "findInvariants", "([II)V"⟩, 51), (⟨"LoopGuessesModel", "layComes", "([I)V"⟩, 51), (⟨"LoopGuessesModel", "beginAt", "([I)V"⟩, 51), (⟨"LoopGuessesModel", "put", "(II)Z"⟩, 51), (⟨"LoopGuessesModel", "isThere", "(II)Z"⟩, 51), (⟨"LoopGuessesModel", "areGuessed", "(II)Z"⟩, 51), (⟨"LoopGuessesModel", "isGuessed", "(II)Z"⟩, 51), (⟨"LoopGuessesModel", "goOn", "(II)Z"⟩, 51), (⟨"LoopGuessesModel", "done", "(III)I"⟩, 51), (⟨"LoopGuessesModel", "isSo", "(II)Z"⟩, 51), (⟨"LoopGuessesModel", "giveUp", "()I"⟩, 51), (⟨"LoopGuessesModel", "isSoInAll", "(II)Z"⟩, 51), (⟨"LoopGuessesModel", "fine", "()I"⟩, 51), (⟨"LoopGuessesModel", "failing", "(I)I"⟩, 51), (⟨"LoopGuessesModel", "nodeOf", "(II)I"⟩, 51), (⟨"LoopGuessesModel", "layReached", "([I)V"⟩, 51)]
theorem lw_r4 : ∀ q ∈ lw_privs_4, lw_okq q := List.forall_mem_cons.mpr ⟨lw_p48, List.forall_mem_cons.mpr ⟨lw_p49, List.forall_mem_cons.mpr ⟨lw_p50, List.forall_mem_cons.mpr ⟨lw_p51, List.forall_mem_cons.mpr ⟨lw_p52, List.forall_mem_cons.mpr ⟨lw_p53, List.forall_mem_cons.mpr ⟨lw_p54, List.forall_mem_cons.mpr ⟨lw_p55, List.forall_mem_cons.mpr ⟨lw_p56, List.forall_mem_cons.mpr ⟨lw_p57, List.forall_mem_cons.mpr ⟨lw_p58, List.forall_mem_cons.mpr ⟨lw_p59, List.forall_mem_cons.mpr ⟨lw_p60, List.forall_mem_cons.mpr ⟨lw_p61, List.forall_mem_cons.mpr ⟨lw_p62, List.forall_mem_cons.mpr ⟨lw_p63, fun _ h => absurd h List.not_mem_nil⟩⟩⟩⟩⟩⟩⟩⟩⟩⟩⟩⟩⟩⟩⟩⟩
theorem lw_p64 : lw_okq (⟨"LoopGuessesModel", "goOnFresh", "(I)Z"⟩, 51) := ⟨⟨by decide +kernel, by decide +kernel⟩, List.mem_of_getElem? (i := 921) (by decide +kernel), List.mem_of_getElem? (i := 1267) (by decide +kernel), List.mem_of_getElem? (i := 1268) (by decide +kernel)⟩
theorem lw_p65 : lw_okq (⟨"LoopGuessesModel", "manyAt", "(I)I"⟩, 51) := ⟨⟨by decide +kernel, by decide +kernel⟩, List.mem_of_getElem? (i := 921) (by decide +kernel), List.mem_of_getElem? (i := 1271) (by decide +kernel), List.mem_of_getElem? (i := 1272) (by decide +kernel)⟩
theorem lw_p66 : lw_okq (⟨"LoopGuessesModel", "manyGuessed", "(I)I"⟩, 51) := ⟨⟨by decide +kernel, by decide +kernel⟩, List.mem_of_getElem? (i := 921) (by decide +kernel), List.mem_of_getElem? (i := 1280) (by decide +kernel), List.mem_of_getElem? (i := 1281) (by decide +kernel)⟩
theorem lw_p67 : lw_okq (⟨"LoopGuessesModel", "note", "()V"⟩, 51) := ⟨⟨by decide +kernel, by decide +kernel⟩, List.mem_of_getElem? (i := 921) (by decide +kernel), List.mem_of_getElem? (i := 1298) (by decide +kernel), List.mem_of_getElem? (i := 1299) (by decide +kernel)⟩
theorem lw_p68 : lw_okq (⟨"LoopGuessesModel", "provedBy", "([II)I"⟩, 51) := ⟨⟨by decide +kernel, by decide +kernel⟩, List.mem_of_getElem? (i := 921) (by decide +kernel), List.mem_of_getElem? (i := 1318) (by decide +kernel), List.mem_of_getElem? (i := 1319) (by decide +kernel)⟩
theorem lw_p69 : lw_okq (⟨"LoopGuessesModel", "layTrial", "()V"⟩, 51) := ⟨⟨by decide +kernel, by decide +kernel⟩, List.mem_of_getElem? (i := 921) (by decide +kernel), List.mem_of_getElem? (i := 1334) (by decide +kernel), List.mem_of_getElem? (i := 1335) (by decide +kernel)⟩
theorem lw_p70 : lw_okq (⟨"LoopGuessesModel", "judged", "(IIII)Z"⟩, 51) := ⟨⟨by decide +kernel, by decide +kernel⟩, List.mem_of_getElem? (i := 921) (by decide +kernel), List.mem_of_getElem? (i := 1338) (by decide +kernel), List.mem_of_getElem? (i := 1339) (by decide +kernel)⟩
theorem lw_p71 : lw_okq (⟨"LoopGuessesModel", "isReachedAtEnd", "(I)Z"⟩, 51) := ⟨⟨by decide +kernel, by decide +kernel⟩, List.mem_of_getElem? (i := 921) (by decide +kernel), List.mem_of_getElem? (i := 1342) (by decide +kernel), List.mem_of_getElem? (i := 1343) (by decide +kernel)⟩
theorem lw_p72 : lw_okq (⟨"LoopGuessesModel", "isState", "(I)Z"⟩, 51) := ⟨⟨by decide +kernel, by decide +kernel⟩, List.mem_of_getElem? (i := 921) (by decide +kernel), List.mem_of_getElem? (i := 1346) (by decide +kernel), List.mem_of_getElem? (i := 1347) (by decide +kernel)⟩
theorem lw_p73 : lw_okq (⟨"LoopGuessesModel", "leave", "(II)V"⟩, 51) := ⟨⟨by decide +kernel, by decide +kernel⟩, List.mem_of_getElem? (i := 921) (by decide +kernel), List.mem_of_getElem? (i := 1377) (by decide +kernel), List.mem_of_getElem? (i := 1378) (by decide +kernel)⟩
theorem lw_p74 : lw_okq (⟨"LoopGuessesModel", "layCans", "(I)V"⟩, 51) := ⟨⟨by decide +kernel, by decide +kernel⟩, List.mem_of_getElem? (i := 921) (by decide +kernel), List.mem_of_getElem? (i := 1381) (by decide +kernel), List.mem_of_getElem? (i := 1382) (by decide +kernel)⟩
theorem lw_p75 : lw_okq (⟨"LoopGuessesModel", "can", "(III)Z"⟩, 51) := ⟨⟨by decide +kernel, by decide +kernel⟩, List.mem_of_getElem? (i := 921) (by decide +kernel), List.mem_of_getElem? (i := 1385) (by decide +kernel), List.mem_of_getElem? (i := 1386) (by decide +kernel)⟩
theorem lw_p76 : lw_okq (⟨"LoopGuessesModel", "run", "()I"⟩, 51) := ⟨⟨by decide +kernel, by decide +kernel⟩, List.mem_of_getElem? (i := 921) (by decide +kernel), List.mem_of_getElem? (i := 1407) (by decide +kernel), List.mem_of_getElem? (i := 1408) (by decide +kernel)⟩
theorem lw_p77 : lw_okq (⟨"LoopGuessesModel", "draw", "(I)I"⟩, 51) := ⟨⟨by decide +kernel, by decide +kernel⟩, List.mem_of_getElem? (i := 921) (by decide +kernel), List.mem_of_getElem? (i := 1411) (by decide +kernel), List.mem_of_getElem? (i := 1412) (by decide +kernel)⟩
theorem lw_p78 : lw_okq (⟨"LoopGuessesModel", "step", "()I"⟩, 51) := ⟨⟨by decide +kernel, by decide +kernel⟩, List.mem_of_getElem? (i := 921) (by decide +kernel), List.mem_of_getElem? (i := 1417) (by decide +kernel), List.mem_of_getElem? (i := 1418) (by decide +kernel)⟩
def lw_privs_5 : List (MethodName × Nat) := [(⟨"LoopGuessesModel", "goOnFresh", "(I)Z"⟩, 51), (⟨"LoopGuessesModel", "manyAt", "(I)I"⟩, 51), (⟨"LoopGuessesModel", "manyGuessed", "(I)I"⟩, 51), (⟨"LoopGuessesModel", "note", "()V"⟩, 51), (⟨"LoopGuessesModel", "provedBy", "([II)I"⟩, 51), (⟨"LoopGuessesModel", "layTrial", "()V"⟩, 51), (⟨"LoopGuessesModel", "judged", "(IIII)Z"⟩, 51), (⟨"LoopGuessesModel", "isReachedAtEnd", "(I)Z"⟩, 51), (⟨"LoopGuessesModel", "isState", "(I)Z"⟩, 51), (⟨"LoopGuessesModel", "leave", "(II)V"⟩, 51), (⟨"LoopGuessesModel", "layCans", "(I)V"⟩, 51), (⟨"LoopGuessesModel", "can", "(III)Z"⟩, 51), (⟨"LoopGuessesModel", "run", "()I"⟩, 51), (⟨"LoopGuessesModel", "draw", "(I)I"⟩, 51), (⟨"LoopGuessesModel", "step", "()I"⟩, 51)]
theorem lw_r5 : ∀ q ∈ lw_privs_5, lw_okq q := List.forall_mem_cons.mpr ⟨lw_p64, List.forall_mem_cons.mpr ⟨lw_p65, List.forall_mem_cons.mpr ⟨lw_p66, List.forall_mem_cons.mpr ⟨lw_p67, List.forall_mem_cons.mpr ⟨lw_p68, List.forall_mem_cons.mpr ⟨lw_p69, List.forall_mem_cons.mpr ⟨lw_p70, List.forall_mem_cons.mpr ⟨lw_p71, List.forall_mem_cons.mpr ⟨lw_p72, List.forall_mem_cons.mpr ⟨lw_p73, List.forall_mem_cons.mpr ⟨lw_p74, List.forall_mem_cons.mpr ⟨lw_p75, List.forall_mem_cons.mpr ⟨lw_p76, List.forall_mem_cons.mpr ⟨lw_p77, List.forall_mem_cons.mpr ⟨lw_p78, fun _ h => absurd h List.not_mem_nil⟩⟩⟩⟩⟩⟩⟩⟩⟩⟩⟩⟩⟩⟩⟩
def lw_privs : List (MethodName × Nat) := lw_privs_1 ++ (lw_privs_2 ++ (lw_privs_3 ++ (lw_privs_4 ++ (lw_privs_5))))
def lw_tbl : List Cond := k2_sels lw_privs ++ tables_1
theorem lw_privs_ok : ∀ q ∈ lw_privs, lw_okq q := by
  show ∀ q ∈ lw_privs_1 ++ (lw_privs_2 ++ (lw_privs_3 ++ (lw_privs_4 ++ (lw_privs_5)))), lw_okq q
  exact List.forall_mem_append.mpr ⟨lw_r1, List.forall_mem_append.mpr ⟨lw_r2, List.forall_mem_append.mpr ⟨lw_r3, List.forall_mem_append.mpr ⟨lw_r4, lw_r5⟩⟩⟩⟩
end
section
def RX0 : String := "LoopGuesses$Analysis"
def TX0 : u_T := fun k => match k with
  | 0 => ("LoopGuesses$Analysis", "code", "LLoopGuesses$Code;", false)
  | 1 => ("LoopGuesses$Analysis", "lookedAt", "I", false)
  | 2 => ("LoopGuesses$Analysis", "begin", "LLoopGuesses$States;", true)
  | 3 => ("LoopGuesses$Analysis", "reached", "LLoopGuesses$Flow;", true)
  | 4 => ("LoopGuesses$Analysis", "reachedFound", "Z", false)
  | 5 => ("LoopGuesses$Analysis", "present", "LLoopGuesses$Invariants;", true)
  | 6 => ("LoopGuesses$Analysis", "presentFor", "I", false)
  | 7 => ("LoopGuesses$Analysis", "trial", "LLoopGuesses$Invariants;", true)
  | 8 => ("LoopGuesses$Analysis", "provedBy", "[I", true)
  | 9 => ("LoopGuesses$Analysis", "blame", "LLoopGuesses$Blame;", true)
  | 10 => ("LoopGuesses$Analysis", "failing", "[LLoopGuesses$States;", true)
  | _ => ("LoopGuesses$Analysis", "failingFound", "I", false)
def tyX0 : Nat → FieldType := fun k => match k with
  | 0 => .object "LoopGuesses$Code"
  | 1 => .int
  | 2 => .object "LoopGuesses$States"
  | 3 => .object "LoopGuesses$Flow"
  | 4 => .boolean
  | 5 => .object "LoopGuesses$Invariants"
  | 6 => .int
  | 7 => .object "LoopGuesses$Invariants"
  | 8 => .array .int
  | 9 => .object "LoopGuesses$Blame"
  | 10 => .array (.object "LoopGuesses$States")
  | _ => .int
abbrev wsX00 : List Cond := u_ws RX0 TX0 12
theorem nmX0 : ∀ a, a < 12 → ∀ b, b < 12 → a ≠ b → (TX0 a).2.1 ≠ (TX0 b).2.1 := by decide +kernel
theorem tyX0_ok : ∀ k, k < 12 → parseFieldDescriptor (TX0 k).2.2.1 = some (tyX0 k) := by decide +kernel
abbrev cX0_init : ByteArray := prog_2_method_1_code
def yX0_init : MethodName := ⟨RX0, "<init>", "(LLoopGuesses$Code;)V"⟩
abbrev cX0_forget : ByteArray := prog_2_method_2_code
def yX0_forget : MethodName := ⟨RX0, "forget", "(LLoopGuesses$Code;)V"⟩
abbrev cX0_lookAt : ByteArray := prog_2_method_3_code
def yX0_lookAt : MethodName := ⟨RX0, "lookAt", "(LLoopGuesses$Setup;)V"⟩
abbrev cX0_reached : ByteArray := prog_2_method_4_code
def yX0_reached : MethodName := ⟨RX0, "reached", "()LLoopGuesses$Flow;"⟩
abbrev cX0_invariants : ByteArray := prog_2_method_5_code
def yX0_invariants : MethodName := ⟨RX0, "invariants", "(I)LLoopGuesses$Invariants;"⟩
abbrev cX0_proved : ByteArray := prog_2_method_6_code
def yX0_proved : MethodName := ⟨RX0, "proved", "(I)I"⟩
abbrev cX0_firstFalse : ByteArray := prog_2_method_7_code
def yX0_firstFalse : MethodName := ⟨RX0, "firstFalse", "(III)I"⟩
abbrev cX0_failing : ByteArray := prog_2_method_8_code
def yX0_failing : MethodName := ⟨RX0, "failing", "(I)LLoopGuesses$States;"⟩
def RX1 : String := "LoopGuesses$Blame"
def TX1 : u_T := fun k => match k with
  | 0 => ("LoopGuesses$Blame", "now", "LLoopGuesses$States;", true)
  | 1 => ("LoopGuesses$Blame", "atLoop", "[LLoopGuesses$States;", true)
  | 2 => ("LoopGuesses$Blame", "behindLoop", "[LLoopGuesses$States;", true)
  | 3 => ("LoopGuesses$Blame", "behindChoice", "[LLoopGuesses$States;", true)
  | _ => ("LoopGuesses$Blame", "atBar", "[LLoopGuesses$States;", true)
def tyX1 : Nat → FieldType := fun k => match k with
  | 0 => .object "LoopGuesses$States"
  | 1 => .array (.object "LoopGuesses$States")
  | 2 => .array (.object "LoopGuesses$States")
  | 3 => .array (.object "LoopGuesses$States")
  | _ => .array (.object "LoopGuesses$States")
abbrev wsX10 : List Cond := u_ws RX1 TX1 5
theorem nmX1 : ∀ a, a < 5 → ∀ b, b < 5 → a ≠ b → (TX1 a).2.1 ≠ (TX1 b).2.1 := by decide +kernel
theorem tyX1_ok : ∀ k, k < 5 → parseFieldDescriptor (TX1 k).2.2.1 = some (tyX1 k) := by decide +kernel
abbrev cX1_init : ByteArray := prog_3_method_1_code
def yX1_init : MethodName := ⟨RX1, "<init>", "()V"⟩
abbrev cX1_find : ByteArray := prog_3_method_2_code
def yX1_find : MethodName := ⟨RX1, "find", "(LLoopGuesses$Code;ILLoopGuesses$States;)V"⟩
abbrev cX1_pass : ByteArray := prog_3_method_3_code
def yX1_pass : MethodName := ⟨RX1, "pass", "(LLoopGuesses$Code;I)Z"⟩
abbrev cX1_passSimple : ByteArray := prog_3_method_4_code
def yX1_passSimple : MethodName := ⟨RX1, "passSimple", "(LLoopGuesses$Step;I)V"⟩
abbrev cX1_passLoop : ByteArray := prog_3_method_5_code
def yX1_passLoop : MethodName := ⟨RX1, "passLoop", "(LLoopGuesses$Step;)Z"⟩
abbrev cX1_passChoice : ByteArray := prog_3_method_6_code
def yX1_passChoice : MethodName := ⟨RX1, "passChoice", "(LLoopGuesses$Step;)V"⟩
def RX2 : String := "LoopGuesses$Code"
def TX2 : u_T := fun k => match k with
  | 0 => ("LoopGuesses$Code", "steps", "[LLoopGuesses$Step;", true)
  | 1 => ("LoopGuesses$Code", "length", "I", false)
  | 2 => ("LoopGuesses$Code", "conditions", "[LLoopGuesses$Condition;", true)
  | 3 => ("LoopGuesses$Code", "used", "I", false)
  | 4 => ("LoopGuesses$Code", "guessConditions", "[LLoopGuesses$Condition;", true)
  | 5 => ("LoopGuesses$Code", "checkConditions", "[LLoopGuesses$Condition;", true)
  | 6 => ("LoopGuesses$Code", "guesses", "I", false)
  | 7 => ("LoopGuesses$Code", "checks", "I", false)
  | 8 => ("LoopGuesses$Code", "loops", "I", false)
  | 9 => ("LoopGuesses$Code", "choices", "I", false)
  | _ => ("LoopGuesses$Code", "statements", "I", false)
def tyX2 : Nat → FieldType := fun k => match k with
  | 0 => .array (.object "LoopGuesses$Step")
  | 1 => .int
  | 2 => .array (.object "LoopGuesses$Condition")
  | 3 => .int
  | 4 => .array (.object "LoopGuesses$Condition")
  | 5 => .array (.object "LoopGuesses$Condition")
  | 6 => .int
  | 7 => .int
  | 8 => .int
  | 9 => .int
  | _ => .int
abbrev wsX20 : List Cond := u_ws RX2 TX2 11
theorem nmX2 : ∀ a, a < 11 → ∀ b, b < 11 → a ≠ b → (TX2 a).2.1 ≠ (TX2 b).2.1 := by decide +kernel
theorem tyX2_ok : ∀ k, k < 11 → parseFieldDescriptor (TX2 k).2.2.1 = some (tyX2 k) := by decide +kernel
abbrev cX2_init : ByteArray := prog_4_method_1_code
def yX2_init : MethodName := ⟨RX2, "<init>", "()V"⟩
abbrev cX2_clear : ByteArray := prog_4_method_2_code
def yX2_clear : MethodName := ⟨RX2, "clear", "()V"⟩
abbrev cX2_at : ByteArray := prog_4_method_3_code
def yX2_at : MethodName := ⟨RX2, "at", "(I)LLoopGuesses$Step;"⟩
abbrev cX2_append : ByteArray := prog_4_method_4_code
def yX2_append : MethodName := ⟨RX2, "append", "(I)LLoopGuesses$Step;"⟩
abbrev cX2_newCondition : ByteArray := prog_4_method_5_code
def yX2_newCondition : MethodName := ⟨RX2, "newCondition", "(III)LLoopGuesses$Condition;"⟩
abbrev cX2_appendCheck : ByteArray := prog_4_method_6_code
def yX2_appendCheck : MethodName := ⟨RX2, "appendCheck", "(LLoopGuesses$Condition;)V"⟩
abbrev cX2_appendGuess : ByteArray := prog_4_method_7_code
def yX2_appendGuess : MethodName := ⟨RX2, "appendGuess", "(LLoopGuesses$Condition;)V"⟩
abbrev cX2_findTruths : ByteArray := prog_4_method_8_code
def yX2_findTruths : MethodName := ⟨RX2, "findTruths", "()V"⟩
abbrev cX2_fulfilled : ByteArray := prog_4_method_9_code
def yX2_fulfilled : MethodName := ⟨RX2, "fulfilled", "(LLoopGuesses$Flow;)I"⟩
def RX3 : String := "LoopGuesses$Condition"
def TX3 : u_T := fun k => match k with
  | 0 => ("LoopGuesses$Condition", "variable", "I", false)
  | 1 => ("LoopGuesses$Condition", "sign", "I", false)
  | 2 => ("LoopGuesses$Condition", "term", "I", false)
  | _ => ("LoopGuesses$Condition", "truths", "LLoopGuesses$States;", true)
def tyX3 : Nat → FieldType := fun k => match k with
  | 0 => .int
  | 1 => .int
  | 2 => .int
  | _ => .object "LoopGuesses$States"
abbrev wsX30 : List Cond := u_ws RX3 TX3 4
theorem nmX3 : ∀ a, a < 4 → ∀ b, b < 4 → a ≠ b → (TX3 a).2.1 ≠ (TX3 b).2.1 := by decide +kernel
theorem tyX3_ok : ∀ k, k < 4 → parseFieldDescriptor (TX3 k).2.2.1 = some (tyX3 k) := by decide +kernel
abbrev cX3_init : ByteArray := prog_5_method_1_code
def yX3_init : MethodName := ⟨RX3, "<init>", "()V"⟩
abbrev cX3_put : ByteArray := prog_5_method_2_code
def yX3_put : MethodName := ⟨RX3, "put", "(III)V"⟩
abbrev cX3_isTrue : ByteArray := prog_5_method_3_code
def yX3_isTrue : MethodName := ⟨RX3, "isTrue", "(III)Z"⟩
abbrev cX3_value : ByteArray := prog_5_method_4_code
def yX3_value : MethodName := ⟨RX3, "value", "(III)I"⟩
abbrev cX3_pick : ByteArray := prog_5_method_5_code
def yX3_pick : MethodName := ⟨RX3, "pick", "(IIII)I"⟩
abbrev cX3_findTruths : ByteArray := prog_5_method_6_code
def yX3_findTruths : MethodName := ⟨RX3, "findTruths", "()V"⟩
def RX4 : String := "LoopGuesses$Flow"
def TX4 : u_T := fun k => match k with
  | 0 => ("LoopGuesses$Flow", "now", "LLoopGuesses$States;", true)
  | 1 => ("LoopGuesses$Flow", "come", "[LLoopGuesses$States;", true)
  | 2 => ("LoopGuesses$Flow", "inside", "[LLoopGuesses$States;", true)
  | 3 => ("LoopGuesses$Flow", "atCheck", "[LLoopGuesses$States;", true)
  | 4 => ("LoopGuesses$Flow", "atChoice", "[LLoopGuesses$States;", true)
  | _ => ("LoopGuesses$Flow", "atBar", "[LLoopGuesses$States;", true)
def tyX4 : Nat → FieldType := fun k => match k with
  | 0 => .object "LoopGuesses$States"
  | 1 => .array (.object "LoopGuesses$States")
  | 2 => .array (.object "LoopGuesses$States")
  | 3 => .array (.object "LoopGuesses$States")
  | 4 => .array (.object "LoopGuesses$States")
  | _ => .array (.object "LoopGuesses$States")
abbrev wsX40 : List Cond := u_ws RX4 TX4 6
theorem nmX4 : ∀ a, a < 6 → ∀ b, b < 6 → a ≠ b → (TX4 a).2.1 ≠ (TX4 b).2.1 := by decide +kernel
theorem tyX4_ok : ∀ k, k < 6 → parseFieldDescriptor (TX4 k).2.2.1 = some (tyX4 k) := by decide +kernel
abbrev cX4_init : ByteArray := prog_6_method_1_code
def yX4_init : MethodName := ⟨RX4, "<init>", "()V"⟩
abbrev cX4_assign : ByteArray := prog_6_method_2_code
def yX4_assign : MethodName := ⟨RX4, "assign", "(LLoopGuesses$Code;[I)V"⟩
abbrev cX4_reach : ByteArray := prog_6_method_3_code
def yX4_reach : MethodName := ⟨RX4, "reach", "(LLoopGuesses$Code;LLoopGuesses$States;)V"⟩
abbrev cX4_pass : ByteArray := prog_6_method_4_code
def yX4_pass : MethodName := ⟨RX4, "pass", "(LLoopGuesses$Code;LLoopGuesses$States;[LLoopGuesses$States;)Z"⟩
abbrev cX4_passSimple : ByteArray := prog_6_method_5_code
def yX4_passSimple : MethodName := ⟨RX4, "passSimple", "(LLoopGuesses$Step;)V"⟩
abbrev cX4_passLoop : ByteArray := prog_6_method_6_code
def yX4_passLoop : MethodName := ⟨RX4, "passLoop", "(LLoopGuesses$Step;[LLoopGuesses$States;)Z"⟩
abbrev cX4_passChoice : ByteArray := prog_6_method_7_code
def yX4_passChoice : MethodName := ⟨RX4, "passChoice", "(LLoopGuesses$Step;)V"⟩
def RX5 : String := "LoopGuesses$Invariants"
def TX5 : u_T := fun k => match k with
  | 0 => ("LoopGuesses$Invariants", "flow", "LLoopGuesses$Flow;", true)
  | _ => ("LoopGuesses$Invariants", "given", "[I", true)
def tyX5 : Nat → FieldType := fun k => match k with
  | 0 => .object "LoopGuesses$Flow"
  | _ => .array .int
abbrev wsX50 : List Cond := u_ws RX5 TX5 2
theorem nmX5 : ∀ a, a < 2 → ∀ b, b < 2 → a ≠ b → (TX5 a).2.1 ≠ (TX5 b).2.1 := by decide +kernel
theorem tyX5_ok : ∀ k, k < 2 → parseFieldDescriptor (TX5 k).2.2.1 = some (tyX5 k) := by decide +kernel
abbrev cX5_init : ByteArray := prog_7_method_1_code
def yX5_init : MethodName := ⟨RX5, "<init>", "()V"⟩
abbrev cX5_find : ByteArray := prog_7_method_2_code
def yX5_find : MethodName := ⟨RX5, "find", "(LLoopGuesses$Code;LLoopGuesses$States;I)V"⟩
abbrev cX5_falseGuesses : ByteArray := prog_7_method_3_code
def yX5_falseGuesses : MethodName := ⟨RX5, "falseGuesses", "(LLoopGuesses$Code;I)I"⟩
def RX6 : String := "LoopGuesses$Reader"
def TX6 : u_T := fun k => match k with
  | 0 => ("LoopGuesses$Reader", "expected", "I", false)
  | 1 => ("LoopGuesses$Reader", "owner", "I", false)
  | 2 => ("LoopGuesses$Reader", "variable", "I", false)
  | 3 => ("LoopGuesses$Reader", "sign", "I", false)
  | 4 => ("LoopGuesses$Reader", "open", "[I", true)
  | _ => ("LoopGuesses$Reader", "depth", "I", false)
def tyX6 : Nat → FieldType := fun k => match k with
  | 0 => .int
  | 1 => .int
  | 2 => .int
  | 3 => .int
  | 4 => .array .int
  | _ => .int
abbrev wsX60 : List Cond := u_ws RX6 TX6 6
theorem nmX6 : ∀ a, a < 6 → ∀ b, b < 6 → a ≠ b → (TX6 a).2.1 ≠ (TX6 b).2.1 := by decide +kernel
theorem tyX6_ok : ∀ k, k < 6 → parseFieldDescriptor (TX6 k).2.2.1 = some (tyX6 k) := by decide +kernel
abbrev cX6_init : ByteArray := prog_8_method_1_code
def yX6_init : MethodName := ⟨RX6, "<init>", "()V"⟩
abbrev cX6_read : ByteArray := prog_8_method_2_code
def yX6_read : MethodName := ⟨RX6, "read", "([CILLoopGuesses$Code;)I"⟩
abbrev cX6_take : ByteArray := prog_8_method_3_code
def yX6_take : MethodName := ⟨RX6, "take", "(CLLoopGuesses$Code;)Z"⟩
abbrev cX6_isName : ByteArray := prog_8_method_4_code
def yX6_isName : MethodName := ⟨RX6, "isName", "(C)Z"⟩
abbrev cX6_term : ByteArray := prog_8_method_5_code
def yX6_term : MethodName := ⟨RX6, "term", "(C)I"⟩
abbrev cX6_takeStatement : ByteArray := prog_8_method_6_code
def yX6_takeStatement : MethodName := ⟨RX6, "takeStatement", "(CLLoopGuesses$Code;)Z"⟩
abbrev cX6_beginGuess : ByteArray := prog_8_method_7_code
def yX6_beginGuess : MethodName := ⟨RX6, "beginGuess", "(LLoopGuesses$Code;)Z"⟩
abbrev cX6_expectCondition : ByteArray := prog_8_method_8_code
def yX6_expectCondition : MethodName := ⟨RX6, "expectCondition", "(I)Z"⟩
abbrev cX6_takeOperation : ByteArray := prog_8_method_9_code
def yX6_takeOperation : MethodName := ⟨RX6, "takeOperation", "(CLLoopGuesses$Code;)Z"⟩
abbrev cX6_appendChange : ByteArray := prog_8_method_10_code
def yX6_appendChange : MethodName := ⟨RX6, "appendChange", "(ILLoopGuesses$Code;)Z"⟩
abbrev cX6_takeNewValue : ByteArray := prog_8_method_11_code
def yX6_takeNewValue : MethodName := ⟨RX6, "takeNewValue", "(ILLoopGuesses$Code;)Z"⟩
abbrev cX6_takeLeft : ByteArray := prog_8_method_12_code
def yX6_takeLeft : MethodName := ⟨RX6, "takeLeft", "(C)Z"⟩
abbrev cX6_takeSign : ByteArray := prog_8_method_13_code
def yX6_takeSign : MethodName := ⟨RX6, "takeSign", "(C)Z"⟩
abbrev cX6_takeRight : ByteArray := prog_8_method_14_code
def yX6_takeRight : MethodName := ⟨RX6, "takeRight", "(ILLoopGuesses$Code;)Z"⟩
abbrev cX6_openLoop : ByteArray := prog_8_method_15_code
def yX6_openLoop : MethodName := ⟨RX6, "openLoop", "(LLoopGuesses$Condition;LLoopGuesses$Code;)V"⟩
abbrev cX6_openChoice : ByteArray := prog_8_method_16_code
def yX6_openChoice : MethodName := ⟨RX6, "openChoice", "(LLoopGuesses$Code;)Z"⟩
abbrev cX6_push : ByteArray := prog_8_method_17_code
def yX6_push : MethodName := ⟨RX6, "push", "(I)V"⟩
abbrev cX6_innermost : ByteArray := prog_8_method_18_code
def yX6_innermost : MethodName := ⟨RX6, "innermost", "(ILLoopGuesses$Code;)I"⟩
abbrev cX6_closeLoop : ByteArray := prog_8_method_19_code
def yX6_closeLoop : MethodName := ⟨RX6, "closeLoop", "(LLoopGuesses$Code;)Z"⟩
abbrev cX6_passBar : ByteArray := prog_8_method_20_code
def yX6_passBar : MethodName := ⟨RX6, "passBar", "(IILLoopGuesses$Code;)Z"⟩
def RX7 : String := "LoopGuesses$Runner"
def TX7 : u_T := fun k => match k with
  | 0 => ("LoopGuesses$Runner", "seed", "J", false)
  | _ => ("LoopGuesses$Runner", "values", "[I", true)
def tyX7 : Nat → FieldType := fun k => match k with
  | 0 => .long
  | _ => .array .int
abbrev wsX70 : List Cond := u_ws RX7 TX7 2
theorem nmX7 : ∀ a, a < 2 → ∀ b, b < 2 → a ≠ b → (TX7 a).2.1 ≠ (TX7 b).2.1 := by decide +kernel
theorem tyX7_ok : ∀ k, k < 2 → parseFieldDescriptor (TX7 k).2.2.1 = some (tyX7 k) := by decide +kernel
abbrev cX7_init : ByteArray := prog_9_method_1_code
def yX7_init : MethodName := ⟨RX7, "<init>", "()V"⟩
abbrev cX7_draw : ByteArray := prog_9_method_2_code
def yX7_draw : MethodName := ⟨RX7, "draw", "(I)I"⟩
abbrev cX7_run : ByteArray := prog_9_method_3_code
def yX7_run : MethodName := ⟨RX7, "run", "(LLoopGuesses$Code;LLoopGuesses$Setup;)I"⟩
abbrev cX7_isTrue : ByteArray := prog_9_method_4_code
def yX7_isTrue : MethodName := ⟨RX7, "isTrue", "(LLoopGuesses$Step;)Z"⟩
abbrev cX7_change : ByteArray := prog_9_method_5_code
def yX7_change : MethodName := ⟨RX7, "change", "(LLoopGuesses$Step;)V"⟩
abbrev cX7_next : ByteArray := prog_9_method_6_code
def yX7_next : MethodName := ⟨RX7, "next", "(LLoopGuesses$Step;I)I"⟩
def RX8 : String := "LoopGuesses$Setup"
def TX8 : u_T := fun k => match k with
  | 0 => ("LoopGuesses$Setup", "start", "[I", true)
  | _ => ("LoopGuesses$Setup", "off", "I", false)
def tyX8 : Nat → FieldType := fun k => match k with
  | 0 => .array .int
  | _ => .int
abbrev wsX80 : List Cond := u_ws RX8 TX8 2
theorem nmX8 : ∀ a, a < 2 → ∀ b, b < 2 → a ≠ b → (TX8 a).2.1 ≠ (TX8 b).2.1 := by decide +kernel
theorem tyX8_ok : ∀ k, k < 2 → parseFieldDescriptor (TX8 k).2.2.1 = some (tyX8 k) := by decide +kernel
abbrev cX8_init : ByteArray := prog_10_method_1_code
def yX8_init : MethodName := ⟨RX8, "<init>", "()V"⟩
abbrev cX8_reset : ByteArray := prog_10_method_2_code
def yX8_reset : MethodName := ⟨RX8, "reset", "()V"⟩
abbrev cX8_packedStart : ByteArray := prog_10_method_3_code
def yX8_packedStart : MethodName := ⟨RX8, "packedStart", "()I"⟩
abbrev cX8_packed : ByteArray := prog_10_method_4_code
def yX8_packed : MethodName := ⟨RX8, "packed", "()I"⟩
abbrev cX8_unpack : ByteArray := prog_10_method_5_code
def yX8_unpack : MethodName := ⟨RX8, "unpack", "(I)V"⟩
abbrev cX8_putStart : ByteArray := prog_10_method_6_code
def yX8_putStart : MethodName := ⟨RX8, "putStart", "(II)Z"⟩
abbrev cX8_putOff : ByteArray := prog_10_method_7_code
def yX8_putOff : MethodName := ⟨RX8, "putOff", "(II)Z"⟩
abbrev cX8_fillIn : ByteArray := prog_10_method_8_code
def yX8_fillIn : MethodName := ⟨RX8, "fillIn", "(LLoopGuesses$States;)V"⟩
def RX9 : String := "LoopGuesses$States"
def TX9 : u_T := fun k => match k with
  | _ => ("LoopGuesses$States", "planes", "[J", true)
def tyX9 : Nat → FieldType := fun k => match k with
  | _ => .array .long
abbrev wsX90 : List Cond := u_ws RX9 TX9 1
theorem nmX9 : ∀ a, a < 1 → ∀ b, b < 1 → a ≠ b → (TX9 a).2.1 ≠ (TX9 b).2.1 := by decide +kernel
theorem tyX9_ok : ∀ k, k < 1 → parseFieldDescriptor (TX9 k).2.2.1 = some (tyX9 k) := by decide +kernel
abbrev cX9_init : ByteArray := prog_11_method_1_code
def yX9_init : MethodName := ⟨RX9, "<init>", "()V"⟩
abbrev cX9_row : ByteArray := prog_11_method_2_code
def yX9_row : MethodName := ⟨RX9, "row", "(I)[LLoopGuesses$States;"⟩
abbrev cX9_clear : ByteArray := prog_11_method_3_code
def yX9_clear : MethodName := ⟨RX9, "clear", "()V"⟩
abbrev cX9_fill : ByteArray := prog_11_method_4_code
def yX9_fill : MethodName := ⟨RX9, "fill", "()V"⟩
abbrev cX9_copy : ByteArray := prog_11_method_5_code
def yX9_copy : MethodName := ⟨RX9, "copy", "(LLoopGuesses$States;)V"⟩
abbrev cX9_unite : ByteArray := prog_11_method_6_code
def yX9_unite : MethodName := ⟨RX9, "unite", "(LLoopGuesses$States;)Z"⟩
abbrev cX9_meet : ByteArray := prog_11_method_7_code
def yX9_meet : MethodName := ⟨RX9, "meet", "(LLoopGuesses$States;)V"⟩
abbrev cX9_remove : ByteArray := prog_11_method_8_code
def yX9_remove : MethodName := ⟨RX9, "remove", "(LLoopGuesses$States;)V"⟩
abbrev cX9_addMissing : ByteArray := prog_11_method_9_code
def yX9_addMissing : MethodName := ⟨RX9, "addMissing", "(LLoopGuesses$States;)V"⟩
abbrev cX9_count : ByteArray := prog_11_method_10_code
def yX9_count : MethodName := ⟨RX9, "count", "()I"⟩
abbrev cX9_smallest : ByteArray := prog_11_method_11_code
def yX9_smallest : MethodName := ⟨RX9, "smallest", "()I"⟩
abbrev cX9_smallestOutside : ByteArray := prog_11_method_12_code
def yX9_smallestOutside : MethodName := ⟨RX9, "smallestOutside", "(LLoopGuesses$States;)I"⟩
abbrev cX9_number : ByteArray := prog_11_method_13_code
def yX9_number : MethodName := ⟨RX9, "number", "(IJ)I"⟩
abbrev cX9_isWithin : ByteArray := prog_11_method_14_code
def yX9_isWithin : MethodName := ⟨RX9, "isWithin", "(LLoopGuesses$States;)Z"⟩
abbrev cX9_isState : ByteArray := prog_11_method_15_code
def yX9_isState : MethodName := ⟨RX9, "isState", "(III)Z"⟩
abbrev cX9_has : ByteArray := prog_11_method_16_code
def yX9_has : MethodName := ⟨RX9, "has", "(III)Z"⟩
abbrev cX9_add : ByteArray := prog_11_method_17_code
def yX9_add : MethodName := ⟨RX9, "add", "(III)V"⟩
abbrev cX9_meetValue : ByteArray := prog_11_method_18_code
def yX9_meetValue : MethodName := ⟨RX9, "meetValue", "(II)V"⟩
abbrev cX9_free : ByteArray := prog_11_method_19_code
def yX9_free : MethodName := ⟨RX9, "free", "(I)V"⟩
abbrev cX9_shift : ByteArray := prog_11_method_20_code
def yX9_shift : MethodName := ⟨RX9, "shift", "(IZZ)V"⟩
def RX10 : String := "LoopGuesses$Step"
def TX10 : u_T := fun k => match k with
  | 0 => ("LoopGuesses$Step", "kind", "I", false)
  | 1 => ("LoopGuesses$Step", "variable", "I", false)
  | 2 => ("LoopGuesses$Step", "number", "I", false)
  | 3 => ("LoopGuesses$Step", "partner", "I", false)
  | _ => ("LoopGuesses$Step", "condition", "LLoopGuesses$Condition;", false)
def tyX10 : Nat → FieldType := fun k => match k with
  | 0 => .int
  | 1 => .int
  | 2 => .int
  | 3 => .int
  | _ => .object "LoopGuesses$Condition"
abbrev wsX100 : List Cond := u_ws RX10 TX10 5
theorem nmX10 : ∀ a, a < 5 → ∀ b, b < 5 → a ≠ b → (TX10 a).2.1 ≠ (TX10 b).2.1 := by decide +kernel
theorem tyX10_ok : ∀ k, k < 5 → parseFieldDescriptor (TX10 k).2.2.1 = some (tyX10 k) := by decide +kernel
abbrev cX10_init : ByteArray := prog_12_method_1_code
def yX10_init : MethodName := ⟨RX10, "<init>", "(LLoopGuesses$Condition;)V"⟩
abbrev cX10_isStatement : ByteArray := prog_12_method_2_code
def yX10_isStatement : MethodName := ⟨RX10, "isStatement", "()Z"⟩
def RX11 : String := "LoopGuesses"
def TX11 : u_T := fun k => match k with
  | 0 => ("LoopGuesses", "text", "[C", true)
  | 1 => ("LoopGuesses", "letters", "I", false)
  | 2 => ("LoopGuesses", "reader", "LLoopGuesses$Reader;", true)
  | 3 => ("LoopGuesses", "code", "LLoopGuesses$Code;", false)
  | 4 => ("LoopGuesses", "draft", "LLoopGuesses$Code;", false)
  | 5 => ("LoopGuesses", "setup", "LLoopGuesses$Setup;", true)
  | 6 => ("LoopGuesses", "supposed", "LLoopGuesses$Setup;", true)
  | 7 => ("LoopGuesses", "past", "[I", true)
  | 8 => ("LoopGuesses", "acts", "I", false)
  | 9 => ("LoopGuesses", "slots", "[I", true)
  | 10 => ("LoopGuesses", "seenCheck", "[I", true)
  | 11 => ("LoopGuesses", "seenWas", "[I", true)
  | 12 => ("LoopGuesses", "seen", "I", false)
  | 13 => ("LoopGuesses", "lines", "[I", true)
  | 14 => ("LoopGuesses", "agreeing", "LLoopGuesses$States;", true)
  | 15 => ("LoopGuesses", "analysis", "LLoopGuesses$Analysis;", true)
  | _ => ("LoopGuesses", "runner", "LLoopGuesses$Runner;", true)
def tyX11 : Nat → FieldType := fun k => match k with
  | 0 => .array .char
  | 1 => .int
  | 2 => .object "LoopGuesses$Reader"
  | 3 => .object "LoopGuesses$Code"
  | 4 => .object "LoopGuesses$Code"
  | 5 => .object "LoopGuesses$Setup"
  | 6 => .object "LoopGuesses$Setup"
  | 7 => .array .int
  | 8 => .int
  | 9 => .array .int
  | 10 => .array .int
  | 11 => .array .int
  | 12 => .int
  | 13 => .array .int
  | 14 => .object "LoopGuesses$States"
  | 15 => .object "LoopGuesses$Analysis"
  | _ => .object "LoopGuesses$Runner"
abbrev wsX110 : List Cond := u_ws RX11 TX11 17
theorem nmX11 : ∀ a, a < 17 → ∀ b, b < 17 → a ≠ b → (TX11 a).2.1 ≠ (TX11 b).2.1 := by decide +kernel
theorem tyX11_ok : ∀ k, k < 17 → parseFieldDescriptor (TX11 k).2.2.1 = some (tyX11 k) := by decide +kernel
abbrev cX11_init : ByteArray := prog_1_method_1_code
def yX11_init : MethodName := ⟨RX11, "<init>", "()V"⟩
abbrev cX11_write : ByteArray := prog_1_method_2_code
def yX11_write : MethodName := ⟨RX11, "write", "(I)I"⟩
abbrev cX11_wipe : ByteArray := prog_1_method_3_code
def yX11_wipe : MethodName := ⟨RX11, "wipe", "()I"⟩
abbrev cX11_fault : ByteArray := prog_1_method_4_code
def yX11_fault : MethodName := ⟨RX11, "fault", "()I"⟩
abbrev cX11_program : ByteArray := prog_1_method_5_code
def yX11_program : MethodName := ⟨RX11, "program", "()I"⟩
abbrev cX11_emptySlots : ByteArray := prog_1_method_6_code
def yX11_emptySlots : MethodName := ⟨RX11, "emptySlots", "()V"⟩
abbrev cX11_about : ByteArray := prog_1_method_7_code
def yX11_about : MethodName := ⟨RX11, "about", "(I)I"⟩
abbrev cX11_loop : ByteArray := prog_1_method_8_code
def yX11_loop : MethodName := ⟨RX11, "loop", "(II)I"⟩
abbrev cX11_check : ByteArray := prog_1_method_9_code
def yX11_check : MethodName := ⟨RX11, "check", "(II)I"⟩
abbrev cX11_start : ByteArray := prog_1_method_10_code
def yX11_start : MethodName := ⟨RX11, "start", "(I)I"⟩
abbrev cX11_begin : ByteArray := prog_1_method_11_code
def yX11_begin : MethodName := ⟨RX11, "begin", "(II)I"⟩
abbrev cX11_turn : ByteArray := prog_1_method_12_code
def yX11_turn : MethodName := ⟨RX11, "turn", "(I)I"⟩
abbrev cX11_remember : ByteArray := prog_1_method_13_code
def yX11_remember : MethodName := ⟨RX11, "remember", "()V"⟩
abbrev cX11_undo : ByteArray := prog_1_method_14_code
def yX11_undo : MethodName := ⟨RX11, "undo", "()I"⟩
abbrev cX11_falls : ByteArray := prog_1_method_15_code
def yX11_falls : MethodName := ⟨RX11, "falls", "(II)I"⟩
abbrev cX11_fewest : ByteArray := prog_1_method_16_code
def yX11_fewest : MethodName := ⟨RX11, "fewest", "(I)I"⟩
abbrev cX11_judge : ByteArray := prog_1_method_17_code
def yX11_judge : MethodName := ⟨RX11, "judge", "(IJ)I"⟩
abbrev cX11_stands : ByteArray := prog_1_method_18_code
def yX11_stands : MethodName := ⟨RX11, "stands", "(IIII)Z"⟩
abbrev cX11_share : ByteArray := prog_1_method_19_code
def yX11_share : MethodName := ⟨RX11, "share", "(IZ)I"⟩
abbrev cX11_factorial : ByteArray := prog_1_method_20_code
def yX11_factorial : MethodName := ⟨RX11, "factorial", "(I)I"⟩
abbrev cX11_part : ByteArray := prog_1_method_21_code
def yX11_part : MethodName := ⟨RX11, "part", "(IIZ)I"⟩
abbrev cX11_see : ByteArray := prog_1_method_22_code
def yX11_see : MethodName := ⟨RX11, "see", "(II)I"⟩
abbrev cX11_unsee : ByteArray := prog_1_method_23_code
def yX11_unsee : MethodName := ⟨RX11, "unsee", "()I"⟩
abbrev cX11_which : ByteArray := prog_1_method_24_code
def yX11_which : MethodName := ⟨RX11, "which", "(I)I"⟩
abbrev cX11_findAgreeing : ByteArray := prog_1_method_25_code
def yX11_findAgreeing : MethodName := ⟨RX11, "findAgreeing", "()V"⟩
abbrev cX11_lost : ByteArray := prog_1_method_26_code
def yX11_lost : MethodName := ⟨RX11, "lost", "(IZ)I"⟩
abbrev cX11_power : ByteArray := prog_1_method_27_code
def yX11_power : MethodName := ⟨RX11, "power", "(II)I"⟩
abbrev cX11_seed : ByteArray := prog_1_method_28_code
def yX11_seed : MethodName := ⟨RX11, "seed", "(J)J"⟩
abbrev cX11_drawn : ByteArray := prog_1_method_29_code
def yX11_drawn : MethodName := ⟨RX11, "drawn", "(I)I"⟩
abbrev cX11_keep : ByteArray := prog_1_method_30_code
def yX11_keep : MethodName := ⟨RX11, "keep", "(I)I"⟩
abbrev cX11_again : ByteArray := prog_1_method_31_code
def yX11_again : MethodName := ⟨RX11, "again", "(I)I"⟩
abbrev cX11_active : ByteArray := prog_1_method_32_code
def yX11_active : MethodName := ⟨RX11, "active", "(LLoopGuesses$Setup;)I"⟩
abbrev cX11_view : ByteArray := prog_1_method_33_code
def yX11_view : MethodName := ⟨RX11, "view", "(LLoopGuesses$Setup;)LLoopGuesses$Analysis;"⟩
def RX12 : String := "LoopGuessesModel"
def TX12 : u_T := fun k => match k with
  | 0 => ("LoopGuessesModel", "text", "[I", true)
  | 1 => ("LoopGuessesModel", "length", "I", false)
  | 2 => ("LoopGuessesModel", "kind", "[I", true)
  | 3 => ("LoopGuessesModel", "variable", "[I", true)
  | 4 => ("LoopGuessesModel", "sign", "[I", true)
  | 5 => ("LoopGuessesModel", "term", "[I", true)
  | 6 => ("LoopGuessesModel", "number", "[I", true)
  | 7 => ("LoopGuessesModel", "leads", "[I", true)
  | 8 => ("LoopGuessesModel", "nodes", "I", false)
  | 9 => ("LoopGuessesModel", "checks", "I", false)
  | 10 => ("LoopGuessesModel", "loops", "I", false)
  | 11 => ("LoopGuessesModel", "eithers", "I", false)
  | 12 => ("LoopGuessesModel", "guesses", "I", false)
  | 13 => ("LoopGuessesModel", "guessVariable", "[I", true)
  | 14 => ("LoopGuessesModel", "guessSign", "[I", true)
  | 15 => ("LoopGuessesModel", "guessTerm", "[I", true)
  | 16 => ("LoopGuessesModel", "readKind", "[I", true)
  | 17 => ("LoopGuessesModel", "readVariable", "[I", true)
  | 18 => ("LoopGuessesModel", "readSign", "[I", true)
  | 19 => ("LoopGuessesModel", "readTerm", "[I", true)
  | 20 => ("LoopGuessesModel", "readNumber", "[I", true)
  | 21 => ("LoopGuessesModel", "readLeads", "[I", true)
  | 22 => ("LoopGuessesModel", "readNodes", "I", false)
  | 23 => ("LoopGuessesModel", "readChecks", "I", false)
  | 24 => ("LoopGuessesModel", "readLoops", "I", false)
  | 25 => ("LoopGuessesModel", "readEithers", "I", false)
  | 26 => ("LoopGuessesModel", "readGuesses", "I", false)
  | 27 => ("LoopGuessesModel", "readGuessVariable", "[I", true)
  | 28 => ("LoopGuessesModel", "readGuessSign", "[I", true)
  | 29 => ("LoopGuessesModel", "readGuessTerm", "[I", true)
  | 30 => ("LoopGuessesModel", "open", "[I", true)
  | 31 => ("LoopGuessesModel", "deep", "I", false)
  | 32 => ("LoopGuessesModel", "wanted", "I", false)
  | 33 => ("LoopGuessesModel", "now", "[I", true)
  | 34 => ("LoopGuessesModel", "trial", "[I", true)
  | 35 => ("LoopGuessesModel", "diary", "[I", true)
  | 36 => ("LoopGuessesModel", "doings", "I", false)
  | 37 => ("LoopGuessesModel", "next", "I", false)
  | 38 => ("LoopGuessesModel", "kept", "[I", true)
  | 39 => ("LoopGuessesModel", "isKept", "[Z", true)
  | 40 => ("LoopGuessesModel", "seenCheck", "[I", true)
  | 41 => ("LoopGuessesModel", "seenWas", "[I", true)
  | 42 => ("LoopGuessesModel", "seen", "I", false)
  | 43 => ("LoopGuessesModel", "seed", "J", false)
  | 44 => ("LoopGuessesModel", "comes", "[J", true)
  | 45 => ("LoopGuessesModel", "fresh", "[J", true)
  | 46 => ("LoopGuessesModel", "has", "[I", true)
  | 47 => ("LoopGuessesModel", "mays", "[J", true)
  | 48 => ("LoopGuessesModel", "worth", "[I", true)
  | 49 => ("LoopGuessesModel", "runState", "I", false)
  | _ => ("LoopGuessesModel", "runNode", "I", false)
def tyX12 : Nat → FieldType := fun k => match k with
  | 0 => .array .int
  | 1 => .int
  | 2 => .array .int
  | 3 => .array .int
  | 4 => .array .int
  | 5 => .array .int
  | 6 => .array .int
  | 7 => .array .int
  | 8 => .int
  | 9 => .int
  | 10 => .int
  | 11 => .int
  | 12 => .int
  | 13 => .array .int
  | 14 => .array .int
  | 15 => .array .int
  | 16 => .array .int
  | 17 => .array .int
  | 18 => .array .int
  | 19 => .array .int
  | 20 => .array .int
  | 21 => .array .int
  | 22 => .int
  | 23 => .int
  | 24 => .int
  | 25 => .int
  | 26 => .int
  | 27 => .array .int
  | 28 => .array .int
  | 29 => .array .int
  | 30 => .array .int
  | 31 => .int
  | 32 => .int
  | 33 => .array .int
  | 34 => .array .int
  | 35 => .array .int
  | 36 => .int
  | 37 => .int
  | 38 => .array .int
  | 39 => .array .boolean
  | 40 => .array .int
  | 41 => .array .int
  | 42 => .int
  | 43 => .long
  | 44 => .array .long
  | 45 => .array .long
  | 46 => .array .int
  | 47 => .array .long
  | 48 => .array .int
  | 49 => .int
  | _ => .int
abbrev wsX120 : List Cond := u_ws RX12 TX12 51
theorem nmX12 : ∀ a, a < 51 → ∀ b, b < 51 → a ≠ b → (TX12 a).2.1 ≠ (TX12 b).2.1 := by decide +kernel
theorem tyX12_ok : ∀ k, k < 51 → parseFieldDescriptor (TX12 k).2.2.1 = some (tyX12 k) := by decide +kernel
abbrev cX12_init : ByteArray := prog_14_method_1_code
def yX12_init : MethodName := ⟨RX12, "<init>", "()V"⟩
abbrev cX12_in : ByteArray := prog_14_method_3_code
def yX12_in : MethodName := ⟨RX12, "in", "(JJJ)Z"⟩
abbrev cX12_isIn : ByteArray := prog_14_method_4_code
def yX12_isIn : MethodName := ⟨RX12, "isIn", "(II)Z"⟩
abbrev cX12_ones : ByteArray := prog_14_method_5_code
def yX12_ones : MethodName := ⟨RX12, "ones", "(I)I"⟩
abbrev cX12_power : ByteArray := prog_14_method_6_code
def yX12_power : MethodName := ⟨RX12, "power", "(II)I"⟩
abbrev cX12_factorial : ByteArray := prog_14_method_7_code
def yX12_factorial : MethodName := ⟨RX12, "factorial", "(I)I"⟩
abbrev cX12_divisor : ByteArray := prog_14_method_8_code
def yX12_divisor : MethodName := ⟨RX12, "divisor", "(II)I"⟩
abbrev cX12_fraction : ByteArray := prog_14_method_9_code
def yX12_fraction : MethodName := ⟨RX12, "fraction", "(IIZ)I"⟩
abbrev cX12_write : ByteArray := prog_14_method_10_code
def yX12_write : MethodName := ⟨RX12, "write", "(I)I"⟩
abbrev cX12_wipe : ByteArray := prog_14_method_11_code
def yX12_wipe : MethodName := ⟨RX12, "wipe", "()I"⟩
abbrev cX12_variableOf : ByteArray := prog_14_method_12_code
def yX12_variableOf : MethodName := ⟨RX12, "variableOf", "(I)I"⟩
abbrev cX12_termOf : ByteArray := prog_14_method_13_code
def yX12_termOf : MethodName := ⟨RX12, "termOf", "(I)I"⟩
abbrev cX12_isCompare : ByteArray := prog_14_method_14_code
def yX12_isCompare : MethodName := ⟨RX12, "isCompare", "(I)Z"⟩
abbrev cX12_newNode : ByteArray := prog_14_method_15_code
def yX12_newNode : MethodName := ⟨RX12, "newNode", "(I)V"⟩
abbrev cX12_innermost : ByteArray := prog_14_method_16_code
def yX12_innermost : MethodName := ⟨RX12, "innermost", "()I"⟩
abbrev cX12_takeStatement : ByteArray := prog_14_method_17_code
def yX12_takeStatement : MethodName := ⟨RX12, "takeStatement", "(I)Z"⟩
abbrev cX12_takeAsking : ByteArray := prog_14_method_18_code
def yX12_takeAsking : MethodName := ⟨RX12, "takeAsking", "(I)Z"⟩
abbrev cX12_takeEither : ByteArray := prog_14_method_19_code
def yX12_takeEither : MethodName := ⟨RX12, "takeEither", "()Z"⟩
abbrev cX12_takeClose : ByteArray := prog_14_method_20_code
def yX12_takeClose : MethodName := ⟨RX12, "takeClose", "()Z"⟩
abbrev cX12_takeBar : ByteArray := prog_14_method_21_code
def yX12_takeBar : MethodName := ⟨RX12, "takeBar", "()Z"⟩
abbrev cX12_takeJoin : ByteArray := prog_14_method_22_code
def yX12_takeJoin : MethodName := ⟨RX12, "takeJoin", "()Z"⟩
abbrev cX12_takeGuess : ByteArray := prog_14_method_23_code
def yX12_takeGuess : MethodName := ⟨RX12, "takeGuess", "()Z"⟩
abbrev cX12_takeDeed : ByteArray := prog_14_method_24_code
def yX12_takeDeed : MethodName := ⟨RX12, "takeDeed", "(I)Z"⟩
abbrev cX12_takePart : ByteArray := prog_14_method_25_code
def yX12_takePart : MethodName := ⟨RX12, "takePart", "(II)Z"⟩
abbrev cX12_take : ByteArray := prog_14_method_26_code
def yX12_take : MethodName := ⟨RX12, "take", "(I)Z"⟩
abbrev cX12_readText : ByteArray := prog_14_method_27_code
def yX12_readText : MethodName := ⟨RX12, "readText", "()I"⟩
abbrev cX12_fault : ByteArray := prog_14_method_28_code
def yX12_fault : MethodName := ⟨RX12, "fault", "()I"⟩
abbrev cX12_program : ByteArray := prog_14_method_29_code
def yX12_program : MethodName := ⟨RX12, "program", "()I"⟩
abbrev cX12_isStatement : ByteArray := prog_14_method_30_code
def yX12_isStatement : MethodName := ⟨RX12, "isStatement", "(I)Z"⟩
abbrev cX12_valueOf : ByteArray := prog_14_method_31_code
def yX12_valueOf : MethodName := ⟨RX12, "valueOf", "(II)I"⟩
abbrev cX12_with : ByteArray := prog_14_method_32_code
def yX12_with : MethodName := ⟨RX12, "with", "(III)I"⟩
abbrev cX12_told : ByteArray := prog_14_method_33_code
def yX12_told : MethodName := ⟨RX12, "told", "(I)I"⟩
abbrev cX12_termBy : ByteArray := prog_14_method_34_code
def yX12_termBy : MethodName := ⟨RX12, "termBy", "(II)I"⟩
abbrev cX12_compares : ByteArray := prog_14_method_35_code
def yX12_compares : MethodName := ⟨RX12, "compares", "(IIII)Z"⟩
abbrev cX12_isSo : ByteArray := prog_14_method_36_code
def yX12_isSo : MethodName := ⟨RX12, "isSo", "(II)Z"⟩
abbrev cX12_isGuessed : ByteArray := prog_14_method_37_code
def yX12_isGuessed : MethodName := ⟨RX12, "isGuessed", "(II)Z"⟩
abbrev cX12_areGuessed : ByteArray := prog_14_method_38_code
def yX12_areGuessed : MethodName := ⟨RX12, "areGuessed", "(II)Z"⟩
abbrev cX12_mayBegin : ByteArray := prog_14_method_39_code
def yX12_mayBegin : MethodName := ⟨RX12, "mayBegin", "([II)Z"⟩
abbrev cX12_done : ByteArray := prog_14_method_40_code
def yX12_done : MethodName := ⟨RX12, "done", "(III)I"⟩
abbrev cX12_isThere : ByteArray := prog_14_method_41_code
def yX12_isThere : MethodName := ⟨RX12, "isThere", "(II)Z"⟩
abbrev cX12_put : ByteArray := prog_14_method_42_code
def yX12_put : MethodName := ⟨RX12, "put", "(II)Z"⟩
abbrev cX12_manyAt : ByteArray := prog_14_method_43_code
def yX12_manyAt : MethodName := ⟨RX12, "manyAt", "(I)I"⟩
abbrev cX12_goOn : ByteArray := prog_14_method_44_code
def yX12_goOn : MethodName := ⟨RX12, "goOn", "(II)Z"⟩
abbrev cX12_beginAt : ByteArray := prog_14_method_45_code
def yX12_beginAt : MethodName := ⟨RX12, "beginAt", "([I)V"⟩
abbrev cX12_layComes : ByteArray := prog_14_method_46_code
def yX12_layComes : MethodName := ⟨RX12, "layComes", "([I)V"⟩
abbrev cX12_isSoInAll : ByteArray := prog_14_method_47_code
def yX12_isSoInAll : MethodName := ⟨RX12, "isSoInAll", "(II)Z"⟩
abbrev cX12_giveUp : ByteArray := prog_14_method_48_code
def yX12_giveUp : MethodName := ⟨RX12, "giveUp", "()I"⟩
abbrev cX12_findInvariants : ByteArray := prog_14_method_49_code
def yX12_findInvariants : MethodName := ⟨RX12, "findInvariants", "([II)V"⟩
abbrev cX12_left : ByteArray := prog_14_method_50_code
def yX12_left : MethodName := ⟨RX12, "left", "([I)I"⟩
abbrev cX12_invariants : ByteArray := prog_14_method_51_code
def yX12_invariants : MethodName := ⟨RX12, "invariants", "([I)V"⟩
abbrev cX12_goOnFresh : ByteArray := prog_14_method_52_code
def yX12_goOnFresh : MethodName := ⟨RX12, "goOnFresh", "(I)Z"⟩
abbrev cX12_layReached : ByteArray := prog_14_method_53_code
def yX12_layReached : MethodName := ⟨RX12, "layReached", "([I)V"⟩
abbrev cX12_nodeOf : ByteArray := prog_14_method_54_code
def yX12_nodeOf : MethodName := ⟨RX12, "nodeOf", "(II)I"⟩
abbrev cX12_failing : ByteArray := prog_14_method_55_code
def yX12_failing : MethodName := ⟨RX12, "failing", "(I)I"⟩
abbrev cX12_fine : ByteArray := prog_14_method_56_code
def yX12_fine : MethodName := ⟨RX12, "fine", "()I"⟩
abbrev cX12_provedBy : ByteArray := prog_14_method_57_code
def yX12_provedBy : MethodName := ⟨RX12, "provedBy", "([II)I"⟩
abbrev cX12_about : ByteArray := prog_14_method_58_code
def yX12_about : MethodName := ⟨RX12, "about", "(I)I"⟩
abbrev cX12_manyGuessed : ByteArray := prog_14_method_59_code
def yX12_manyGuessed : MethodName := ⟨RX12, "manyGuessed", "(I)I"⟩
abbrev cX12_loop : ByteArray := prog_14_method_60_code
def yX12_loop : MethodName := ⟨RX12, "loop", "(II)I"⟩
abbrev cX12_check : ByteArray := prog_14_method_61_code
def yX12_check : MethodName := ⟨RX12, "check", "(II)I"⟩
abbrev cX12_start : ByteArray := prog_14_method_62_code
def yX12_start : MethodName := ⟨RX12, "start", "(I)I"⟩
abbrev cX12_note : ByteArray := prog_14_method_63_code
def yX12_note : MethodName := ⟨RX12, "note", "()V"⟩
abbrev cX12_begin : ByteArray := prog_14_method_64_code
def yX12_begin : MethodName := ⟨RX12, "begin", "(II)I"⟩
abbrev cX12_turn : ByteArray := prog_14_method_65_code
def yX12_turn : MethodName := ⟨RX12, "turn", "(I)I"⟩
abbrev cX12_undo : ByteArray := prog_14_method_66_code
def yX12_undo : MethodName := ⟨RX12, "undo", "()I"⟩
abbrev cX12_falls : ByteArray := prog_14_method_67_code
def yX12_falls : MethodName := ⟨RX12, "falls", "(II)I"⟩
abbrev cX12_fewest : ByteArray := prog_14_method_68_code
def yX12_fewest : MethodName := ⟨RX12, "fewest", "(I)I"⟩
abbrev cX12_isState : ByteArray := prog_14_method_69_code
def yX12_isState : MethodName := ⟨RX12, "isState", "(I)Z"⟩
abbrev cX12_isReachedAtEnd : ByteArray := prog_14_method_70_code
def yX12_isReachedAtEnd : MethodName := ⟨RX12, "isReachedAtEnd", "(I)Z"⟩
abbrev cX12_judged : ByteArray := prog_14_method_71_code
def yX12_judged : MethodName := ⟨RX12, "judged", "(IIII)Z"⟩
abbrev cX12_tenThousands : ByteArray := prog_14_method_72_code
def yX12_tenThousands : MethodName := ⟨RX12, "tenThousands", "(I)J"⟩
abbrev cX12_layTrial : ByteArray := prog_14_method_73_code
def yX12_layTrial : MethodName := ⟨RX12, "layTrial", "()V"⟩
abbrev cX12_judge : ByteArray := prog_14_method_74_code
def yX12_judge : MethodName := ⟨RX12, "judge", "(IJ)I"⟩
abbrev cX12_share : ByteArray := prog_14_method_75_code
def yX12_share : MethodName := ⟨RX12, "share", "(IZ)I"⟩
abbrev cX12_see : ByteArray := prog_14_method_76_code
def yX12_see : MethodName := ⟨RX12, "see", "(II)I"⟩
abbrev cX12_unsee : ByteArray := prog_14_method_77_code
def yX12_unsee : MethodName := ⟨RX12, "unsee", "()I"⟩
abbrev cX12_can : ByteArray := prog_14_method_78_code
def yX12_can : MethodName := ⟨RX12, "can", "(III)Z"⟩
abbrev cX12_layCans : ByteArray := prog_14_method_79_code
def yX12_layCans : MethodName := ⟨RX12, "layCans", "(I)V"⟩
abbrev cX12_leave : ByteArray := prog_14_method_80_code
def yX12_leave : MethodName := ⟨RX12, "leave", "(II)V"⟩
abbrev cX12_which : ByteArray := prog_14_method_81_code
def yX12_which : MethodName := ⟨RX12, "which", "(I)I"⟩
abbrev cX12_lost : ByteArray := prog_14_method_82_code
def yX12_lost : MethodName := ⟨RX12, "lost", "(IZ)I"⟩
abbrev cX12_seed : ByteArray := prog_14_method_83_code
def yX12_seed : MethodName := ⟨RX12, "seed", "(J)J"⟩
abbrev cX12_draw : ByteArray := prog_14_method_84_code
def yX12_draw : MethodName := ⟨RX12, "draw", "(I)I"⟩
abbrev cX12_step : ByteArray := prog_14_method_85_code
def yX12_step : MethodName := ⟨RX12, "step", "()I"⟩
abbrev cX12_run : ByteArray := prog_14_method_86_code
def yX12_run : MethodName := ⟨RX12, "run", "()I"⟩
abbrev cX12_drawn : ByteArray := prog_14_method_87_code
def yX12_drawn : MethodName := ⟨RX12, "drawn", "(I)I"⟩
abbrev cX12_keep : ByteArray := prog_14_method_88_code
def yX12_keep : MethodName := ⟨RX12, "keep", "(I)I"⟩
abbrev cX12_again : ByteArray := prog_14_method_89_code
def yX12_again : MethodName := ⟨RX12, "again", "(I)I"⟩
def RJ6 : String := "java/lang/Integer"
abbrev cJ6_numberOfTrailingZeros_0f7a4 : ByteArray := prog_15_method_48_code
def yJ6_numberOfTrailingZeros_0f7a4 : MethodName := ⟨RJ6, "numberOfTrailingZeros", "(I)I"⟩
abbrev cJ6_bitCount_0f7a4 : ByteArray := prog_15_method_49_code
def yJ6_bitCount_0f7a4 : MethodName := ⟨RJ6, "bitCount", "(I)I"⟩
def RJ13 : String := "java/lang/Long"
abbrev cJ13_numberOfTrailingZeros_95d88 : ByteArray := prog_16_method_49_code
def yJ13_numberOfTrailingZeros_95d88 : MethodName := ⟨RJ13, "numberOfTrailingZeros", "(J)I"⟩
abbrev cJ13_bitCount_95d88 : ByteArray := prog_16_method_50_code
def yJ13_bitCount_95d88 : MethodName := ⟨RJ13, "bitCount", "(J)I"⟩
def RJ9 : String := "java/lang/Math"
abbrev cJ9_max_7cf53 : ByteArray := prog_17_method_65_code
def yJ9_max_7cf53 : MethodName := ⟨RJ9, "max", "(II)I"⟩
abbrev cJ9_min_7cf53 : ByteArray := prog_17_method_69_code
def yJ9_min_7cf53 : MethodName := ⟨RJ9, "min", "(II)I"⟩
def RL : String := "LoopGuessesLaw"
abbrev cL_law : ByteArray := code
/-! the classes by their numbers -/
def cR : Nat → String := fun ci => match ci with
  | 0 => RX0
  | 1 => RX1
  | 2 => RX2
  | 3 => RX3
  | 4 => RX4
  | 5 => RX5
  | 6 => RX6
  | 7 => RX7
  | 8 => RX8
  | 9 => RX9
  | 10 => RX10
  | 11 => RX11
  | _ => RX12
def cT : Nat → u_T := fun ci => match ci with
  | 0 => TX0
  | 1 => TX1
  | 2 => TX2
  | 3 => TX3
  | 4 => TX4
  | 5 => TX5
  | 6 => TX6
  | 7 => TX7
  | 8 => TX8
  | 9 => TX9
  | 10 => TX10
  | 11 => TX11
  | _ => TX12
def cN : Nat → Nat := fun ci => match ci with
  | 0 => 12
  | 1 => 5
  | 2 => 11
  | 3 => 4
  | 4 => 6
  | 5 => 2
  | 6 => 6
  | 7 => 2
  | 8 => 2
  | 9 => 1
  | 10 => 5
  | 11 => 17
  | _ => 51
def cY : Nat → Nat → FieldType := fun ci => match ci with
  | 0 => tyX0
  | 1 => tyX1
  | 2 => tyX2
  | 3 => tyX3
  | 4 => tyX4
  | 5 => tyX5
  | 6 => tyX6
  | 7 => tyX7
  | 8 => tyX8
  | 9 => tyX9
  | 10 => tyX10
  | 11 => tyX11
  | _ => tyX12
end
section
theorem dX0_init_0 : decode cX0_init 0 = .ok (.aload_n 0, 1) := by decide +kernel
theorem dX0_init_1 : decode cX0_init 1 = .ok (.invokespecial 3, 3) := by decide +kernel
theorem dX0_init_4 : decode cX0_init 4 = .ok (.aload_n 0, 1) := by decide +kernel
theorem dX0_init_5 : decode cX0_init 5 = .ok (.new 9, 3) := by decide +kernel
theorem dX0_init_8 : decode cX0_init 8 = .ok (.dup, 1) := by decide +kernel
theorem dX0_init_9 : decode cX0_init 9 = .ok (.invokespecial 11, 3) := by decide +kernel
theorem dX0_init_12 : decode cX0_init 12 = .ok (.putfield 12, 3) := by decide +kernel
theorem dX0_init_15 : decode cX0_init 15 = .ok (.aload_n 0, 1) := by decide +kernel
theorem dX0_init_16 : decode cX0_init 16 = .ok (.new 18, 3) := by decide +kernel
theorem dX0_init_19 : decode cX0_init 19 = .ok (.dup, 1) := by decide +kernel
theorem dX0_init_20 : decode cX0_init 20 = .ok (.invokespecial 20, 3) := by decide +kernel
theorem dX0_init_23 : decode cX0_init 23 = .ok (.putfield 21, 3) := by decide +kernel
theorem dX0_init_26 : decode cX0_init 26 = .ok (.aload_n 0, 1) := by decide +kernel
theorem dX0_init_27 : decode cX0_init 27 = .ok (.new 25, 3) := by decide +kernel
theorem dX0_init_30 : decode cX0_init 30 = .ok (.dup, 1) := by decide +kernel
theorem dX0_init_31 : decode cX0_init 31 = .ok (.invokespecial 27, 3) := by decide +kernel
theorem dX0_init_34 : decode cX0_init 34 = .ok (.putfield 28, 3) := by decide +kernel
theorem dX0_init_37 : decode cX0_init 37 = .ok (.aload_n 0, 1) := by decide +kernel
theorem dX0_init_38 : decode cX0_init 38 = .ok (.new 25, 3) := by decide +kernel
theorem dX0_init_41 : decode cX0_init 41 = .ok (.dup, 1) := by decide +kernel
theorem dX0_init_42 : decode cX0_init 42 = .ok (.invokespecial 27, 3) := by decide +kernel
theorem dX0_init_45 : decode cX0_init 45 = .ok (.putfield 32, 3) := by decide +kernel
theorem dX0_init_48 : decode cX0_init 48 = .ok (.aload_n 0, 1) := by decide +kernel
theorem dX0_init_49 : decode cX0_init 49 = .ok (.bipush 32, 2) := by decide +kernel
theorem dX0_init_51 : decode cX0_init 51 = .ok (.newarray .int, 2) := by decide +kernel
theorem dX0_init_53 : decode cX0_init 53 = .ok (.putfield 35, 3) := by decide +kernel
theorem dX0_init_56 : decode cX0_init 56 = .ok (.aload_n 0, 1) := by decide +kernel
theorem dX0_init_57 : decode cX0_init 57 = .ok (.new 39, 3) := by decide +kernel
theorem dX0_init_60 : decode cX0_init 60 = .ok (.dup, 1) := by decide +kernel
theorem dX0_init_61 : decode cX0_init 61 = .ok (.invokespecial 41, 3) := by decide +kernel
theorem dX0_init_64 : decode cX0_init 64 = .ok (.putfield 42, 3) := by decide +kernel
theorem dX0_init_67 : decode cX0_init 67 = .ok (.aload_n 0, 1) := by decide +kernel
theorem dX0_init_68 : decode cX0_init 68 = .ok (.iconst 4, 1) := by decide +kernel
theorem dX0_init_69 : decode cX0_init 69 = .ok (.invokestatic 46, 3) := by decide +kernel
theorem dX0_init_72 : decode cX0_init 72 = .ok (.putfield 50, 3) := by decide +kernel
theorem dX0_init_75 : decode cX0_init 75 = .ok (.aload_n 0, 1) := by decide +kernel
theorem dX0_init_76 : decode cX0_init 76 = .ok (.aload_n 1, 1) := by decide +kernel
theorem dX0_init_77 : decode cX0_init 77 = .ok (.invokevirtual 54, 3) := by decide +kernel
theorem dX0_init_80 : decode cX0_init 80 = .ok (.return_, 1) := by decide +kernel
theorem dX0_forget_0 : decode cX0_forget 0 = .ok (.aload_n 0, 1) := by decide +kernel
theorem dX0_forget_1 : decode cX0_forget 1 = .ok (.aload_n 1, 1) := by decide +kernel
theorem dX0_forget_2 : decode cX0_forget 2 = .ok (.putfield 58, 3) := by decide +kernel
theorem dX0_forget_5 : decode cX0_forget 5 = .ok (.aload_n 0, 1) := by decide +kernel
theorem dX0_forget_6 : decode cX0_forget 6 = .ok (.iconst (-1), 1) := by decide +kernel
theorem dX0_forget_7 : decode cX0_forget 7 = .ok (.putfield 62, 3) := by decide +kernel
theorem dX0_forget_10 : decode cX0_forget 10 = .ok (.aload_n 0, 1) := by decide +kernel
theorem dX0_forget_11 : decode cX0_forget 11 = .ok (.iconst 0, 1) := by decide +kernel
theorem dX0_forget_12 : decode cX0_forget 12 = .ok (.putfield 66, 3) := by decide +kernel
theorem dX0_forget_15 : decode cX0_forget 15 = .ok (.return_, 1) := by decide +kernel
theorem dX0_lookAt_0 : decode cX0_lookAt 0 = .ok (.aload_n 1, 1) := by decide +kernel
theorem dX0_lookAt_1 : decode cX0_lookAt 1 = .ok (.invokevirtual 69, 3) := by decide +kernel
theorem dX0_lookAt_4 : decode cX0_lookAt 4 = .ok (.istore_n 2, 1) := by decide +kernel
theorem dX0_lookAt_5 : decode cX0_lookAt 5 = .ok (.aload_n 0, 1) := by decide +kernel
theorem dX0_lookAt_6 : decode cX0_lookAt 6 = .ok (.getfield 62, 3) := by decide +kernel
theorem dX0_lookAt_9 : decode cX0_lookAt 9 = .ok (.iload_n 2, 1) := by decide +kernel
theorem dX0_lookAt_10 : decode cX0_lookAt 10 = .ok (.if_icmp .ne 4, 3) := by decide +kernel
theorem dX0_lookAt_13 : decode cX0_lookAt 13 = .ok (.return_, 1) := by decide +kernel
theorem dX0_lookAt_14 : decode cX0_lookAt 14 = .ok (.aload_n 0, 1) := by decide +kernel
theorem dX0_lookAt_15 : decode cX0_lookAt 15 = .ok (.iload_n 2, 1) := by decide +kernel
theorem dX0_lookAt_16 : decode cX0_lookAt 16 = .ok (.putfield 62, 3) := by decide +kernel
theorem dX0_lookAt_19 : decode cX0_lookAt 19 = .ok (.aload_n 1, 1) := by decide +kernel
theorem dX0_lookAt_20 : decode cX0_lookAt 20 = .ok (.aload_n 0, 1) := by decide +kernel
theorem dX0_lookAt_21 : decode cX0_lookAt 21 = .ok (.getfield 12, 3) := by decide +kernel
theorem dX0_lookAt_24 : decode cX0_lookAt 24 = .ok (.invokevirtual 75, 3) := by decide +kernel
theorem dX0_lookAt_27 : decode cX0_lookAt 27 = .ok (.aload_n 0, 1) := by decide +kernel
theorem dX0_lookAt_28 : decode cX0_lookAt 28 = .ok (.iconst 0, 1) := by decide +kernel
theorem dX0_lookAt_29 : decode cX0_lookAt 29 = .ok (.putfield 79, 3) := by decide +kernel
theorem dX0_lookAt_32 : decode cX0_lookAt 32 = .ok (.aload_n 0, 1) := by decide +kernel
theorem dX0_lookAt_33 : decode cX0_lookAt 33 = .ok (.iconst (-1), 1) := by decide +kernel
theorem dX0_lookAt_34 : decode cX0_lookAt 34 = .ok (.putfield 83, 3) := by decide +kernel
theorem dX0_lookAt_37 : decode cX0_lookAt 37 = .ok (.iconst 0, 1) := by decide +kernel
theorem dX0_lookAt_38 : decode cX0_lookAt 38 = .ok (.istore_n 3, 1) := by decide +kernel
theorem dX0_lookAt_39 : decode cX0_lookAt 39 = .ok (.iload_n 3, 1) := by decide +kernel
theorem dX0_lookAt_40 : decode cX0_lookAt 40 = .ok (.aload_n 0, 1) := by decide +kernel
theorem dX0_lookAt_41 : decode cX0_lookAt 41 = .ok (.getfield 35, 3) := by decide +kernel
theorem dX0_lookAt_44 : decode cX0_lookAt 44 = .ok (.arraylength, 1) := by decide +kernel
theorem dX0_lookAt_45 : decode cX0_lookAt 45 = .ok (.if_icmp .ge 16, 3) := by decide +kernel
theorem dX0_lookAt_48 : decode cX0_lookAt 48 = .ok (.aload_n 0, 1) := by decide +kernel
theorem dX0_lookAt_49 : decode cX0_lookAt 49 = .ok (.getfield 35, 3) := by decide +kernel
theorem dX0_lookAt_52 : decode cX0_lookAt 52 = .ok (.iload_n 3, 1) := by decide +kernel
theorem dX0_lookAt_53 : decode cX0_lookAt 53 = .ok (.iconst (-1), 1) := by decide +kernel
theorem dX0_lookAt_54 : decode cX0_lookAt 54 = .ok (.iastore, 1) := by decide +kernel
theorem dX0_lookAt_55 : decode cX0_lookAt 55 = .ok (.iinc 3 1, 3) := by decide +kernel
theorem dX0_lookAt_58 : decode cX0_lookAt 58 = .ok (.goto (-19), 3) := by decide +kernel
theorem dX0_lookAt_61 : decode cX0_lookAt 61 = .ok (.return_, 1) := by decide +kernel
theorem dX0_reached_0 : decode cX0_reached 0 = .ok (.aload_n 0, 1) := by decide +kernel
theorem dX0_reached_1 : decode cX0_reached 1 = .ok (.getfield 79, 3) := by decide +kernel
theorem dX0_reached_4 : decode cX0_reached 4 = .ok (.ifCond .ne 23, 3) := by decide +kernel
theorem dX0_reached_7 : decode cX0_reached 7 = .ok (.aload_n 0, 1) := by decide +kernel
theorem dX0_reached_8 : decode cX0_reached 8 = .ok (.getfield 21, 3) := by decide +kernel
theorem dX0_reached_11 : decode cX0_reached 11 = .ok (.aload_n 0, 1) := by decide +kernel
theorem dX0_reached_12 : decode cX0_reached 12 = .ok (.getfield 58, 3) := by decide +kernel
theorem dX0_reached_15 : decode cX0_reached 15 = .ok (.aload_n 0, 1) := by decide +kernel
theorem dX0_reached_16 : decode cX0_reached 16 = .ok (.getfield 12, 3) := by decide +kernel
theorem dX0_reached_19 : decode cX0_reached 19 = .ok (.invokevirtual 86, 3) := by decide +kernel
theorem dX0_reached_22 : decode cX0_reached 22 = .ok (.aload_n 0, 1) := by decide +kernel
theorem dX0_reached_23 : decode cX0_reached 23 = .ok (.iconst 1, 1) := by decide +kernel
theorem dX0_reached_24 : decode cX0_reached 24 = .ok (.putfield 79, 3) := by decide +kernel
theorem dX0_reached_27 : decode cX0_reached 27 = .ok (.aload_n 0, 1) := by decide +kernel
theorem dX0_reached_28 : decode cX0_reached 28 = .ok (.getfield 21, 3) := by decide +kernel
theorem dX0_reached_31 : decode cX0_reached 31 = .ok (.areturn, 1) := by decide +kernel
theorem dX0_invariants_0 : decode cX0_invariants 0 = .ok (.aload_n 0, 1) := by decide +kernel
theorem dX0_invariants_1 : decode cX0_invariants 1 = .ok (.getfield 83, 3) := by decide +kernel
theorem dX0_invariants_4 : decode cX0_invariants 4 = .ok (.iload_n 1, 1) := by decide +kernel
theorem dX0_invariants_5 : decode cX0_invariants 5 = .ok (.if_icmp .eq 24, 3) := by decide +kernel
theorem dX0_invariants_8 : decode cX0_invariants 8 = .ok (.aload_n 0, 1) := by decide +kernel
theorem dX0_invariants_9 : decode cX0_invariants 9 = .ok (.getfield 28, 3) := by decide +kernel
theorem dX0_invariants_12 : decode cX0_invariants 12 = .ok (.aload_n 0, 1) := by decide +kernel
theorem dX0_invariants_13 : decode cX0_invariants 13 = .ok (.getfield 58, 3) := by decide +kernel
theorem dX0_invariants_16 : decode cX0_invariants 16 = .ok (.aload_n 0, 1) := by decide +kernel
theorem dX0_invariants_17 : decode cX0_invariants 17 = .ok (.getfield 12, 3) := by decide +kernel
theorem dX0_invariants_20 : decode cX0_invariants 20 = .ok (.iload_n 1, 1) := by decide +kernel
theorem dX0_invariants_21 : decode cX0_invariants 21 = .ok (.invokevirtual 90, 3) := by decide +kernel
theorem dX0_invariants_24 : decode cX0_invariants 24 = .ok (.aload_n 0, 1) := by decide +kernel
theorem dX0_invariants_25 : decode cX0_invariants 25 = .ok (.iload_n 1, 1) := by decide +kernel
theorem dX0_invariants_26 : decode cX0_invariants 26 = .ok (.putfield 83, 3) := by decide +kernel
theorem dX0_invariants_29 : decode cX0_invariants 29 = .ok (.aload_n 0, 1) := by decide +kernel
theorem dX0_invariants_30 : decode cX0_invariants 30 = .ok (.getfield 28, 3) := by decide +kernel
theorem dX0_invariants_33 : decode cX0_invariants 33 = .ok (.areturn, 1) := by decide +kernel
theorem dX0_proved_0 : decode cX0_proved 0 = .ok (.iload_n 1, 1) := by decide +kernel
theorem dX0_proved_1 : decode cX0_proved 1 = .ok (.ifCond .lt 12, 3) := by decide +kernel
theorem dX0_proved_4 : decode cX0_proved 4 = .ok (.iload_n 1, 1) := by decide +kernel
theorem dX0_proved_5 : decode cX0_proved 5 = .ok (.aload_n 0, 1) := by decide +kernel
theorem dX0_proved_6 : decode cX0_proved 6 = .ok (.getfield 35, 3) := by decide +kernel
theorem dX0_proved_9 : decode cX0_proved 9 = .ok (.arraylength, 1) := by decide +kernel
theorem dX0_proved_10 : decode cX0_proved 10 = .ok (.if_icmp .lt 5, 3) := by decide +kernel
theorem dX0_proved_13 : decode cX0_proved 13 = .ok (.iconst 0, 1) := by decide +kernel
theorem dX0_proved_14 : decode cX0_proved 14 = .ok (.ireturn, 1) := by decide +kernel
theorem dX0_proved_15 : decode cX0_proved 15 = .ok (.aload_n 0, 1) := by decide +kernel
theorem dX0_proved_16 : decode cX0_proved 16 = .ok (.getfield 35, 3) := by decide +kernel
theorem dX0_proved_19 : decode cX0_proved 19 = .ok (.iload_n 1, 1) := by decide +kernel
theorem dX0_proved_20 : decode cX0_proved 20 = .ok (.iaload, 1) := by decide +kernel
theorem dX0_proved_21 : decode cX0_proved 21 = .ok (.iconst (-1), 1) := by decide +kernel
theorem dX0_proved_22 : decode cX0_proved 22 = .ok (.if_icmp .ne 39, 3) := by decide +kernel
theorem dX0_proved_25 : decode cX0_proved 25 = .ok (.aload_n 0, 1) := by decide +kernel
theorem dX0_proved_26 : decode cX0_proved 26 = .ok (.getfield 32, 3) := by decide +kernel
theorem dX0_proved_29 : decode cX0_proved 29 = .ok (.aload_n 0, 1) := by decide +kernel
theorem dX0_proved_30 : decode cX0_proved 30 = .ok (.getfield 58, 3) := by decide +kernel
theorem dX0_proved_33 : decode cX0_proved 33 = .ok (.aload_n 0, 1) := by decide +kernel
theorem dX0_proved_34 : decode cX0_proved 34 = .ok (.getfield 12, 3) := by decide +kernel
theorem dX0_proved_37 : decode cX0_proved 37 = .ok (.iload_n 1, 1) := by decide +kernel
theorem dX0_proved_38 : decode cX0_proved 38 = .ok (.invokevirtual 90, 3) := by decide +kernel
theorem dX0_proved_41 : decode cX0_proved 41 = .ok (.aload_n 0, 1) := by decide +kernel
theorem dX0_proved_42 : decode cX0_proved 42 = .ok (.getfield 35, 3) := by decide +kernel
theorem dX0_proved_45 : decode cX0_proved 45 = .ok (.iload_n 1, 1) := by decide +kernel
theorem dX0_proved_46 : decode cX0_proved 46 = .ok (.aload_n 0, 1) := by decide +kernel
theorem dX0_proved_47 : decode cX0_proved 47 = .ok (.getfield 58, 3) := by decide +kernel
theorem dX0_proved_50 : decode cX0_proved 50 = .ok (.aload_n 0, 1) := by decide +kernel
theorem dX0_proved_51 : decode cX0_proved 51 = .ok (.getfield 32, 3) := by decide +kernel
theorem dX0_proved_54 : decode cX0_proved 54 = .ok (.getfield 94, 3) := by decide +kernel
theorem dX0_proved_57 : decode cX0_proved 57 = .ok (.invokevirtual 97, 3) := by decide +kernel
theorem dX0_proved_60 : decode cX0_proved 60 = .ok (.iastore, 1) := by decide +kernel
theorem dX0_proved_61 : decode cX0_proved 61 = .ok (.aload_n 0, 1) := by decide +kernel
theorem dX0_proved_62 : decode cX0_proved 62 = .ok (.getfield 35, 3) := by decide +kernel
theorem dX0_proved_65 : decode cX0_proved 65 = .ok (.iload_n 1, 1) := by decide +kernel
theorem dX0_proved_66 : decode cX0_proved 66 = .ok (.iaload, 1) := by decide +kernel
theorem dX0_proved_67 : decode cX0_proved 67 = .ok (.ireturn, 1) := by decide +kernel
theorem dX0_firstFalse_0 : decode cX0_firstFalse 0 = .ok (.aload_n 0, 1) := by decide +kernel
theorem dX0_firstFalse_1 : decode cX0_firstFalse 1 = .ok (.iload_n 3, 1) := by decide +kernel
theorem dX0_firstFalse_2 : decode cX0_firstFalse 2 = .ok (.invokevirtual 103, 3) := by decide +kernel
theorem dX0_firstFalse_5 : decode cX0_firstFalse 5 = .ok (.getfield 107, 3) := by decide +kernel
theorem dX0_firstFalse_8 : decode cX0_firstFalse 8 = .ok (.astore 4, 2) := by decide +kernel
theorem dX0_firstFalse_10 : decode cX0_firstFalse 10 = .ok (.iconst 0, 1) := by decide +kernel
theorem dX0_firstFalse_11 : decode cX0_firstFalse 11 = .ok (.istore 5, 2) := by decide +kernel
theorem dX0_firstFalse_13 : decode cX0_firstFalse 13 = .ok (.iload 5, 2) := by decide +kernel
theorem dX0_firstFalse_15 : decode cX0_firstFalse 15 = .ok (.aload_n 0, 1) := by decide +kernel
theorem dX0_firstFalse_16 : decode cX0_firstFalse 16 = .ok (.getfield 32, 3) := by decide +kernel
theorem dX0_firstFalse_19 : decode cX0_firstFalse 19 = .ok (.getfield 107, 3) := by decide +kernel
theorem dX0_firstFalse_22 : decode cX0_firstFalse 22 = .ok (.arraylength, 1) := by decide +kernel
theorem dX0_firstFalse_23 : decode cX0_firstFalse 23 = .ok (.if_icmp .ge 42, 3) := by decide +kernel
theorem dX0_firstFalse_26 : decode cX0_firstFalse 26 = .ok (.iload 5, 2) := by decide +kernel
theorem dX0_firstFalse_28 : decode cX0_firstFalse 28 = .ok (.aload 4, 2) := by decide +kernel
theorem dX0_firstFalse_30 : decode cX0_firstFalse 30 = .ok (.arraylength, 1) := by decide +kernel
theorem dX0_firstFalse_31 : decode cX0_firstFalse 31 = .ok (.if_icmp .ge 34, 3) := by decide +kernel
theorem dX0_firstFalse_34 : decode cX0_firstFalse 34 = .ok (.aload_n 0, 1) := by decide +kernel
theorem dX0_firstFalse_35 : decode cX0_firstFalse 35 = .ok (.getfield 32, 3) := by decide +kernel
theorem dX0_firstFalse_38 : decode cX0_firstFalse 38 = .ok (.getfield 107, 3) := by decide +kernel
theorem dX0_firstFalse_41 : decode cX0_firstFalse 41 = .ok (.iload 5, 2) := by decide +kernel
theorem dX0_firstFalse_43 : decode cX0_firstFalse 43 = .ok (.iload 5, 2) := by decide +kernel
theorem dX0_firstFalse_45 : decode cX0_firstFalse 45 = .ok (.iload_n 1, 1) := by decide +kernel
theorem dX0_firstFalse_46 : decode cX0_firstFalse 46 = .ok (.if_icmp .ne 7, 3) := by decide +kernel
theorem dX0_firstFalse_49 : decode cX0_firstFalse 49 = .ok (.iload_n 2, 1) := by decide +kernel
theorem dX0_firstFalse_50 : decode cX0_firstFalse 50 = .ok (.goto 8, 3) := by decide +kernel
theorem dX0_firstFalse_53 : decode cX0_firstFalse 53 = .ok (.aload 4, 2) := by decide +kernel
theorem dX0_firstFalse_55 : decode cX0_firstFalse 55 = .ok (.iload 5, 2) := by decide +kernel
theorem dX0_firstFalse_57 : decode cX0_firstFalse 57 = .ok (.iaload, 1) := by decide +kernel
theorem dX0_firstFalse_58 : decode cX0_firstFalse 58 = .ok (.iastore, 1) := by decide +kernel
theorem dX0_firstFalse_59 : decode cX0_firstFalse 59 = .ok (.iinc 5 1, 3) := by decide +kernel
theorem dX0_firstFalse_62 : decode cX0_firstFalse 62 = .ok (.goto (-49), 3) := by decide +kernel
theorem dX0_firstFalse_65 : decode cX0_firstFalse 65 = .ok (.aload_n 0, 1) := by decide +kernel
theorem dX0_firstFalse_66 : decode cX0_firstFalse 66 = .ok (.getfield 32, 3) := by decide +kernel
theorem dX0_firstFalse_69 : decode cX0_firstFalse 69 = .ok (.getfield 94, 3) := by decide +kernel
theorem dX0_firstFalse_72 : decode cX0_firstFalse 72 = .ok (.aload_n 0, 1) := by decide +kernel
theorem dX0_firstFalse_73 : decode cX0_firstFalse 73 = .ok (.getfield 58, 3) := by decide +kernel
theorem dX0_firstFalse_76 : decode cX0_firstFalse 76 = .ok (.aload_n 0, 1) := by decide +kernel
theorem dX0_firstFalse_77 : decode cX0_firstFalse 77 = .ok (.getfield 32, 3) := by decide +kernel
theorem dX0_firstFalse_80 : decode cX0_firstFalse 80 = .ok (.getfield 107, 3) := by decide +kernel
theorem dX0_firstFalse_83 : decode cX0_firstFalse 83 = .ok (.invokevirtual 110, 3) := by decide +kernel
theorem dX0_firstFalse_86 : decode cX0_firstFalse 86 = .ok (.aload_n 0, 1) := by decide +kernel
theorem dX0_firstFalse_87 : decode cX0_firstFalse 87 = .ok (.getfield 32, 3) := by decide +kernel
theorem dX0_firstFalse_90 : decode cX0_firstFalse 90 = .ok (.getfield 94, 3) := by decide +kernel
theorem dX0_firstFalse_93 : decode cX0_firstFalse 93 = .ok (.aload_n 0, 1) := by decide +kernel
theorem dX0_firstFalse_94 : decode cX0_firstFalse 94 = .ok (.getfield 58, 3) := by decide +kernel
theorem dX0_firstFalse_97 : decode cX0_firstFalse 97 = .ok (.aload_n 0, 1) := by decide +kernel
theorem dX0_firstFalse_98 : decode cX0_firstFalse 98 = .ok (.getfield 12, 3) := by decide +kernel
theorem dX0_firstFalse_101 : decode cX0_firstFalse 101 = .ok (.aload_n 0, 1) := by decide +kernel
theorem dX0_firstFalse_102 : decode cX0_firstFalse 102 = .ok (.getfield 32, 3) := by decide +kernel
theorem dX0_firstFalse_105 : decode cX0_firstFalse 105 = .ok (.getfield 94, 3) := by decide +kernel
theorem dX0_firstFalse_108 : decode cX0_firstFalse 108 = .ok (.getfield 114, 3) := by decide +kernel
theorem dX0_firstFalse_111 : decode cX0_firstFalse 111 = .ok (.invokevirtual 117, 3) := by decide +kernel
theorem dX0_firstFalse_114 : decode cX0_firstFalse 114 = .ok (.pop, 1) := by decide +kernel
theorem dX0_firstFalse_115 : decode cX0_firstFalse 115 = .ok (.aload_n 0, 1) := by decide +kernel
theorem dX0_firstFalse_116 : decode cX0_firstFalse 116 = .ok (.getfield 32, 3) := by decide +kernel
theorem dX0_firstFalse_119 : decode cX0_firstFalse 119 = .ok (.aload_n 0, 1) := by decide +kernel
theorem dX0_firstFalse_120 : decode cX0_firstFalse 120 = .ok (.getfield 58, 3) := by decide +kernel
theorem dX0_firstFalse_123 : decode cX0_firstFalse 123 = .ok (.iload_n 1, 1) := by decide +kernel
theorem dX0_firstFalse_124 : decode cX0_firstFalse 124 = .ok (.invokevirtual 121, 3) := by decide +kernel
theorem dX0_firstFalse_127 : decode cX0_firstFalse 127 = .ok (.istore 5, 2) := by decide +kernel
theorem dX0_firstFalse_129 : decode cX0_firstFalse 129 = .ok (.iload 5, 2) := by decide +kernel
theorem dX0_firstFalse_131 : decode cX0_firstFalse 131 = .ok (.ifCond .ne 8, 3) := by decide +kernel
theorem dX0_firstFalse_134 : decode cX0_firstFalse 134 = .ok (.bipush (-9), 2) := by decide +kernel
theorem dX0_firstFalse_136 : decode cX0_firstFalse 136 = .ok (.goto 8, 3) := by decide +kernel
theorem dX0_firstFalse_139 : decode cX0_firstFalse 139 = .ok (.iload 5, 2) := by decide +kernel
theorem dX0_firstFalse_141 : decode cX0_firstFalse 141 = .ok (.invokestatic 125, 3) := by decide +kernel
theorem dX0_firstFalse_144 : decode cX0_firstFalse 144 = .ok (.ireturn, 1) := by decide +kernel
theorem dX0_failing_0 : decode cX0_failing 0 = .ok (.iload_n 1, 1) := by decide +kernel
theorem dX0_failing_1 : decode cX0_failing 1 = .ok (.ifCond .lt 12, 3) := by decide +kernel
theorem dX0_failing_4 : decode cX0_failing 4 = .ok (.iload_n 1, 1) := by decide +kernel
theorem dX0_failing_5 : decode cX0_failing 5 = .ok (.aload_n 0, 1) := by decide +kernel
theorem dX0_failing_6 : decode cX0_failing 6 = .ok (.getfield 50, 3) := by decide +kernel
theorem dX0_failing_9 : decode cX0_failing 9 = .ok (.arraylength, 1) := by decide +kernel
theorem dX0_failing_10 : decode cX0_failing 10 = .ok (.if_icmp .lt 7, 3) := by decide +kernel
theorem dX0_failing_13 : decode cX0_failing 13 = .ok (.iconst 0, 1) := by decide +kernel
theorem dX0_failing_14 : decode cX0_failing 14 = .ok (.goto 4, 3) := by decide +kernel
theorem dX0_failing_17 : decode cX0_failing 17 = .ok (.iload_n 1, 1) := by decide +kernel
theorem dX0_failing_18 : decode cX0_failing 18 = .ok (.istore_n 2, 1) := by decide +kernel
theorem dX0_failing_19 : decode cX0_failing 19 = .ok (.aload_n 0, 1) := by decide +kernel
theorem dX0_failing_20 : decode cX0_failing 20 = .ok (.getfield 66, 3) := by decide +kernel
theorem dX0_failing_23 : decode cX0_failing 23 = .ok (.iload_n 2, 1) := by decide +kernel
theorem dX0_failing_24 : decode cX0_failing 24 = .ok (.ishr, 1) := by decide +kernel
theorem dX0_failing_25 : decode cX0_failing 25 = .ok (.iconst 1, 1) := by decide +kernel
theorem dX0_failing_26 : decode cX0_failing 26 = .ok (.iand, 1) := by decide +kernel
theorem dX0_failing_27 : decode cX0_failing 27 = .ok (.ifCond .ne 33, 3) := by decide +kernel
theorem dX0_failing_30 : decode cX0_failing 30 = .ok (.aload_n 0, 1) := by decide +kernel
theorem dX0_failing_31 : decode cX0_failing 31 = .ok (.getfield 42, 3) := by decide +kernel
theorem dX0_failing_34 : decode cX0_failing 34 = .ok (.aload_n 0, 1) := by decide +kernel
theorem dX0_failing_35 : decode cX0_failing 35 = .ok (.getfield 58, 3) := by decide +kernel
theorem dX0_failing_38 : decode cX0_failing 38 = .ok (.iload_n 2, 1) := by decide +kernel
theorem dX0_failing_39 : decode cX0_failing 39 = .ok (.aload_n 0, 1) := by decide +kernel
theorem dX0_failing_40 : decode cX0_failing 40 = .ok (.getfield 50, 3) := by decide +kernel
theorem dX0_failing_43 : decode cX0_failing 43 = .ok (.iload_n 2, 1) := by decide +kernel
theorem dX0_failing_44 : decode cX0_failing 44 = .ok (.aaload, 1) := by decide +kernel
theorem dX0_failing_45 : decode cX0_failing 45 = .ok (.invokevirtual 131, 3) := by decide +kernel
theorem dX0_failing_48 : decode cX0_failing 48 = .ok (.aload_n 0, 1) := by decide +kernel
theorem dX0_failing_49 : decode cX0_failing 49 = .ok (.dup, 1) := by decide +kernel
theorem dX0_failing_50 : decode cX0_failing 50 = .ok (.getfield 66, 3) := by decide +kernel
theorem dX0_failing_53 : decode cX0_failing 53 = .ok (.iconst 1, 1) := by decide +kernel
theorem dX0_failing_54 : decode cX0_failing 54 = .ok (.iload_n 2, 1) := by decide +kernel
theorem dX0_failing_55 : decode cX0_failing 55 = .ok (.ishl, 1) := by decide +kernel
theorem dX0_failing_56 : decode cX0_failing 56 = .ok (.ior, 1) := by decide +kernel
theorem dX0_failing_57 : decode cX0_failing 57 = .ok (.putfield 66, 3) := by decide +kernel
theorem dX0_failing_60 : decode cX0_failing 60 = .ok (.aload_n 0, 1) := by decide +kernel
theorem dX0_failing_61 : decode cX0_failing 61 = .ok (.getfield 50, 3) := by decide +kernel
theorem dX0_failing_64 : decode cX0_failing 64 = .ok (.iload_n 2, 1) := by decide +kernel
theorem dX0_failing_65 : decode cX0_failing 65 = .ok (.aaload, 1) := by decide +kernel
theorem dX0_failing_66 : decode cX0_failing 66 = .ok (.areturn, 1) := by decide +kernel
theorem dX1_init_0 : decode cX1_init 0 = .ok (.aload_n 0, 1) := by decide +kernel
theorem dX1_init_1 : decode cX1_init 1 = .ok (.invokespecial 3, 3) := by decide +kernel
theorem dX1_init_4 : decode cX1_init 4 = .ok (.aload_n 0, 1) := by decide +kernel
theorem dX1_init_5 : decode cX1_init 5 = .ok (.new 9, 3) := by decide +kernel
theorem dX1_init_8 : decode cX1_init 8 = .ok (.dup, 1) := by decide +kernel
theorem dX1_init_9 : decode cX1_init 9 = .ok (.invokespecial 11, 3) := by decide +kernel
theorem dX1_init_12 : decode cX1_init 12 = .ok (.putfield 12, 3) := by decide +kernel
theorem dX1_init_15 : decode cX1_init 15 = .ok (.aload_n 0, 1) := by decide +kernel
theorem dX1_init_16 : decode cX1_init 16 = .ok (.iconst 3, 1) := by decide +kernel
theorem dX1_init_17 : decode cX1_init 17 = .ok (.invokestatic 18, 3) := by decide +kernel
theorem dX1_init_20 : decode cX1_init 20 = .ok (.putfield 22, 3) := by decide +kernel
theorem dX1_init_23 : decode cX1_init 23 = .ok (.aload_n 0, 1) := by decide +kernel
theorem dX1_init_24 : decode cX1_init 24 = .ok (.iconst 3, 1) := by decide +kernel
theorem dX1_init_25 : decode cX1_init 25 = .ok (.invokestatic 18, 3) := by decide +kernel
theorem dX1_init_28 : decode cX1_init 28 = .ok (.putfield 26, 3) := by decide +kernel
theorem dX1_init_31 : decode cX1_init 31 = .ok (.aload_n 0, 1) := by decide +kernel
theorem dX1_init_32 : decode cX1_init 32 = .ok (.iconst 3, 1) := by decide +kernel
theorem dX1_init_33 : decode cX1_init 33 = .ok (.invokestatic 18, 3) := by decide +kernel
theorem dX1_init_36 : decode cX1_init 36 = .ok (.putfield 29, 3) := by decide +kernel
theorem dX1_init_39 : decode cX1_init 39 = .ok (.aload_n 0, 1) := by decide +kernel
theorem dX1_init_40 : decode cX1_init 40 = .ok (.iconst 3, 1) := by decide +kernel
theorem dX1_init_41 : decode cX1_init 41 = .ok (.invokestatic 18, 3) := by decide +kernel
theorem dX1_init_44 : decode cX1_init 44 = .ok (.putfield 32, 3) := by decide +kernel
theorem dX1_init_47 : decode cX1_init 47 = .ok (.return_, 1) := by decide +kernel
theorem dX1_find_0 : decode cX1_find 0 = .ok (.iconst 0, 1) := by decide +kernel
theorem dX1_find_1 : decode cX1_find 1 = .ok (.istore 4, 2) := by decide +kernel
theorem dX1_find_3 : decode cX1_find 3 = .ok (.iload 4, 2) := by decide +kernel
theorem dX1_find_5 : decode cX1_find 5 = .ok (.iconst 3, 1) := by decide +kernel
theorem dX1_find_6 : decode cX1_find 6 = .ok (.if_icmp .ge 19, 3) := by decide +kernel
theorem dX1_find_9 : decode cX1_find 9 = .ok (.aload_n 0, 1) := by decide +kernel
theorem dX1_find_10 : decode cX1_find 10 = .ok (.getfield 22, 3) := by decide +kernel
theorem dX1_find_13 : decode cX1_find 13 = .ok (.iload 4, 2) := by decide +kernel
theorem dX1_find_15 : decode cX1_find 15 = .ok (.aaload, 1) := by decide +kernel
theorem dX1_find_16 : decode cX1_find 16 = .ok (.invokevirtual 35, 3) := by decide +kernel
theorem dX1_find_19 : decode cX1_find 19 = .ok (.iinc 4 1, 3) := by decide +kernel
theorem dX1_find_22 : decode cX1_find 22 = .ok (.goto (-19), 3) := by decide +kernel
theorem dX1_find_25 : decode cX1_find 25 = .ok (.iconst 1, 1) := by decide +kernel
theorem dX1_find_26 : decode cX1_find 26 = .ok (.istore 4, 2) := by decide +kernel
theorem dX1_find_28 : decode cX1_find 28 = .ok (.iconst 0, 1) := by decide +kernel
theorem dX1_find_29 : decode cX1_find 29 = .ok (.istore 5, 2) := by decide +kernel
theorem dX1_find_31 : decode cX1_find 31 = .ok (.iload 5, 2) := by decide +kernel
theorem dX1_find_33 : decode cX1_find 33 = .ok (.sipush 650, 3) := by decide +kernel
theorem dX1_find_36 : decode cX1_find 36 = .ok (.if_icmp .ge 22, 3) := by decide +kernel
theorem dX1_find_39 : decode cX1_find 39 = .ok (.iload 4, 2) := by decide +kernel
theorem dX1_find_41 : decode cX1_find 41 = .ok (.ifCond .eq 17, 3) := by decide +kernel
theorem dX1_find_44 : decode cX1_find 44 = .ok (.aload_n 0, 1) := by decide +kernel
theorem dX1_find_45 : decode cX1_find 45 = .ok (.aload_n 1, 1) := by decide +kernel
theorem dX1_find_46 : decode cX1_find 46 = .ok (.iload_n 2, 1) := by decide +kernel
theorem dX1_find_47 : decode cX1_find 47 = .ok (.invokevirtual 38, 3) := by decide +kernel
theorem dX1_find_50 : decode cX1_find 50 = .ok (.istore 4, 2) := by decide +kernel
theorem dX1_find_52 : decode cX1_find 52 = .ok (.iinc 5 1, 3) := by decide +kernel
theorem dX1_find_55 : decode cX1_find 55 = .ok (.goto (-24), 3) := by decide +kernel
theorem dX1_find_58 : decode cX1_find 58 = .ok (.aload_n 3, 1) := by decide +kernel
theorem dX1_find_59 : decode cX1_find 59 = .ok (.aload_n 0, 1) := by decide +kernel
theorem dX1_find_60 : decode cX1_find 60 = .ok (.getfield 12, 3) := by decide +kernel
theorem dX1_find_63 : decode cX1_find 63 = .ok (.invokevirtual 42, 3) := by decide +kernel
theorem dX1_find_66 : decode cX1_find 66 = .ok (.return_, 1) := by decide +kernel
theorem dX1_pass_0 : decode cX1_pass 0 = .ok (.iconst 0, 1) := by decide +kernel
theorem dX1_pass_1 : decode cX1_pass 1 = .ok (.istore_n 3, 1) := by decide +kernel
theorem dX1_pass_2 : decode cX1_pass 2 = .ok (.aload_n 0, 1) := by decide +kernel
theorem dX1_pass_3 : decode cX1_pass 3 = .ok (.getfield 12, 3) := by decide +kernel
theorem dX1_pass_6 : decode cX1_pass 6 = .ok (.invokevirtual 35, 3) := by decide +kernel
theorem dX1_pass_9 : decode cX1_pass 9 = .ok (.aload_n 1, 1) := by decide +kernel
theorem dX1_pass_10 : decode cX1_pass 10 = .ok (.getfield 46, 3) := by decide +kernel
theorem dX1_pass_13 : decode cX1_pass 13 = .ok (.iconst 1, 1) := by decide +kernel
theorem dX1_pass_14 : decode cX1_pass 14 = .ok (.isub, 1) := by decide +kernel
theorem dX1_pass_15 : decode cX1_pass 15 = .ok (.istore 4, 2) := by decide +kernel
theorem dX1_pass_17 : decode cX1_pass 17 = .ok (.iload 4, 2) := by decide +kernel
theorem dX1_pass_19 : decode cX1_pass 19 = .ok (.ifCond .lt 75, 3) := by decide +kernel
theorem dX1_pass_22 : decode cX1_pass 22 = .ok (.aload_n 1, 1) := by decide +kernel
theorem dX1_pass_23 : decode cX1_pass 23 = .ok (.iload 4, 2) := by decide +kernel
theorem dX1_pass_25 : decode cX1_pass 25 = .ok (.invokevirtual 52, 3) := by decide +kernel
theorem dX1_pass_28 : decode cX1_pass 28 = .ok (.astore 5, 2) := by decide +kernel
theorem dX1_pass_30 : decode cX1_pass 30 = .ok (.aload 5, 2) := by decide +kernel
theorem dX1_pass_32 : decode cX1_pass 32 = .ok (.getfield 56, 3) := by decide +kernel
theorem dX1_pass_35 : decode cX1_pass 35 = .ok (.bipush 6, 2) := by decide +kernel
theorem dX1_pass_37 : decode cX1_pass 37 = .ok (.if_icmp .eq 13, 3) := by decide +kernel
theorem dX1_pass_40 : decode cX1_pass 40 = .ok (.aload 5, 2) := by decide +kernel
theorem dX1_pass_42 : decode cX1_pass 42 = .ok (.getfield 56, 3) := by decide +kernel
theorem dX1_pass_45 : decode cX1_pass 45 = .ok (.bipush 7, 2) := by decide +kernel
theorem dX1_pass_47 : decode cX1_pass 47 = .ok (.if_icmp .ne 15, 3) := by decide +kernel
theorem dX1_pass_50 : decode cX1_pass 50 = .ok (.iload_n 3, 1) := by decide +kernel
theorem dX1_pass_51 : decode cX1_pass 51 = .ok (.aload_n 0, 1) := by decide +kernel
theorem dX1_pass_52 : decode cX1_pass 52 = .ok (.aload 5, 2) := by decide +kernel
theorem dX1_pass_54 : decode cX1_pass 54 = .ok (.invokevirtual 61, 3) := by decide +kernel
theorem dX1_pass_57 : decode cX1_pass 57 = .ok (.ior, 1) := by decide +kernel
theorem dX1_pass_58 : decode cX1_pass 58 = .ok (.istore_n 3, 1) := by decide +kernel
theorem dX1_pass_59 : decode cX1_pass 59 = .ok (.goto 29, 3) := by decide +kernel
theorem dX1_pass_62 : decode cX1_pass 62 = .ok (.aload 5, 2) := by decide +kernel
theorem dX1_pass_64 : decode cX1_pass 64 = .ok (.getfield 56, 3) := by decide +kernel
theorem dX1_pass_67 : decode cX1_pass 67 = .ok (.bipush 8, 2) := by decide +kernel
theorem dX1_pass_69 : decode cX1_pass 69 = .ok (.if_icmp .lt 12, 3) := by decide +kernel
theorem dX1_pass_72 : decode cX1_pass 72 = .ok (.aload_n 0, 1) := by decide +kernel
theorem dX1_pass_73 : decode cX1_pass 73 = .ok (.aload 5, 2) := by decide +kernel
theorem dX1_pass_75 : decode cX1_pass 75 = .ok (.invokevirtual 65, 3) := by decide +kernel
theorem dX1_pass_78 : decode cX1_pass 78 = .ok (.goto 10, 3) := by decide +kernel
theorem dX1_pass_81 : decode cX1_pass 81 = .ok (.aload_n 0, 1) := by decide +kernel
theorem dX1_pass_82 : decode cX1_pass 82 = .ok (.aload 5, 2) := by decide +kernel
theorem dX1_pass_84 : decode cX1_pass 84 = .ok (.iload_n 2, 1) := by decide +kernel
theorem dX1_pass_85 : decode cX1_pass 85 = .ok (.invokevirtual 69, 3) := by decide +kernel
theorem dX1_pass_88 : decode cX1_pass 88 = .ok (.iinc 4 (-1), 3) := by decide +kernel
theorem dX1_pass_91 : decode cX1_pass 91 = .ok (.goto (-74), 3) := by decide +kernel
theorem dX1_pass_94 : decode cX1_pass 94 = .ok (.iload_n 3, 1) := by decide +kernel
theorem dX1_pass_95 : decode cX1_pass 95 = .ok (.ireturn, 1) := by decide +kernel
theorem dX1_passSimple_0 : decode cX1_passSimple 0 = .ok (.aload_n 1, 1) := by decide +kernel
theorem dX1_passSimple_1 : decode cX1_passSimple 1 = .ok (.getfield 56, 3) := by decide +kernel
theorem dX1_passSimple_4 : decode cX1_passSimple 4 = .ok (.tableswitch 106 0 3 #[32, 60, 76, 92], 32) := by decide +kernel
theorem dX1_passSimple_36 : decode cX1_passSimple 36 = .ok (.aload_n 0, 1) := by decide +kernel
theorem dX1_passSimple_37 : decode cX1_passSimple 37 = .ok (.getfield 12, 3) := by decide +kernel
theorem dX1_passSimple_40 : decode cX1_passSimple 40 = .ok (.aload_n 1, 1) := by decide +kernel
theorem dX1_passSimple_41 : decode cX1_passSimple 41 = .ok (.getfield 73, 3) := by decide +kernel
theorem dX1_passSimple_44 : decode cX1_passSimple 44 = .ok (.getfield 77, 3) := by decide +kernel
theorem dX1_passSimple_47 : decode cX1_passSimple 47 = .ok (.invokevirtual 82, 3) := by decide +kernel
theorem dX1_passSimple_50 : decode cX1_passSimple 50 = .ok (.aload_n 0, 1) := by decide +kernel
theorem dX1_passSimple_51 : decode cX1_passSimple 51 = .ok (.getfield 12, 3) := by decide +kernel
theorem dX1_passSimple_54 : decode cX1_passSimple 54 = .ok (.aload_n 1, 1) := by decide +kernel
theorem dX1_passSimple_55 : decode cX1_passSimple 55 = .ok (.getfield 85, 3) := by decide +kernel
theorem dX1_passSimple_58 : decode cX1_passSimple 58 = .ok (.invokevirtual 88, 3) := by decide +kernel
theorem dX1_passSimple_61 : decode cX1_passSimple 61 = .ok (.goto 96, 3) := by decide +kernel
theorem dX1_passSimple_64 : decode cX1_passSimple 64 = .ok (.aload_n 0, 1) := by decide +kernel
theorem dX1_passSimple_65 : decode cX1_passSimple 65 = .ok (.getfield 12, 3) := by decide +kernel
theorem dX1_passSimple_68 : decode cX1_passSimple 68 = .ok (.aload_n 1, 1) := by decide +kernel
theorem dX1_passSimple_69 : decode cX1_passSimple 69 = .ok (.getfield 85, 3) := by decide +kernel
theorem dX1_passSimple_72 : decode cX1_passSimple 72 = .ok (.iconst 0, 1) := by decide +kernel
theorem dX1_passSimple_73 : decode cX1_passSimple 73 = .ok (.iconst 1, 1) := by decide +kernel
theorem dX1_passSimple_74 : decode cX1_passSimple 74 = .ok (.invokevirtual 92, 3) := by decide +kernel
theorem dX1_passSimple_77 : decode cX1_passSimple 77 = .ok (.goto 80, 3) := by decide +kernel
theorem dX1_passSimple_80 : decode cX1_passSimple 80 = .ok (.aload_n 0, 1) := by decide +kernel
theorem dX1_passSimple_81 : decode cX1_passSimple 81 = .ok (.getfield 12, 3) := by decide +kernel
theorem dX1_passSimple_84 : decode cX1_passSimple 84 = .ok (.aload_n 1, 1) := by decide +kernel
theorem dX1_passSimple_85 : decode cX1_passSimple 85 = .ok (.getfield 85, 3) := by decide +kernel
theorem dX1_passSimple_88 : decode cX1_passSimple 88 = .ok (.iconst 1, 1) := by decide +kernel
theorem dX1_passSimple_89 : decode cX1_passSimple 89 = .ok (.iconst 0, 1) := by decide +kernel
theorem dX1_passSimple_90 : decode cX1_passSimple 90 = .ok (.invokevirtual 92, 3) := by decide +kernel
theorem dX1_passSimple_93 : decode cX1_passSimple 93 = .ok (.goto 64, 3) := by decide +kernel
theorem dX1_passSimple_96 : decode cX1_passSimple 96 = .ok (.aload_n 0, 1) := by decide +kernel
theorem dX1_passSimple_97 : decode cX1_passSimple 97 = .ok (.getfield 12, 3) := by decide +kernel
theorem dX1_passSimple_100 : decode cX1_passSimple 100 = .ok (.aload_n 1, 1) := by decide +kernel
theorem dX1_passSimple_101 : decode cX1_passSimple 101 = .ok (.getfield 85, 3) := by decide +kernel
theorem dX1_passSimple_104 : decode cX1_passSimple 104 = .ok (.invokevirtual 88, 3) := by decide +kernel
theorem dX1_passSimple_107 : decode cX1_passSimple 107 = .ok (.goto 50, 3) := by decide +kernel
theorem dX1_passSimple_110 : decode cX1_passSimple 110 = .ok (.aload_n 1, 1) := by decide +kernel
theorem dX1_passSimple_111 : decode cX1_passSimple 111 = .ok (.getfield 56, 3) := by decide +kernel
theorem dX1_passSimple_114 : decode cX1_passSimple 114 = .ok (.iconst 5, 1) := by decide +kernel
theorem dX1_passSimple_115 : decode cX1_passSimple 115 = .ok (.if_icmp .ne 28, 3) := by decide +kernel
theorem dX1_passSimple_118 : decode cX1_passSimple 118 = .ok (.aload_n 1, 1) := by decide +kernel
theorem dX1_passSimple_119 : decode cX1_passSimple 119 = .ok (.getfield 96, 3) := by decide +kernel
theorem dX1_passSimple_122 : decode cX1_passSimple 122 = .ok (.iload_n 2, 1) := by decide +kernel
theorem dX1_passSimple_123 : decode cX1_passSimple 123 = .ok (.if_icmp .ne 20, 3) := by decide +kernel
theorem dX1_passSimple_126 : decode cX1_passSimple 126 = .ok (.aload_n 0, 1) := by decide +kernel
theorem dX1_passSimple_127 : decode cX1_passSimple 127 = .ok (.getfield 12, 3) := by decide +kernel
theorem dX1_passSimple_130 : decode cX1_passSimple 130 = .ok (.aload_n 1, 1) := by decide +kernel
theorem dX1_passSimple_131 : decode cX1_passSimple 131 = .ok (.getfield 73, 3) := by decide +kernel
theorem dX1_passSimple_134 : decode cX1_passSimple 134 = .ok (.getfield 77, 3) := by decide +kernel
theorem dX1_passSimple_137 : decode cX1_passSimple 137 = .ok (.invokevirtual 99, 3) := by decide +kernel
theorem dX1_passSimple_140 : decode cX1_passSimple 140 = .ok (.goto 17, 3) := by decide +kernel
theorem dX1_passSimple_143 : decode cX1_passSimple 143 = .ok (.aload_n 0, 1) := by decide +kernel
theorem dX1_passSimple_144 : decode cX1_passSimple 144 = .ok (.getfield 12, 3) := by decide +kernel
theorem dX1_passSimple_147 : decode cX1_passSimple 147 = .ok (.aload_n 1, 1) := by decide +kernel
theorem dX1_passSimple_148 : decode cX1_passSimple 148 = .ok (.getfield 73, 3) := by decide +kernel
theorem dX1_passSimple_151 : decode cX1_passSimple 151 = .ok (.getfield 77, 3) := by decide +kernel
theorem dX1_passSimple_154 : decode cX1_passSimple 154 = .ok (.invokevirtual 82, 3) := by decide +kernel
theorem dX1_passSimple_157 : decode cX1_passSimple 157 = .ok (.return_, 1) := by decide +kernel
theorem dX1_passLoop_0 : decode cX1_passLoop 0 = .ok (.aload_n 1, 1) := by decide +kernel
theorem dX1_passLoop_1 : decode cX1_passLoop 1 = .ok (.getfield 96, 3) := by decide +kernel
theorem dX1_passLoop_4 : decode cX1_passLoop 4 = .ok (.istore_n 2, 1) := by decide +kernel
theorem dX1_passLoop_5 : decode cX1_passLoop 5 = .ok (.iload_n 2, 1) := by decide +kernel
theorem dX1_passLoop_6 : decode cX1_passLoop 6 = .ok (.ifCond .lt 21, 3) := by decide +kernel
theorem dX1_passLoop_9 : decode cX1_passLoop 9 = .ok (.iload_n 2, 1) := by decide +kernel
theorem dX1_passLoop_10 : decode cX1_passLoop 10 = .ok (.aload_n 0, 1) := by decide +kernel
theorem dX1_passLoop_11 : decode cX1_passLoop 11 = .ok (.getfield 22, 3) := by decide +kernel
theorem dX1_passLoop_14 : decode cX1_passLoop 14 = .ok (.arraylength, 1) := by decide +kernel
theorem dX1_passLoop_15 : decode cX1_passLoop 15 = .ok (.if_icmp .ge 12, 3) := by decide +kernel
theorem dX1_passLoop_18 : decode cX1_passLoop 18 = .ok (.iload_n 2, 1) := by decide +kernel
theorem dX1_passLoop_19 : decode cX1_passLoop 19 = .ok (.aload_n 0, 1) := by decide +kernel
theorem dX1_passLoop_20 : decode cX1_passLoop 20 = .ok (.getfield 26, 3) := by decide +kernel
theorem dX1_passLoop_23 : decode cX1_passLoop 23 = .ok (.arraylength, 1) := by decide +kernel
theorem dX1_passLoop_24 : decode cX1_passLoop 24 = .ok (.if_icmp .lt 5, 3) := by decide +kernel
theorem dX1_passLoop_27 : decode cX1_passLoop 27 = .ok (.iconst 0, 1) := by decide +kernel
theorem dX1_passLoop_28 : decode cX1_passLoop 28 = .ok (.ireturn, 1) := by decide +kernel
theorem dX1_passLoop_29 : decode cX1_passLoop 29 = .ok (.aload_n 1, 1) := by decide +kernel
theorem dX1_passLoop_30 : decode cX1_passLoop 30 = .ok (.getfield 56, 3) := by decide +kernel
theorem dX1_passLoop_33 : decode cX1_passLoop 33 = .ok (.bipush 7, 2) := by decide +kernel
theorem dX1_passLoop_35 : decode cX1_passLoop 35 = .ok (.if_icmp .ne 31, 3) := by decide +kernel
theorem dX1_passLoop_38 : decode cX1_passLoop 38 = .ok (.aload_n 0, 1) := by decide +kernel
theorem dX1_passLoop_39 : decode cX1_passLoop 39 = .ok (.getfield 26, 3) := by decide +kernel
theorem dX1_passLoop_42 : decode cX1_passLoop 42 = .ok (.iload_n 2, 1) := by decide +kernel
theorem dX1_passLoop_43 : decode cX1_passLoop 43 = .ok (.aaload, 1) := by decide +kernel
theorem dX1_passLoop_44 : decode cX1_passLoop 44 = .ok (.aload_n 0, 1) := by decide +kernel
theorem dX1_passLoop_45 : decode cX1_passLoop 45 = .ok (.getfield 12, 3) := by decide +kernel
theorem dX1_passLoop_48 : decode cX1_passLoop 48 = .ok (.invokevirtual 42, 3) := by decide +kernel
theorem dX1_passLoop_51 : decode cX1_passLoop 51 = .ok (.aload_n 0, 1) := by decide +kernel
theorem dX1_passLoop_52 : decode cX1_passLoop 52 = .ok (.getfield 12, 3) := by decide +kernel
theorem dX1_passLoop_55 : decode cX1_passLoop 55 = .ok (.aload_n 0, 1) := by decide +kernel
theorem dX1_passLoop_56 : decode cX1_passLoop 56 = .ok (.getfield 22, 3) := by decide +kernel
theorem dX1_passLoop_59 : decode cX1_passLoop 59 = .ok (.iload_n 2, 1) := by decide +kernel
theorem dX1_passLoop_60 : decode cX1_passLoop 60 = .ok (.aaload, 1) := by decide +kernel
theorem dX1_passLoop_61 : decode cX1_passLoop 61 = .ok (.invokevirtual 42, 3) := by decide +kernel
theorem dX1_passLoop_64 : decode cX1_passLoop 64 = .ok (.iconst 0, 1) := by decide +kernel
theorem dX1_passLoop_65 : decode cX1_passLoop 65 = .ok (.ireturn, 1) := by decide +kernel
theorem dX1_passLoop_66 : decode cX1_passLoop 66 = .ok (.aload_n 0, 1) := by decide +kernel
theorem dX1_passLoop_67 : decode cX1_passLoop 67 = .ok (.getfield 12, 3) := by decide +kernel
theorem dX1_passLoop_70 : decode cX1_passLoop 70 = .ok (.aload_n 1, 1) := by decide +kernel
theorem dX1_passLoop_71 : decode cX1_passLoop 71 = .ok (.getfield 73, 3) := by decide +kernel
theorem dX1_passLoop_74 : decode cX1_passLoop 74 = .ok (.getfield 77, 3) := by decide +kernel
theorem dX1_passLoop_77 : decode cX1_passLoop 77 = .ok (.invokevirtual 82, 3) := by decide +kernel
theorem dX1_passLoop_80 : decode cX1_passLoop 80 = .ok (.aload_n 0, 1) := by decide +kernel
theorem dX1_passLoop_81 : decode cX1_passLoop 81 = .ok (.getfield 26, 3) := by decide +kernel
theorem dX1_passLoop_84 : decode cX1_passLoop 84 = .ok (.iload_n 2, 1) := by decide +kernel
theorem dX1_passLoop_85 : decode cX1_passLoop 85 = .ok (.aaload, 1) := by decide +kernel
theorem dX1_passLoop_86 : decode cX1_passLoop 86 = .ok (.aload_n 1, 1) := by decide +kernel
theorem dX1_passLoop_87 : decode cX1_passLoop 87 = .ok (.getfield 73, 3) := by decide +kernel
theorem dX1_passLoop_90 : decode cX1_passLoop 90 = .ok (.getfield 77, 3) := by decide +kernel
theorem dX1_passLoop_93 : decode cX1_passLoop 93 = .ok (.invokevirtual 102, 3) := by decide +kernel
theorem dX1_passLoop_96 : decode cX1_passLoop 96 = .ok (.aload_n 0, 1) := by decide +kernel
theorem dX1_passLoop_97 : decode cX1_passLoop 97 = .ok (.getfield 12, 3) := by decide +kernel
theorem dX1_passLoop_100 : decode cX1_passLoop 100 = .ok (.aload_n 0, 1) := by decide +kernel
theorem dX1_passLoop_101 : decode cX1_passLoop 101 = .ok (.getfield 26, 3) := by decide +kernel
theorem dX1_passLoop_104 : decode cX1_passLoop 104 = .ok (.iload_n 2, 1) := by decide +kernel
theorem dX1_passLoop_105 : decode cX1_passLoop 105 = .ok (.aaload, 1) := by decide +kernel
theorem dX1_passLoop_106 : decode cX1_passLoop 106 = .ok (.invokevirtual 105, 3) := by decide +kernel
theorem dX1_passLoop_109 : decode cX1_passLoop 109 = .ok (.pop, 1) := by decide +kernel
theorem dX1_passLoop_110 : decode cX1_passLoop 110 = .ok (.aload_n 0, 1) := by decide +kernel
theorem dX1_passLoop_111 : decode cX1_passLoop 111 = .ok (.getfield 22, 3) := by decide +kernel
theorem dX1_passLoop_114 : decode cX1_passLoop 114 = .ok (.iload_n 2, 1) := by decide +kernel
theorem dX1_passLoop_115 : decode cX1_passLoop 115 = .ok (.aaload, 1) := by decide +kernel
theorem dX1_passLoop_116 : decode cX1_passLoop 116 = .ok (.aload_n 0, 1) := by decide +kernel
theorem dX1_passLoop_117 : decode cX1_passLoop 117 = .ok (.getfield 12, 3) := by decide +kernel
theorem dX1_passLoop_120 : decode cX1_passLoop 120 = .ok (.invokevirtual 105, 3) := by decide +kernel
theorem dX1_passLoop_123 : decode cX1_passLoop 123 = .ok (.ireturn, 1) := by decide +kernel
theorem dX1_passChoice_0 : decode cX1_passChoice 0 = .ok (.aload_n 1, 1) := by decide +kernel
theorem dX1_passChoice_1 : decode cX1_passChoice 1 = .ok (.getfield 96, 3) := by decide +kernel
theorem dX1_passChoice_4 : decode cX1_passChoice 4 = .ok (.istore_n 2, 1) := by decide +kernel
theorem dX1_passChoice_5 : decode cX1_passChoice 5 = .ok (.iload_n 2, 1) := by decide +kernel
theorem dX1_passChoice_6 : decode cX1_passChoice 6 = .ok (.ifCond .lt 21, 3) := by decide +kernel
theorem dX1_passChoice_9 : decode cX1_passChoice 9 = .ok (.iload_n 2, 1) := by decide +kernel
theorem dX1_passChoice_10 : decode cX1_passChoice 10 = .ok (.aload_n 0, 1) := by decide +kernel
theorem dX1_passChoice_11 : decode cX1_passChoice 11 = .ok (.getfield 29, 3) := by decide +kernel
theorem dX1_passChoice_14 : decode cX1_passChoice 14 = .ok (.arraylength, 1) := by decide +kernel
theorem dX1_passChoice_15 : decode cX1_passChoice 15 = .ok (.if_icmp .ge 12, 3) := by decide +kernel
theorem dX1_passChoice_18 : decode cX1_passChoice 18 = .ok (.iload_n 2, 1) := by decide +kernel
theorem dX1_passChoice_19 : decode cX1_passChoice 19 = .ok (.aload_n 0, 1) := by decide +kernel
theorem dX1_passChoice_20 : decode cX1_passChoice 20 = .ok (.getfield 32, 3) := by decide +kernel
theorem dX1_passChoice_23 : decode cX1_passChoice 23 = .ok (.arraylength, 1) := by decide +kernel
theorem dX1_passChoice_24 : decode cX1_passChoice 24 = .ok (.if_icmp .lt 4, 3) := by decide +kernel
theorem dX1_passChoice_27 : decode cX1_passChoice 27 = .ok (.return_, 1) := by decide +kernel
theorem dX1_passChoice_28 : decode cX1_passChoice 28 = .ok (.aload_n 1, 1) := by decide +kernel
theorem dX1_passChoice_29 : decode cX1_passChoice 29 = .ok (.getfield 56, 3) := by decide +kernel
theorem dX1_passChoice_32 : decode cX1_passChoice 32 = .ok (.bipush 10, 2) := by decide +kernel
theorem dX1_passChoice_34 : decode cX1_passChoice 34 = .ok (.if_icmp .ne 19, 3) := by decide +kernel
theorem dX1_passChoice_37 : decode cX1_passChoice 37 = .ok (.aload_n 0, 1) := by decide +kernel
theorem dX1_passChoice_38 : decode cX1_passChoice 38 = .ok (.getfield 29, 3) := by decide +kernel
theorem dX1_passChoice_41 : decode cX1_passChoice 41 = .ok (.iload_n 2, 1) := by decide +kernel
theorem dX1_passChoice_42 : decode cX1_passChoice 42 = .ok (.aaload, 1) := by decide +kernel
theorem dX1_passChoice_43 : decode cX1_passChoice 43 = .ok (.aload_n 0, 1) := by decide +kernel
theorem dX1_passChoice_44 : decode cX1_passChoice 44 = .ok (.getfield 12, 3) := by decide +kernel
theorem dX1_passChoice_47 : decode cX1_passChoice 47 = .ok (.invokevirtual 42, 3) := by decide +kernel
theorem dX1_passChoice_50 : decode cX1_passChoice 50 = .ok (.goto 55, 3) := by decide +kernel
theorem dX1_passChoice_53 : decode cX1_passChoice 53 = .ok (.aload_n 1, 1) := by decide +kernel
theorem dX1_passChoice_54 : decode cX1_passChoice 54 = .ok (.getfield 56, 3) := by decide +kernel
theorem dX1_passChoice_57 : decode cX1_passChoice 57 = .ok (.bipush 9, 2) := by decide +kernel
theorem dX1_passChoice_59 : decode cX1_passChoice 59 = .ok (.if_icmp .ne 32, 3) := by decide +kernel
theorem dX1_passChoice_62 : decode cX1_passChoice 62 = .ok (.aload_n 0, 1) := by decide +kernel
theorem dX1_passChoice_63 : decode cX1_passChoice 63 = .ok (.getfield 32, 3) := by decide +kernel
theorem dX1_passChoice_66 : decode cX1_passChoice 66 = .ok (.iload_n 2, 1) := by decide +kernel
theorem dX1_passChoice_67 : decode cX1_passChoice 67 = .ok (.aaload, 1) := by decide +kernel
theorem dX1_passChoice_68 : decode cX1_passChoice 68 = .ok (.aload_n 0, 1) := by decide +kernel
theorem dX1_passChoice_69 : decode cX1_passChoice 69 = .ok (.getfield 12, 3) := by decide +kernel
theorem dX1_passChoice_72 : decode cX1_passChoice 72 = .ok (.invokevirtual 42, 3) := by decide +kernel
theorem dX1_passChoice_75 : decode cX1_passChoice 75 = .ok (.aload_n 0, 1) := by decide +kernel
theorem dX1_passChoice_76 : decode cX1_passChoice 76 = .ok (.getfield 12, 3) := by decide +kernel
theorem dX1_passChoice_79 : decode cX1_passChoice 79 = .ok (.aload_n 0, 1) := by decide +kernel
theorem dX1_passChoice_80 : decode cX1_passChoice 80 = .ok (.getfield 29, 3) := by decide +kernel
theorem dX1_passChoice_83 : decode cX1_passChoice 83 = .ok (.iload_n 2, 1) := by decide +kernel
theorem dX1_passChoice_84 : decode cX1_passChoice 84 = .ok (.aaload, 1) := by decide +kernel
theorem dX1_passChoice_85 : decode cX1_passChoice 85 = .ok (.invokevirtual 42, 3) := by decide +kernel
theorem dX1_passChoice_88 : decode cX1_passChoice 88 = .ok (.goto 17, 3) := by decide +kernel
theorem dX1_passChoice_91 : decode cX1_passChoice 91 = .ok (.aload_n 0, 1) := by decide +kernel
theorem dX1_passChoice_92 : decode cX1_passChoice 92 = .ok (.getfield 12, 3) := by decide +kernel
theorem dX1_passChoice_95 : decode cX1_passChoice 95 = .ok (.aload_n 0, 1) := by decide +kernel
theorem dX1_passChoice_96 : decode cX1_passChoice 96 = .ok (.getfield 32, 3) := by decide +kernel
theorem dX1_passChoice_99 : decode cX1_passChoice 99 = .ok (.iload_n 2, 1) := by decide +kernel
theorem dX1_passChoice_100 : decode cX1_passChoice 100 = .ok (.aaload, 1) := by decide +kernel
theorem dX1_passChoice_101 : decode cX1_passChoice 101 = .ok (.invokevirtual 105, 3) := by decide +kernel
theorem dX1_passChoice_104 : decode cX1_passChoice 104 = .ok (.pop, 1) := by decide +kernel
theorem dX1_passChoice_105 : decode cX1_passChoice 105 = .ok (.return_, 1) := by decide +kernel
theorem dX2_init_0 : decode cX2_init 0 = .ok (.aload_n 0, 1) := by decide +kernel
theorem dX2_init_1 : decode cX2_init 1 = .ok (.invokespecial 3, 3) := by decide +kernel
theorem dX2_init_4 : decode cX2_init 4 = .ok (.aload_n 0, 1) := by decide +kernel
theorem dX2_init_5 : decode cX2_init 5 = .ok (.bipush 60, 2) := by decide +kernel
theorem dX2_init_7 : decode cX2_init 7 = .ok (.anewarray 9, 3) := by decide +kernel
theorem dX2_init_10 : decode cX2_init 10 = .ok (.putfield 11, 3) := by decide +kernel
theorem dX2_init_13 : decode cX2_init 13 = .ok (.aload_n 0, 1) := by decide +kernel
theorem dX2_init_14 : decode cX2_init 14 = .ok (.bipush 20, 2) := by decide +kernel
theorem dX2_init_16 : decode cX2_init 16 = .ok (.anewarray 17, 3) := by decide +kernel
theorem dX2_init_19 : decode cX2_init 19 = .ok (.putfield 19, 3) := by decide +kernel
theorem dX2_init_22 : decode cX2_init 22 = .ok (.aload_n 0, 1) := by decide +kernel
theorem dX2_init_23 : decode cX2_init 23 = .ok (.iconst 5, 1) := by decide +kernel
theorem dX2_init_24 : decode cX2_init 24 = .ok (.anewarray 17, 3) := by decide +kernel
theorem dX2_init_27 : decode cX2_init 27 = .ok (.putfield 23, 3) := by decide +kernel
theorem dX2_init_30 : decode cX2_init 30 = .ok (.aload_n 0, 1) := by decide +kernel
theorem dX2_init_31 : decode cX2_init 31 = .ok (.iconst 4, 1) := by decide +kernel
theorem dX2_init_32 : decode cX2_init 32 = .ok (.anewarray 17, 3) := by decide +kernel
theorem dX2_init_35 : decode cX2_init 35 = .ok (.putfield 26, 3) := by decide +kernel
theorem dX2_init_38 : decode cX2_init 38 = .ok (.iconst 0, 1) := by decide +kernel
theorem dX2_init_39 : decode cX2_init 39 = .ok (.istore_n 1, 1) := by decide +kernel
theorem dX2_init_40 : decode cX2_init 40 = .ok (.iload_n 1, 1) := by decide +kernel
theorem dX2_init_41 : decode cX2_init 41 = .ok (.aload_n 0, 1) := by decide +kernel
theorem dX2_init_42 : decode cX2_init 42 = .ok (.getfield 19, 3) := by decide +kernel
theorem dX2_init_45 : decode cX2_init 45 = .ok (.arraylength, 1) := by decide +kernel
theorem dX2_init_46 : decode cX2_init 46 = .ok (.if_icmp .ge 22, 3) := by decide +kernel
theorem dX2_init_49 : decode cX2_init 49 = .ok (.aload_n 0, 1) := by decide +kernel
theorem dX2_init_50 : decode cX2_init 50 = .ok (.getfield 19, 3) := by decide +kernel
theorem dX2_init_53 : decode cX2_init 53 = .ok (.iload_n 1, 1) := by decide +kernel
theorem dX2_init_54 : decode cX2_init 54 = .ok (.new 17, 3) := by decide +kernel
theorem dX2_init_57 : decode cX2_init 57 = .ok (.dup, 1) := by decide +kernel
theorem dX2_init_58 : decode cX2_init 58 = .ok (.invokespecial 29, 3) := by decide +kernel
theorem dX2_init_61 : decode cX2_init 61 = .ok (.aastore, 1) := by decide +kernel
theorem dX2_init_62 : decode cX2_init 62 = .ok (.iinc 1 1, 3) := by decide +kernel
theorem dX2_init_65 : decode cX2_init 65 = .ok (.goto (-25), 3) := by decide +kernel
theorem dX2_init_68 : decode cX2_init 68 = .ok (.iconst 0, 1) := by decide +kernel
theorem dX2_init_69 : decode cX2_init 69 = .ok (.istore_n 1, 1) := by decide +kernel
theorem dX2_init_70 : decode cX2_init 70 = .ok (.iload_n 1, 1) := by decide +kernel
theorem dX2_init_71 : decode cX2_init 71 = .ok (.aload_n 0, 1) := by decide +kernel
theorem dX2_init_72 : decode cX2_init 72 = .ok (.getfield 11, 3) := by decide +kernel
theorem dX2_init_75 : decode cX2_init 75 = .ok (.arraylength, 1) := by decide +kernel
theorem dX2_init_76 : decode cX2_init 76 = .ok (.if_icmp .ge 28, 3) := by decide +kernel
theorem dX2_init_79 : decode cX2_init 79 = .ok (.aload_n 0, 1) := by decide +kernel
theorem dX2_init_80 : decode cX2_init 80 = .ok (.getfield 11, 3) := by decide +kernel
theorem dX2_init_83 : decode cX2_init 83 = .ok (.iload_n 1, 1) := by decide +kernel
theorem dX2_init_84 : decode cX2_init 84 = .ok (.new 9, 3) := by decide +kernel
theorem dX2_init_87 : decode cX2_init 87 = .ok (.dup, 1) := by decide +kernel
theorem dX2_init_88 : decode cX2_init 88 = .ok (.aload_n 0, 1) := by decide +kernel
theorem dX2_init_89 : decode cX2_init 89 = .ok (.getfield 19, 3) := by decide +kernel
theorem dX2_init_92 : decode cX2_init 92 = .ok (.iconst 0, 1) := by decide +kernel
theorem dX2_init_93 : decode cX2_init 93 = .ok (.aaload, 1) := by decide +kernel
theorem dX2_init_94 : decode cX2_init 94 = .ok (.invokespecial 30, 3) := by decide +kernel
theorem dX2_init_97 : decode cX2_init 97 = .ok (.aastore, 1) := by decide +kernel
theorem dX2_init_98 : decode cX2_init 98 = .ok (.iinc 1 1, 3) := by decide +kernel
theorem dX2_init_101 : decode cX2_init 101 = .ok (.goto (-31), 3) := by decide +kernel
theorem dX2_init_104 : decode cX2_init 104 = .ok (.iconst 0, 1) := by decide +kernel
theorem dX2_init_105 : decode cX2_init 105 = .ok (.istore_n 1, 1) := by decide +kernel
theorem dX2_init_106 : decode cX2_init 106 = .ok (.iload_n 1, 1) := by decide +kernel
theorem dX2_init_107 : decode cX2_init 107 = .ok (.aload_n 0, 1) := by decide +kernel
theorem dX2_init_108 : decode cX2_init 108 = .ok (.getfield 23, 3) := by decide +kernel
theorem dX2_init_111 : decode cX2_init 111 = .ok (.arraylength, 1) := by decide +kernel
theorem dX2_init_112 : decode cX2_init 112 = .ok (.if_icmp .ge 21, 3) := by decide +kernel
theorem dX2_init_115 : decode cX2_init 115 = .ok (.aload_n 0, 1) := by decide +kernel
theorem dX2_init_116 : decode cX2_init 116 = .ok (.getfield 23, 3) := by decide +kernel
theorem dX2_init_119 : decode cX2_init 119 = .ok (.iload_n 1, 1) := by decide +kernel
theorem dX2_init_120 : decode cX2_init 120 = .ok (.aload_n 0, 1) := by decide +kernel
theorem dX2_init_121 : decode cX2_init 121 = .ok (.getfield 19, 3) := by decide +kernel
theorem dX2_init_124 : decode cX2_init 124 = .ok (.iconst 0, 1) := by decide +kernel
theorem dX2_init_125 : decode cX2_init 125 = .ok (.aaload, 1) := by decide +kernel
theorem dX2_init_126 : decode cX2_init 126 = .ok (.aastore, 1) := by decide +kernel
theorem dX2_init_127 : decode cX2_init 127 = .ok (.iinc 1 1, 3) := by decide +kernel
theorem dX2_init_130 : decode cX2_init 130 = .ok (.goto (-24), 3) := by decide +kernel
theorem dX2_init_133 : decode cX2_init 133 = .ok (.iconst 0, 1) := by decide +kernel
theorem dX2_init_134 : decode cX2_init 134 = .ok (.istore_n 1, 1) := by decide +kernel
theorem dX2_init_135 : decode cX2_init 135 = .ok (.iload_n 1, 1) := by decide +kernel
theorem dX2_init_136 : decode cX2_init 136 = .ok (.aload_n 0, 1) := by decide +kernel
theorem dX2_init_137 : decode cX2_init 137 = .ok (.getfield 26, 3) := by decide +kernel
theorem dX2_init_140 : decode cX2_init 140 = .ok (.arraylength, 1) := by decide +kernel
theorem dX2_init_141 : decode cX2_init 141 = .ok (.if_icmp .ge 21, 3) := by decide +kernel
theorem dX2_init_144 : decode cX2_init 144 = .ok (.aload_n 0, 1) := by decide +kernel
theorem dX2_init_145 : decode cX2_init 145 = .ok (.getfield 26, 3) := by decide +kernel
theorem dX2_init_148 : decode cX2_init 148 = .ok (.iload_n 1, 1) := by decide +kernel
theorem dX2_init_149 : decode cX2_init 149 = .ok (.aload_n 0, 1) := by decide +kernel
theorem dX2_init_150 : decode cX2_init 150 = .ok (.getfield 19, 3) := by decide +kernel
theorem dX2_init_153 : decode cX2_init 153 = .ok (.iconst 0, 1) := by decide +kernel
theorem dX2_init_154 : decode cX2_init 154 = .ok (.aaload, 1) := by decide +kernel
theorem dX2_init_155 : decode cX2_init 155 = .ok (.aastore, 1) := by decide +kernel
theorem dX2_init_156 : decode cX2_init 156 = .ok (.iinc 1 1, 3) := by decide +kernel
theorem dX2_init_159 : decode cX2_init 159 = .ok (.goto (-24), 3) := by decide +kernel
theorem dX2_init_162 : decode cX2_init 162 = .ok (.return_, 1) := by decide +kernel
theorem dX2_clear_0 : decode cX2_clear 0 = .ok (.aload_n 0, 1) := by decide +kernel
theorem dX2_clear_1 : decode cX2_clear 1 = .ok (.iconst 0, 1) := by decide +kernel
theorem dX2_clear_2 : decode cX2_clear 2 = .ok (.putfield 33, 3) := by decide +kernel
theorem dX2_clear_5 : decode cX2_clear 5 = .ok (.aload_n 0, 1) := by decide +kernel
theorem dX2_clear_6 : decode cX2_clear 6 = .ok (.iconst 0, 1) := by decide +kernel
theorem dX2_clear_7 : decode cX2_clear 7 = .ok (.putfield 37, 3) := by decide +kernel
theorem dX2_clear_10 : decode cX2_clear 10 = .ok (.aload_n 0, 1) := by decide +kernel
theorem dX2_clear_11 : decode cX2_clear 11 = .ok (.iconst 0, 1) := by decide +kernel
theorem dX2_clear_12 : decode cX2_clear 12 = .ok (.putfield 40, 3) := by decide +kernel
theorem dX2_clear_15 : decode cX2_clear 15 = .ok (.aload_n 0, 1) := by decide +kernel
theorem dX2_clear_16 : decode cX2_clear 16 = .ok (.iconst 0, 1) := by decide +kernel
theorem dX2_clear_17 : decode cX2_clear 17 = .ok (.putfield 43, 3) := by decide +kernel
theorem dX2_clear_20 : decode cX2_clear 20 = .ok (.aload_n 0, 1) := by decide +kernel
theorem dX2_clear_21 : decode cX2_clear 21 = .ok (.iconst 0, 1) := by decide +kernel
theorem dX2_clear_22 : decode cX2_clear 22 = .ok (.putfield 46, 3) := by decide +kernel
theorem dX2_clear_25 : decode cX2_clear 25 = .ok (.aload_n 0, 1) := by decide +kernel
theorem dX2_clear_26 : decode cX2_clear 26 = .ok (.iconst 0, 1) := by decide +kernel
theorem dX2_clear_27 : decode cX2_clear 27 = .ok (.putfield 49, 3) := by decide +kernel
theorem dX2_clear_30 : decode cX2_clear 30 = .ok (.aload_n 0, 1) := by decide +kernel
theorem dX2_clear_31 : decode cX2_clear 31 = .ok (.iconst 0, 1) := by decide +kernel
theorem dX2_clear_32 : decode cX2_clear 32 = .ok (.putfield 52, 3) := by decide +kernel
theorem dX2_clear_35 : decode cX2_clear 35 = .ok (.return_, 1) := by decide +kernel
theorem dX2_at_0 : decode cX2_at 0 = .ok (.aload_n 0, 1) := by decide +kernel
theorem dX2_at_1 : decode cX2_at 1 = .ok (.getfield 11, 3) := by decide +kernel
theorem dX2_at_4 : decode cX2_at 4 = .ok (.iload_n 1, 1) := by decide +kernel
theorem dX2_at_5 : decode cX2_at 5 = .ok (.ifCond .lt 12, 3) := by decide +kernel
theorem dX2_at_8 : decode cX2_at 8 = .ok (.iload_n 1, 1) := by decide +kernel
theorem dX2_at_9 : decode cX2_at 9 = .ok (.aload_n 0, 1) := by decide +kernel
theorem dX2_at_10 : decode cX2_at 10 = .ok (.getfield 11, 3) := by decide +kernel
theorem dX2_at_13 : decode cX2_at 13 = .ok (.arraylength, 1) := by decide +kernel
theorem dX2_at_14 : decode cX2_at 14 = .ok (.if_icmp .lt 7, 3) := by decide +kernel
theorem dX2_at_17 : decode cX2_at 17 = .ok (.iconst 0, 1) := by decide +kernel
theorem dX2_at_18 : decode cX2_at 18 = .ok (.goto 4, 3) := by decide +kernel
theorem dX2_at_21 : decode cX2_at 21 = .ok (.iload_n 1, 1) := by decide +kernel
theorem dX2_at_22 : decode cX2_at 22 = .ok (.aaload, 1) := by decide +kernel
theorem dX2_at_23 : decode cX2_at 23 = .ok (.areturn, 1) := by decide +kernel
theorem dX2_append_0 : decode cX2_append 0 = .ok (.aload_n 0, 1) := by decide +kernel
theorem dX2_append_1 : decode cX2_append 1 = .ok (.aload_n 0, 1) := by decide +kernel
theorem dX2_append_2 : decode cX2_append 2 = .ok (.getfield 33, 3) := by decide +kernel
theorem dX2_append_5 : decode cX2_append 5 = .ok (.invokevirtual 55, 3) := by decide +kernel
theorem dX2_append_8 : decode cX2_append 8 = .ok (.astore_n 2, 1) := by decide +kernel
theorem dX2_append_9 : decode cX2_append 9 = .ok (.aload_n 0, 1) := by decide +kernel
theorem dX2_append_10 : decode cX2_append 10 = .ok (.aload_n 0, 1) := by decide +kernel
theorem dX2_append_11 : decode cX2_append 11 = .ok (.getfield 33, 3) := by decide +kernel
theorem dX2_append_14 : decode cX2_append 14 = .ok (.iconst 1, 1) := by decide +kernel
theorem dX2_append_15 : decode cX2_append 15 = .ok (.iadd, 1) := by decide +kernel
theorem dX2_append_16 : decode cX2_append 16 = .ok (.aload_n 0, 1) := by decide +kernel
theorem dX2_append_17 : decode cX2_append 17 = .ok (.getfield 11, 3) := by decide +kernel
theorem dX2_append_20 : decode cX2_append 20 = .ok (.arraylength, 1) := by decide +kernel
theorem dX2_append_21 : decode cX2_append 21 = .ok (.invokestatic 59, 3) := by decide +kernel
theorem dX2_append_24 : decode cX2_append 24 = .ok (.putfield 33, 3) := by decide +kernel
theorem dX2_append_27 : decode cX2_append 27 = .ok (.aload_n 2, 1) := by decide +kernel
theorem dX2_append_28 : decode cX2_append 28 = .ok (.iload_n 1, 1) := by decide +kernel
theorem dX2_append_29 : decode cX2_append 29 = .ok (.putfield 65, 3) := by decide +kernel
theorem dX2_append_32 : decode cX2_append 32 = .ok (.aload_n 2, 1) := by decide +kernel
theorem dX2_append_33 : decode cX2_append 33 = .ok (.aload_n 0, 1) := by decide +kernel
theorem dX2_append_34 : decode cX2_append 34 = .ok (.getfield 19, 3) := by decide +kernel
theorem dX2_append_37 : decode cX2_append 37 = .ok (.iconst 0, 1) := by decide +kernel
theorem dX2_append_38 : decode cX2_append 38 = .ok (.aaload, 1) := by decide +kernel
theorem dX2_append_39 : decode cX2_append 39 = .ok (.putfield 68, 3) := by decide +kernel
theorem dX2_append_42 : decode cX2_append 42 = .ok (.aload_n 2, 1) := by decide +kernel
theorem dX2_append_43 : decode cX2_append 43 = .ok (.invokevirtual 72, 3) := by decide +kernel
theorem dX2_append_46 : decode cX2_append 46 = .ok (.ifCond .eq 13, 3) := by decide +kernel
theorem dX2_append_49 : decode cX2_append 49 = .ok (.aload_n 0, 1) := by decide +kernel
theorem dX2_append_50 : decode cX2_append 50 = .ok (.dup, 1) := by decide +kernel
theorem dX2_append_51 : decode cX2_append 51 = .ok (.getfield 52, 3) := by decide +kernel
theorem dX2_append_54 : decode cX2_append 54 = .ok (.iconst 1, 1) := by decide +kernel
theorem dX2_append_55 : decode cX2_append 55 = .ok (.iadd, 1) := by decide +kernel
theorem dX2_append_56 : decode cX2_append 56 = .ok (.putfield 52, 3) := by decide +kernel
theorem dX2_append_59 : decode cX2_append 59 = .ok (.aload_n 2, 1) := by decide +kernel
theorem dX2_append_60 : decode cX2_append 60 = .ok (.areturn, 1) := by decide +kernel
theorem dX2_newCondition_0 : decode cX2_newCondition 0 = .ok (.aload_n 0, 1) := by decide +kernel
theorem dX2_newCondition_1 : decode cX2_newCondition 1 = .ok (.getfield 19, 3) := by decide +kernel
theorem dX2_newCondition_4 : decode cX2_newCondition 4 = .ok (.aload_n 0, 1) := by decide +kernel
theorem dX2_newCondition_5 : decode cX2_newCondition 5 = .ok (.getfield 37, 3) := by decide +kernel
theorem dX2_newCondition_8 : decode cX2_newCondition 8 = .ok (.ifCond .lt 15, 3) := by decide +kernel
theorem dX2_newCondition_11 : decode cX2_newCondition 11 = .ok (.aload_n 0, 1) := by decide +kernel
theorem dX2_newCondition_12 : decode cX2_newCondition 12 = .ok (.getfield 37, 3) := by decide +kernel
theorem dX2_newCondition_15 : decode cX2_newCondition 15 = .ok (.aload_n 0, 1) := by decide +kernel
theorem dX2_newCondition_16 : decode cX2_newCondition 16 = .ok (.getfield 19, 3) := by decide +kernel
theorem dX2_newCondition_19 : decode cX2_newCondition 19 = .ok (.arraylength, 1) := by decide +kernel
theorem dX2_newCondition_20 : decode cX2_newCondition 20 = .ok (.if_icmp .lt 7, 3) := by decide +kernel
theorem dX2_newCondition_23 : decode cX2_newCondition 23 = .ok (.iconst 0, 1) := by decide +kernel
theorem dX2_newCondition_24 : decode cX2_newCondition 24 = .ok (.goto 7, 3) := by decide +kernel
theorem dX2_newCondition_27 : decode cX2_newCondition 27 = .ok (.aload_n 0, 1) := by decide +kernel
theorem dX2_newCondition_28 : decode cX2_newCondition 28 = .ok (.getfield 37, 3) := by decide +kernel
theorem dX2_newCondition_31 : decode cX2_newCondition 31 = .ok (.aaload, 1) := by decide +kernel
theorem dX2_newCondition_32 : decode cX2_newCondition 32 = .ok (.astore 4, 2) := by decide +kernel
theorem dX2_newCondition_34 : decode cX2_newCondition 34 = .ok (.aload_n 0, 1) := by decide +kernel
theorem dX2_newCondition_35 : decode cX2_newCondition 35 = .ok (.dup, 1) := by decide +kernel
theorem dX2_newCondition_36 : decode cX2_newCondition 36 = .ok (.getfield 37, 3) := by decide +kernel
theorem dX2_newCondition_39 : decode cX2_newCondition 39 = .ok (.iconst 1, 1) := by decide +kernel
theorem dX2_newCondition_40 : decode cX2_newCondition 40 = .ok (.iadd, 1) := by decide +kernel
theorem dX2_newCondition_41 : decode cX2_newCondition 41 = .ok (.putfield 37, 3) := by decide +kernel
theorem dX2_newCondition_44 : decode cX2_newCondition 44 = .ok (.aload 4, 2) := by decide +kernel
theorem dX2_newCondition_46 : decode cX2_newCondition 46 = .ok (.iload_n 1, 1) := by decide +kernel
theorem dX2_newCondition_47 : decode cX2_newCondition 47 = .ok (.iload_n 2, 1) := by decide +kernel
theorem dX2_newCondition_48 : decode cX2_newCondition 48 = .ok (.iload_n 3, 1) := by decide +kernel
theorem dX2_newCondition_49 : decode cX2_newCondition 49 = .ok (.invokevirtual 76, 3) := by decide +kernel
theorem dX2_newCondition_52 : decode cX2_newCondition 52 = .ok (.aload 4, 2) := by decide +kernel
theorem dX2_newCondition_54 : decode cX2_newCondition 54 = .ok (.areturn, 1) := by decide +kernel
theorem dX2_appendCheck_0 : decode cX2_appendCheck 0 = .ok (.aload_n 0, 1) := by decide +kernel
theorem dX2_appendCheck_1 : decode cX2_appendCheck 1 = .ok (.iconst 5, 1) := by decide +kernel
theorem dX2_appendCheck_2 : decode cX2_appendCheck 2 = .ok (.invokevirtual 80, 3) := by decide +kernel
theorem dX2_appendCheck_5 : decode cX2_appendCheck 5 = .ok (.astore_n 2, 1) := by decide +kernel
theorem dX2_appendCheck_6 : decode cX2_appendCheck 6 = .ok (.aload_n 2, 1) := by decide +kernel
theorem dX2_appendCheck_7 : decode cX2_appendCheck 7 = .ok (.aload_n 1, 1) := by decide +kernel
theorem dX2_appendCheck_8 : decode cX2_appendCheck 8 = .ok (.putfield 68, 3) := by decide +kernel
theorem dX2_appendCheck_11 : decode cX2_appendCheck 11 = .ok (.aload_n 2, 1) := by decide +kernel
theorem dX2_appendCheck_12 : decode cX2_appendCheck 12 = .ok (.aload_n 0, 1) := by decide +kernel
theorem dX2_appendCheck_13 : decode cX2_appendCheck 13 = .ok (.getfield 43, 3) := by decide +kernel
theorem dX2_appendCheck_16 : decode cX2_appendCheck 16 = .ok (.putfield 83, 3) := by decide +kernel
theorem dX2_appendCheck_19 : decode cX2_appendCheck 19 = .ok (.aload_n 0, 1) := by decide +kernel
theorem dX2_appendCheck_20 : decode cX2_appendCheck 20 = .ok (.getfield 43, 3) := by decide +kernel
theorem dX2_appendCheck_23 : decode cX2_appendCheck 23 = .ok (.ifCond .lt 25, 3) := by decide +kernel
theorem dX2_appendCheck_26 : decode cX2_appendCheck 26 = .ok (.aload_n 0, 1) := by decide +kernel
theorem dX2_appendCheck_27 : decode cX2_appendCheck 27 = .ok (.getfield 43, 3) := by decide +kernel
theorem dX2_appendCheck_30 : decode cX2_appendCheck 30 = .ok (.aload_n 0, 1) := by decide +kernel
theorem dX2_appendCheck_31 : decode cX2_appendCheck 31 = .ok (.getfield 26, 3) := by decide +kernel
theorem dX2_appendCheck_34 : decode cX2_appendCheck 34 = .ok (.arraylength, 1) := by decide +kernel
theorem dX2_appendCheck_35 : decode cX2_appendCheck 35 = .ok (.if_icmp .ge 13, 3) := by decide +kernel
theorem dX2_appendCheck_38 : decode cX2_appendCheck 38 = .ok (.aload_n 0, 1) := by decide +kernel
theorem dX2_appendCheck_39 : decode cX2_appendCheck 39 = .ok (.getfield 26, 3) := by decide +kernel
theorem dX2_appendCheck_42 : decode cX2_appendCheck 42 = .ok (.aload_n 0, 1) := by decide +kernel
theorem dX2_appendCheck_43 : decode cX2_appendCheck 43 = .ok (.getfield 43, 3) := by decide +kernel
theorem dX2_appendCheck_46 : decode cX2_appendCheck 46 = .ok (.aload_n 1, 1) := by decide +kernel
theorem dX2_appendCheck_47 : decode cX2_appendCheck 47 = .ok (.aastore, 1) := by decide +kernel
theorem dX2_appendCheck_48 : decode cX2_appendCheck 48 = .ok (.aload_n 0, 1) := by decide +kernel
theorem dX2_appendCheck_49 : decode cX2_appendCheck 49 = .ok (.dup, 1) := by decide +kernel
theorem dX2_appendCheck_50 : decode cX2_appendCheck 50 = .ok (.getfield 43, 3) := by decide +kernel
theorem dX2_appendCheck_53 : decode cX2_appendCheck 53 = .ok (.iconst 1, 1) := by decide +kernel
theorem dX2_appendCheck_54 : decode cX2_appendCheck 54 = .ok (.iadd, 1) := by decide +kernel
theorem dX2_appendCheck_55 : decode cX2_appendCheck 55 = .ok (.putfield 43, 3) := by decide +kernel
theorem dX2_appendCheck_58 : decode cX2_appendCheck 58 = .ok (.return_, 1) := by decide +kernel
theorem dX2_appendGuess_0 : decode cX2_appendGuess 0 = .ok (.aload_n 0, 1) := by decide +kernel
theorem dX2_appendGuess_1 : decode cX2_appendGuess 1 = .ok (.getfield 40, 3) := by decide +kernel
theorem dX2_appendGuess_4 : decode cX2_appendGuess 4 = .ok (.ifCond .lt 25, 3) := by decide +kernel
theorem dX2_appendGuess_7 : decode cX2_appendGuess 7 = .ok (.aload_n 0, 1) := by decide +kernel
theorem dX2_appendGuess_8 : decode cX2_appendGuess 8 = .ok (.getfield 40, 3) := by decide +kernel
theorem dX2_appendGuess_11 : decode cX2_appendGuess 11 = .ok (.aload_n 0, 1) := by decide +kernel
theorem dX2_appendGuess_12 : decode cX2_appendGuess 12 = .ok (.getfield 23, 3) := by decide +kernel
theorem dX2_appendGuess_15 : decode cX2_appendGuess 15 = .ok (.arraylength, 1) := by decide +kernel
theorem dX2_appendGuess_16 : decode cX2_appendGuess 16 = .ok (.if_icmp .ge 13, 3) := by decide +kernel
theorem dX2_appendGuess_19 : decode cX2_appendGuess 19 = .ok (.aload_n 0, 1) := by decide +kernel
theorem dX2_appendGuess_20 : decode cX2_appendGuess 20 = .ok (.getfield 23, 3) := by decide +kernel
theorem dX2_appendGuess_23 : decode cX2_appendGuess 23 = .ok (.aload_n 0, 1) := by decide +kernel
theorem dX2_appendGuess_24 : decode cX2_appendGuess 24 = .ok (.getfield 40, 3) := by decide +kernel
theorem dX2_appendGuess_27 : decode cX2_appendGuess 27 = .ok (.aload_n 1, 1) := by decide +kernel
theorem dX2_appendGuess_28 : decode cX2_appendGuess 28 = .ok (.aastore, 1) := by decide +kernel
theorem dX2_appendGuess_29 : decode cX2_appendGuess 29 = .ok (.aload_n 0, 1) := by decide +kernel
theorem dX2_appendGuess_30 : decode cX2_appendGuess 30 = .ok (.dup, 1) := by decide +kernel
theorem dX2_appendGuess_31 : decode cX2_appendGuess 31 = .ok (.getfield 40, 3) := by decide +kernel
theorem dX2_appendGuess_34 : decode cX2_appendGuess 34 = .ok (.iconst 1, 1) := by decide +kernel
theorem dX2_appendGuess_35 : decode cX2_appendGuess 35 = .ok (.iadd, 1) := by decide +kernel
theorem dX2_appendGuess_36 : decode cX2_appendGuess 36 = .ok (.putfield 40, 3) := by decide +kernel
theorem dX2_appendGuess_39 : decode cX2_appendGuess 39 = .ok (.return_, 1) := by decide +kernel
theorem dX2_findTruths_0 : decode cX2_findTruths 0 = .ok (.iconst 0, 1) := by decide +kernel
theorem dX2_findTruths_1 : decode cX2_findTruths 1 = .ok (.istore_n 1, 1) := by decide +kernel
theorem dX2_findTruths_2 : decode cX2_findTruths 2 = .ok (.iload_n 1, 1) := by decide +kernel
theorem dX2_findTruths_3 : decode cX2_findTruths 3 = .ok (.aload_n 0, 1) := by decide +kernel
theorem dX2_findTruths_4 : decode cX2_findTruths 4 = .ok (.getfield 37, 3) := by decide +kernel
theorem dX2_findTruths_7 : decode cX2_findTruths 7 = .ok (.if_icmp .ge 27, 3) := by decide +kernel
theorem dX2_findTruths_10 : decode cX2_findTruths 10 = .ok (.iload_n 1, 1) := by decide +kernel
theorem dX2_findTruths_11 : decode cX2_findTruths 11 = .ok (.aload_n 0, 1) := by decide +kernel
theorem dX2_findTruths_12 : decode cX2_findTruths 12 = .ok (.getfield 19, 3) := by decide +kernel
theorem dX2_findTruths_15 : decode cX2_findTruths 15 = .ok (.arraylength, 1) := by decide +kernel
theorem dX2_findTruths_16 : decode cX2_findTruths 16 = .ok (.if_icmp .ge 18, 3) := by decide +kernel
theorem dX2_findTruths_19 : decode cX2_findTruths 19 = .ok (.aload_n 0, 1) := by decide +kernel
theorem dX2_findTruths_20 : decode cX2_findTruths 20 = .ok (.getfield 19, 3) := by decide +kernel
theorem dX2_findTruths_23 : decode cX2_findTruths 23 = .ok (.iload_n 1, 1) := by decide +kernel
theorem dX2_findTruths_24 : decode cX2_findTruths 24 = .ok (.aaload, 1) := by decide +kernel
theorem dX2_findTruths_25 : decode cX2_findTruths 25 = .ok (.invokevirtual 86, 3) := by decide +kernel
theorem dX2_findTruths_28 : decode cX2_findTruths 28 = .ok (.iinc 1 1, 3) := by decide +kernel
theorem dX2_findTruths_31 : decode cX2_findTruths 31 = .ok (.goto (-29), 3) := by decide +kernel
theorem dX2_findTruths_34 : decode cX2_findTruths 34 = .ok (.return_, 1) := by decide +kernel
theorem dX2_fulfilled_0 : decode cX2_fulfilled 0 = .ok (.iconst 0, 1) := by decide +kernel
theorem dX2_fulfilled_1 : decode cX2_fulfilled 1 = .ok (.istore_n 2, 1) := by decide +kernel
theorem dX2_fulfilled_2 : decode cX2_fulfilled 2 = .ok (.iconst 0, 1) := by decide +kernel
theorem dX2_fulfilled_3 : decode cX2_fulfilled 3 = .ok (.istore_n 3, 1) := by decide +kernel
theorem dX2_fulfilled_4 : decode cX2_fulfilled 4 = .ok (.iload_n 3, 1) := by decide +kernel
theorem dX2_fulfilled_5 : decode cX2_fulfilled 5 = .ok (.aload_n 0, 1) := by decide +kernel
theorem dX2_fulfilled_6 : decode cX2_fulfilled 6 = .ok (.getfield 43, 3) := by decide +kernel
theorem dX2_fulfilled_9 : decode cX2_fulfilled 9 = .ok (.if_icmp .ge 54, 3) := by decide +kernel
theorem dX2_fulfilled_12 : decode cX2_fulfilled 12 = .ok (.iload_n 3, 1) := by decide +kernel
theorem dX2_fulfilled_13 : decode cX2_fulfilled 13 = .ok (.aload_n 0, 1) := by decide +kernel
theorem dX2_fulfilled_14 : decode cX2_fulfilled 14 = .ok (.getfield 26, 3) := by decide +kernel
theorem dX2_fulfilled_17 : decode cX2_fulfilled 17 = .ok (.arraylength, 1) := by decide +kernel
theorem dX2_fulfilled_18 : decode cX2_fulfilled 18 = .ok (.if_icmp .ge 45, 3) := by decide +kernel
theorem dX2_fulfilled_21 : decode cX2_fulfilled 21 = .ok (.iload_n 3, 1) := by decide +kernel
theorem dX2_fulfilled_22 : decode cX2_fulfilled 22 = .ok (.aload_n 1, 1) := by decide +kernel
theorem dX2_fulfilled_23 : decode cX2_fulfilled 23 = .ok (.getfield 89, 3) := by decide +kernel
theorem dX2_fulfilled_26 : decode cX2_fulfilled 26 = .ok (.arraylength, 1) := by decide +kernel
theorem dX2_fulfilled_27 : decode cX2_fulfilled 27 = .ok (.if_icmp .ge 36, 3) := by decide +kernel
theorem dX2_fulfilled_30 : decode cX2_fulfilled 30 = .ok (.aload_n 1, 1) := by decide +kernel
theorem dX2_fulfilled_31 : decode cX2_fulfilled 31 = .ok (.getfield 89, 3) := by decide +kernel
theorem dX2_fulfilled_34 : decode cX2_fulfilled 34 = .ok (.iload_n 3, 1) := by decide +kernel
theorem dX2_fulfilled_35 : decode cX2_fulfilled 35 = .ok (.aaload, 1) := by decide +kernel
theorem dX2_fulfilled_36 : decode cX2_fulfilled 36 = .ok (.aload_n 0, 1) := by decide +kernel
theorem dX2_fulfilled_37 : decode cX2_fulfilled 37 = .ok (.getfield 26, 3) := by decide +kernel
theorem dX2_fulfilled_40 : decode cX2_fulfilled 40 = .ok (.iload_n 3, 1) := by decide +kernel
theorem dX2_fulfilled_41 : decode cX2_fulfilled 41 = .ok (.aaload, 1) := by decide +kernel
theorem dX2_fulfilled_42 : decode cX2_fulfilled 42 = .ok (.getfield 95, 3) := by decide +kernel
theorem dX2_fulfilled_45 : decode cX2_fulfilled 45 = .ok (.invokevirtual 99, 3) := by decide +kernel
theorem dX2_fulfilled_48 : decode cX2_fulfilled 48 = .ok (.ifCond .eq 9, 3) := by decide +kernel
theorem dX2_fulfilled_51 : decode cX2_fulfilled 51 = .ok (.iload_n 2, 1) := by decide +kernel
theorem dX2_fulfilled_52 : decode cX2_fulfilled 52 = .ok (.iconst 1, 1) := by decide +kernel
theorem dX2_fulfilled_53 : decode cX2_fulfilled 53 = .ok (.iload_n 3, 1) := by decide +kernel
theorem dX2_fulfilled_54 : decode cX2_fulfilled 54 = .ok (.ishl, 1) := by decide +kernel
theorem dX2_fulfilled_55 : decode cX2_fulfilled 55 = .ok (.ior, 1) := by decide +kernel
theorem dX2_fulfilled_56 : decode cX2_fulfilled 56 = .ok (.istore_n 2, 1) := by decide +kernel
theorem dX2_fulfilled_57 : decode cX2_fulfilled 57 = .ok (.iinc 3 1, 3) := by decide +kernel
theorem dX2_fulfilled_60 : decode cX2_fulfilled 60 = .ok (.goto (-56), 3) := by decide +kernel
theorem dX2_fulfilled_63 : decode cX2_fulfilled 63 = .ok (.iload_n 2, 1) := by decide +kernel
theorem dX2_fulfilled_64 : decode cX2_fulfilled 64 = .ok (.ireturn, 1) := by decide +kernel
theorem dX3_init_0 : decode cX3_init 0 = .ok (.aload_n 0, 1) := by decide +kernel
theorem dX3_init_1 : decode cX3_init 1 = .ok (.invokespecial 3, 3) := by decide +kernel
theorem dX3_init_4 : decode cX3_init 4 = .ok (.aload_n 0, 1) := by decide +kernel
theorem dX3_init_5 : decode cX3_init 5 = .ok (.new 9, 3) := by decide +kernel
theorem dX3_init_8 : decode cX3_init 8 = .ok (.dup, 1) := by decide +kernel
theorem dX3_init_9 : decode cX3_init 9 = .ok (.invokespecial 11, 3) := by decide +kernel
theorem dX3_init_12 : decode cX3_init 12 = .ok (.putfield 12, 3) := by decide +kernel
theorem dX3_init_15 : decode cX3_init 15 = .ok (.return_, 1) := by decide +kernel
theorem dX3_put_0 : decode cX3_put 0 = .ok (.aload_n 0, 1) := by decide +kernel
theorem dX3_put_1 : decode cX3_put 1 = .ok (.iload_n 1, 1) := by decide +kernel
theorem dX3_put_2 : decode cX3_put 2 = .ok (.putfield 18, 3) := by decide +kernel
theorem dX3_put_5 : decode cX3_put 5 = .ok (.aload_n 0, 1) := by decide +kernel
theorem dX3_put_6 : decode cX3_put 6 = .ok (.iload_n 2, 1) := by decide +kernel
theorem dX3_put_7 : decode cX3_put 7 = .ok (.putfield 22, 3) := by decide +kernel
theorem dX3_put_10 : decode cX3_put 10 = .ok (.aload_n 0, 1) := by decide +kernel
theorem dX3_put_11 : decode cX3_put 11 = .ok (.iload_n 3, 1) := by decide +kernel
theorem dX3_put_12 : decode cX3_put 12 = .ok (.putfield 25, 3) := by decide +kernel
theorem dX3_put_15 : decode cX3_put 15 = .ok (.return_, 1) := by decide +kernel
theorem dX3_isTrue_0 : decode cX3_isTrue 0 = .ok (.aload_n 0, 1) := by decide +kernel
theorem dX3_isTrue_1 : decode cX3_isTrue 1 = .ok (.getfield 18, 3) := by decide +kernel
theorem dX3_isTrue_4 : decode cX3_isTrue 4 = .ok (.iload_n 1, 1) := by decide +kernel
theorem dX3_isTrue_5 : decode cX3_isTrue 5 = .ok (.iload_n 2, 1) := by decide +kernel
theorem dX3_isTrue_6 : decode cX3_isTrue 6 = .ok (.iload_n 3, 1) := by decide +kernel
theorem dX3_isTrue_7 : decode cX3_isTrue 7 = .ok (.invokestatic 28, 3) := by decide +kernel
theorem dX3_isTrue_10 : decode cX3_isTrue 10 = .ok (.istore 4, 2) := by decide +kernel
theorem dX3_isTrue_12 : decode cX3_isTrue 12 = .ok (.aload_n 0, 1) := by decide +kernel
theorem dX3_isTrue_13 : decode cX3_isTrue 13 = .ok (.iload_n 1, 1) := by decide +kernel
theorem dX3_isTrue_14 : decode cX3_isTrue 14 = .ok (.iload_n 2, 1) := by decide +kernel
theorem dX3_isTrue_15 : decode cX3_isTrue 15 = .ok (.iload_n 3, 1) := by decide +kernel
theorem dX3_isTrue_16 : decode cX3_isTrue 16 = .ok (.invokevirtual 32, 3) := by decide +kernel
theorem dX3_isTrue_19 : decode cX3_isTrue 19 = .ok (.istore 5, 2) := by decide +kernel
theorem dX3_isTrue_21 : decode cX3_isTrue 21 = .ok (.aload_n 0, 1) := by decide +kernel
theorem dX3_isTrue_22 : decode cX3_isTrue 22 = .ok (.getfield 22, 3) := by decide +kernel
theorem dX3_isTrue_25 : decode cX3_isTrue 25 = .ok (.tableswitch 66 60 62 #[27, 53, 40], 27) := by decide +kernel
theorem dX3_isTrue_52 : decode cX3_isTrue 52 = .ok (.iload 4, 2) := by decide +kernel
theorem dX3_isTrue_54 : decode cX3_isTrue 54 = .ok (.iload 5, 2) := by decide +kernel
theorem dX3_isTrue_56 : decode cX3_isTrue 56 = .ok (.if_icmp .ge 7, 3) := by decide +kernel
theorem dX3_isTrue_59 : decode cX3_isTrue 59 = .ok (.iconst 1, 1) := by decide +kernel
theorem dX3_isTrue_60 : decode cX3_isTrue 60 = .ok (.goto 4, 3) := by decide +kernel
theorem dX3_isTrue_63 : decode cX3_isTrue 63 = .ok (.iconst 0, 1) := by decide +kernel
theorem dX3_isTrue_64 : decode cX3_isTrue 64 = .ok (.ireturn, 1) := by decide +kernel
theorem dX3_isTrue_65 : decode cX3_isTrue 65 = .ok (.iload 4, 2) := by decide +kernel
theorem dX3_isTrue_67 : decode cX3_isTrue 67 = .ok (.iload 5, 2) := by decide +kernel
theorem dX3_isTrue_69 : decode cX3_isTrue 69 = .ok (.if_icmp .le 7, 3) := by decide +kernel
theorem dX3_isTrue_72 : decode cX3_isTrue 72 = .ok (.iconst 1, 1) := by decide +kernel
theorem dX3_isTrue_73 : decode cX3_isTrue 73 = .ok (.goto 4, 3) := by decide +kernel
theorem dX3_isTrue_76 : decode cX3_isTrue 76 = .ok (.iconst 0, 1) := by decide +kernel
theorem dX3_isTrue_77 : decode cX3_isTrue 77 = .ok (.ireturn, 1) := by decide +kernel
theorem dX3_isTrue_78 : decode cX3_isTrue 78 = .ok (.iload 4, 2) := by decide +kernel
theorem dX3_isTrue_80 : decode cX3_isTrue 80 = .ok (.iload 5, 2) := by decide +kernel
theorem dX3_isTrue_82 : decode cX3_isTrue 82 = .ok (.if_icmp .ne 7, 3) := by decide +kernel
theorem dX3_isTrue_85 : decode cX3_isTrue 85 = .ok (.iconst 1, 1) := by decide +kernel
theorem dX3_isTrue_86 : decode cX3_isTrue 86 = .ok (.goto 4, 3) := by decide +kernel
theorem dX3_isTrue_89 : decode cX3_isTrue 89 = .ok (.iconst 0, 1) := by decide +kernel
theorem dX3_isTrue_90 : decode cX3_isTrue 90 = .ok (.ireturn, 1) := by decide +kernel
theorem dX3_isTrue_91 : decode cX3_isTrue 91 = .ok (.iload 4, 2) := by decide +kernel
theorem dX3_isTrue_93 : decode cX3_isTrue 93 = .ok (.iload 5, 2) := by decide +kernel
theorem dX3_isTrue_95 : decode cX3_isTrue 95 = .ok (.if_icmp .eq 7, 3) := by decide +kernel
theorem dX3_isTrue_98 : decode cX3_isTrue 98 = .ok (.iconst 1, 1) := by decide +kernel
theorem dX3_isTrue_99 : decode cX3_isTrue 99 = .ok (.goto 4, 3) := by decide +kernel
theorem dX3_isTrue_102 : decode cX3_isTrue 102 = .ok (.iconst 0, 1) := by decide +kernel
theorem dX3_isTrue_103 : decode cX3_isTrue 103 = .ok (.ireturn, 1) := by decide +kernel
theorem dX3_value_0 : decode cX3_value 0 = .ok (.aload_n 0, 1) := by decide +kernel
theorem dX3_value_1 : decode cX3_value 1 = .ok (.getfield 25, 3) := by decide +kernel
theorem dX3_value_4 : decode cX3_value 4 = .ok (.bipush 6, 2) := by decide +kernel
theorem dX3_value_6 : decode cX3_value 6 = .ok (.if_icmp .ge 10, 3) := by decide +kernel
theorem dX3_value_9 : decode cX3_value 9 = .ok (.aload_n 0, 1) := by decide +kernel
theorem dX3_value_10 : decode cX3_value 10 = .ok (.getfield 25, 3) := by decide +kernel
theorem dX3_value_13 : decode cX3_value 13 = .ok (.goto 16, 3) := by decide +kernel
theorem dX3_value_16 : decode cX3_value 16 = .ok (.aload_n 0, 1) := by decide +kernel
theorem dX3_value_17 : decode cX3_value 17 = .ok (.getfield 25, 3) := by decide +kernel
theorem dX3_value_20 : decode cX3_value 20 = .ok (.bipush 6, 2) := by decide +kernel
theorem dX3_value_22 : decode cX3_value 22 = .ok (.isub, 1) := by decide +kernel
theorem dX3_value_23 : decode cX3_value 23 = .ok (.iload_n 1, 1) := by decide +kernel
theorem dX3_value_24 : decode cX3_value 24 = .ok (.iload_n 2, 1) := by decide +kernel
theorem dX3_value_25 : decode cX3_value 25 = .ok (.iload_n 3, 1) := by decide +kernel
theorem dX3_value_26 : decode cX3_value 26 = .ok (.invokestatic 28, 3) := by decide +kernel
theorem dX3_value_29 : decode cX3_value 29 = .ok (.ireturn, 1) := by decide +kernel
theorem dX3_pick_0 : decode cX3_pick 0 = .ok (.iload_n 0, 1) := by decide +kernel
theorem dX3_pick_1 : decode cX3_pick 1 = .ok (.ifCond .ne 5, 3) := by decide +kernel
theorem dX3_pick_4 : decode cX3_pick 4 = .ok (.iload_n 1, 1) := by decide +kernel
theorem dX3_pick_5 : decode cX3_pick 5 = .ok (.ireturn, 1) := by decide +kernel
theorem dX3_pick_6 : decode cX3_pick 6 = .ok (.iload_n 0, 1) := by decide +kernel
theorem dX3_pick_7 : decode cX3_pick 7 = .ok (.iconst 1, 1) := by decide +kernel
theorem dX3_pick_8 : decode cX3_pick 8 = .ok (.if_icmp .ne 7, 3) := by decide +kernel
theorem dX3_pick_11 : decode cX3_pick 11 = .ok (.iload_n 2, 1) := by decide +kernel
theorem dX3_pick_12 : decode cX3_pick 12 = .ok (.goto 4, 3) := by decide +kernel
theorem dX3_pick_15 : decode cX3_pick 15 = .ok (.iload_n 3, 1) := by decide +kernel
theorem dX3_pick_16 : decode cX3_pick 16 = .ok (.ireturn, 1) := by decide +kernel
theorem dX3_findTruths_0 : decode cX3_findTruths 0 = .ok (.aload_n 0, 1) := by decide +kernel
theorem dX3_findTruths_1 : decode cX3_findTruths 1 = .ok (.getfield 12, 3) := by decide +kernel
theorem dX3_findTruths_4 : decode cX3_findTruths 4 = .ok (.invokevirtual 36, 3) := by decide +kernel
theorem dX3_findTruths_7 : decode cX3_findTruths 7 = .ok (.iconst 0, 1) := by decide +kernel
theorem dX3_findTruths_8 : decode cX3_findTruths 8 = .ok (.istore_n 1, 1) := by decide +kernel
theorem dX3_findTruths_9 : decode cX3_findTruths 9 = .ok (.iload_n 1, 1) := by decide +kernel
theorem dX3_findTruths_10 : decode cX3_findTruths 10 = .ok (.bipush 6, 2) := by decide +kernel
theorem dX3_findTruths_12 : decode cX3_findTruths 12 = .ok (.if_icmp .ge 57, 3) := by decide +kernel
theorem dX3_findTruths_15 : decode cX3_findTruths 15 = .ok (.iconst 0, 1) := by decide +kernel
theorem dX3_findTruths_16 : decode cX3_findTruths 16 = .ok (.istore_n 2, 1) := by decide +kernel
theorem dX3_findTruths_17 : decode cX3_findTruths 17 = .ok (.iload_n 2, 1) := by decide +kernel
theorem dX3_findTruths_18 : decode cX3_findTruths 18 = .ok (.bipush 6, 2) := by decide +kernel
theorem dX3_findTruths_20 : decode cX3_findTruths 20 = .ok (.if_icmp .ge 43, 3) := by decide +kernel
theorem dX3_findTruths_23 : decode cX3_findTruths 23 = .ok (.iconst 0, 1) := by decide +kernel
theorem dX3_findTruths_24 : decode cX3_findTruths 24 = .ok (.istore_n 3, 1) := by decide +kernel
theorem dX3_findTruths_25 : decode cX3_findTruths 25 = .ok (.iload_n 3, 1) := by decide +kernel
theorem dX3_findTruths_26 : decode cX3_findTruths 26 = .ok (.bipush 6, 2) := by decide +kernel
theorem dX3_findTruths_28 : decode cX3_findTruths 28 = .ok (.if_icmp .ge 29, 3) := by decide +kernel
theorem dX3_findTruths_31 : decode cX3_findTruths 31 = .ok (.aload_n 0, 1) := by decide +kernel
theorem dX3_findTruths_32 : decode cX3_findTruths 32 = .ok (.iload_n 1, 1) := by decide +kernel
theorem dX3_findTruths_33 : decode cX3_findTruths 33 = .ok (.iload_n 2, 1) := by decide +kernel
theorem dX3_findTruths_34 : decode cX3_findTruths 34 = .ok (.iload_n 3, 1) := by decide +kernel
theorem dX3_findTruths_35 : decode cX3_findTruths 35 = .ok (.invokevirtual 39, 3) := by decide +kernel
theorem dX3_findTruths_38 : decode cX3_findTruths 38 = .ok (.ifCond .eq 13, 3) := by decide +kernel
theorem dX3_findTruths_41 : decode cX3_findTruths 41 = .ok (.aload_n 0, 1) := by decide +kernel
theorem dX3_findTruths_42 : decode cX3_findTruths 42 = .ok (.getfield 12, 3) := by decide +kernel
theorem dX3_findTruths_45 : decode cX3_findTruths 45 = .ok (.iload_n 1, 1) := by decide +kernel
theorem dX3_findTruths_46 : decode cX3_findTruths 46 = .ok (.iload_n 2, 1) := by decide +kernel
theorem dX3_findTruths_47 : decode cX3_findTruths 47 = .ok (.iload_n 3, 1) := by decide +kernel
theorem dX3_findTruths_48 : decode cX3_findTruths 48 = .ok (.invokevirtual 43, 3) := by decide +kernel
theorem dX3_findTruths_51 : decode cX3_findTruths 51 = .ok (.iinc 3 1, 3) := by decide +kernel
theorem dX3_findTruths_54 : decode cX3_findTruths 54 = .ok (.goto (-29), 3) := by decide +kernel
theorem dX3_findTruths_57 : decode cX3_findTruths 57 = .ok (.iinc 2 1, 3) := by decide +kernel
theorem dX3_findTruths_60 : decode cX3_findTruths 60 = .ok (.goto (-43), 3) := by decide +kernel
theorem dX3_findTruths_63 : decode cX3_findTruths 63 = .ok (.iinc 1 1, 3) := by decide +kernel
theorem dX3_findTruths_66 : decode cX3_findTruths 66 = .ok (.goto (-57), 3) := by decide +kernel
theorem dX3_findTruths_69 : decode cX3_findTruths 69 = .ok (.return_, 1) := by decide +kernel
theorem dX4_init_0 : decode cX4_init 0 = .ok (.aload_n 0, 1) := by decide +kernel
theorem dX4_init_1 : decode cX4_init 1 = .ok (.invokespecial 3, 3) := by decide +kernel
theorem dX4_init_4 : decode cX4_init 4 = .ok (.aload_n 0, 1) := by decide +kernel
theorem dX4_init_5 : decode cX4_init 5 = .ok (.new 9, 3) := by decide +kernel
theorem dX4_init_8 : decode cX4_init 8 = .ok (.dup, 1) := by decide +kernel
theorem dX4_init_9 : decode cX4_init 9 = .ok (.invokespecial 11, 3) := by decide +kernel
theorem dX4_init_12 : decode cX4_init 12 = .ok (.putfield 12, 3) := by decide +kernel
theorem dX4_init_15 : decode cX4_init 15 = .ok (.aload_n 0, 1) := by decide +kernel
theorem dX4_init_16 : decode cX4_init 16 = .ok (.iconst 3, 1) := by decide +kernel
theorem dX4_init_17 : decode cX4_init 17 = .ok (.invokestatic 18, 3) := by decide +kernel
theorem dX4_init_20 : decode cX4_init 20 = .ok (.putfield 22, 3) := by decide +kernel
theorem dX4_init_23 : decode cX4_init 23 = .ok (.aload_n 0, 1) := by decide +kernel
theorem dX4_init_24 : decode cX4_init 24 = .ok (.iconst 3, 1) := by decide +kernel
theorem dX4_init_25 : decode cX4_init 25 = .ok (.invokestatic 18, 3) := by decide +kernel
theorem dX4_init_28 : decode cX4_init 28 = .ok (.putfield 26, 3) := by decide +kernel
theorem dX4_init_31 : decode cX4_init 31 = .ok (.aload_n 0, 1) := by decide +kernel
theorem dX4_init_32 : decode cX4_init 32 = .ok (.iconst 4, 1) := by decide +kernel
theorem dX4_init_33 : decode cX4_init 33 = .ok (.invokestatic 18, 3) := by decide +kernel
theorem dX4_init_36 : decode cX4_init 36 = .ok (.putfield 29, 3) := by decide +kernel
theorem dX4_init_39 : decode cX4_init 39 = .ok (.aload_n 0, 1) := by decide +kernel
theorem dX4_init_40 : decode cX4_init 40 = .ok (.iconst 3, 1) := by decide +kernel
theorem dX4_init_41 : decode cX4_init 41 = .ok (.invokestatic 18, 3) := by decide +kernel
theorem dX4_init_44 : decode cX4_init 44 = .ok (.putfield 32, 3) := by decide +kernel
theorem dX4_init_47 : decode cX4_init 47 = .ok (.aload_n 0, 1) := by decide +kernel
theorem dX4_init_48 : decode cX4_init 48 = .ok (.iconst 3, 1) := by decide +kernel
theorem dX4_init_49 : decode cX4_init 49 = .ok (.invokestatic 18, 3) := by decide +kernel
theorem dX4_init_52 : decode cX4_init 52 = .ok (.putfield 35, 3) := by decide +kernel
theorem dX4_init_55 : decode cX4_init 55 = .ok (.return_, 1) := by decide +kernel
theorem dX4_assign_0 : decode cX4_assign 0 = .ok (.iconst 0, 1) := by decide +kernel
theorem dX4_assign_1 : decode cX4_assign 1 = .ok (.istore_n 3, 1) := by decide +kernel
theorem dX4_assign_2 : decode cX4_assign 2 = .ok (.iload_n 3, 1) := by decide +kernel
theorem dX4_assign_3 : decode cX4_assign 3 = .ok (.iconst 3, 1) := by decide +kernel
theorem dX4_assign_4 : decode cX4_assign 4 = .ok (.if_icmp .ge 79, 3) := by decide +kernel
theorem dX4_assign_7 : decode cX4_assign 7 = .ok (.iload_n 3, 1) := by decide +kernel
theorem dX4_assign_8 : decode cX4_assign 8 = .ok (.aload_n 2, 1) := by decide +kernel
theorem dX4_assign_9 : decode cX4_assign 9 = .ok (.arraylength, 1) := by decide +kernel
theorem dX4_assign_10 : decode cX4_assign 10 = .ok (.if_icmp .ge 73, 3) := by decide +kernel
theorem dX4_assign_13 : decode cX4_assign 13 = .ok (.aload_n 0, 1) := by decide +kernel
theorem dX4_assign_14 : decode cX4_assign 14 = .ok (.getfield 22, 3) := by decide +kernel
theorem dX4_assign_17 : decode cX4_assign 17 = .ok (.iload_n 3, 1) := by decide +kernel
theorem dX4_assign_18 : decode cX4_assign 18 = .ok (.aaload, 1) := by decide +kernel
theorem dX4_assign_19 : decode cX4_assign 19 = .ok (.invokevirtual 38, 3) := by decide +kernel
theorem dX4_assign_22 : decode cX4_assign 22 = .ok (.aload_n 0, 1) := by decide +kernel
theorem dX4_assign_23 : decode cX4_assign 23 = .ok (.getfield 26, 3) := by decide +kernel
theorem dX4_assign_26 : decode cX4_assign 26 = .ok (.iload_n 3, 1) := by decide +kernel
theorem dX4_assign_27 : decode cX4_assign 27 = .ok (.aaload, 1) := by decide +kernel
theorem dX4_assign_28 : decode cX4_assign 28 = .ok (.invokevirtual 41, 3) := by decide +kernel
theorem dX4_assign_31 : decode cX4_assign 31 = .ok (.iconst 0, 1) := by decide +kernel
theorem dX4_assign_32 : decode cX4_assign 32 = .ok (.istore 4, 2) := by decide +kernel
theorem dX4_assign_34 : decode cX4_assign 34 = .ok (.iload 4, 2) := by decide +kernel
theorem dX4_assign_36 : decode cX4_assign 36 = .ok (.iconst 5, 1) := by decide +kernel
theorem dX4_assign_37 : decode cX4_assign 37 = .ok (.if_icmp .ge 40, 3) := by decide +kernel
theorem dX4_assign_40 : decode cX4_assign 40 = .ok (.aload_n 2, 1) := by decide +kernel
theorem dX4_assign_41 : decode cX4_assign 41 = .ok (.iload_n 3, 1) := by decide +kernel
theorem dX4_assign_42 : decode cX4_assign 42 = .ok (.iaload, 1) := by decide +kernel
theorem dX4_assign_43 : decode cX4_assign 43 = .ok (.iload 4, 2) := by decide +kernel
theorem dX4_assign_45 : decode cX4_assign 45 = .ok (.ishr, 1) := by decide +kernel
theorem dX4_assign_46 : decode cX4_assign 46 = .ok (.iconst 1, 1) := by decide +kernel
theorem dX4_assign_47 : decode cX4_assign 47 = .ok (.iand, 1) := by decide +kernel
theorem dX4_assign_48 : decode cX4_assign 48 = .ok (.iconst 1, 1) := by decide +kernel
theorem dX4_assign_49 : decode cX4_assign 49 = .ok (.if_icmp .ne 22, 3) := by decide +kernel
theorem dX4_assign_52 : decode cX4_assign 52 = .ok (.aload_n 0, 1) := by decide +kernel
theorem dX4_assign_53 : decode cX4_assign 53 = .ok (.getfield 26, 3) := by decide +kernel
theorem dX4_assign_56 : decode cX4_assign 56 = .ok (.iload_n 3, 1) := by decide +kernel
theorem dX4_assign_57 : decode cX4_assign 57 = .ok (.aaload, 1) := by decide +kernel
theorem dX4_assign_58 : decode cX4_assign 58 = .ok (.aload_n 1, 1) := by decide +kernel
theorem dX4_assign_59 : decode cX4_assign 59 = .ok (.getfield 44, 3) := by decide +kernel
theorem dX4_assign_62 : decode cX4_assign 62 = .ok (.iload 4, 2) := by decide +kernel
theorem dX4_assign_64 : decode cX4_assign 64 = .ok (.aaload, 1) := by decide +kernel
theorem dX4_assign_65 : decode cX4_assign 65 = .ok (.getfield 50, 3) := by decide +kernel
theorem dX4_assign_68 : decode cX4_assign 68 = .ok (.invokevirtual 55, 3) := by decide +kernel
theorem dX4_assign_71 : decode cX4_assign 71 = .ok (.iinc 4 1, 3) := by decide +kernel
theorem dX4_assign_74 : decode cX4_assign 74 = .ok (.goto (-40), 3) := by decide +kernel
theorem dX4_assign_77 : decode cX4_assign 77 = .ok (.iinc 3 1, 3) := by decide +kernel
theorem dX4_assign_80 : decode cX4_assign 80 = .ok (.goto (-78), 3) := by decide +kernel
theorem dX4_assign_83 : decode cX4_assign 83 = .ok (.return_, 1) := by decide +kernel
theorem dX4_reach_0 : decode cX4_reach 0 = .ok (.iconst 0, 1) := by decide +kernel
theorem dX4_reach_1 : decode cX4_reach 1 = .ok (.istore_n 3, 1) := by decide +kernel
theorem dX4_reach_2 : decode cX4_reach 2 = .ok (.iload_n 3, 1) := by decide +kernel
theorem dX4_reach_3 : decode cX4_reach 3 = .ok (.iconst 3, 1) := by decide +kernel
theorem dX4_reach_4 : decode cX4_reach 4 = .ok (.if_icmp .ge 18, 3) := by decide +kernel
theorem dX4_reach_7 : decode cX4_reach 7 = .ok (.aload_n 0, 1) := by decide +kernel
theorem dX4_reach_8 : decode cX4_reach 8 = .ok (.getfield 22, 3) := by decide +kernel
theorem dX4_reach_11 : decode cX4_reach 11 = .ok (.iload_n 3, 1) := by decide +kernel
theorem dX4_reach_12 : decode cX4_reach 12 = .ok (.aaload, 1) := by decide +kernel
theorem dX4_reach_13 : decode cX4_reach 13 = .ok (.invokevirtual 38, 3) := by decide +kernel
theorem dX4_reach_16 : decode cX4_reach 16 = .ok (.iinc 3 1, 3) := by decide +kernel
theorem dX4_reach_19 : decode cX4_reach 19 = .ok (.goto (-17), 3) := by decide +kernel
theorem dX4_reach_22 : decode cX4_reach 22 = .ok (.iconst 1, 1) := by decide +kernel
theorem dX4_reach_23 : decode cX4_reach 23 = .ok (.istore_n 3, 1) := by decide +kernel
theorem dX4_reach_24 : decode cX4_reach 24 = .ok (.iconst 0, 1) := by decide +kernel
theorem dX4_reach_25 : decode cX4_reach 25 = .ok (.istore 4, 2) := by decide +kernel
theorem dX4_reach_27 : decode cX4_reach 27 = .ok (.iload 4, 2) := by decide +kernel
theorem dX4_reach_29 : decode cX4_reach 29 = .ok (.sipush 650, 3) := by decide +kernel
theorem dX4_reach_32 : decode cX4_reach 32 = .ok (.if_icmp .ge 24, 3) := by decide +kernel
theorem dX4_reach_35 : decode cX4_reach 35 = .ok (.iload_n 3, 1) := by decide +kernel
theorem dX4_reach_36 : decode cX4_reach 36 = .ok (.ifCond .eq 20, 3) := by decide +kernel
theorem dX4_reach_39 : decode cX4_reach 39 = .ok (.aload_n 0, 1) := by decide +kernel
theorem dX4_reach_40 : decode cX4_reach 40 = .ok (.aload_n 1, 1) := by decide +kernel
theorem dX4_reach_41 : decode cX4_reach 41 = .ok (.aload_n 2, 1) := by decide +kernel
theorem dX4_reach_42 : decode cX4_reach 42 = .ok (.aload_n 0, 1) := by decide +kernel
theorem dX4_reach_43 : decode cX4_reach 43 = .ok (.getfield 22, 3) := by decide +kernel
theorem dX4_reach_46 : decode cX4_reach 46 = .ok (.invokevirtual 59, 3) := by decide +kernel
theorem dX4_reach_49 : decode cX4_reach 49 = .ok (.istore_n 3, 1) := by decide +kernel
theorem dX4_reach_50 : decode cX4_reach 50 = .ok (.iinc 4 1, 3) := by decide +kernel
theorem dX4_reach_53 : decode cX4_reach 53 = .ok (.goto (-26), 3) := by decide +kernel
theorem dX4_reach_56 : decode cX4_reach 56 = .ok (.return_, 1) := by decide +kernel
theorem dX4_pass_0 : decode cX4_pass 0 = .ok (.iconst 0, 1) := by decide +kernel
theorem dX4_pass_1 : decode cX4_pass 1 = .ok (.istore 4, 2) := by decide +kernel
theorem dX4_pass_3 : decode cX4_pass 3 = .ok (.aload_n 0, 1) := by decide +kernel
theorem dX4_pass_4 : decode cX4_pass 4 = .ok (.getfield 12, 3) := by decide +kernel
theorem dX4_pass_7 : decode cX4_pass 7 = .ok (.aload_n 2, 1) := by decide +kernel
theorem dX4_pass_8 : decode cX4_pass 8 = .ok (.invokevirtual 63, 3) := by decide +kernel
theorem dX4_pass_11 : decode cX4_pass 11 = .ok (.iconst 0, 1) := by decide +kernel
theorem dX4_pass_12 : decode cX4_pass 12 = .ok (.istore 5, 2) := by decide +kernel
theorem dX4_pass_14 : decode cX4_pass 14 = .ok (.iload 5, 2) := by decide +kernel
theorem dX4_pass_16 : decode cX4_pass 16 = .ok (.aload_n 1, 1) := by decide +kernel
theorem dX4_pass_17 : decode cX4_pass 17 = .ok (.getfield 66, 3) := by decide +kernel
theorem dX4_pass_20 : decode cX4_pass 20 = .ok (.if_icmp .ge 77, 3) := by decide +kernel
theorem dX4_pass_23 : decode cX4_pass 23 = .ok (.aload_n 1, 1) := by decide +kernel
theorem dX4_pass_24 : decode cX4_pass 24 = .ok (.iload 5, 2) := by decide +kernel
theorem dX4_pass_26 : decode cX4_pass 26 = .ok (.invokevirtual 70, 3) := by decide +kernel
theorem dX4_pass_29 : decode cX4_pass 29 = .ok (.astore 6, 2) := by decide +kernel
theorem dX4_pass_31 : decode cX4_pass 31 = .ok (.aload 6, 2) := by decide +kernel
theorem dX4_pass_33 : decode cX4_pass 33 = .ok (.getfield 74, 3) := by decide +kernel
theorem dX4_pass_36 : decode cX4_pass 36 = .ok (.bipush 6, 2) := by decide +kernel
theorem dX4_pass_38 : decode cX4_pass 38 = .ok (.if_icmp .eq 13, 3) := by decide +kernel
theorem dX4_pass_41 : decode cX4_pass 41 = .ok (.aload 6, 2) := by decide +kernel
theorem dX4_pass_43 : decode cX4_pass 43 = .ok (.getfield 74, 3) := by decide +kernel
theorem dX4_pass_46 : decode cX4_pass 46 = .ok (.bipush 7, 2) := by decide +kernel
theorem dX4_pass_48 : decode cX4_pass 48 = .ok (.if_icmp .ne 18, 3) := by decide +kernel
theorem dX4_pass_51 : decode cX4_pass 51 = .ok (.iload 4, 2) := by decide +kernel
theorem dX4_pass_53 : decode cX4_pass 53 = .ok (.aload_n 0, 1) := by decide +kernel
theorem dX4_pass_54 : decode cX4_pass 54 = .ok (.aload 6, 2) := by decide +kernel
theorem dX4_pass_56 : decode cX4_pass 56 = .ok (.aload_n 3, 1) := by decide +kernel
theorem dX4_pass_57 : decode cX4_pass 57 = .ok (.invokevirtual 79, 3) := by decide +kernel
theorem dX4_pass_60 : decode cX4_pass 60 = .ok (.ior, 1) := by decide +kernel
theorem dX4_pass_61 : decode cX4_pass 61 = .ok (.istore 4, 2) := by decide +kernel
theorem dX4_pass_63 : decode cX4_pass 63 = .ok (.goto 28, 3) := by decide +kernel
theorem dX4_pass_66 : decode cX4_pass 66 = .ok (.aload 6, 2) := by decide +kernel
theorem dX4_pass_68 : decode cX4_pass 68 = .ok (.getfield 74, 3) := by decide +kernel
theorem dX4_pass_71 : decode cX4_pass 71 = .ok (.bipush 8, 2) := by decide +kernel
theorem dX4_pass_73 : decode cX4_pass 73 = .ok (.if_icmp .lt 12, 3) := by decide +kernel
theorem dX4_pass_76 : decode cX4_pass 76 = .ok (.aload_n 0, 1) := by decide +kernel
theorem dX4_pass_77 : decode cX4_pass 77 = .ok (.aload 6, 2) := by decide +kernel
theorem dX4_pass_79 : decode cX4_pass 79 = .ok (.invokevirtual 83, 3) := by decide +kernel
theorem dX4_pass_82 : decode cX4_pass 82 = .ok (.goto 9, 3) := by decide +kernel
theorem dX4_pass_85 : decode cX4_pass 85 = .ok (.aload_n 0, 1) := by decide +kernel
theorem dX4_pass_86 : decode cX4_pass 86 = .ok (.aload 6, 2) := by decide +kernel
theorem dX4_pass_88 : decode cX4_pass 88 = .ok (.invokevirtual 87, 3) := by decide +kernel
theorem dX4_pass_91 : decode cX4_pass 91 = .ok (.iinc 5 1, 3) := by decide +kernel
theorem dX4_pass_94 : decode cX4_pass 94 = .ok (.goto (-80), 3) := by decide +kernel
theorem dX4_pass_97 : decode cX4_pass 97 = .ok (.iload 4, 2) := by decide +kernel
theorem dX4_pass_99 : decode cX4_pass 99 = .ok (.ireturn, 1) := by decide +kernel
theorem dX4_passSimple_0 : decode cX4_passSimple 0 = .ok (.aload_n 1, 1) := by decide +kernel
theorem dX4_passSimple_1 : decode cX4_passSimple 1 = .ok (.getfield 74, 3) := by decide +kernel
theorem dX4_passSimple_4 : decode cX4_passSimple 4 = .ok (.tableswitch 166 0 5 #[40, 68, 84, 100, 166, 114], 40) := by decide +kernel
theorem dX4_passSimple_44 : decode cX4_passSimple 44 = .ok (.aload_n 0, 1) := by decide +kernel
theorem dX4_passSimple_45 : decode cX4_passSimple 45 = .ok (.getfield 12, 3) := by decide +kernel
theorem dX4_passSimple_48 : decode cX4_passSimple 48 = .ok (.aload_n 1, 1) := by decide +kernel
theorem dX4_passSimple_49 : decode cX4_passSimple 49 = .ok (.getfield 90, 3) := by decide +kernel
theorem dX4_passSimple_52 : decode cX4_passSimple 52 = .ok (.invokevirtual 93, 3) := by decide +kernel
theorem dX4_passSimple_55 : decode cX4_passSimple 55 = .ok (.aload_n 0, 1) := by decide +kernel
theorem dX4_passSimple_56 : decode cX4_passSimple 56 = .ok (.getfield 12, 3) := by decide +kernel
theorem dX4_passSimple_59 : decode cX4_passSimple 59 = .ok (.aload_n 1, 1) := by decide +kernel
theorem dX4_passSimple_60 : decode cX4_passSimple 60 = .ok (.getfield 97, 3) := by decide +kernel
theorem dX4_passSimple_63 : decode cX4_passSimple 63 = .ok (.getfield 50, 3) := by decide +kernel
theorem dX4_passSimple_66 : decode cX4_passSimple 66 = .ok (.invokevirtual 55, 3) := by decide +kernel
theorem dX4_passSimple_69 : decode cX4_passSimple 69 = .ok (.goto 115, 3) := by decide +kernel
theorem dX4_passSimple_72 : decode cX4_passSimple 72 = .ok (.aload_n 0, 1) := by decide +kernel
theorem dX4_passSimple_73 : decode cX4_passSimple 73 = .ok (.getfield 12, 3) := by decide +kernel
theorem dX4_passSimple_76 : decode cX4_passSimple 76 = .ok (.aload_n 1, 1) := by decide +kernel
theorem dX4_passSimple_77 : decode cX4_passSimple 77 = .ok (.getfield 90, 3) := by decide +kernel
theorem dX4_passSimple_80 : decode cX4_passSimple 80 = .ok (.iconst 1, 1) := by decide +kernel
theorem dX4_passSimple_81 : decode cX4_passSimple 81 = .ok (.iconst 1, 1) := by decide +kernel
theorem dX4_passSimple_82 : decode cX4_passSimple 82 = .ok (.invokevirtual 101, 3) := by decide +kernel
theorem dX4_passSimple_85 : decode cX4_passSimple 85 = .ok (.goto 99, 3) := by decide +kernel
theorem dX4_passSimple_88 : decode cX4_passSimple 88 = .ok (.aload_n 0, 1) := by decide +kernel
theorem dX4_passSimple_89 : decode cX4_passSimple 89 = .ok (.getfield 12, 3) := by decide +kernel
theorem dX4_passSimple_92 : decode cX4_passSimple 92 = .ok (.aload_n 1, 1) := by decide +kernel
theorem dX4_passSimple_93 : decode cX4_passSimple 93 = .ok (.getfield 90, 3) := by decide +kernel
theorem dX4_passSimple_96 : decode cX4_passSimple 96 = .ok (.iconst 0, 1) := by decide +kernel
theorem dX4_passSimple_97 : decode cX4_passSimple 97 = .ok (.iconst 0, 1) := by decide +kernel
theorem dX4_passSimple_98 : decode cX4_passSimple 98 = .ok (.invokevirtual 101, 3) := by decide +kernel
theorem dX4_passSimple_101 : decode cX4_passSimple 101 = .ok (.goto 83, 3) := by decide +kernel
theorem dX4_passSimple_104 : decode cX4_passSimple 104 = .ok (.aload_n 0, 1) := by decide +kernel
theorem dX4_passSimple_105 : decode cX4_passSimple 105 = .ok (.getfield 12, 3) := by decide +kernel
theorem dX4_passSimple_108 : decode cX4_passSimple 108 = .ok (.aload_n 1, 1) := by decide +kernel
theorem dX4_passSimple_109 : decode cX4_passSimple 109 = .ok (.getfield 90, 3) := by decide +kernel
theorem dX4_passSimple_112 : decode cX4_passSimple 112 = .ok (.invokevirtual 93, 3) := by decide +kernel
theorem dX4_passSimple_115 : decode cX4_passSimple 115 = .ok (.goto 69, 3) := by decide +kernel
theorem dX4_passSimple_118 : decode cX4_passSimple 118 = .ok (.aload_n 1, 1) := by decide +kernel
theorem dX4_passSimple_119 : decode cX4_passSimple 119 = .ok (.getfield 105, 3) := by decide +kernel
theorem dX4_passSimple_122 : decode cX4_passSimple 122 = .ok (.ifCond .lt 31, 3) := by decide +kernel
theorem dX4_passSimple_125 : decode cX4_passSimple 125 = .ok (.aload_n 1, 1) := by decide +kernel
theorem dX4_passSimple_126 : decode cX4_passSimple 126 = .ok (.getfield 105, 3) := by decide +kernel
theorem dX4_passSimple_129 : decode cX4_passSimple 129 = .ok (.aload_n 0, 1) := by decide +kernel
theorem dX4_passSimple_130 : decode cX4_passSimple 130 = .ok (.getfield 29, 3) := by decide +kernel
theorem dX4_passSimple_133 : decode cX4_passSimple 133 = .ok (.arraylength, 1) := by decide +kernel
theorem dX4_passSimple_134 : decode cX4_passSimple 134 = .ok (.if_icmp .ge 19, 3) := by decide +kernel
theorem dX4_passSimple_137 : decode cX4_passSimple 137 = .ok (.aload_n 0, 1) := by decide +kernel
theorem dX4_passSimple_138 : decode cX4_passSimple 138 = .ok (.getfield 29, 3) := by decide +kernel
theorem dX4_passSimple_141 : decode cX4_passSimple 141 = .ok (.aload_n 1, 1) := by decide +kernel
theorem dX4_passSimple_142 : decode cX4_passSimple 142 = .ok (.getfield 105, 3) := by decide +kernel
theorem dX4_passSimple_145 : decode cX4_passSimple 145 = .ok (.aaload, 1) := by decide +kernel
theorem dX4_passSimple_146 : decode cX4_passSimple 146 = .ok (.aload_n 0, 1) := by decide +kernel
theorem dX4_passSimple_147 : decode cX4_passSimple 147 = .ok (.getfield 12, 3) := by decide +kernel
theorem dX4_passSimple_150 : decode cX4_passSimple 150 = .ok (.invokevirtual 63, 3) := by decide +kernel
theorem dX4_passSimple_153 : decode cX4_passSimple 153 = .ok (.aload_n 0, 1) := by decide +kernel
theorem dX4_passSimple_154 : decode cX4_passSimple 154 = .ok (.getfield 12, 3) := by decide +kernel
theorem dX4_passSimple_157 : decode cX4_passSimple 157 = .ok (.aload_n 1, 1) := by decide +kernel
theorem dX4_passSimple_158 : decode cX4_passSimple 158 = .ok (.getfield 97, 3) := by decide +kernel
theorem dX4_passSimple_161 : decode cX4_passSimple 161 = .ok (.getfield 50, 3) := by decide +kernel
theorem dX4_passSimple_164 : decode cX4_passSimple 164 = .ok (.invokevirtual 55, 3) := by decide +kernel
theorem dX4_passSimple_167 : decode cX4_passSimple 167 = .ok (.goto 17, 3) := by decide +kernel
theorem dX4_passSimple_170 : decode cX4_passSimple 170 = .ok (.aload_n 0, 1) := by decide +kernel
theorem dX4_passSimple_171 : decode cX4_passSimple 171 = .ok (.getfield 12, 3) := by decide +kernel
theorem dX4_passSimple_174 : decode cX4_passSimple 174 = .ok (.aload_n 1, 1) := by decide +kernel
theorem dX4_passSimple_175 : decode cX4_passSimple 175 = .ok (.getfield 97, 3) := by decide +kernel
theorem dX4_passSimple_178 : decode cX4_passSimple 178 = .ok (.getfield 50, 3) := by decide +kernel
theorem dX4_passSimple_181 : decode cX4_passSimple 181 = .ok (.invokevirtual 55, 3) := by decide +kernel
theorem dX4_passSimple_184 : decode cX4_passSimple 184 = .ok (.return_, 1) := by decide +kernel
theorem dX4_passLoop_0 : decode cX4_passLoop 0 = .ok (.aload_n 1, 1) := by decide +kernel
theorem dX4_passLoop_1 : decode cX4_passLoop 1 = .ok (.getfield 105, 3) := by decide +kernel
theorem dX4_passLoop_4 : decode cX4_passLoop 4 = .ok (.istore_n 3, 1) := by decide +kernel
theorem dX4_passLoop_5 : decode cX4_passLoop 5 = .ok (.iload_n 3, 1) := by decide +kernel
theorem dX4_passLoop_6 : decode cX4_passLoop 6 = .ok (.ifCond .lt 18, 3) := by decide +kernel
theorem dX4_passLoop_9 : decode cX4_passLoop 9 = .ok (.iload_n 3, 1) := by decide +kernel
theorem dX4_passLoop_10 : decode cX4_passLoop 10 = .ok (.aload_n 0, 1) := by decide +kernel
theorem dX4_passLoop_11 : decode cX4_passLoop 11 = .ok (.getfield 22, 3) := by decide +kernel
theorem dX4_passLoop_14 : decode cX4_passLoop 14 = .ok (.arraylength, 1) := by decide +kernel
theorem dX4_passLoop_15 : decode cX4_passLoop 15 = .ok (.if_icmp .ge 9, 3) := by decide +kernel
theorem dX4_passLoop_18 : decode cX4_passLoop 18 = .ok (.iload_n 3, 1) := by decide +kernel
theorem dX4_passLoop_19 : decode cX4_passLoop 19 = .ok (.aload_n 2, 1) := by decide +kernel
theorem dX4_passLoop_20 : decode cX4_passLoop 20 = .ok (.arraylength, 1) := by decide +kernel
theorem dX4_passLoop_21 : decode cX4_passLoop 21 = .ok (.if_icmp .lt 5, 3) := by decide +kernel
theorem dX4_passLoop_24 : decode cX4_passLoop 24 = .ok (.iconst 0, 1) := by decide +kernel
theorem dX4_passLoop_25 : decode cX4_passLoop 25 = .ok (.ireturn, 1) := by decide +kernel
theorem dX4_passLoop_26 : decode cX4_passLoop 26 = .ok (.aload_n 0, 1) := by decide +kernel
theorem dX4_passLoop_27 : decode cX4_passLoop 27 = .ok (.getfield 22, 3) := by decide +kernel
theorem dX4_passLoop_30 : decode cX4_passLoop 30 = .ok (.iload_n 3, 1) := by decide +kernel
theorem dX4_passLoop_31 : decode cX4_passLoop 31 = .ok (.aaload, 1) := by decide +kernel
theorem dX4_passLoop_32 : decode cX4_passLoop 32 = .ok (.aload_n 0, 1) := by decide +kernel
theorem dX4_passLoop_33 : decode cX4_passLoop 33 = .ok (.getfield 12, 3) := by decide +kernel
theorem dX4_passLoop_36 : decode cX4_passLoop 36 = .ok (.invokevirtual 108, 3) := by decide +kernel
theorem dX4_passLoop_39 : decode cX4_passLoop 39 = .ok (.istore 4, 2) := by decide +kernel
theorem dX4_passLoop_41 : decode cX4_passLoop 41 = .ok (.aload_n 0, 1) := by decide +kernel
theorem dX4_passLoop_42 : decode cX4_passLoop 42 = .ok (.getfield 12, 3) := by decide +kernel
theorem dX4_passLoop_45 : decode cX4_passLoop 45 = .ok (.aload_n 2, 1) := by decide +kernel
theorem dX4_passLoop_46 : decode cX4_passLoop 46 = .ok (.iload_n 3, 1) := by decide +kernel
theorem dX4_passLoop_47 : decode cX4_passLoop 47 = .ok (.aaload, 1) := by decide +kernel
theorem dX4_passLoop_48 : decode cX4_passLoop 48 = .ok (.invokevirtual 63, 3) := by decide +kernel
theorem dX4_passLoop_51 : decode cX4_passLoop 51 = .ok (.aload_n 1, 1) := by decide +kernel
theorem dX4_passLoop_52 : decode cX4_passLoop 52 = .ok (.getfield 74, 3) := by decide +kernel
theorem dX4_passLoop_55 : decode cX4_passLoop 55 = .ok (.bipush 6, 2) := by decide +kernel
theorem dX4_passLoop_57 : decode cX4_passLoop 57 = .ok (.if_icmp .ne 20, 3) := by decide +kernel
theorem dX4_passLoop_60 : decode cX4_passLoop 60 = .ok (.aload_n 0, 1) := by decide +kernel
theorem dX4_passLoop_61 : decode cX4_passLoop 61 = .ok (.getfield 12, 3) := by decide +kernel
theorem dX4_passLoop_64 : decode cX4_passLoop 64 = .ok (.aload_n 1, 1) := by decide +kernel
theorem dX4_passLoop_65 : decode cX4_passLoop 65 = .ok (.getfield 97, 3) := by decide +kernel
theorem dX4_passLoop_68 : decode cX4_passLoop 68 = .ok (.getfield 50, 3) := by decide +kernel
theorem dX4_passLoop_71 : decode cX4_passLoop 71 = .ok (.invokevirtual 55, 3) := by decide +kernel
theorem dX4_passLoop_74 : decode cX4_passLoop 74 = .ok (.goto 17, 3) := by decide +kernel
theorem dX4_passLoop_77 : decode cX4_passLoop 77 = .ok (.aload_n 0, 1) := by decide +kernel
theorem dX4_passLoop_78 : decode cX4_passLoop 78 = .ok (.getfield 12, 3) := by decide +kernel
theorem dX4_passLoop_81 : decode cX4_passLoop 81 = .ok (.aload_n 1, 1) := by decide +kernel
theorem dX4_passLoop_82 : decode cX4_passLoop 82 = .ok (.getfield 97, 3) := by decide +kernel
theorem dX4_passLoop_85 : decode cX4_passLoop 85 = .ok (.getfield 50, 3) := by decide +kernel
theorem dX4_passLoop_88 : decode cX4_passLoop 88 = .ok (.invokevirtual 112, 3) := by decide +kernel
theorem dX4_passLoop_91 : decode cX4_passLoop 91 = .ok (.iload 4, 2) := by decide +kernel
theorem dX4_passLoop_93 : decode cX4_passLoop 93 = .ok (.ireturn, 1) := by decide +kernel
theorem dX4_passChoice_0 : decode cX4_passChoice 0 = .ok (.aload_n 1, 1) := by decide +kernel
theorem dX4_passChoice_1 : decode cX4_passChoice 1 = .ok (.getfield 105, 3) := by decide +kernel
theorem dX4_passChoice_4 : decode cX4_passChoice 4 = .ok (.istore_n 2, 1) := by decide +kernel
theorem dX4_passChoice_5 : decode cX4_passChoice 5 = .ok (.iload_n 2, 1) := by decide +kernel
theorem dX4_passChoice_6 : decode cX4_passChoice 6 = .ok (.ifCond .lt 21, 3) := by decide +kernel
theorem dX4_passChoice_9 : decode cX4_passChoice 9 = .ok (.iload_n 2, 1) := by decide +kernel
theorem dX4_passChoice_10 : decode cX4_passChoice 10 = .ok (.aload_n 0, 1) := by decide +kernel
theorem dX4_passChoice_11 : decode cX4_passChoice 11 = .ok (.getfield 32, 3) := by decide +kernel
theorem dX4_passChoice_14 : decode cX4_passChoice 14 = .ok (.arraylength, 1) := by decide +kernel
theorem dX4_passChoice_15 : decode cX4_passChoice 15 = .ok (.if_icmp .ge 12, 3) := by decide +kernel
theorem dX4_passChoice_18 : decode cX4_passChoice 18 = .ok (.iload_n 2, 1) := by decide +kernel
theorem dX4_passChoice_19 : decode cX4_passChoice 19 = .ok (.aload_n 0, 1) := by decide +kernel
theorem dX4_passChoice_20 : decode cX4_passChoice 20 = .ok (.getfield 35, 3) := by decide +kernel
theorem dX4_passChoice_23 : decode cX4_passChoice 23 = .ok (.arraylength, 1) := by decide +kernel
theorem dX4_passChoice_24 : decode cX4_passChoice 24 = .ok (.if_icmp .lt 4, 3) := by decide +kernel
theorem dX4_passChoice_27 : decode cX4_passChoice 27 = .ok (.return_, 1) := by decide +kernel
theorem dX4_passChoice_28 : decode cX4_passChoice 28 = .ok (.aload_n 1, 1) := by decide +kernel
theorem dX4_passChoice_29 : decode cX4_passChoice 29 = .ok (.getfield 74, 3) := by decide +kernel
theorem dX4_passChoice_32 : decode cX4_passChoice 32 = .ok (.bipush 8, 2) := by decide +kernel
theorem dX4_passChoice_34 : decode cX4_passChoice 34 = .ok (.if_icmp .ne 19, 3) := by decide +kernel
theorem dX4_passChoice_37 : decode cX4_passChoice 37 = .ok (.aload_n 0, 1) := by decide +kernel
theorem dX4_passChoice_38 : decode cX4_passChoice 38 = .ok (.getfield 32, 3) := by decide +kernel
theorem dX4_passChoice_41 : decode cX4_passChoice 41 = .ok (.iload_n 2, 1) := by decide +kernel
theorem dX4_passChoice_42 : decode cX4_passChoice 42 = .ok (.aaload, 1) := by decide +kernel
theorem dX4_passChoice_43 : decode cX4_passChoice 43 = .ok (.aload_n 0, 1) := by decide +kernel
theorem dX4_passChoice_44 : decode cX4_passChoice 44 = .ok (.getfield 12, 3) := by decide +kernel
theorem dX4_passChoice_47 : decode cX4_passChoice 47 = .ok (.invokevirtual 63, 3) := by decide +kernel
theorem dX4_passChoice_50 : decode cX4_passChoice 50 = .ok (.goto 55, 3) := by decide +kernel
theorem dX4_passChoice_53 : decode cX4_passChoice 53 = .ok (.aload_n 1, 1) := by decide +kernel
theorem dX4_passChoice_54 : decode cX4_passChoice 54 = .ok (.getfield 74, 3) := by decide +kernel
theorem dX4_passChoice_57 : decode cX4_passChoice 57 = .ok (.bipush 9, 2) := by decide +kernel
theorem dX4_passChoice_59 : decode cX4_passChoice 59 = .ok (.if_icmp .ne 32, 3) := by decide +kernel
theorem dX4_passChoice_62 : decode cX4_passChoice 62 = .ok (.aload_n 0, 1) := by decide +kernel
theorem dX4_passChoice_63 : decode cX4_passChoice 63 = .ok (.getfield 35, 3) := by decide +kernel
theorem dX4_passChoice_66 : decode cX4_passChoice 66 = .ok (.iload_n 2, 1) := by decide +kernel
theorem dX4_passChoice_67 : decode cX4_passChoice 67 = .ok (.aaload, 1) := by decide +kernel
theorem dX4_passChoice_68 : decode cX4_passChoice 68 = .ok (.aload_n 0, 1) := by decide +kernel
theorem dX4_passChoice_69 : decode cX4_passChoice 69 = .ok (.getfield 12, 3) := by decide +kernel
theorem dX4_passChoice_72 : decode cX4_passChoice 72 = .ok (.invokevirtual 63, 3) := by decide +kernel
theorem dX4_passChoice_75 : decode cX4_passChoice 75 = .ok (.aload_n 0, 1) := by decide +kernel
theorem dX4_passChoice_76 : decode cX4_passChoice 76 = .ok (.getfield 12, 3) := by decide +kernel
theorem dX4_passChoice_79 : decode cX4_passChoice 79 = .ok (.aload_n 0, 1) := by decide +kernel
theorem dX4_passChoice_80 : decode cX4_passChoice 80 = .ok (.getfield 32, 3) := by decide +kernel
theorem dX4_passChoice_83 : decode cX4_passChoice 83 = .ok (.iload_n 2, 1) := by decide +kernel
theorem dX4_passChoice_84 : decode cX4_passChoice 84 = .ok (.aaload, 1) := by decide +kernel
theorem dX4_passChoice_85 : decode cX4_passChoice 85 = .ok (.invokevirtual 63, 3) := by decide +kernel
theorem dX4_passChoice_88 : decode cX4_passChoice 88 = .ok (.goto 17, 3) := by decide +kernel
theorem dX4_passChoice_91 : decode cX4_passChoice 91 = .ok (.aload_n 0, 1) := by decide +kernel
theorem dX4_passChoice_92 : decode cX4_passChoice 92 = .ok (.getfield 12, 3) := by decide +kernel
theorem dX4_passChoice_95 : decode cX4_passChoice 95 = .ok (.aload_n 0, 1) := by decide +kernel
theorem dX4_passChoice_96 : decode cX4_passChoice 96 = .ok (.getfield 35, 3) := by decide +kernel
theorem dX4_passChoice_99 : decode cX4_passChoice 99 = .ok (.iload_n 2, 1) := by decide +kernel
theorem dX4_passChoice_100 : decode cX4_passChoice 100 = .ok (.aaload, 1) := by decide +kernel
theorem dX4_passChoice_101 : decode cX4_passChoice 101 = .ok (.invokevirtual 108, 3) := by decide +kernel
theorem dX4_passChoice_104 : decode cX4_passChoice 104 = .ok (.pop, 1) := by decide +kernel
theorem dX4_passChoice_105 : decode cX4_passChoice 105 = .ok (.return_, 1) := by decide +kernel
theorem dX5_init_0 : decode cX5_init 0 = .ok (.aload_n 0, 1) := by decide +kernel
theorem dX5_init_1 : decode cX5_init 1 = .ok (.invokespecial 3, 3) := by decide +kernel
theorem dX5_init_4 : decode cX5_init 4 = .ok (.aload_n 0, 1) := by decide +kernel
theorem dX5_init_5 : decode cX5_init 5 = .ok (.new 9, 3) := by decide +kernel
theorem dX5_init_8 : decode cX5_init 8 = .ok (.dup, 1) := by decide +kernel
theorem dX5_init_9 : decode cX5_init 9 = .ok (.invokespecial 11, 3) := by decide +kernel
theorem dX5_init_12 : decode cX5_init 12 = .ok (.putfield 12, 3) := by decide +kernel
theorem dX5_init_15 : decode cX5_init 15 = .ok (.aload_n 0, 1) := by decide +kernel
theorem dX5_init_16 : decode cX5_init 16 = .ok (.iconst 3, 1) := by decide +kernel
theorem dX5_init_17 : decode cX5_init 17 = .ok (.newarray .int, 2) := by decide +kernel
theorem dX5_init_19 : decode cX5_init 19 = .ok (.putfield 18, 3) := by decide +kernel
theorem dX5_init_22 : decode cX5_init 22 = .ok (.return_, 1) := by decide +kernel
theorem dX5_find_0 : decode cX5_find 0 = .ok (.iconst 0, 1) := by decide +kernel
theorem dX5_find_1 : decode cX5_find 1 = .ok (.istore 4, 2) := by decide +kernel
theorem dX5_find_3 : decode cX5_find 3 = .ok (.iload 4, 2) := by decide +kernel
theorem dX5_find_5 : decode cX5_find 5 = .ok (.aload_n 0, 1) := by decide +kernel
theorem dX5_find_6 : decode cX5_find 6 = .ok (.getfield 18, 3) := by decide +kernel
theorem dX5_find_9 : decode cX5_find 9 = .ok (.arraylength, 1) := by decide +kernel
theorem dX5_find_10 : decode cX5_find 10 = .ok (.if_icmp .ge 17, 3) := by decide +kernel
theorem dX5_find_13 : decode cX5_find 13 = .ok (.aload_n 0, 1) := by decide +kernel
theorem dX5_find_14 : decode cX5_find 14 = .ok (.getfield 18, 3) := by decide +kernel
theorem dX5_find_17 : decode cX5_find 17 = .ok (.iload 4, 2) := by decide +kernel
theorem dX5_find_19 : decode cX5_find 19 = .ok (.iload_n 3, 1) := by decide +kernel
theorem dX5_find_20 : decode cX5_find 20 = .ok (.iastore, 1) := by decide +kernel
theorem dX5_find_21 : decode cX5_find 21 = .ok (.iinc 4 1, 3) := by decide +kernel
theorem dX5_find_24 : decode cX5_find 24 = .ok (.goto (-21), 3) := by decide +kernel
theorem dX5_find_27 : decode cX5_find 27 = .ok (.iconst 1, 1) := by decide +kernel
theorem dX5_find_28 : decode cX5_find 28 = .ok (.istore 4, 2) := by decide +kernel
theorem dX5_find_30 : decode cX5_find 30 = .ok (.iconst 0, 1) := by decide +kernel
theorem dX5_find_31 : decode cX5_find 31 = .ok (.istore 5, 2) := by decide +kernel
theorem dX5_find_33 : decode cX5_find 33 = .ok (.iload 5, 2) := by decide +kernel
theorem dX5_find_35 : decode cX5_find 35 = .ok (.bipush 16, 2) := by decide +kernel
theorem dX5_find_37 : decode cX5_find 37 = .ok (.if_icmp .ge 112, 3) := by decide +kernel
theorem dX5_find_40 : decode cX5_find 40 = .ok (.iload 4, 2) := by decide +kernel
theorem dX5_find_42 : decode cX5_find 42 = .ok (.ifCond .eq 107, 3) := by decide +kernel
theorem dX5_find_45 : decode cX5_find 45 = .ok (.aload_n 0, 1) := by decide +kernel
theorem dX5_find_46 : decode cX5_find 46 = .ok (.getfield 12, 3) := by decide +kernel
theorem dX5_find_49 : decode cX5_find 49 = .ok (.aload_n 1, 1) := by decide +kernel
theorem dX5_find_50 : decode cX5_find 50 = .ok (.aload_n 0, 1) := by decide +kernel
theorem dX5_find_51 : decode cX5_find 51 = .ok (.getfield 18, 3) := by decide +kernel
theorem dX5_find_54 : decode cX5_find 54 = .ok (.invokevirtual 22, 3) := by decide +kernel
theorem dX5_find_57 : decode cX5_find 57 = .ok (.aload_n 0, 1) := by decide +kernel
theorem dX5_find_58 : decode cX5_find 58 = .ok (.getfield 12, 3) := by decide +kernel
theorem dX5_find_61 : decode cX5_find 61 = .ok (.aload_n 1, 1) := by decide +kernel
theorem dX5_find_62 : decode cX5_find 62 = .ok (.aload_n 2, 1) := by decide +kernel
theorem dX5_find_63 : decode cX5_find 63 = .ok (.aload_n 0, 1) := by decide +kernel
theorem dX5_find_64 : decode cX5_find 64 = .ok (.getfield 12, 3) := by decide +kernel
theorem dX5_find_67 : decode cX5_find 67 = .ok (.getfield 26, 3) := by decide +kernel
theorem dX5_find_70 : decode cX5_find 70 = .ok (.invokevirtual 30, 3) := by decide +kernel
theorem dX5_find_73 : decode cX5_find 73 = .ok (.pop, 1) := by decide +kernel
theorem dX5_find_74 : decode cX5_find 74 = .ok (.iconst 0, 1) := by decide +kernel
theorem dX5_find_75 : decode cX5_find 75 = .ok (.istore 4, 2) := by decide +kernel
theorem dX5_find_77 : decode cX5_find 77 = .ok (.iconst 0, 1) := by decide +kernel
theorem dX5_find_78 : decode cX5_find 78 = .ok (.istore 6, 2) := by decide +kernel
theorem dX5_find_80 : decode cX5_find 80 = .ok (.iload 6, 2) := by decide +kernel
theorem dX5_find_82 : decode cX5_find 82 = .ok (.aload_n 1, 1) := by decide +kernel
theorem dX5_find_83 : decode cX5_find 83 = .ok (.getfield 34, 3) := by decide +kernel
theorem dX5_find_86 : decode cX5_find 86 = .ok (.if_icmp .ge 57, 3) := by decide +kernel
theorem dX5_find_89 : decode cX5_find 89 = .ok (.iload 6, 2) := by decide +kernel
theorem dX5_find_91 : decode cX5_find 91 = .ok (.aload_n 0, 1) := by decide +kernel
theorem dX5_find_92 : decode cX5_find 92 = .ok (.getfield 18, 3) := by decide +kernel
theorem dX5_find_95 : decode cX5_find 95 = .ok (.arraylength, 1) := by decide +kernel
theorem dX5_find_96 : decode cX5_find 96 = .ok (.if_icmp .ge 47, 3) := by decide +kernel
theorem dX5_find_99 : decode cX5_find 99 = .ok (.aload_n 0, 1) := by decide +kernel
theorem dX5_find_100 : decode cX5_find 100 = .ok (.aload_n 1, 1) := by decide +kernel
theorem dX5_find_101 : decode cX5_find 101 = .ok (.iload 6, 2) := by decide +kernel
theorem dX5_find_103 : decode cX5_find 103 = .ok (.invokevirtual 40, 3) := by decide +kernel
theorem dX5_find_106 : decode cX5_find 106 = .ok (.istore 7, 2) := by decide +kernel
theorem dX5_find_108 : decode cX5_find 108 = .ok (.aload_n 0, 1) := by decide +kernel
theorem dX5_find_109 : decode cX5_find 109 = .ok (.getfield 18, 3) := by decide +kernel
theorem dX5_find_112 : decode cX5_find 112 = .ok (.iload 6, 2) := by decide +kernel
theorem dX5_find_114 : decode cX5_find 114 = .ok (.dup2, 1) := by decide +kernel
theorem dX5_find_115 : decode cX5_find 115 = .ok (.iaload, 1) := by decide +kernel
theorem dX5_find_116 : decode cX5_find 116 = .ok (.iload 7, 2) := by decide +kernel
theorem dX5_find_118 : decode cX5_find 118 = .ok (.iconst (-1), 1) := by decide +kernel
theorem dX5_find_119 : decode cX5_find 119 = .ok (.ixor, 1) := by decide +kernel
theorem dX5_find_120 : decode cX5_find 120 = .ok (.iand, 1) := by decide +kernel
theorem dX5_find_121 : decode cX5_find 121 = .ok (.iastore, 1) := by decide +kernel
theorem dX5_find_122 : decode cX5_find 122 = .ok (.iload 4, 2) := by decide +kernel
theorem dX5_find_124 : decode cX5_find 124 = .ok (.iload 7, 2) := by decide +kernel
theorem dX5_find_126 : decode cX5_find 126 = .ok (.ifCond .eq 7, 3) := by decide +kernel
theorem dX5_find_129 : decode cX5_find 129 = .ok (.iconst 1, 1) := by decide +kernel
theorem dX5_find_130 : decode cX5_find 130 = .ok (.goto 4, 3) := by decide +kernel
theorem dX5_find_133 : decode cX5_find 133 = .ok (.iconst 0, 1) := by decide +kernel
theorem dX5_find_134 : decode cX5_find 134 = .ok (.ior, 1) := by decide +kernel
theorem dX5_find_135 : decode cX5_find 135 = .ok (.istore 4, 2) := by decide +kernel
theorem dX5_find_137 : decode cX5_find 137 = .ok (.iinc 6 1, 3) := by decide +kernel
theorem dX5_find_140 : decode cX5_find 140 = .ok (.goto (-60), 3) := by decide +kernel
theorem dX5_find_143 : decode cX5_find 143 = .ok (.iinc 5 1, 3) := by decide +kernel
theorem dX5_find_146 : decode cX5_find 146 = .ok (.goto (-113), 3) := by decide +kernel
theorem dX5_find_149 : decode cX5_find 149 = .ok (.return_, 1) := by decide +kernel
theorem dX5_falseGuesses_0 : decode cX5_falseGuesses 0 = .ok (.iconst 0, 1) := by decide +kernel
theorem dX5_falseGuesses_1 : decode cX5_falseGuesses 1 = .ok (.istore_n 3, 1) := by decide +kernel
theorem dX5_falseGuesses_2 : decode cX5_falseGuesses 2 = .ok (.iload_n 2, 1) := by decide +kernel
theorem dX5_falseGuesses_3 : decode cX5_falseGuesses 3 = .ok (.ifCond .lt 24, 3) := by decide +kernel
theorem dX5_falseGuesses_6 : decode cX5_falseGuesses 6 = .ok (.iload_n 2, 1) := by decide +kernel
theorem dX5_falseGuesses_7 : decode cX5_falseGuesses 7 = .ok (.aload_n 0, 1) := by decide +kernel
theorem dX5_falseGuesses_8 : decode cX5_falseGuesses 8 = .ok (.getfield 18, 3) := by decide +kernel
theorem dX5_falseGuesses_11 : decode cX5_falseGuesses 11 = .ok (.arraylength, 1) := by decide +kernel
theorem dX5_falseGuesses_12 : decode cX5_falseGuesses 12 = .ok (.if_icmp .ge 15, 3) := by decide +kernel
theorem dX5_falseGuesses_15 : decode cX5_falseGuesses 15 = .ok (.iload_n 2, 1) := by decide +kernel
theorem dX5_falseGuesses_16 : decode cX5_falseGuesses 16 = .ok (.aload_n 0, 1) := by decide +kernel
theorem dX5_falseGuesses_17 : decode cX5_falseGuesses 17 = .ok (.getfield 12, 3) := by decide +kernel
theorem dX5_falseGuesses_20 : decode cX5_falseGuesses 20 = .ok (.getfield 44, 3) := by decide +kernel
theorem dX5_falseGuesses_23 : decode cX5_falseGuesses 23 = .ok (.arraylength, 1) := by decide +kernel
theorem dX5_falseGuesses_24 : decode cX5_falseGuesses 24 = .ok (.if_icmp .lt 5, 3) := by decide +kernel
theorem dX5_falseGuesses_27 : decode cX5_falseGuesses 27 = .ok (.iload_n 3, 1) := by decide +kernel
theorem dX5_falseGuesses_28 : decode cX5_falseGuesses 28 = .ok (.ireturn, 1) := by decide +kernel
theorem dX5_falseGuesses_29 : decode cX5_falseGuesses 29 = .ok (.iconst 0, 1) := by decide +kernel
theorem dX5_falseGuesses_30 : decode cX5_falseGuesses 30 = .ok (.istore 4, 2) := by decide +kernel
theorem dX5_falseGuesses_32 : decode cX5_falseGuesses 32 = .ok (.iload 4, 2) := by decide +kernel
theorem dX5_falseGuesses_34 : decode cX5_falseGuesses 34 = .ok (.iconst 5, 1) := by decide +kernel
theorem dX5_falseGuesses_35 : decode cX5_falseGuesses 35 = .ok (.if_icmp .ge 56, 3) := by decide +kernel
theorem dX5_falseGuesses_38 : decode cX5_falseGuesses 38 = .ok (.aload_n 0, 1) := by decide +kernel
theorem dX5_falseGuesses_39 : decode cX5_falseGuesses 39 = .ok (.getfield 18, 3) := by decide +kernel
theorem dX5_falseGuesses_42 : decode cX5_falseGuesses 42 = .ok (.iload_n 2, 1) := by decide +kernel
theorem dX5_falseGuesses_43 : decode cX5_falseGuesses 43 = .ok (.iaload, 1) := by decide +kernel
theorem dX5_falseGuesses_44 : decode cX5_falseGuesses 44 = .ok (.iload 4, 2) := by decide +kernel
theorem dX5_falseGuesses_46 : decode cX5_falseGuesses 46 = .ok (.ishr, 1) := by decide +kernel
theorem dX5_falseGuesses_47 : decode cX5_falseGuesses 47 = .ok (.iconst 1, 1) := by decide +kernel
theorem dX5_falseGuesses_48 : decode cX5_falseGuesses 48 = .ok (.iand, 1) := by decide +kernel
theorem dX5_falseGuesses_49 : decode cX5_falseGuesses 49 = .ok (.iconst 1, 1) := by decide +kernel
theorem dX5_falseGuesses_50 : decode cX5_falseGuesses 50 = .ok (.if_icmp .ne 35, 3) := by decide +kernel
theorem dX5_falseGuesses_53 : decode cX5_falseGuesses 53 = .ok (.aload_n 0, 1) := by decide +kernel
theorem dX5_falseGuesses_54 : decode cX5_falseGuesses 54 = .ok (.getfield 12, 3) := by decide +kernel
theorem dX5_falseGuesses_57 : decode cX5_falseGuesses 57 = .ok (.getfield 44, 3) := by decide +kernel
theorem dX5_falseGuesses_60 : decode cX5_falseGuesses 60 = .ok (.iload_n 2, 1) := by decide +kernel
theorem dX5_falseGuesses_61 : decode cX5_falseGuesses 61 = .ok (.aaload, 1) := by decide +kernel
theorem dX5_falseGuesses_62 : decode cX5_falseGuesses 62 = .ok (.aload_n 1, 1) := by decide +kernel
theorem dX5_falseGuesses_63 : decode cX5_falseGuesses 63 = .ok (.getfield 47, 3) := by decide +kernel
theorem dX5_falseGuesses_66 : decode cX5_falseGuesses 66 = .ok (.iload 4, 2) := by decide +kernel
theorem dX5_falseGuesses_68 : decode cX5_falseGuesses 68 = .ok (.aaload, 1) := by decide +kernel
theorem dX5_falseGuesses_69 : decode cX5_falseGuesses 69 = .ok (.getfield 51, 3) := by decide +kernel
theorem dX5_falseGuesses_72 : decode cX5_falseGuesses 72 = .ok (.invokevirtual 57, 3) := by decide +kernel
theorem dX5_falseGuesses_75 : decode cX5_falseGuesses 75 = .ok (.ifCond .ne 10, 3) := by decide +kernel
theorem dX5_falseGuesses_78 : decode cX5_falseGuesses 78 = .ok (.iload_n 3, 1) := by decide +kernel
theorem dX5_falseGuesses_79 : decode cX5_falseGuesses 79 = .ok (.iconst 1, 1) := by decide +kernel
theorem dX5_falseGuesses_80 : decode cX5_falseGuesses 80 = .ok (.iload 4, 2) := by decide +kernel
theorem dX5_falseGuesses_82 : decode cX5_falseGuesses 82 = .ok (.ishl, 1) := by decide +kernel
theorem dX5_falseGuesses_83 : decode cX5_falseGuesses 83 = .ok (.ior, 1) := by decide +kernel
theorem dX5_falseGuesses_84 : decode cX5_falseGuesses 84 = .ok (.istore_n 3, 1) := by decide +kernel
theorem dX5_falseGuesses_85 : decode cX5_falseGuesses 85 = .ok (.iinc 4 1, 3) := by decide +kernel
theorem dX5_falseGuesses_88 : decode cX5_falseGuesses 88 = .ok (.goto (-56), 3) := by decide +kernel
theorem dX5_falseGuesses_91 : decode cX5_falseGuesses 91 = .ok (.iload_n 3, 1) := by decide +kernel
theorem dX5_falseGuesses_92 : decode cX5_falseGuesses 92 = .ok (.ireturn, 1) := by decide +kernel
theorem dX6_init_0 : decode cX6_init 0 = .ok (.aload_n 0, 1) := by decide +kernel
theorem dX6_init_1 : decode cX6_init 1 = .ok (.invokespecial 3, 3) := by decide +kernel
theorem dX6_init_4 : decode cX6_init 4 = .ok (.aload_n 0, 1) := by decide +kernel
theorem dX6_init_5 : decode cX6_init 5 = .ok (.bipush 6, 2) := by decide +kernel
theorem dX6_init_7 : decode cX6_init 7 = .ok (.newarray .int, 2) := by decide +kernel
theorem dX6_init_9 : decode cX6_init 9 = .ok (.putfield 9, 3) := by decide +kernel
theorem dX6_init_12 : decode cX6_init 12 = .ok (.return_, 1) := by decide +kernel
theorem dX6_read_0 : decode cX6_read 0 = .ok (.aload_n 3, 1) := by decide +kernel
theorem dX6_read_1 : decode cX6_read 1 = .ok (.invokevirtual 15, 3) := by decide +kernel
theorem dX6_read_4 : decode cX6_read 4 = .ok (.aload_n 0, 1) := by decide +kernel
theorem dX6_read_5 : decode cX6_read 5 = .ok (.iconst 0, 1) := by decide +kernel
theorem dX6_read_6 : decode cX6_read 6 = .ok (.putfield 20, 3) := by decide +kernel
theorem dX6_read_9 : decode cX6_read 9 = .ok (.aload_n 0, 1) := by decide +kernel
theorem dX6_read_10 : decode cX6_read 10 = .ok (.iconst 0, 1) := by decide +kernel
theorem dX6_read_11 : decode cX6_read 11 = .ok (.putfield 24, 3) := by decide +kernel
theorem dX6_read_14 : decode cX6_read 14 = .ok (.iconst 0, 1) := by decide +kernel
theorem dX6_read_15 : decode cX6_read 15 = .ok (.istore 4, 2) := by decide +kernel
theorem dX6_read_17 : decode cX6_read 17 = .ok (.iload 4, 2) := by decide +kernel
theorem dX6_read_19 : decode cX6_read 19 = .ok (.iload_n 2, 1) := by decide +kernel
theorem dX6_read_20 : decode cX6_read 20 = .ok (.if_icmp .ge 31, 3) := by decide +kernel
theorem dX6_read_23 : decode cX6_read 23 = .ok (.iload 4, 2) := by decide +kernel
theorem dX6_read_25 : decode cX6_read 25 = .ok (.aload_n 1, 1) := by decide +kernel
theorem dX6_read_26 : decode cX6_read 26 = .ok (.arraylength, 1) := by decide +kernel
theorem dX6_read_27 : decode cX6_read 27 = .ok (.if_icmp .ge 24, 3) := by decide +kernel
theorem dX6_read_30 : decode cX6_read 30 = .ok (.aload_n 0, 1) := by decide +kernel
theorem dX6_read_31 : decode cX6_read 31 = .ok (.aload_n 1, 1) := by decide +kernel
theorem dX6_read_32 : decode cX6_read 32 = .ok (.iload 4, 2) := by decide +kernel
theorem dX6_read_34 : decode cX6_read 34 = .ok (.caload, 1) := by decide +kernel
theorem dX6_read_35 : decode cX6_read 35 = .ok (.aload_n 3, 1) := by decide +kernel
theorem dX6_read_36 : decode cX6_read 36 = .ok (.invokevirtual 27, 3) := by decide +kernel
theorem dX6_read_39 : decode cX6_read 39 = .ok (.ifCond .ne 6, 3) := by decide +kernel
theorem dX6_read_42 : decode cX6_read 42 = .ok (.iload 4, 2) := by decide +kernel
theorem dX6_read_44 : decode cX6_read 44 = .ok (.ireturn, 1) := by decide +kernel
theorem dX6_read_45 : decode cX6_read 45 = .ok (.iinc 4 1, 3) := by decide +kernel
theorem dX6_read_48 : decode cX6_read 48 = .ok (.goto (-31), 3) := by decide +kernel
theorem dX6_read_51 : decode cX6_read 51 = .ok (.aload_n 0, 1) := by decide +kernel
theorem dX6_read_52 : decode cX6_read 52 = .ok (.getfield 24, 3) := by decide +kernel
theorem dX6_read_55 : decode cX6_read 55 = .ok (.ifCond .ne 23, 3) := by decide +kernel
theorem dX6_read_58 : decode cX6_read 58 = .ok (.aload_n 0, 1) := by decide +kernel
theorem dX6_read_59 : decode cX6_read 59 = .ok (.getfield 20, 3) := by decide +kernel
theorem dX6_read_62 : decode cX6_read 62 = .ok (.ifCond .eq 12, 3) := by decide +kernel
theorem dX6_read_65 : decode cX6_read 65 = .ok (.aload_n 0, 1) := by decide +kernel
theorem dX6_read_66 : decode cX6_read 66 = .ok (.getfield 20, 3) := by decide +kernel
theorem dX6_read_69 : decode cX6_read 69 = .ok (.bipush 6, 2) := by decide +kernel
theorem dX6_read_71 : decode cX6_read 71 = .ok (.if_icmp .ne 7, 3) := by decide +kernel
theorem dX6_read_74 : decode cX6_read 74 = .ok (.iconst 1, 1) := by decide +kernel
theorem dX6_read_75 : decode cX6_read 75 = .ok (.goto 4, 3) := by decide +kernel
theorem dX6_read_78 : decode cX6_read 78 = .ok (.iconst 0, 1) := by decide +kernel
theorem dX6_read_79 : decode cX6_read 79 = .ok (.istore 4, 2) := by decide +kernel
theorem dX6_read_81 : decode cX6_read 81 = .ok (.iload 4, 2) := by decide +kernel
theorem dX6_read_83 : decode cX6_read 83 = .ok (.ifCond .eq 8, 3) := by decide +kernel
theorem dX6_read_86 : decode cX6_read 86 = .ok (.bipush (-9), 2) := by decide +kernel
theorem dX6_read_88 : decode cX6_read 88 = .ok (.goto 4, 3) := by decide +kernel
theorem dX6_read_91 : decode cX6_read 91 = .ok (.iload_n 2, 1) := by decide +kernel
theorem dX6_read_92 : decode cX6_read 92 = .ok (.ireturn, 1) := by decide +kernel
theorem dX6_take_0 : decode cX6_take 0 = .ok (.aload_n 0, 1) := by decide +kernel
theorem dX6_take_1 : decode cX6_take 1 = .ok (.getfield 20, 3) := by decide +kernel
theorem dX6_take_4 : decode cX6_take 4 = .ok (.tableswitch 86 0 5 #[40, 47, 66, 54, 60, 76], 40) := by decide +kernel
theorem dX6_take_44 : decode cX6_take 44 = .ok (.aload_n 0, 1) := by decide +kernel
theorem dX6_take_45 : decode cX6_take 45 = .ok (.iload_n 1, 1) := by decide +kernel
theorem dX6_take_46 : decode cX6_take 46 = .ok (.aload_n 2, 1) := by decide +kernel
theorem dX6_take_47 : decode cX6_take 47 = .ok (.invokevirtual 31, 3) := by decide +kernel
theorem dX6_take_50 : decode cX6_take 50 = .ok (.ireturn, 1) := by decide +kernel
theorem dX6_take_51 : decode cX6_take 51 = .ok (.aload_n 0, 1) := by decide +kernel
theorem dX6_take_52 : decode cX6_take 52 = .ok (.iload_n 1, 1) := by decide +kernel
theorem dX6_take_53 : decode cX6_take 53 = .ok (.aload_n 2, 1) := by decide +kernel
theorem dX6_take_54 : decode cX6_take 54 = .ok (.invokevirtual 34, 3) := by decide +kernel
theorem dX6_take_57 : decode cX6_take 57 = .ok (.ireturn, 1) := by decide +kernel
theorem dX6_take_58 : decode cX6_take 58 = .ok (.aload_n 0, 1) := by decide +kernel
theorem dX6_take_59 : decode cX6_take 59 = .ok (.iload_n 1, 1) := by decide +kernel
theorem dX6_take_60 : decode cX6_take 60 = .ok (.invokevirtual 37, 3) := by decide +kernel
theorem dX6_take_63 : decode cX6_take 63 = .ok (.ireturn, 1) := by decide +kernel
theorem dX6_take_64 : decode cX6_take 64 = .ok (.aload_n 0, 1) := by decide +kernel
theorem dX6_take_65 : decode cX6_take 65 = .ok (.iload_n 1, 1) := by decide +kernel
theorem dX6_take_66 : decode cX6_take 66 = .ok (.invokevirtual 41, 3) := by decide +kernel
theorem dX6_take_69 : decode cX6_take 69 = .ok (.ireturn, 1) := by decide +kernel
theorem dX6_take_70 : decode cX6_take 70 = .ok (.aload_n 0, 1) := by decide +kernel
theorem dX6_take_71 : decode cX6_take 71 = .ok (.iload_n 1, 1) := by decide +kernel
theorem dX6_take_72 : decode cX6_take 72 = .ok (.invokestatic 44, 3) := by decide +kernel
theorem dX6_take_75 : decode cX6_take 75 = .ok (.aload_n 2, 1) := by decide +kernel
theorem dX6_take_76 : decode cX6_take 76 = .ok (.invokevirtual 48, 3) := by decide +kernel
theorem dX6_take_79 : decode cX6_take 79 = .ok (.ireturn, 1) := by decide +kernel
theorem dX6_take_80 : decode cX6_take 80 = .ok (.aload_n 0, 1) := by decide +kernel
theorem dX6_take_81 : decode cX6_take 81 = .ok (.iload_n 1, 1) := by decide +kernel
theorem dX6_take_82 : decode cX6_take 82 = .ok (.invokestatic 44, 3) := by decide +kernel
theorem dX6_take_85 : decode cX6_take 85 = .ok (.aload_n 2, 1) := by decide +kernel
theorem dX6_take_86 : decode cX6_take 86 = .ok (.invokevirtual 52, 3) := by decide +kernel
theorem dX6_take_89 : decode cX6_take 89 = .ok (.ireturn, 1) := by decide +kernel
theorem dX6_take_90 : decode cX6_take 90 = .ok (.iload_n 1, 1) := by decide +kernel
theorem dX6_take_91 : decode cX6_take 91 = .ok (.bipush 59, 2) := by decide +kernel
theorem dX6_take_93 : decode cX6_take 93 = .ok (.if_icmp .ne 15, 3) := by decide +kernel
theorem dX6_take_96 : decode cX6_take 96 = .ok (.aload_n 0, 1) := by decide +kernel
theorem dX6_take_97 : decode cX6_take 97 = .ok (.aload_n 2, 1) := by decide +kernel
theorem dX6_take_98 : decode cX6_take 98 = .ok (.invokevirtual 55, 3) := by decide +kernel
theorem dX6_take_101 : decode cX6_take 101 = .ok (.ifCond .eq 7, 3) := by decide +kernel
theorem dX6_take_104 : decode cX6_take 104 = .ok (.iconst 1, 1) := by decide +kernel
theorem dX6_take_105 : decode cX6_take 105 = .ok (.goto 4, 3) := by decide +kernel
theorem dX6_take_108 : decode cX6_take 108 = .ok (.iconst 0, 1) := by decide +kernel
theorem dX6_take_109 : decode cX6_take 109 = .ok (.ireturn, 1) := by decide +kernel
theorem dX6_isName_0 : decode cX6_isName 0 = .ok (.iload_n 0, 1) := by decide +kernel
theorem dX6_isName_1 : decode cX6_isName 1 = .ok (.bipush 97, 2) := by decide +kernel
theorem dX6_isName_3 : decode cX6_isName 3 = .ok (.if_icmp .lt 13, 3) := by decide +kernel
theorem dX6_isName_6 : decode cX6_isName 6 = .ok (.iload_n 0, 1) := by decide +kernel
theorem dX6_isName_7 : decode cX6_isName 7 = .ok (.bipush 99, 2) := by decide +kernel
theorem dX6_isName_9 : decode cX6_isName 9 = .ok (.if_icmp .gt 7, 3) := by decide +kernel
theorem dX6_isName_12 : decode cX6_isName 12 = .ok (.iconst 1, 1) := by decide +kernel
theorem dX6_isName_13 : decode cX6_isName 13 = .ok (.goto 4, 3) := by decide +kernel
theorem dX6_isName_16 : decode cX6_isName 16 = .ok (.iconst 0, 1) := by decide +kernel
theorem dX6_isName_17 : decode cX6_isName 17 = .ok (.ireturn, 1) := by decide +kernel
theorem dX6_term_0 : decode cX6_term 0 = .ok (.iload_n 0, 1) := by decide +kernel
theorem dX6_term_1 : decode cX6_term 1 = .ok (.invokestatic 59, 3) := by decide +kernel
theorem dX6_term_4 : decode cX6_term 4 = .ok (.ifCond .eq 11, 3) := by decide +kernel
theorem dX6_term_7 : decode cX6_term 7 = .ok (.bipush 6, 2) := by decide +kernel
theorem dX6_term_9 : decode cX6_term 9 = .ok (.iload_n 0, 1) := by decide +kernel
theorem dX6_term_10 : decode cX6_term 10 = .ok (.iadd, 1) := by decide +kernel
theorem dX6_term_11 : decode cX6_term 11 = .ok (.bipush 97, 2) := by decide +kernel
theorem dX6_term_13 : decode cX6_term 13 = .ok (.isub, 1) := by decide +kernel
theorem dX6_term_14 : decode cX6_term 14 = .ok (.ireturn, 1) := by decide +kernel
theorem dX6_term_15 : decode cX6_term 15 = .ok (.iload_n 0, 1) := by decide +kernel
theorem dX6_term_16 : decode cX6_term 16 = .ok (.bipush 48, 2) := by decide +kernel
theorem dX6_term_18 : decode cX6_term 18 = .ok (.if_icmp .lt 16, 3) := by decide +kernel
theorem dX6_term_21 : decode cX6_term 21 = .ok (.iload_n 0, 1) := by decide +kernel
theorem dX6_term_22 : decode cX6_term 22 = .ok (.bipush 53, 2) := by decide +kernel
theorem dX6_term_24 : decode cX6_term 24 = .ok (.if_icmp .gt 10, 3) := by decide +kernel
theorem dX6_term_27 : decode cX6_term 27 = .ok (.iload_n 0, 1) := by decide +kernel
theorem dX6_term_28 : decode cX6_term 28 = .ok (.bipush 48, 2) := by decide +kernel
theorem dX6_term_30 : decode cX6_term 30 = .ok (.isub, 1) := by decide +kernel
theorem dX6_term_31 : decode cX6_term 31 = .ok (.goto 4, 3) := by decide +kernel
theorem dX6_term_34 : decode cX6_term 34 = .ok (.iconst (-1), 1) := by decide +kernel
theorem dX6_term_35 : decode cX6_term 35 = .ok (.ireturn, 1) := by decide +kernel
theorem dX6_takeStatement_0 : decode cX6_takeStatement 0 = .ok (.iload_n 1, 1) := by decide +kernel
theorem dX6_takeStatement_1 : decode cX6_takeStatement 1 = .ok (.invokestatic 59, 3) := by decide +kernel
theorem dX6_takeStatement_4 : decode cX6_takeStatement 4 = .ok (.ifCond .eq 18, 3) := by decide +kernel
theorem dX6_takeStatement_7 : decode cX6_takeStatement 7 = .ok (.aload_n 0, 1) := by decide +kernel
theorem dX6_takeStatement_8 : decode cX6_takeStatement 8 = .ok (.iload_n 1, 1) := by decide +kernel
theorem dX6_takeStatement_9 : decode cX6_takeStatement 9 = .ok (.bipush 97, 2) := by decide +kernel
theorem dX6_takeStatement_11 : decode cX6_takeStatement 11 = .ok (.isub, 1) := by decide +kernel
theorem dX6_takeStatement_12 : decode cX6_takeStatement 12 = .ok (.putfield 62, 3) := by decide +kernel
theorem dX6_takeStatement_15 : decode cX6_takeStatement 15 = .ok (.aload_n 0, 1) := by decide +kernel
theorem dX6_takeStatement_16 : decode cX6_takeStatement 16 = .ok (.iconst 1, 1) := by decide +kernel
theorem dX6_takeStatement_17 : decode cX6_takeStatement 17 = .ok (.putfield 20, 3) := by decide +kernel
theorem dX6_takeStatement_20 : decode cX6_takeStatement 20 = .ok (.iconst 1, 1) := by decide +kernel
theorem dX6_takeStatement_21 : decode cX6_takeStatement 21 = .ok (.ireturn, 1) := by decide +kernel
theorem dX6_takeStatement_22 : decode cX6_takeStatement 22 = .ok (.iload_n 1, 1) := by decide +kernel
theorem dX6_takeStatement_23 : decode cX6_takeStatement 23 = .ok (.lookupswitch 193 #[(33, 79), (40, 101), (41, 124), (59, 172), (64, 73), (123, 130), (124, 152), (125, 162)], 73) := by decide +kernel
theorem dX6_takeStatement_96 : decode cX6_takeStatement 96 = .ok (.aload_n 0, 1) := by decide +kernel
theorem dX6_takeStatement_97 : decode cX6_takeStatement 97 = .ok (.iconst 4, 1) := by decide +kernel
theorem dX6_takeStatement_98 : decode cX6_takeStatement 98 = .ok (.invokevirtual 67, 3) := by decide +kernel
theorem dX6_takeStatement_101 : decode cX6_takeStatement 101 = .ok (.ireturn, 1) := by decide +kernel
theorem dX6_takeStatement_102 : decode cX6_takeStatement 102 = .ok (.aload_n 2, 1) := by decide +kernel
theorem dX6_takeStatement_103 : decode cX6_takeStatement 103 = .ok (.getfield 71, 3) := by decide +kernel
theorem dX6_takeStatement_106 : decode cX6_takeStatement 106 = .ok (.iconst 4, 1) := by decide +kernel
theorem dX6_takeStatement_107 : decode cX6_takeStatement 107 = .ok (.if_icmp .ge 15, 3) := by decide +kernel
theorem dX6_takeStatement_110 : decode cX6_takeStatement 110 = .ok (.aload_n 0, 1) := by decide +kernel
theorem dX6_takeStatement_111 : decode cX6_takeStatement 111 = .ok (.iconst 5, 1) := by decide +kernel
theorem dX6_takeStatement_112 : decode cX6_takeStatement 112 = .ok (.invokevirtual 67, 3) := by decide +kernel
theorem dX6_takeStatement_115 : decode cX6_takeStatement 115 = .ok (.ifCond .eq 7, 3) := by decide +kernel
theorem dX6_takeStatement_118 : decode cX6_takeStatement 118 = .ok (.iconst 1, 1) := by decide +kernel
theorem dX6_takeStatement_119 : decode cX6_takeStatement 119 = .ok (.goto 4, 3) := by decide +kernel
theorem dX6_takeStatement_122 : decode cX6_takeStatement 122 = .ok (.iconst 0, 1) := by decide +kernel
theorem dX6_takeStatement_123 : decode cX6_takeStatement 123 = .ok (.ireturn, 1) := by decide +kernel
theorem dX6_takeStatement_124 : decode cX6_takeStatement 124 = .ok (.aload_n 2, 1) := by decide +kernel
theorem dX6_takeStatement_125 : decode cX6_takeStatement 125 = .ok (.getfield 74, 3) := by decide +kernel
theorem dX6_takeStatement_128 : decode cX6_takeStatement 128 = .ok (.iconst 3, 1) := by decide +kernel
theorem dX6_takeStatement_129 : decode cX6_takeStatement 129 = .ok (.if_icmp .ge 16, 3) := by decide +kernel
theorem dX6_takeStatement_132 : decode cX6_takeStatement 132 = .ok (.aload_n 0, 1) := by decide +kernel
theorem dX6_takeStatement_133 : decode cX6_takeStatement 133 = .ok (.bipush 6, 2) := by decide +kernel
theorem dX6_takeStatement_135 : decode cX6_takeStatement 135 = .ok (.invokevirtual 67, 3) := by decide +kernel
theorem dX6_takeStatement_138 : decode cX6_takeStatement 138 = .ok (.ifCond .eq 7, 3) := by decide +kernel
theorem dX6_takeStatement_141 : decode cX6_takeStatement 141 = .ok (.iconst 1, 1) := by decide +kernel
theorem dX6_takeStatement_142 : decode cX6_takeStatement 142 = .ok (.goto 4, 3) := by decide +kernel
theorem dX6_takeStatement_145 : decode cX6_takeStatement 145 = .ok (.iconst 0, 1) := by decide +kernel
theorem dX6_takeStatement_146 : decode cX6_takeStatement 146 = .ok (.ireturn, 1) := by decide +kernel
theorem dX6_takeStatement_147 : decode cX6_takeStatement 147 = .ok (.aload_n 0, 1) := by decide +kernel
theorem dX6_takeStatement_148 : decode cX6_takeStatement 148 = .ok (.aload_n 2, 1) := by decide +kernel
theorem dX6_takeStatement_149 : decode cX6_takeStatement 149 = .ok (.invokevirtual 77, 3) := by decide +kernel
theorem dX6_takeStatement_152 : decode cX6_takeStatement 152 = .ok (.ireturn, 1) := by decide +kernel
theorem dX6_takeStatement_153 : decode cX6_takeStatement 153 = .ok (.aload_n 2, 1) := by decide +kernel
theorem dX6_takeStatement_154 : decode cX6_takeStatement 154 = .ok (.getfield 80, 3) := by decide +kernel
theorem dX6_takeStatement_157 : decode cX6_takeStatement 157 = .ok (.iconst 3, 1) := by decide +kernel
theorem dX6_takeStatement_158 : decode cX6_takeStatement 158 = .ok (.if_icmp .ge 15, 3) := by decide +kernel
theorem dX6_takeStatement_161 : decode cX6_takeStatement 161 = .ok (.aload_n 0, 1) := by decide +kernel
theorem dX6_takeStatement_162 : decode cX6_takeStatement 162 = .ok (.aload_n 2, 1) := by decide +kernel
theorem dX6_takeStatement_163 : decode cX6_takeStatement 163 = .ok (.invokevirtual 83, 3) := by decide +kernel
theorem dX6_takeStatement_166 : decode cX6_takeStatement 166 = .ok (.ifCond .eq 7, 3) := by decide +kernel
theorem dX6_takeStatement_169 : decode cX6_takeStatement 169 = .ok (.iconst 1, 1) := by decide +kernel
theorem dX6_takeStatement_170 : decode cX6_takeStatement 170 = .ok (.goto 4, 3) := by decide +kernel
theorem dX6_takeStatement_173 : decode cX6_takeStatement 173 = .ok (.iconst 0, 1) := by decide +kernel
theorem dX6_takeStatement_174 : decode cX6_takeStatement 174 = .ok (.ireturn, 1) := by decide +kernel
theorem dX6_takeStatement_175 : decode cX6_takeStatement 175 = .ok (.aload_n 0, 1) := by decide +kernel
theorem dX6_takeStatement_176 : decode cX6_takeStatement 176 = .ok (.bipush 8, 2) := by decide +kernel
theorem dX6_takeStatement_178 : decode cX6_takeStatement 178 = .ok (.bipush 9, 2) := by decide +kernel
theorem dX6_takeStatement_180 : decode cX6_takeStatement 180 = .ok (.aload_n 2, 1) := by decide +kernel
theorem dX6_takeStatement_181 : decode cX6_takeStatement 181 = .ok (.invokevirtual 86, 3) := by decide +kernel
theorem dX6_takeStatement_184 : decode cX6_takeStatement 184 = .ok (.ireturn, 1) := by decide +kernel
theorem dX6_takeStatement_185 : decode cX6_takeStatement 185 = .ok (.aload_n 0, 1) := by decide +kernel
theorem dX6_takeStatement_186 : decode cX6_takeStatement 186 = .ok (.bipush 9, 2) := by decide +kernel
theorem dX6_takeStatement_188 : decode cX6_takeStatement 188 = .ok (.bipush 10, 2) := by decide +kernel
theorem dX6_takeStatement_190 : decode cX6_takeStatement 190 = .ok (.aload_n 2, 1) := by decide +kernel
theorem dX6_takeStatement_191 : decode cX6_takeStatement 191 = .ok (.invokevirtual 86, 3) := by decide +kernel
theorem dX6_takeStatement_194 : decode cX6_takeStatement 194 = .ok (.ireturn, 1) := by decide +kernel
theorem dX6_takeStatement_195 : decode cX6_takeStatement 195 = .ok (.aload_n 0, 1) := by decide +kernel
theorem dX6_takeStatement_196 : decode cX6_takeStatement 196 = .ok (.getfield 24, 3) := by decide +kernel
theorem dX6_takeStatement_199 : decode cX6_takeStatement 199 = .ok (.ifCond .ne 15, 3) := by decide +kernel
theorem dX6_takeStatement_202 : decode cX6_takeStatement 202 = .ok (.aload_n 0, 1) := by decide +kernel
theorem dX6_takeStatement_203 : decode cX6_takeStatement 203 = .ok (.aload_n 2, 1) := by decide +kernel
theorem dX6_takeStatement_204 : decode cX6_takeStatement 204 = .ok (.invokevirtual 55, 3) := by decide +kernel
theorem dX6_takeStatement_207 : decode cX6_takeStatement 207 = .ok (.ifCond .eq 7, 3) := by decide +kernel
theorem dX6_takeStatement_210 : decode cX6_takeStatement 210 = .ok (.iconst 1, 1) := by decide +kernel
theorem dX6_takeStatement_211 : decode cX6_takeStatement 211 = .ok (.goto 4, 3) := by decide +kernel
theorem dX6_takeStatement_214 : decode cX6_takeStatement 214 = .ok (.iconst 0, 1) := by decide +kernel
theorem dX6_takeStatement_215 : decode cX6_takeStatement 215 = .ok (.ireturn, 1) := by decide +kernel
theorem dX6_takeStatement_216 : decode cX6_takeStatement 216 = .ok (.iconst 0, 1) := by decide +kernel
theorem dX6_takeStatement_217 : decode cX6_takeStatement 217 = .ok (.ireturn, 1) := by decide +kernel
theorem dX6_beginGuess_0 : decode cX6_beginGuess 0 = .ok (.aload_n 1, 1) := by decide +kernel
theorem dX6_beginGuess_1 : decode cX6_beginGuess 1 = .ok (.getfield 90, 3) := by decide +kernel
theorem dX6_beginGuess_4 : decode cX6_beginGuess 4 = .ok (.iconst 5, 1) := by decide +kernel
theorem dX6_beginGuess_5 : decode cX6_beginGuess 5 = .ok (.if_icmp .ge 15, 3) := by decide +kernel
theorem dX6_beginGuess_8 : decode cX6_beginGuess 8 = .ok (.aload_n 0, 1) := by decide +kernel
theorem dX6_beginGuess_9 : decode cX6_beginGuess 9 = .ok (.iconst (-1), 1) := by decide +kernel
theorem dX6_beginGuess_10 : decode cX6_beginGuess 10 = .ok (.invokevirtual 67, 3) := by decide +kernel
theorem dX6_beginGuess_13 : decode cX6_beginGuess 13 = .ok (.ifCond .eq 7, 3) := by decide +kernel
theorem dX6_beginGuess_16 : decode cX6_beginGuess 16 = .ok (.iconst 1, 1) := by decide +kernel
theorem dX6_beginGuess_17 : decode cX6_beginGuess 17 = .ok (.goto 4, 3) := by decide +kernel
theorem dX6_beginGuess_20 : decode cX6_beginGuess 20 = .ok (.iconst 0, 1) := by decide +kernel
theorem dX6_beginGuess_21 : decode cX6_beginGuess 21 = .ok (.ireturn, 1) := by decide +kernel
theorem dX6_expectCondition_0 : decode cX6_expectCondition 0 = .ok (.aload_n 0, 1) := by decide +kernel
theorem dX6_expectCondition_1 : decode cX6_expectCondition 1 = .ok (.iload_n 1, 1) := by decide +kernel
theorem dX6_expectCondition_2 : decode cX6_expectCondition 2 = .ok (.putfield 93, 3) := by decide +kernel
theorem dX6_expectCondition_5 : decode cX6_expectCondition 5 = .ok (.aload_n 0, 1) := by decide +kernel
theorem dX6_expectCondition_6 : decode cX6_expectCondition 6 = .ok (.iconst 3, 1) := by decide +kernel
theorem dX6_expectCondition_7 : decode cX6_expectCondition 7 = .ok (.putfield 20, 3) := by decide +kernel
theorem dX6_expectCondition_10 : decode cX6_expectCondition 10 = .ok (.iconst 1, 1) := by decide +kernel
theorem dX6_expectCondition_11 : decode cX6_expectCondition 11 = .ok (.ireturn, 1) := by decide +kernel
theorem dX6_takeOperation_0 : decode cX6_takeOperation 0 = .ok (.iload_n 1, 1) := by decide +kernel
theorem dX6_takeOperation_1 : decode cX6_takeOperation 1 = .ok (.lookupswitch 71 #[(43, 50), (45, 57), (61, 43), (63, 64)], 43) := by decide +kernel
theorem dX6_takeOperation_44 : decode cX6_takeOperation 44 = .ok (.aload_n 0, 1) := by decide +kernel
theorem dX6_takeOperation_45 : decode cX6_takeOperation 45 = .ok (.iconst 2, 1) := by decide +kernel
theorem dX6_takeOperation_46 : decode cX6_takeOperation 46 = .ok (.putfield 20, 3) := by decide +kernel
theorem dX6_takeOperation_49 : decode cX6_takeOperation 49 = .ok (.iconst 1, 1) := by decide +kernel
theorem dX6_takeOperation_50 : decode cX6_takeOperation 50 = .ok (.ireturn, 1) := by decide +kernel
theorem dX6_takeOperation_51 : decode cX6_takeOperation 51 = .ok (.aload_n 0, 1) := by decide +kernel
theorem dX6_takeOperation_52 : decode cX6_takeOperation 52 = .ok (.iconst 1, 1) := by decide +kernel
theorem dX6_takeOperation_53 : decode cX6_takeOperation 53 = .ok (.aload_n 2, 1) := by decide +kernel
theorem dX6_takeOperation_54 : decode cX6_takeOperation 54 = .ok (.invokevirtual 96, 3) := by decide +kernel
theorem dX6_takeOperation_57 : decode cX6_takeOperation 57 = .ok (.ireturn, 1) := by decide +kernel
theorem dX6_takeOperation_58 : decode cX6_takeOperation 58 = .ok (.aload_n 0, 1) := by decide +kernel
theorem dX6_takeOperation_59 : decode cX6_takeOperation 59 = .ok (.iconst 2, 1) := by decide +kernel
theorem dX6_takeOperation_60 : decode cX6_takeOperation 60 = .ok (.aload_n 2, 1) := by decide +kernel
theorem dX6_takeOperation_61 : decode cX6_takeOperation 61 = .ok (.invokevirtual 96, 3) := by decide +kernel
theorem dX6_takeOperation_64 : decode cX6_takeOperation 64 = .ok (.ireturn, 1) := by decide +kernel
theorem dX6_takeOperation_65 : decode cX6_takeOperation 65 = .ok (.aload_n 0, 1) := by decide +kernel
theorem dX6_takeOperation_66 : decode cX6_takeOperation 66 = .ok (.iconst 3, 1) := by decide +kernel
theorem dX6_takeOperation_67 : decode cX6_takeOperation 67 = .ok (.aload_n 2, 1) := by decide +kernel
theorem dX6_takeOperation_68 : decode cX6_takeOperation 68 = .ok (.invokevirtual 96, 3) := by decide +kernel
theorem dX6_takeOperation_71 : decode cX6_takeOperation 71 = .ok (.ireturn, 1) := by decide +kernel
theorem dX6_takeOperation_72 : decode cX6_takeOperation 72 = .ok (.iconst 0, 1) := by decide +kernel
theorem dX6_takeOperation_73 : decode cX6_takeOperation 73 = .ok (.ireturn, 1) := by decide +kernel
theorem dX6_appendChange_0 : decode cX6_appendChange 0 = .ok (.aload_n 2, 1) := by decide +kernel
theorem dX6_appendChange_1 : decode cX6_appendChange 1 = .ok (.iload_n 1, 1) := by decide +kernel
theorem dX6_appendChange_2 : decode cX6_appendChange 2 = .ok (.invokevirtual 99, 3) := by decide +kernel
theorem dX6_appendChange_5 : decode cX6_appendChange 5 = .ok (.aload_n 0, 1) := by decide +kernel
theorem dX6_appendChange_6 : decode cX6_appendChange 6 = .ok (.getfield 62, 3) := by decide +kernel
theorem dX6_appendChange_9 : decode cX6_appendChange 9 = .ok (.putfield 103, 3) := by decide +kernel
theorem dX6_appendChange_12 : decode cX6_appendChange 12 = .ok (.aload_n 0, 1) := by decide +kernel
theorem dX6_appendChange_13 : decode cX6_appendChange 13 = .ok (.iconst 0, 1) := by decide +kernel
theorem dX6_appendChange_14 : decode cX6_appendChange 14 = .ok (.putfield 20, 3) := by decide +kernel
theorem dX6_appendChange_17 : decode cX6_appendChange 17 = .ok (.iconst 1, 1) := by decide +kernel
theorem dX6_appendChange_18 : decode cX6_appendChange 18 = .ok (.ireturn, 1) := by decide +kernel
theorem dX6_takeNewValue_0 : decode cX6_takeNewValue 0 = .ok (.iload_n 1, 1) := by decide +kernel
theorem dX6_takeNewValue_1 : decode cX6_takeNewValue 1 = .ok (.ifCond .ge 5, 3) := by decide +kernel
theorem dX6_takeNewValue_4 : decode cX6_takeNewValue 4 = .ok (.iconst 0, 1) := by decide +kernel
theorem dX6_takeNewValue_5 : decode cX6_takeNewValue 5 = .ok (.ireturn, 1) := by decide +kernel
theorem dX6_takeNewValue_6 : decode cX6_takeNewValue 6 = .ok (.iload_n 1, 1) := by decide +kernel
theorem dX6_takeNewValue_7 : decode cX6_takeNewValue 7 = .ok (.bipush 6, 2) := by decide +kernel
theorem dX6_takeNewValue_9 : decode cX6_takeNewValue 9 = .ok (.aload_n 0, 1) := by decide +kernel
theorem dX6_takeNewValue_10 : decode cX6_takeNewValue 10 = .ok (.getfield 62, 3) := by decide +kernel
theorem dX6_takeNewValue_13 : decode cX6_takeNewValue 13 = .ok (.iadd, 1) := by decide +kernel
theorem dX6_takeNewValue_14 : decode cX6_takeNewValue 14 = .ok (.if_icmp .ne 7, 3) := by decide +kernel
theorem dX6_takeNewValue_17 : decode cX6_takeNewValue 17 = .ok (.iconst 1, 1) := by decide +kernel
theorem dX6_takeNewValue_18 : decode cX6_takeNewValue 18 = .ok (.goto 4, 3) := by decide +kernel
theorem dX6_takeNewValue_21 : decode cX6_takeNewValue 21 = .ok (.iconst 0, 1) := by decide +kernel
theorem dX6_takeNewValue_22 : decode cX6_takeNewValue 22 = .ok (.istore_n 3, 1) := by decide +kernel
theorem dX6_takeNewValue_23 : decode cX6_takeNewValue 23 = .ok (.aload_n 2, 1) := by decide +kernel
theorem dX6_takeNewValue_24 : decode cX6_takeNewValue 24 = .ok (.iload_n 3, 1) := by decide +kernel
theorem dX6_takeNewValue_25 : decode cX6_takeNewValue 25 = .ok (.ifCond .eq 7, 3) := by decide +kernel
theorem dX6_takeNewValue_28 : decode cX6_takeNewValue 28 = .ok (.iconst 4, 1) := by decide +kernel
theorem dX6_takeNewValue_29 : decode cX6_takeNewValue 29 = .ok (.goto 4, 3) := by decide +kernel
theorem dX6_takeNewValue_32 : decode cX6_takeNewValue 32 = .ok (.iconst 0, 1) := by decide +kernel
theorem dX6_takeNewValue_33 : decode cX6_takeNewValue 33 = .ok (.invokevirtual 99, 3) := by decide +kernel
theorem dX6_takeNewValue_36 : decode cX6_takeNewValue 36 = .ok (.astore 4, 2) := by decide +kernel
theorem dX6_takeNewValue_38 : decode cX6_takeNewValue 38 = .ok (.aload 4, 2) := by decide +kernel
theorem dX6_takeNewValue_40 : decode cX6_takeNewValue 40 = .ok (.aload_n 0, 1) := by decide +kernel
theorem dX6_takeNewValue_41 : decode cX6_takeNewValue 41 = .ok (.getfield 62, 3) := by decide +kernel
theorem dX6_takeNewValue_44 : decode cX6_takeNewValue 44 = .ok (.putfield 103, 3) := by decide +kernel
theorem dX6_takeNewValue_47 : decode cX6_takeNewValue 47 = .ok (.aload 4, 2) := by decide +kernel
theorem dX6_takeNewValue_49 : decode cX6_takeNewValue 49 = .ok (.aload_n 2, 1) := by decide +kernel
theorem dX6_takeNewValue_50 : decode cX6_takeNewValue 50 = .ok (.aload_n 0, 1) := by decide +kernel
theorem dX6_takeNewValue_51 : decode cX6_takeNewValue 51 = .ok (.getfield 62, 3) := by decide +kernel
theorem dX6_takeNewValue_54 : decode cX6_takeNewValue 54 = .ok (.bipush 61, 2) := by decide +kernel
theorem dX6_takeNewValue_56 : decode cX6_takeNewValue 56 = .ok (.iload_n 1, 1) := by decide +kernel
theorem dX6_takeNewValue_57 : decode cX6_takeNewValue 57 = .ok (.invokevirtual 104, 3) := by decide +kernel
theorem dX6_takeNewValue_60 : decode cX6_takeNewValue 60 = .ok (.putfield 108, 3) := by decide +kernel
theorem dX6_takeNewValue_63 : decode cX6_takeNewValue 63 = .ok (.aload_n 0, 1) := by decide +kernel
theorem dX6_takeNewValue_64 : decode cX6_takeNewValue 64 = .ok (.iconst 0, 1) := by decide +kernel
theorem dX6_takeNewValue_65 : decode cX6_takeNewValue 65 = .ok (.putfield 20, 3) := by decide +kernel
theorem dX6_takeNewValue_68 : decode cX6_takeNewValue 68 = .ok (.iconst 1, 1) := by decide +kernel
theorem dX6_takeNewValue_69 : decode cX6_takeNewValue 69 = .ok (.ireturn, 1) := by decide +kernel
theorem dX6_takeLeft_0 : decode cX6_takeLeft 0 = .ok (.iload_n 1, 1) := by decide +kernel
theorem dX6_takeLeft_1 : decode cX6_takeLeft 1 = .ok (.invokestatic 59, 3) := by decide +kernel
theorem dX6_takeLeft_4 : decode cX6_takeLeft 4 = .ok (.ifCond .ne 5, 3) := by decide +kernel
theorem dX6_takeLeft_7 : decode cX6_takeLeft 7 = .ok (.iconst 0, 1) := by decide +kernel
theorem dX6_takeLeft_8 : decode cX6_takeLeft 8 = .ok (.ireturn, 1) := by decide +kernel
theorem dX6_takeLeft_9 : decode cX6_takeLeft 9 = .ok (.aload_n 0, 1) := by decide +kernel
theorem dX6_takeLeft_10 : decode cX6_takeLeft 10 = .ok (.iload_n 1, 1) := by decide +kernel
theorem dX6_takeLeft_11 : decode cX6_takeLeft 11 = .ok (.bipush 97, 2) := by decide +kernel
theorem dX6_takeLeft_13 : decode cX6_takeLeft 13 = .ok (.isub, 1) := by decide +kernel
theorem dX6_takeLeft_14 : decode cX6_takeLeft 14 = .ok (.putfield 62, 3) := by decide +kernel
theorem dX6_takeLeft_17 : decode cX6_takeLeft 17 = .ok (.aload_n 0, 1) := by decide +kernel
theorem dX6_takeLeft_18 : decode cX6_takeLeft 18 = .ok (.iconst 4, 1) := by decide +kernel
theorem dX6_takeLeft_19 : decode cX6_takeLeft 19 = .ok (.putfield 20, 3) := by decide +kernel
theorem dX6_takeLeft_22 : decode cX6_takeLeft 22 = .ok (.iconst 1, 1) := by decide +kernel
theorem dX6_takeLeft_23 : decode cX6_takeLeft 23 = .ok (.ireturn, 1) := by decide +kernel
theorem dX6_takeSign_0 : decode cX6_takeSign 0 = .ok (.iload_n 1, 1) := by decide +kernel
theorem dX6_takeSign_1 : decode cX6_takeSign 1 = .ok (.bipush 60, 2) := by decide +kernel
theorem dX6_takeSign_3 : decode cX6_takeSign 3 = .ok (.if_icmp .eq 23, 3) := by decide +kernel
theorem dX6_takeSign_6 : decode cX6_takeSign 6 = .ok (.iload_n 1, 1) := by decide +kernel
theorem dX6_takeSign_7 : decode cX6_takeSign 7 = .ok (.bipush 61, 2) := by decide +kernel
theorem dX6_takeSign_9 : decode cX6_takeSign 9 = .ok (.if_icmp .eq 17, 3) := by decide +kernel
theorem dX6_takeSign_12 : decode cX6_takeSign 12 = .ok (.iload_n 1, 1) := by decide +kernel
theorem dX6_takeSign_13 : decode cX6_takeSign 13 = .ok (.bipush 62, 2) := by decide +kernel
theorem dX6_takeSign_15 : decode cX6_takeSign 15 = .ok (.if_icmp .eq 11, 3) := by decide +kernel
theorem dX6_takeSign_18 : decode cX6_takeSign 18 = .ok (.iload_n 1, 1) := by decide +kernel
theorem dX6_takeSign_19 : decode cX6_takeSign 19 = .ok (.bipush 35, 2) := by decide +kernel
theorem dX6_takeSign_21 : decode cX6_takeSign 21 = .ok (.if_icmp .eq 5, 3) := by decide +kernel
theorem dX6_takeSign_24 : decode cX6_takeSign 24 = .ok (.iconst 0, 1) := by decide +kernel
theorem dX6_takeSign_25 : decode cX6_takeSign 25 = .ok (.ireturn, 1) := by decide +kernel
theorem dX6_takeSign_26 : decode cX6_takeSign 26 = .ok (.aload_n 0, 1) := by decide +kernel
theorem dX6_takeSign_27 : decode cX6_takeSign 27 = .ok (.iload_n 1, 1) := by decide +kernel
theorem dX6_takeSign_28 : decode cX6_takeSign 28 = .ok (.putfield 112, 3) := by decide +kernel
theorem dX6_takeSign_31 : decode cX6_takeSign 31 = .ok (.aload_n 0, 1) := by decide +kernel
theorem dX6_takeSign_32 : decode cX6_takeSign 32 = .ok (.iconst 5, 1) := by decide +kernel
theorem dX6_takeSign_33 : decode cX6_takeSign 33 = .ok (.putfield 20, 3) := by decide +kernel
theorem dX6_takeSign_36 : decode cX6_takeSign 36 = .ok (.iconst 1, 1) := by decide +kernel
theorem dX6_takeSign_37 : decode cX6_takeSign 37 = .ok (.ireturn, 1) := by decide +kernel
theorem dX6_takeRight_0 : decode cX6_takeRight 0 = .ok (.iload_n 1, 1) := by decide +kernel
theorem dX6_takeRight_1 : decode cX6_takeRight 1 = .ok (.ifCond .ge 5, 3) := by decide +kernel
theorem dX6_takeRight_4 : decode cX6_takeRight 4 = .ok (.iconst 0, 1) := by decide +kernel
theorem dX6_takeRight_5 : decode cX6_takeRight 5 = .ok (.ireturn, 1) := by decide +kernel
theorem dX6_takeRight_6 : decode cX6_takeRight 6 = .ok (.aload_n 2, 1) := by decide +kernel
theorem dX6_takeRight_7 : decode cX6_takeRight 7 = .ok (.aload_n 0, 1) := by decide +kernel
theorem dX6_takeRight_8 : decode cX6_takeRight 8 = .ok (.getfield 62, 3) := by decide +kernel
theorem dX6_takeRight_11 : decode cX6_takeRight 11 = .ok (.aload_n 0, 1) := by decide +kernel
theorem dX6_takeRight_12 : decode cX6_takeRight 12 = .ok (.getfield 112, 3) := by decide +kernel
theorem dX6_takeRight_15 : decode cX6_takeRight 15 = .ok (.iload_n 1, 1) := by decide +kernel
theorem dX6_takeRight_16 : decode cX6_takeRight 16 = .ok (.invokevirtual 104, 3) := by decide +kernel
theorem dX6_takeRight_19 : decode cX6_takeRight 19 = .ok (.astore_n 3, 1) := by decide +kernel
theorem dX6_takeRight_20 : decode cX6_takeRight 20 = .ok (.aload_n 0, 1) := by decide +kernel
theorem dX6_takeRight_21 : decode cX6_takeRight 21 = .ok (.iconst 0, 1) := by decide +kernel
theorem dX6_takeRight_22 : decode cX6_takeRight 22 = .ok (.putfield 20, 3) := by decide +kernel
theorem dX6_takeRight_25 : decode cX6_takeRight 25 = .ok (.aload_n 0, 1) := by decide +kernel
theorem dX6_takeRight_26 : decode cX6_takeRight 26 = .ok (.getfield 93, 3) := by decide +kernel
theorem dX6_takeRight_29 : decode cX6_takeRight 29 = .ok (.tableswitch 56 4 6 #[27, 39, 47], 27) := by decide +kernel
theorem dX6_takeRight_56 : decode cX6_takeRight 56 = .ok (.aload_n 2, 1) := by decide +kernel
theorem dX6_takeRight_57 : decode cX6_takeRight 57 = .ok (.iconst 4, 1) := by decide +kernel
theorem dX6_takeRight_58 : decode cX6_takeRight 58 = .ok (.invokevirtual 99, 3) := by decide +kernel
theorem dX6_takeRight_61 : decode cX6_takeRight 61 = .ok (.aload_n 3, 1) := by decide +kernel
theorem dX6_takeRight_62 : decode cX6_takeRight 62 = .ok (.putfield 108, 3) := by decide +kernel
theorem dX6_takeRight_65 : decode cX6_takeRight 65 = .ok (.goto 31, 3) := by decide +kernel
theorem dX6_takeRight_68 : decode cX6_takeRight 68 = .ok (.aload_n 2, 1) := by decide +kernel
theorem dX6_takeRight_69 : decode cX6_takeRight 69 = .ok (.aload_n 3, 1) := by decide +kernel
theorem dX6_takeRight_70 : decode cX6_takeRight 70 = .ok (.invokevirtual 115, 3) := by decide +kernel
theorem dX6_takeRight_73 : decode cX6_takeRight 73 = .ok (.goto 23, 3) := by decide +kernel
theorem dX6_takeRight_76 : decode cX6_takeRight 76 = .ok (.aload_n 0, 1) := by decide +kernel
theorem dX6_takeRight_77 : decode cX6_takeRight 77 = .ok (.aload_n 3, 1) := by decide +kernel
theorem dX6_takeRight_78 : decode cX6_takeRight 78 = .ok (.aload_n 2, 1) := by decide +kernel
theorem dX6_takeRight_79 : decode cX6_takeRight 79 = .ok (.invokevirtual 119, 3) := by decide +kernel
theorem dX6_takeRight_82 : decode cX6_takeRight 82 = .ok (.goto 14, 3) := by decide +kernel
theorem dX6_takeRight_85 : decode cX6_takeRight 85 = .ok (.aload_n 2, 1) := by decide +kernel
theorem dX6_takeRight_86 : decode cX6_takeRight 86 = .ok (.aload_n 3, 1) := by decide +kernel
theorem dX6_takeRight_87 : decode cX6_takeRight 87 = .ok (.invokevirtual 123, 3) := by decide +kernel
theorem dX6_takeRight_90 : decode cX6_takeRight 90 = .ok (.aload_n 0, 1) := by decide +kernel
theorem dX6_takeRight_91 : decode cX6_takeRight 91 = .ok (.bipush 6, 2) := by decide +kernel
theorem dX6_takeRight_93 : decode cX6_takeRight 93 = .ok (.putfield 20, 3) := by decide +kernel
theorem dX6_takeRight_96 : decode cX6_takeRight 96 = .ok (.iconst 1, 1) := by decide +kernel
theorem dX6_takeRight_97 : decode cX6_takeRight 97 = .ok (.ireturn, 1) := by decide +kernel
theorem dX6_openLoop_0 : decode cX6_openLoop 0 = .ok (.aload_n 0, 1) := by decide +kernel
theorem dX6_openLoop_1 : decode cX6_openLoop 1 = .ok (.aload_n 2, 1) := by decide +kernel
theorem dX6_openLoop_2 : decode cX6_openLoop 2 = .ok (.getfield 126, 3) := by decide +kernel
theorem dX6_openLoop_5 : decode cX6_openLoop 5 = .ok (.invokevirtual 129, 3) := by decide +kernel
theorem dX6_openLoop_8 : decode cX6_openLoop 8 = .ok (.aload_n 2, 1) := by decide +kernel
theorem dX6_openLoop_9 : decode cX6_openLoop 9 = .ok (.bipush 6, 2) := by decide +kernel
theorem dX6_openLoop_11 : decode cX6_openLoop 11 = .ok (.invokevirtual 99, 3) := by decide +kernel
theorem dX6_openLoop_14 : decode cX6_openLoop 14 = .ok (.astore_n 3, 1) := by decide +kernel
theorem dX6_openLoop_15 : decode cX6_openLoop 15 = .ok (.aload_n 3, 1) := by decide +kernel
theorem dX6_openLoop_16 : decode cX6_openLoop 16 = .ok (.aload_n 1, 1) := by decide +kernel
theorem dX6_openLoop_17 : decode cX6_openLoop 17 = .ok (.putfield 108, 3) := by decide +kernel
theorem dX6_openLoop_20 : decode cX6_openLoop 20 = .ok (.aload_n 3, 1) := by decide +kernel
theorem dX6_openLoop_21 : decode cX6_openLoop 21 = .ok (.aload_n 2, 1) := by decide +kernel
theorem dX6_openLoop_22 : decode cX6_openLoop 22 = .ok (.getfield 74, 3) := by decide +kernel
theorem dX6_openLoop_25 : decode cX6_openLoop 25 = .ok (.putfield 133, 3) := by decide +kernel
theorem dX6_openLoop_28 : decode cX6_openLoop 28 = .ok (.aload_n 2, 1) := by decide +kernel
theorem dX6_openLoop_29 : decode cX6_openLoop 29 = .ok (.dup, 1) := by decide +kernel
theorem dX6_openLoop_30 : decode cX6_openLoop 30 = .ok (.getfield 74, 3) := by decide +kernel
theorem dX6_openLoop_33 : decode cX6_openLoop 33 = .ok (.iconst 1, 1) := by decide +kernel
theorem dX6_openLoop_34 : decode cX6_openLoop 34 = .ok (.iadd, 1) := by decide +kernel
theorem dX6_openLoop_35 : decode cX6_openLoop 35 = .ok (.putfield 74, 3) := by decide +kernel
theorem dX6_openLoop_38 : decode cX6_openLoop 38 = .ok (.return_, 1) := by decide +kernel
theorem dX6_openChoice_0 : decode cX6_openChoice 0 = .ok (.aload_n 0, 1) := by decide +kernel
theorem dX6_openChoice_1 : decode cX6_openChoice 1 = .ok (.aload_n 1, 1) := by decide +kernel
theorem dX6_openChoice_2 : decode cX6_openChoice 2 = .ok (.getfield 126, 3) := by decide +kernel
theorem dX6_openChoice_5 : decode cX6_openChoice 5 = .ok (.invokevirtual 129, 3) := by decide +kernel
theorem dX6_openChoice_8 : decode cX6_openChoice 8 = .ok (.aload_n 1, 1) := by decide +kernel
theorem dX6_openChoice_9 : decode cX6_openChoice 9 = .ok (.bipush 8, 2) := by decide +kernel
theorem dX6_openChoice_11 : decode cX6_openChoice 11 = .ok (.invokevirtual 99, 3) := by decide +kernel
theorem dX6_openChoice_14 : decode cX6_openChoice 14 = .ok (.aload_n 1, 1) := by decide +kernel
theorem dX6_openChoice_15 : decode cX6_openChoice 15 = .ok (.getfield 80, 3) := by decide +kernel
theorem dX6_openChoice_18 : decode cX6_openChoice 18 = .ok (.putfield 133, 3) := by decide +kernel
theorem dX6_openChoice_21 : decode cX6_openChoice 21 = .ok (.aload_n 1, 1) := by decide +kernel
theorem dX6_openChoice_22 : decode cX6_openChoice 22 = .ok (.dup, 1) := by decide +kernel
theorem dX6_openChoice_23 : decode cX6_openChoice 23 = .ok (.getfield 80, 3) := by decide +kernel
theorem dX6_openChoice_26 : decode cX6_openChoice 26 = .ok (.iconst 1, 1) := by decide +kernel
theorem dX6_openChoice_27 : decode cX6_openChoice 27 = .ok (.iadd, 1) := by decide +kernel
theorem dX6_openChoice_28 : decode cX6_openChoice 28 = .ok (.putfield 80, 3) := by decide +kernel
theorem dX6_openChoice_31 : decode cX6_openChoice 31 = .ok (.iconst 1, 1) := by decide +kernel
theorem dX6_openChoice_32 : decode cX6_openChoice 32 = .ok (.ireturn, 1) := by decide +kernel
theorem dX6_push_0 : decode cX6_push 0 = .ok (.aload_n 0, 1) := by decide +kernel
theorem dX6_push_1 : decode cX6_push 1 = .ok (.getfield 24, 3) := by decide +kernel
theorem dX6_push_4 : decode cX6_push 4 = .ok (.ifCond .lt 35, 3) := by decide +kernel
theorem dX6_push_7 : decode cX6_push 7 = .ok (.aload_n 0, 1) := by decide +kernel
theorem dX6_push_8 : decode cX6_push 8 = .ok (.getfield 24, 3) := by decide +kernel
theorem dX6_push_11 : decode cX6_push 11 = .ok (.aload_n 0, 1) := by decide +kernel
theorem dX6_push_12 : decode cX6_push 12 = .ok (.getfield 9, 3) := by decide +kernel
theorem dX6_push_15 : decode cX6_push 15 = .ok (.arraylength, 1) := by decide +kernel
theorem dX6_push_16 : decode cX6_push 16 = .ok (.if_icmp .ge 23, 3) := by decide +kernel
theorem dX6_push_19 : decode cX6_push 19 = .ok (.aload_n 0, 1) := by decide +kernel
theorem dX6_push_20 : decode cX6_push 20 = .ok (.getfield 9, 3) := by decide +kernel
theorem dX6_push_23 : decode cX6_push 23 = .ok (.aload_n 0, 1) := by decide +kernel
theorem dX6_push_24 : decode cX6_push 24 = .ok (.getfield 24, 3) := by decide +kernel
theorem dX6_push_27 : decode cX6_push 27 = .ok (.iload_n 1, 1) := by decide +kernel
theorem dX6_push_28 : decode cX6_push 28 = .ok (.iastore, 1) := by decide +kernel
theorem dX6_push_29 : decode cX6_push 29 = .ok (.aload_n 0, 1) := by decide +kernel
theorem dX6_push_30 : decode cX6_push 30 = .ok (.dup, 1) := by decide +kernel
theorem dX6_push_31 : decode cX6_push 31 = .ok (.getfield 24, 3) := by decide +kernel
theorem dX6_push_34 : decode cX6_push 34 = .ok (.iconst 1, 1) := by decide +kernel
theorem dX6_push_35 : decode cX6_push 35 = .ok (.iadd, 1) := by decide +kernel
theorem dX6_push_36 : decode cX6_push 36 = .ok (.putfield 24, 3) := by decide +kernel
theorem dX6_push_39 : decode cX6_push 39 = .ok (.return_, 1) := by decide +kernel
theorem dX6_innermost_0 : decode cX6_innermost 0 = .ok (.aload_n 0, 1) := by decide +kernel
theorem dX6_innermost_1 : decode cX6_innermost 1 = .ok (.getfield 24, 3) := by decide +kernel
theorem dX6_innermost_4 : decode cX6_innermost 4 = .ok (.iconst 1, 1) := by decide +kernel
theorem dX6_innermost_5 : decode cX6_innermost 5 = .ok (.if_icmp .lt 15, 3) := by decide +kernel
theorem dX6_innermost_8 : decode cX6_innermost 8 = .ok (.aload_n 0, 1) := by decide +kernel
theorem dX6_innermost_9 : decode cX6_innermost 9 = .ok (.getfield 24, 3) := by decide +kernel
theorem dX6_innermost_12 : decode cX6_innermost 12 = .ok (.aload_n 0, 1) := by decide +kernel
theorem dX6_innermost_13 : decode cX6_innermost 13 = .ok (.getfield 9, 3) := by decide +kernel
theorem dX6_innermost_16 : decode cX6_innermost 16 = .ok (.arraylength, 1) := by decide +kernel
theorem dX6_innermost_17 : decode cX6_innermost 17 = .ok (.if_icmp .le 5, 3) := by decide +kernel
theorem dX6_innermost_20 : decode cX6_innermost 20 = .ok (.iconst (-1), 1) := by decide +kernel
theorem dX6_innermost_21 : decode cX6_innermost 21 = .ok (.ireturn, 1) := by decide +kernel
theorem dX6_innermost_22 : decode cX6_innermost 22 = .ok (.aload_n 0, 1) := by decide +kernel
theorem dX6_innermost_23 : decode cX6_innermost 23 = .ok (.getfield 9, 3) := by decide +kernel
theorem dX6_innermost_26 : decode cX6_innermost 26 = .ok (.aload_n 0, 1) := by decide +kernel
theorem dX6_innermost_27 : decode cX6_innermost 27 = .ok (.getfield 24, 3) := by decide +kernel
theorem dX6_innermost_30 : decode cX6_innermost 30 = .ok (.iconst 1, 1) := by decide +kernel
theorem dX6_innermost_31 : decode cX6_innermost 31 = .ok (.isub, 1) := by decide +kernel
theorem dX6_innermost_32 : decode cX6_innermost 32 = .ok (.iaload, 1) := by decide +kernel
theorem dX6_innermost_33 : decode cX6_innermost 33 = .ok (.istore_n 3, 1) := by decide +kernel
theorem dX6_innermost_34 : decode cX6_innermost 34 = .ok (.aload_n 2, 1) := by decide +kernel
theorem dX6_innermost_35 : decode cX6_innermost 35 = .ok (.iload_n 3, 1) := by decide +kernel
theorem dX6_innermost_36 : decode cX6_innermost 36 = .ok (.invokevirtual 136, 3) := by decide +kernel
theorem dX6_innermost_39 : decode cX6_innermost 39 = .ok (.getfield 139, 3) := by decide +kernel
theorem dX6_innermost_42 : decode cX6_innermost 42 = .ok (.iload_n 1, 1) := by decide +kernel
theorem dX6_innermost_43 : decode cX6_innermost 43 = .ok (.if_icmp .ne 7, 3) := by decide +kernel
theorem dX6_innermost_46 : decode cX6_innermost 46 = .ok (.iload_n 3, 1) := by decide +kernel
theorem dX6_innermost_47 : decode cX6_innermost 47 = .ok (.goto 4, 3) := by decide +kernel
theorem dX6_innermost_50 : decode cX6_innermost 50 = .ok (.iconst (-1), 1) := by decide +kernel
theorem dX6_innermost_51 : decode cX6_innermost 51 = .ok (.ireturn, 1) := by decide +kernel
theorem dX6_closeLoop_0 : decode cX6_closeLoop 0 = .ok (.aload_n 0, 1) := by decide +kernel
theorem dX6_closeLoop_1 : decode cX6_closeLoop 1 = .ok (.bipush 6, 2) := by decide +kernel
theorem dX6_closeLoop_3 : decode cX6_closeLoop 3 = .ok (.aload_n 1, 1) := by decide +kernel
theorem dX6_closeLoop_4 : decode cX6_closeLoop 4 = .ok (.invokevirtual 142, 3) := by decide +kernel
theorem dX6_closeLoop_7 : decode cX6_closeLoop 7 = .ok (.istore_n 2, 1) := by decide +kernel
theorem dX6_closeLoop_8 : decode cX6_closeLoop 8 = .ok (.iload_n 2, 1) := by decide +kernel
theorem dX6_closeLoop_9 : decode cX6_closeLoop 9 = .ok (.ifCond .ge 5, 3) := by decide +kernel
theorem dX6_closeLoop_12 : decode cX6_closeLoop 12 = .ok (.iconst 0, 1) := by decide +kernel
theorem dX6_closeLoop_13 : decode cX6_closeLoop 13 = .ok (.ireturn, 1) := by decide +kernel
theorem dX6_closeLoop_14 : decode cX6_closeLoop 14 = .ok (.aload_n 0, 1) := by decide +kernel
theorem dX6_closeLoop_15 : decode cX6_closeLoop 15 = .ok (.dup, 1) := by decide +kernel
theorem dX6_closeLoop_16 : decode cX6_closeLoop 16 = .ok (.getfield 24, 3) := by decide +kernel
theorem dX6_closeLoop_19 : decode cX6_closeLoop 19 = .ok (.iconst 1, 1) := by decide +kernel
theorem dX6_closeLoop_20 : decode cX6_closeLoop 20 = .ok (.isub, 1) := by decide +kernel
theorem dX6_closeLoop_21 : decode cX6_closeLoop 21 = .ok (.putfield 24, 3) := by decide +kernel
theorem dX6_closeLoop_24 : decode cX6_closeLoop 24 = .ok (.aload_n 1, 1) := by decide +kernel
theorem dX6_closeLoop_25 : decode cX6_closeLoop 25 = .ok (.iload_n 2, 1) := by decide +kernel
theorem dX6_closeLoop_26 : decode cX6_closeLoop 26 = .ok (.invokevirtual 136, 3) := by decide +kernel
theorem dX6_closeLoop_29 : decode cX6_closeLoop 29 = .ok (.astore_n 3, 1) := by decide +kernel
theorem dX6_closeLoop_30 : decode cX6_closeLoop 30 = .ok (.aload_n 3, 1) := by decide +kernel
theorem dX6_closeLoop_31 : decode cX6_closeLoop 31 = .ok (.aload_n 1, 1) := by decide +kernel
theorem dX6_closeLoop_32 : decode cX6_closeLoop 32 = .ok (.getfield 126, 3) := by decide +kernel
theorem dX6_closeLoop_35 : decode cX6_closeLoop 35 = .ok (.putfield 146, 3) := by decide +kernel
theorem dX6_closeLoop_38 : decode cX6_closeLoop 38 = .ok (.aload_n 1, 1) := by decide +kernel
theorem dX6_closeLoop_39 : decode cX6_closeLoop 39 = .ok (.bipush 7, 2) := by decide +kernel
theorem dX6_closeLoop_41 : decode cX6_closeLoop 41 = .ok (.invokevirtual 99, 3) := by decide +kernel
theorem dX6_closeLoop_44 : decode cX6_closeLoop 44 = .ok (.astore 4, 2) := by decide +kernel
theorem dX6_closeLoop_46 : decode cX6_closeLoop 46 = .ok (.aload 4, 2) := by decide +kernel
theorem dX6_closeLoop_48 : decode cX6_closeLoop 48 = .ok (.aload_n 3, 1) := by decide +kernel
theorem dX6_closeLoop_49 : decode cX6_closeLoop 49 = .ok (.getfield 108, 3) := by decide +kernel
theorem dX6_closeLoop_52 : decode cX6_closeLoop 52 = .ok (.putfield 108, 3) := by decide +kernel
theorem dX6_closeLoop_55 : decode cX6_closeLoop 55 = .ok (.aload 4, 2) := by decide +kernel
theorem dX6_closeLoop_57 : decode cX6_closeLoop 57 = .ok (.aload_n 3, 1) := by decide +kernel
theorem dX6_closeLoop_58 : decode cX6_closeLoop 58 = .ok (.getfield 133, 3) := by decide +kernel
theorem dX6_closeLoop_61 : decode cX6_closeLoop 61 = .ok (.putfield 133, 3) := by decide +kernel
theorem dX6_closeLoop_64 : decode cX6_closeLoop 64 = .ok (.aload 4, 2) := by decide +kernel
theorem dX6_closeLoop_66 : decode cX6_closeLoop 66 = .ok (.iload_n 2, 1) := by decide +kernel
theorem dX6_closeLoop_67 : decode cX6_closeLoop 67 = .ok (.putfield 146, 3) := by decide +kernel
theorem dX6_closeLoop_70 : decode cX6_closeLoop 70 = .ok (.iconst 1, 1) := by decide +kernel
theorem dX6_closeLoop_71 : decode cX6_closeLoop 71 = .ok (.ireturn, 1) := by decide +kernel
theorem dX6_passBar_0 : decode cX6_passBar 0 = .ok (.aload_n 0, 1) := by decide +kernel
theorem dX6_passBar_1 : decode cX6_passBar 1 = .ok (.iload_n 1, 1) := by decide +kernel
theorem dX6_passBar_2 : decode cX6_passBar 2 = .ok (.aload_n 3, 1) := by decide +kernel
theorem dX6_passBar_3 : decode cX6_passBar 3 = .ok (.invokevirtual 142, 3) := by decide +kernel
theorem dX6_passBar_6 : decode cX6_passBar 6 = .ok (.istore 4, 2) := by decide +kernel
theorem dX6_passBar_8 : decode cX6_passBar 8 = .ok (.iload 4, 2) := by decide +kernel
theorem dX6_passBar_10 : decode cX6_passBar 10 = .ok (.ifCond .ge 5, 3) := by decide +kernel
theorem dX6_passBar_13 : decode cX6_passBar 13 = .ok (.iconst 0, 1) := by decide +kernel
theorem dX6_passBar_14 : decode cX6_passBar 14 = .ok (.ireturn, 1) := by decide +kernel
theorem dX6_passBar_15 : decode cX6_passBar 15 = .ok (.aload_n 0, 1) := by decide +kernel
theorem dX6_passBar_16 : decode cX6_passBar 16 = .ok (.dup, 1) := by decide +kernel
theorem dX6_passBar_17 : decode cX6_passBar 17 = .ok (.getfield 24, 3) := by decide +kernel
theorem dX6_passBar_20 : decode cX6_passBar 20 = .ok (.iconst 1, 1) := by decide +kernel
theorem dX6_passBar_21 : decode cX6_passBar 21 = .ok (.isub, 1) := by decide +kernel
theorem dX6_passBar_22 : decode cX6_passBar 22 = .ok (.putfield 24, 3) := by decide +kernel
theorem dX6_passBar_25 : decode cX6_passBar 25 = .ok (.iload_n 2, 1) := by decide +kernel
theorem dX6_passBar_26 : decode cX6_passBar 26 = .ok (.bipush 9, 2) := by decide +kernel
theorem dX6_passBar_28 : decode cX6_passBar 28 = .ok (.if_icmp .ne 11, 3) := by decide +kernel
theorem dX6_passBar_31 : decode cX6_passBar 31 = .ok (.aload_n 0, 1) := by decide +kernel
theorem dX6_passBar_32 : decode cX6_passBar 32 = .ok (.aload_n 3, 1) := by decide +kernel
theorem dX6_passBar_33 : decode cX6_passBar 33 = .ok (.getfield 126, 3) := by decide +kernel
theorem dX6_passBar_36 : decode cX6_passBar 36 = .ok (.invokevirtual 129, 3) := by decide +kernel
theorem dX6_passBar_39 : decode cX6_passBar 39 = .ok (.aload_n 3, 1) := by decide +kernel
theorem dX6_passBar_40 : decode cX6_passBar 40 = .ok (.iload 4, 2) := by decide +kernel
theorem dX6_passBar_42 : decode cX6_passBar 42 = .ok (.invokevirtual 136, 3) := by decide +kernel
theorem dX6_passBar_45 : decode cX6_passBar 45 = .ok (.astore 5, 2) := by decide +kernel
theorem dX6_passBar_47 : decode cX6_passBar 47 = .ok (.aload 5, 2) := by decide +kernel
theorem dX6_passBar_49 : decode cX6_passBar 49 = .ok (.aload_n 3, 1) := by decide +kernel
theorem dX6_passBar_50 : decode cX6_passBar 50 = .ok (.getfield 126, 3) := by decide +kernel
theorem dX6_passBar_53 : decode cX6_passBar 53 = .ok (.putfield 146, 3) := by decide +kernel
theorem dX6_passBar_56 : decode cX6_passBar 56 = .ok (.aload_n 3, 1) := by decide +kernel
theorem dX6_passBar_57 : decode cX6_passBar 57 = .ok (.iload_n 2, 1) := by decide +kernel
theorem dX6_passBar_58 : decode cX6_passBar 58 = .ok (.invokevirtual 99, 3) := by decide +kernel
theorem dX6_passBar_61 : decode cX6_passBar 61 = .ok (.aload 5, 2) := by decide +kernel
theorem dX6_passBar_63 : decode cX6_passBar 63 = .ok (.getfield 133, 3) := by decide +kernel
theorem dX6_passBar_66 : decode cX6_passBar 66 = .ok (.putfield 133, 3) := by decide +kernel
theorem dX6_passBar_69 : decode cX6_passBar 69 = .ok (.iconst 1, 1) := by decide +kernel
theorem dX6_passBar_70 : decode cX6_passBar 70 = .ok (.ireturn, 1) := by decide +kernel
theorem dX7_init_0 : decode cX7_init 0 = .ok (.aload_n 0, 1) := by decide +kernel
theorem dX7_init_1 : decode cX7_init 1 = .ok (.invokespecial 5, 3) := by decide +kernel
theorem dX7_init_4 : decode cX7_init 4 = .ok (.aload_n 0, 1) := by decide +kernel
theorem dX7_init_5 : decode cX7_init 5 = .ok (.iconst 3, 1) := by decide +kernel
theorem dX7_init_6 : decode cX7_init 6 = .ok (.newarray .int, 2) := by decide +kernel
theorem dX7_init_8 : decode cX7_init 8 = .ok (.putfield 11, 3) := by decide +kernel
theorem dX7_init_11 : decode cX7_init 11 = .ok (.return_, 1) := by decide +kernel
theorem dX7_draw_0 : decode cX7_draw 0 = .ok (.aload_n 0, 1) := by decide +kernel
theorem dX7_draw_1 : decode cX7_draw 1 = .ok (.aload_n 0, 1) := by decide +kernel
theorem dX7_draw_2 : decode cX7_draw 2 = .ok (.getfield 15, 3) := by decide +kernel
theorem dX7_draw_5 : decode cX7_draw 5 = .ok (.ldc2_w 19, 3) := by decide +kernel
theorem dX7_draw_8 : decode cX7_draw 8 = .ok (.lmul, 1) := by decide +kernel
theorem dX7_draw_9 : decode cX7_draw 9 = .ok (.ldc2_w 21, 3) := by decide +kernel
theorem dX7_draw_12 : decode cX7_draw 12 = .ok (.ladd, 1) := by decide +kernel
theorem dX7_draw_13 : decode cX7_draw 13 = .ok (.putfield 15, 3) := by decide +kernel
theorem dX7_draw_16 : decode cX7_draw 16 = .ok (.iload_n 1, 1) := by decide +kernel
theorem dX7_draw_17 : decode cX7_draw 17 = .ok (.iconst 1, 1) := by decide +kernel
theorem dX7_draw_18 : decode cX7_draw 18 = .ok (.if_icmp .ge 7, 3) := by decide +kernel
theorem dX7_draw_21 : decode cX7_draw 21 = .ok (.iconst 0, 1) := by decide +kernel
theorem dX7_draw_22 : decode cX7_draw 22 = .ok (.goto 14, 3) := by decide +kernel
theorem dX7_draw_25 : decode cX7_draw 25 = .ok (.aload_n 0, 1) := by decide +kernel
theorem dX7_draw_26 : decode cX7_draw 26 = .ok (.getfield 15, 3) := by decide +kernel
theorem dX7_draw_29 : decode cX7_draw 29 = .ok (.bipush 33, 2) := by decide +kernel
theorem dX7_draw_31 : decode cX7_draw 31 = .ok (.lushr, 1) := by decide +kernel
theorem dX7_draw_32 : decode cX7_draw 32 = .ok (.iload_n 1, 1) := by decide +kernel
theorem dX7_draw_33 : decode cX7_draw 33 = .ok (.i2l, 1) := by decide +kernel
theorem dX7_draw_34 : decode cX7_draw 34 = .ok (.lrem, 1) := by decide +kernel
theorem dX7_draw_35 : decode cX7_draw 35 = .ok (.l2i, 1) := by decide +kernel
theorem dX7_draw_36 : decode cX7_draw 36 = .ok (.ireturn, 1) := by decide +kernel
theorem dX7_run_0 : decode cX7_run 0 = .ok (.iconst 0, 1) := by decide +kernel
theorem dX7_run_1 : decode cX7_run 1 = .ok (.istore_n 3, 1) := by decide +kernel
theorem dX7_run_2 : decode cX7_run 2 = .ok (.iload_n 3, 1) := by decide +kernel
theorem dX7_run_3 : decode cX7_run 3 = .ok (.aload_n 0, 1) := by decide +kernel
theorem dX7_run_4 : decode cX7_run 4 = .ok (.getfield 11, 3) := by decide +kernel
theorem dX7_run_7 : decode cX7_run 7 = .ok (.arraylength, 1) := by decide +kernel
theorem dX7_run_8 : decode cX7_run 8 = .ok (.if_icmp .ge 50, 3) := by decide +kernel
theorem dX7_run_11 : decode cX7_run 11 = .ok (.iload_n 3, 1) := by decide +kernel
theorem dX7_run_12 : decode cX7_run 12 = .ok (.aload_n 2, 1) := by decide +kernel
theorem dX7_run_13 : decode cX7_run 13 = .ok (.getfield 23, 3) := by decide +kernel
theorem dX7_run_16 : decode cX7_run 16 = .ok (.arraylength, 1) := by decide +kernel
theorem dX7_run_17 : decode cX7_run 17 = .ok (.if_icmp .ge 41, 3) := by decide +kernel
theorem dX7_run_20 : decode cX7_run 20 = .ok (.aload_n 0, 1) := by decide +kernel
theorem dX7_run_21 : decode cX7_run 21 = .ok (.getfield 11, 3) := by decide +kernel
theorem dX7_run_24 : decode cX7_run 24 = .ok (.iload_n 3, 1) := by decide +kernel
theorem dX7_run_25 : decode cX7_run 25 = .ok (.aload_n 2, 1) := by decide +kernel
theorem dX7_run_26 : decode cX7_run 26 = .ok (.getfield 23, 3) := by decide +kernel
theorem dX7_run_29 : decode cX7_run 29 = .ok (.iload_n 3, 1) := by decide +kernel
theorem dX7_run_30 : decode cX7_run 30 = .ok (.iaload, 1) := by decide +kernel
theorem dX7_run_31 : decode cX7_run 31 = .ok (.bipush 6, 2) := by decide +kernel
theorem dX7_run_33 : decode cX7_run 33 = .ok (.if_icmp .ne 12, 3) := by decide +kernel
theorem dX7_run_36 : decode cX7_run 36 = .ok (.aload_n 0, 1) := by decide +kernel
theorem dX7_run_37 : decode cX7_run 37 = .ok (.bipush 6, 2) := by decide +kernel
theorem dX7_run_39 : decode cX7_run 39 = .ok (.invokevirtual 28, 3) := by decide +kernel
theorem dX7_run_42 : decode cX7_run 42 = .ok (.goto 9, 3) := by decide +kernel
theorem dX7_run_45 : decode cX7_run 45 = .ok (.aload_n 2, 1) := by decide +kernel
theorem dX7_run_46 : decode cX7_run 46 = .ok (.getfield 23, 3) := by decide +kernel
theorem dX7_run_49 : decode cX7_run 49 = .ok (.iload_n 3, 1) := by decide +kernel
theorem dX7_run_50 : decode cX7_run 50 = .ok (.iaload, 1) := by decide +kernel
theorem dX7_run_51 : decode cX7_run 51 = .ok (.iastore, 1) := by decide +kernel
theorem dX7_run_52 : decode cX7_run 52 = .ok (.iinc 3 1, 3) := by decide +kernel
theorem dX7_run_55 : decode cX7_run 55 = .ok (.goto (-53), 3) := by decide +kernel
theorem dX7_run_58 : decode cX7_run 58 = .ok (.iconst 0, 1) := by decide +kernel
theorem dX7_run_59 : decode cX7_run 59 = .ok (.istore_n 3, 1) := by decide +kernel
theorem dX7_run_60 : decode cX7_run 60 = .ok (.iconst 0, 1) := by decide +kernel
theorem dX7_run_61 : decode cX7_run 61 = .ok (.istore 4, 2) := by decide +kernel
theorem dX7_run_63 : decode cX7_run 63 = .ok (.iconst 0, 1) := by decide +kernel
theorem dX7_run_64 : decode cX7_run 64 = .ok (.istore 5, 2) := by decide +kernel
theorem dX7_run_66 : decode cX7_run 66 = .ok (.iload 5, 2) := by decide +kernel
theorem dX7_run_68 : decode cX7_run 68 = .ok (.sipush 3721, 3) := by decide +kernel
theorem dX7_run_71 : decode cX7_run 71 = .ok (.if_icmp .ge 98, 3) := by decide +kernel
theorem dX7_run_74 : decode cX7_run 74 = .ok (.iload_n 3, 1) := by decide +kernel
theorem dX7_run_75 : decode cX7_run 75 = .ok (.aload_n 1, 1) := by decide +kernel
theorem dX7_run_76 : decode cX7_run 76 = .ok (.getfield 32, 3) := by decide +kernel
theorem dX7_run_79 : decode cX7_run 79 = .ok (.if_icmp .ge 90, 3) := by decide +kernel
theorem dX7_run_82 : decode cX7_run 82 = .ok (.aload_n 1, 1) := by decide +kernel
theorem dX7_run_83 : decode cX7_run 83 = .ok (.iload_n 3, 1) := by decide +kernel
theorem dX7_run_84 : decode cX7_run 84 = .ok (.invokevirtual 38, 3) := by decide +kernel
theorem dX7_run_87 : decode cX7_run 87 = .ok (.astore 6, 2) := by decide +kernel
theorem dX7_run_89 : decode cX7_run 89 = .ok (.aload 6, 2) := by decide +kernel
theorem dX7_run_91 : decode cX7_run 91 = .ok (.invokevirtual 42, 3) := by decide +kernel
theorem dX7_run_94 : decode cX7_run 94 = .ok (.ifCond .eq 15, 3) := by decide +kernel
theorem dX7_run_97 : decode cX7_run 97 = .ok (.iload 4, 2) := by decide +kernel
theorem dX7_run_99 : decode cX7_run 99 = .ok (.bipush 60, 2) := by decide +kernel
theorem dX7_run_101 : decode cX7_run 101 = .ok (.if_icmp .lt 5, 3) := by decide +kernel
theorem dX7_run_104 : decode cX7_run 104 = .ok (.iconst 3, 1) := by decide +kernel
theorem dX7_run_105 : decode cX7_run 105 = .ok (.ireturn, 1) := by decide +kernel
theorem dX7_run_106 : decode cX7_run 106 = .ok (.iinc 4 1, 3) := by decide +kernel
theorem dX7_run_109 : decode cX7_run 109 = .ok (.aload 6, 2) := by decide +kernel
theorem dX7_run_111 : decode cX7_run 111 = .ok (.getfield 48, 3) := by decide +kernel
theorem dX7_run_114 : decode cX7_run 114 = .ok (.iconst 5, 1) := by decide +kernel
theorem dX7_run_115 : decode cX7_run 115 = .ok (.if_icmp .ne 14, 3) := by decide +kernel
theorem dX7_run_118 : decode cX7_run 118 = .ok (.aload_n 0, 1) := by decide +kernel
theorem dX7_run_119 : decode cX7_run 119 = .ok (.aload 6, 2) := by decide +kernel
theorem dX7_run_121 : decode cX7_run 121 = .ok (.invokevirtual 51, 3) := by decide +kernel
theorem dX7_run_124 : decode cX7_run 124 = .ok (.ifCond .ne 5, 3) := by decide +kernel
theorem dX7_run_127 : decode cX7_run 127 = .ok (.iconst 1, 1) := by decide +kernel
theorem dX7_run_128 : decode cX7_run 128 = .ok (.ireturn, 1) := by decide +kernel
theorem dX7_run_129 : decode cX7_run 129 = .ok (.aload 6, 2) := by decide +kernel
theorem dX7_run_131 : decode cX7_run 131 = .ok (.getfield 48, 3) := by decide +kernel
theorem dX7_run_134 : decode cX7_run 134 = .ok (.iconst 4, 1) := by decide +kernel
theorem dX7_run_135 : decode cX7_run 135 = .ok (.if_icmp .ne 14, 3) := by decide +kernel
theorem dX7_run_138 : decode cX7_run 138 = .ok (.aload_n 0, 1) := by decide +kernel
theorem dX7_run_139 : decode cX7_run 139 = .ok (.aload 6, 2) := by decide +kernel
theorem dX7_run_141 : decode cX7_run 141 = .ok (.invokevirtual 51, 3) := by decide +kernel
theorem dX7_run_144 : decode cX7_run 144 = .ok (.ifCond .ne 5, 3) := by decide +kernel
theorem dX7_run_147 : decode cX7_run 147 = .ok (.iconst 2, 1) := by decide +kernel
theorem dX7_run_148 : decode cX7_run 148 = .ok (.ireturn, 1) := by decide +kernel
theorem dX7_run_149 : decode cX7_run 149 = .ok (.aload_n 0, 1) := by decide +kernel
theorem dX7_run_150 : decode cX7_run 150 = .ok (.aload 6, 2) := by decide +kernel
theorem dX7_run_152 : decode cX7_run 152 = .ok (.invokevirtual 55, 3) := by decide +kernel
theorem dX7_run_155 : decode cX7_run 155 = .ok (.aload_n 0, 1) := by decide +kernel
theorem dX7_run_156 : decode cX7_run 156 = .ok (.aload 6, 2) := by decide +kernel
theorem dX7_run_158 : decode cX7_run 158 = .ok (.iload_n 3, 1) := by decide +kernel
theorem dX7_run_159 : decode cX7_run 159 = .ok (.invokevirtual 59, 3) := by decide +kernel
theorem dX7_run_162 : decode cX7_run 162 = .ok (.istore_n 3, 1) := by decide +kernel
theorem dX7_run_163 : decode cX7_run 163 = .ok (.iinc 5 1, 3) := by decide +kernel
theorem dX7_run_166 : decode cX7_run 166 = .ok (.goto (-100), 3) := by decide +kernel
theorem dX7_run_169 : decode cX7_run 169 = .ok (.iconst 0, 1) := by decide +kernel
theorem dX7_run_170 : decode cX7_run 170 = .ok (.ireturn, 1) := by decide +kernel
theorem dX7_isTrue_0 : decode cX7_isTrue 0 = .ok (.aload_n 1, 1) := by decide +kernel
theorem dX7_isTrue_1 : decode cX7_isTrue 1 = .ok (.getfield 63, 3) := by decide +kernel
theorem dX7_isTrue_4 : decode cX7_isTrue 4 = .ok (.aload_n 0, 1) := by decide +kernel
theorem dX7_isTrue_5 : decode cX7_isTrue 5 = .ok (.getfield 11, 3) := by decide +kernel
theorem dX7_isTrue_8 : decode cX7_isTrue 8 = .ok (.iconst 0, 1) := by decide +kernel
theorem dX7_isTrue_9 : decode cX7_isTrue 9 = .ok (.iaload, 1) := by decide +kernel
theorem dX7_isTrue_10 : decode cX7_isTrue 10 = .ok (.aload_n 0, 1) := by decide +kernel
theorem dX7_isTrue_11 : decode cX7_isTrue 11 = .ok (.getfield 11, 3) := by decide +kernel
theorem dX7_isTrue_14 : decode cX7_isTrue 14 = .ok (.iconst 1, 1) := by decide +kernel
theorem dX7_isTrue_15 : decode cX7_isTrue 15 = .ok (.iaload, 1) := by decide +kernel
theorem dX7_isTrue_16 : decode cX7_isTrue 16 = .ok (.aload_n 0, 1) := by decide +kernel
theorem dX7_isTrue_17 : decode cX7_isTrue 17 = .ok (.getfield 11, 3) := by decide +kernel
theorem dX7_isTrue_20 : decode cX7_isTrue 20 = .ok (.iconst 2, 1) := by decide +kernel
theorem dX7_isTrue_21 : decode cX7_isTrue 21 = .ok (.iaload, 1) := by decide +kernel
theorem dX7_isTrue_22 : decode cX7_isTrue 22 = .ok (.invokevirtual 67, 3) := by decide +kernel
theorem dX7_isTrue_25 : decode cX7_isTrue 25 = .ok (.ireturn, 1) := by decide +kernel
theorem dX7_change_0 : decode cX7_change 0 = .ok (.aload_n 1, 1) := by decide +kernel
theorem dX7_change_1 : decode cX7_change 1 = .ok (.getfield 72, 3) := by decide +kernel
theorem dX7_change_4 : decode cX7_change 4 = .ok (.istore_n 2, 1) := by decide +kernel
theorem dX7_change_5 : decode cX7_change 5 = .ok (.iload_n 2, 1) := by decide +kernel
theorem dX7_change_6 : decode cX7_change 6 = .ok (.ifCond .lt 12, 3) := by decide +kernel
theorem dX7_change_9 : decode cX7_change 9 = .ok (.iload_n 2, 1) := by decide +kernel
theorem dX7_change_10 : decode cX7_change 10 = .ok (.aload_n 0, 1) := by decide +kernel
theorem dX7_change_11 : decode cX7_change 11 = .ok (.getfield 11, 3) := by decide +kernel
theorem dX7_change_14 : decode cX7_change 14 = .ok (.arraylength, 1) := by decide +kernel
theorem dX7_change_15 : decode cX7_change 15 = .ok (.if_icmp .lt 4, 3) := by decide +kernel
theorem dX7_change_18 : decode cX7_change 18 = .ok (.return_, 1) := by decide +kernel
theorem dX7_change_19 : decode cX7_change 19 = .ok (.aload_n 1, 1) := by decide +kernel
theorem dX7_change_20 : decode cX7_change 20 = .ok (.getfield 48, 3) := by decide +kernel
theorem dX7_change_23 : decode cX7_change 23 = .ok (.tableswitch 120 0 3 #[29, 63, 84, 105], 29) := by decide +kernel
theorem dX7_change_52 : decode cX7_change 52 = .ok (.aload_n 0, 1) := by decide +kernel
theorem dX7_change_53 : decode cX7_change 53 = .ok (.getfield 11, 3) := by decide +kernel
theorem dX7_change_56 : decode cX7_change 56 = .ok (.iload_n 2, 1) := by decide +kernel
theorem dX7_change_57 : decode cX7_change 57 = .ok (.aload_n 1, 1) := by decide +kernel
theorem dX7_change_58 : decode cX7_change 58 = .ok (.getfield 63, 3) := by decide +kernel
theorem dX7_change_61 : decode cX7_change 61 = .ok (.aload_n 0, 1) := by decide +kernel
theorem dX7_change_62 : decode cX7_change 62 = .ok (.getfield 11, 3) := by decide +kernel
theorem dX7_change_65 : decode cX7_change 65 = .ok (.iconst 0, 1) := by decide +kernel
theorem dX7_change_66 : decode cX7_change 66 = .ok (.iaload, 1) := by decide +kernel
theorem dX7_change_67 : decode cX7_change 67 = .ok (.aload_n 0, 1) := by decide +kernel
theorem dX7_change_68 : decode cX7_change 68 = .ok (.getfield 11, 3) := by decide +kernel
theorem dX7_change_71 : decode cX7_change 71 = .ok (.iconst 1, 1) := by decide +kernel
theorem dX7_change_72 : decode cX7_change 72 = .ok (.iaload, 1) := by decide +kernel
theorem dX7_change_73 : decode cX7_change 73 = .ok (.aload_n 0, 1) := by decide +kernel
theorem dX7_change_74 : decode cX7_change 74 = .ok (.getfield 11, 3) := by decide +kernel
theorem dX7_change_77 : decode cX7_change 77 = .ok (.iconst 2, 1) := by decide +kernel
theorem dX7_change_78 : decode cX7_change 78 = .ok (.iaload, 1) := by decide +kernel
theorem dX7_change_79 : decode cX7_change 79 = .ok (.invokevirtual 75, 3) := by decide +kernel
theorem dX7_change_82 : decode cX7_change 82 = .ok (.iastore, 1) := by decide +kernel
theorem dX7_change_83 : decode cX7_change 83 = .ok (.goto 60, 3) := by decide +kernel
theorem dX7_change_86 : decode cX7_change 86 = .ok (.aload_n 0, 1) := by decide +kernel
theorem dX7_change_87 : decode cX7_change 87 = .ok (.getfield 11, 3) := by decide +kernel
theorem dX7_change_90 : decode cX7_change 90 = .ok (.iload_n 2, 1) := by decide +kernel
theorem dX7_change_91 : decode cX7_change 91 = .ok (.aload_n 0, 1) := by decide +kernel
theorem dX7_change_92 : decode cX7_change 92 = .ok (.getfield 11, 3) := by decide +kernel
theorem dX7_change_95 : decode cX7_change 95 = .ok (.iload_n 2, 1) := by decide +kernel
theorem dX7_change_96 : decode cX7_change 96 = .ok (.iaload, 1) := by decide +kernel
theorem dX7_change_97 : decode cX7_change 97 = .ok (.iconst 1, 1) := by decide +kernel
theorem dX7_change_98 : decode cX7_change 98 = .ok (.iadd, 1) := by decide +kernel
theorem dX7_change_99 : decode cX7_change 99 = .ok (.iconst 5, 1) := by decide +kernel
theorem dX7_change_100 : decode cX7_change 100 = .ok (.invokestatic 79, 3) := by decide +kernel
theorem dX7_change_103 : decode cX7_change 103 = .ok (.iastore, 1) := by decide +kernel
theorem dX7_change_104 : decode cX7_change 104 = .ok (.goto 39, 3) := by decide +kernel
theorem dX7_change_107 : decode cX7_change 107 = .ok (.aload_n 0, 1) := by decide +kernel
theorem dX7_change_108 : decode cX7_change 108 = .ok (.getfield 11, 3) := by decide +kernel
theorem dX7_change_111 : decode cX7_change 111 = .ok (.iload_n 2, 1) := by decide +kernel
theorem dX7_change_112 : decode cX7_change 112 = .ok (.aload_n 0, 1) := by decide +kernel
theorem dX7_change_113 : decode cX7_change 113 = .ok (.getfield 11, 3) := by decide +kernel
theorem dX7_change_116 : decode cX7_change 116 = .ok (.iload_n 2, 1) := by decide +kernel
theorem dX7_change_117 : decode cX7_change 117 = .ok (.iaload, 1) := by decide +kernel
theorem dX7_change_118 : decode cX7_change 118 = .ok (.iconst 1, 1) := by decide +kernel
theorem dX7_change_119 : decode cX7_change 119 = .ok (.isub, 1) := by decide +kernel
theorem dX7_change_120 : decode cX7_change 120 = .ok (.iconst 0, 1) := by decide +kernel
theorem dX7_change_121 : decode cX7_change 121 = .ok (.invokestatic 85, 3) := by decide +kernel
theorem dX7_change_124 : decode cX7_change 124 = .ok (.iastore, 1) := by decide +kernel
theorem dX7_change_125 : decode cX7_change 125 = .ok (.goto 18, 3) := by decide +kernel
theorem dX7_change_128 : decode cX7_change 128 = .ok (.aload_n 0, 1) := by decide +kernel
theorem dX7_change_129 : decode cX7_change 129 = .ok (.getfield 11, 3) := by decide +kernel
theorem dX7_change_132 : decode cX7_change 132 = .ok (.iload_n 2, 1) := by decide +kernel
theorem dX7_change_133 : decode cX7_change 133 = .ok (.aload_n 0, 1) := by decide +kernel
theorem dX7_change_134 : decode cX7_change 134 = .ok (.bipush 6, 2) := by decide +kernel
theorem dX7_change_136 : decode cX7_change 136 = .ok (.invokevirtual 28, 3) := by decide +kernel
theorem dX7_change_139 : decode cX7_change 139 = .ok (.iastore, 1) := by decide +kernel
theorem dX7_change_140 : decode cX7_change 140 = .ok (.goto 3, 3) := by decide +kernel
theorem dX7_change_143 : decode cX7_change 143 = .ok (.return_, 1) := by decide +kernel
theorem dX7_next_0 : decode cX7_next 0 = .ok (.aload_n 1, 1) := by decide +kernel
theorem dX7_next_1 : decode cX7_next 1 = .ok (.getfield 48, 3) := by decide +kernel
theorem dX7_next_4 : decode cX7_next 4 = .ok (.tableswitch 79 6 9 #[32, 53, 58, 53], 32) := by decide +kernel
theorem dX7_next_36 : decode cX7_next 36 = .ok (.aload_n 0, 1) := by decide +kernel
theorem dX7_next_37 : decode cX7_next 37 = .ok (.aload_n 1, 1) := by decide +kernel
theorem dX7_next_38 : decode cX7_next 38 = .ok (.invokevirtual 51, 3) := by decide +kernel
theorem dX7_next_41 : decode cX7_next 41 = .ok (.ifCond .eq 9, 3) := by decide +kernel
theorem dX7_next_44 : decode cX7_next 44 = .ok (.iload_n 2, 1) := by decide +kernel
theorem dX7_next_45 : decode cX7_next 45 = .ok (.iconst 1, 1) := by decide +kernel
theorem dX7_next_46 : decode cX7_next 46 = .ok (.iadd, 1) := by decide +kernel
theorem dX7_next_47 : decode cX7_next 47 = .ok (.goto 9, 3) := by decide +kernel
theorem dX7_next_50 : decode cX7_next 50 = .ok (.aload_n 1, 1) := by decide +kernel
theorem dX7_next_51 : decode cX7_next 51 = .ok (.getfield 88, 3) := by decide +kernel
theorem dX7_next_54 : decode cX7_next 54 = .ok (.iconst 1, 1) := by decide +kernel
theorem dX7_next_55 : decode cX7_next 55 = .ok (.iadd, 1) := by decide +kernel
theorem dX7_next_56 : decode cX7_next 56 = .ok (.ireturn, 1) := by decide +kernel
theorem dX7_next_57 : decode cX7_next 57 = .ok (.aload_n 1, 1) := by decide +kernel
theorem dX7_next_58 : decode cX7_next 58 = .ok (.getfield 88, 3) := by decide +kernel
theorem dX7_next_61 : decode cX7_next 61 = .ok (.ireturn, 1) := by decide +kernel
theorem dX7_next_62 : decode cX7_next 62 = .ok (.aload_n 0, 1) := by decide +kernel
theorem dX7_next_63 : decode cX7_next 63 = .ok (.iconst 2, 1) := by decide +kernel
theorem dX7_next_64 : decode cX7_next 64 = .ok (.invokevirtual 28, 3) := by decide +kernel
theorem dX7_next_67 : decode cX7_next 67 = .ok (.ifCond .ne 9, 3) := by decide +kernel
theorem dX7_next_70 : decode cX7_next 70 = .ok (.iload_n 2, 1) := by decide +kernel
theorem dX7_next_71 : decode cX7_next 71 = .ok (.iconst 1, 1) := by decide +kernel
theorem dX7_next_72 : decode cX7_next 72 = .ok (.iadd, 1) := by decide +kernel
theorem dX7_next_73 : decode cX7_next 73 = .ok (.goto 9, 3) := by decide +kernel
theorem dX7_next_76 : decode cX7_next 76 = .ok (.aload_n 1, 1) := by decide +kernel
theorem dX7_next_77 : decode cX7_next 77 = .ok (.getfield 88, 3) := by decide +kernel
theorem dX7_next_80 : decode cX7_next 80 = .ok (.iconst 1, 1) := by decide +kernel
theorem dX7_next_81 : decode cX7_next 81 = .ok (.iadd, 1) := by decide +kernel
theorem dX7_next_82 : decode cX7_next 82 = .ok (.ireturn, 1) := by decide +kernel
theorem dX7_next_83 : decode cX7_next 83 = .ok (.iload_n 2, 1) := by decide +kernel
theorem dX7_next_84 : decode cX7_next 84 = .ok (.iconst 1, 1) := by decide +kernel
theorem dX7_next_85 : decode cX7_next 85 = .ok (.iadd, 1) := by decide +kernel
theorem dX7_next_86 : decode cX7_next 86 = .ok (.ireturn, 1) := by decide +kernel
theorem dX8_init_0 : decode cX8_init 0 = .ok (.aload_n 0, 1) := by decide +kernel
theorem dX8_init_1 : decode cX8_init 1 = .ok (.invokespecial 3, 3) := by decide +kernel
theorem dX8_init_4 : decode cX8_init 4 = .ok (.aload_n 0, 1) := by decide +kernel
theorem dX8_init_5 : decode cX8_init 5 = .ok (.iconst 3, 1) := by decide +kernel
theorem dX8_init_6 : decode cX8_init 6 = .ok (.newarray .int, 2) := by decide +kernel
theorem dX8_init_8 : decode cX8_init 8 = .ok (.putfield 9, 3) := by decide +kernel
theorem dX8_init_11 : decode cX8_init 11 = .ok (.aload_n 0, 1) := by decide +kernel
theorem dX8_init_12 : decode cX8_init 12 = .ok (.invokevirtual 15, 3) := by decide +kernel
theorem dX8_init_15 : decode cX8_init 15 = .ok (.return_, 1) := by decide +kernel
theorem dX8_reset_0 : decode cX8_reset 0 = .ok (.iconst 0, 1) := by decide +kernel
theorem dX8_reset_1 : decode cX8_reset 1 = .ok (.istore_n 1, 1) := by decide +kernel
theorem dX8_reset_2 : decode cX8_reset 2 = .ok (.iload_n 1, 1) := by decide +kernel
theorem dX8_reset_3 : decode cX8_reset 3 = .ok (.aload_n 0, 1) := by decide +kernel
theorem dX8_reset_4 : decode cX8_reset 4 = .ok (.getfield 9, 3) := by decide +kernel
theorem dX8_reset_7 : decode cX8_reset 7 = .ok (.arraylength, 1) := by decide +kernel
theorem dX8_reset_8 : decode cX8_reset 8 = .ok (.if_icmp .ge 17, 3) := by decide +kernel
theorem dX8_reset_11 : decode cX8_reset 11 = .ok (.aload_n 0, 1) := by decide +kernel
theorem dX8_reset_12 : decode cX8_reset 12 = .ok (.getfield 9, 3) := by decide +kernel
theorem dX8_reset_15 : decode cX8_reset 15 = .ok (.iload_n 1, 1) := by decide +kernel
theorem dX8_reset_16 : decode cX8_reset 16 = .ok (.bipush 6, 2) := by decide +kernel
theorem dX8_reset_18 : decode cX8_reset 18 = .ok (.iastore, 1) := by decide +kernel
theorem dX8_reset_19 : decode cX8_reset 19 = .ok (.iinc 1 1, 3) := by decide +kernel
theorem dX8_reset_22 : decode cX8_reset 22 = .ok (.goto (-20), 3) := by decide +kernel
theorem dX8_reset_25 : decode cX8_reset 25 = .ok (.aload_n 0, 1) := by decide +kernel
theorem dX8_reset_26 : decode cX8_reset 26 = .ok (.iconst 0, 1) := by decide +kernel
theorem dX8_reset_27 : decode cX8_reset 27 = .ok (.putfield 18, 3) := by decide +kernel
theorem dX8_reset_30 : decode cX8_reset 30 = .ok (.return_, 1) := by decide +kernel
theorem dX8_packedStart_0 : decode cX8_packedStart 0 = .ok (.iconst 0, 1) := by decide +kernel
theorem dX8_packedStart_1 : decode cX8_packedStart 1 = .ok (.istore_n 1, 1) := by decide +kernel
theorem dX8_packedStart_2 : decode cX8_packedStart 2 = .ok (.iconst 0, 1) := by decide +kernel
theorem dX8_packedStart_3 : decode cX8_packedStart 3 = .ok (.istore_n 2, 1) := by decide +kernel
theorem dX8_packedStart_4 : decode cX8_packedStart 4 = .ok (.iload_n 2, 1) := by decide +kernel
theorem dX8_packedStart_5 : decode cX8_packedStart 5 = .ok (.aload_n 0, 1) := by decide +kernel
theorem dX8_packedStart_6 : decode cX8_packedStart 6 = .ok (.getfield 9, 3) := by decide +kernel
theorem dX8_packedStart_9 : decode cX8_packedStart 9 = .ok (.arraylength, 1) := by decide +kernel
theorem dX8_packedStart_10 : decode cX8_packedStart 10 = .ok (.if_icmp .ge 21, 3) := by decide +kernel
theorem dX8_packedStart_13 : decode cX8_packedStart 13 = .ok (.iload_n 1, 1) := by decide +kernel
theorem dX8_packedStart_14 : decode cX8_packedStart 14 = .ok (.bipush 7, 2) := by decide +kernel
theorem dX8_packedStart_16 : decode cX8_packedStart 16 = .ok (.imul, 1) := by decide +kernel
theorem dX8_packedStart_17 : decode cX8_packedStart 17 = .ok (.aload_n 0, 1) := by decide +kernel
theorem dX8_packedStart_18 : decode cX8_packedStart 18 = .ok (.getfield 9, 3) := by decide +kernel
theorem dX8_packedStart_21 : decode cX8_packedStart 21 = .ok (.iload_n 2, 1) := by decide +kernel
theorem dX8_packedStart_22 : decode cX8_packedStart 22 = .ok (.iaload, 1) := by decide +kernel
theorem dX8_packedStart_23 : decode cX8_packedStart 23 = .ok (.iadd, 1) := by decide +kernel
theorem dX8_packedStart_24 : decode cX8_packedStart 24 = .ok (.istore_n 1, 1) := by decide +kernel
theorem dX8_packedStart_25 : decode cX8_packedStart 25 = .ok (.iinc 2 1, 3) := by decide +kernel
theorem dX8_packedStart_28 : decode cX8_packedStart 28 = .ok (.goto (-24), 3) := by decide +kernel
theorem dX8_packedStart_31 : decode cX8_packedStart 31 = .ok (.iload_n 1, 1) := by decide +kernel
theorem dX8_packedStart_32 : decode cX8_packedStart 32 = .ok (.ireturn, 1) := by decide +kernel
theorem dX8_packed_0 : decode cX8_packed 0 = .ok (.aload_n 0, 1) := by decide +kernel
theorem dX8_packed_1 : decode cX8_packed 1 = .ok (.invokevirtual 22, 3) := by decide +kernel
theorem dX8_packed_4 : decode cX8_packed 4 = .ok (.bipush 32, 2) := by decide +kernel
theorem dX8_packed_6 : decode cX8_packed 6 = .ok (.imul, 1) := by decide +kernel
theorem dX8_packed_7 : decode cX8_packed 7 = .ok (.aload_n 0, 1) := by decide +kernel
theorem dX8_packed_8 : decode cX8_packed 8 = .ok (.getfield 18, 3) := by decide +kernel
theorem dX8_packed_11 : decode cX8_packed 11 = .ok (.iadd, 1) := by decide +kernel
theorem dX8_packed_12 : decode cX8_packed 12 = .ok (.ireturn, 1) := by decide +kernel
theorem dX8_unpack_0 : decode cX8_unpack 0 = .ok (.aload_n 0, 1) := by decide +kernel
theorem dX8_unpack_1 : decode cX8_unpack 1 = .ok (.iload_n 1, 1) := by decide +kernel
theorem dX8_unpack_2 : decode cX8_unpack 2 = .ok (.bipush 32, 2) := by decide +kernel
theorem dX8_unpack_4 : decode cX8_unpack 4 = .ok (.irem, 1) := by decide +kernel
theorem dX8_unpack_5 : decode cX8_unpack 5 = .ok (.putfield 18, 3) := by decide +kernel
theorem dX8_unpack_8 : decode cX8_unpack 8 = .ok (.iload_n 1, 1) := by decide +kernel
theorem dX8_unpack_9 : decode cX8_unpack 9 = .ok (.bipush 32, 2) := by decide +kernel
theorem dX8_unpack_11 : decode cX8_unpack 11 = .ok (.idiv, 1) := by decide +kernel
theorem dX8_unpack_12 : decode cX8_unpack 12 = .ok (.istore_n 2, 1) := by decide +kernel
theorem dX8_unpack_13 : decode cX8_unpack 13 = .ok (.aload_n 0, 1) := by decide +kernel
theorem dX8_unpack_14 : decode cX8_unpack 14 = .ok (.getfield 9, 3) := by decide +kernel
theorem dX8_unpack_17 : decode cX8_unpack 17 = .ok (.arraylength, 1) := by decide +kernel
theorem dX8_unpack_18 : decode cX8_unpack 18 = .ok (.iconst 1, 1) := by decide +kernel
theorem dX8_unpack_19 : decode cX8_unpack 19 = .ok (.isub, 1) := by decide +kernel
theorem dX8_unpack_20 : decode cX8_unpack 20 = .ok (.istore_n 3, 1) := by decide +kernel
theorem dX8_unpack_21 : decode cX8_unpack 21 = .ok (.iload_n 3, 1) := by decide +kernel
theorem dX8_unpack_22 : decode cX8_unpack 22 = .ok (.ifCond .lt 24, 3) := by decide +kernel
theorem dX8_unpack_25 : decode cX8_unpack 25 = .ok (.aload_n 0, 1) := by decide +kernel
theorem dX8_unpack_26 : decode cX8_unpack 26 = .ok (.getfield 9, 3) := by decide +kernel
theorem dX8_unpack_29 : decode cX8_unpack 29 = .ok (.iload_n 3, 1) := by decide +kernel
theorem dX8_unpack_30 : decode cX8_unpack 30 = .ok (.iload_n 2, 1) := by decide +kernel
theorem dX8_unpack_31 : decode cX8_unpack 31 = .ok (.bipush 7, 2) := by decide +kernel
theorem dX8_unpack_33 : decode cX8_unpack 33 = .ok (.irem, 1) := by decide +kernel
theorem dX8_unpack_34 : decode cX8_unpack 34 = .ok (.iastore, 1) := by decide +kernel
theorem dX8_unpack_35 : decode cX8_unpack 35 = .ok (.iload_n 2, 1) := by decide +kernel
theorem dX8_unpack_36 : decode cX8_unpack 36 = .ok (.bipush 7, 2) := by decide +kernel
theorem dX8_unpack_38 : decode cX8_unpack 38 = .ok (.idiv, 1) := by decide +kernel
theorem dX8_unpack_39 : decode cX8_unpack 39 = .ok (.istore_n 2, 1) := by decide +kernel
theorem dX8_unpack_40 : decode cX8_unpack 40 = .ok (.iinc 3 (-1), 3) := by decide +kernel
theorem dX8_unpack_43 : decode cX8_unpack 43 = .ok (.goto (-22), 3) := by decide +kernel
theorem dX8_unpack_46 : decode cX8_unpack 46 = .ok (.return_, 1) := by decide +kernel
theorem dX8_putStart_0 : decode cX8_putStart 0 = .ok (.iload_n 1, 1) := by decide +kernel
theorem dX8_putStart_1 : decode cX8_putStart 1 = .ok (.ifCond .lt 22, 3) := by decide +kernel
theorem dX8_putStart_4 : decode cX8_putStart 4 = .ok (.iload_n 1, 1) := by decide +kernel
theorem dX8_putStart_5 : decode cX8_putStart 5 = .ok (.aload_n 0, 1) := by decide +kernel
theorem dX8_putStart_6 : decode cX8_putStart 6 = .ok (.getfield 9, 3) := by decide +kernel
theorem dX8_putStart_9 : decode cX8_putStart 9 = .ok (.arraylength, 1) := by decide +kernel
theorem dX8_putStart_10 : decode cX8_putStart 10 = .ok (.if_icmp .ge 13, 3) := by decide +kernel
theorem dX8_putStart_13 : decode cX8_putStart 13 = .ok (.iload_n 2, 1) := by decide +kernel
theorem dX8_putStart_14 : decode cX8_putStart 14 = .ok (.ifCond .lt 9, 3) := by decide +kernel
theorem dX8_putStart_17 : decode cX8_putStart 17 = .ok (.iload_n 2, 1) := by decide +kernel
theorem dX8_putStart_18 : decode cX8_putStart 18 = .ok (.bipush 6, 2) := by decide +kernel
theorem dX8_putStart_20 : decode cX8_putStart 20 = .ok (.if_icmp .le 5, 3) := by decide +kernel
theorem dX8_putStart_23 : decode cX8_putStart 23 = .ok (.iconst 0, 1) := by decide +kernel
theorem dX8_putStart_24 : decode cX8_putStart 24 = .ok (.ireturn, 1) := by decide +kernel
theorem dX8_putStart_25 : decode cX8_putStart 25 = .ok (.aload_n 0, 1) := by decide +kernel
theorem dX8_putStart_26 : decode cX8_putStart 26 = .ok (.getfield 9, 3) := by decide +kernel
theorem dX8_putStart_29 : decode cX8_putStart 29 = .ok (.iload_n 1, 1) := by decide +kernel
theorem dX8_putStart_30 : decode cX8_putStart 30 = .ok (.iload_n 2, 1) := by decide +kernel
theorem dX8_putStart_31 : decode cX8_putStart 31 = .ok (.iastore, 1) := by decide +kernel
theorem dX8_putStart_32 : decode cX8_putStart 32 = .ok (.iconst 1, 1) := by decide +kernel
theorem dX8_putStart_33 : decode cX8_putStart 33 = .ok (.ireturn, 1) := by decide +kernel
theorem dX8_putOff_0 : decode cX8_putOff 0 = .ok (.iload_n 2, 1) := by decide +kernel
theorem dX8_putOff_1 : decode cX8_putOff 1 = .ok (.ifCond .lt 8, 3) := by decide +kernel
theorem dX8_putOff_4 : decode cX8_putOff 4 = .ok (.iload_n 2, 1) := by decide +kernel
theorem dX8_putOff_5 : decode cX8_putOff 5 = .ok (.iconst 1, 1) := by decide +kernel
theorem dX8_putOff_6 : decode cX8_putOff 6 = .ok (.if_icmp .le 5, 3) := by decide +kernel
theorem dX8_putOff_9 : decode cX8_putOff 9 = .ok (.iconst 0, 1) := by decide +kernel
theorem dX8_putOff_10 : decode cX8_putOff 10 = .ok (.ireturn, 1) := by decide +kernel
theorem dX8_putOff_11 : decode cX8_putOff 11 = .ok (.aload_n 0, 1) := by decide +kernel
theorem dX8_putOff_12 : decode cX8_putOff 12 = .ok (.aload_n 0, 1) := by decide +kernel
theorem dX8_putOff_13 : decode cX8_putOff 13 = .ok (.getfield 18, 3) := by decide +kernel
theorem dX8_putOff_16 : decode cX8_putOff 16 = .ok (.iconst 1, 1) := by decide +kernel
theorem dX8_putOff_17 : decode cX8_putOff 17 = .ok (.iload_n 1, 1) := by decide +kernel
theorem dX8_putOff_18 : decode cX8_putOff 18 = .ok (.ishl, 1) := by decide +kernel
theorem dX8_putOff_19 : decode cX8_putOff 19 = .ok (.iconst (-1), 1) := by decide +kernel
theorem dX8_putOff_20 : decode cX8_putOff 20 = .ok (.ixor, 1) := by decide +kernel
theorem dX8_putOff_21 : decode cX8_putOff 21 = .ok (.iand, 1) := by decide +kernel
theorem dX8_putOff_22 : decode cX8_putOff 22 = .ok (.iload_n 2, 1) := by decide +kernel
theorem dX8_putOff_23 : decode cX8_putOff 23 = .ok (.iload_n 1, 1) := by decide +kernel
theorem dX8_putOff_24 : decode cX8_putOff 24 = .ok (.ishl, 1) := by decide +kernel
theorem dX8_putOff_25 : decode cX8_putOff 25 = .ok (.ior, 1) := by decide +kernel
theorem dX8_putOff_26 : decode cX8_putOff 26 = .ok (.putfield 18, 3) := by decide +kernel
theorem dX8_putOff_29 : decode cX8_putOff 29 = .ok (.iconst 1, 1) := by decide +kernel
theorem dX8_putOff_30 : decode cX8_putOff 30 = .ok (.ireturn, 1) := by decide +kernel
theorem dX8_fillIn_0 : decode cX8_fillIn 0 = .ok (.aload_n 1, 1) := by decide +kernel
theorem dX8_fillIn_1 : decode cX8_fillIn 1 = .ok (.invokevirtual 26, 3) := by decide +kernel
theorem dX8_fillIn_4 : decode cX8_fillIn 4 = .ok (.iconst 0, 1) := by decide +kernel
theorem dX8_fillIn_5 : decode cX8_fillIn 5 = .ok (.istore_n 2, 1) := by decide +kernel
theorem dX8_fillIn_6 : decode cX8_fillIn 6 = .ok (.iload_n 2, 1) := by decide +kernel
theorem dX8_fillIn_7 : decode cX8_fillIn 7 = .ok (.aload_n 0, 1) := by decide +kernel
theorem dX8_fillIn_8 : decode cX8_fillIn 8 = .ok (.getfield 9, 3) := by decide +kernel
theorem dX8_fillIn_11 : decode cX8_fillIn 11 = .ok (.arraylength, 1) := by decide +kernel
theorem dX8_fillIn_12 : decode cX8_fillIn 12 = .ok (.if_icmp .ge 31, 3) := by decide +kernel
theorem dX8_fillIn_15 : decode cX8_fillIn 15 = .ok (.aload_n 0, 1) := by decide +kernel
theorem dX8_fillIn_16 : decode cX8_fillIn 16 = .ok (.getfield 9, 3) := by decide +kernel
theorem dX8_fillIn_19 : decode cX8_fillIn 19 = .ok (.iload_n 2, 1) := by decide +kernel
theorem dX8_fillIn_20 : decode cX8_fillIn 20 = .ok (.iaload, 1) := by decide +kernel
theorem dX8_fillIn_21 : decode cX8_fillIn 21 = .ok (.bipush 6, 2) := by decide +kernel
theorem dX8_fillIn_23 : decode cX8_fillIn 23 = .ok (.if_icmp .ge 14, 3) := by decide +kernel
theorem dX8_fillIn_26 : decode cX8_fillIn 26 = .ok (.aload_n 1, 1) := by decide +kernel
theorem dX8_fillIn_27 : decode cX8_fillIn 27 = .ok (.iload_n 2, 1) := by decide +kernel
theorem dX8_fillIn_28 : decode cX8_fillIn 28 = .ok (.aload_n 0, 1) := by decide +kernel
theorem dX8_fillIn_29 : decode cX8_fillIn 29 = .ok (.getfield 9, 3) := by decide +kernel
theorem dX8_fillIn_32 : decode cX8_fillIn 32 = .ok (.iload_n 2, 1) := by decide +kernel
theorem dX8_fillIn_33 : decode cX8_fillIn 33 = .ok (.iaload, 1) := by decide +kernel
theorem dX8_fillIn_34 : decode cX8_fillIn 34 = .ok (.invokevirtual 31, 3) := by decide +kernel
theorem dX8_fillIn_37 : decode cX8_fillIn 37 = .ok (.iinc 2 1, 3) := by decide +kernel
theorem dX8_fillIn_40 : decode cX8_fillIn 40 = .ok (.goto (-34), 3) := by decide +kernel
theorem dX8_fillIn_43 : decode cX8_fillIn 43 = .ok (.return_, 1) := by decide +kernel
theorem dX9_init_0 : decode cX9_init 0 = .ok (.aload_n 0, 1) := by decide +kernel
theorem dX9_init_1 : decode cX9_init 1 = .ok (.invokespecial 3, 3) := by decide +kernel
theorem dX9_init_4 : decode cX9_init 4 = .ok (.aload_n 0, 1) := by decide +kernel
theorem dX9_init_5 : decode cX9_init 5 = .ok (.bipush 6, 2) := by decide +kernel
theorem dX9_init_7 : decode cX9_init 7 = .ok (.newarray .long, 2) := by decide +kernel
theorem dX9_init_9 : decode cX9_init 9 = .ok (.putfield 9, 3) := by decide +kernel
theorem dX9_init_12 : decode cX9_init 12 = .ok (.return_, 1) := by decide +kernel
theorem dX9_row_0 : decode cX9_row 0 = .ok (.iload_n 0, 1) := by decide +kernel
theorem dX9_row_1 : decode cX9_row 1 = .ok (.iconst 0, 1) := by decide +kernel
theorem dX9_row_2 : decode cX9_row 2 = .ok (.invokestatic 15, 3) := by decide +kernel
theorem dX9_row_5 : decode cX9_row 5 = .ok (.anewarray 10, 3) := by decide +kernel
theorem dX9_row_8 : decode cX9_row 8 = .ok (.astore_n 1, 1) := by decide +kernel
theorem dX9_row_9 : decode cX9_row 9 = .ok (.iconst 0, 1) := by decide +kernel
theorem dX9_row_10 : decode cX9_row 10 = .ok (.istore_n 2, 1) := by decide +kernel
theorem dX9_row_11 : decode cX9_row 11 = .ok (.iload_n 2, 1) := by decide +kernel
theorem dX9_row_12 : decode cX9_row 12 = .ok (.aload_n 1, 1) := by decide +kernel
theorem dX9_row_13 : decode cX9_row 13 = .ok (.arraylength, 1) := by decide +kernel
theorem dX9_row_14 : decode cX9_row 14 = .ok (.if_icmp .ge 19, 3) := by decide +kernel
theorem dX9_row_17 : decode cX9_row 17 = .ok (.aload_n 1, 1) := by decide +kernel
theorem dX9_row_18 : decode cX9_row 18 = .ok (.iload_n 2, 1) := by decide +kernel
theorem dX9_row_19 : decode cX9_row 19 = .ok (.new 10, 3) := by decide +kernel
theorem dX9_row_22 : decode cX9_row 22 = .ok (.dup, 1) := by decide +kernel
theorem dX9_row_23 : decode cX9_row 23 = .ok (.invokespecial 21, 3) := by decide +kernel
theorem dX9_row_26 : decode cX9_row 26 = .ok (.aastore, 1) := by decide +kernel
theorem dX9_row_27 : decode cX9_row 27 = .ok (.iinc 2 1, 3) := by decide +kernel
theorem dX9_row_30 : decode cX9_row 30 = .ok (.goto (-19), 3) := by decide +kernel
theorem dX9_row_33 : decode cX9_row 33 = .ok (.aload_n 1, 1) := by decide +kernel
theorem dX9_row_34 : decode cX9_row 34 = .ok (.areturn, 1) := by decide +kernel
theorem dX9_clear_0 : decode cX9_clear 0 = .ok (.iconst 0, 1) := by decide +kernel
theorem dX9_clear_1 : decode cX9_clear 1 = .ok (.istore_n 1, 1) := by decide +kernel
theorem dX9_clear_2 : decode cX9_clear 2 = .ok (.iload_n 1, 1) := by decide +kernel
theorem dX9_clear_3 : decode cX9_clear 3 = .ok (.bipush 6, 2) := by decide +kernel
theorem dX9_clear_5 : decode cX9_clear 5 = .ok (.if_icmp .ge 16, 3) := by decide +kernel
theorem dX9_clear_8 : decode cX9_clear 8 = .ok (.aload_n 0, 1) := by decide +kernel
theorem dX9_clear_9 : decode cX9_clear 9 = .ok (.getfield 9, 3) := by decide +kernel
theorem dX9_clear_12 : decode cX9_clear 12 = .ok (.iload_n 1, 1) := by decide +kernel
theorem dX9_clear_13 : decode cX9_clear 13 = .ok (.lconst 0, 1) := by decide +kernel
theorem dX9_clear_14 : decode cX9_clear 14 = .ok (.lastore, 1) := by decide +kernel
theorem dX9_clear_15 : decode cX9_clear 15 = .ok (.iinc 1 1, 3) := by decide +kernel
theorem dX9_clear_18 : decode cX9_clear 18 = .ok (.goto (-16), 3) := by decide +kernel
theorem dX9_clear_21 : decode cX9_clear 21 = .ok (.return_, 1) := by decide +kernel
theorem dX9_fill_0 : decode cX9_fill 0 = .ok (.iconst 0, 1) := by decide +kernel
theorem dX9_fill_1 : decode cX9_fill 1 = .ok (.istore_n 1, 1) := by decide +kernel
theorem dX9_fill_2 : decode cX9_fill 2 = .ok (.iload_n 1, 1) := by decide +kernel
theorem dX9_fill_3 : decode cX9_fill 3 = .ok (.bipush 6, 2) := by decide +kernel
theorem dX9_fill_5 : decode cX9_fill 5 = .ok (.if_icmp .ge 18, 3) := by decide +kernel
theorem dX9_fill_8 : decode cX9_fill 8 = .ok (.aload_n 0, 1) := by decide +kernel
theorem dX9_fill_9 : decode cX9_fill 9 = .ok (.getfield 9, 3) := by decide +kernel
theorem dX9_fill_12 : decode cX9_fill 12 = .ok (.iload_n 1, 1) := by decide +kernel
theorem dX9_fill_13 : decode cX9_fill 13 = .ok (.ldc2_w 22, 3) := by decide +kernel
theorem dX9_fill_16 : decode cX9_fill 16 = .ok (.lastore, 1) := by decide +kernel
theorem dX9_fill_17 : decode cX9_fill 17 = .ok (.iinc 1 1, 3) := by decide +kernel
theorem dX9_fill_20 : decode cX9_fill 20 = .ok (.goto (-18), 3) := by decide +kernel
theorem dX9_fill_23 : decode cX9_fill 23 = .ok (.return_, 1) := by decide +kernel
theorem dX9_copy_0 : decode cX9_copy 0 = .ok (.iconst 0, 1) := by decide +kernel
theorem dX9_copy_1 : decode cX9_copy 1 = .ok (.istore_n 2, 1) := by decide +kernel
theorem dX9_copy_2 : decode cX9_copy 2 = .ok (.iload_n 2, 1) := by decide +kernel
theorem dX9_copy_3 : decode cX9_copy 3 = .ok (.bipush 6, 2) := by decide +kernel
theorem dX9_copy_5 : decode cX9_copy 5 = .ok (.if_icmp .ge 21, 3) := by decide +kernel
theorem dX9_copy_8 : decode cX9_copy 8 = .ok (.aload_n 0, 1) := by decide +kernel
theorem dX9_copy_9 : decode cX9_copy 9 = .ok (.getfield 9, 3) := by decide +kernel
theorem dX9_copy_12 : decode cX9_copy 12 = .ok (.iload_n 2, 1) := by decide +kernel
theorem dX9_copy_13 : decode cX9_copy 13 = .ok (.aload_n 1, 1) := by decide +kernel
theorem dX9_copy_14 : decode cX9_copy 14 = .ok (.getfield 9, 3) := by decide +kernel
theorem dX9_copy_17 : decode cX9_copy 17 = .ok (.iload_n 2, 1) := by decide +kernel
theorem dX9_copy_18 : decode cX9_copy 18 = .ok (.laload, 1) := by decide +kernel
theorem dX9_copy_19 : decode cX9_copy 19 = .ok (.lastore, 1) := by decide +kernel
theorem dX9_copy_20 : decode cX9_copy 20 = .ok (.iinc 2 1, 3) := by decide +kernel
theorem dX9_copy_23 : decode cX9_copy 23 = .ok (.goto (-21), 3) := by decide +kernel
theorem dX9_copy_26 : decode cX9_copy 26 = .ok (.return_, 1) := by decide +kernel
theorem dX9_unite_0 : decode cX9_unite 0 = .ok (.lconst 0, 1) := by decide +kernel
theorem dX9_unite_1 : decode cX9_unite 1 = .ok (.lstore_n 2, 1) := by decide +kernel
theorem dX9_unite_2 : decode cX9_unite 2 = .ok (.iconst 0, 1) := by decide +kernel
theorem dX9_unite_3 : decode cX9_unite 3 = .ok (.istore 4, 2) := by decide +kernel
theorem dX9_unite_5 : decode cX9_unite 5 = .ok (.iload 4, 2) := by decide +kernel
theorem dX9_unite_7 : decode cX9_unite 7 = .ok (.bipush 6, 2) := by decide +kernel
theorem dX9_unite_9 : decode cX9_unite 9 = .ok (.if_icmp .ge 48, 3) := by decide +kernel
theorem dX9_unite_12 : decode cX9_unite 12 = .ok (.lload_n 2, 1) := by decide +kernel
theorem dX9_unite_13 : decode cX9_unite 13 = .ok (.aload_n 1, 1) := by decide +kernel
theorem dX9_unite_14 : decode cX9_unite 14 = .ok (.getfield 9, 3) := by decide +kernel
theorem dX9_unite_17 : decode cX9_unite 17 = .ok (.iload 4, 2) := by decide +kernel
theorem dX9_unite_19 : decode cX9_unite 19 = .ok (.laload, 1) := by decide +kernel
theorem dX9_unite_20 : decode cX9_unite 20 = .ok (.aload_n 0, 1) := by decide +kernel
theorem dX9_unite_21 : decode cX9_unite 21 = .ok (.getfield 9, 3) := by decide +kernel
theorem dX9_unite_24 : decode cX9_unite 24 = .ok (.iload 4, 2) := by decide +kernel
theorem dX9_unite_26 : decode cX9_unite 26 = .ok (.laload, 1) := by decide +kernel
theorem dX9_unite_27 : decode cX9_unite 27 = .ok (.ldc2_w 24, 3) := by decide +kernel
theorem dX9_unite_30 : decode cX9_unite 30 = .ok (.lxor, 1) := by decide +kernel
theorem dX9_unite_31 : decode cX9_unite 31 = .ok (.land, 1) := by decide +kernel
theorem dX9_unite_32 : decode cX9_unite 32 = .ok (.lor, 1) := by decide +kernel
theorem dX9_unite_33 : decode cX9_unite 33 = .ok (.lstore_n 2, 1) := by decide +kernel
theorem dX9_unite_34 : decode cX9_unite 34 = .ok (.aload_n 0, 1) := by decide +kernel
theorem dX9_unite_35 : decode cX9_unite 35 = .ok (.getfield 9, 3) := by decide +kernel
theorem dX9_unite_38 : decode cX9_unite 38 = .ok (.iload 4, 2) := by decide +kernel
theorem dX9_unite_40 : decode cX9_unite 40 = .ok (.dup2, 1) := by decide +kernel
theorem dX9_unite_41 : decode cX9_unite 41 = .ok (.laload, 1) := by decide +kernel
theorem dX9_unite_42 : decode cX9_unite 42 = .ok (.aload_n 1, 1) := by decide +kernel
theorem dX9_unite_43 : decode cX9_unite 43 = .ok (.getfield 9, 3) := by decide +kernel
theorem dX9_unite_46 : decode cX9_unite 46 = .ok (.iload 4, 2) := by decide +kernel
theorem dX9_unite_48 : decode cX9_unite 48 = .ok (.laload, 1) := by decide +kernel
theorem dX9_unite_49 : decode cX9_unite 49 = .ok (.lor, 1) := by decide +kernel
theorem dX9_unite_50 : decode cX9_unite 50 = .ok (.lastore, 1) := by decide +kernel
theorem dX9_unite_51 : decode cX9_unite 51 = .ok (.iinc 4 1, 3) := by decide +kernel
theorem dX9_unite_54 : decode cX9_unite 54 = .ok (.goto (-49), 3) := by decide +kernel
theorem dX9_unite_57 : decode cX9_unite 57 = .ok (.lload_n 2, 1) := by decide +kernel
theorem dX9_unite_58 : decode cX9_unite 58 = .ok (.lconst 0, 1) := by decide +kernel
theorem dX9_unite_59 : decode cX9_unite 59 = .ok (.lcmp, 1) := by decide +kernel
theorem dX9_unite_60 : decode cX9_unite 60 = .ok (.ifCond .eq 7, 3) := by decide +kernel
theorem dX9_unite_63 : decode cX9_unite 63 = .ok (.iconst 1, 1) := by decide +kernel
theorem dX9_unite_64 : decode cX9_unite 64 = .ok (.goto 4, 3) := by decide +kernel
theorem dX9_unite_67 : decode cX9_unite 67 = .ok (.iconst 0, 1) := by decide +kernel
theorem dX9_unite_68 : decode cX9_unite 68 = .ok (.ireturn, 1) := by decide +kernel
theorem dX9_meet_0 : decode cX9_meet 0 = .ok (.iconst 0, 1) := by decide +kernel
theorem dX9_meet_1 : decode cX9_meet 1 = .ok (.istore_n 2, 1) := by decide +kernel
theorem dX9_meet_2 : decode cX9_meet 2 = .ok (.iload_n 2, 1) := by decide +kernel
theorem dX9_meet_3 : decode cX9_meet 3 = .ok (.bipush 6, 2) := by decide +kernel
theorem dX9_meet_5 : decode cX9_meet 5 = .ok (.if_icmp .ge 24, 3) := by decide +kernel
theorem dX9_meet_8 : decode cX9_meet 8 = .ok (.aload_n 0, 1) := by decide +kernel
theorem dX9_meet_9 : decode cX9_meet 9 = .ok (.getfield 9, 3) := by decide +kernel
theorem dX9_meet_12 : decode cX9_meet 12 = .ok (.iload_n 2, 1) := by decide +kernel
theorem dX9_meet_13 : decode cX9_meet 13 = .ok (.dup2, 1) := by decide +kernel
theorem dX9_meet_14 : decode cX9_meet 14 = .ok (.laload, 1) := by decide +kernel
theorem dX9_meet_15 : decode cX9_meet 15 = .ok (.aload_n 1, 1) := by decide +kernel
theorem dX9_meet_16 : decode cX9_meet 16 = .ok (.getfield 9, 3) := by decide +kernel
theorem dX9_meet_19 : decode cX9_meet 19 = .ok (.iload_n 2, 1) := by decide +kernel
theorem dX9_meet_20 : decode cX9_meet 20 = .ok (.laload, 1) := by decide +kernel
theorem dX9_meet_21 : decode cX9_meet 21 = .ok (.land, 1) := by decide +kernel
theorem dX9_meet_22 : decode cX9_meet 22 = .ok (.lastore, 1) := by decide +kernel
theorem dX9_meet_23 : decode cX9_meet 23 = .ok (.iinc 2 1, 3) := by decide +kernel
theorem dX9_meet_26 : decode cX9_meet 26 = .ok (.goto (-24), 3) := by decide +kernel
theorem dX9_meet_29 : decode cX9_meet 29 = .ok (.return_, 1) := by decide +kernel
theorem dX9_remove_0 : decode cX9_remove 0 = .ok (.iconst 0, 1) := by decide +kernel
theorem dX9_remove_1 : decode cX9_remove 1 = .ok (.istore_n 2, 1) := by decide +kernel
theorem dX9_remove_2 : decode cX9_remove 2 = .ok (.iload_n 2, 1) := by decide +kernel
theorem dX9_remove_3 : decode cX9_remove 3 = .ok (.bipush 6, 2) := by decide +kernel
theorem dX9_remove_5 : decode cX9_remove 5 = .ok (.if_icmp .ge 28, 3) := by decide +kernel
theorem dX9_remove_8 : decode cX9_remove 8 = .ok (.aload_n 0, 1) := by decide +kernel
theorem dX9_remove_9 : decode cX9_remove 9 = .ok (.getfield 9, 3) := by decide +kernel
theorem dX9_remove_12 : decode cX9_remove 12 = .ok (.iload_n 2, 1) := by decide +kernel
theorem dX9_remove_13 : decode cX9_remove 13 = .ok (.dup2, 1) := by decide +kernel
theorem dX9_remove_14 : decode cX9_remove 14 = .ok (.laload, 1) := by decide +kernel
theorem dX9_remove_15 : decode cX9_remove 15 = .ok (.aload_n 1, 1) := by decide +kernel
theorem dX9_remove_16 : decode cX9_remove 16 = .ok (.getfield 9, 3) := by decide +kernel
theorem dX9_remove_19 : decode cX9_remove 19 = .ok (.iload_n 2, 1) := by decide +kernel
theorem dX9_remove_20 : decode cX9_remove 20 = .ok (.laload, 1) := by decide +kernel
theorem dX9_remove_21 : decode cX9_remove 21 = .ok (.ldc2_w 24, 3) := by decide +kernel
theorem dX9_remove_24 : decode cX9_remove 24 = .ok (.lxor, 1) := by decide +kernel
theorem dX9_remove_25 : decode cX9_remove 25 = .ok (.land, 1) := by decide +kernel
theorem dX9_remove_26 : decode cX9_remove 26 = .ok (.lastore, 1) := by decide +kernel
theorem dX9_remove_27 : decode cX9_remove 27 = .ok (.iinc 2 1, 3) := by decide +kernel
theorem dX9_remove_30 : decode cX9_remove 30 = .ok (.goto (-28), 3) := by decide +kernel
theorem dX9_remove_33 : decode cX9_remove 33 = .ok (.return_, 1) := by decide +kernel
theorem dX9_addMissing_0 : decode cX9_addMissing 0 = .ok (.iconst 0, 1) := by decide +kernel
theorem dX9_addMissing_1 : decode cX9_addMissing 1 = .ok (.istore_n 2, 1) := by decide +kernel
theorem dX9_addMissing_2 : decode cX9_addMissing 2 = .ok (.iload_n 2, 1) := by decide +kernel
theorem dX9_addMissing_3 : decode cX9_addMissing 3 = .ok (.bipush 6, 2) := by decide +kernel
theorem dX9_addMissing_5 : decode cX9_addMissing 5 = .ok (.if_icmp .ge 32, 3) := by decide +kernel
theorem dX9_addMissing_8 : decode cX9_addMissing 8 = .ok (.aload_n 0, 1) := by decide +kernel
theorem dX9_addMissing_9 : decode cX9_addMissing 9 = .ok (.getfield 9, 3) := by decide +kernel
theorem dX9_addMissing_12 : decode cX9_addMissing 12 = .ok (.iload_n 2, 1) := by decide +kernel
theorem dX9_addMissing_13 : decode cX9_addMissing 13 = .ok (.dup2, 1) := by decide +kernel
theorem dX9_addMissing_14 : decode cX9_addMissing 14 = .ok (.laload, 1) := by decide +kernel
theorem dX9_addMissing_15 : decode cX9_addMissing 15 = .ok (.ldc2_w 22, 3) := by decide +kernel
theorem dX9_addMissing_18 : decode cX9_addMissing 18 = .ok (.aload_n 1, 1) := by decide +kernel
theorem dX9_addMissing_19 : decode cX9_addMissing 19 = .ok (.getfield 9, 3) := by decide +kernel
theorem dX9_addMissing_22 : decode cX9_addMissing 22 = .ok (.iload_n 2, 1) := by decide +kernel
theorem dX9_addMissing_23 : decode cX9_addMissing 23 = .ok (.laload, 1) := by decide +kernel
theorem dX9_addMissing_24 : decode cX9_addMissing 24 = .ok (.ldc2_w 24, 3) := by decide +kernel
theorem dX9_addMissing_27 : decode cX9_addMissing 27 = .ok (.lxor, 1) := by decide +kernel
theorem dX9_addMissing_28 : decode cX9_addMissing 28 = .ok (.land, 1) := by decide +kernel
theorem dX9_addMissing_29 : decode cX9_addMissing 29 = .ok (.lor, 1) := by decide +kernel
theorem dX9_addMissing_30 : decode cX9_addMissing 30 = .ok (.lastore, 1) := by decide +kernel
theorem dX9_addMissing_31 : decode cX9_addMissing 31 = .ok (.iinc 2 1, 3) := by decide +kernel
theorem dX9_addMissing_34 : decode cX9_addMissing 34 = .ok (.goto (-32), 3) := by decide +kernel
theorem dX9_addMissing_37 : decode cX9_addMissing 37 = .ok (.return_, 1) := by decide +kernel
theorem dX9_count_0 : decode cX9_count 0 = .ok (.iconst 0, 1) := by decide +kernel
theorem dX9_count_1 : decode cX9_count 1 = .ok (.istore_n 1, 1) := by decide +kernel
theorem dX9_count_2 : decode cX9_count 2 = .ok (.iconst 0, 1) := by decide +kernel
theorem dX9_count_3 : decode cX9_count 3 = .ok (.istore_n 2, 1) := by decide +kernel
theorem dX9_count_4 : decode cX9_count 4 = .ok (.iload_n 2, 1) := by decide +kernel
theorem dX9_count_5 : decode cX9_count 5 = .ok (.bipush 6, 2) := by decide +kernel
theorem dX9_count_7 : decode cX9_count 7 = .ok (.if_icmp .ge 21, 3) := by decide +kernel
theorem dX9_count_10 : decode cX9_count 10 = .ok (.iload_n 1, 1) := by decide +kernel
theorem dX9_count_11 : decode cX9_count 11 = .ok (.aload_n 0, 1) := by decide +kernel
theorem dX9_count_12 : decode cX9_count 12 = .ok (.getfield 9, 3) := by decide +kernel
theorem dX9_count_15 : decode cX9_count 15 = .ok (.iload_n 2, 1) := by decide +kernel
theorem dX9_count_16 : decode cX9_count 16 = .ok (.laload, 1) := by decide +kernel
theorem dX9_count_17 : decode cX9_count 17 = .ok (.invokestatic 26, 3) := by decide +kernel
theorem dX9_count_20 : decode cX9_count 20 = .ok (.iadd, 1) := by decide +kernel
theorem dX9_count_21 : decode cX9_count 21 = .ok (.istore_n 1, 1) := by decide +kernel
theorem dX9_count_22 : decode cX9_count 22 = .ok (.iinc 2 1, 3) := by decide +kernel
theorem dX9_count_25 : decode cX9_count 25 = .ok (.goto (-21), 3) := by decide +kernel
theorem dX9_count_28 : decode cX9_count 28 = .ok (.iload_n 1, 1) := by decide +kernel
theorem dX9_count_29 : decode cX9_count 29 = .ok (.ireturn, 1) := by decide +kernel
theorem dX9_smallest_0 : decode cX9_smallest 0 = .ok (.iconst 0, 1) := by decide +kernel
theorem dX9_smallest_1 : decode cX9_smallest 1 = .ok (.istore_n 1, 1) := by decide +kernel
theorem dX9_smallest_2 : decode cX9_smallest 2 = .ok (.iload_n 1, 1) := by decide +kernel
theorem dX9_smallest_3 : decode cX9_smallest 3 = .ok (.bipush 6, 2) := by decide +kernel
theorem dX9_smallest_5 : decode cX9_smallest 5 = .ok (.if_icmp .ge 31, 3) := by decide +kernel
theorem dX9_smallest_8 : decode cX9_smallest 8 = .ok (.aload_n 0, 1) := by decide +kernel
theorem dX9_smallest_9 : decode cX9_smallest 9 = .ok (.getfield 9, 3) := by decide +kernel
theorem dX9_smallest_12 : decode cX9_smallest 12 = .ok (.iload_n 1, 1) := by decide +kernel
theorem dX9_smallest_13 : decode cX9_smallest 13 = .ok (.laload, 1) := by decide +kernel
theorem dX9_smallest_14 : decode cX9_smallest 14 = .ok (.lconst 0, 1) := by decide +kernel
theorem dX9_smallest_15 : decode cX9_smallest 15 = .ok (.lcmp, 1) := by decide +kernel
theorem dX9_smallest_16 : decode cX9_smallest 16 = .ok (.ifCond .eq 14, 3) := by decide +kernel
theorem dX9_smallest_19 : decode cX9_smallest 19 = .ok (.iload_n 1, 1) := by decide +kernel
theorem dX9_smallest_20 : decode cX9_smallest 20 = .ok (.aload_n 0, 1) := by decide +kernel
theorem dX9_smallest_21 : decode cX9_smallest 21 = .ok (.getfield 9, 3) := by decide +kernel
theorem dX9_smallest_24 : decode cX9_smallest 24 = .ok (.iload_n 1, 1) := by decide +kernel
theorem dX9_smallest_25 : decode cX9_smallest 25 = .ok (.laload, 1) := by decide +kernel
theorem dX9_smallest_26 : decode cX9_smallest 26 = .ok (.invokestatic 32, 3) := by decide +kernel
theorem dX9_smallest_29 : decode cX9_smallest 29 = .ok (.ireturn, 1) := by decide +kernel
theorem dX9_smallest_30 : decode cX9_smallest 30 = .ok (.iinc 1 1, 3) := by decide +kernel
theorem dX9_smallest_33 : decode cX9_smallest 33 = .ok (.goto (-31), 3) := by decide +kernel
theorem dX9_smallest_36 : decode cX9_smallest 36 = .ok (.bipush (-9), 2) := by decide +kernel
theorem dX9_smallest_38 : decode cX9_smallest 38 = .ok (.ireturn, 1) := by decide +kernel
theorem dX9_smallestOutside_0 : decode cX9_smallestOutside 0 = .ok (.iconst 0, 1) := by decide +kernel
theorem dX9_smallestOutside_1 : decode cX9_smallestOutside 1 = .ok (.istore_n 2, 1) := by decide +kernel
theorem dX9_smallestOutside_2 : decode cX9_smallestOutside 2 = .ok (.iload_n 2, 1) := by decide +kernel
theorem dX9_smallestOutside_3 : decode cX9_smallestOutside 3 = .ok (.bipush 6, 2) := by decide +kernel
theorem dX9_smallestOutside_5 : decode cX9_smallestOutside 5 = .ok (.if_icmp .ge 39, 3) := by decide +kernel
theorem dX9_smallestOutside_8 : decode cX9_smallestOutside 8 = .ok (.aload_n 0, 1) := by decide +kernel
theorem dX9_smallestOutside_9 : decode cX9_smallestOutside 9 = .ok (.getfield 9, 3) := by decide +kernel
theorem dX9_smallestOutside_12 : decode cX9_smallestOutside 12 = .ok (.iload_n 2, 1) := by decide +kernel
theorem dX9_smallestOutside_13 : decode cX9_smallestOutside 13 = .ok (.laload, 1) := by decide +kernel
theorem dX9_smallestOutside_14 : decode cX9_smallestOutside 14 = .ok (.aload_n 1, 1) := by decide +kernel
theorem dX9_smallestOutside_15 : decode cX9_smallestOutside 15 = .ok (.getfield 9, 3) := by decide +kernel
theorem dX9_smallestOutside_18 : decode cX9_smallestOutside 18 = .ok (.iload_n 2, 1) := by decide +kernel
theorem dX9_smallestOutside_19 : decode cX9_smallestOutside 19 = .ok (.laload, 1) := by decide +kernel
theorem dX9_smallestOutside_20 : decode cX9_smallestOutside 20 = .ok (.ldc2_w 24, 3) := by decide +kernel
theorem dX9_smallestOutside_23 : decode cX9_smallestOutside 23 = .ok (.lxor, 1) := by decide +kernel
theorem dX9_smallestOutside_24 : decode cX9_smallestOutside 24 = .ok (.land, 1) := by decide +kernel
theorem dX9_smallestOutside_25 : decode cX9_smallestOutside 25 = .ok (.lstore_n 3, 1) := by decide +kernel
theorem dX9_smallestOutside_26 : decode cX9_smallestOutside 26 = .ok (.lload_n 3, 1) := by decide +kernel
theorem dX9_smallestOutside_27 : decode cX9_smallestOutside 27 = .ok (.lconst 0, 1) := by decide +kernel
theorem dX9_smallestOutside_28 : decode cX9_smallestOutside 28 = .ok (.lcmp, 1) := by decide +kernel
theorem dX9_smallestOutside_29 : decode cX9_smallestOutside 29 = .ok (.ifCond .eq 9, 3) := by decide +kernel
theorem dX9_smallestOutside_32 : decode cX9_smallestOutside 32 = .ok (.iload_n 2, 1) := by decide +kernel
theorem dX9_smallestOutside_33 : decode cX9_smallestOutside 33 = .ok (.lload_n 3, 1) := by decide +kernel
theorem dX9_smallestOutside_34 : decode cX9_smallestOutside 34 = .ok (.invokestatic 32, 3) := by decide +kernel
theorem dX9_smallestOutside_37 : decode cX9_smallestOutside 37 = .ok (.ireturn, 1) := by decide +kernel
theorem dX9_smallestOutside_38 : decode cX9_smallestOutside 38 = .ok (.iinc 2 1, 3) := by decide +kernel
theorem dX9_smallestOutside_41 : decode cX9_smallestOutside 41 = .ok (.goto (-39), 3) := by decide +kernel
theorem dX9_smallestOutside_44 : decode cX9_smallestOutside 44 = .ok (.bipush (-9), 2) := by decide +kernel
theorem dX9_smallestOutside_46 : decode cX9_smallestOutside 46 = .ok (.ireturn, 1) := by decide +kernel
theorem dX9_number_0 : decode cX9_number 0 = .ok (.lload_n 1, 1) := by decide +kernel
theorem dX9_number_1 : decode cX9_number 1 = .ok (.invokestatic 36, 3) := by decide +kernel
theorem dX9_number_4 : decode cX9_number 4 = .ok (.istore_n 3, 1) := by decide +kernel
theorem dX9_number_5 : decode cX9_number 5 = .ok (.bipush 100, 2) := by decide +kernel
theorem dX9_number_7 : decode cX9_number 7 = .ok (.iload_n 0, 1) := by decide +kernel
theorem dX9_number_8 : decode cX9_number 8 = .ok (.imul, 1) := by decide +kernel
theorem dX9_number_9 : decode cX9_number 9 = .ok (.bipush 10, 2) := by decide +kernel
theorem dX9_number_11 : decode cX9_number 11 = .ok (.iload_n 3, 1) := by decide +kernel
theorem dX9_number_12 : decode cX9_number 12 = .ok (.bipush 6, 2) := by decide +kernel
theorem dX9_number_14 : decode cX9_number 14 = .ok (.idiv, 1) := by decide +kernel
theorem dX9_number_15 : decode cX9_number 15 = .ok (.imul, 1) := by decide +kernel
theorem dX9_number_16 : decode cX9_number 16 = .ok (.iadd, 1) := by decide +kernel
theorem dX9_number_17 : decode cX9_number 17 = .ok (.iload_n 3, 1) := by decide +kernel
theorem dX9_number_18 : decode cX9_number 18 = .ok (.bipush 6, 2) := by decide +kernel
theorem dX9_number_20 : decode cX9_number 20 = .ok (.irem, 1) := by decide +kernel
theorem dX9_number_21 : decode cX9_number 21 = .ok (.iadd, 1) := by decide +kernel
theorem dX9_number_22 : decode cX9_number 22 = .ok (.ireturn, 1) := by decide +kernel
theorem dX9_isWithin_0 : decode cX9_isWithin 0 = .ok (.lconst 0, 1) := by decide +kernel
theorem dX9_isWithin_1 : decode cX9_isWithin 1 = .ok (.lstore_n 2, 1) := by decide +kernel
theorem dX9_isWithin_2 : decode cX9_isWithin 2 = .ok (.iconst 0, 1) := by decide +kernel
theorem dX9_isWithin_3 : decode cX9_isWithin 3 = .ok (.istore 4, 2) := by decide +kernel
theorem dX9_isWithin_5 : decode cX9_isWithin 5 = .ok (.iload 4, 2) := by decide +kernel
theorem dX9_isWithin_7 : decode cX9_isWithin 7 = .ok (.bipush 6, 2) := by decide +kernel
theorem dX9_isWithin_9 : decode cX9_isWithin 9 = .ok (.if_icmp .ge 31, 3) := by decide +kernel
theorem dX9_isWithin_12 : decode cX9_isWithin 12 = .ok (.lload_n 2, 1) := by decide +kernel
theorem dX9_isWithin_13 : decode cX9_isWithin 13 = .ok (.aload_n 0, 1) := by decide +kernel
theorem dX9_isWithin_14 : decode cX9_isWithin 14 = .ok (.getfield 9, 3) := by decide +kernel
theorem dX9_isWithin_17 : decode cX9_isWithin 17 = .ok (.iload 4, 2) := by decide +kernel
theorem dX9_isWithin_19 : decode cX9_isWithin 19 = .ok (.laload, 1) := by decide +kernel
theorem dX9_isWithin_20 : decode cX9_isWithin 20 = .ok (.aload_n 1, 1) := by decide +kernel
theorem dX9_isWithin_21 : decode cX9_isWithin 21 = .ok (.getfield 9, 3) := by decide +kernel
theorem dX9_isWithin_24 : decode cX9_isWithin 24 = .ok (.iload 4, 2) := by decide +kernel
theorem dX9_isWithin_26 : decode cX9_isWithin 26 = .ok (.laload, 1) := by decide +kernel
theorem dX9_isWithin_27 : decode cX9_isWithin 27 = .ok (.ldc2_w 24, 3) := by decide +kernel
theorem dX9_isWithin_30 : decode cX9_isWithin 30 = .ok (.lxor, 1) := by decide +kernel
theorem dX9_isWithin_31 : decode cX9_isWithin 31 = .ok (.land, 1) := by decide +kernel
theorem dX9_isWithin_32 : decode cX9_isWithin 32 = .ok (.lor, 1) := by decide +kernel
theorem dX9_isWithin_33 : decode cX9_isWithin 33 = .ok (.lstore_n 2, 1) := by decide +kernel
theorem dX9_isWithin_34 : decode cX9_isWithin 34 = .ok (.iinc 4 1, 3) := by decide +kernel
theorem dX9_isWithin_37 : decode cX9_isWithin 37 = .ok (.goto (-32), 3) := by decide +kernel
theorem dX9_isWithin_40 : decode cX9_isWithin 40 = .ok (.lload_n 2, 1) := by decide +kernel
theorem dX9_isWithin_41 : decode cX9_isWithin 41 = .ok (.lconst 0, 1) := by decide +kernel
theorem dX9_isWithin_42 : decode cX9_isWithin 42 = .ok (.lcmp, 1) := by decide +kernel
theorem dX9_isWithin_43 : decode cX9_isWithin 43 = .ok (.ifCond .ne 7, 3) := by decide +kernel
theorem dX9_isWithin_46 : decode cX9_isWithin 46 = .ok (.iconst 1, 1) := by decide +kernel
theorem dX9_isWithin_47 : decode cX9_isWithin 47 = .ok (.goto 4, 3) := by decide +kernel
theorem dX9_isWithin_50 : decode cX9_isWithin 50 = .ok (.iconst 0, 1) := by decide +kernel
theorem dX9_isWithin_51 : decode cX9_isWithin 51 = .ok (.ireturn, 1) := by decide +kernel
theorem dX9_isState_0 : decode cX9_isState 0 = .ok (.iload_n 0, 1) := by decide +kernel
theorem dX9_isState_1 : decode cX9_isState 1 = .ok (.ifCond .lt 33, 3) := by decide +kernel
theorem dX9_isState_4 : decode cX9_isState 4 = .ok (.iload_n 0, 1) := by decide +kernel
theorem dX9_isState_5 : decode cX9_isState 5 = .ok (.bipush 6, 2) := by decide +kernel
theorem dX9_isState_7 : decode cX9_isState 7 = .ok (.if_icmp .ge 27, 3) := by decide +kernel
theorem dX9_isState_10 : decode cX9_isState 10 = .ok (.iload_n 1, 1) := by decide +kernel
theorem dX9_isState_11 : decode cX9_isState 11 = .ok (.ifCond .lt 23, 3) := by decide +kernel
theorem dX9_isState_14 : decode cX9_isState 14 = .ok (.iload_n 1, 1) := by decide +kernel
theorem dX9_isState_15 : decode cX9_isState 15 = .ok (.bipush 6, 2) := by decide +kernel
theorem dX9_isState_17 : decode cX9_isState 17 = .ok (.if_icmp .ge 17, 3) := by decide +kernel
theorem dX9_isState_20 : decode cX9_isState 20 = .ok (.iload_n 2, 1) := by decide +kernel
theorem dX9_isState_21 : decode cX9_isState 21 = .ok (.ifCond .lt 13, 3) := by decide +kernel
theorem dX9_isState_24 : decode cX9_isState 24 = .ok (.iload_n 2, 1) := by decide +kernel
theorem dX9_isState_25 : decode cX9_isState 25 = .ok (.bipush 6, 2) := by decide +kernel
theorem dX9_isState_27 : decode cX9_isState 27 = .ok (.if_icmp .ge 7, 3) := by decide +kernel
theorem dX9_isState_30 : decode cX9_isState 30 = .ok (.iconst 1, 1) := by decide +kernel
theorem dX9_isState_31 : decode cX9_isState 31 = .ok (.goto 4, 3) := by decide +kernel
theorem dX9_isState_34 : decode cX9_isState 34 = .ok (.iconst 0, 1) := by decide +kernel
theorem dX9_isState_35 : decode cX9_isState 35 = .ok (.ireturn, 1) := by decide +kernel
theorem dX9_has_0 : decode cX9_has 0 = .ok (.iload_n 1, 1) := by decide +kernel
theorem dX9_has_1 : decode cX9_has 1 = .ok (.iload_n 2, 1) := by decide +kernel
theorem dX9_has_2 : decode cX9_has 2 = .ok (.iload_n 3, 1) := by decide +kernel
theorem dX9_has_3 : decode cX9_has 3 = .ok (.invokestatic 39, 3) := by decide +kernel
theorem dX9_has_6 : decode cX9_has 6 = .ok (.ifCond .eq 27, 3) := by decide +kernel
theorem dX9_has_9 : decode cX9_has 9 = .ok (.aload_n 0, 1) := by decide +kernel
theorem dX9_has_10 : decode cX9_has 10 = .ok (.getfield 9, 3) := by decide +kernel
theorem dX9_has_13 : decode cX9_has 13 = .ok (.iload_n 1, 1) := by decide +kernel
theorem dX9_has_14 : decode cX9_has 14 = .ok (.laload, 1) := by decide +kernel
theorem dX9_has_15 : decode cX9_has 15 = .ok (.bipush 6, 2) := by decide +kernel
theorem dX9_has_17 : decode cX9_has 17 = .ok (.iload_n 2, 1) := by decide +kernel
theorem dX9_has_18 : decode cX9_has 18 = .ok (.imul, 1) := by decide +kernel
theorem dX9_has_19 : decode cX9_has 19 = .ok (.iload_n 3, 1) := by decide +kernel
theorem dX9_has_20 : decode cX9_has 20 = .ok (.iadd, 1) := by decide +kernel
theorem dX9_has_21 : decode cX9_has 21 = .ok (.lushr, 1) := by decide +kernel
theorem dX9_has_22 : decode cX9_has 22 = .ok (.lconst 1, 1) := by decide +kernel
theorem dX9_has_23 : decode cX9_has 23 = .ok (.land, 1) := by decide +kernel
theorem dX9_has_24 : decode cX9_has 24 = .ok (.lconst 1, 1) := by decide +kernel
theorem dX9_has_25 : decode cX9_has 25 = .ok (.lcmp, 1) := by decide +kernel
theorem dX9_has_26 : decode cX9_has 26 = .ok (.ifCond .ne 7, 3) := by decide +kernel
theorem dX9_has_29 : decode cX9_has 29 = .ok (.iconst 1, 1) := by decide +kernel
theorem dX9_has_30 : decode cX9_has 30 = .ok (.goto 4, 3) := by decide +kernel
theorem dX9_has_33 : decode cX9_has 33 = .ok (.iconst 0, 1) := by decide +kernel
theorem dX9_has_34 : decode cX9_has 34 = .ok (.ireturn, 1) := by decide +kernel
theorem dX9_add_0 : decode cX9_add 0 = .ok (.iload_n 1, 1) := by decide +kernel
theorem dX9_add_1 : decode cX9_add 1 = .ok (.iload_n 2, 1) := by decide +kernel
theorem dX9_add_2 : decode cX9_add 2 = .ok (.iload_n 3, 1) := by decide +kernel
theorem dX9_add_3 : decode cX9_add 3 = .ok (.invokestatic 39, 3) := by decide +kernel
theorem dX9_add_6 : decode cX9_add 6 = .ok (.ifCond .eq 20, 3) := by decide +kernel
theorem dX9_add_9 : decode cX9_add 9 = .ok (.aload_n 0, 1) := by decide +kernel
theorem dX9_add_10 : decode cX9_add 10 = .ok (.getfield 9, 3) := by decide +kernel
theorem dX9_add_13 : decode cX9_add 13 = .ok (.iload_n 1, 1) := by decide +kernel
theorem dX9_add_14 : decode cX9_add 14 = .ok (.dup2, 1) := by decide +kernel
theorem dX9_add_15 : decode cX9_add 15 = .ok (.laload, 1) := by decide +kernel
theorem dX9_add_16 : decode cX9_add 16 = .ok (.lconst 1, 1) := by decide +kernel
theorem dX9_add_17 : decode cX9_add 17 = .ok (.bipush 6, 2) := by decide +kernel
theorem dX9_add_19 : decode cX9_add 19 = .ok (.iload_n 2, 1) := by decide +kernel
theorem dX9_add_20 : decode cX9_add 20 = .ok (.imul, 1) := by decide +kernel
theorem dX9_add_21 : decode cX9_add 21 = .ok (.iload_n 3, 1) := by decide +kernel
theorem dX9_add_22 : decode cX9_add 22 = .ok (.iadd, 1) := by decide +kernel
theorem dX9_add_23 : decode cX9_add 23 = .ok (.lshl, 1) := by decide +kernel
theorem dX9_add_24 : decode cX9_add 24 = .ok (.lor, 1) := by decide +kernel
theorem dX9_add_25 : decode cX9_add 25 = .ok (.lastore, 1) := by decide +kernel
theorem dX9_add_26 : decode cX9_add 26 = .ok (.return_, 1) := by decide +kernel
theorem dX9_meetValue_0 : decode cX9_meetValue 0 = .ok (.iload_n 1, 1) := by decide +kernel
theorem dX9_meetValue_1 : decode cX9_meetValue 1 = .ok (.iconst 1, 1) := by decide +kernel
theorem dX9_meetValue_2 : decode cX9_meetValue 2 = .ok (.if_icmp .ne 14, 3) := by decide +kernel
theorem dX9_meetValue_5 : decode cX9_meetValue 5 = .ok (.ldc2_w 43, 3) := by decide +kernel
theorem dX9_meetValue_8 : decode cX9_meetValue 8 = .ok (.bipush 6, 2) := by decide +kernel
theorem dX9_meetValue_10 : decode cX9_meetValue 10 = .ok (.iload_n 2, 1) := by decide +kernel
theorem dX9_meetValue_11 : decode cX9_meetValue 11 = .ok (.imul, 1) := by decide +kernel
theorem dX9_meetValue_12 : decode cX9_meetValue 12 = .ok (.lshl, 1) := by decide +kernel
theorem dX9_meetValue_13 : decode cX9_meetValue 13 = .ok (.goto 8, 3) := by decide +kernel
theorem dX9_meetValue_16 : decode cX9_meetValue 16 = .ok (.ldc2_w 45, 3) := by decide +kernel
theorem dX9_meetValue_19 : decode cX9_meetValue 19 = .ok (.iload_n 2, 1) := by decide +kernel
theorem dX9_meetValue_20 : decode cX9_meetValue 20 = .ok (.lshl, 1) := by decide +kernel
theorem dX9_meetValue_21 : decode cX9_meetValue 21 = .ok (.lstore_n 3, 1) := by decide +kernel
theorem dX9_meetValue_22 : decode cX9_meetValue 22 = .ok (.iconst 0, 1) := by decide +kernel
theorem dX9_meetValue_23 : decode cX9_meetValue 23 = .ok (.istore 5, 2) := by decide +kernel
theorem dX9_meetValue_25 : decode cX9_meetValue 25 = .ok (.iload 5, 2) := by decide +kernel
theorem dX9_meetValue_27 : decode cX9_meetValue 27 = .ok (.bipush 6, 2) := by decide +kernel
theorem dX9_meetValue_29 : decode cX9_meetValue 29 = .ok (.if_icmp .ge 41, 3) := by decide +kernel
theorem dX9_meetValue_32 : decode cX9_meetValue 32 = .ok (.iload_n 1, 1) := by decide +kernel
theorem dX9_meetValue_33 : decode cX9_meetValue 33 = .ok (.ifCond .eq 17, 3) := by decide +kernel
theorem dX9_meetValue_36 : decode cX9_meetValue 36 = .ok (.aload_n 0, 1) := by decide +kernel
theorem dX9_meetValue_37 : decode cX9_meetValue 37 = .ok (.getfield 9, 3) := by decide +kernel
theorem dX9_meetValue_40 : decode cX9_meetValue 40 = .ok (.iload 5, 2) := by decide +kernel
theorem dX9_meetValue_42 : decode cX9_meetValue 42 = .ok (.dup2, 1) := by decide +kernel
theorem dX9_meetValue_43 : decode cX9_meetValue 43 = .ok (.laload, 1) := by decide +kernel
theorem dX9_meetValue_44 : decode cX9_meetValue 44 = .ok (.lload_n 3, 1) := by decide +kernel
theorem dX9_meetValue_45 : decode cX9_meetValue 45 = .ok (.land, 1) := by decide +kernel
theorem dX9_meetValue_46 : decode cX9_meetValue 46 = .ok (.lastore, 1) := by decide +kernel
theorem dX9_meetValue_47 : decode cX9_meetValue 47 = .ok (.goto 17, 3) := by decide +kernel
theorem dX9_meetValue_50 : decode cX9_meetValue 50 = .ok (.iload 5, 2) := by decide +kernel
theorem dX9_meetValue_52 : decode cX9_meetValue 52 = .ok (.iload_n 2, 1) := by decide +kernel
theorem dX9_meetValue_53 : decode cX9_meetValue 53 = .ok (.if_icmp .eq 11, 3) := by decide +kernel
theorem dX9_meetValue_56 : decode cX9_meetValue 56 = .ok (.aload_n 0, 1) := by decide +kernel
theorem dX9_meetValue_57 : decode cX9_meetValue 57 = .ok (.getfield 9, 3) := by decide +kernel
theorem dX9_meetValue_60 : decode cX9_meetValue 60 = .ok (.iload 5, 2) := by decide +kernel
theorem dX9_meetValue_62 : decode cX9_meetValue 62 = .ok (.lconst 0, 1) := by decide +kernel
theorem dX9_meetValue_63 : decode cX9_meetValue 63 = .ok (.lastore, 1) := by decide +kernel
theorem dX9_meetValue_64 : decode cX9_meetValue 64 = .ok (.iinc 5 1, 3) := by decide +kernel
theorem dX9_meetValue_67 : decode cX9_meetValue 67 = .ok (.goto (-42), 3) := by decide +kernel
theorem dX9_meetValue_70 : decode cX9_meetValue 70 = .ok (.return_, 1) := by decide +kernel
theorem dX9_free_0 : decode cX9_free 0 = .ok (.iload_n 1, 1) := by decide +kernel
theorem dX9_free_1 : decode cX9_free 1 = .ok (.ifCond .ne 56, 3) := by decide +kernel
theorem dX9_free_4 : decode cX9_free 4 = .ok (.lconst 0, 1) := by decide +kernel
theorem dX9_free_5 : decode cX9_free 5 = .ok (.lstore_n 2, 1) := by decide +kernel
theorem dX9_free_6 : decode cX9_free 6 = .ok (.iconst 0, 1) := by decide +kernel
theorem dX9_free_7 : decode cX9_free 7 = .ok (.istore 4, 2) := by decide +kernel
theorem dX9_free_9 : decode cX9_free 9 = .ok (.iload 4, 2) := by decide +kernel
theorem dX9_free_11 : decode cX9_free 11 = .ok (.bipush 6, 2) := by decide +kernel
theorem dX9_free_13 : decode cX9_free 13 = .ok (.if_icmp .ge 19, 3) := by decide +kernel
theorem dX9_free_16 : decode cX9_free 16 = .ok (.lload_n 2, 1) := by decide +kernel
theorem dX9_free_17 : decode cX9_free 17 = .ok (.aload_n 0, 1) := by decide +kernel
theorem dX9_free_18 : decode cX9_free 18 = .ok (.getfield 9, 3) := by decide +kernel
theorem dX9_free_21 : decode cX9_free 21 = .ok (.iload 4, 2) := by decide +kernel
theorem dX9_free_23 : decode cX9_free 23 = .ok (.laload, 1) := by decide +kernel
theorem dX9_free_24 : decode cX9_free 24 = .ok (.lor, 1) := by decide +kernel
theorem dX9_free_25 : decode cX9_free 25 = .ok (.lstore_n 2, 1) := by decide +kernel
theorem dX9_free_26 : decode cX9_free 26 = .ok (.iinc 4 1, 3) := by decide +kernel
theorem dX9_free_29 : decode cX9_free 29 = .ok (.goto (-20), 3) := by decide +kernel
theorem dX9_free_32 : decode cX9_free 32 = .ok (.iconst 0, 1) := by decide +kernel
theorem dX9_free_33 : decode cX9_free 33 = .ok (.istore 4, 2) := by decide +kernel
theorem dX9_free_35 : decode cX9_free 35 = .ok (.iload 4, 2) := by decide +kernel
theorem dX9_free_37 : decode cX9_free 37 = .ok (.bipush 6, 2) := by decide +kernel
theorem dX9_free_39 : decode cX9_free 39 = .ok (.if_icmp .ge 17, 3) := by decide +kernel
theorem dX9_free_42 : decode cX9_free 42 = .ok (.aload_n 0, 1) := by decide +kernel
theorem dX9_free_43 : decode cX9_free 43 = .ok (.getfield 9, 3) := by decide +kernel
theorem dX9_free_46 : decode cX9_free 46 = .ok (.iload 4, 2) := by decide +kernel
theorem dX9_free_48 : decode cX9_free 48 = .ok (.lload_n 2, 1) := by decide +kernel
theorem dX9_free_49 : decode cX9_free 49 = .ok (.lastore, 1) := by decide +kernel
theorem dX9_free_50 : decode cX9_free 50 = .ok (.iinc 4 1, 3) := by decide +kernel
theorem dX9_free_53 : decode cX9_free 53 = .ok (.goto (-18), 3) := by decide +kernel
theorem dX9_free_56 : decode cX9_free 56 = .ok (.return_, 1) := by decide +kernel
theorem dX9_free_57 : decode cX9_free 57 = .ok (.iload_n 1, 1) := by decide +kernel
theorem dX9_free_58 : decode cX9_free 58 = .ok (.iconst 1, 1) := by decide +kernel
theorem dX9_free_59 : decode cX9_free 59 = .ok (.if_icmp .ne 8, 3) := by decide +kernel
theorem dX9_free_62 : decode cX9_free 62 = .ok (.bipush 6, 2) := by decide +kernel
theorem dX9_free_64 : decode cX9_free 64 = .ok (.goto 4, 3) := by decide +kernel
theorem dX9_free_67 : decode cX9_free 67 = .ok (.iconst 1, 1) := by decide +kernel
theorem dX9_free_68 : decode cX9_free 68 = .ok (.istore_n 2, 1) := by decide +kernel
theorem dX9_free_69 : decode cX9_free 69 = .ok (.iload_n 1, 1) := by decide +kernel
theorem dX9_free_70 : decode cX9_free 70 = .ok (.iconst 1, 1) := by decide +kernel
theorem dX9_free_71 : decode cX9_free 71 = .ok (.if_icmp .ne 9, 3) := by decide +kernel
theorem dX9_free_74 : decode cX9_free 74 = .ok (.ldc2_w 43, 3) := by decide +kernel
theorem dX9_free_77 : decode cX9_free 77 = .ok (.goto 6, 3) := by decide +kernel
theorem dX9_free_80 : decode cX9_free 80 = .ok (.ldc2_w 45, 3) := by decide +kernel
theorem dX9_free_83 : decode cX9_free 83 = .ok (.lstore_n 3, 1) := by decide +kernel
theorem dX9_free_84 : decode cX9_free 84 = .ok (.iload_n 1, 1) := by decide +kernel
theorem dX9_free_85 : decode cX9_free 85 = .ok (.iconst 1, 1) := by decide +kernel
theorem dX9_free_86 : decode cX9_free 86 = .ok (.if_icmp .ne 9, 3) := by decide +kernel
theorem dX9_free_89 : decode cX9_free 89 = .ok (.ldc2_w 45, 3) := by decide +kernel
theorem dX9_free_92 : decode cX9_free 92 = .ok (.goto 6, 3) := by decide +kernel
theorem dX9_free_95 : decode cX9_free 95 = .ok (.ldc2_w 43, 3) := by decide +kernel
theorem dX9_free_98 : decode cX9_free 98 = .ok (.lstore 5, 2) := by decide +kernel
theorem dX9_free_100 : decode cX9_free 100 = .ok (.iconst 0, 1) := by decide +kernel
theorem dX9_free_101 : decode cX9_free 101 = .ok (.istore 7, 2) := by decide +kernel
theorem dX9_free_103 : decode cX9_free 103 = .ok (.iload 7, 2) := by decide +kernel
theorem dX9_free_105 : decode cX9_free 105 = .ok (.bipush 6, 2) := by decide +kernel
theorem dX9_free_107 : decode cX9_free 107 = .ok (.if_icmp .ge 59, 3) := by decide +kernel
theorem dX9_free_110 : decode cX9_free 110 = .ok (.lconst 0, 1) := by decide +kernel
theorem dX9_free_111 : decode cX9_free 111 = .ok (.lstore 8, 2) := by decide +kernel
theorem dX9_free_113 : decode cX9_free 113 = .ok (.iconst 0, 1) := by decide +kernel
theorem dX9_free_114 : decode cX9_free 114 = .ok (.istore 10, 2) := by decide +kernel
theorem dX9_free_116 : decode cX9_free 116 = .ok (.iload 10, 2) := by decide +kernel
theorem dX9_free_118 : decode cX9_free 118 = .ok (.bipush 6, 2) := by decide +kernel
theorem dX9_free_120 : decode cX9_free 120 = .ok (.if_icmp .ge 28, 3) := by decide +kernel
theorem dX9_free_123 : decode cX9_free 123 = .ok (.lload 8, 2) := by decide +kernel
theorem dX9_free_125 : decode cX9_free 125 = .ok (.aload_n 0, 1) := by decide +kernel
theorem dX9_free_126 : decode cX9_free 126 = .ok (.getfield 9, 3) := by decide +kernel
theorem dX9_free_129 : decode cX9_free 129 = .ok (.iload 7, 2) := by decide +kernel
theorem dX9_free_131 : decode cX9_free 131 = .ok (.laload, 1) := by decide +kernel
theorem dX9_free_132 : decode cX9_free 132 = .ok (.iload 10, 2) := by decide +kernel
theorem dX9_free_134 : decode cX9_free 134 = .ok (.iload_n 2, 1) := by decide +kernel
theorem dX9_free_135 : decode cX9_free 135 = .ok (.imul, 1) := by decide +kernel
theorem dX9_free_136 : decode cX9_free 136 = .ok (.lushr, 1) := by decide +kernel
theorem dX9_free_137 : decode cX9_free 137 = .ok (.lload_n 3, 1) := by decide +kernel
theorem dX9_free_138 : decode cX9_free 138 = .ok (.land, 1) := by decide +kernel
theorem dX9_free_139 : decode cX9_free 139 = .ok (.lor, 1) := by decide +kernel
theorem dX9_free_140 : decode cX9_free 140 = .ok (.lstore 8, 2) := by decide +kernel
theorem dX9_free_142 : decode cX9_free 142 = .ok (.iinc 10 1, 3) := by decide +kernel
theorem dX9_free_145 : decode cX9_free 145 = .ok (.goto (-29), 3) := by decide +kernel
theorem dX9_free_148 : decode cX9_free 148 = .ok (.aload_n 0, 1) := by decide +kernel
theorem dX9_free_149 : decode cX9_free 149 = .ok (.getfield 9, 3) := by decide +kernel
theorem dX9_free_152 : decode cX9_free 152 = .ok (.iload 7, 2) := by decide +kernel
theorem dX9_free_154 : decode cX9_free 154 = .ok (.lload 8, 2) := by decide +kernel
theorem dX9_free_156 : decode cX9_free 156 = .ok (.lload 5, 2) := by decide +kernel
theorem dX9_free_158 : decode cX9_free 158 = .ok (.lmul, 1) := by decide +kernel
theorem dX9_free_159 : decode cX9_free 159 = .ok (.lastore, 1) := by decide +kernel
theorem dX9_free_160 : decode cX9_free 160 = .ok (.iinc 7 1, 3) := by decide +kernel
theorem dX9_free_163 : decode cX9_free 163 = .ok (.goto (-60), 3) := by decide +kernel
theorem dX9_free_166 : decode cX9_free 166 = .ok (.return_, 1) := by decide +kernel
theorem dX9_shift_0 : decode cX9_shift 0 = .ok (.iload_n 1, 1) := by decide +kernel
theorem dX9_shift_1 : decode cX9_shift 1 = .ok (.ifCond .ne 112, 3) := by decide +kernel
theorem dX9_shift_4 : decode cX9_shift 4 = .ok (.iload_n 3, 1) := by decide +kernel
theorem dX9_shift_5 : decode cX9_shift 5 = .ok (.ifCond .eq 7, 3) := by decide +kernel
theorem dX9_shift_8 : decode cX9_shift 8 = .ok (.iconst 5, 1) := by decide +kernel
theorem dX9_shift_9 : decode cX9_shift 9 = .ok (.goto 4, 3) := by decide +kernel
theorem dX9_shift_12 : decode cX9_shift 12 = .ok (.iconst 0, 1) := by decide +kernel
theorem dX9_shift_13 : decode cX9_shift 13 = .ok (.istore 4, 2) := by decide +kernel
theorem dX9_shift_15 : decode cX9_shift 15 = .ok (.aload_n 0, 1) := by decide +kernel
theorem dX9_shift_16 : decode cX9_shift 16 = .ok (.getfield 9, 3) := by decide +kernel
theorem dX9_shift_19 : decode cX9_shift 19 = .ok (.iload 4, 2) := by decide +kernel
theorem dX9_shift_21 : decode cX9_shift 21 = .ok (.laload, 1) := by decide +kernel
theorem dX9_shift_22 : decode cX9_shift 22 = .ok (.lstore 5, 2) := by decide +kernel
theorem dX9_shift_24 : decode cX9_shift 24 = .ok (.iconst 1, 1) := by decide +kernel
theorem dX9_shift_25 : decode cX9_shift 25 = .ok (.istore 7, 2) := by decide +kernel
theorem dX9_shift_27 : decode cX9_shift 27 = .ok (.iload 7, 2) := by decide +kernel
theorem dX9_shift_29 : decode cX9_shift 29 = .ok (.bipush 6, 2) := by decide +kernel
theorem dX9_shift_31 : decode cX9_shift 31 = .ok (.if_icmp .ge 54, 3) := by decide +kernel
theorem dX9_shift_34 : decode cX9_shift 34 = .ok (.iload_n 2, 1) := by decide +kernel
theorem dX9_shift_35 : decode cX9_shift 35 = .ok (.ifCond .eq 11, 3) := by decide +kernel
theorem dX9_shift_38 : decode cX9_shift 38 = .ok (.bipush 6, 2) := by decide +kernel
theorem dX9_shift_40 : decode cX9_shift 40 = .ok (.iload 7, 2) := by decide +kernel
theorem dX9_shift_42 : decode cX9_shift 42 = .ok (.isub, 1) := by decide +kernel
theorem dX9_shift_43 : decode cX9_shift 43 = .ok (.goto 7, 3) := by decide +kernel
theorem dX9_shift_46 : decode cX9_shift 46 = .ok (.iload 7, 2) := by decide +kernel
theorem dX9_shift_48 : decode cX9_shift 48 = .ok (.iconst 1, 1) := by decide +kernel
theorem dX9_shift_49 : decode cX9_shift 49 = .ok (.isub, 1) := by decide +kernel
theorem dX9_shift_50 : decode cX9_shift 50 = .ok (.istore 8, 2) := by decide +kernel
theorem dX9_shift_52 : decode cX9_shift 52 = .ok (.aload_n 0, 1) := by decide +kernel
theorem dX9_shift_53 : decode cX9_shift 53 = .ok (.getfield 9, 3) := by decide +kernel
theorem dX9_shift_56 : decode cX9_shift 56 = .ok (.iload 8, 2) := by decide +kernel
theorem dX9_shift_58 : decode cX9_shift 58 = .ok (.aload_n 0, 1) := by decide +kernel
theorem dX9_shift_59 : decode cX9_shift 59 = .ok (.getfield 9, 3) := by decide +kernel
theorem dX9_shift_62 : decode cX9_shift 62 = .ok (.iload_n 2, 1) := by decide +kernel
theorem dX9_shift_63 : decode cX9_shift 63 = .ok (.ifCond .eq 10, 3) := by decide +kernel
theorem dX9_shift_66 : decode cX9_shift 66 = .ok (.iload 8, 2) := by decide +kernel
theorem dX9_shift_68 : decode cX9_shift 68 = .ok (.iconst 1, 1) := by decide +kernel
theorem dX9_shift_69 : decode cX9_shift 69 = .ok (.isub, 1) := by decide +kernel
theorem dX9_shift_70 : decode cX9_shift 70 = .ok (.goto 7, 3) := by decide +kernel
theorem dX9_shift_73 : decode cX9_shift 73 = .ok (.iload 8, 2) := by decide +kernel
theorem dX9_shift_75 : decode cX9_shift 75 = .ok (.iconst 1, 1) := by decide +kernel
theorem dX9_shift_76 : decode cX9_shift 76 = .ok (.iadd, 1) := by decide +kernel
theorem dX9_shift_77 : decode cX9_shift 77 = .ok (.laload, 1) := by decide +kernel
theorem dX9_shift_78 : decode cX9_shift 78 = .ok (.lastore, 1) := by decide +kernel
theorem dX9_shift_79 : decode cX9_shift 79 = .ok (.iinc 7 1, 3) := by decide +kernel
theorem dX9_shift_82 : decode cX9_shift 82 = .ok (.goto (-55), 3) := by decide +kernel
theorem dX9_shift_85 : decode cX9_shift 85 = .ok (.aload_n 0, 1) := by decide +kernel
theorem dX9_shift_86 : decode cX9_shift 86 = .ok (.getfield 9, 3) := by decide +kernel
theorem dX9_shift_89 : decode cX9_shift 89 = .ok (.iload_n 2, 1) := by decide +kernel
theorem dX9_shift_90 : decode cX9_shift 90 = .ok (.ifCond .eq 7, 3) := by decide +kernel
theorem dX9_shift_93 : decode cX9_shift 93 = .ok (.iconst 0, 1) := by decide +kernel
theorem dX9_shift_94 : decode cX9_shift 94 = .ok (.goto 4, 3) := by decide +kernel
theorem dX9_shift_97 : decode cX9_shift 97 = .ok (.iconst 5, 1) := by decide +kernel
theorem dX9_shift_98 : decode cX9_shift 98 = .ok (.lconst 0, 1) := by decide +kernel
theorem dX9_shift_99 : decode cX9_shift 99 = .ok (.lastore, 1) := by decide +kernel
theorem dX9_shift_100 : decode cX9_shift 100 = .ok (.aload_n 0, 1) := by decide +kernel
theorem dX9_shift_101 : decode cX9_shift 101 = .ok (.getfield 9, 3) := by decide +kernel
theorem dX9_shift_104 : decode cX9_shift 104 = .ok (.iload 4, 2) := by decide +kernel
theorem dX9_shift_106 : decode cX9_shift 106 = .ok (.dup2, 1) := by decide +kernel
theorem dX9_shift_107 : decode cX9_shift 107 = .ok (.laload, 1) := by decide +kernel
theorem dX9_shift_108 : decode cX9_shift 108 = .ok (.lload 5, 2) := by decide +kernel
theorem dX9_shift_110 : decode cX9_shift 110 = .ok (.lor, 1) := by decide +kernel
theorem dX9_shift_111 : decode cX9_shift 111 = .ok (.lastore, 1) := by decide +kernel
theorem dX9_shift_112 : decode cX9_shift 112 = .ok (.return_, 1) := by decide +kernel
theorem dX9_shift_113 : decode cX9_shift 113 = .ok (.iload_n 1, 1) := by decide +kernel
theorem dX9_shift_114 : decode cX9_shift 114 = .ok (.iconst 1, 1) := by decide +kernel
theorem dX9_shift_115 : decode cX9_shift 115 = .ok (.if_icmp .ne 8, 3) := by decide +kernel
theorem dX9_shift_118 : decode cX9_shift 118 = .ok (.bipush 6, 2) := by decide +kernel
theorem dX9_shift_120 : decode cX9_shift 120 = .ok (.goto 4, 3) := by decide +kernel
theorem dX9_shift_123 : decode cX9_shift 123 = .ok (.iconst 1, 1) := by decide +kernel
theorem dX9_shift_124 : decode cX9_shift 124 = .ok (.istore 4, 2) := by decide +kernel
theorem dX9_shift_126 : decode cX9_shift 126 = .ok (.iload_n 1, 1) := by decide +kernel
theorem dX9_shift_127 : decode cX9_shift 127 = .ok (.iconst 1, 1) := by decide +kernel
theorem dX9_shift_128 : decode cX9_shift 128 = .ok (.if_icmp .ne 9, 3) := by decide +kernel
theorem dX9_shift_131 : decode cX9_shift 131 = .ok (.ldc2_w 43, 3) := by decide +kernel
theorem dX9_shift_134 : decode cX9_shift 134 = .ok (.goto 6, 3) := by decide +kernel
theorem dX9_shift_137 : decode cX9_shift 137 = .ok (.ldc2_w 45, 3) := by decide +kernel
theorem dX9_shift_140 : decode cX9_shift 140 = .ok (.lstore 5, 2) := by decide +kernel
theorem dX9_shift_142 : decode cX9_shift 142 = .ok (.lload 5, 2) := by decide +kernel
theorem dX9_shift_144 : decode cX9_shift 144 = .ok (.iconst 5, 1) := by decide +kernel
theorem dX9_shift_145 : decode cX9_shift 145 = .ok (.iload 4, 2) := by decide +kernel
theorem dX9_shift_147 : decode cX9_shift 147 = .ok (.imul, 1) := by decide +kernel
theorem dX9_shift_148 : decode cX9_shift 148 = .ok (.lshl, 1) := by decide +kernel
theorem dX9_shift_149 : decode cX9_shift 149 = .ok (.lstore 7, 2) := by decide +kernel
theorem dX9_shift_151 : decode cX9_shift 151 = .ok (.iconst 0, 1) := by decide +kernel
theorem dX9_shift_152 : decode cX9_shift 152 = .ok (.istore 9, 2) := by decide +kernel
theorem dX9_shift_154 : decode cX9_shift 154 = .ok (.iload 9, 2) := by decide +kernel
theorem dX9_shift_156 : decode cX9_shift 156 = .ok (.bipush 6, 2) := by decide +kernel
theorem dX9_shift_158 : decode cX9_shift 158 = .ok (.if_icmp .ge 81, 3) := by decide +kernel
theorem dX9_shift_161 : decode cX9_shift 161 = .ok (.iload_n 2, 1) := by decide +kernel
theorem dX9_shift_162 : decode cX9_shift 162 = .ok (.ifCond .eq 23, 3) := by decide +kernel
theorem dX9_shift_165 : decode cX9_shift 165 = .ok (.aload_n 0, 1) := by decide +kernel
theorem dX9_shift_166 : decode cX9_shift 166 = .ok (.getfield 9, 3) := by decide +kernel
theorem dX9_shift_169 : decode cX9_shift 169 = .ok (.iload 9, 2) := by decide +kernel
theorem dX9_shift_171 : decode cX9_shift 171 = .ok (.laload, 1) := by decide +kernel
theorem dX9_shift_172 : decode cX9_shift 172 = .ok (.lload 7, 2) := by decide +kernel
theorem dX9_shift_174 : decode cX9_shift 174 = .ok (.ldc2_w 24, 3) := by decide +kernel
theorem dX9_shift_177 : decode cX9_shift 177 = .ok (.lxor, 1) := by decide +kernel
theorem dX9_shift_178 : decode cX9_shift 178 = .ok (.land, 1) := by decide +kernel
theorem dX9_shift_179 : decode cX9_shift 179 = .ok (.iload 4, 2) := by decide +kernel
theorem dX9_shift_181 : decode cX9_shift 181 = .ok (.lshl, 1) := by decide +kernel
theorem dX9_shift_182 : decode cX9_shift 182 = .ok (.goto 20, 3) := by decide +kernel
theorem dX9_shift_185 : decode cX9_shift 185 = .ok (.aload_n 0, 1) := by decide +kernel
theorem dX9_shift_186 : decode cX9_shift 186 = .ok (.getfield 9, 3) := by decide +kernel
theorem dX9_shift_189 : decode cX9_shift 189 = .ok (.iload 9, 2) := by decide +kernel
theorem dX9_shift_191 : decode cX9_shift 191 = .ok (.laload, 1) := by decide +kernel
theorem dX9_shift_192 : decode cX9_shift 192 = .ok (.lload 5, 2) := by decide +kernel
theorem dX9_shift_194 : decode cX9_shift 194 = .ok (.ldc2_w 24, 3) := by decide +kernel
end
section
theorem dX9_shift_197 : decode cX9_shift 197 = .ok (.lxor, 1) := by decide +kernel
theorem dX9_shift_198 : decode cX9_shift 198 = .ok (.land, 1) := by decide +kernel
theorem dX9_shift_199 : decode cX9_shift 199 = .ok (.iload 4, 2) := by decide +kernel
theorem dX9_shift_201 : decode cX9_shift 201 = .ok (.lushr, 1) := by decide +kernel
theorem dX9_shift_202 : decode cX9_shift 202 = .ok (.lstore 10, 2) := by decide +kernel
theorem dX9_shift_204 : decode cX9_shift 204 = .ok (.aload_n 0, 1) := by decide +kernel
theorem dX9_shift_205 : decode cX9_shift 205 = .ok (.getfield 9, 3) := by decide +kernel
theorem dX9_shift_208 : decode cX9_shift 208 = .ok (.iload 9, 2) := by decide +kernel
theorem dX9_shift_210 : decode cX9_shift 210 = .ok (.lload 10, 2) := by decide +kernel
theorem dX9_shift_212 : decode cX9_shift 212 = .ok (.aload_n 0, 1) := by decide +kernel
theorem dX9_shift_213 : decode cX9_shift 213 = .ok (.getfield 9, 3) := by decide +kernel
theorem dX9_shift_216 : decode cX9_shift 216 = .ok (.iload 9, 2) := by decide +kernel
theorem dX9_shift_218 : decode cX9_shift 218 = .ok (.laload, 1) := by decide +kernel
theorem dX9_shift_219 : decode cX9_shift 219 = .ok (.iload_n 3, 1) := by decide +kernel
theorem dX9_shift_220 : decode cX9_shift 220 = .ok (.ifCond .eq 8, 3) := by decide +kernel
theorem dX9_shift_223 : decode cX9_shift 223 = .ok (.lload 7, 2) := by decide +kernel
theorem dX9_shift_225 : decode cX9_shift 225 = .ok (.goto 5, 3) := by decide +kernel
theorem dX9_shift_228 : decode cX9_shift 228 = .ok (.lload 5, 2) := by decide +kernel
theorem dX9_shift_230 : decode cX9_shift 230 = .ok (.land, 1) := by decide +kernel
theorem dX9_shift_231 : decode cX9_shift 231 = .ok (.lor, 1) := by decide +kernel
theorem dX9_shift_232 : decode cX9_shift 232 = .ok (.lastore, 1) := by decide +kernel
theorem dX9_shift_233 : decode cX9_shift 233 = .ok (.iinc 9 1, 3) := by decide +kernel
theorem dX9_shift_236 : decode cX9_shift 236 = .ok (.goto (-82), 3) := by decide +kernel
theorem dX9_shift_239 : decode cX9_shift 239 = .ok (.return_, 1) := by decide +kernel
theorem dX10_init_0 : decode cX10_init 0 = .ok (.aload_n 0, 1) := by decide +kernel
theorem dX10_init_1 : decode cX10_init 1 = .ok (.invokespecial 1, 3) := by decide +kernel
theorem dX10_init_4 : decode cX10_init 4 = .ok (.aload_n 0, 1) := by decide +kernel
theorem dX10_init_5 : decode cX10_init 5 = .ok (.aload_n 1, 1) := by decide +kernel
theorem dX10_init_6 : decode cX10_init 6 = .ok (.putfield 7, 3) := by decide +kernel
theorem dX10_init_9 : decode cX10_init 9 = .ok (.return_, 1) := by decide +kernel
theorem dX10_isStatement_0 : decode cX10_isStatement 0 = .ok (.aload_n 0, 1) := by decide +kernel
theorem dX10_isStatement_1 : decode cX10_isStatement 1 = .ok (.getfield 13, 3) := by decide +kernel
theorem dX10_isStatement_4 : decode cX10_isStatement 4 = .ok (.bipush 7, 2) := by decide +kernel
theorem dX10_isStatement_6 : decode cX10_isStatement 6 = .ok (.if_icmp .eq 25, 3) := by decide +kernel
theorem dX10_isStatement_9 : decode cX10_isStatement 9 = .ok (.aload_n 0, 1) := by decide +kernel
theorem dX10_isStatement_10 : decode cX10_isStatement 10 = .ok (.getfield 13, 3) := by decide +kernel
theorem dX10_isStatement_13 : decode cX10_isStatement 13 = .ok (.bipush 9, 2) := by decide +kernel
theorem dX10_isStatement_15 : decode cX10_isStatement 15 = .ok (.if_icmp .eq 16, 3) := by decide +kernel
theorem dX10_isStatement_18 : decode cX10_isStatement 18 = .ok (.aload_n 0, 1) := by decide +kernel
theorem dX10_isStatement_19 : decode cX10_isStatement 19 = .ok (.getfield 13, 3) := by decide +kernel
theorem dX10_isStatement_22 : decode cX10_isStatement 22 = .ok (.bipush 10, 2) := by decide +kernel
theorem dX10_isStatement_24 : decode cX10_isStatement 24 = .ok (.if_icmp .eq 7, 3) := by decide +kernel
theorem dX10_isStatement_27 : decode cX10_isStatement 27 = .ok (.iconst 1, 1) := by decide +kernel
theorem dX10_isStatement_28 : decode cX10_isStatement 28 = .ok (.goto 4, 3) := by decide +kernel
theorem dX10_isStatement_31 : decode cX10_isStatement 31 = .ok (.iconst 0, 1) := by decide +kernel
theorem dX10_isStatement_32 : decode cX10_isStatement 32 = .ok (.ireturn, 1) := by decide +kernel
theorem dX11_init_0 : decode cX11_init 0 = .ok (.aload_n 0, 1) := by decide +kernel
theorem dX11_init_1 : decode cX11_init 1 = .ok (.invokespecial 3, 3) := by decide +kernel
theorem dX11_init_4 : decode cX11_init 4 = .ok (.aload_n 0, 1) := by decide +kernel
theorem dX11_init_5 : decode cX11_init 5 = .ok (.bipush 60, 2) := by decide +kernel
theorem dX11_init_7 : decode cX11_init 7 = .ok (.newarray .char, 2) := by decide +kernel
theorem dX11_init_9 : decode cX11_init 9 = .ok (.putfield 9, 3) := by decide +kernel
theorem dX11_init_12 : decode cX11_init 12 = .ok (.aload_n 0, 1) := by decide +kernel
theorem dX11_init_13 : decode cX11_init 13 = .ok (.new 13, 3) := by decide +kernel
theorem dX11_init_16 : decode cX11_init 16 = .ok (.dup, 1) := by decide +kernel
theorem dX11_init_17 : decode cX11_init 17 = .ok (.invokespecial 15, 3) := by decide +kernel
theorem dX11_init_20 : decode cX11_init 20 = .ok (.putfield 16, 3) := by decide +kernel
theorem dX11_init_23 : decode cX11_init 23 = .ok (.aload_n 0, 1) := by decide +kernel
theorem dX11_init_24 : decode cX11_init 24 = .ok (.new 20, 3) := by decide +kernel
theorem dX11_init_27 : decode cX11_init 27 = .ok (.dup, 1) := by decide +kernel
theorem dX11_init_28 : decode cX11_init 28 = .ok (.invokespecial 22, 3) := by decide +kernel
theorem dX11_init_31 : decode cX11_init 31 = .ok (.putfield 23, 3) := by decide +kernel
theorem dX11_init_34 : decode cX11_init 34 = .ok (.aload_n 0, 1) := by decide +kernel
theorem dX11_init_35 : decode cX11_init 35 = .ok (.new 20, 3) := by decide +kernel
theorem dX11_init_38 : decode cX11_init 38 = .ok (.dup, 1) := by decide +kernel
theorem dX11_init_39 : decode cX11_init 39 = .ok (.invokespecial 22, 3) := by decide +kernel
theorem dX11_init_42 : decode cX11_init 42 = .ok (.putfield 27, 3) := by decide +kernel
theorem dX11_init_45 : decode cX11_init 45 = .ok (.aload_n 0, 1) := by decide +kernel
theorem dX11_init_46 : decode cX11_init 46 = .ok (.new 30, 3) := by decide +kernel
theorem dX11_init_49 : decode cX11_init 49 = .ok (.dup, 1) := by decide +kernel
theorem dX11_init_50 : decode cX11_init 50 = .ok (.invokespecial 32, 3) := by decide +kernel
theorem dX11_init_53 : decode cX11_init 53 = .ok (.putfield 33, 3) := by decide +kernel
theorem dX11_init_56 : decode cX11_init 56 = .ok (.aload_n 0, 1) := by decide +kernel
theorem dX11_init_57 : decode cX11_init 57 = .ok (.new 30, 3) := by decide +kernel
theorem dX11_init_60 : decode cX11_init 60 = .ok (.dup, 1) := by decide +kernel
theorem dX11_init_61 : decode cX11_init 61 = .ok (.invokespecial 32, 3) := by decide +kernel
theorem dX11_init_64 : decode cX11_init 64 = .ok (.putfield 37, 3) := by decide +kernel
theorem dX11_init_67 : decode cX11_init 67 = .ok (.aload_n 0, 1) := by decide +kernel
theorem dX11_init_68 : decode cX11_init 68 = .ok (.bipush 14, 2) := by decide +kernel
theorem dX11_init_70 : decode cX11_init 70 = .ok (.newarray .int, 2) := by decide +kernel
theorem dX11_init_72 : decode cX11_init 72 = .ok (.putfield 40, 3) := by decide +kernel
theorem dX11_init_75 : decode cX11_init 75 = .ok (.aload_n 0, 1) := by decide +kernel
theorem dX11_init_76 : decode cX11_init 76 = .ok (.iconst 2, 1) := by decide +kernel
theorem dX11_init_77 : decode cX11_init 77 = .ok (.newarray .int, 2) := by decide +kernel
theorem dX11_init_79 : decode cX11_init 79 = .ok (.putfield 44, 3) := by decide +kernel
theorem dX11_init_82 : decode cX11_init 82 = .ok (.aload_n 0, 1) := by decide +kernel
theorem dX11_init_83 : decode cX11_init 83 = .ok (.bipush 6, 2) := by decide +kernel
theorem dX11_init_85 : decode cX11_init 85 = .ok (.newarray .int, 2) := by decide +kernel
theorem dX11_init_87 : decode cX11_init 87 = .ok (.putfield 47, 3) := by decide +kernel
theorem dX11_init_90 : decode cX11_init 90 = .ok (.aload_n 0, 1) := by decide +kernel
theorem dX11_init_91 : decode cX11_init 91 = .ok (.bipush 6, 2) := by decide +kernel
theorem dX11_init_93 : decode cX11_init 93 = .ok (.newarray .int, 2) := by decide +kernel
theorem dX11_init_95 : decode cX11_init 95 = .ok (.putfield 50, 3) := by decide +kernel
theorem dX11_init_98 : decode cX11_init 98 = .ok (.aload_n 0, 1) := by decide +kernel
theorem dX11_init_99 : decode cX11_init 99 = .ok (.iconst 4, 1) := by decide +kernel
theorem dX11_init_100 : decode cX11_init 100 = .ok (.newarray .int, 2) := by decide +kernel
theorem dX11_init_102 : decode cX11_init 102 = .ok (.putfield 53, 3) := by decide +kernel
theorem dX11_init_105 : decode cX11_init 105 = .ok (.aload_n 0, 1) := by decide +kernel
theorem dX11_init_106 : decode cX11_init 106 = .ok (.new 56, 3) := by decide +kernel
theorem dX11_init_109 : decode cX11_init 109 = .ok (.dup, 1) := by decide +kernel
theorem dX11_init_110 : decode cX11_init 110 = .ok (.invokespecial 58, 3) := by decide +kernel
theorem dX11_init_113 : decode cX11_init 113 = .ok (.putfield 59, 3) := by decide +kernel
theorem dX11_init_116 : decode cX11_init 116 = .ok (.aload_n 0, 1) := by decide +kernel
theorem dX11_init_117 : decode cX11_init 117 = .ok (.new 63, 3) := by decide +kernel
theorem dX11_init_120 : decode cX11_init 120 = .ok (.dup, 1) := by decide +kernel
theorem dX11_init_121 : decode cX11_init 121 = .ok (.aload_n 0, 1) := by decide +kernel
theorem dX11_init_122 : decode cX11_init 122 = .ok (.getfield 23, 3) := by decide +kernel
theorem dX11_init_125 : decode cX11_init 125 = .ok (.invokespecial 65, 3) := by decide +kernel
theorem dX11_init_128 : decode cX11_init 128 = .ok (.putfield 68, 3) := by decide +kernel
theorem dX11_init_131 : decode cX11_init 131 = .ok (.aload_n 0, 1) := by decide +kernel
theorem dX11_init_132 : decode cX11_init 132 = .ok (.new 72, 3) := by decide +kernel
theorem dX11_init_135 : decode cX11_init 135 = .ok (.dup, 1) := by decide +kernel
theorem dX11_init_136 : decode cX11_init 136 = .ok (.invokespecial 74, 3) := by decide +kernel
theorem dX11_init_139 : decode cX11_init 139 = .ok (.putfield 75, 3) := by decide +kernel
theorem dX11_init_142 : decode cX11_init 142 = .ok (.aload_n 0, 1) := by decide +kernel
theorem dX11_init_143 : decode cX11_init 143 = .ok (.invokevirtual 79, 3) := by decide +kernel
theorem dX11_init_146 : decode cX11_init 146 = .ok (.return_, 1) := by decide +kernel
theorem dX11_write_0 : decode cX11_write 0 = .ok (.iload_n 1, 1) := by decide +kernel
theorem dX11_write_1 : decode cX11_write 1 = .ok (.ifCond .lt 10, 3) := by decide +kernel
theorem dX11_write_4 : decode cX11_write 4 = .ok (.iload_n 1, 1) := by decide +kernel
theorem dX11_write_5 : decode cX11_write 5 = .ok (.sipush 255, 3) := by decide +kernel
theorem dX11_write_8 : decode cX11_write 8 = .ok (.if_icmp .le 6, 3) := by decide +kernel
theorem dX11_write_11 : decode cX11_write 11 = .ok (.bipush (-2), 2) := by decide +kernel
theorem dX11_write_13 : decode cX11_write 13 = .ok (.ireturn, 1) := by decide +kernel
theorem dX11_write_14 : decode cX11_write 14 = .ok (.aload_n 0, 1) := by decide +kernel
theorem dX11_write_15 : decode cX11_write 15 = .ok (.getfield 82, 3) := by decide +kernel
theorem dX11_write_18 : decode cX11_write 18 = .ok (.ifCond .lt 15, 3) := by decide +kernel
theorem dX11_write_21 : decode cX11_write 21 = .ok (.aload_n 0, 1) := by decide +kernel
theorem dX11_write_22 : decode cX11_write 22 = .ok (.getfield 82, 3) := by decide +kernel
theorem dX11_write_25 : decode cX11_write 25 = .ok (.aload_n 0, 1) := by decide +kernel
theorem dX11_write_26 : decode cX11_write 26 = .ok (.getfield 9, 3) := by decide +kernel
theorem dX11_write_29 : decode cX11_write 29 = .ok (.arraylength, 1) := by decide +kernel
theorem dX11_write_30 : decode cX11_write 30 = .ok (.if_icmp .lt 6, 3) := by decide +kernel
theorem dX11_write_33 : decode cX11_write 33 = .ok (.bipush (-4), 2) := by decide +kernel
theorem dX11_write_35 : decode cX11_write 35 = .ok (.ireturn, 1) := by decide +kernel
theorem dX11_write_36 : decode cX11_write 36 = .ok (.aload_n 0, 1) := by decide +kernel
theorem dX11_write_37 : decode cX11_write 37 = .ok (.getfield 9, 3) := by decide +kernel
theorem dX11_write_40 : decode cX11_write 40 = .ok (.aload_n 0, 1) := by decide +kernel
theorem dX11_write_41 : decode cX11_write 41 = .ok (.getfield 82, 3) := by decide +kernel
theorem dX11_write_44 : decode cX11_write 44 = .ok (.iload_n 1, 1) := by decide +kernel
theorem dX11_write_45 : decode cX11_write 45 = .ok (.i2c, 1) := by decide +kernel
theorem dX11_write_46 : decode cX11_write 46 = .ok (.castore, 1) := by decide +kernel
theorem dX11_write_47 : decode cX11_write 47 = .ok (.aload_n 0, 1) := by decide +kernel
theorem dX11_write_48 : decode cX11_write 48 = .ok (.dup, 1) := by decide +kernel
theorem dX11_write_49 : decode cX11_write 49 = .ok (.getfield 82, 3) := by decide +kernel
theorem dX11_write_52 : decode cX11_write 52 = .ok (.iconst 1, 1) := by decide +kernel
theorem dX11_write_53 : decode cX11_write 53 = .ok (.iadd, 1) := by decide +kernel
theorem dX11_write_54 : decode cX11_write 54 = .ok (.putfield 82, 3) := by decide +kernel
theorem dX11_write_57 : decode cX11_write 57 = .ok (.aload_n 0, 1) := by decide +kernel
theorem dX11_write_58 : decode cX11_write 58 = .ok (.getfield 82, 3) := by decide +kernel
theorem dX11_write_61 : decode cX11_write 61 = .ok (.ireturn, 1) := by decide +kernel
theorem dX11_wipe_0 : decode cX11_wipe 0 = .ok (.aload_n 0, 1) := by decide +kernel
theorem dX11_wipe_1 : decode cX11_wipe 1 = .ok (.getfield 82, 3) := by decide +kernel
theorem dX11_wipe_4 : decode cX11_wipe 4 = .ok (.istore_n 1, 1) := by decide +kernel
theorem dX11_wipe_5 : decode cX11_wipe 5 = .ok (.aload_n 0, 1) := by decide +kernel
theorem dX11_wipe_6 : decode cX11_wipe 6 = .ok (.iconst 0, 1) := by decide +kernel
theorem dX11_wipe_7 : decode cX11_wipe 7 = .ok (.putfield 82, 3) := by decide +kernel
theorem dX11_wipe_10 : decode cX11_wipe 10 = .ok (.iload_n 1, 1) := by decide +kernel
theorem dX11_wipe_11 : decode cX11_wipe 11 = .ok (.ireturn, 1) := by decide +kernel
theorem dX11_fault_0 : decode cX11_fault 0 = .ok (.aload_n 0, 1) := by decide +kernel
theorem dX11_fault_1 : decode cX11_fault 1 = .ok (.getfield 16, 3) := by decide +kernel
theorem dX11_fault_4 : decode cX11_fault 4 = .ok (.aload_n 0, 1) := by decide +kernel
theorem dX11_fault_5 : decode cX11_fault 5 = .ok (.getfield 9, 3) := by decide +kernel
theorem dX11_fault_8 : decode cX11_fault 8 = .ok (.aload_n 0, 1) := by decide +kernel
theorem dX11_fault_9 : decode cX11_fault 9 = .ok (.getfield 82, 3) := by decide +kernel
theorem dX11_fault_12 : decode cX11_fault 12 = .ok (.aload_n 0, 1) := by decide +kernel
theorem dX11_fault_13 : decode cX11_fault 13 = .ok (.getfield 27, 3) := by decide +kernel
theorem dX11_fault_16 : decode cX11_fault 16 = .ok (.invokevirtual 86, 3) := by decide +kernel
theorem dX11_fault_19 : decode cX11_fault 19 = .ok (.ireturn, 1) := by decide +kernel
theorem dX11_program_0 : decode cX11_program 0 = .ok (.aload_n 0, 1) := by decide +kernel
theorem dX11_program_1 : decode cX11_program 1 = .ok (.getfield 16, 3) := by decide +kernel
theorem dX11_program_4 : decode cX11_program 4 = .ok (.aload_n 0, 1) := by decide +kernel
theorem dX11_program_5 : decode cX11_program 5 = .ok (.getfield 9, 3) := by decide +kernel
theorem dX11_program_8 : decode cX11_program 8 = .ok (.aload_n 0, 1) := by decide +kernel
theorem dX11_program_9 : decode cX11_program 9 = .ok (.getfield 82, 3) := by decide +kernel
theorem dX11_program_12 : decode cX11_program 12 = .ok (.aload_n 0, 1) := by decide +kernel
theorem dX11_program_13 : decode cX11_program 13 = .ok (.getfield 27, 3) := by decide +kernel
theorem dX11_program_16 : decode cX11_program 16 = .ok (.invokevirtual 86, 3) := by decide +kernel
theorem dX11_program_19 : decode cX11_program 19 = .ok (.bipush (-9), 2) := by decide +kernel
theorem dX11_program_21 : decode cX11_program 21 = .ok (.if_icmp .eq 6, 3) := by decide +kernel
theorem dX11_program_24 : decode cX11_program 24 = .ok (.bipush (-3), 2) := by decide +kernel
theorem dX11_program_26 : decode cX11_program 26 = .ok (.ireturn, 1) := by decide +kernel
theorem dX11_program_27 : decode cX11_program 27 = .ok (.aload_n 0, 1) := by decide +kernel
theorem dX11_program_28 : decode cX11_program 28 = .ok (.getfield 23, 3) := by decide +kernel
theorem dX11_program_31 : decode cX11_program 31 = .ok (.astore_n 1, 1) := by decide +kernel
theorem dX11_program_32 : decode cX11_program 32 = .ok (.aload_n 0, 1) := by decide +kernel
theorem dX11_program_33 : decode cX11_program 33 = .ok (.aload_n 0, 1) := by decide +kernel
theorem dX11_program_34 : decode cX11_program 34 = .ok (.getfield 27, 3) := by decide +kernel
theorem dX11_program_37 : decode cX11_program 37 = .ok (.putfield 23, 3) := by decide +kernel
theorem dX11_program_40 : decode cX11_program 40 = .ok (.aload_n 0, 1) := by decide +kernel
theorem dX11_program_41 : decode cX11_program 41 = .ok (.aload_n 1, 1) := by decide +kernel
theorem dX11_program_42 : decode cX11_program 42 = .ok (.putfield 27, 3) := by decide +kernel
theorem dX11_program_45 : decode cX11_program 45 = .ok (.aload_n 0, 1) := by decide +kernel
theorem dX11_program_46 : decode cX11_program 46 = .ok (.getfield 23, 3) := by decide +kernel
theorem dX11_program_49 : decode cX11_program 49 = .ok (.invokevirtual 90, 3) := by decide +kernel
theorem dX11_program_52 : decode cX11_program 52 = .ok (.aload_n 0, 1) := by decide +kernel
theorem dX11_program_53 : decode cX11_program 53 = .ok (.getfield 33, 3) := by decide +kernel
theorem dX11_program_56 : decode cX11_program 56 = .ok (.invokevirtual 93, 3) := by decide +kernel
theorem dX11_program_59 : decode cX11_program 59 = .ok (.aload_n 0, 1) := by decide +kernel
theorem dX11_program_60 : decode cX11_program 60 = .ok (.iconst 0, 1) := by decide +kernel
theorem dX11_program_61 : decode cX11_program 61 = .ok (.putfield 96, 3) := by decide +kernel
theorem dX11_program_64 : decode cX11_program 64 = .ok (.aload_n 0, 1) := by decide +kernel
theorem dX11_program_65 : decode cX11_program 65 = .ok (.invokevirtual 79, 3) := by decide +kernel
theorem dX11_program_68 : decode cX11_program 68 = .ok (.aload_n 0, 1) := by decide +kernel
theorem dX11_program_69 : decode cX11_program 69 = .ok (.getfield 68, 3) := by decide +kernel
theorem dX11_program_72 : decode cX11_program 72 = .ok (.aload_n 0, 1) := by decide +kernel
theorem dX11_program_73 : decode cX11_program 73 = .ok (.getfield 23, 3) := by decide +kernel
theorem dX11_program_76 : decode cX11_program 76 = .ok (.invokevirtual 99, 3) := by decide +kernel
theorem dX11_program_79 : decode cX11_program 79 = .ok (.aload_n 0, 1) := by decide +kernel
theorem dX11_program_80 : decode cX11_program 80 = .ok (.getfield 23, 3) := by decide +kernel
theorem dX11_program_83 : decode cX11_program 83 = .ok (.getfield 102, 3) := by decide +kernel
theorem dX11_program_86 : decode cX11_program 86 = .ok (.ireturn, 1) := by decide +kernel
theorem dX11_emptySlots_0 : decode cX11_emptySlots 0 = .ok (.iconst 0, 1) := by decide +kernel
theorem dX11_emptySlots_1 : decode cX11_emptySlots 1 = .ok (.istore_n 1, 1) := by decide +kernel
theorem dX11_emptySlots_2 : decode cX11_emptySlots 2 = .ok (.iload_n 1, 1) := by decide +kernel
theorem dX11_emptySlots_3 : decode cX11_emptySlots 3 = .ok (.aload_n 0, 1) := by decide +kernel
theorem dX11_emptySlots_4 : decode cX11_emptySlots 4 = .ok (.getfield 44, 3) := by decide +kernel
theorem dX11_emptySlots_7 : decode cX11_emptySlots 7 = .ok (.arraylength, 1) := by decide +kernel
theorem dX11_emptySlots_8 : decode cX11_emptySlots 8 = .ok (.if_icmp .ge 16, 3) := by decide +kernel
theorem dX11_emptySlots_11 : decode cX11_emptySlots 11 = .ok (.aload_n 0, 1) := by decide +kernel
theorem dX11_emptySlots_12 : decode cX11_emptySlots 12 = .ok (.getfield 44, 3) := by decide +kernel
theorem dX11_emptySlots_15 : decode cX11_emptySlots 15 = .ok (.iload_n 1, 1) := by decide +kernel
theorem dX11_emptySlots_16 : decode cX11_emptySlots 16 = .ok (.iconst (-1), 1) := by decide +kernel
theorem dX11_emptySlots_17 : decode cX11_emptySlots 17 = .ok (.iastore, 1) := by decide +kernel
theorem dX11_emptySlots_18 : decode cX11_emptySlots 18 = .ok (.iinc 1 1, 3) := by decide +kernel
theorem dX11_emptySlots_21 : decode cX11_emptySlots 21 = .ok (.goto (-19), 3) := by decide +kernel
theorem dX11_emptySlots_24 : decode cX11_emptySlots 24 = .ok (.return_, 1) := by decide +kernel
theorem dX11_about_0 : decode cX11_about 0 = .ok (.iload_n 1, 1) := by decide +kernel
theorem dX11_about_1 : decode cX11_about 1 = .ok (.tableswitch 204 0 11 #[63, 71, 79, 87, 95, 103, 123, 142, 171, 189, 194, 199], 63) := by decide +kernel
theorem dX11_about_64 : decode cX11_about 64 = .ok (.aload_n 0, 1) := by decide +kernel
theorem dX11_about_65 : decode cX11_about 65 = .ok (.getfield 23, 3) := by decide +kernel
theorem dX11_about_68 : decode cX11_about 68 = .ok (.getfield 105, 3) := by decide +kernel
theorem dX11_about_71 : decode cX11_about 71 = .ok (.ireturn, 1) := by decide +kernel
theorem dX11_about_72 : decode cX11_about 72 = .ok (.aload_n 0, 1) := by decide +kernel
theorem dX11_about_73 : decode cX11_about 73 = .ok (.getfield 23, 3) := by decide +kernel
theorem dX11_about_76 : decode cX11_about 76 = .ok (.getfield 108, 3) := by decide +kernel
theorem dX11_about_79 : decode cX11_about 79 = .ok (.ireturn, 1) := by decide +kernel
theorem dX11_about_80 : decode cX11_about 80 = .ok (.aload_n 0, 1) := by decide +kernel
theorem dX11_about_81 : decode cX11_about 81 = .ok (.getfield 23, 3) := by decide +kernel
theorem dX11_about_84 : decode cX11_about 84 = .ok (.getfield 111, 3) := by decide +kernel
theorem dX11_about_87 : decode cX11_about 87 = .ok (.ireturn, 1) := by decide +kernel
theorem dX11_about_88 : decode cX11_about 88 = .ok (.aload_n 0, 1) := by decide +kernel
theorem dX11_about_89 : decode cX11_about 89 = .ok (.getfield 23, 3) := by decide +kernel
theorem dX11_about_92 : decode cX11_about 92 = .ok (.getfield 114, 3) := by decide +kernel
theorem dX11_about_95 : decode cX11_about 95 = .ok (.ireturn, 1) := by decide +kernel
theorem dX11_about_96 : decode cX11_about 96 = .ok (.aload_n 0, 1) := by decide +kernel
theorem dX11_about_97 : decode cX11_about 97 = .ok (.getfield 33, 3) := by decide +kernel
theorem dX11_about_100 : decode cX11_about 100 = .ok (.getfield 117, 3) := by decide +kernel
theorem dX11_about_103 : decode cX11_about 103 = .ok (.ireturn, 1) := by decide +kernel
theorem dX11_about_104 : decode cX11_about 104 = .ok (.aload_n 0, 1) := by decide +kernel
theorem dX11_about_105 : decode cX11_about 105 = .ok (.aload_n 0, 1) := by decide +kernel
theorem dX11_about_106 : decode cX11_about 106 = .ok (.getfield 33, 3) := by decide +kernel
theorem dX11_about_109 : decode cX11_about 109 = .ok (.invokevirtual 120, 3) := by decide +kernel
theorem dX11_about_112 : decode cX11_about 112 = .ok (.aload_n 0, 1) := by decide +kernel
theorem dX11_about_113 : decode cX11_about 113 = .ok (.aload_n 0, 1) := by decide +kernel
theorem dX11_about_114 : decode cX11_about 114 = .ok (.getfield 33, 3) := by decide +kernel
theorem dX11_about_117 : decode cX11_about 117 = .ok (.invokevirtual 124, 3) := by decide +kernel
theorem dX11_about_120 : decode cX11_about 120 = .ok (.invokevirtual 128, 3) := by decide +kernel
theorem dX11_about_123 : decode cX11_about 123 = .ok (.ireturn, 1) := by decide +kernel
theorem dX11_about_124 : decode cX11_about 124 = .ok (.aload_n 0, 1) := by decide +kernel
theorem dX11_about_125 : decode cX11_about 125 = .ok (.getfield 23, 3) := by decide +kernel
theorem dX11_about_128 : decode cX11_about 128 = .ok (.aload_n 0, 1) := by decide +kernel
theorem dX11_about_129 : decode cX11_about 129 = .ok (.aload_n 0, 1) := by decide +kernel
theorem dX11_about_130 : decode cX11_about 130 = .ok (.getfield 33, 3) := by decide +kernel
theorem dX11_about_133 : decode cX11_about 133 = .ok (.invokevirtual 120, 3) := by decide +kernel
theorem dX11_about_136 : decode cX11_about 136 = .ok (.invokevirtual 132, 3) := by decide +kernel
theorem dX11_about_139 : decode cX11_about 139 = .ok (.invokevirtual 136, 3) := by decide +kernel
theorem dX11_about_142 : decode cX11_about 142 = .ok (.ireturn, 1) := by decide +kernel
theorem dX11_about_143 : decode cX11_about 143 = .ok (.aload_n 0, 1) := by decide +kernel
theorem dX11_about_144 : decode cX11_about 144 = .ok (.aload_n 0, 1) := by decide +kernel
theorem dX11_about_145 : decode cX11_about 145 = .ok (.getfield 33, 3) := by decide +kernel
theorem dX11_about_148 : decode cX11_about 148 = .ok (.invokevirtual 120, 3) := by decide +kernel
theorem dX11_about_151 : decode cX11_about 151 = .ok (.aload_n 0, 1) := by decide +kernel
theorem dX11_about_152 : decode cX11_about 152 = .ok (.aload_n 0, 1) := by decide +kernel
theorem dX11_about_153 : decode cX11_about 153 = .ok (.getfield 33, 3) := by decide +kernel
theorem dX11_about_156 : decode cX11_about 156 = .ok (.invokevirtual 124, 3) := by decide +kernel
theorem dX11_about_159 : decode cX11_about 159 = .ok (.invokevirtual 140, 3) := by decide +kernel
theorem dX11_about_162 : decode cX11_about 162 = .ok (.getfield 144, 3) := by decide +kernel
theorem dX11_about_165 : decode cX11_about 165 = .ok (.getfield 150, 3) := by decide +kernel
theorem dX11_about_168 : decode cX11_about 168 = .ok (.invokevirtual 155, 3) := by decide +kernel
theorem dX11_about_171 : decode cX11_about 171 = .ok (.ireturn, 1) := by decide +kernel
theorem dX11_about_172 : decode cX11_about 172 = .ok (.aload_n 0, 1) := by decide +kernel
theorem dX11_about_173 : decode cX11_about 173 = .ok (.aload_n 0, 1) := by decide +kernel
theorem dX11_about_174 : decode cX11_about 174 = .ok (.getfield 33, 3) := by decide +kernel
theorem dX11_about_177 : decode cX11_about 177 = .ok (.invokevirtual 120, 3) := by decide +kernel
theorem dX11_about_180 : decode cX11_about 180 = .ok (.invokevirtual 132, 3) := by decide +kernel
theorem dX11_about_183 : decode cX11_about 183 = .ok (.getfield 150, 3) := by decide +kernel
theorem dX11_about_186 : decode cX11_about 186 = .ok (.invokevirtual 155, 3) := by decide +kernel
theorem dX11_about_189 : decode cX11_about 189 = .ok (.ireturn, 1) := by decide +kernel
theorem dX11_about_190 : decode cX11_about 190 = .ok (.aload_n 0, 1) := by decide +kernel
theorem dX11_about_191 : decode cX11_about 191 = .ok (.getfield 96, 3) := by decide +kernel
theorem dX11_about_194 : decode cX11_about 194 = .ok (.ireturn, 1) := by decide +kernel
theorem dX11_about_195 : decode cX11_about 195 = .ok (.aload_n 0, 1) := by decide +kernel
theorem dX11_about_196 : decode cX11_about 196 = .ok (.getfield 159, 3) := by decide +kernel
theorem dX11_about_199 : decode cX11_about 199 = .ok (.ireturn, 1) := by decide +kernel
theorem dX11_about_200 : decode cX11_about 200 = .ok (.aload_n 0, 1) := by decide +kernel
theorem dX11_about_201 : decode cX11_about 201 = .ok (.getfield 82, 3) := by decide +kernel
theorem dX11_about_204 : decode cX11_about 204 = .ok (.ireturn, 1) := by decide +kernel
theorem dX11_about_205 : decode cX11_about 205 = .ok (.bipush (-2), 2) := by decide +kernel
theorem dX11_about_207 : decode cX11_about 207 = .ok (.ireturn, 1) := by decide +kernel
theorem dX11_loop_0 : decode cX11_loop 0 = .ok (.iload_n 1, 1) := by decide +kernel
theorem dX11_loop_1 : decode cX11_loop 1 = .ok (.ifCond .lt 19, 3) := by decide +kernel
theorem dX11_loop_4 : decode cX11_loop 4 = .ok (.iload_n 1, 1) := by decide +kernel
theorem dX11_loop_5 : decode cX11_loop 5 = .ok (.aload_n 0, 1) := by decide +kernel
theorem dX11_loop_6 : decode cX11_loop 6 = .ok (.getfield 23, 3) := by decide +kernel
theorem dX11_loop_9 : decode cX11_loop 9 = .ok (.getfield 108, 3) := by decide +kernel
theorem dX11_loop_12 : decode cX11_loop 12 = .ok (.if_icmp .ge 8, 3) := by decide +kernel
theorem dX11_loop_15 : decode cX11_loop 15 = .ok (.iload_n 1, 1) := by decide +kernel
theorem dX11_loop_16 : decode cX11_loop 16 = .ok (.iconst 3, 1) := by decide +kernel
theorem dX11_loop_17 : decode cX11_loop 17 = .ok (.if_icmp .lt 5, 3) := by decide +kernel
theorem dX11_loop_20 : decode cX11_loop 20 = .ok (.iconst (-1), 1) := by decide +kernel
theorem dX11_loop_21 : decode cX11_loop 21 = .ok (.ireturn, 1) := by decide +kernel
theorem dX11_loop_22 : decode cX11_loop 22 = .ok (.iload_n 2, 1) := by decide +kernel
theorem dX11_loop_23 : decode cX11_loop 23 = .ok (.ifCond .lt 8, 3) := by decide +kernel
theorem dX11_loop_26 : decode cX11_loop 26 = .ok (.iload_n 2, 1) := by decide +kernel
theorem dX11_loop_27 : decode cX11_loop 27 = .ok (.iconst 3, 1) := by decide +kernel
theorem dX11_loop_28 : decode cX11_loop 28 = .ok (.if_icmp .le 6, 3) := by decide +kernel
theorem dX11_loop_31 : decode cX11_loop 31 = .ok (.bipush (-2), 2) := by decide +kernel
theorem dX11_loop_33 : decode cX11_loop 33 = .ok (.ireturn, 1) := by decide +kernel
theorem dX11_loop_34 : decode cX11_loop 34 = .ok (.iload_n 2, 1) := by decide +kernel
theorem dX11_loop_35 : decode cX11_loop 35 = .ok (.iconst 2, 1) := by decide +kernel
theorem dX11_loop_36 : decode cX11_loop 36 = .ok (.if_icmp .ne 23, 3) := by decide +kernel
theorem dX11_loop_39 : decode cX11_loop 39 = .ok (.aload_n 0, 1) := by decide +kernel
theorem dX11_loop_40 : decode cX11_loop 40 = .ok (.aload_n 0, 1) := by decide +kernel
theorem dX11_loop_41 : decode cX11_loop 41 = .ok (.getfield 33, 3) := by decide +kernel
theorem dX11_loop_44 : decode cX11_loop 44 = .ok (.invokevirtual 120, 3) := by decide +kernel
theorem dX11_loop_47 : decode cX11_loop 47 = .ok (.invokevirtual 132, 3) := by decide +kernel
theorem dX11_loop_50 : decode cX11_loop 50 = .ok (.getfield 162, 3) := by decide +kernel
theorem dX11_loop_53 : decode cX11_loop 53 = .ok (.iload_n 1, 1) := by decide +kernel
theorem dX11_loop_54 : decode cX11_loop 54 = .ok (.aaload, 1) := by decide +kernel
theorem dX11_loop_55 : decode cX11_loop 55 = .ok (.invokevirtual 155, 3) := by decide +kernel
theorem dX11_loop_58 : decode cX11_loop 58 = .ok (.ireturn, 1) := by decide +kernel
theorem dX11_loop_59 : decode cX11_loop 59 = .ok (.aload_n 0, 1) := by decide +kernel
theorem dX11_loop_60 : decode cX11_loop 60 = .ok (.aload_n 0, 1) := by decide +kernel
theorem dX11_loop_61 : decode cX11_loop 61 = .ok (.getfield 33, 3) := by decide +kernel
theorem dX11_loop_64 : decode cX11_loop 64 = .ok (.invokevirtual 120, 3) := by decide +kernel
theorem dX11_loop_67 : decode cX11_loop 67 = .ok (.aload_n 0, 1) := by decide +kernel
theorem dX11_loop_68 : decode cX11_loop 68 = .ok (.aload_n 0, 1) := by decide +kernel
theorem dX11_loop_69 : decode cX11_loop 69 = .ok (.getfield 33, 3) := by decide +kernel
theorem dX11_loop_72 : decode cX11_loop 72 = .ok (.invokevirtual 124, 3) := by decide +kernel
theorem dX11_loop_75 : decode cX11_loop 75 = .ok (.invokevirtual 140, 3) := by decide +kernel
theorem dX11_loop_78 : decode cX11_loop 78 = .ok (.astore_n 3, 1) := by decide +kernel
theorem dX11_loop_79 : decode cX11_loop 79 = .ok (.iload_n 2, 1) := by decide +kernel
theorem dX11_loop_80 : decode cX11_loop 80 = .ok (.ifCond .ne 10, 3) := by decide +kernel
theorem dX11_loop_83 : decode cX11_loop 83 = .ok (.aload_n 3, 1) := by decide +kernel
theorem dX11_loop_84 : decode cX11_loop 84 = .ok (.getfield 166, 3) := by decide +kernel
theorem dX11_loop_87 : decode cX11_loop 87 = .ok (.iload_n 1, 1) := by decide +kernel
theorem dX11_loop_88 : decode cX11_loop 88 = .ok (.iaload, 1) := by decide +kernel
theorem dX11_loop_89 : decode cX11_loop 89 = .ok (.ireturn, 1) := by decide +kernel
theorem dX11_loop_90 : decode cX11_loop 90 = .ok (.iload_n 2, 1) := by decide +kernel
theorem dX11_loop_91 : decode cX11_loop 91 = .ok (.iconst 1, 1) := by decide +kernel
theorem dX11_loop_92 : decode cX11_loop 92 = .ok (.if_icmp .ne 18, 3) := by decide +kernel
theorem dX11_loop_95 : decode cX11_loop 95 = .ok (.aload_n 3, 1) := by decide +kernel
theorem dX11_loop_96 : decode cX11_loop 96 = .ok (.getfield 144, 3) := by decide +kernel
theorem dX11_loop_99 : decode cX11_loop 99 = .ok (.getfield 169, 3) := by decide +kernel
theorem dX11_loop_102 : decode cX11_loop 102 = .ok (.iload_n 1, 1) := by decide +kernel
theorem dX11_loop_103 : decode cX11_loop 103 = .ok (.aaload, 1) := by decide +kernel
theorem dX11_loop_104 : decode cX11_loop 104 = .ok (.invokevirtual 155, 3) := by decide +kernel
theorem dX11_loop_107 : decode cX11_loop 107 = .ok (.goto 15, 3) := by decide +kernel
theorem dX11_loop_110 : decode cX11_loop 110 = .ok (.aload_n 3, 1) := by decide +kernel
theorem dX11_loop_111 : decode cX11_loop 111 = .ok (.getfield 144, 3) := by decide +kernel
theorem dX11_loop_114 : decode cX11_loop 114 = .ok (.getfield 162, 3) := by decide +kernel
theorem dX11_loop_117 : decode cX11_loop 117 = .ok (.iload_n 1, 1) := by decide +kernel
theorem dX11_loop_118 : decode cX11_loop 118 = .ok (.aaload, 1) := by decide +kernel
theorem dX11_loop_119 : decode cX11_loop 119 = .ok (.invokevirtual 155, 3) := by decide +kernel
theorem dX11_loop_122 : decode cX11_loop 122 = .ok (.ireturn, 1) := by decide +kernel
theorem dX11_check_0 : decode cX11_check 0 = .ok (.iload_n 1, 1) := by decide +kernel
theorem dX11_check_1 : decode cX11_check 1 = .ok (.ifCond .lt 19, 3) := by decide +kernel
theorem dX11_check_4 : decode cX11_check 4 = .ok (.iload_n 1, 1) := by decide +kernel
theorem dX11_check_5 : decode cX11_check 5 = .ok (.aload_n 0, 1) := by decide +kernel
theorem dX11_check_6 : decode cX11_check 6 = .ok (.getfield 23, 3) := by decide +kernel
theorem dX11_check_9 : decode cX11_check 9 = .ok (.getfield 105, 3) := by decide +kernel
theorem dX11_check_12 : decode cX11_check 12 = .ok (.if_icmp .ge 8, 3) := by decide +kernel
theorem dX11_check_15 : decode cX11_check 15 = .ok (.iload_n 1, 1) := by decide +kernel
theorem dX11_check_16 : decode cX11_check 16 = .ok (.iconst 4, 1) := by decide +kernel
theorem dX11_check_17 : decode cX11_check 17 = .ok (.if_icmp .lt 5, 3) := by decide +kernel
theorem dX11_check_20 : decode cX11_check 20 = .ok (.iconst (-1), 1) := by decide +kernel
theorem dX11_check_21 : decode cX11_check 21 = .ok (.ireturn, 1) := by decide +kernel
theorem dX11_check_22 : decode cX11_check 22 = .ok (.iload_n 2, 1) := by decide +kernel
theorem dX11_check_23 : decode cX11_check 23 = .ok (.ifCond .lt 8, 3) := by decide +kernel
theorem dX11_check_26 : decode cX11_check 26 = .ok (.iload_n 2, 1) := by decide +kernel
theorem dX11_check_27 : decode cX11_check 27 = .ok (.iconst 3, 1) := by decide +kernel
theorem dX11_check_28 : decode cX11_check 28 = .ok (.if_icmp .le 6, 3) := by decide +kernel
theorem dX11_check_31 : decode cX11_check 31 = .ok (.bipush (-2), 2) := by decide +kernel
theorem dX11_check_33 : decode cX11_check 33 = .ok (.ireturn, 1) := by decide +kernel
theorem dX11_check_34 : decode cX11_check 34 = .ok (.iload_n 2, 1) := by decide +kernel
theorem dX11_check_35 : decode cX11_check 35 = .ok (.iconst 1, 1) := by decide +kernel
theorem dX11_check_36 : decode cX11_check 36 = .ok (.if_icmp .eq 8, 3) := by decide +kernel
theorem dX11_check_39 : decode cX11_check 39 = .ok (.iload_n 2, 1) := by decide +kernel
theorem dX11_check_40 : decode cX11_check 40 = .ok (.iconst 3, 1) := by decide +kernel
theorem dX11_check_41 : decode cX11_check 41 = .ok (.if_icmp .ne 7, 3) := by decide +kernel
theorem dX11_check_44 : decode cX11_check 44 = .ok (.iconst 1, 1) := by decide +kernel
theorem dX11_check_45 : decode cX11_check 45 = .ok (.goto 4, 3) := by decide +kernel
theorem dX11_check_48 : decode cX11_check 48 = .ok (.iconst 0, 1) := by decide +kernel
theorem dX11_check_49 : decode cX11_check 49 = .ok (.istore_n 3, 1) := by decide +kernel
theorem dX11_check_50 : decode cX11_check 50 = .ok (.iload_n 3, 1) := by decide +kernel
theorem dX11_check_51 : decode cX11_check 51 = .ok (.ifCond .eq 17, 3) := by decide +kernel
theorem dX11_check_54 : decode cX11_check 54 = .ok (.aload_n 0, 1) := by decide +kernel
theorem dX11_check_55 : decode cX11_check 55 = .ok (.aload_n 0, 1) := by decide +kernel
theorem dX11_check_56 : decode cX11_check 56 = .ok (.getfield 33, 3) := by decide +kernel
theorem dX11_check_59 : decode cX11_check 59 = .ok (.invokevirtual 120, 3) := by decide +kernel
theorem dX11_check_62 : decode cX11_check 62 = .ok (.invokevirtual 132, 3) := by decide +kernel
theorem dX11_check_65 : decode cX11_check 65 = .ok (.goto 25, 3) := by decide +kernel
theorem dX11_check_68 : decode cX11_check 68 = .ok (.aload_n 0, 1) := by decide +kernel
theorem dX11_check_69 : decode cX11_check 69 = .ok (.aload_n 0, 1) := by decide +kernel
theorem dX11_check_70 : decode cX11_check 70 = .ok (.getfield 33, 3) := by decide +kernel
theorem dX11_check_73 : decode cX11_check 73 = .ok (.invokevirtual 120, 3) := by decide +kernel
theorem dX11_check_76 : decode cX11_check 76 = .ok (.aload_n 0, 1) := by decide +kernel
theorem dX11_check_77 : decode cX11_check 77 = .ok (.aload_n 0, 1) := by decide +kernel
theorem dX11_check_78 : decode cX11_check 78 = .ok (.getfield 33, 3) := by decide +kernel
theorem dX11_check_81 : decode cX11_check 81 = .ok (.invokevirtual 124, 3) := by decide +kernel
theorem dX11_check_84 : decode cX11_check 84 = .ok (.invokevirtual 140, 3) := by decide +kernel
theorem dX11_check_87 : decode cX11_check 87 = .ok (.getfield 144, 3) := by decide +kernel
theorem dX11_check_90 : decode cX11_check 90 = .ok (.astore 4, 2) := by decide +kernel
theorem dX11_check_92 : decode cX11_check 92 = .ok (.aload 4, 2) := by decide +kernel
theorem dX11_check_94 : decode cX11_check 94 = .ok (.getfield 172, 3) := by decide +kernel
theorem dX11_check_97 : decode cX11_check 97 = .ok (.iload_n 1, 1) := by decide +kernel
theorem dX11_check_98 : decode cX11_check 98 = .ok (.aaload, 1) := by decide +kernel
theorem dX11_check_99 : decode cX11_check 99 = .ok (.astore 5, 2) := by decide +kernel
theorem dX11_check_101 : decode cX11_check 101 = .ok (.iload_n 2, 1) := by decide +kernel
theorem dX11_check_102 : decode cX11_check 102 = .ok (.iconst 2, 1) := by decide +kernel
theorem dX11_check_103 : decode cX11_check 103 = .ok (.if_icmp .ge 11, 3) := by decide +kernel
theorem dX11_check_106 : decode cX11_check 106 = .ok (.aload 5, 2) := by decide +kernel
theorem dX11_check_108 : decode cX11_check 108 = .ok (.invokevirtual 155, 3) := by decide +kernel
theorem dX11_check_111 : decode cX11_check 111 = .ok (.goto 20, 3) := by decide +kernel
theorem dX11_check_114 : decode cX11_check 114 = .ok (.aload 5, 2) := by decide +kernel
theorem dX11_check_116 : decode cX11_check 116 = .ok (.aload_n 0, 1) := by decide +kernel
theorem dX11_check_117 : decode cX11_check 117 = .ok (.getfield 23, 3) := by decide +kernel
theorem dX11_check_120 : decode cX11_check 120 = .ok (.getfield 175, 3) := by decide +kernel
theorem dX11_check_123 : decode cX11_check 123 = .ok (.iload_n 1, 1) := by decide +kernel
theorem dX11_check_124 : decode cX11_check 124 = .ok (.aaload, 1) := by decide +kernel
theorem dX11_check_125 : decode cX11_check 125 = .ok (.getfield 179, 3) := by decide +kernel
theorem dX11_check_128 : decode cX11_check 128 = .ok (.invokevirtual 184, 3) := by decide +kernel
theorem dX11_check_131 : decode cX11_check 131 = .ok (.ireturn, 1) := by decide +kernel
theorem dX11_start_0 : decode cX11_start 0 = .ok (.iload_n 1, 1) := by decide +kernel
theorem dX11_start_1 : decode cX11_start 1 = .ok (.ifCond .lt 15, 3) := by decide +kernel
theorem dX11_start_4 : decode cX11_start 4 = .ok (.iload_n 1, 1) := by decide +kernel
theorem dX11_start_5 : decode cX11_start 5 = .ok (.aload_n 0, 1) := by decide +kernel
theorem dX11_start_6 : decode cX11_start 6 = .ok (.getfield 33, 3) := by decide +kernel
theorem dX11_start_9 : decode cX11_start 9 = .ok (.getfield 188, 3) := by decide +kernel
theorem dX11_start_12 : decode cX11_start 12 = .ok (.arraylength, 1) := by decide +kernel
theorem dX11_start_13 : decode cX11_start 13 = .ok (.if_icmp .lt 5, 3) := by decide +kernel
theorem dX11_start_16 : decode cX11_start 16 = .ok (.iconst (-1), 1) := by decide +kernel
theorem dX11_start_17 : decode cX11_start 17 = .ok (.ireturn, 1) := by decide +kernel
theorem dX11_start_18 : decode cX11_start 18 = .ok (.aload_n 0, 1) := by decide +kernel
theorem dX11_start_19 : decode cX11_start 19 = .ok (.getfield 33, 3) := by decide +kernel
theorem dX11_start_22 : decode cX11_start 22 = .ok (.getfield 188, 3) := by decide +kernel
theorem dX11_start_25 : decode cX11_start 25 = .ok (.iload_n 1, 1) := by decide +kernel
theorem dX11_start_26 : decode cX11_start 26 = .ok (.iaload, 1) := by decide +kernel
theorem dX11_start_27 : decode cX11_start 27 = .ok (.ireturn, 1) := by decide +kernel
theorem dX11_begin_0 : decode cX11_begin 0 = .ok (.iload_n 1, 1) := by decide +kernel
theorem dX11_begin_1 : decode cX11_begin 1 = .ok (.ifCond .lt 15, 3) := by decide +kernel
theorem dX11_begin_4 : decode cX11_begin 4 = .ok (.iload_n 1, 1) := by decide +kernel
theorem dX11_begin_5 : decode cX11_begin 5 = .ok (.aload_n 0, 1) := by decide +kernel
theorem dX11_begin_6 : decode cX11_begin 6 = .ok (.getfield 33, 3) := by decide +kernel
theorem dX11_begin_9 : decode cX11_begin 9 = .ok (.getfield 188, 3) := by decide +kernel
theorem dX11_begin_12 : decode cX11_begin 12 = .ok (.arraylength, 1) := by decide +kernel
theorem dX11_begin_13 : decode cX11_begin 13 = .ok (.if_icmp .lt 5, 3) := by decide +kernel
theorem dX11_begin_16 : decode cX11_begin 16 = .ok (.iconst (-1), 1) := by decide +kernel
theorem dX11_begin_17 : decode cX11_begin 17 = .ok (.ireturn, 1) := by decide +kernel
theorem dX11_begin_18 : decode cX11_begin 18 = .ok (.iload_n 2, 1) := by decide +kernel
theorem dX11_begin_19 : decode cX11_begin 19 = .ok (.ifCond .lt 9, 3) := by decide +kernel
theorem dX11_begin_22 : decode cX11_begin 22 = .ok (.iload_n 2, 1) := by decide +kernel
theorem dX11_begin_23 : decode cX11_begin 23 = .ok (.bipush 6, 2) := by decide +kernel
theorem dX11_begin_25 : decode cX11_begin 25 = .ok (.if_icmp .le 6, 3) := by decide +kernel
theorem dX11_begin_28 : decode cX11_begin 28 = .ok (.bipush (-2), 2) := by decide +kernel
theorem dX11_begin_30 : decode cX11_begin 30 = .ok (.ireturn, 1) := by decide +kernel
theorem dX11_begin_31 : decode cX11_begin 31 = .ok (.aload_n 0, 1) := by decide +kernel
theorem dX11_begin_32 : decode cX11_begin 32 = .ok (.getfield 33, 3) := by decide +kernel
theorem dX11_begin_35 : decode cX11_begin 35 = .ok (.getfield 188, 3) := by decide +kernel
theorem dX11_begin_38 : decode cX11_begin 38 = .ok (.iload_n 1, 1) := by decide +kernel
theorem dX11_begin_39 : decode cX11_begin 39 = .ok (.iaload, 1) := by decide +kernel
theorem dX11_begin_40 : decode cX11_begin 40 = .ok (.istore_n 3, 1) := by decide +kernel
theorem dX11_begin_41 : decode cX11_begin 41 = .ok (.aload_n 0, 1) := by decide +kernel
theorem dX11_begin_42 : decode cX11_begin 42 = .ok (.invokevirtual 191, 3) := by decide +kernel
theorem dX11_begin_45 : decode cX11_begin 45 = .ok (.aload_n 0, 1) := by decide +kernel
theorem dX11_begin_46 : decode cX11_begin 46 = .ok (.getfield 33, 3) := by decide +kernel
theorem dX11_begin_49 : decode cX11_begin 49 = .ok (.getfield 188, 3) := by decide +kernel
theorem dX11_begin_52 : decode cX11_begin 52 = .ok (.iload_n 1, 1) := by decide +kernel
theorem dX11_begin_53 : decode cX11_begin 53 = .ok (.iload_n 2, 1) := by decide +kernel
theorem dX11_begin_54 : decode cX11_begin 54 = .ok (.iastore, 1) := by decide +kernel
theorem dX11_begin_55 : decode cX11_begin 55 = .ok (.iload_n 3, 1) := by decide +kernel
theorem dX11_begin_56 : decode cX11_begin 56 = .ok (.ireturn, 1) := by decide +kernel
theorem dX11_turn_0 : decode cX11_turn 0 = .ok (.iload_n 1, 1) := by decide +kernel
theorem dX11_turn_1 : decode cX11_turn 1 = .ok (.ifCond .lt 14, 3) := by decide +kernel
theorem dX11_turn_4 : decode cX11_turn 4 = .ok (.iload_n 1, 1) := by decide +kernel
theorem dX11_turn_5 : decode cX11_turn 5 = .ok (.aload_n 0, 1) := by decide +kernel
theorem dX11_turn_6 : decode cX11_turn 6 = .ok (.getfield 23, 3) := by decide +kernel
theorem dX11_turn_9 : decode cX11_turn 9 = .ok (.getfield 114, 3) := by decide +kernel
theorem dX11_turn_12 : decode cX11_turn 12 = .ok (.if_icmp .lt 5, 3) := by decide +kernel
theorem dX11_turn_15 : decode cX11_turn 15 = .ok (.iconst (-1), 1) := by decide +kernel
theorem dX11_turn_16 : decode cX11_turn 16 = .ok (.ireturn, 1) := by decide +kernel
theorem dX11_turn_17 : decode cX11_turn 17 = .ok (.aload_n 0, 1) := by decide +kernel
theorem dX11_turn_18 : decode cX11_turn 18 = .ok (.invokevirtual 191, 3) := by decide +kernel
theorem dX11_turn_21 : decode cX11_turn 21 = .ok (.aload_n 0, 1) := by decide +kernel
theorem dX11_turn_22 : decode cX11_turn 22 = .ok (.getfield 33, 3) := by decide +kernel
theorem dX11_turn_25 : decode cX11_turn 25 = .ok (.dup, 1) := by decide +kernel
theorem dX11_turn_26 : decode cX11_turn 26 = .ok (.getfield 117, 3) := by decide +kernel
theorem dX11_turn_29 : decode cX11_turn 29 = .ok (.iconst 1, 1) := by decide +kernel
theorem dX11_turn_30 : decode cX11_turn 30 = .ok (.iload_n 1, 1) := by decide +kernel
theorem dX11_turn_31 : decode cX11_turn 31 = .ok (.ishl, 1) := by decide +kernel
theorem dX11_turn_32 : decode cX11_turn 32 = .ok (.ixor, 1) := by decide +kernel
theorem dX11_turn_33 : decode cX11_turn 33 = .ok (.putfield 117, 3) := by decide +kernel
theorem dX11_turn_36 : decode cX11_turn 36 = .ok (.aload_n 0, 1) := by decide +kernel
theorem dX11_turn_37 : decode cX11_turn 37 = .ok (.getfield 33, 3) := by decide +kernel
theorem dX11_turn_40 : decode cX11_turn 40 = .ok (.getfield 117, 3) := by decide +kernel
theorem dX11_turn_43 : decode cX11_turn 43 = .ok (.iload_n 1, 1) := by decide +kernel
theorem dX11_turn_44 : decode cX11_turn 44 = .ok (.ishr, 1) := by decide +kernel
theorem dX11_turn_45 : decode cX11_turn 45 = .ok (.iconst 1, 1) := by decide +kernel
theorem dX11_turn_46 : decode cX11_turn 46 = .ok (.iand, 1) := by decide +kernel
theorem dX11_turn_47 : decode cX11_turn 47 = .ok (.ireturn, 1) := by decide +kernel
theorem dX11_remember_0 : decode cX11_remember 0 = .ok (.aload_n 0, 1) := by decide +kernel
theorem dX11_remember_1 : decode cX11_remember 1 = .ok (.getfield 96, 3) := by decide +kernel
theorem dX11_remember_4 : decode cX11_remember 4 = .ok (.aload_n 0, 1) := by decide +kernel
theorem dX11_remember_5 : decode cX11_remember 5 = .ok (.getfield 40, 3) := by decide +kernel
theorem dX11_remember_8 : decode cX11_remember 8 = .ok (.arraylength, 1) := by decide +kernel
theorem dX11_remember_9 : decode cX11_remember 9 = .ok (.if_icmp .lt 45, 3) := by decide +kernel
theorem dX11_remember_12 : decode cX11_remember 12 = .ok (.iconst 1, 1) := by decide +kernel
theorem dX11_remember_13 : decode cX11_remember 13 = .ok (.istore_n 1, 1) := by decide +kernel
theorem dX11_remember_14 : decode cX11_remember 14 = .ok (.iload_n 1, 1) := by decide +kernel
theorem dX11_remember_15 : decode cX11_remember 15 = .ok (.aload_n 0, 1) := by decide +kernel
theorem dX11_remember_16 : decode cX11_remember 16 = .ok (.getfield 40, 3) := by decide +kernel
theorem dX11_remember_19 : decode cX11_remember 19 = .ok (.arraylength, 1) := by decide +kernel
theorem dX11_remember_20 : decode cX11_remember 20 = .ok (.if_icmp .ge 23, 3) := by decide +kernel
theorem dX11_remember_23 : decode cX11_remember 23 = .ok (.aload_n 0, 1) := by decide +kernel
theorem dX11_remember_24 : decode cX11_remember 24 = .ok (.getfield 40, 3) := by decide +kernel
theorem dX11_remember_27 : decode cX11_remember 27 = .ok (.iload_n 1, 1) := by decide +kernel
theorem dX11_remember_28 : decode cX11_remember 28 = .ok (.iconst 1, 1) := by decide +kernel
theorem dX11_remember_29 : decode cX11_remember 29 = .ok (.isub, 1) := by decide +kernel
theorem dX11_remember_30 : decode cX11_remember 30 = .ok (.aload_n 0, 1) := by decide +kernel
theorem dX11_remember_31 : decode cX11_remember 31 = .ok (.getfield 40, 3) := by decide +kernel
theorem dX11_remember_34 : decode cX11_remember 34 = .ok (.iload_n 1, 1) := by decide +kernel
theorem dX11_remember_35 : decode cX11_remember 35 = .ok (.iaload, 1) := by decide +kernel
theorem dX11_remember_36 : decode cX11_remember 36 = .ok (.iastore, 1) := by decide +kernel
theorem dX11_remember_37 : decode cX11_remember 37 = .ok (.iinc 1 1, 3) := by decide +kernel
theorem dX11_remember_40 : decode cX11_remember 40 = .ok (.goto (-26), 3) := by decide +kernel
theorem dX11_remember_43 : decode cX11_remember 43 = .ok (.aload_n 0, 1) := by decide +kernel
theorem dX11_remember_44 : decode cX11_remember 44 = .ok (.aload_n 0, 1) := by decide +kernel
theorem dX11_remember_45 : decode cX11_remember 45 = .ok (.getfield 40, 3) := by decide +kernel
theorem dX11_remember_48 : decode cX11_remember 48 = .ok (.arraylength, 1) := by decide +kernel
theorem dX11_remember_49 : decode cX11_remember 49 = .ok (.iconst 1, 1) := by decide +kernel
theorem dX11_remember_50 : decode cX11_remember 50 = .ok (.isub, 1) := by decide +kernel
theorem dX11_remember_51 : decode cX11_remember 51 = .ok (.putfield 96, 3) := by decide +kernel
theorem dX11_remember_54 : decode cX11_remember 54 = .ok (.aload_n 0, 1) := by decide +kernel
theorem dX11_remember_55 : decode cX11_remember 55 = .ok (.getfield 96, 3) := by decide +kernel
theorem dX11_remember_58 : decode cX11_remember 58 = .ok (.ifCond .lt 29, 3) := by decide +kernel
theorem dX11_remember_61 : decode cX11_remember 61 = .ok (.aload_n 0, 1) := by decide +kernel
theorem dX11_remember_62 : decode cX11_remember 62 = .ok (.getfield 40, 3) := by decide +kernel
theorem dX11_remember_65 : decode cX11_remember 65 = .ok (.aload_n 0, 1) := by decide +kernel
theorem dX11_remember_66 : decode cX11_remember 66 = .ok (.getfield 96, 3) := by decide +kernel
theorem dX11_remember_69 : decode cX11_remember 69 = .ok (.aload_n 0, 1) := by decide +kernel
theorem dX11_remember_70 : decode cX11_remember 70 = .ok (.getfield 33, 3) := by decide +kernel
theorem dX11_remember_73 : decode cX11_remember 73 = .ok (.invokevirtual 194, 3) := by decide +kernel
theorem dX11_remember_76 : decode cX11_remember 76 = .ok (.iastore, 1) := by decide +kernel
theorem dX11_remember_77 : decode cX11_remember 77 = .ok (.aload_n 0, 1) := by decide +kernel
theorem dX11_remember_78 : decode cX11_remember 78 = .ok (.dup, 1) := by decide +kernel
theorem dX11_remember_79 : decode cX11_remember 79 = .ok (.getfield 96, 3) := by decide +kernel
theorem dX11_remember_82 : decode cX11_remember 82 = .ok (.iconst 1, 1) := by decide +kernel
theorem dX11_remember_83 : decode cX11_remember 83 = .ok (.iadd, 1) := by decide +kernel
theorem dX11_remember_84 : decode cX11_remember 84 = .ok (.putfield 96, 3) := by decide +kernel
theorem dX11_remember_87 : decode cX11_remember 87 = .ok (.return_, 1) := by decide +kernel
theorem dX11_undo_0 : decode cX11_undo 0 = .ok (.aload_n 0, 1) := by decide +kernel
theorem dX11_undo_1 : decode cX11_undo 1 = .ok (.getfield 96, 3) := by decide +kernel
theorem dX11_undo_4 : decode cX11_undo 4 = .ok (.iconst 1, 1) := by decide +kernel
theorem dX11_undo_5 : decode cX11_undo 5 = .ok (.if_icmp .lt 15, 3) := by decide +kernel
theorem dX11_undo_8 : decode cX11_undo 8 = .ok (.aload_n 0, 1) := by decide +kernel
theorem dX11_undo_9 : decode cX11_undo 9 = .ok (.getfield 96, 3) := by decide +kernel
theorem dX11_undo_12 : decode cX11_undo 12 = .ok (.aload_n 0, 1) := by decide +kernel
theorem dX11_undo_13 : decode cX11_undo 13 = .ok (.getfield 40, 3) := by decide +kernel
theorem dX11_undo_16 : decode cX11_undo 16 = .ok (.arraylength, 1) := by decide +kernel
theorem dX11_undo_17 : decode cX11_undo 17 = .ok (.if_icmp .le 6, 3) := by decide +kernel
theorem dX11_undo_20 : decode cX11_undo 20 = .ok (.bipush (-3), 2) := by decide +kernel
theorem dX11_undo_22 : decode cX11_undo 22 = .ok (.ireturn, 1) := by decide +kernel
theorem dX11_undo_23 : decode cX11_undo 23 = .ok (.aload_n 0, 1) := by decide +kernel
theorem dX11_undo_24 : decode cX11_undo 24 = .ok (.dup, 1) := by decide +kernel
theorem dX11_undo_25 : decode cX11_undo 25 = .ok (.getfield 96, 3) := by decide +kernel
theorem dX11_undo_28 : decode cX11_undo 28 = .ok (.iconst 1, 1) := by decide +kernel
theorem dX11_undo_29 : decode cX11_undo 29 = .ok (.isub, 1) := by decide +kernel
theorem dX11_undo_30 : decode cX11_undo 30 = .ok (.putfield 96, 3) := by decide +kernel
theorem dX11_undo_33 : decode cX11_undo 33 = .ok (.aload_n 0, 1) := by decide +kernel
theorem dX11_undo_34 : decode cX11_undo 34 = .ok (.getfield 33, 3) := by decide +kernel
theorem dX11_undo_37 : decode cX11_undo 37 = .ok (.aload_n 0, 1) := by decide +kernel
theorem dX11_undo_38 : decode cX11_undo 38 = .ok (.getfield 40, 3) := by decide +kernel
theorem dX11_undo_41 : decode cX11_undo 41 = .ok (.aload_n 0, 1) := by decide +kernel
theorem dX11_undo_42 : decode cX11_undo 42 = .ok (.getfield 96, 3) := by decide +kernel
theorem dX11_undo_45 : decode cX11_undo 45 = .ok (.iaload, 1) := by decide +kernel
theorem dX11_undo_46 : decode cX11_undo 46 = .ok (.invokevirtual 197, 3) := by decide +kernel
theorem dX11_undo_49 : decode cX11_undo 49 = .ok (.aload_n 0, 1) := by decide +kernel
theorem dX11_undo_50 : decode cX11_undo 50 = .ok (.getfield 96, 3) := by decide +kernel
theorem dX11_undo_53 : decode cX11_undo 53 = .ok (.ireturn, 1) := by decide +kernel
theorem dX11_falls_0 : decode cX11_falls 0 = .ok (.iload_n 1, 1) := by decide +kernel
theorem dX11_falls_1 : decode cX11_falls 1 = .ok (.ifCond .lt 14, 3) := by decide +kernel
theorem dX11_falls_4 : decode cX11_falls 4 = .ok (.iload_n 1, 1) := by decide +kernel
theorem dX11_falls_5 : decode cX11_falls 5 = .ok (.aload_n 0, 1) := by decide +kernel
theorem dX11_falls_6 : decode cX11_falls 6 = .ok (.getfield 23, 3) := by decide +kernel
theorem dX11_falls_9 : decode cX11_falls 9 = .ok (.getfield 108, 3) := by decide +kernel
theorem dX11_falls_12 : decode cX11_falls 12 = .ok (.if_icmp .lt 5, 3) := by decide +kernel
theorem dX11_falls_15 : decode cX11_falls 15 = .ok (.iconst (-1), 1) := by decide +kernel
theorem dX11_falls_16 : decode cX11_falls 16 = .ok (.ireturn, 1) := by decide +kernel
theorem dX11_falls_17 : decode cX11_falls 17 = .ok (.aload_n 0, 1) := by decide +kernel
theorem dX11_falls_18 : decode cX11_falls 18 = .ok (.aload_n 0, 1) := by decide +kernel
theorem dX11_falls_19 : decode cX11_falls 19 = .ok (.getfield 33, 3) := by decide +kernel
theorem dX11_falls_22 : decode cX11_falls 22 = .ok (.invokevirtual 124, 3) := by decide +kernel
theorem dX11_falls_25 : decode cX11_falls 25 = .ok (.istore_n 3, 1) := by decide +kernel
theorem dX11_falls_26 : decode cX11_falls 26 = .ok (.iload_n 2, 1) := by decide +kernel
theorem dX11_falls_27 : decode cX11_falls 27 = .ok (.iload_n 3, 1) := by decide +kernel
theorem dX11_falls_28 : decode cX11_falls 28 = .ok (.iconst (-1), 1) := by decide +kernel
theorem dX11_falls_29 : decode cX11_falls 29 = .ok (.ixor, 1) := by decide +kernel
theorem dX11_falls_30 : decode cX11_falls 30 = .ok (.iand, 1) := by decide +kernel
theorem dX11_falls_31 : decode cX11_falls 31 = .ok (.ifCond .eq 6, 3) := by decide +kernel
theorem dX11_falls_34 : decode cX11_falls 34 = .ok (.bipush (-2), 2) := by decide +kernel
theorem dX11_falls_36 : decode cX11_falls 36 = .ok (.ireturn, 1) := by decide +kernel
theorem dX11_falls_37 : decode cX11_falls 37 = .ok (.aload_n 0, 1) := by decide +kernel
theorem dX11_falls_38 : decode cX11_falls 38 = .ok (.aload_n 0, 1) := by decide +kernel
theorem dX11_falls_39 : decode cX11_falls 39 = .ok (.getfield 33, 3) := by decide +kernel
theorem dX11_falls_42 : decode cX11_falls 42 = .ok (.invokevirtual 120, 3) := by decide +kernel
theorem dX11_falls_45 : decode cX11_falls 45 = .ok (.iload_n 1, 1) := by decide +kernel
theorem dX11_falls_46 : decode cX11_falls 46 = .ok (.iload_n 2, 1) := by decide +kernel
theorem dX11_falls_47 : decode cX11_falls 47 = .ok (.iload_n 3, 1) := by decide +kernel
theorem dX11_falls_48 : decode cX11_falls 48 = .ok (.invokevirtual 201, 3) := by decide +kernel
theorem dX11_falls_51 : decode cX11_falls 51 = .ok (.ireturn, 1) := by decide +kernel
theorem dX11_fewest_0 : decode cX11_fewest 0 = .ok (.iload_n 1, 1) := by decide +kernel
theorem dX11_fewest_1 : decode cX11_fewest 1 = .ok (.ifCond .lt 8, 3) := by decide +kernel
theorem dX11_fewest_4 : decode cX11_fewest 4 = .ok (.iload_n 1, 1) := by decide +kernel
theorem dX11_fewest_5 : decode cX11_fewest 5 = .ok (.iconst 1, 1) := by decide +kernel
theorem dX11_fewest_6 : decode cX11_fewest 6 = .ok (.if_icmp .le 6, 3) := by decide +kernel
theorem dX11_fewest_9 : decode cX11_fewest 9 = .ok (.bipush (-2), 2) := by decide +kernel
theorem dX11_fewest_11 : decode cX11_fewest 11 = .ok (.ireturn, 1) := by decide +kernel
theorem dX11_fewest_12 : decode cX11_fewest 12 = .ok (.aload_n 0, 1) := by decide +kernel
theorem dX11_fewest_13 : decode cX11_fewest 13 = .ok (.aload_n 0, 1) := by decide +kernel
theorem dX11_fewest_14 : decode cX11_fewest 14 = .ok (.getfield 33, 3) := by decide +kernel
theorem dX11_fewest_17 : decode cX11_fewest 17 = .ok (.invokevirtual 124, 3) := by decide +kernel
theorem dX11_fewest_20 : decode cX11_fewest 20 = .ok (.istore_n 2, 1) := by decide +kernel
theorem dX11_fewest_21 : decode cX11_fewest 21 = .ok (.aload_n 0, 1) := by decide +kernel
theorem dX11_fewest_22 : decode cX11_fewest 22 = .ok (.aload_n 0, 1) := by decide +kernel
theorem dX11_fewest_23 : decode cX11_fewest 23 = .ok (.getfield 33, 3) := by decide +kernel
theorem dX11_fewest_26 : decode cX11_fewest 26 = .ok (.invokevirtual 120, 3) := by decide +kernel
theorem dX11_fewest_29 : decode cX11_fewest 29 = .ok (.astore_n 3, 1) := by decide +kernel
theorem dX11_fewest_30 : decode cX11_fewest 30 = .ok (.aload_n 3, 1) := by decide +kernel
theorem dX11_fewest_31 : decode cX11_fewest 31 = .ok (.iload_n 2, 1) := by decide +kernel
theorem dX11_fewest_32 : decode cX11_fewest 32 = .ok (.invokevirtual 128, 3) := by decide +kernel
theorem dX11_fewest_35 : decode cX11_fewest 35 = .ok (.invokestatic 205, 3) := by decide +kernel
theorem dX11_fewest_38 : decode cX11_fewest 38 = .ok (.istore 4, 2) := by decide +kernel
theorem dX11_fewest_40 : decode cX11_fewest 40 = .ok (.iload_n 2, 1) := by decide +kernel
theorem dX11_fewest_41 : decode cX11_fewest 41 = .ok (.istore 5, 2) := by decide +kernel
theorem dX11_fewest_43 : decode cX11_fewest 43 = .ok (.iconst 0, 1) := by decide +kernel
theorem dX11_fewest_44 : decode cX11_fewest 44 = .ok (.istore 6, 2) := by decide +kernel
theorem dX11_fewest_46 : decode cX11_fewest 46 = .ok (.iload 6, 2) := by decide +kernel
theorem dX11_fewest_48 : decode cX11_fewest 48 = .ok (.bipush 32, 2) := by decide +kernel
theorem dX11_fewest_50 : decode cX11_fewest 50 = .ok (.if_icmp .ge 49, 3) := by decide +kernel
theorem dX11_fewest_53 : decode cX11_fewest 53 = .ok (.iload 6, 2) := by decide +kernel
theorem dX11_fewest_55 : decode cX11_fewest 55 = .ok (.iload_n 2, 1) := by decide +kernel
theorem dX11_fewest_56 : decode cX11_fewest 56 = .ok (.iconst (-1), 1) := by decide +kernel
theorem dX11_fewest_57 : decode cX11_fewest 57 = .ok (.ixor, 1) := by decide +kernel
theorem dX11_fewest_58 : decode cX11_fewest 58 = .ok (.iand, 1) := by decide +kernel
theorem dX11_fewest_59 : decode cX11_fewest 59 = .ok (.ifCond .ne 34, 3) := by decide +kernel
theorem dX11_fewest_62 : decode cX11_fewest 62 = .ok (.iload 6, 2) := by decide +kernel
theorem dX11_fewest_64 : decode cX11_fewest 64 = .ok (.invokestatic 205, 3) := by decide +kernel
theorem dX11_fewest_67 : decode cX11_fewest 67 = .ok (.iload 5, 2) := by decide +kernel
theorem dX11_fewest_69 : decode cX11_fewest 69 = .ok (.invokestatic 205, 3) := by decide +kernel
theorem dX11_fewest_72 : decode cX11_fewest 72 = .ok (.if_icmp .ge 21, 3) := by decide +kernel
theorem dX11_fewest_75 : decode cX11_fewest 75 = .ok (.aload_n 3, 1) := by decide +kernel
theorem dX11_fewest_76 : decode cX11_fewest 76 = .ok (.iload 6, 2) := by decide +kernel
theorem dX11_fewest_78 : decode cX11_fewest 78 = .ok (.invokevirtual 128, 3) := by decide +kernel
theorem dX11_fewest_81 : decode cX11_fewest 81 = .ok (.invokestatic 205, 3) := by decide +kernel
theorem dX11_fewest_84 : decode cX11_fewest 84 = .ok (.iload 4, 2) := by decide +kernel
theorem dX11_fewest_86 : decode cX11_fewest 86 = .ok (.if_icmp .ne 7, 3) := by decide +kernel
theorem dX11_fewest_89 : decode cX11_fewest 89 = .ok (.iload 6, 2) := by decide +kernel
theorem dX11_fewest_91 : decode cX11_fewest 91 = .ok (.istore 5, 2) := by decide +kernel
theorem dX11_fewest_93 : decode cX11_fewest 93 = .ok (.iinc 6 1, 3) := by decide +kernel
theorem dX11_fewest_96 : decode cX11_fewest 96 = .ok (.goto (-50), 3) := by decide +kernel
theorem dX11_fewest_99 : decode cX11_fewest 99 = .ok (.iload_n 1, 1) := by decide +kernel
theorem dX11_fewest_100 : decode cX11_fewest 100 = .ok (.ifCond .ne 11, 3) := by decide +kernel
theorem dX11_fewest_103 : decode cX11_fewest 103 = .ok (.iload 5, 2) := by decide +kernel
theorem dX11_fewest_105 : decode cX11_fewest 105 = .ok (.invokestatic 205, 3) := by decide +kernel
theorem dX11_fewest_108 : decode cX11_fewest 108 = .ok (.goto 5, 3) := by decide +kernel
theorem dX11_fewest_111 : decode cX11_fewest 111 = .ok (.iload 5, 2) := by decide +kernel
theorem dX11_fewest_113 : decode cX11_fewest 113 = .ok (.ireturn, 1) := by decide +kernel
theorem dX11_judge_0 : decode cX11_judge 0 = .ok (.iload_n 1, 1) := by decide +kernel
theorem dX11_judge_1 : decode cX11_judge 1 = .ok (.iconst 1, 1) := by decide +kernel
theorem dX11_judge_2 : decode cX11_judge 2 = .ok (.if_icmp .lt 8, 3) := by decide +kernel
theorem dX11_judge_5 : decode cX11_judge 5 = .ok (.iload_n 1, 1) := by decide +kernel
theorem dX11_judge_6 : decode cX11_judge 6 = .ok (.iconst 4, 1) := by decide +kernel
theorem dX11_judge_7 : decode cX11_judge 7 = .ok (.if_icmp .le 6, 3) := by decide +kernel
theorem dX11_judge_10 : decode cX11_judge 10 = .ok (.bipush (-2), 2) := by decide +kernel
theorem dX11_judge_12 : decode cX11_judge 12 = .ok (.ireturn, 1) := by decide +kernel
theorem dX11_judge_13 : decode cX11_judge 13 = .ok (.lload_n 2, 1) := by decide +kernel
theorem dX11_judge_14 : decode cX11_judge 14 = .ok (.lstore 4, 2) := by decide +kernel
theorem dX11_judge_16 : decode cX11_judge 16 = .ok (.iload_n 1, 1) := by decide +kernel
theorem dX11_judge_17 : decode cX11_judge 17 = .ok (.iconst 1, 1) := by decide +kernel
theorem dX11_judge_18 : decode cX11_judge 18 = .ok (.isub, 1) := by decide +kernel
theorem dX11_judge_19 : decode cX11_judge 19 = .ok (.istore 6, 2) := by decide +kernel
theorem dX11_judge_21 : decode cX11_judge 21 = .ok (.iload 6, 2) := by decide +kernel
theorem dX11_judge_23 : decode cX11_judge 23 = .ok (.ifCond .lt 41, 3) := by decide +kernel
theorem dX11_judge_26 : decode cX11_judge 26 = .ok (.iload 6, 2) := by decide +kernel
theorem dX11_judge_28 : decode cX11_judge 28 = .ok (.aload_n 0, 1) := by decide +kernel
theorem dX11_judge_29 : decode cX11_judge 29 = .ok (.getfield 53, 3) := by decide +kernel
theorem dX11_judge_32 : decode cX11_judge 32 = .ok (.arraylength, 1) := by decide +kernel
theorem dX11_judge_33 : decode cX11_judge 33 = .ok (.if_icmp .ge 31, 3) := by decide +kernel
theorem dX11_judge_36 : decode cX11_judge 36 = .ok (.aload_n 0, 1) := by decide +kernel
theorem dX11_judge_37 : decode cX11_judge 37 = .ok (.getfield 53, 3) := by decide +kernel
theorem dX11_judge_40 : decode cX11_judge 40 = .ok (.iload 6, 2) := by decide +kernel
theorem dX11_judge_42 : decode cX11_judge 42 = .ok (.lload 4, 2) := by decide +kernel
theorem dX11_judge_44 : decode cX11_judge 44 = .ok (.ldc2_w 210, 3) := by decide +kernel
theorem dX11_judge_47 : decode cX11_judge 47 = .ok (.lrem, 1) := by decide +kernel
theorem dX11_judge_48 : decode cX11_judge 48 = .ok (.l2i, 1) := by decide +kernel
theorem dX11_judge_49 : decode cX11_judge 49 = .ok (.iastore, 1) := by decide +kernel
theorem dX11_judge_50 : decode cX11_judge 50 = .ok (.lload 4, 2) := by decide +kernel
theorem dX11_judge_52 : decode cX11_judge 52 = .ok (.ldc2_w 210, 3) := by decide +kernel
theorem dX11_judge_55 : decode cX11_judge 55 = .ok (.ldiv, 1) := by decide +kernel
theorem dX11_judge_56 : decode cX11_judge 56 = .ok (.lstore 4, 2) := by decide +kernel
theorem dX11_judge_58 : decode cX11_judge 58 = .ok (.iinc 6 (-1), 3) := by decide +kernel
theorem dX11_judge_61 : decode cX11_judge 61 = .ok (.goto (-40), 3) := by decide +kernel
theorem dX11_judge_64 : decode cX11_judge 64 = .ok (.lload_n 2, 1) := by decide +kernel
theorem dX11_judge_65 : decode cX11_judge 65 = .ok (.lconst 0, 1) := by decide +kernel
theorem dX11_judge_66 : decode cX11_judge 66 = .ok (.lcmp, 1) := by decide +kernel
theorem dX11_judge_67 : decode cX11_judge 67 = .ok (.ifCond .lt 10, 3) := by decide +kernel
theorem dX11_judge_70 : decode cX11_judge 70 = .ok (.lload 4, 2) := by decide +kernel
theorem dX11_judge_72 : decode cX11_judge 72 = .ok (.lconst 0, 1) := by decide +kernel
theorem dX11_judge_73 : decode cX11_judge 73 = .ok (.lcmp, 1) := by decide +kernel
theorem dX11_judge_74 : decode cX11_judge 74 = .ok (.ifCond .eq 6, 3) := by decide +kernel
theorem dX11_judge_77 : decode cX11_judge 77 = .ok (.bipush (-2), 2) := by decide +kernel
theorem dX11_judge_79 : decode cX11_judge 79 = .ok (.ireturn, 1) := by decide +kernel
theorem dX11_judge_80 : decode cX11_judge 80 = .ok (.aload_n 0, 1) := by decide +kernel
theorem dX11_judge_81 : decode cX11_judge 81 = .ok (.getfield 37, 3) := by decide +kernel
theorem dX11_judge_84 : decode cX11_judge 84 = .ok (.aload_n 0, 1) := by decide +kernel
theorem dX11_judge_85 : decode cX11_judge 85 = .ok (.getfield 33, 3) := by decide +kernel
theorem dX11_judge_88 : decode cX11_judge 88 = .ok (.invokevirtual 194, 3) := by decide +kernel
theorem dX11_judge_91 : decode cX11_judge 91 = .ok (.invokevirtual 197, 3) := by decide +kernel
theorem dX11_judge_94 : decode cX11_judge 94 = .ok (.iconst 0, 1) := by decide +kernel
theorem dX11_judge_95 : decode cX11_judge 95 = .ok (.istore 6, 2) := by decide +kernel
theorem dX11_judge_97 : decode cX11_judge 97 = .ok (.iload 6, 2) := by decide +kernel
theorem dX11_judge_99 : decode cX11_judge 99 = .ok (.iload_n 1, 1) := by decide +kernel
theorem dX11_judge_100 : decode cX11_judge 100 = .ok (.if_icmp .ge 65, 3) := by decide +kernel
theorem dX11_judge_103 : decode cX11_judge 103 = .ok (.iload 6, 2) := by decide +kernel
theorem dX11_judge_105 : decode cX11_judge 105 = .ok (.aload_n 0, 1) := by decide +kernel
theorem dX11_judge_106 : decode cX11_judge 106 = .ok (.getfield 53, 3) := by decide +kernel
theorem dX11_judge_109 : decode cX11_judge 109 = .ok (.arraylength, 1) := by decide +kernel
theorem dX11_judge_110 : decode cX11_judge 110 = .ok (.if_icmp .ge 55, 3) := by decide +kernel
theorem dX11_judge_113 : decode cX11_judge 113 = .ok (.aload_n 0, 1) := by decide +kernel
theorem dX11_judge_114 : decode cX11_judge 114 = .ok (.getfield 53, 3) := by decide +kernel
theorem dX11_judge_117 : decode cX11_judge 117 = .ok (.iload 6, 2) := by decide +kernel
theorem dX11_judge_119 : decode cX11_judge 119 = .ok (.iaload, 1) := by decide +kernel
theorem dX11_judge_120 : decode cX11_judge 120 = .ok (.istore 7, 2) := by decide +kernel
theorem dX11_judge_122 : decode cX11_judge 122 = .ok (.aload_n 0, 1) := by decide +kernel
theorem dX11_judge_123 : decode cX11_judge 123 = .ok (.iload 7, 2) := by decide +kernel
theorem dX11_judge_125 : decode cX11_judge 125 = .ok (.sipush 1000, 3) := by decide +kernel
theorem dX11_judge_128 : decode cX11_judge 128 = .ok (.idiv, 1) := by decide +kernel
theorem dX11_judge_129 : decode cX11_judge 129 = .ok (.iload 7, 2) := by decide +kernel
theorem dX11_judge_131 : decode cX11_judge 131 = .ok (.bipush 100, 2) := by decide +kernel
theorem dX11_judge_133 : decode cX11_judge 133 = .ok (.idiv, 1) := by decide +kernel
theorem dX11_judge_134 : decode cX11_judge 134 = .ok (.bipush 10, 2) := by decide +kernel
theorem dX11_judge_136 : decode cX11_judge 136 = .ok (.irem, 1) := by decide +kernel
theorem dX11_judge_137 : decode cX11_judge 137 = .ok (.iload 7, 2) := by decide +kernel
theorem dX11_judge_139 : decode cX11_judge 139 = .ok (.bipush 10, 2) := by decide +kernel
theorem dX11_judge_141 : decode cX11_judge 141 = .ok (.idiv, 1) := by decide +kernel
theorem dX11_judge_142 : decode cX11_judge 142 = .ok (.bipush 10, 2) := by decide +kernel
theorem dX11_judge_144 : decode cX11_judge 144 = .ok (.irem, 1) := by decide +kernel
theorem dX11_judge_145 : decode cX11_judge 145 = .ok (.iload 7, 2) := by decide +kernel
theorem dX11_judge_147 : decode cX11_judge 147 = .ok (.bipush 10, 2) := by decide +kernel
theorem dX11_judge_149 : decode cX11_judge 149 = .ok (.irem, 1) := by decide +kernel
theorem dX11_judge_150 : decode cX11_judge 150 = .ok (.invokevirtual 212, 3) := by decide +kernel
theorem dX11_judge_153 : decode cX11_judge 153 = .ok (.ifCond .ne 6, 3) := by decide +kernel
theorem dX11_judge_156 : decode cX11_judge 156 = .ok (.iload 6, 2) := by decide +kernel
theorem dX11_judge_158 : decode cX11_judge 158 = .ok (.ireturn, 1) := by decide +kernel
theorem dX11_judge_159 : decode cX11_judge 159 = .ok (.iinc 6 1, 3) := by decide +kernel
theorem dX11_judge_162 : decode cX11_judge 162 = .ok (.goto (-65), 3) := by decide +kernel
theorem dX11_judge_165 : decode cX11_judge 165 = .ok (.bipush (-9), 2) := by decide +kernel
theorem dX11_judge_167 : decode cX11_judge 167 = .ok (.ireturn, 1) := by decide +kernel
theorem dX11_stands_0 : decode cX11_stands 0 = .ok (.iload_n 1, 1) := by decide +kernel
theorem dX11_stands_1 : decode cX11_stands 1 = .ok (.iconst 5, 1) := by decide +kernel
theorem dX11_stands_2 : decode cX11_stands 2 = .ok (.if_icmp .ne 69, 3) := by decide +kernel
theorem dX11_stands_5 : decode cX11_stands 5 = .ok (.iload_n 2, 1) := by decide +kernel
theorem dX11_stands_6 : decode cX11_stands 6 = .ok (.aload_n 0, 1) := by decide +kernel
theorem dX11_stands_7 : decode cX11_stands 7 = .ok (.getfield 23, 3) := by decide +kernel
theorem dX11_stands_10 : decode cX11_stands 10 = .ok (.getfield 108, 3) := by decide +kernel
theorem dX11_stands_13 : decode cX11_stands 13 = .ok (.if_icmp .ge 56, 3) := by decide +kernel
theorem dX11_stands_16 : decode cX11_stands 16 = .ok (.iload_n 2, 1) := by decide +kernel
theorem dX11_stands_17 : decode cX11_stands 17 = .ok (.iconst 3, 1) := by decide +kernel
theorem dX11_stands_18 : decode cX11_stands 18 = .ok (.if_icmp .ge 51, 3) := by decide +kernel
theorem dX11_stands_21 : decode cX11_stands 21 = .ok (.iload_n 3, 1) := by decide +kernel
theorem dX11_stands_22 : decode cX11_stands 22 = .ok (.aload_n 0, 1) := by decide +kernel
theorem dX11_stands_23 : decode cX11_stands 23 = .ok (.getfield 23, 3) := by decide +kernel
theorem dX11_stands_26 : decode cX11_stands 26 = .ok (.getfield 114, 3) := by decide +kernel
theorem dX11_stands_29 : decode cX11_stands 29 = .ok (.if_icmp .ge 40, 3) := by decide +kernel
theorem dX11_stands_32 : decode cX11_stands 32 = .ok (.iload 4, 2) := by decide +kernel
theorem dX11_stands_34 : decode cX11_stands 34 = .ok (.aload_n 0, 1) := by decide +kernel
theorem dX11_stands_35 : decode cX11_stands 35 = .ok (.aload_n 0, 1) := by decide +kernel
theorem dX11_stands_36 : decode cX11_stands 36 = .ok (.getfield 37, 3) := by decide +kernel
theorem dX11_stands_39 : decode cX11_stands 39 = .ok (.invokevirtual 120, 3) := by decide +kernel
theorem dX11_stands_42 : decode cX11_stands 42 = .ok (.aload_n 0, 1) := by decide +kernel
theorem dX11_stands_43 : decode cX11_stands 43 = .ok (.aload_n 0, 1) := by decide +kernel
theorem dX11_stands_44 : decode cX11_stands 44 = .ok (.getfield 37, 3) := by decide +kernel
theorem dX11_stands_47 : decode cX11_stands 47 = .ok (.invokevirtual 124, 3) := by decide +kernel
theorem dX11_stands_50 : decode cX11_stands 50 = .ok (.invokevirtual 140, 3) := by decide +kernel
theorem dX11_stands_53 : decode cX11_stands 53 = .ok (.getfield 166, 3) := by decide +kernel
theorem dX11_stands_56 : decode cX11_stands 56 = .ok (.iload_n 2, 1) := by decide +kernel
theorem dX11_stands_57 : decode cX11_stands 57 = .ok (.iaload, 1) := by decide +kernel
theorem dX11_stands_58 : decode cX11_stands 58 = .ok (.iload_n 3, 1) := by decide +kernel
theorem dX11_stands_59 : decode cX11_stands 59 = .ok (.ishr, 1) := by decide +kernel
theorem dX11_stands_60 : decode cX11_stands 60 = .ok (.iconst 1, 1) := by decide +kernel
theorem dX11_stands_61 : decode cX11_stands 61 = .ok (.iand, 1) := by decide +kernel
theorem dX11_stands_62 : decode cX11_stands 62 = .ok (.if_icmp .ne 7, 3) := by decide +kernel
theorem dX11_stands_65 : decode cX11_stands 65 = .ok (.iconst 1, 1) := by decide +kernel
theorem dX11_stands_66 : decode cX11_stands 66 = .ok (.goto 4, 3) := by decide +kernel
theorem dX11_stands_69 : decode cX11_stands 69 = .ok (.iconst 0, 1) := by decide +kernel
theorem dX11_stands_70 : decode cX11_stands 70 = .ok (.ireturn, 1) := by decide +kernel
theorem dX11_stands_71 : decode cX11_stands 71 = .ok (.iload_n 1, 1) := by decide +kernel
theorem dX11_stands_72 : decode cX11_stands 72 = .ok (.bipush 6, 2) := by decide +kernel
theorem dX11_stands_74 : decode cX11_stands 74 = .ok (.if_icmp .ne 25, 3) := by decide +kernel
theorem dX11_stands_77 : decode cX11_stands 77 = .ok (.aload_n 0, 1) := by decide +kernel
theorem dX11_stands_78 : decode cX11_stands 78 = .ok (.aload_n 0, 1) := by decide +kernel
theorem dX11_stands_79 : decode cX11_stands 79 = .ok (.getfield 37, 3) := by decide +kernel
theorem dX11_stands_82 : decode cX11_stands 82 = .ok (.invokevirtual 120, 3) := by decide +kernel
theorem dX11_stands_85 : decode cX11_stands 85 = .ok (.invokevirtual 132, 3) := by decide +kernel
theorem dX11_stands_88 : decode cX11_stands 88 = .ok (.getfield 150, 3) := by decide +kernel
theorem dX11_stands_91 : decode cX11_stands 91 = .ok (.iload_n 2, 1) := by decide +kernel
theorem dX11_stands_92 : decode cX11_stands 92 = .ok (.iload_n 3, 1) := by decide +kernel
theorem dX11_stands_93 : decode cX11_stands 93 = .ok (.iload 4, 2) := by decide +kernel
theorem dX11_stands_95 : decode cX11_stands 95 = .ok (.invokevirtual 216, 3) := by decide +kernel
theorem dX11_stands_98 : decode cX11_stands 98 = .ok (.ireturn, 1) := by decide +kernel
theorem dX11_stands_99 : decode cX11_stands 99 = .ok (.iload_n 3, 1) := by decide +kernel
theorem dX11_stands_100 : decode cX11_stands 100 = .ok (.ifCond .eq 5, 3) := by decide +kernel
theorem dX11_stands_103 : decode cX11_stands 103 = .ok (.iconst 0, 1) := by decide +kernel
theorem dX11_stands_104 : decode cX11_stands 104 = .ok (.ireturn, 1) := by decide +kernel
theorem dX11_stands_105 : decode cX11_stands 105 = .ok (.iload_n 1, 1) := by decide +kernel
theorem dX11_stands_106 : decode cX11_stands 106 = .ok (.tableswitch 160 1 4 #[30, 41, 71, 116], 30) := by decide +kernel
theorem dX11_stands_136 : decode cX11_stands 136 = .ok (.aload_n 0, 1) := by decide +kernel
theorem dX11_stands_137 : decode cX11_stands 137 = .ok (.getfield 37, 3) := by decide +kernel
theorem dX11_stands_140 : decode cX11_stands 140 = .ok (.iload_n 2, 1) := by decide +kernel
theorem dX11_stands_141 : decode cX11_stands 141 = .ok (.iload 4, 2) := by decide +kernel
theorem dX11_stands_143 : decode cX11_stands 143 = .ok (.invokevirtual 220, 3) := by decide +kernel
theorem dX11_stands_146 : decode cX11_stands 146 = .ok (.ireturn, 1) := by decide +kernel
theorem dX11_stands_147 : decode cX11_stands 147 = .ok (.iload_n 2, 1) := by decide +kernel
theorem dX11_stands_148 : decode cX11_stands 148 = .ok (.aload_n 0, 1) := by decide +kernel
theorem dX11_stands_149 : decode cX11_stands 149 = .ok (.getfield 23, 3) := by decide +kernel
theorem dX11_stands_152 : decode cX11_stands 152 = .ok (.getfield 114, 3) := by decide +kernel
theorem dX11_stands_155 : decode cX11_stands 155 = .ok (.if_icmp .ge 20, 3) := by decide +kernel
theorem dX11_stands_158 : decode cX11_stands 158 = .ok (.aload_n 0, 1) := by decide +kernel
theorem dX11_stands_159 : decode cX11_stands 159 = .ok (.getfield 37, 3) := by decide +kernel
theorem dX11_stands_162 : decode cX11_stands 162 = .ok (.iload_n 2, 1) := by decide +kernel
theorem dX11_stands_163 : decode cX11_stands 163 = .ok (.iload 4, 2) := by decide +kernel
theorem dX11_stands_165 : decode cX11_stands 165 = .ok (.invokevirtual 224, 3) := by decide +kernel
theorem dX11_stands_168 : decode cX11_stands 168 = .ok (.ifCond .eq 7, 3) := by decide +kernel
theorem dX11_stands_171 : decode cX11_stands 171 = .ok (.iconst 1, 1) := by decide +kernel
theorem dX11_stands_172 : decode cX11_stands 172 = .ok (.goto 4, 3) := by decide +kernel
theorem dX11_stands_175 : decode cX11_stands 175 = .ok (.iconst 0, 1) := by decide +kernel
theorem dX11_stands_176 : decode cX11_stands 176 = .ok (.ireturn, 1) := by decide +kernel
theorem dX11_stands_177 : decode cX11_stands 177 = .ok (.iload_n 2, 1) := by decide +kernel
theorem dX11_stands_178 : decode cX11_stands 178 = .ok (.aload_n 0, 1) := by decide +kernel
theorem dX11_stands_179 : decode cX11_stands 179 = .ok (.getfield 23, 3) := by decide +kernel
theorem dX11_stands_182 : decode cX11_stands 182 = .ok (.getfield 105, 3) := by decide +kernel
theorem dX11_stands_185 : decode cX11_stands 185 = .ok (.if_icmp .ge 35, 3) := by decide +kernel
theorem dX11_stands_188 : decode cX11_stands 188 = .ok (.iload 4, 2) := by decide +kernel
theorem dX11_stands_190 : decode cX11_stands 190 = .ok (.aload_n 0, 1) := by decide +kernel
theorem dX11_stands_191 : decode cX11_stands 191 = .ok (.aload_n 0, 1) := by decide +kernel
theorem dX11_stands_192 : decode cX11_stands 192 = .ok (.getfield 37, 3) := by decide +kernel
theorem dX11_stands_195 : decode cX11_stands 195 = .ok (.invokevirtual 120, 3) := by decide +kernel
theorem dX11_stands_198 : decode cX11_stands 198 = .ok (.aload_n 0, 1) := by decide +kernel
theorem dX11_stands_199 : decode cX11_stands 199 = .ok (.aload_n 0, 1) := by decide +kernel
theorem dX11_stands_200 : decode cX11_stands 200 = .ok (.getfield 37, 3) := by decide +kernel
theorem dX11_stands_203 : decode cX11_stands 203 = .ok (.invokevirtual 124, 3) := by decide +kernel
theorem dX11_stands_206 : decode cX11_stands 206 = .ok (.invokevirtual 128, 3) := by decide +kernel
theorem dX11_stands_209 : decode cX11_stands 209 = .ok (.iload_n 2, 1) := by decide +kernel
theorem dX11_stands_210 : decode cX11_stands 210 = .ok (.ishr, 1) := by decide +kernel
theorem dX11_stands_211 : decode cX11_stands 211 = .ok (.iconst 1, 1) := by decide +kernel
theorem dX11_stands_212 : decode cX11_stands 212 = .ok (.iand, 1) := by decide +kernel
theorem dX11_stands_213 : decode cX11_stands 213 = .ok (.if_icmp .ne 7, 3) := by decide +kernel
theorem dX11_stands_216 : decode cX11_stands 216 = .ok (.iconst 1, 1) := by decide +kernel
theorem dX11_stands_217 : decode cX11_stands 217 = .ok (.goto 4, 3) := by decide +kernel
theorem dX11_stands_220 : decode cX11_stands 220 = .ok (.iconst 0, 1) := by decide +kernel
theorem dX11_stands_221 : decode cX11_stands 221 = .ok (.ireturn, 1) := by decide +kernel
theorem dX11_stands_222 : decode cX11_stands 222 = .ok (.iload_n 2, 1) := by decide +kernel
theorem dX11_stands_223 : decode cX11_stands 223 = .ok (.aload_n 0, 1) := by decide +kernel
theorem dX11_stands_224 : decode cX11_stands 224 = .ok (.getfield 23, 3) := by decide +kernel
theorem dX11_stands_227 : decode cX11_stands 227 = .ok (.getfield 105, 3) := by decide +kernel
theorem dX11_stands_230 : decode cX11_stands 230 = .ok (.if_icmp .ge 34, 3) := by decide +kernel
theorem dX11_stands_233 : decode cX11_stands 233 = .ok (.iload 4, 2) := by decide +kernel
theorem dX11_stands_235 : decode cX11_stands 235 = .ok (.aload_n 0, 1) := by decide +kernel
theorem dX11_stands_236 : decode cX11_stands 236 = .ok (.getfield 23, 3) := by decide +kernel
theorem dX11_stands_239 : decode cX11_stands 239 = .ok (.aload_n 0, 1) := by decide +kernel
theorem dX11_stands_240 : decode cX11_stands 240 = .ok (.aload_n 0, 1) := by decide +kernel
theorem dX11_stands_241 : decode cX11_stands 241 = .ok (.getfield 37, 3) := by decide +kernel
theorem dX11_stands_244 : decode cX11_stands 244 = .ok (.invokevirtual 120, 3) := by decide +kernel
theorem dX11_stands_247 : decode cX11_stands 247 = .ok (.invokevirtual 132, 3) := by decide +kernel
theorem dX11_stands_250 : decode cX11_stands 250 = .ok (.invokevirtual 136, 3) := by decide +kernel
theorem dX11_stands_253 : decode cX11_stands 253 = .ok (.iload_n 2, 1) := by decide +kernel
theorem dX11_stands_254 : decode cX11_stands 254 = .ok (.ishr, 1) := by decide +kernel
theorem dX11_stands_255 : decode cX11_stands 255 = .ok (.iconst 1, 1) := by decide +kernel
theorem dX11_stands_256 : decode cX11_stands 256 = .ok (.iand, 1) := by decide +kernel
theorem dX11_stands_257 : decode cX11_stands 257 = .ok (.if_icmp .ne 7, 3) := by decide +kernel
theorem dX11_stands_260 : decode cX11_stands 260 = .ok (.iconst 1, 1) := by decide +kernel
theorem dX11_stands_261 : decode cX11_stands 261 = .ok (.goto 4, 3) := by decide +kernel
theorem dX11_stands_264 : decode cX11_stands 264 = .ok (.iconst 0, 1) := by decide +kernel
theorem dX11_stands_265 : decode cX11_stands 265 = .ok (.ireturn, 1) := by decide +kernel
theorem dX11_stands_266 : decode cX11_stands 266 = .ok (.iconst 0, 1) := by decide +kernel
theorem dX11_stands_267 : decode cX11_stands 267 = .ok (.ireturn, 1) := by decide +kernel
theorem dX11_share_0 : decode cX11_share 0 = .ok (.iload_n 1, 1) := by decide +kernel
theorem dX11_share_1 : decode cX11_share 1 = .ok (.ifCond .lt 14, 3) := by decide +kernel
theorem dX11_share_4 : decode cX11_share 4 = .ok (.iload_n 1, 1) := by decide +kernel
theorem dX11_share_5 : decode cX11_share 5 = .ok (.aload_n 0, 1) := by decide +kernel
theorem dX11_share_6 : decode cX11_share 6 = .ok (.getfield 23, 3) := by decide +kernel
theorem dX11_share_9 : decode cX11_share 9 = .ok (.getfield 114, 3) := by decide +kernel
theorem dX11_share_12 : decode cX11_share 12 = .ok (.if_icmp .lt 5, 3) := by decide +kernel
theorem dX11_share_15 : decode cX11_share 15 = .ok (.iconst (-1), 1) := by decide +kernel
theorem dX11_share_16 : decode cX11_share 16 = .ok (.ireturn, 1) := by decide +kernel
theorem dX11_share_17 : decode cX11_share 17 = .ok (.aload_n 0, 1) := by decide +kernel
theorem dX11_share_18 : decode cX11_share 18 = .ok (.aload_n 0, 1) := by decide +kernel
theorem dX11_share_19 : decode cX11_share 19 = .ok (.getfield 33, 3) := by decide +kernel
theorem dX11_share_22 : decode cX11_share 22 = .ok (.invokevirtual 124, 3) := by decide +kernel
theorem dX11_share_25 : decode cX11_share 25 = .ok (.istore_n 3, 1) := by decide +kernel
theorem dX11_share_26 : decode cX11_share 26 = .ok (.iconst 1, 1) := by decide +kernel
theorem dX11_share_27 : decode cX11_share 27 = .ok (.iload_n 1, 1) := by decide +kernel
theorem dX11_share_28 : decode cX11_share 28 = .ok (.ishl, 1) := by decide +kernel
theorem dX11_share_29 : decode cX11_share 29 = .ok (.istore 4, 2) := by decide +kernel
theorem dX11_share_31 : decode cX11_share 31 = .ok (.iload_n 3, 1) := by decide +kernel
theorem dX11_share_32 : decode cX11_share 32 = .ok (.iload 4, 2) := by decide +kernel
theorem dX11_share_34 : decode cX11_share 34 = .ok (.iand, 1) := by decide +kernel
theorem dX11_share_35 : decode cX11_share 35 = .ok (.ifCond .ne 6, 3) := by decide +kernel
theorem dX11_share_38 : decode cX11_share 38 = .ok (.bipush (-3), 2) := by decide +kernel
theorem dX11_share_40 : decode cX11_share 40 = .ok (.ireturn, 1) := by decide +kernel
theorem dX11_share_41 : decode cX11_share 41 = .ok (.aload_n 0, 1) := by decide +kernel
theorem dX11_share_42 : decode cX11_share 42 = .ok (.aload_n 0, 1) := by decide +kernel
theorem dX11_share_43 : decode cX11_share 43 = .ok (.getfield 33, 3) := by decide +kernel
theorem dX11_share_46 : decode cX11_share 46 = .ok (.invokevirtual 120, 3) := by decide +kernel
theorem dX11_share_49 : decode cX11_share 49 = .ok (.astore 5, 2) := by decide +kernel
theorem dX11_share_51 : decode cX11_share 51 = .ok (.iload_n 3, 1) := by decide +kernel
theorem dX11_share_52 : decode cX11_share 52 = .ok (.invokestatic 205, 3) := by decide +kernel
theorem dX11_share_55 : decode cX11_share 55 = .ok (.istore 6, 2) := by decide +kernel
theorem dX11_share_57 : decode cX11_share 57 = .ok (.iconst 0, 1) := by decide +kernel
theorem dX11_share_58 : decode cX11_share 58 = .ok (.istore 7, 2) := by decide +kernel
theorem dX11_share_60 : decode cX11_share 60 = .ok (.iconst 0, 1) := by decide +kernel
theorem dX11_share_61 : decode cX11_share 61 = .ok (.istore 8, 2) := by decide +kernel
theorem dX11_share_63 : decode cX11_share 63 = .ok (.iload 8, 2) := by decide +kernel
theorem dX11_share_65 : decode cX11_share 65 = .ok (.bipush 32, 2) := by decide +kernel
theorem dX11_share_67 : decode cX11_share 67 = .ok (.if_icmp .ge 80, 3) := by decide +kernel
theorem dX11_share_70 : decode cX11_share 70 = .ok (.iload 8, 2) := by decide +kernel
theorem dX11_share_72 : decode cX11_share 72 = .ok (.iload_n 3, 1) := by decide +kernel
theorem dX11_share_73 : decode cX11_share 73 = .ok (.iload 4, 2) := by decide +kernel
theorem dX11_share_75 : decode cX11_share 75 = .ok (.iconst (-1), 1) := by decide +kernel
theorem dX11_share_76 : decode cX11_share 76 = .ok (.ixor, 1) := by decide +kernel
theorem dX11_share_77 : decode cX11_share 77 = .ok (.iand, 1) := by decide +kernel
theorem dX11_share_78 : decode cX11_share 78 = .ok (.iconst (-1), 1) := by decide +kernel
theorem dX11_share_79 : decode cX11_share 79 = .ok (.ixor, 1) := by decide +kernel
theorem dX11_share_80 : decode cX11_share 80 = .ok (.iand, 1) := by decide +kernel
theorem dX11_share_81 : decode cX11_share 81 = .ok (.ifCond .ne 60, 3) := by decide +kernel
theorem dX11_share_84 : decode cX11_share 84 = .ok (.iload 8, 2) := by decide +kernel
theorem dX11_share_86 : decode cX11_share 86 = .ok (.invokestatic 205, 3) := by decide +kernel
theorem dX11_share_89 : decode cX11_share 89 = .ok (.istore 9, 2) := by decide +kernel
theorem dX11_share_91 : decode cX11_share 91 = .ok (.aload 5, 2) := by decide +kernel
theorem dX11_share_93 : decode cX11_share 93 = .ok (.iload 8, 2) := by decide +kernel
theorem dX11_share_95 : decode cX11_share 95 = .ok (.iload 4, 2) := by decide +kernel
theorem dX11_share_97 : decode cX11_share 97 = .ok (.ior, 1) := by decide +kernel
theorem dX11_share_98 : decode cX11_share 98 = .ok (.invokevirtual 128, 3) := by decide +kernel
theorem dX11_share_101 : decode cX11_share 101 = .ok (.invokestatic 205, 3) := by decide +kernel
theorem dX11_share_104 : decode cX11_share 104 = .ok (.aload 5, 2) := by decide +kernel
theorem dX11_share_106 : decode cX11_share 106 = .ok (.iload 8, 2) := by decide +kernel
theorem dX11_share_108 : decode cX11_share 108 = .ok (.invokevirtual 128, 3) := by decide +kernel
theorem dX11_share_111 : decode cX11_share 111 = .ok (.invokestatic 205, 3) := by decide +kernel
theorem dX11_share_114 : decode cX11_share 114 = .ok (.isub, 1) := by decide +kernel
theorem dX11_share_115 : decode cX11_share 115 = .ok (.istore 10, 2) := by decide +kernel
theorem dX11_share_117 : decode cX11_share 117 = .ok (.iload 7, 2) := by decide +kernel
theorem dX11_share_119 : decode cX11_share 119 = .ok (.iload 9, 2) := by decide +kernel
theorem dX11_share_121 : decode cX11_share 121 = .ok (.invokestatic 227, 3) := by decide +kernel
theorem dX11_share_124 : decode cX11_share 124 = .ok (.iload 6, 2) := by decide +kernel
theorem dX11_share_126 : decode cX11_share 126 = .ok (.iconst 1, 1) := by decide +kernel
theorem dX11_share_127 : decode cX11_share 127 = .ok (.isub, 1) := by decide +kernel
theorem dX11_share_128 : decode cX11_share 128 = .ok (.iload 9, 2) := by decide +kernel
theorem dX11_share_130 : decode cX11_share 130 = .ok (.isub, 1) := by decide +kernel
theorem dX11_share_131 : decode cX11_share 131 = .ok (.invokestatic 227, 3) := by decide +kernel
theorem dX11_share_134 : decode cX11_share 134 = .ok (.imul, 1) := by decide +kernel
theorem dX11_share_135 : decode cX11_share 135 = .ok (.iload 10, 2) := by decide +kernel
theorem dX11_share_137 : decode cX11_share 137 = .ok (.imul, 1) := by decide +kernel
theorem dX11_share_138 : decode cX11_share 138 = .ok (.iadd, 1) := by decide +kernel
theorem dX11_share_139 : decode cX11_share 139 = .ok (.istore 7, 2) := by decide +kernel
theorem dX11_share_141 : decode cX11_share 141 = .ok (.iinc 8 1, 3) := by decide +kernel
theorem dX11_share_144 : decode cX11_share 144 = .ok (.goto (-81), 3) := by decide +kernel
theorem dX11_share_147 : decode cX11_share 147 = .ok (.iload 7, 2) := by decide +kernel
theorem dX11_share_149 : decode cX11_share 149 = .ok (.iload 6, 2) := by decide +kernel
theorem dX11_share_151 : decode cX11_share 151 = .ok (.invokestatic 227, 3) := by decide +kernel
theorem dX11_share_154 : decode cX11_share 154 = .ok (.iload_n 2, 1) := by decide +kernel
theorem dX11_share_155 : decode cX11_share 155 = .ok (.invokestatic 230, 3) := by decide +kernel
theorem dX11_share_158 : decode cX11_share 158 = .ok (.ireturn, 1) := by decide +kernel
theorem dX11_factorial_0 : decode cX11_factorial 0 = .ok (.iload_n 0, 1) := by decide +kernel
theorem dX11_factorial_1 : decode cX11_factorial 1 = .ok (.ifCond .lt 11, 3) := by decide +kernel
theorem dX11_factorial_4 : decode cX11_factorial 4 = .ok (.iload_n 0, 1) := by decide +kernel
theorem dX11_factorial_5 : decode cX11_factorial 5 = .ok (.getstatic 234, 3) := by decide +kernel
theorem dX11_factorial_8 : decode cX11_factorial 8 = .ok (.arraylength, 1) := by decide +kernel
theorem dX11_factorial_9 : decode cX11_factorial 9 = .ok (.if_icmp .lt 7, 3) := by decide +kernel
theorem dX11_factorial_12 : decode cX11_factorial 12 = .ok (.iconst 1, 1) := by decide +kernel
theorem dX11_factorial_13 : decode cX11_factorial 13 = .ok (.goto 8, 3) := by decide +kernel
theorem dX11_factorial_16 : decode cX11_factorial 16 = .ok (.getstatic 234, 3) := by decide +kernel
theorem dX11_factorial_19 : decode cX11_factorial 19 = .ok (.iload_n 0, 1) := by decide +kernel
theorem dX11_factorial_20 : decode cX11_factorial 20 = .ok (.iaload, 1) := by decide +kernel
theorem dX11_factorial_21 : decode cX11_factorial 21 = .ok (.ireturn, 1) := by decide +kernel
theorem dX11_part_0 : decode cX11_part 0 = .ok (.iload_n 1, 1) := by decide +kernel
theorem dX11_part_1 : decode cX11_part 1 = .ok (.istore_n 3, 1) := by decide +kernel
theorem dX11_part_2 : decode cX11_part 2 = .ok (.iload_n 0, 1) := by decide +kernel
theorem dX11_part_3 : decode cX11_part 3 = .ok (.istore 4, 2) := by decide +kernel
theorem dX11_part_5 : decode cX11_part 5 = .ok (.iconst 0, 1) := by decide +kernel
theorem dX11_part_6 : decode cX11_part 6 = .ok (.istore 5, 2) := by decide +kernel
theorem dX11_part_8 : decode cX11_part 8 = .ok (.iload 5, 2) := by decide +kernel
theorem dX11_part_10 : decode cX11_part 10 = .ok (.bipush 64, 2) := by decide +kernel
theorem dX11_part_12 : decode cX11_part 12 = .ok (.if_icmp .ge 27, 3) := by decide +kernel
theorem dX11_part_15 : decode cX11_part 15 = .ok (.iload 4, 2) := by decide +kernel
theorem dX11_part_17 : decode cX11_part 17 = .ok (.ifCond .eq 22, 3) := by decide +kernel
theorem dX11_part_20 : decode cX11_part 20 = .ok (.iload_n 3, 1) := by decide +kernel
theorem dX11_part_21 : decode cX11_part 21 = .ok (.iload 4, 2) := by decide +kernel
theorem dX11_part_23 : decode cX11_part 23 = .ok (.irem, 1) := by decide +kernel
theorem dX11_part_24 : decode cX11_part 24 = .ok (.istore 6, 2) := by decide +kernel
theorem dX11_part_26 : decode cX11_part 26 = .ok (.iload 4, 2) := by decide +kernel
theorem dX11_part_28 : decode cX11_part 28 = .ok (.istore_n 3, 1) := by decide +kernel
theorem dX11_part_29 : decode cX11_part 29 = .ok (.iload 6, 2) := by decide +kernel
theorem dX11_part_31 : decode cX11_part 31 = .ok (.istore 4, 2) := by decide +kernel
theorem dX11_part_33 : decode cX11_part 33 = .ok (.iinc 5 1, 3) := by decide +kernel
theorem dX11_part_36 : decode cX11_part 36 = .ok (.goto (-28), 3) := by decide +kernel
theorem dX11_part_39 : decode cX11_part 39 = .ok (.iload_n 3, 1) := by decide +kernel
theorem dX11_part_40 : decode cX11_part 40 = .ok (.ifCond .ne 6, 3) := by decide +kernel
theorem dX11_part_43 : decode cX11_part 43 = .ok (.bipush (-9), 2) := by decide +kernel
theorem dX11_part_45 : decode cX11_part 45 = .ok (.ireturn, 1) := by decide +kernel
theorem dX11_part_46 : decode cX11_part 46 = .ok (.iload_n 2, 1) := by decide +kernel
theorem dX11_part_47 : decode cX11_part 47 = .ok (.ifCond .eq 9, 3) := by decide +kernel
theorem dX11_part_50 : decode cX11_part 50 = .ok (.iload_n 0, 1) := by decide +kernel
theorem dX11_part_51 : decode cX11_part 51 = .ok (.iload_n 3, 1) := by decide +kernel
theorem dX11_part_52 : decode cX11_part 52 = .ok (.idiv, 1) := by decide +kernel
theorem dX11_part_53 : decode cX11_part 53 = .ok (.goto 6, 3) := by decide +kernel
theorem dX11_part_56 : decode cX11_part 56 = .ok (.iload_n 1, 1) := by decide +kernel
theorem dX11_part_57 : decode cX11_part 57 = .ok (.iload_n 3, 1) := by decide +kernel
theorem dX11_part_58 : decode cX11_part 58 = .ok (.idiv, 1) := by decide +kernel
theorem dX11_part_59 : decode cX11_part 59 = .ok (.ireturn, 1) := by decide +kernel
theorem dX11_see_0 : decode cX11_see 0 = .ok (.iload_n 1, 1) := by decide +kernel
theorem dX11_see_1 : decode cX11_see 1 = .ok (.ifCond .lt 14, 3) := by decide +kernel
theorem dX11_see_4 : decode cX11_see 4 = .ok (.iload_n 1, 1) := by decide +kernel
theorem dX11_see_5 : decode cX11_see 5 = .ok (.aload_n 0, 1) := by decide +kernel
theorem dX11_see_6 : decode cX11_see 6 = .ok (.getfield 23, 3) := by decide +kernel
theorem dX11_see_9 : decode cX11_see 9 = .ok (.getfield 105, 3) := by decide +kernel
theorem dX11_see_12 : decode cX11_see 12 = .ok (.if_icmp .lt 5, 3) := by decide +kernel
theorem dX11_see_15 : decode cX11_see 15 = .ok (.iconst (-1), 1) := by decide +kernel
theorem dX11_see_16 : decode cX11_see 16 = .ok (.ireturn, 1) := by decide +kernel
theorem dX11_see_17 : decode cX11_see 17 = .ok (.iload_n 2, 1) := by decide +kernel
theorem dX11_see_18 : decode cX11_see 18 = .ok (.ifCond .lt 8, 3) := by decide +kernel
theorem dX11_see_21 : decode cX11_see 21 = .ok (.iload_n 2, 1) := by decide +kernel
theorem dX11_see_22 : decode cX11_see 22 = .ok (.iconst 1, 1) := by decide +kernel
theorem dX11_see_23 : decode cX11_see 23 = .ok (.if_icmp .le 6, 3) := by decide +kernel
theorem dX11_see_26 : decode cX11_see 26 = .ok (.bipush (-2), 2) := by decide +kernel
theorem dX11_see_28 : decode cX11_see 28 = .ok (.ireturn, 1) := by decide +kernel
theorem dX11_see_29 : decode cX11_see 29 = .ok (.aload_n 0, 1) := by decide +kernel
theorem dX11_see_30 : decode cX11_see 30 = .ok (.getfield 159, 3) := by decide +kernel
theorem dX11_see_33 : decode cX11_see 33 = .ok (.ifCond .lt 27, 3) := by decide +kernel
theorem dX11_see_36 : decode cX11_see 36 = .ok (.aload_n 0, 1) := by decide +kernel
theorem dX11_see_37 : decode cX11_see 37 = .ok (.getfield 159, 3) := by decide +kernel
theorem dX11_see_40 : decode cX11_see 40 = .ok (.aload_n 0, 1) := by decide +kernel
theorem dX11_see_41 : decode cX11_see 41 = .ok (.getfield 47, 3) := by decide +kernel
theorem dX11_see_44 : decode cX11_see 44 = .ok (.arraylength, 1) := by decide +kernel
theorem dX11_see_45 : decode cX11_see 45 = .ok (.if_icmp .ge 15, 3) := by decide +kernel
theorem dX11_see_48 : decode cX11_see 48 = .ok (.aload_n 0, 1) := by decide +kernel
theorem dX11_see_49 : decode cX11_see 49 = .ok (.getfield 159, 3) := by decide +kernel
theorem dX11_see_52 : decode cX11_see 52 = .ok (.aload_n 0, 1) := by decide +kernel
theorem dX11_see_53 : decode cX11_see 53 = .ok (.getfield 50, 3) := by decide +kernel
theorem dX11_see_56 : decode cX11_see 56 = .ok (.arraylength, 1) := by decide +kernel
theorem dX11_see_57 : decode cX11_see 57 = .ok (.if_icmp .lt 6, 3) := by decide +kernel
theorem dX11_see_60 : decode cX11_see 60 = .ok (.bipush (-4), 2) := by decide +kernel
theorem dX11_see_62 : decode cX11_see 62 = .ok (.ireturn, 1) := by decide +kernel
theorem dX11_see_63 : decode cX11_see 63 = .ok (.aload_n 0, 1) := by decide +kernel
theorem dX11_see_64 : decode cX11_see 64 = .ok (.getfield 47, 3) := by decide +kernel
theorem dX11_see_67 : decode cX11_see 67 = .ok (.aload_n 0, 1) := by decide +kernel
theorem dX11_see_68 : decode cX11_see 68 = .ok (.getfield 159, 3) := by decide +kernel
theorem dX11_see_71 : decode cX11_see 71 = .ok (.iload_n 1, 1) := by decide +kernel
theorem dX11_see_72 : decode cX11_see 72 = .ok (.iastore, 1) := by decide +kernel
theorem dX11_see_73 : decode cX11_see 73 = .ok (.aload_n 0, 1) := by decide +kernel
theorem dX11_see_74 : decode cX11_see 74 = .ok (.getfield 50, 3) := by decide +kernel
theorem dX11_see_77 : decode cX11_see 77 = .ok (.aload_n 0, 1) := by decide +kernel
theorem dX11_see_78 : decode cX11_see 78 = .ok (.getfield 159, 3) := by decide +kernel
theorem dX11_see_81 : decode cX11_see 81 = .ok (.iload_n 2, 1) := by decide +kernel
theorem dX11_see_82 : decode cX11_see 82 = .ok (.iastore, 1) := by decide +kernel
theorem dX11_see_83 : decode cX11_see 83 = .ok (.aload_n 0, 1) := by decide +kernel
theorem dX11_see_84 : decode cX11_see 84 = .ok (.dup, 1) := by decide +kernel
theorem dX11_see_85 : decode cX11_see 85 = .ok (.getfield 159, 3) := by decide +kernel
theorem dX11_see_88 : decode cX11_see 88 = .ok (.iconst 1, 1) := by decide +kernel
theorem dX11_see_89 : decode cX11_see 89 = .ok (.iadd, 1) := by decide +kernel
theorem dX11_see_90 : decode cX11_see 90 = .ok (.putfield 159, 3) := by decide +kernel
theorem dX11_see_93 : decode cX11_see 93 = .ok (.aload_n 0, 1) := by decide +kernel
theorem dX11_see_94 : decode cX11_see 94 = .ok (.getfield 159, 3) := by decide +kernel
theorem dX11_see_97 : decode cX11_see 97 = .ok (.ireturn, 1) := by decide +kernel
theorem dX11_unsee_0 : decode cX11_unsee 0 = .ok (.aload_n 0, 1) := by decide +kernel
theorem dX11_unsee_1 : decode cX11_unsee 1 = .ok (.getfield 159, 3) := by decide +kernel
theorem dX11_unsee_4 : decode cX11_unsee 4 = .ok (.istore_n 1, 1) := by decide +kernel
theorem dX11_unsee_5 : decode cX11_unsee 5 = .ok (.aload_n 0, 1) := by decide +kernel
theorem dX11_unsee_6 : decode cX11_unsee 6 = .ok (.iconst 0, 1) := by decide +kernel
theorem dX11_unsee_7 : decode cX11_unsee 7 = .ok (.putfield 159, 3) := by decide +kernel
theorem dX11_unsee_10 : decode cX11_unsee 10 = .ok (.iload_n 1, 1) := by decide +kernel
theorem dX11_unsee_11 : decode cX11_unsee 11 = .ok (.ireturn, 1) := by decide +kernel
theorem dX11_which_0 : decode cX11_which 0 = .ok (.iload_n 1, 1) := by decide +kernel
theorem dX11_which_1 : decode cX11_which 1 = .ok (.ifCond .lt 8, 3) := by decide +kernel
theorem dX11_which_4 : decode cX11_which 4 = .ok (.iload_n 1, 1) := by decide +kernel
theorem dX11_which_5 : decode cX11_which 5 = .ok (.iconst 1, 1) := by decide +kernel
theorem dX11_which_6 : decode cX11_which 6 = .ok (.if_icmp .le 6, 3) := by decide +kernel
theorem dX11_which_9 : decode cX11_which 9 = .ok (.bipush (-2), 2) := by decide +kernel
theorem dX11_which_11 : decode cX11_which 11 = .ok (.ireturn, 1) := by decide +kernel
theorem dX11_which_12 : decode cX11_which 12 = .ok (.aload_n 0, 1) := by decide +kernel
theorem dX11_which_13 : decode cX11_which 13 = .ok (.invokevirtual 237, 3) := by decide +kernel
theorem dX11_which_16 : decode cX11_which 16 = .ok (.iload_n 1, 1) := by decide +kernel
theorem dX11_which_17 : decode cX11_which 17 = .ok (.ifCond .ne 13, 3) := by decide +kernel
theorem dX11_which_20 : decode cX11_which 20 = .ok (.aload_n 0, 1) := by decide +kernel
theorem dX11_which_21 : decode cX11_which 21 = .ok (.getfield 59, 3) := by decide +kernel
theorem dX11_which_24 : decode cX11_which 24 = .ok (.invokevirtual 155, 3) := by decide +kernel
theorem dX11_which_27 : decode cX11_which 27 = .ok (.goto 10, 3) := by decide +kernel
theorem dX11_which_30 : decode cX11_which 30 = .ok (.aload_n 0, 1) := by decide +kernel
theorem dX11_which_31 : decode cX11_which 31 = .ok (.getfield 59, 3) := by decide +kernel
theorem dX11_which_34 : decode cX11_which 34 = .ok (.invokevirtual 240, 3) := by decide +kernel
theorem dX11_which_37 : decode cX11_which 37 = .ok (.ireturn, 1) := by decide +kernel
theorem dX11_findAgreeing_0 : decode cX11_findAgreeing 0 = .ok (.aload_n 0, 1) := by decide +kernel
theorem dX11_findAgreeing_1 : decode cX11_findAgreeing 1 = .ok (.getfield 33, 3) := by decide +kernel
theorem dX11_findAgreeing_4 : decode cX11_findAgreeing 4 = .ok (.aload_n 0, 1) := by decide +kernel
theorem dX11_findAgreeing_5 : decode cX11_findAgreeing 5 = .ok (.getfield 59, 3) := by decide +kernel
theorem dX11_findAgreeing_8 : decode cX11_findAgreeing 8 = .ok (.invokevirtual 243, 3) := by decide +kernel
theorem dX11_findAgreeing_11 : decode cX11_findAgreeing 11 = .ok (.iconst 0, 1) := by decide +kernel
theorem dX11_findAgreeing_12 : decode cX11_findAgreeing 12 = .ok (.istore_n 1, 1) := by decide +kernel
theorem dX11_findAgreeing_13 : decode cX11_findAgreeing 13 = .ok (.iload_n 1, 1) := by decide +kernel
theorem dX11_findAgreeing_14 : decode cX11_findAgreeing 14 = .ok (.aload_n 0, 1) := by decide +kernel
theorem dX11_findAgreeing_15 : decode cX11_findAgreeing 15 = .ok (.getfield 159, 3) := by decide +kernel
theorem dX11_findAgreeing_18 : decode cX11_findAgreeing 18 = .ok (.if_icmp .ge 103, 3) := by decide +kernel
theorem dX11_findAgreeing_21 : decode cX11_findAgreeing 21 = .ok (.iload_n 1, 1) := by decide +kernel
theorem dX11_findAgreeing_22 : decode cX11_findAgreeing 22 = .ok (.aload_n 0, 1) := by decide +kernel
theorem dX11_findAgreeing_23 : decode cX11_findAgreeing 23 = .ok (.getfield 47, 3) := by decide +kernel
theorem dX11_findAgreeing_26 : decode cX11_findAgreeing 26 = .ok (.arraylength, 1) := by decide +kernel
theorem dX11_findAgreeing_27 : decode cX11_findAgreeing 27 = .ok (.if_icmp .ge 94, 3) := by decide +kernel
theorem dX11_findAgreeing_30 : decode cX11_findAgreeing 30 = .ok (.iload_n 1, 1) := by decide +kernel
theorem dX11_findAgreeing_31 : decode cX11_findAgreeing 31 = .ok (.aload_n 0, 1) := by decide +kernel
theorem dX11_findAgreeing_32 : decode cX11_findAgreeing 32 = .ok (.getfield 50, 3) := by decide +kernel
theorem dX11_findAgreeing_35 : decode cX11_findAgreeing 35 = .ok (.arraylength, 1) := by decide +kernel
theorem dX11_findAgreeing_36 : decode cX11_findAgreeing 36 = .ok (.if_icmp .ge 85, 3) := by decide +kernel
theorem dX11_findAgreeing_39 : decode cX11_findAgreeing 39 = .ok (.aload_n 0, 1) := by decide +kernel
theorem dX11_findAgreeing_40 : decode cX11_findAgreeing 40 = .ok (.getfield 47, 3) := by decide +kernel
theorem dX11_findAgreeing_43 : decode cX11_findAgreeing 43 = .ok (.iload_n 1, 1) := by decide +kernel
theorem dX11_findAgreeing_44 : decode cX11_findAgreeing 44 = .ok (.iaload, 1) := by decide +kernel
theorem dX11_findAgreeing_45 : decode cX11_findAgreeing 45 = .ok (.istore_n 2, 1) := by decide +kernel
theorem dX11_findAgreeing_46 : decode cX11_findAgreeing 46 = .ok (.iload_n 2, 1) := by decide +kernel
theorem dX11_findAgreeing_47 : decode cX11_findAgreeing 47 = .ok (.aload_n 0, 1) := by decide +kernel
theorem dX11_findAgreeing_48 : decode cX11_findAgreeing 48 = .ok (.getfield 23, 3) := by decide +kernel
theorem dX11_findAgreeing_51 : decode cX11_findAgreeing 51 = .ok (.getfield 105, 3) := by decide +kernel
theorem dX11_findAgreeing_54 : decode cX11_findAgreeing 54 = .ok (.if_icmp .ge 44, 3) := by decide +kernel
theorem dX11_findAgreeing_57 : decode cX11_findAgreeing 57 = .ok (.aload_n 0, 1) := by decide +kernel
theorem dX11_findAgreeing_58 : decode cX11_findAgreeing 58 = .ok (.getfield 68, 3) := by decide +kernel
theorem dX11_findAgreeing_61 : decode cX11_findAgreeing 61 = .ok (.iload_n 2, 1) := by decide +kernel
theorem dX11_findAgreeing_62 : decode cX11_findAgreeing 62 = .ok (.invokevirtual 247, 3) := by decide +kernel
theorem dX11_findAgreeing_65 : decode cX11_findAgreeing 65 = .ok (.astore_n 3, 1) := by decide +kernel
theorem dX11_findAgreeing_66 : decode cX11_findAgreeing 66 = .ok (.aload_n 0, 1) := by decide +kernel
theorem dX11_findAgreeing_67 : decode cX11_findAgreeing 67 = .ok (.getfield 50, 3) := by decide +kernel
theorem dX11_findAgreeing_70 : decode cX11_findAgreeing 70 = .ok (.iload_n 1, 1) := by decide +kernel
theorem dX11_findAgreeing_71 : decode cX11_findAgreeing 71 = .ok (.iaload, 1) := by decide +kernel
theorem dX11_findAgreeing_72 : decode cX11_findAgreeing 72 = .ok (.iconst 1, 1) := by decide +kernel
theorem dX11_findAgreeing_73 : decode cX11_findAgreeing 73 = .ok (.if_icmp .ne 14, 3) := by decide +kernel
theorem dX11_findAgreeing_76 : decode cX11_findAgreeing 76 = .ok (.aload_n 0, 1) := by decide +kernel
theorem dX11_findAgreeing_77 : decode cX11_findAgreeing 77 = .ok (.getfield 59, 3) := by decide +kernel
theorem dX11_findAgreeing_80 : decode cX11_findAgreeing 80 = .ok (.aload_n 3, 1) := by decide +kernel
theorem dX11_findAgreeing_81 : decode cX11_findAgreeing 81 = .ok (.invokevirtual 251, 3) := by decide +kernel
theorem dX11_findAgreeing_84 : decode cX11_findAgreeing 84 = .ok (.goto 11, 3) := by decide +kernel
theorem dX11_findAgreeing_87 : decode cX11_findAgreeing 87 = .ok (.aload_n 0, 1) := by decide +kernel
theorem dX11_findAgreeing_88 : decode cX11_findAgreeing 88 = .ok (.getfield 59, 3) := by decide +kernel
theorem dX11_findAgreeing_91 : decode cX11_findAgreeing 91 = .ok (.aload_n 3, 1) := by decide +kernel
theorem dX11_findAgreeing_92 : decode cX11_findAgreeing 92 = .ok (.invokevirtual 254, 3) := by decide +kernel
theorem dX11_findAgreeing_95 : decode cX11_findAgreeing 95 = .ok (.goto 20, 3) := by decide +kernel
theorem dX11_findAgreeing_98 : decode cX11_findAgreeing 98 = .ok (.aload_n 0, 1) := by decide +kernel
theorem dX11_findAgreeing_99 : decode cX11_findAgreeing 99 = .ok (.getfield 50, 3) := by decide +kernel
theorem dX11_findAgreeing_102 : decode cX11_findAgreeing 102 = .ok (.iload_n 1, 1) := by decide +kernel
theorem dX11_findAgreeing_103 : decode cX11_findAgreeing 103 = .ok (.iaload, 1) := by decide +kernel
theorem dX11_findAgreeing_104 : decode cX11_findAgreeing 104 = .ok (.iconst 1, 1) := by decide +kernel
theorem dX11_findAgreeing_105 : decode cX11_findAgreeing 105 = .ok (.if_icmp .ne 10, 3) := by decide +kernel
theorem dX11_findAgreeing_108 : decode cX11_findAgreeing 108 = .ok (.aload_n 0, 1) := by decide +kernel
theorem dX11_findAgreeing_109 : decode cX11_findAgreeing 109 = .ok (.getfield 59, 3) := by decide +kernel
theorem dX11_findAgreeing_112 : decode cX11_findAgreeing 112 = .ok (.invokevirtual 257, 3) := by decide +kernel
theorem dX11_findAgreeing_115 : decode cX11_findAgreeing 115 = .ok (.iinc 1 1, 3) := by decide +kernel
theorem dX11_findAgreeing_118 : decode cX11_findAgreeing 118 = .ok (.goto (-105), 3) := by decide +kernel
theorem dX11_findAgreeing_121 : decode cX11_findAgreeing 121 = .ok (.return_, 1) := by decide +kernel
theorem dX11_lost_0 : decode cX11_lost 0 = .ok (.iload_n 1, 1) := by decide +kernel
theorem dX11_lost_1 : decode cX11_lost 1 = .ok (.ifCond .lt 9, 3) := by decide +kernel
theorem dX11_lost_4 : decode cX11_lost 4 = .ok (.iload_n 1, 1) := by decide +kernel
theorem dX11_lost_5 : decode cX11_lost 5 = .ok (.bipush 10, 2) := by decide +kernel
theorem dX11_lost_7 : decode cX11_lost 7 = .ok (.if_icmp .le 6, 3) := by decide +kernel
theorem dX11_lost_10 : decode cX11_lost 10 = .ok (.bipush (-2), 2) := by decide +kernel
theorem dX11_lost_12 : decode cX11_lost 12 = .ok (.ireturn, 1) := by decide +kernel
theorem dX11_lost_13 : decode cX11_lost 13 = .ok (.aload_n 0, 1) := by decide +kernel
theorem dX11_lost_14 : decode cX11_lost 14 = .ok (.aload_n 0, 1) := by decide +kernel
theorem dX11_lost_15 : decode cX11_lost 15 = .ok (.getfield 33, 3) := by decide +kernel
theorem dX11_lost_18 : decode cX11_lost 18 = .ok (.invokevirtual 124, 3) := by decide +kernel
theorem dX11_lost_21 : decode cX11_lost 21 = .ok (.istore_n 3, 1) := by decide +kernel
theorem dX11_lost_22 : decode cX11_lost 22 = .ok (.aload_n 0, 1) := by decide +kernel
theorem dX11_lost_23 : decode cX11_lost 23 = .ok (.aload_n 0, 1) := by decide +kernel
theorem dX11_lost_24 : decode cX11_lost 24 = .ok (.getfield 33, 3) := by decide +kernel
theorem dX11_lost_27 : decode cX11_lost 27 = .ok (.invokevirtual 120, 3) := by decide +kernel
theorem dX11_lost_30 : decode cX11_lost 30 = .ok (.astore 4, 2) := by decide +kernel
theorem dX11_lost_32 : decode cX11_lost 32 = .ok (.iload_n 3, 1) := by decide +kernel
theorem dX11_lost_33 : decode cX11_lost 33 = .ok (.invokestatic 205, 3) := by decide +kernel
theorem dX11_lost_36 : decode cX11_lost 36 = .ok (.istore 5, 2) := by decide +kernel
theorem dX11_lost_38 : decode cX11_lost 38 = .ok (.iconst 1, 1) := by decide +kernel
theorem dX11_lost_39 : decode cX11_lost 39 = .ok (.aload_n 0, 1) := by decide +kernel
theorem dX11_lost_40 : decode cX11_lost 40 = .ok (.getfield 23, 3) := by decide +kernel
theorem dX11_lost_43 : decode cX11_lost 43 = .ok (.getfield 105, 3) := by decide +kernel
theorem dX11_lost_46 : decode cX11_lost 46 = .ok (.ishl, 1) := by decide +kernel
theorem dX11_lost_47 : decode cX11_lost 47 = .ok (.iconst 1, 1) := by decide +kernel
theorem dX11_lost_48 : decode cX11_lost 48 = .ok (.isub, 1) := by decide +kernel
theorem dX11_lost_49 : decode cX11_lost 49 = .ok (.istore 6, 2) := by decide +kernel
theorem dX11_lost_51 : decode cX11_lost 51 = .ok (.iconst 0, 1) := by decide +kernel
theorem dX11_lost_52 : decode cX11_lost 52 = .ok (.istore 7, 2) := by decide +kernel
theorem dX11_lost_54 : decode cX11_lost 54 = .ok (.iconst 0, 1) := by decide +kernel
theorem dX11_lost_55 : decode cX11_lost 55 = .ok (.istore 8, 2) := by decide +kernel
theorem dX11_lost_57 : decode cX11_lost 57 = .ok (.iload 8, 2) := by decide +kernel
theorem dX11_lost_59 : decode cX11_lost 59 = .ok (.bipush 32, 2) := by decide +kernel
theorem dX11_lost_61 : decode cX11_lost 61 = .ok (.if_icmp .ge 61, 3) := by decide +kernel
theorem dX11_lost_64 : decode cX11_lost 64 = .ok (.iload 8, 2) := by decide +kernel
theorem dX11_lost_66 : decode cX11_lost 66 = .ok (.iload_n 3, 1) := by decide +kernel
theorem dX11_lost_67 : decode cX11_lost 67 = .ok (.iconst (-1), 1) := by decide +kernel
theorem dX11_lost_68 : decode cX11_lost 68 = .ok (.ixor, 1) := by decide +kernel
theorem dX11_lost_69 : decode cX11_lost 69 = .ok (.iand, 1) := by decide +kernel
theorem dX11_lost_70 : decode cX11_lost 70 = .ok (.ifCond .ne 46, 3) := by decide +kernel
theorem dX11_lost_73 : decode cX11_lost 73 = .ok (.aload 4, 2) := by decide +kernel
theorem dX11_lost_75 : decode cX11_lost 75 = .ok (.iload 8, 2) := by decide +kernel
theorem dX11_lost_77 : decode cX11_lost 77 = .ok (.invokevirtual 128, 3) := by decide +kernel
theorem dX11_lost_80 : decode cX11_lost 80 = .ok (.iload 6, 2) := by decide +kernel
theorem dX11_lost_82 : decode cX11_lost 82 = .ok (.if_icmp .ne 34, 3) := by decide +kernel
theorem dX11_lost_85 : decode cX11_lost 85 = .ok (.iload 8, 2) := by decide +kernel
theorem dX11_lost_87 : decode cX11_lost 87 = .ok (.invokestatic 205, 3) := by decide +kernel
theorem dX11_lost_90 : decode cX11_lost 90 = .ok (.istore 9, 2) := by decide +kernel
theorem dX11_lost_92 : decode cX11_lost 92 = .ok (.iload 7, 2) := by decide +kernel
theorem dX11_lost_94 : decode cX11_lost 94 = .ok (.bipush 10, 2) := by decide +kernel
theorem dX11_lost_96 : decode cX11_lost 96 = .ok (.iload_n 1, 1) := by decide +kernel
theorem dX11_lost_97 : decode cX11_lost 97 = .ok (.isub, 1) := by decide +kernel
theorem dX11_lost_98 : decode cX11_lost 98 = .ok (.iload 9, 2) := by decide +kernel
theorem dX11_lost_100 : decode cX11_lost 100 = .ok (.invokestatic 260, 3) := by decide +kernel
theorem dX11_lost_103 : decode cX11_lost 103 = .ok (.iload_n 1, 1) := by decide +kernel
theorem dX11_lost_104 : decode cX11_lost 104 = .ok (.iload 5, 2) := by decide +kernel
theorem dX11_lost_106 : decode cX11_lost 106 = .ok (.iload 9, 2) := by decide +kernel
theorem dX11_lost_108 : decode cX11_lost 108 = .ok (.isub, 1) := by decide +kernel
theorem dX11_lost_109 : decode cX11_lost 109 = .ok (.invokestatic 260, 3) := by decide +kernel
theorem dX11_lost_112 : decode cX11_lost 112 = .ok (.imul, 1) := by decide +kernel
theorem dX11_lost_113 : decode cX11_lost 113 = .ok (.iadd, 1) := by decide +kernel
theorem dX11_lost_114 : decode cX11_lost 114 = .ok (.istore 7, 2) := by decide +kernel
theorem dX11_lost_116 : decode cX11_lost 116 = .ok (.iinc 8 1, 3) := by decide +kernel
theorem dX11_lost_119 : decode cX11_lost 119 = .ok (.goto (-62), 3) := by decide +kernel
theorem dX11_lost_122 : decode cX11_lost 122 = .ok (.iload 7, 2) := by decide +kernel
theorem dX11_lost_124 : decode cX11_lost 124 = .ok (.bipush 10, 2) := by decide +kernel
theorem dX11_lost_126 : decode cX11_lost 126 = .ok (.iload 5, 2) := by decide +kernel
theorem dX11_lost_128 : decode cX11_lost 128 = .ok (.invokestatic 260, 3) := by decide +kernel
theorem dX11_lost_131 : decode cX11_lost 131 = .ok (.iload_n 2, 1) := by decide +kernel
theorem dX11_lost_132 : decode cX11_lost 132 = .ok (.invokestatic 230, 3) := by decide +kernel
theorem dX11_lost_135 : decode cX11_lost 135 = .ok (.ireturn, 1) := by decide +kernel
theorem dX11_power_0 : decode cX11_power 0 = .ok (.iconst 1, 1) := by decide +kernel
theorem dX11_power_1 : decode cX11_power 1 = .ok (.istore_n 2, 1) := by decide +kernel
theorem dX11_power_2 : decode cX11_power 2 = .ok (.iconst 0, 1) := by decide +kernel
theorem dX11_power_3 : decode cX11_power 3 = .ok (.istore_n 3, 1) := by decide +kernel
theorem dX11_power_4 : decode cX11_power 4 = .ok (.iload_n 3, 1) := by decide +kernel
theorem dX11_power_5 : decode cX11_power 5 = .ok (.iload_n 1, 1) := by decide +kernel
theorem dX11_power_6 : decode cX11_power 6 = .ok (.if_icmp .ge 13, 3) := by decide +kernel
theorem dX11_power_9 : decode cX11_power 9 = .ok (.iload_n 2, 1) := by decide +kernel
theorem dX11_power_10 : decode cX11_power 10 = .ok (.iload_n 0, 1) := by decide +kernel
theorem dX11_power_11 : decode cX11_power 11 = .ok (.imul, 1) := by decide +kernel
theorem dX11_power_12 : decode cX11_power 12 = .ok (.istore_n 2, 1) := by decide +kernel
theorem dX11_power_13 : decode cX11_power 13 = .ok (.iinc 3 1, 3) := by decide +kernel
theorem dX11_power_16 : decode cX11_power 16 = .ok (.goto (-12), 3) := by decide +kernel
theorem dX11_power_19 : decode cX11_power 19 = .ok (.iload_n 2, 1) := by decide +kernel
theorem dX11_power_20 : decode cX11_power 20 = .ok (.ireturn, 1) := by decide +kernel
theorem dX11_seed_0 : decode cX11_seed 0 = .ok (.aload_n 0, 1) := by decide +kernel
theorem dX11_seed_1 : decode cX11_seed 1 = .ok (.getfield 75, 3) := by decide +kernel
theorem dX11_seed_4 : decode cX11_seed 4 = .ok (.getfield 264, 3) := by decide +kernel
theorem dX11_seed_7 : decode cX11_seed 7 = .ok (.lstore_n 3, 1) := by decide +kernel
theorem dX11_seed_8 : decode cX11_seed 8 = .ok (.aload_n 0, 1) := by decide +kernel
theorem dX11_seed_9 : decode cX11_seed 9 = .ok (.getfield 75, 3) := by decide +kernel
theorem dX11_seed_12 : decode cX11_seed 12 = .ok (.lload_n 1, 1) := by decide +kernel
theorem dX11_seed_13 : decode cX11_seed 13 = .ok (.putfield 264, 3) := by decide +kernel
theorem dX11_seed_16 : decode cX11_seed 16 = .ok (.lload_n 3, 1) := by decide +kernel
theorem dX11_seed_17 : decode cX11_seed 17 = .ok (.lreturn, 1) := by decide +kernel
theorem dX11_drawn_0 : decode cX11_drawn 0 = .ok (.iload_n 1, 1) := by decide +kernel
theorem dX11_drawn_1 : decode cX11_drawn 1 = .ok (.iconst 1, 1) := by decide +kernel
theorem dX11_drawn_2 : decode cX11_drawn 2 = .ok (.if_icmp .lt 9, 3) := by decide +kernel
theorem dX11_drawn_5 : decode cX11_drawn 5 = .ok (.iload_n 1, 1) := by decide +kernel
theorem dX11_drawn_6 : decode cX11_drawn 6 = .ok (.bipush 20, 2) := by decide +kernel
theorem dX11_drawn_8 : decode cX11_drawn 8 = .ok (.if_icmp .le 6, 3) := by decide +kernel
theorem dX11_drawn_11 : decode cX11_drawn 11 = .ok (.bipush (-2), 2) := by decide +kernel
theorem dX11_drawn_13 : decode cX11_drawn 13 = .ok (.ireturn, 1) := by decide +kernel
theorem dX11_drawn_14 : decode cX11_drawn 14 = .ok (.iconst 0, 1) := by decide +kernel
theorem dX11_drawn_15 : decode cX11_drawn 15 = .ok (.istore_n 2, 1) := by decide +kernel
theorem dX11_drawn_16 : decode cX11_drawn 16 = .ok (.iconst 0, 1) := by decide +kernel
theorem dX11_drawn_17 : decode cX11_drawn 17 = .ok (.istore_n 3, 1) := by decide +kernel
theorem dX11_drawn_18 : decode cX11_drawn 18 = .ok (.iload_n 3, 1) := by decide +kernel
theorem dX11_drawn_19 : decode cX11_drawn 19 = .ok (.iload_n 1, 1) := by decide +kernel
theorem dX11_drawn_20 : decode cX11_drawn 20 = .ok (.if_icmp .ge 27, 3) := by decide +kernel
theorem dX11_drawn_23 : decode cX11_drawn 23 = .ok (.iload_n 2, 1) := by decide +kernel
theorem dX11_drawn_24 : decode cX11_drawn 24 = .ok (.aload_n 0, 1) := by decide +kernel
theorem dX11_drawn_25 : decode cX11_drawn 25 = .ok (.getfield 75, 3) := by decide +kernel
theorem dX11_drawn_28 : decode cX11_drawn 28 = .ok (.aload_n 0, 1) := by decide +kernel
theorem dX11_drawn_29 : decode cX11_drawn 29 = .ok (.getfield 23, 3) := by decide +kernel
theorem dX11_drawn_32 : decode cX11_drawn 32 = .ok (.aload_n 0, 1) := by decide +kernel
theorem dX11_drawn_33 : decode cX11_drawn 33 = .ok (.getfield 33, 3) := by decide +kernel
theorem dX11_drawn_36 : decode cX11_drawn 36 = .ok (.invokevirtual 268, 3) := by decide +kernel
theorem dX11_drawn_39 : decode cX11_drawn 39 = .ok (.iadd, 1) := by decide +kernel
theorem dX11_drawn_40 : decode cX11_drawn 40 = .ok (.istore_n 2, 1) := by decide +kernel
theorem dX11_drawn_41 : decode cX11_drawn 41 = .ok (.iinc 3 1, 3) := by decide +kernel
theorem dX11_drawn_44 : decode cX11_drawn 44 = .ok (.goto (-26), 3) := by decide +kernel
theorem dX11_drawn_47 : decode cX11_drawn 47 = .ok (.iload_n 2, 1) := by decide +kernel
theorem dX11_drawn_48 : decode cX11_drawn 48 = .ok (.ireturn, 1) := by decide +kernel
theorem dX11_keep_0 : decode cX11_keep 0 = .ok (.iload_n 1, 1) := by decide +kernel
theorem dX11_keep_1 : decode cX11_keep 1 = .ok (.ifCond .lt 12, 3) := by decide +kernel
theorem dX11_keep_4 : decode cX11_keep 4 = .ok (.iload_n 1, 1) := by decide +kernel
theorem dX11_keep_5 : decode cX11_keep 5 = .ok (.aload_n 0, 1) := by decide +kernel
theorem dX11_keep_6 : decode cX11_keep 6 = .ok (.getfield 44, 3) := by decide +kernel
theorem dX11_keep_9 : decode cX11_keep 9 = .ok (.arraylength, 1) := by decide +kernel
theorem dX11_keep_10 : decode cX11_keep 10 = .ok (.if_icmp .lt 5, 3) := by decide +kernel
theorem dX11_keep_13 : decode cX11_keep 13 = .ok (.iconst (-1), 1) := by decide +kernel
theorem dX11_keep_14 : decode cX11_keep 14 = .ok (.ireturn, 1) := by decide +kernel
theorem dX11_keep_15 : decode cX11_keep 15 = .ok (.aload_n 0, 1) := by decide +kernel
theorem dX11_keep_16 : decode cX11_keep 16 = .ok (.getfield 44, 3) := by decide +kernel
theorem dX11_keep_19 : decode cX11_keep 19 = .ok (.iload_n 1, 1) := by decide +kernel
theorem dX11_keep_20 : decode cX11_keep 20 = .ok (.aload_n 0, 1) := by decide +kernel
theorem dX11_keep_21 : decode cX11_keep 21 = .ok (.getfield 33, 3) := by decide +kernel
theorem dX11_keep_24 : decode cX11_keep 24 = .ok (.invokevirtual 194, 3) := by decide +kernel
theorem dX11_keep_27 : decode cX11_keep 27 = .ok (.iastore, 1) := by decide +kernel
theorem dX11_keep_28 : decode cX11_keep 28 = .ok (.aload_n 0, 1) := by decide +kernel
theorem dX11_keep_29 : decode cX11_keep 29 = .ok (.getfield 33, 3) := by decide +kernel
theorem dX11_keep_32 : decode cX11_keep 32 = .ok (.getfield 117, 3) := by decide +kernel
theorem dX11_keep_35 : decode cX11_keep 35 = .ok (.invokestatic 205, 3) := by decide +kernel
theorem dX11_keep_38 : decode cX11_keep 38 = .ok (.ireturn, 1) := by decide +kernel
theorem dX11_again_0 : decode cX11_again 0 = .ok (.iload_n 1, 1) := by decide +kernel
theorem dX11_again_1 : decode cX11_again 1 = .ok (.ifCond .lt 12, 3) := by decide +kernel
theorem dX11_again_4 : decode cX11_again 4 = .ok (.iload_n 1, 1) := by decide +kernel
theorem dX11_again_5 : decode cX11_again 5 = .ok (.aload_n 0, 1) := by decide +kernel
theorem dX11_again_6 : decode cX11_again 6 = .ok (.getfield 44, 3) := by decide +kernel
theorem dX11_again_9 : decode cX11_again 9 = .ok (.arraylength, 1) := by decide +kernel
theorem dX11_again_10 : decode cX11_again 10 = .ok (.if_icmp .lt 5, 3) := by decide +kernel
theorem dX11_again_13 : decode cX11_again 13 = .ok (.iconst (-1), 1) := by decide +kernel
theorem dX11_again_14 : decode cX11_again 14 = .ok (.ireturn, 1) := by decide +kernel
theorem dX11_again_15 : decode cX11_again 15 = .ok (.aload_n 0, 1) := by decide +kernel
theorem dX11_again_16 : decode cX11_again 16 = .ok (.getfield 44, 3) := by decide +kernel
theorem dX11_again_19 : decode cX11_again 19 = .ok (.iload_n 1, 1) := by decide +kernel
theorem dX11_again_20 : decode cX11_again 20 = .ok (.iaload, 1) := by decide +kernel
theorem dX11_again_21 : decode cX11_again 21 = .ok (.iconst (-1), 1) := by decide +kernel
theorem dX11_again_22 : decode cX11_again 22 = .ok (.if_icmp .ne 6, 3) := by decide +kernel
theorem dX11_again_25 : decode cX11_again 25 = .ok (.bipush (-3), 2) := by decide +kernel
theorem dX11_again_27 : decode cX11_again 27 = .ok (.ireturn, 1) := by decide +kernel
theorem dX11_again_28 : decode cX11_again 28 = .ok (.aload_n 0, 1) := by decide +kernel
theorem dX11_again_29 : decode cX11_again 29 = .ok (.getfield 33, 3) := by decide +kernel
theorem dX11_again_32 : decode cX11_again 32 = .ok (.aload_n 0, 1) := by decide +kernel
theorem dX11_again_33 : decode cX11_again 33 = .ok (.getfield 44, 3) := by decide +kernel
theorem dX11_again_36 : decode cX11_again 36 = .ok (.iload_n 1, 1) := by decide +kernel
theorem dX11_again_37 : decode cX11_again 37 = .ok (.iaload, 1) := by decide +kernel
theorem dX11_again_38 : decode cX11_again 38 = .ok (.invokevirtual 197, 3) := by decide +kernel
theorem dX11_again_41 : decode cX11_again 41 = .ok (.aload_n 0, 1) := by decide +kernel
theorem dX11_again_42 : decode cX11_again 42 = .ok (.iconst 0, 1) := by decide +kernel
theorem dX11_again_43 : decode cX11_again 43 = .ok (.putfield 96, 3) := by decide +kernel
theorem dX11_again_46 : decode cX11_again 46 = .ok (.aload_n 0, 1) := by decide +kernel
theorem dX11_again_47 : decode cX11_again 47 = .ok (.getfield 33, 3) := by decide +kernel
theorem dX11_again_50 : decode cX11_again 50 = .ok (.getfield 117, 3) := by decide +kernel
theorem dX11_again_53 : decode cX11_again 53 = .ok (.invokestatic 205, 3) := by decide +kernel
theorem dX11_again_56 : decode cX11_again 56 = .ok (.ireturn, 1) := by decide +kernel
theorem dX11_active_0 : decode cX11_active 0 = .ok (.iconst 1, 1) := by decide +kernel
theorem dX11_active_1 : decode cX11_active 1 = .ok (.aload_n 0, 1) := by decide +kernel
theorem dX11_active_2 : decode cX11_active 2 = .ok (.getfield 23, 3) := by decide +kernel
theorem dX11_active_5 : decode cX11_active 5 = .ok (.getfield 114, 3) := by decide +kernel
theorem dX11_active_8 : decode cX11_active 8 = .ok (.ishl, 1) := by decide +kernel
theorem dX11_active_9 : decode cX11_active 9 = .ok (.iconst 1, 1) := by decide +kernel
theorem dX11_active_10 : decode cX11_active 10 = .ok (.isub, 1) := by decide +kernel
theorem dX11_active_11 : decode cX11_active 11 = .ok (.aload_n 1, 1) := by decide +kernel
theorem dX11_active_12 : decode cX11_active 12 = .ok (.getfield 117, 3) := by decide +kernel
theorem dX11_active_15 : decode cX11_active 15 = .ok (.iconst (-1), 1) := by decide +kernel
theorem dX11_active_16 : decode cX11_active 16 = .ok (.ixor, 1) := by decide +kernel
theorem dX11_active_17 : decode cX11_active 17 = .ok (.iand, 1) := by decide +kernel
theorem dX11_active_18 : decode cX11_active 18 = .ok (.ireturn, 1) := by decide +kernel
theorem dX11_view_0 : decode cX11_view 0 = .ok (.aload_n 0, 1) := by decide +kernel
theorem dX11_view_1 : decode cX11_view 1 = .ok (.getfield 68, 3) := by decide +kernel
theorem dX11_view_4 : decode cX11_view 4 = .ok (.aload_n 1, 1) := by decide +kernel
theorem dX11_view_5 : decode cX11_view 5 = .ok (.invokevirtual 272, 3) := by decide +kernel
theorem dX11_view_8 : decode cX11_view 8 = .ok (.aload_n 0, 1) := by decide +kernel
theorem dX11_view_9 : decode cX11_view 9 = .ok (.getfield 68, 3) := by decide +kernel
theorem dX11_view_12 : decode cX11_view 12 = .ok (.areturn, 1) := by decide +kernel
theorem dX12_init_0 : decode cX12_init 0 = .ok (.aload_n 0, 1) := by decide +kernel
theorem dX12_init_1 : decode cX12_init 1 = .ok (.invokespecial 1, 3) := by decide +kernel
theorem dX12_init_4 : decode cX12_init 4 = .ok (.aload_n 0, 1) := by decide +kernel
theorem dX12_init_5 : decode cX12_init 5 = .ok (.bipush 60, 2) := by decide +kernel
theorem dX12_init_7 : decode cX12_init 7 = .ok (.newarray .int, 2) := by decide +kernel
theorem dX12_init_9 : decode cX12_init 9 = .ok (.putfield 7, 3) := by decide +kernel
theorem dX12_init_12 : decode cX12_init 12 = .ok (.aload_n 0, 1) := by decide +kernel
theorem dX12_init_13 : decode cX12_init 13 = .ok (.bipush 62, 2) := by decide +kernel
theorem dX12_init_15 : decode cX12_init 15 = .ok (.newarray .int, 2) := by decide +kernel
theorem dX12_init_17 : decode cX12_init 17 = .ok (.putfield 13, 3) := by decide +kernel
theorem dX12_init_20 : decode cX12_init 20 = .ok (.aload_n 0, 1) := by decide +kernel
theorem dX12_init_21 : decode cX12_init 21 = .ok (.bipush 62, 2) := by decide +kernel
theorem dX12_init_23 : decode cX12_init 23 = .ok (.newarray .int, 2) := by decide +kernel
theorem dX12_init_25 : decode cX12_init 25 = .ok (.putfield 16, 3) := by decide +kernel
theorem dX12_init_28 : decode cX12_init 28 = .ok (.aload_n 0, 1) := by decide +kernel
theorem dX12_init_29 : decode cX12_init 29 = .ok (.bipush 62, 2) := by decide +kernel
theorem dX12_init_31 : decode cX12_init 31 = .ok (.newarray .int, 2) := by decide +kernel
theorem dX12_init_33 : decode cX12_init 33 = .ok (.putfield 19, 3) := by decide +kernel
theorem dX12_init_36 : decode cX12_init 36 = .ok (.aload_n 0, 1) := by decide +kernel
theorem dX12_init_37 : decode cX12_init 37 = .ok (.bipush 62, 2) := by decide +kernel
theorem dX12_init_39 : decode cX12_init 39 = .ok (.newarray .int, 2) := by decide +kernel
theorem dX12_init_41 : decode cX12_init 41 = .ok (.putfield 22, 3) := by decide +kernel
theorem dX12_init_44 : decode cX12_init 44 = .ok (.aload_n 0, 1) := by decide +kernel
theorem dX12_init_45 : decode cX12_init 45 = .ok (.bipush 62, 2) := by decide +kernel
theorem dX12_init_47 : decode cX12_init 47 = .ok (.newarray .int, 2) := by decide +kernel
theorem dX12_init_49 : decode cX12_init 49 = .ok (.putfield 25, 3) := by decide +kernel
theorem dX12_init_52 : decode cX12_init 52 = .ok (.aload_n 0, 1) := by decide +kernel
theorem dX12_init_53 : decode cX12_init 53 = .ok (.bipush 62, 2) := by decide +kernel
theorem dX12_init_55 : decode cX12_init 55 = .ok (.newarray .int, 2) := by decide +kernel
theorem dX12_init_57 : decode cX12_init 57 = .ok (.putfield 28, 3) := by decide +kernel
theorem dX12_init_60 : decode cX12_init 60 = .ok (.aload_n 0, 1) := by decide +kernel
theorem dX12_init_61 : decode cX12_init 61 = .ok (.iconst 5, 1) := by decide +kernel
theorem dX12_init_62 : decode cX12_init 62 = .ok (.newarray .int, 2) := by decide +kernel
theorem dX12_init_64 : decode cX12_init 64 = .ok (.putfield 31, 3) := by decide +kernel
theorem dX12_init_67 : decode cX12_init 67 = .ok (.aload_n 0, 1) := by decide +kernel
theorem dX12_init_68 : decode cX12_init 68 = .ok (.iconst 5, 1) := by decide +kernel
theorem dX12_init_69 : decode cX12_init 69 = .ok (.newarray .int, 2) := by decide +kernel
theorem dX12_init_71 : decode cX12_init 71 = .ok (.putfield 34, 3) := by decide +kernel
theorem dX12_init_74 : decode cX12_init 74 = .ok (.aload_n 0, 1) := by decide +kernel
theorem dX12_init_75 : decode cX12_init 75 = .ok (.iconst 5, 1) := by decide +kernel
theorem dX12_init_76 : decode cX12_init 76 = .ok (.newarray .int, 2) := by decide +kernel
theorem dX12_init_78 : decode cX12_init 78 = .ok (.putfield 37, 3) := by decide +kernel
theorem dX12_init_81 : decode cX12_init 81 = .ok (.aload_n 0, 1) := by decide +kernel
theorem dX12_init_82 : decode cX12_init 82 = .ok (.bipush 62, 2) := by decide +kernel
theorem dX12_init_84 : decode cX12_init 84 = .ok (.newarray .int, 2) := by decide +kernel
theorem dX12_init_86 : decode cX12_init 86 = .ok (.putfield 40, 3) := by decide +kernel
theorem dX12_init_89 : decode cX12_init 89 = .ok (.aload_n 0, 1) := by decide +kernel
theorem dX12_init_90 : decode cX12_init 90 = .ok (.bipush 62, 2) := by decide +kernel
theorem dX12_init_92 : decode cX12_init 92 = .ok (.newarray .int, 2) := by decide +kernel
theorem dX12_init_94 : decode cX12_init 94 = .ok (.putfield 43, 3) := by decide +kernel
theorem dX12_init_97 : decode cX12_init 97 = .ok (.aload_n 0, 1) := by decide +kernel
theorem dX12_init_98 : decode cX12_init 98 = .ok (.bipush 62, 2) := by decide +kernel
theorem dX12_init_100 : decode cX12_init 100 = .ok (.newarray .int, 2) := by decide +kernel
theorem dX12_init_102 : decode cX12_init 102 = .ok (.putfield 46, 3) := by decide +kernel
theorem dX12_init_105 : decode cX12_init 105 = .ok (.aload_n 0, 1) := by decide +kernel
theorem dX12_init_106 : decode cX12_init 106 = .ok (.bipush 62, 2) := by decide +kernel
theorem dX12_init_108 : decode cX12_init 108 = .ok (.newarray .int, 2) := by decide +kernel
theorem dX12_init_110 : decode cX12_init 110 = .ok (.putfield 49, 3) := by decide +kernel
theorem dX12_init_113 : decode cX12_init 113 = .ok (.aload_n 0, 1) := by decide +kernel
theorem dX12_init_114 : decode cX12_init 114 = .ok (.bipush 62, 2) := by decide +kernel
theorem dX12_init_116 : decode cX12_init 116 = .ok (.newarray .int, 2) := by decide +kernel
theorem dX12_init_118 : decode cX12_init 118 = .ok (.putfield 52, 3) := by decide +kernel
theorem dX12_init_121 : decode cX12_init 121 = .ok (.aload_n 0, 1) := by decide +kernel
theorem dX12_init_122 : decode cX12_init 122 = .ok (.bipush 62, 2) := by decide +kernel
theorem dX12_init_124 : decode cX12_init 124 = .ok (.newarray .int, 2) := by decide +kernel
theorem dX12_init_126 : decode cX12_init 126 = .ok (.putfield 55, 3) := by decide +kernel
theorem dX12_init_129 : decode cX12_init 129 = .ok (.aload_n 0, 1) := by decide +kernel
theorem dX12_init_130 : decode cX12_init 130 = .ok (.iconst 5, 1) := by decide +kernel
theorem dX12_init_131 : decode cX12_init 131 = .ok (.newarray .int, 2) := by decide +kernel
theorem dX12_init_133 : decode cX12_init 133 = .ok (.putfield 58, 3) := by decide +kernel
theorem dX12_init_136 : decode cX12_init 136 = .ok (.aload_n 0, 1) := by decide +kernel
theorem dX12_init_137 : decode cX12_init 137 = .ok (.iconst 5, 1) := by decide +kernel
theorem dX12_init_138 : decode cX12_init 138 = .ok (.newarray .int, 2) := by decide +kernel
theorem dX12_init_140 : decode cX12_init 140 = .ok (.putfield 61, 3) := by decide +kernel
theorem dX12_init_143 : decode cX12_init 143 = .ok (.aload_n 0, 1) := by decide +kernel
theorem dX12_init_144 : decode cX12_init 144 = .ok (.iconst 5, 1) := by decide +kernel
theorem dX12_init_145 : decode cX12_init 145 = .ok (.newarray .int, 2) := by decide +kernel
theorem dX12_init_147 : decode cX12_init 147 = .ok (.putfield 64, 3) := by decide +kernel
theorem dX12_init_150 : decode cX12_init 150 = .ok (.aload_n 0, 1) := by decide +kernel
theorem dX12_init_151 : decode cX12_init 151 = .ok (.bipush 8, 2) := by decide +kernel
theorem dX12_init_153 : decode cX12_init 153 = .ok (.newarray .int, 2) := by decide +kernel
theorem dX12_init_155 : decode cX12_init 155 = .ok (.putfield 67, 3) := by decide +kernel
theorem dX12_init_158 : decode cX12_init 158 = .ok (.aload_n 0, 1) := by decide +kernel
theorem dX12_init_159 : decode cX12_init 159 = .ok (.iconst 4, 1) := by decide +kernel
theorem dX12_init_160 : decode cX12_init 160 = .ok (.newarray .int, 2) := by decide +kernel
theorem dX12_init_162 : decode cX12_init 162 = .ok (.putfield 70, 3) := by decide +kernel
theorem dX12_init_165 : decode cX12_init 165 = .ok (.aload_n 0, 1) := by decide +kernel
theorem dX12_init_166 : decode cX12_init 166 = .ok (.iconst 4, 1) := by decide +kernel
theorem dX12_init_167 : decode cX12_init 167 = .ok (.newarray .int, 2) := by decide +kernel
theorem dX12_init_169 : decode cX12_init 169 = .ok (.putfield 73, 3) := by decide +kernel
theorem dX12_init_172 : decode cX12_init 172 = .ok (.aload_n 0, 1) := by decide +kernel
theorem dX12_init_173 : decode cX12_init 173 = .ok (.bipush 56, 2) := by decide +kernel
theorem dX12_init_175 : decode cX12_init 175 = .ok (.newarray .int, 2) := by decide +kernel
theorem dX12_init_177 : decode cX12_init 177 = .ok (.putfield 76, 3) := by decide +kernel
theorem dX12_init_180 : decode cX12_init 180 = .ok (.aload_n 0, 1) := by decide +kernel
theorem dX12_init_181 : decode cX12_init 181 = .ok (.bipush 8, 2) := by decide +kernel
theorem dX12_init_183 : decode cX12_init 183 = .ok (.newarray .int, 2) := by decide +kernel
theorem dX12_init_185 : decode cX12_init 185 = .ok (.putfield 79, 3) := by decide +kernel
theorem dX12_init_188 : decode cX12_init 188 = .ok (.aload_n 0, 1) := by decide +kernel
theorem dX12_init_189 : decode cX12_init 189 = .ok (.iconst 2, 1) := by decide +kernel
theorem dX12_init_190 : decode cX12_init 190 = .ok (.newarray .boolean, 2) := by decide +kernel
theorem dX12_init_192 : decode cX12_init 192 = .ok (.putfield 82, 3) := by decide +kernel
theorem dX12_init_195 : decode cX12_init 195 = .ok (.aload_n 0, 1) := by decide +kernel
theorem dX12_init_196 : decode cX12_init 196 = .ok (.bipush 6, 2) := by decide +kernel
theorem dX12_init_198 : decode cX12_init 198 = .ok (.newarray .int, 2) := by decide +kernel
theorem dX12_init_200 : decode cX12_init 200 = .ok (.putfield 86, 3) := by decide +kernel
theorem dX12_init_203 : decode cX12_init 203 = .ok (.aload_n 0, 1) := by decide +kernel
theorem dX12_init_204 : decode cX12_init 204 = .ok (.bipush 6, 2) := by decide +kernel
theorem dX12_init_206 : decode cX12_init 206 = .ok (.newarray .int, 2) := by decide +kernel
theorem dX12_init_208 : decode cX12_init 208 = .ok (.putfield 89, 3) := by decide +kernel
theorem dX12_init_211 : decode cX12_init 211 = .ok (.aload_n 0, 1) := by decide +kernel
theorem dX12_init_212 : decode cX12_init 212 = .ok (.sipush 248, 3) := by decide +kernel
theorem dX12_init_215 : decode cX12_init 215 = .ok (.newarray .long, 2) := by decide +kernel
theorem dX12_init_217 : decode cX12_init 217 = .ok (.putfield 92, 3) := by decide +kernel
theorem dX12_init_220 : decode cX12_init 220 = .ok (.aload_n 0, 1) := by decide +kernel
theorem dX12_init_221 : decode cX12_init 221 = .ok (.sipush 248, 3) := by decide +kernel
theorem dX12_init_224 : decode cX12_init 224 = .ok (.newarray .long, 2) := by decide +kernel
theorem dX12_init_226 : decode cX12_init 226 = .ok (.putfield 96, 3) := by decide +kernel
theorem dX12_init_229 : decode cX12_init 229 = .ok (.aload_n 0, 1) := by decide +kernel
theorem dX12_init_230 : decode cX12_init 230 = .ok (.iconst 3, 1) := by decide +kernel
theorem dX12_init_231 : decode cX12_init 231 = .ok (.newarray .int, 2) := by decide +kernel
theorem dX12_init_233 : decode cX12_init 233 = .ok (.putfield 99, 3) := by decide +kernel
theorem dX12_init_236 : decode cX12_init 236 = .ok (.aload_n 0, 1) := by decide +kernel
theorem dX12_init_237 : decode cX12_init 237 = .ok (.iconst 4, 1) := by decide +kernel
theorem dX12_init_238 : decode cX12_init 238 = .ok (.newarray .long, 2) := by decide +kernel
theorem dX12_init_240 : decode cX12_init 240 = .ok (.putfield 102, 3) := by decide +kernel
theorem dX12_init_243 : decode cX12_init 243 = .ok (.aload_n 0, 1) := by decide +kernel
theorem dX12_init_244 : decode cX12_init 244 = .ok (.bipush 32, 2) := by decide +kernel
theorem dX12_init_246 : decode cX12_init 246 = .ok (.newarray .int, 2) := by decide +kernel
theorem dX12_init_248 : decode cX12_init 248 = .ok (.putfield 105, 3) := by decide +kernel
theorem dX12_init_251 : decode cX12_init 251 = .ok (.iconst 0, 1) := by decide +kernel
theorem dX12_init_252 : decode cX12_init 252 = .ok (.istore_n 1, 1) := by decide +kernel
theorem dX12_init_253 : decode cX12_init 253 = .ok (.iload_n 1, 1) := by decide +kernel
theorem dX12_init_254 : decode cX12_init 254 = .ok (.iconst 3, 1) := by decide +kernel
theorem dX12_init_255 : decode cX12_init 255 = .ok (.if_icmp .ge 17, 3) := by decide +kernel
theorem dX12_init_258 : decode cX12_init 258 = .ok (.aload_n 0, 1) := by decide +kernel
theorem dX12_init_259 : decode cX12_init 259 = .ok (.getfield 70, 3) := by decide +kernel
theorem dX12_init_262 : decode cX12_init 262 = .ok (.iload_n 1, 1) := by decide +kernel
theorem dX12_init_263 : decode cX12_init 263 = .ok (.bipush 6, 2) := by decide +kernel
theorem dX12_init_265 : decode cX12_init 265 = .ok (.iastore, 1) := by decide +kernel
theorem dX12_init_266 : decode cX12_init 266 = .ok (.iinc 1 1, 3) := by decide +kernel
theorem dX12_init_269 : decode cX12_init 269 = .ok (.goto (-16), 3) := by decide +kernel
theorem dX12_init_272 : decode cX12_init 272 = .ok (.return_, 1) := by decide +kernel
theorem dX12_in_0 : decode cX12_in 0 = .ok (.lload_n 0, 1) := by decide +kernel
theorem dX12_in_1 : decode cX12_in 1 = .ok (.lload_n 2, 1) := by decide +kernel
theorem dX12_in_2 : decode cX12_in 2 = .ok (.lcmp, 1) := by decide +kernel
theorem dX12_in_3 : decode cX12_in 3 = .ok (.ifCond .lt 14, 3) := by decide +kernel
theorem dX12_in_6 : decode cX12_in 6 = .ok (.lload_n 0, 1) := by decide +kernel
theorem dX12_in_7 : decode cX12_in 7 = .ok (.lload 4, 2) := by decide +kernel
theorem dX12_in_9 : decode cX12_in 9 = .ok (.lcmp, 1) := by decide +kernel
theorem dX12_in_10 : decode cX12_in 10 = .ok (.ifCond .gt 7, 3) := by decide +kernel
theorem dX12_in_13 : decode cX12_in 13 = .ok (.iconst 1, 1) := by decide +kernel
theorem dX12_in_14 : decode cX12_in 14 = .ok (.goto 4, 3) := by decide +kernel
theorem dX12_in_17 : decode cX12_in 17 = .ok (.iconst 0, 1) := by decide +kernel
theorem dX12_in_18 : decode cX12_in 18 = .ok (.ireturn, 1) := by decide +kernel
theorem dX12_isIn_0 : decode cX12_isIn 0 = .ok (.iload_n 0, 1) := by decide +kernel
theorem dX12_isIn_1 : decode cX12_isIn 1 = .ok (.iload_n 1, 1) := by decide +kernel
theorem dX12_isIn_2 : decode cX12_isIn 2 = .ok (.ishr, 1) := by decide +kernel
theorem dX12_isIn_3 : decode cX12_isIn 3 = .ok (.iconst 1, 1) := by decide +kernel
theorem dX12_isIn_4 : decode cX12_isIn 4 = .ok (.iand, 1) := by decide +kernel
theorem dX12_isIn_5 : decode cX12_isIn 5 = .ok (.iconst 1, 1) := by decide +kernel
theorem dX12_isIn_6 : decode cX12_isIn 6 = .ok (.if_icmp .ne 7, 3) := by decide +kernel
theorem dX12_isIn_9 : decode cX12_isIn 9 = .ok (.iconst 1, 1) := by decide +kernel
theorem dX12_isIn_10 : decode cX12_isIn 10 = .ok (.goto 4, 3) := by decide +kernel
theorem dX12_isIn_13 : decode cX12_isIn 13 = .ok (.iconst 0, 1) := by decide +kernel
theorem dX12_isIn_14 : decode cX12_isIn 14 = .ok (.ireturn, 1) := by decide +kernel
theorem dX12_ones_0 : decode cX12_ones 0 = .ok (.iconst 0, 1) := by decide +kernel
theorem dX12_ones_1 : decode cX12_ones 1 = .ok (.istore_n 1, 1) := by decide +kernel
theorem dX12_ones_2 : decode cX12_ones 2 = .ok (.iconst 0, 1) := by decide +kernel
theorem dX12_ones_3 : decode cX12_ones 3 = .ok (.istore_n 2, 1) := by decide +kernel
theorem dX12_ones_4 : decode cX12_ones 4 = .ok (.iload_n 2, 1) := by decide +kernel
theorem dX12_ones_5 : decode cX12_ones 5 = .ok (.iconst 5, 1) := by decide +kernel
theorem dX12_ones_6 : decode cX12_ones 6 = .ok (.if_icmp .ge 17, 3) := by decide +kernel
theorem dX12_ones_9 : decode cX12_ones 9 = .ok (.iload_n 1, 1) := by decide +kernel
theorem dX12_ones_10 : decode cX12_ones 10 = .ok (.iload_n 0, 1) := by decide +kernel
theorem dX12_ones_11 : decode cX12_ones 11 = .ok (.iload_n 2, 1) := by decide +kernel
theorem dX12_ones_12 : decode cX12_ones 12 = .ok (.ishr, 1) := by decide +kernel
theorem dX12_ones_13 : decode cX12_ones 13 = .ok (.iconst 1, 1) := by decide +kernel
theorem dX12_ones_14 : decode cX12_ones 14 = .ok (.iand, 1) := by decide +kernel
theorem dX12_ones_15 : decode cX12_ones 15 = .ok (.iadd, 1) := by decide +kernel
theorem dX12_ones_16 : decode cX12_ones 16 = .ok (.istore_n 1, 1) := by decide +kernel
theorem dX12_ones_17 : decode cX12_ones 17 = .ok (.iinc 2 1, 3) := by decide +kernel
theorem dX12_ones_20 : decode cX12_ones 20 = .ok (.goto (-16), 3) := by decide +kernel
theorem dX12_ones_23 : decode cX12_ones 23 = .ok (.iload_n 1, 1) := by decide +kernel
theorem dX12_ones_24 : decode cX12_ones 24 = .ok (.ireturn, 1) := by decide +kernel
theorem dX12_power_0 : decode cX12_power 0 = .ok (.iconst 1, 1) := by decide +kernel
theorem dX12_power_1 : decode cX12_power 1 = .ok (.istore_n 2, 1) := by decide +kernel
theorem dX12_power_2 : decode cX12_power 2 = .ok (.iconst 0, 1) := by decide +kernel
theorem dX12_power_3 : decode cX12_power 3 = .ok (.istore_n 3, 1) := by decide +kernel
theorem dX12_power_4 : decode cX12_power 4 = .ok (.iload_n 3, 1) := by decide +kernel
theorem dX12_power_5 : decode cX12_power 5 = .ok (.iload_n 1, 1) := by decide +kernel
theorem dX12_power_6 : decode cX12_power 6 = .ok (.if_icmp .ge 13, 3) := by decide +kernel
theorem dX12_power_9 : decode cX12_power 9 = .ok (.iload_n 2, 1) := by decide +kernel
theorem dX12_power_10 : decode cX12_power 10 = .ok (.iload_n 0, 1) := by decide +kernel
theorem dX12_power_11 : decode cX12_power 11 = .ok (.imul, 1) := by decide +kernel
theorem dX12_power_12 : decode cX12_power 12 = .ok (.istore_n 2, 1) := by decide +kernel
theorem dX12_power_13 : decode cX12_power 13 = .ok (.iinc 3 1, 3) := by decide +kernel
theorem dX12_power_16 : decode cX12_power 16 = .ok (.goto (-12), 3) := by decide +kernel
theorem dX12_power_19 : decode cX12_power 19 = .ok (.iload_n 2, 1) := by decide +kernel
theorem dX12_power_20 : decode cX12_power 20 = .ok (.ireturn, 1) := by decide +kernel
theorem dX12_factorial_0 : decode cX12_factorial 0 = .ok (.iconst 1, 1) := by decide +kernel
theorem dX12_factorial_1 : decode cX12_factorial 1 = .ok (.istore_n 1, 1) := by decide +kernel
theorem dX12_factorial_2 : decode cX12_factorial 2 = .ok (.iconst 2, 1) := by decide +kernel
theorem dX12_factorial_3 : decode cX12_factorial 3 = .ok (.istore_n 2, 1) := by decide +kernel
theorem dX12_factorial_4 : decode cX12_factorial 4 = .ok (.iload_n 2, 1) := by decide +kernel
theorem dX12_factorial_5 : decode cX12_factorial 5 = .ok (.iload_n 0, 1) := by decide +kernel
theorem dX12_factorial_6 : decode cX12_factorial 6 = .ok (.if_icmp .gt 13, 3) := by decide +kernel
theorem dX12_factorial_9 : decode cX12_factorial 9 = .ok (.iload_n 1, 1) := by decide +kernel
theorem dX12_factorial_10 : decode cX12_factorial 10 = .ok (.iload_n 2, 1) := by decide +kernel
theorem dX12_factorial_11 : decode cX12_factorial 11 = .ok (.imul, 1) := by decide +kernel
theorem dX12_factorial_12 : decode cX12_factorial 12 = .ok (.istore_n 1, 1) := by decide +kernel
theorem dX12_factorial_13 : decode cX12_factorial 13 = .ok (.iinc 2 1, 3) := by decide +kernel
theorem dX12_factorial_16 : decode cX12_factorial 16 = .ok (.goto (-12), 3) := by decide +kernel
theorem dX12_factorial_19 : decode cX12_factorial 19 = .ok (.iload_n 1, 1) := by decide +kernel
theorem dX12_factorial_20 : decode cX12_factorial 20 = .ok (.ireturn, 1) := by decide +kernel
theorem dX12_divisor_0 : decode cX12_divisor 0 = .ok (.iload_n 0, 1) := by decide +kernel
theorem dX12_divisor_1 : decode cX12_divisor 1 = .ok (.ifCond .ge 8, 3) := by decide +kernel
theorem dX12_divisor_4 : decode cX12_divisor 4 = .ok (.iload_n 0, 1) := by decide +kernel
theorem dX12_divisor_5 : decode cX12_divisor 5 = .ok (.ineg, 1) := by decide +kernel
theorem dX12_divisor_6 : decode cX12_divisor 6 = .ok (.goto 4, 3) := by decide +kernel
theorem dX12_divisor_9 : decode cX12_divisor 9 = .ok (.iload_n 0, 1) := by decide +kernel
theorem dX12_divisor_10 : decode cX12_divisor 10 = .ok (.istore_n 2, 1) := by decide +kernel
theorem dX12_divisor_11 : decode cX12_divisor 11 = .ok (.iload_n 1, 1) := by decide +kernel
theorem dX12_divisor_12 : decode cX12_divisor 12 = .ok (.istore_n 3, 1) := by decide +kernel
theorem dX12_divisor_13 : decode cX12_divisor 13 = .ok (.iload_n 3, 1) := by decide +kernel
theorem dX12_divisor_14 : decode cX12_divisor 14 = .ok (.ifCond .eq 16, 3) := by decide +kernel
theorem dX12_divisor_17 : decode cX12_divisor 17 = .ok (.iload_n 2, 1) := by decide +kernel
theorem dX12_divisor_18 : decode cX12_divisor 18 = .ok (.iload_n 3, 1) := by decide +kernel
theorem dX12_divisor_19 : decode cX12_divisor 19 = .ok (.irem, 1) := by decide +kernel
theorem dX12_divisor_20 : decode cX12_divisor 20 = .ok (.istore 4, 2) := by decide +kernel
theorem dX12_divisor_22 : decode cX12_divisor 22 = .ok (.iload_n 3, 1) := by decide +kernel
theorem dX12_divisor_23 : decode cX12_divisor 23 = .ok (.istore_n 2, 1) := by decide +kernel
theorem dX12_divisor_24 : decode cX12_divisor 24 = .ok (.iload 4, 2) := by decide +kernel
theorem dX12_divisor_26 : decode cX12_divisor 26 = .ok (.istore_n 3, 1) := by decide +kernel
theorem dX12_divisor_27 : decode cX12_divisor 27 = .ok (.goto (-14), 3) := by decide +kernel
theorem dX12_divisor_30 : decode cX12_divisor 30 = .ok (.iload_n 2, 1) := by decide +kernel
theorem dX12_divisor_31 : decode cX12_divisor 31 = .ok (.ireturn, 1) := by decide +kernel
theorem dX12_fraction_0 : decode cX12_fraction 0 = .ok (.iload_n 0, 1) := by decide +kernel
theorem dX12_fraction_1 : decode cX12_fraction 1 = .ok (.iload_n 1, 1) := by decide +kernel
theorem dX12_fraction_2 : decode cX12_fraction 2 = .ok (.invokestatic 108, 3) := by decide +kernel
theorem dX12_fraction_5 : decode cX12_fraction 5 = .ok (.istore_n 3, 1) := by decide +kernel
theorem dX12_fraction_6 : decode cX12_fraction 6 = .ok (.iload_n 2, 1) := by decide +kernel
theorem dX12_fraction_7 : decode cX12_fraction 7 = .ok (.ifCond .eq 9, 3) := by decide +kernel
theorem dX12_fraction_10 : decode cX12_fraction 10 = .ok (.iload_n 0, 1) := by decide +kernel
theorem dX12_fraction_11 : decode cX12_fraction 11 = .ok (.iload_n 3, 1) := by decide +kernel
theorem dX12_fraction_12 : decode cX12_fraction 12 = .ok (.idiv, 1) := by decide +kernel
theorem dX12_fraction_13 : decode cX12_fraction 13 = .ok (.goto 6, 3) := by decide +kernel
theorem dX12_fraction_16 : decode cX12_fraction 16 = .ok (.iload_n 1, 1) := by decide +kernel
theorem dX12_fraction_17 : decode cX12_fraction 17 = .ok (.iload_n 3, 1) := by decide +kernel
theorem dX12_fraction_18 : decode cX12_fraction 18 = .ok (.idiv, 1) := by decide +kernel
theorem dX12_fraction_19 : decode cX12_fraction 19 = .ok (.ireturn, 1) := by decide +kernel
theorem dX12_write_0 : decode cX12_write 0 = .ok (.iload_n 1, 1) := by decide +kernel
theorem dX12_write_1 : decode cX12_write 1 = .ok (.i2l, 1) := by decide +kernel
theorem dX12_write_2 : decode cX12_write 2 = .ok (.lconst 0, 1) := by decide +kernel
theorem dX12_write_3 : decode cX12_write 3 = .ok (.ldc2_w 112, 3) := by decide +kernel
theorem dX12_write_6 : decode cX12_write 6 = .ok (.invokestatic 114, 3) := by decide +kernel
theorem dX12_write_9 : decode cX12_write 9 = .ok (.ifCond .ne 6, 3) := by decide +kernel
theorem dX12_write_12 : decode cX12_write 12 = .ok (.bipush (-2), 2) := by decide +kernel
theorem dX12_write_14 : decode cX12_write 14 = .ok (.ireturn, 1) := by decide +kernel
theorem dX12_write_15 : decode cX12_write 15 = .ok (.aload_n 0, 1) := by decide +kernel
theorem dX12_write_16 : decode cX12_write 16 = .ok (.getfield 118, 3) := by decide +kernel
theorem dX12_write_19 : decode cX12_write 19 = .ok (.bipush 60, 2) := by decide +kernel
theorem dX12_write_21 : decode cX12_write 21 = .ok (.if_icmp .ne 6, 3) := by decide +kernel
theorem dX12_write_24 : decode cX12_write 24 = .ok (.bipush (-4), 2) := by decide +kernel
theorem dX12_write_26 : decode cX12_write 26 = .ok (.ireturn, 1) := by decide +kernel
theorem dX12_write_27 : decode cX12_write 27 = .ok (.aload_n 0, 1) := by decide +kernel
theorem dX12_write_28 : decode cX12_write 28 = .ok (.getfield 7, 3) := by decide +kernel
theorem dX12_write_31 : decode cX12_write 31 = .ok (.aload_n 0, 1) := by decide +kernel
theorem dX12_write_32 : decode cX12_write 32 = .ok (.getfield 118, 3) := by decide +kernel
theorem dX12_write_35 : decode cX12_write 35 = .ok (.iload_n 1, 1) := by decide +kernel
theorem dX12_write_36 : decode cX12_write 36 = .ok (.iastore, 1) := by decide +kernel
theorem dX12_write_37 : decode cX12_write 37 = .ok (.aload_n 0, 1) := by decide +kernel
theorem dX12_write_38 : decode cX12_write 38 = .ok (.dup, 1) := by decide +kernel
theorem dX12_write_39 : decode cX12_write 39 = .ok (.getfield 118, 3) := by decide +kernel
theorem dX12_write_42 : decode cX12_write 42 = .ok (.iconst 1, 1) := by decide +kernel
theorem dX12_write_43 : decode cX12_write 43 = .ok (.iadd, 1) := by decide +kernel
theorem dX12_write_44 : decode cX12_write 44 = .ok (.putfield 118, 3) := by decide +kernel
theorem dX12_write_47 : decode cX12_write 47 = .ok (.aload_n 0, 1) := by decide +kernel
theorem dX12_write_48 : decode cX12_write 48 = .ok (.getfield 118, 3) := by decide +kernel
theorem dX12_write_51 : decode cX12_write 51 = .ok (.ireturn, 1) := by decide +kernel
theorem dX12_wipe_0 : decode cX12_wipe 0 = .ok (.aload_n 0, 1) := by decide +kernel
theorem dX12_wipe_1 : decode cX12_wipe 1 = .ok (.getfield 118, 3) := by decide +kernel
theorem dX12_wipe_4 : decode cX12_wipe 4 = .ok (.istore_n 1, 1) := by decide +kernel
theorem dX12_wipe_5 : decode cX12_wipe 5 = .ok (.aload_n 0, 1) := by decide +kernel
theorem dX12_wipe_6 : decode cX12_wipe 6 = .ok (.iconst 0, 1) := by decide +kernel
theorem dX12_wipe_7 : decode cX12_wipe 7 = .ok (.putfield 118, 3) := by decide +kernel
theorem dX12_wipe_10 : decode cX12_wipe 10 = .ok (.iload_n 1, 1) := by decide +kernel
theorem dX12_wipe_11 : decode cX12_wipe 11 = .ok (.ireturn, 1) := by decide +kernel
theorem dX12_variableOf_0 : decode cX12_variableOf 0 = .ok (.iload_n 0, 1) := by decide +kernel
theorem dX12_variableOf_1 : decode cX12_variableOf 1 = .ok (.i2l, 1) := by decide +kernel
theorem dX12_variableOf_2 : decode cX12_variableOf 2 = .ok (.ldc2_w 122, 3) := by decide +kernel
theorem dX12_variableOf_5 : decode cX12_variableOf 5 = .ok (.ldc2_w 124, 3) := by decide +kernel
theorem dX12_variableOf_8 : decode cX12_variableOf 8 = .ok (.invokestatic 114, 3) := by decide +kernel
theorem dX12_variableOf_11 : decode cX12_variableOf 11 = .ok (.ifCond .eq 10, 3) := by decide +kernel
theorem dX12_variableOf_14 : decode cX12_variableOf 14 = .ok (.iload_n 0, 1) := by decide +kernel
theorem dX12_variableOf_15 : decode cX12_variableOf 15 = .ok (.bipush 97, 2) := by decide +kernel
theorem dX12_variableOf_17 : decode cX12_variableOf 17 = .ok (.isub, 1) := by decide +kernel
theorem dX12_variableOf_18 : decode cX12_variableOf 18 = .ok (.goto 5, 3) := by decide +kernel
theorem dX12_variableOf_21 : decode cX12_variableOf 21 = .ok (.bipush (-9), 2) := by decide +kernel
theorem dX12_variableOf_23 : decode cX12_variableOf 23 = .ok (.ireturn, 1) := by decide +kernel
theorem dX12_termOf_0 : decode cX12_termOf 0 = .ok (.iload_n 0, 1) := by decide +kernel
theorem dX12_termOf_1 : decode cX12_termOf 1 = .ok (.i2l, 1) := by decide +kernel
theorem dX12_termOf_2 : decode cX12_termOf 2 = .ok (.ldc2_w 126, 3) := by decide +kernel
theorem dX12_termOf_5 : decode cX12_termOf 5 = .ok (.ldc2_w 128, 3) := by decide +kernel
theorem dX12_termOf_8 : decode cX12_termOf 8 = .ok (.invokestatic 114, 3) := by decide +kernel
theorem dX12_termOf_11 : decode cX12_termOf 11 = .ok (.ifCond .eq 10, 3) := by decide +kernel
theorem dX12_termOf_14 : decode cX12_termOf 14 = .ok (.iload_n 0, 1) := by decide +kernel
theorem dX12_termOf_15 : decode cX12_termOf 15 = .ok (.bipush 48, 2) := by decide +kernel
theorem dX12_termOf_17 : decode cX12_termOf 17 = .ok (.isub, 1) := by decide +kernel
theorem dX12_termOf_18 : decode cX12_termOf 18 = .ok (.goto 29, 3) := by decide +kernel
theorem dX12_termOf_21 : decode cX12_termOf 21 = .ok (.iload_n 0, 1) := by decide +kernel
theorem dX12_termOf_22 : decode cX12_termOf 22 = .ok (.i2l, 1) := by decide +kernel
theorem dX12_termOf_23 : decode cX12_termOf 23 = .ok (.ldc2_w 122, 3) := by decide +kernel
theorem dX12_termOf_26 : decode cX12_termOf 26 = .ok (.ldc2_w 124, 3) := by decide +kernel
theorem dX12_termOf_29 : decode cX12_termOf 29 = .ok (.invokestatic 114, 3) := by decide +kernel
theorem dX12_termOf_32 : decode cX12_termOf 32 = .ok (.ifCond .eq 13, 3) := by decide +kernel
theorem dX12_termOf_35 : decode cX12_termOf 35 = .ok (.iload_n 0, 1) := by decide +kernel
theorem dX12_termOf_36 : decode cX12_termOf 36 = .ok (.bipush 97, 2) := by decide +kernel
theorem dX12_termOf_38 : decode cX12_termOf 38 = .ok (.isub, 1) := by decide +kernel
theorem dX12_termOf_39 : decode cX12_termOf 39 = .ok (.bipush 6, 2) := by decide +kernel
theorem dX12_termOf_41 : decode cX12_termOf 41 = .ok (.iadd, 1) := by decide +kernel
theorem dX12_termOf_42 : decode cX12_termOf 42 = .ok (.goto 5, 3) := by decide +kernel
theorem dX12_termOf_45 : decode cX12_termOf 45 = .ok (.bipush (-9), 2) := by decide +kernel
theorem dX12_termOf_47 : decode cX12_termOf 47 = .ok (.ireturn, 1) := by decide +kernel
theorem dX12_isCompare_0 : decode cX12_isCompare 0 = .ok (.iload_n 0, 1) := by decide +kernel
theorem dX12_isCompare_1 : decode cX12_isCompare 1 = .ok (.bipush 60, 2) := by decide +kernel
theorem dX12_isCompare_3 : decode cX12_isCompare 3 = .ok (.if_icmp .eq 21, 3) := by decide +kernel
theorem dX12_isCompare_6 : decode cX12_isCompare 6 = .ok (.iload_n 0, 1) := by decide +kernel
theorem dX12_isCompare_7 : decode cX12_isCompare 7 = .ok (.bipush 61, 2) := by decide +kernel
theorem dX12_isCompare_9 : decode cX12_isCompare 9 = .ok (.if_icmp .eq 15, 3) := by decide +kernel
theorem dX12_isCompare_12 : decode cX12_isCompare 12 = .ok (.iload_n 0, 1) := by decide +kernel
theorem dX12_isCompare_13 : decode cX12_isCompare 13 = .ok (.bipush 62, 2) := by decide +kernel
theorem dX12_isCompare_15 : decode cX12_isCompare 15 = .ok (.if_icmp .eq 9, 3) := by decide +kernel
theorem dX12_isCompare_18 : decode cX12_isCompare 18 = .ok (.iload_n 0, 1) := by decide +kernel
theorem dX12_isCompare_19 : decode cX12_isCompare 19 = .ok (.bipush 35, 2) := by decide +kernel
theorem dX12_isCompare_21 : decode cX12_isCompare 21 = .ok (.if_icmp .ne 7, 3) := by decide +kernel
theorem dX12_isCompare_24 : decode cX12_isCompare 24 = .ok (.iconst 1, 1) := by decide +kernel
theorem dX12_isCompare_25 : decode cX12_isCompare 25 = .ok (.goto 4, 3) := by decide +kernel
theorem dX12_isCompare_28 : decode cX12_isCompare 28 = .ok (.iconst 0, 1) := by decide +kernel
theorem dX12_isCompare_29 : decode cX12_isCompare 29 = .ok (.ireturn, 1) := by decide +kernel
theorem dX12_newNode_0 : decode cX12_newNode 0 = .ok (.aload_n 0, 1) := by decide +kernel
theorem dX12_newNode_1 : decode cX12_newNode 1 = .ok (.getfield 40, 3) := by decide +kernel
theorem dX12_newNode_4 : decode cX12_newNode 4 = .ok (.aload_n 0, 1) := by decide +kernel
theorem dX12_newNode_5 : decode cX12_newNode 5 = .ok (.getfield 130, 3) := by decide +kernel
theorem dX12_newNode_8 : decode cX12_newNode 8 = .ok (.iload_n 1, 1) := by decide +kernel
theorem dX12_newNode_9 : decode cX12_newNode 9 = .ok (.iastore, 1) := by decide +kernel
theorem dX12_newNode_10 : decode cX12_newNode 10 = .ok (.aload_n 0, 1) := by decide +kernel
theorem dX12_newNode_11 : decode cX12_newNode 11 = .ok (.getfield 55, 3) := by decide +kernel
theorem dX12_newNode_14 : decode cX12_newNode 14 = .ok (.aload_n 0, 1) := by decide +kernel
theorem dX12_newNode_15 : decode cX12_newNode 15 = .ok (.getfield 130, 3) := by decide +kernel
theorem dX12_newNode_18 : decode cX12_newNode 18 = .ok (.aload_n 0, 1) := by decide +kernel
theorem dX12_newNode_19 : decode cX12_newNode 19 = .ok (.getfield 130, 3) := by decide +kernel
theorem dX12_newNode_22 : decode cX12_newNode 22 = .ok (.iconst 1, 1) := by decide +kernel
theorem dX12_newNode_23 : decode cX12_newNode 23 = .ok (.iadd, 1) := by decide +kernel
theorem dX12_newNode_24 : decode cX12_newNode 24 = .ok (.iastore, 1) := by decide +kernel
theorem dX12_newNode_25 : decode cX12_newNode 25 = .ok (.aload_n 0, 1) := by decide +kernel
theorem dX12_newNode_26 : decode cX12_newNode 26 = .ok (.dup, 1) := by decide +kernel
theorem dX12_newNode_27 : decode cX12_newNode 27 = .ok (.getfield 130, 3) := by decide +kernel
theorem dX12_newNode_30 : decode cX12_newNode 30 = .ok (.iconst 1, 1) := by decide +kernel
theorem dX12_newNode_31 : decode cX12_newNode 31 = .ok (.iadd, 1) := by decide +kernel
theorem dX12_newNode_32 : decode cX12_newNode 32 = .ok (.putfield 130, 3) := by decide +kernel
theorem dX12_newNode_35 : decode cX12_newNode 35 = .ok (.return_, 1) := by decide +kernel
theorem dX12_innermost_0 : decode cX12_innermost 0 = .ok (.aload_n 0, 1) := by decide +kernel
theorem dX12_innermost_1 : decode cX12_innermost 1 = .ok (.getfield 133, 3) := by decide +kernel
theorem dX12_innermost_4 : decode cX12_innermost 4 = .ok (.ifCond .ne 7, 3) := by decide +kernel
theorem dX12_innermost_7 : decode cX12_innermost 7 = .ok (.iconst 0, 1) := by decide +kernel
theorem dX12_innermost_8 : decode cX12_innermost 8 = .ok (.goto 19, 3) := by decide +kernel
theorem dX12_innermost_11 : decode cX12_innermost 11 = .ok (.aload_n 0, 1) := by decide +kernel
theorem dX12_innermost_12 : decode cX12_innermost 12 = .ok (.getfield 40, 3) := by decide +kernel
theorem dX12_innermost_15 : decode cX12_innermost 15 = .ok (.aload_n 0, 1) := by decide +kernel
theorem dX12_innermost_16 : decode cX12_innermost 16 = .ok (.getfield 67, 3) := by decide +kernel
theorem dX12_innermost_19 : decode cX12_innermost 19 = .ok (.aload_n 0, 1) := by decide +kernel
theorem dX12_innermost_20 : decode cX12_innermost 20 = .ok (.getfield 133, 3) := by decide +kernel
theorem dX12_innermost_23 : decode cX12_innermost 23 = .ok (.iconst 1, 1) := by decide +kernel
theorem dX12_innermost_24 : decode cX12_innermost 24 = .ok (.isub, 1) := by decide +kernel
theorem dX12_innermost_25 : decode cX12_innermost 25 = .ok (.iaload, 1) := by decide +kernel
theorem dX12_innermost_26 : decode cX12_innermost 26 = .ok (.iaload, 1) := by decide +kernel
theorem dX12_innermost_27 : decode cX12_innermost 27 = .ok (.ireturn, 1) := by decide +kernel
theorem dX12_takeStatement_0 : decode cX12_takeStatement 0 = .ok (.iload_n 1, 1) := by decide +kernel
theorem dX12_takeStatement_1 : decode cX12_takeStatement 1 = .ok (.invokestatic 136, 3) := by decide +kernel
theorem dX12_takeStatement_4 : decode cX12_takeStatement 4 = .ok (.bipush (-9), 2) := by decide +kernel
theorem dX12_takeStatement_6 : decode cX12_takeStatement 6 = .ok (.if_icmp .eq 30, 3) := by decide +kernel
theorem dX12_takeStatement_9 : decode cX12_takeStatement 9 = .ok (.aload_n 0, 1) := by decide +kernel
theorem dX12_takeStatement_10 : decode cX12_takeStatement 10 = .ok (.iconst 0, 1) := by decide +kernel
theorem dX12_takeStatement_11 : decode cX12_takeStatement 11 = .ok (.invokevirtual 140, 3) := by decide +kernel
theorem dX12_takeStatement_14 : decode cX12_takeStatement 14 = .ok (.aload_n 0, 1) := by decide +kernel
theorem dX12_takeStatement_15 : decode cX12_takeStatement 15 = .ok (.getfield 43, 3) := by decide +kernel
theorem dX12_takeStatement_18 : decode cX12_takeStatement 18 = .ok (.aload_n 0, 1) := by decide +kernel
theorem dX12_takeStatement_19 : decode cX12_takeStatement 19 = .ok (.getfield 130, 3) := by decide +kernel
theorem dX12_takeStatement_22 : decode cX12_takeStatement 22 = .ok (.iconst 1, 1) := by decide +kernel
theorem dX12_takeStatement_23 : decode cX12_takeStatement 23 = .ok (.isub, 1) := by decide +kernel
theorem dX12_takeStatement_24 : decode cX12_takeStatement 24 = .ok (.iload_n 1, 1) := by decide +kernel
theorem dX12_takeStatement_25 : decode cX12_takeStatement 25 = .ok (.invokestatic 136, 3) := by decide +kernel
theorem dX12_takeStatement_28 : decode cX12_takeStatement 28 = .ok (.iastore, 1) := by decide +kernel
theorem dX12_takeStatement_29 : decode cX12_takeStatement 29 = .ok (.aload_n 0, 1) := by decide +kernel
theorem dX12_takeStatement_30 : decode cX12_takeStatement 30 = .ok (.iconst 1, 1) := by decide +kernel
theorem dX12_takeStatement_31 : decode cX12_takeStatement 31 = .ok (.putfield 144, 3) := by decide +kernel
theorem dX12_takeStatement_34 : decode cX12_takeStatement 34 = .ok (.iconst 1, 1) := by decide +kernel
theorem dX12_takeStatement_35 : decode cX12_takeStatement 35 = .ok (.ireturn, 1) := by decide +kernel
theorem dX12_takeStatement_36 : decode cX12_takeStatement 36 = .ok (.iload_n 1, 1) := by decide +kernel
theorem dX12_takeStatement_37 : decode cX12_takeStatement 37 = .ok (.lookupswitch 233 #[(33, 81), (40, 103), (41, 147), (59, 213), (64, 75), (123, 126), (124, 169), (125, 191)], 75) := by decide +kernel
theorem dX12_takeStatement_112 : decode cX12_takeStatement 112 = .ok (.aload_n 0, 1) := by decide +kernel
theorem dX12_takeStatement_113 : decode cX12_takeStatement 113 = .ok (.iconst 4, 1) := by decide +kernel
theorem dX12_takeStatement_114 : decode cX12_takeStatement 114 = .ok (.invokevirtual 147, 3) := by decide +kernel
theorem dX12_takeStatement_117 : decode cX12_takeStatement 117 = .ok (.ireturn, 1) := by decide +kernel
theorem dX12_takeStatement_118 : decode cX12_takeStatement 118 = .ok (.aload_n 0, 1) := by decide +kernel
theorem dX12_takeStatement_119 : decode cX12_takeStatement 119 = .ok (.getfield 151, 3) := by decide +kernel
theorem dX12_takeStatement_122 : decode cX12_takeStatement 122 = .ok (.iconst 4, 1) := by decide +kernel
theorem dX12_takeStatement_123 : decode cX12_takeStatement 123 = .ok (.if_icmp .ge 15, 3) := by decide +kernel
theorem dX12_takeStatement_126 : decode cX12_takeStatement 126 = .ok (.aload_n 0, 1) := by decide +kernel
theorem dX12_takeStatement_127 : decode cX12_takeStatement 127 = .ok (.iconst 5, 1) := by decide +kernel
theorem dX12_takeStatement_128 : decode cX12_takeStatement 128 = .ok (.invokevirtual 147, 3) := by decide +kernel
theorem dX12_takeStatement_131 : decode cX12_takeStatement 131 = .ok (.ifCond .eq 7, 3) := by decide +kernel
theorem dX12_takeStatement_134 : decode cX12_takeStatement 134 = .ok (.iconst 1, 1) := by decide +kernel
theorem dX12_takeStatement_135 : decode cX12_takeStatement 135 = .ok (.goto 4, 3) := by decide +kernel
theorem dX12_takeStatement_138 : decode cX12_takeStatement 138 = .ok (.iconst 0, 1) := by decide +kernel
theorem dX12_takeStatement_139 : decode cX12_takeStatement 139 = .ok (.ireturn, 1) := by decide +kernel
theorem dX12_takeStatement_140 : decode cX12_takeStatement 140 = .ok (.aload_n 0, 1) := by decide +kernel
theorem dX12_takeStatement_141 : decode cX12_takeStatement 141 = .ok (.getfield 154, 3) := by decide +kernel
theorem dX12_takeStatement_144 : decode cX12_takeStatement 144 = .ok (.iconst 3, 1) := by decide +kernel
theorem dX12_takeStatement_145 : decode cX12_takeStatement 145 = .ok (.if_icmp .ge 16, 3) := by decide +kernel
theorem dX12_takeStatement_148 : decode cX12_takeStatement 148 = .ok (.aload_n 0, 1) := by decide +kernel
theorem dX12_takeStatement_149 : decode cX12_takeStatement 149 = .ok (.bipush 6, 2) := by decide +kernel
theorem dX12_takeStatement_151 : decode cX12_takeStatement 151 = .ok (.invokevirtual 147, 3) := by decide +kernel
theorem dX12_takeStatement_154 : decode cX12_takeStatement 154 = .ok (.ifCond .eq 7, 3) := by decide +kernel
theorem dX12_takeStatement_157 : decode cX12_takeStatement 157 = .ok (.iconst 1, 1) := by decide +kernel
theorem dX12_takeStatement_158 : decode cX12_takeStatement 158 = .ok (.goto 4, 3) := by decide +kernel
theorem dX12_takeStatement_161 : decode cX12_takeStatement 161 = .ok (.iconst 0, 1) := by decide +kernel
theorem dX12_takeStatement_162 : decode cX12_takeStatement 162 = .ok (.ireturn, 1) := by decide +kernel
theorem dX12_takeStatement_163 : decode cX12_takeStatement 163 = .ok (.aload_n 0, 1) := by decide +kernel
theorem dX12_takeStatement_164 : decode cX12_takeStatement 164 = .ok (.getfield 157, 3) := by decide +kernel
theorem dX12_takeStatement_167 : decode cX12_takeStatement 167 = .ok (.iconst 3, 1) := by decide +kernel
theorem dX12_takeStatement_168 : decode cX12_takeStatement 168 = .ok (.if_icmp .ge 14, 3) := by decide +kernel
theorem dX12_takeStatement_171 : decode cX12_takeStatement 171 = .ok (.aload_n 0, 1) := by decide +kernel
theorem dX12_takeStatement_172 : decode cX12_takeStatement 172 = .ok (.invokevirtual 160, 3) := by decide +kernel
theorem dX12_takeStatement_175 : decode cX12_takeStatement 175 = .ok (.ifCond .eq 7, 3) := by decide +kernel
theorem dX12_takeStatement_178 : decode cX12_takeStatement 178 = .ok (.iconst 1, 1) := by decide +kernel
theorem dX12_takeStatement_179 : decode cX12_takeStatement 179 = .ok (.goto 4, 3) := by decide +kernel
theorem dX12_takeStatement_182 : decode cX12_takeStatement 182 = .ok (.iconst 0, 1) := by decide +kernel
theorem dX12_takeStatement_183 : decode cX12_takeStatement 183 = .ok (.ireturn, 1) := by decide +kernel
theorem dX12_takeStatement_184 : decode cX12_takeStatement 184 = .ok (.aload_n 0, 1) := by decide +kernel
theorem dX12_takeStatement_185 : decode cX12_takeStatement 185 = .ok (.invokevirtual 164, 3) := by decide +kernel
theorem dX12_takeStatement_188 : decode cX12_takeStatement 188 = .ok (.bipush 6, 2) := by decide +kernel
theorem dX12_takeStatement_190 : decode cX12_takeStatement 190 = .ok (.if_icmp .ne 14, 3) := by decide +kernel
theorem dX12_takeStatement_193 : decode cX12_takeStatement 193 = .ok (.aload_n 0, 1) := by decide +kernel
theorem dX12_takeStatement_194 : decode cX12_takeStatement 194 = .ok (.invokevirtual 168, 3) := by decide +kernel
theorem dX12_takeStatement_197 : decode cX12_takeStatement 197 = .ok (.ifCond .eq 7, 3) := by decide +kernel
theorem dX12_takeStatement_200 : decode cX12_takeStatement 200 = .ok (.iconst 1, 1) := by decide +kernel
theorem dX12_takeStatement_201 : decode cX12_takeStatement 201 = .ok (.goto 4, 3) := by decide +kernel
theorem dX12_takeStatement_204 : decode cX12_takeStatement 204 = .ok (.iconst 0, 1) := by decide +kernel
theorem dX12_takeStatement_205 : decode cX12_takeStatement 205 = .ok (.ireturn, 1) := by decide +kernel
theorem dX12_takeStatement_206 : decode cX12_takeStatement 206 = .ok (.aload_n 0, 1) := by decide +kernel
theorem dX12_takeStatement_207 : decode cX12_takeStatement 207 = .ok (.invokevirtual 164, 3) := by decide +kernel
theorem dX12_takeStatement_210 : decode cX12_takeStatement 210 = .ok (.bipush 8, 2) := by decide +kernel
theorem dX12_takeStatement_212 : decode cX12_takeStatement 212 = .ok (.if_icmp .ne 14, 3) := by decide +kernel
theorem dX12_takeStatement_215 : decode cX12_takeStatement 215 = .ok (.aload_n 0, 1) := by decide +kernel
theorem dX12_takeStatement_216 : decode cX12_takeStatement 216 = .ok (.invokevirtual 171, 3) := by decide +kernel
theorem dX12_takeStatement_219 : decode cX12_takeStatement 219 = .ok (.ifCond .eq 7, 3) := by decide +kernel
theorem dX12_takeStatement_222 : decode cX12_takeStatement 222 = .ok (.iconst 1, 1) := by decide +kernel
theorem dX12_takeStatement_223 : decode cX12_takeStatement 223 = .ok (.goto 4, 3) := by decide +kernel
theorem dX12_takeStatement_226 : decode cX12_takeStatement 226 = .ok (.iconst 0, 1) := by decide +kernel
theorem dX12_takeStatement_227 : decode cX12_takeStatement 227 = .ok (.ireturn, 1) := by decide +kernel
theorem dX12_takeStatement_228 : decode cX12_takeStatement 228 = .ok (.aload_n 0, 1) := by decide +kernel
theorem dX12_takeStatement_229 : decode cX12_takeStatement 229 = .ok (.invokevirtual 164, 3) := by decide +kernel
theorem dX12_takeStatement_232 : decode cX12_takeStatement 232 = .ok (.bipush 9, 2) := by decide +kernel
theorem dX12_takeStatement_234 : decode cX12_takeStatement 234 = .ok (.if_icmp .ne 14, 3) := by decide +kernel
theorem dX12_takeStatement_237 : decode cX12_takeStatement 237 = .ok (.aload_n 0, 1) := by decide +kernel
theorem dX12_takeStatement_238 : decode cX12_takeStatement 238 = .ok (.invokevirtual 174, 3) := by decide +kernel
theorem dX12_takeStatement_241 : decode cX12_takeStatement 241 = .ok (.ifCond .eq 7, 3) := by decide +kernel
theorem dX12_takeStatement_244 : decode cX12_takeStatement 244 = .ok (.iconst 1, 1) := by decide +kernel
theorem dX12_takeStatement_245 : decode cX12_takeStatement 245 = .ok (.goto 4, 3) := by decide +kernel
theorem dX12_takeStatement_248 : decode cX12_takeStatement 248 = .ok (.iconst 0, 1) := by decide +kernel
theorem dX12_takeStatement_249 : decode cX12_takeStatement 249 = .ok (.ireturn, 1) := by decide +kernel
theorem dX12_takeStatement_250 : decode cX12_takeStatement 250 = .ok (.aload_n 0, 1) := by decide +kernel
theorem dX12_takeStatement_251 : decode cX12_takeStatement 251 = .ok (.getfield 133, 3) := by decide +kernel
theorem dX12_takeStatement_254 : decode cX12_takeStatement 254 = .ok (.ifCond .ne 14, 3) := by decide +kernel
theorem dX12_takeStatement_257 : decode cX12_takeStatement 257 = .ok (.aload_n 0, 1) := by decide +kernel
theorem dX12_takeStatement_258 : decode cX12_takeStatement 258 = .ok (.invokevirtual 177, 3) := by decide +kernel
theorem dX12_takeStatement_261 : decode cX12_takeStatement 261 = .ok (.ifCond .eq 7, 3) := by decide +kernel
theorem dX12_takeStatement_264 : decode cX12_takeStatement 264 = .ok (.iconst 1, 1) := by decide +kernel
theorem dX12_takeStatement_265 : decode cX12_takeStatement 265 = .ok (.goto 4, 3) := by decide +kernel
theorem dX12_takeStatement_268 : decode cX12_takeStatement 268 = .ok (.iconst 0, 1) := by decide +kernel
theorem dX12_takeStatement_269 : decode cX12_takeStatement 269 = .ok (.ireturn, 1) := by decide +kernel
theorem dX12_takeStatement_270 : decode cX12_takeStatement 270 = .ok (.iconst 0, 1) := by decide +kernel
theorem dX12_takeStatement_271 : decode cX12_takeStatement 271 = .ok (.ireturn, 1) := by decide +kernel
theorem dX12_takeAsking_0 : decode cX12_takeAsking 0 = .ok (.aload_n 0, 1) := by decide +kernel
theorem dX12_takeAsking_1 : decode cX12_takeAsking 1 = .ok (.iload_n 1, 1) := by decide +kernel
theorem dX12_takeAsking_2 : decode cX12_takeAsking 2 = .ok (.invokevirtual 140, 3) := by decide +kernel
theorem dX12_takeAsking_5 : decode cX12_takeAsking 5 = .ok (.aload_n 0, 1) := by decide +kernel
theorem dX12_takeAsking_6 : decode cX12_takeAsking 6 = .ok (.iconst 3, 1) := by decide +kernel
theorem dX12_takeAsking_7 : decode cX12_takeAsking 7 = .ok (.putfield 144, 3) := by decide +kernel
theorem dX12_takeAsking_10 : decode cX12_takeAsking 10 = .ok (.iload_n 1, 1) := by decide +kernel
theorem dX12_takeAsking_11 : decode cX12_takeAsking 11 = .ok (.iconst 5, 1) := by decide +kernel
theorem dX12_takeAsking_12 : decode cX12_takeAsking 12 = .ok (.if_icmp .ne 28, 3) := by decide +kernel
theorem dX12_takeAsking_15 : decode cX12_takeAsking 15 = .ok (.aload_n 0, 1) := by decide +kernel
theorem dX12_takeAsking_16 : decode cX12_takeAsking 16 = .ok (.getfield 52, 3) := by decide +kernel
theorem dX12_takeAsking_19 : decode cX12_takeAsking 19 = .ok (.aload_n 0, 1) := by decide +kernel
theorem dX12_takeAsking_20 : decode cX12_takeAsking 20 = .ok (.getfield 130, 3) := by decide +kernel
theorem dX12_takeAsking_23 : decode cX12_takeAsking 23 = .ok (.iconst 1, 1) := by decide +kernel
theorem dX12_takeAsking_24 : decode cX12_takeAsking 24 = .ok (.isub, 1) := by decide +kernel
theorem dX12_takeAsking_25 : decode cX12_takeAsking 25 = .ok (.aload_n 0, 1) := by decide +kernel
theorem dX12_takeAsking_26 : decode cX12_takeAsking 26 = .ok (.getfield 151, 3) := by decide +kernel
theorem dX12_takeAsking_29 : decode cX12_takeAsking 29 = .ok (.iastore, 1) := by decide +kernel
theorem dX12_takeAsking_30 : decode cX12_takeAsking 30 = .ok (.aload_n 0, 1) := by decide +kernel
theorem dX12_takeAsking_31 : decode cX12_takeAsking 31 = .ok (.dup, 1) := by decide +kernel
theorem dX12_takeAsking_32 : decode cX12_takeAsking 32 = .ok (.getfield 151, 3) := by decide +kernel
theorem dX12_takeAsking_35 : decode cX12_takeAsking 35 = .ok (.iconst 1, 1) := by decide +kernel
theorem dX12_takeAsking_36 : decode cX12_takeAsking 36 = .ok (.iadd, 1) := by decide +kernel
theorem dX12_takeAsking_37 : decode cX12_takeAsking 37 = .ok (.putfield 151, 3) := by decide +kernel
theorem dX12_takeAsking_40 : decode cX12_takeAsking 40 = .ok (.iload_n 1, 1) := by decide +kernel
theorem dX12_takeAsking_41 : decode cX12_takeAsking 41 = .ok (.bipush 6, 2) := by decide +kernel
theorem dX12_takeAsking_43 : decode cX12_takeAsking 43 = .ok (.if_icmp .ne 53, 3) := by decide +kernel
theorem dX12_takeAsking_46 : decode cX12_takeAsking 46 = .ok (.aload_n 0, 1) := by decide +kernel
theorem dX12_takeAsking_47 : decode cX12_takeAsking 47 = .ok (.getfield 52, 3) := by decide +kernel
theorem dX12_takeAsking_50 : decode cX12_takeAsking 50 = .ok (.aload_n 0, 1) := by decide +kernel
theorem dX12_takeAsking_51 : decode cX12_takeAsking 51 = .ok (.getfield 130, 3) := by decide +kernel
theorem dX12_takeAsking_54 : decode cX12_takeAsking 54 = .ok (.iconst 1, 1) := by decide +kernel
theorem dX12_takeAsking_55 : decode cX12_takeAsking 55 = .ok (.isub, 1) := by decide +kernel
theorem dX12_takeAsking_56 : decode cX12_takeAsking 56 = .ok (.aload_n 0, 1) := by decide +kernel
theorem dX12_takeAsking_57 : decode cX12_takeAsking 57 = .ok (.getfield 154, 3) := by decide +kernel
theorem dX12_takeAsking_60 : decode cX12_takeAsking 60 = .ok (.iastore, 1) := by decide +kernel
theorem dX12_takeAsking_61 : decode cX12_takeAsking 61 = .ok (.aload_n 0, 1) := by decide +kernel
theorem dX12_takeAsking_62 : decode cX12_takeAsking 62 = .ok (.dup, 1) := by decide +kernel
theorem dX12_takeAsking_63 : decode cX12_takeAsking 63 = .ok (.getfield 154, 3) := by decide +kernel
theorem dX12_takeAsking_66 : decode cX12_takeAsking 66 = .ok (.iconst 1, 1) := by decide +kernel
theorem dX12_takeAsking_67 : decode cX12_takeAsking 67 = .ok (.iadd, 1) := by decide +kernel
theorem dX12_takeAsking_68 : decode cX12_takeAsking 68 = .ok (.putfield 154, 3) := by decide +kernel
theorem dX12_takeAsking_71 : decode cX12_takeAsking 71 = .ok (.aload_n 0, 1) := by decide +kernel
theorem dX12_takeAsking_72 : decode cX12_takeAsking 72 = .ok (.getfield 67, 3) := by decide +kernel
theorem dX12_takeAsking_75 : decode cX12_takeAsking 75 = .ok (.aload_n 0, 1) := by decide +kernel
theorem dX12_takeAsking_76 : decode cX12_takeAsking 76 = .ok (.getfield 133, 3) := by decide +kernel
theorem dX12_takeAsking_79 : decode cX12_takeAsking 79 = .ok (.aload_n 0, 1) := by decide +kernel
theorem dX12_takeAsking_80 : decode cX12_takeAsking 80 = .ok (.getfield 130, 3) := by decide +kernel
theorem dX12_takeAsking_83 : decode cX12_takeAsking 83 = .ok (.iconst 1, 1) := by decide +kernel
theorem dX12_takeAsking_84 : decode cX12_takeAsking 84 = .ok (.isub, 1) := by decide +kernel
theorem dX12_takeAsking_85 : decode cX12_takeAsking 85 = .ok (.iastore, 1) := by decide +kernel
theorem dX12_takeAsking_86 : decode cX12_takeAsking 86 = .ok (.aload_n 0, 1) := by decide +kernel
theorem dX12_takeAsking_87 : decode cX12_takeAsking 87 = .ok (.dup, 1) := by decide +kernel
theorem dX12_takeAsking_88 : decode cX12_takeAsking 88 = .ok (.getfield 133, 3) := by decide +kernel
theorem dX12_takeAsking_91 : decode cX12_takeAsking 91 = .ok (.iconst 1, 1) := by decide +kernel
theorem dX12_takeAsking_92 : decode cX12_takeAsking 92 = .ok (.iadd, 1) := by decide +kernel
theorem dX12_takeAsking_93 : decode cX12_takeAsking 93 = .ok (.putfield 133, 3) := by decide +kernel
theorem dX12_takeAsking_96 : decode cX12_takeAsking 96 = .ok (.iconst 1, 1) := by decide +kernel
theorem dX12_takeAsking_97 : decode cX12_takeAsking 97 = .ok (.ireturn, 1) := by decide +kernel
theorem dX12_takeEither_0 : decode cX12_takeEither 0 = .ok (.aload_n 0, 1) := by decide +kernel
theorem dX12_takeEither_1 : decode cX12_takeEither 1 = .ok (.bipush 8, 2) := by decide +kernel
theorem dX12_takeEither_3 : decode cX12_takeEither 3 = .ok (.invokevirtual 140, 3) := by decide +kernel
theorem dX12_takeEither_6 : decode cX12_takeEither 6 = .ok (.aload_n 0, 1) := by decide +kernel
theorem dX12_takeEither_7 : decode cX12_takeEither 7 = .ok (.dup, 1) := by decide +kernel
theorem dX12_takeEither_8 : decode cX12_takeEither 8 = .ok (.getfield 157, 3) := by decide +kernel
theorem dX12_takeEither_11 : decode cX12_takeEither 11 = .ok (.iconst 1, 1) := by decide +kernel
theorem dX12_takeEither_12 : decode cX12_takeEither 12 = .ok (.iadd, 1) := by decide +kernel
theorem dX12_takeEither_13 : decode cX12_takeEither 13 = .ok (.putfield 157, 3) := by decide +kernel
theorem dX12_takeEither_16 : decode cX12_takeEither 16 = .ok (.aload_n 0, 1) := by decide +kernel
theorem dX12_takeEither_17 : decode cX12_takeEither 17 = .ok (.getfield 67, 3) := by decide +kernel
theorem dX12_takeEither_20 : decode cX12_takeEither 20 = .ok (.aload_n 0, 1) := by decide +kernel
theorem dX12_takeEither_21 : decode cX12_takeEither 21 = .ok (.getfield 133, 3) := by decide +kernel
theorem dX12_takeEither_24 : decode cX12_takeEither 24 = .ok (.aload_n 0, 1) := by decide +kernel
theorem dX12_takeEither_25 : decode cX12_takeEither 25 = .ok (.getfield 130, 3) := by decide +kernel
theorem dX12_takeEither_28 : decode cX12_takeEither 28 = .ok (.iconst 1, 1) := by decide +kernel
theorem dX12_takeEither_29 : decode cX12_takeEither 29 = .ok (.isub, 1) := by decide +kernel
theorem dX12_takeEither_30 : decode cX12_takeEither 30 = .ok (.iastore, 1) := by decide +kernel
theorem dX12_takeEither_31 : decode cX12_takeEither 31 = .ok (.aload_n 0, 1) := by decide +kernel
theorem dX12_takeEither_32 : decode cX12_takeEither 32 = .ok (.dup, 1) := by decide +kernel
theorem dX12_takeEither_33 : decode cX12_takeEither 33 = .ok (.getfield 133, 3) := by decide +kernel
theorem dX12_takeEither_36 : decode cX12_takeEither 36 = .ok (.iconst 1, 1) := by decide +kernel
theorem dX12_takeEither_37 : decode cX12_takeEither 37 = .ok (.iadd, 1) := by decide +kernel
theorem dX12_takeEither_38 : decode cX12_takeEither 38 = .ok (.putfield 133, 3) := by decide +kernel
theorem dX12_takeEither_41 : decode cX12_takeEither 41 = .ok (.iconst 1, 1) := by decide +kernel
theorem dX12_takeEither_42 : decode cX12_takeEither 42 = .ok (.ireturn, 1) := by decide +kernel
theorem dX12_takeClose_0 : decode cX12_takeClose 0 = .ok (.aload_n 0, 1) := by decide +kernel
theorem dX12_takeClose_1 : decode cX12_takeClose 1 = .ok (.dup, 1) := by decide +kernel
theorem dX12_takeClose_2 : decode cX12_takeClose 2 = .ok (.getfield 133, 3) := by decide +kernel
theorem dX12_takeClose_5 : decode cX12_takeClose 5 = .ok (.iconst 1, 1) := by decide +kernel
theorem dX12_takeClose_6 : decode cX12_takeClose 6 = .ok (.isub, 1) := by decide +kernel
theorem dX12_takeClose_7 : decode cX12_takeClose 7 = .ok (.putfield 133, 3) := by decide +kernel
theorem dX12_takeClose_10 : decode cX12_takeClose 10 = .ok (.aload_n 0, 1) := by decide +kernel
theorem dX12_takeClose_11 : decode cX12_takeClose 11 = .ok (.bipush 7, 2) := by decide +kernel
theorem dX12_takeClose_13 : decode cX12_takeClose 13 = .ok (.invokevirtual 140, 3) := by decide +kernel
theorem dX12_takeClose_16 : decode cX12_takeClose 16 = .ok (.aload_n 0, 1) := by decide +kernel
theorem dX12_takeClose_17 : decode cX12_takeClose 17 = .ok (.getfield 55, 3) := by decide +kernel
theorem dX12_takeClose_20 : decode cX12_takeClose 20 = .ok (.aload_n 0, 1) := by decide +kernel
theorem dX12_takeClose_21 : decode cX12_takeClose 21 = .ok (.getfield 130, 3) := by decide +kernel
theorem dX12_takeClose_24 : decode cX12_takeClose 24 = .ok (.iconst 1, 1) := by decide +kernel
theorem dX12_takeClose_25 : decode cX12_takeClose 25 = .ok (.isub, 1) := by decide +kernel
theorem dX12_takeClose_26 : decode cX12_takeClose 26 = .ok (.aload_n 0, 1) := by decide +kernel
theorem dX12_takeClose_27 : decode cX12_takeClose 27 = .ok (.getfield 67, 3) := by decide +kernel
theorem dX12_takeClose_30 : decode cX12_takeClose 30 = .ok (.aload_n 0, 1) := by decide +kernel
theorem dX12_takeClose_31 : decode cX12_takeClose 31 = .ok (.getfield 133, 3) := by decide +kernel
theorem dX12_takeClose_34 : decode cX12_takeClose 34 = .ok (.iaload, 1) := by decide +kernel
theorem dX12_takeClose_35 : decode cX12_takeClose 35 = .ok (.iastore, 1) := by decide +kernel
theorem dX12_takeClose_36 : decode cX12_takeClose 36 = .ok (.aload_n 0, 1) := by decide +kernel
theorem dX12_takeClose_37 : decode cX12_takeClose 37 = .ok (.getfield 55, 3) := by decide +kernel
theorem dX12_takeClose_40 : decode cX12_takeClose 40 = .ok (.aload_n 0, 1) := by decide +kernel
theorem dX12_takeClose_41 : decode cX12_takeClose 41 = .ok (.getfield 67, 3) := by decide +kernel
theorem dX12_takeClose_44 : decode cX12_takeClose 44 = .ok (.aload_n 0, 1) := by decide +kernel
theorem dX12_takeClose_45 : decode cX12_takeClose 45 = .ok (.getfield 133, 3) := by decide +kernel
theorem dX12_takeClose_48 : decode cX12_takeClose 48 = .ok (.iaload, 1) := by decide +kernel
theorem dX12_takeClose_49 : decode cX12_takeClose 49 = .ok (.aload_n 0, 1) := by decide +kernel
theorem dX12_takeClose_50 : decode cX12_takeClose 50 = .ok (.getfield 130, 3) := by decide +kernel
theorem dX12_takeClose_53 : decode cX12_takeClose 53 = .ok (.iastore, 1) := by decide +kernel
theorem dX12_takeClose_54 : decode cX12_takeClose 54 = .ok (.iconst 1, 1) := by decide +kernel
theorem dX12_takeClose_55 : decode cX12_takeClose 55 = .ok (.ireturn, 1) := by decide +kernel
theorem dX12_takeBar_0 : decode cX12_takeBar 0 = .ok (.aload_n 0, 1) := by decide +kernel
theorem dX12_takeBar_1 : decode cX12_takeBar 1 = .ok (.bipush 9, 2) := by decide +kernel
theorem dX12_takeBar_3 : decode cX12_takeBar 3 = .ok (.invokevirtual 140, 3) := by decide +kernel
theorem dX12_takeBar_6 : decode cX12_takeBar 6 = .ok (.aload_n 0, 1) := by decide +kernel
theorem dX12_takeBar_7 : decode cX12_takeBar 7 = .ok (.getfield 55, 3) := by decide +kernel
theorem dX12_takeBar_10 : decode cX12_takeBar 10 = .ok (.aload_n 0, 1) := by decide +kernel
theorem dX12_takeBar_11 : decode cX12_takeBar 11 = .ok (.getfield 67, 3) := by decide +kernel
theorem dX12_takeBar_14 : decode cX12_takeBar 14 = .ok (.aload_n 0, 1) := by decide +kernel
theorem dX12_takeBar_15 : decode cX12_takeBar 15 = .ok (.getfield 133, 3) := by decide +kernel
theorem dX12_takeBar_18 : decode cX12_takeBar 18 = .ok (.iconst 1, 1) := by decide +kernel
theorem dX12_takeBar_19 : decode cX12_takeBar 19 = .ok (.isub, 1) := by decide +kernel
theorem dX12_takeBar_20 : decode cX12_takeBar 20 = .ok (.iaload, 1) := by decide +kernel
theorem dX12_takeBar_21 : decode cX12_takeBar 21 = .ok (.aload_n 0, 1) := by decide +kernel
theorem dX12_takeBar_22 : decode cX12_takeBar 22 = .ok (.getfield 130, 3) := by decide +kernel
theorem dX12_takeBar_25 : decode cX12_takeBar 25 = .ok (.iastore, 1) := by decide +kernel
theorem dX12_takeBar_26 : decode cX12_takeBar 26 = .ok (.aload_n 0, 1) := by decide +kernel
theorem dX12_takeBar_27 : decode cX12_takeBar 27 = .ok (.getfield 67, 3) := by decide +kernel
theorem dX12_takeBar_30 : decode cX12_takeBar 30 = .ok (.aload_n 0, 1) := by decide +kernel
theorem dX12_takeBar_31 : decode cX12_takeBar 31 = .ok (.getfield 133, 3) := by decide +kernel
theorem dX12_takeBar_34 : decode cX12_takeBar 34 = .ok (.iconst 1, 1) := by decide +kernel
theorem dX12_takeBar_35 : decode cX12_takeBar 35 = .ok (.isub, 1) := by decide +kernel
theorem dX12_takeBar_36 : decode cX12_takeBar 36 = .ok (.aload_n 0, 1) := by decide +kernel
theorem dX12_takeBar_37 : decode cX12_takeBar 37 = .ok (.getfield 130, 3) := by decide +kernel
theorem dX12_takeBar_40 : decode cX12_takeBar 40 = .ok (.iconst 1, 1) := by decide +kernel
theorem dX12_takeBar_41 : decode cX12_takeBar 41 = .ok (.isub, 1) := by decide +kernel
theorem dX12_takeBar_42 : decode cX12_takeBar 42 = .ok (.iastore, 1) := by decide +kernel
theorem dX12_takeBar_43 : decode cX12_takeBar 43 = .ok (.iconst 1, 1) := by decide +kernel
theorem dX12_takeBar_44 : decode cX12_takeBar 44 = .ok (.ireturn, 1) := by decide +kernel
theorem dX12_takeJoin_0 : decode cX12_takeJoin 0 = .ok (.aload_n 0, 1) := by decide +kernel
theorem dX12_takeJoin_1 : decode cX12_takeJoin 1 = .ok (.dup, 1) := by decide +kernel
theorem dX12_takeJoin_2 : decode cX12_takeJoin 2 = .ok (.getfield 133, 3) := by decide +kernel
theorem dX12_takeJoin_5 : decode cX12_takeJoin 5 = .ok (.iconst 1, 1) := by decide +kernel
theorem dX12_takeJoin_6 : decode cX12_takeJoin 6 = .ok (.isub, 1) := by decide +kernel
theorem dX12_takeJoin_7 : decode cX12_takeJoin 7 = .ok (.putfield 133, 3) := by decide +kernel
theorem dX12_takeJoin_10 : decode cX12_takeJoin 10 = .ok (.aload_n 0, 1) := by decide +kernel
theorem dX12_takeJoin_11 : decode cX12_takeJoin 11 = .ok (.bipush 10, 2) := by decide +kernel
theorem dX12_takeJoin_13 : decode cX12_takeJoin 13 = .ok (.invokevirtual 140, 3) := by decide +kernel
theorem dX12_takeJoin_16 : decode cX12_takeJoin 16 = .ok (.aload_n 0, 1) := by decide +kernel
theorem dX12_takeJoin_17 : decode cX12_takeJoin 17 = .ok (.getfield 55, 3) := by decide +kernel
theorem dX12_takeJoin_20 : decode cX12_takeJoin 20 = .ok (.aload_n 0, 1) := by decide +kernel
theorem dX12_takeJoin_21 : decode cX12_takeJoin 21 = .ok (.getfield 67, 3) := by decide +kernel
theorem dX12_takeJoin_24 : decode cX12_takeJoin 24 = .ok (.aload_n 0, 1) := by decide +kernel
theorem dX12_takeJoin_25 : decode cX12_takeJoin 25 = .ok (.getfield 133, 3) := by decide +kernel
theorem dX12_takeJoin_28 : decode cX12_takeJoin 28 = .ok (.iaload, 1) := by decide +kernel
theorem dX12_takeJoin_29 : decode cX12_takeJoin 29 = .ok (.aload_n 0, 1) := by decide +kernel
theorem dX12_takeJoin_30 : decode cX12_takeJoin 30 = .ok (.getfield 130, 3) := by decide +kernel
theorem dX12_takeJoin_33 : decode cX12_takeJoin 33 = .ok (.iconst 1, 1) := by decide +kernel
theorem dX12_takeJoin_34 : decode cX12_takeJoin 34 = .ok (.isub, 1) := by decide +kernel
theorem dX12_takeJoin_35 : decode cX12_takeJoin 35 = .ok (.iastore, 1) := by decide +kernel
theorem dX12_takeJoin_36 : decode cX12_takeJoin 36 = .ok (.iconst 1, 1) := by decide +kernel
theorem dX12_takeJoin_37 : decode cX12_takeJoin 37 = .ok (.ireturn, 1) := by decide +kernel
theorem dX12_takeGuess_0 : decode cX12_takeGuess 0 = .ok (.aload_n 0, 1) := by decide +kernel
theorem dX12_takeGuess_1 : decode cX12_takeGuess 1 = .ok (.getfield 180, 3) := by decide +kernel
theorem dX12_takeGuess_4 : decode cX12_takeGuess 4 = .ok (.iconst 5, 1) := by decide +kernel
theorem dX12_takeGuess_5 : decode cX12_takeGuess 5 = .ok (.if_icmp .ne 5, 3) := by decide +kernel
theorem dX12_takeGuess_8 : decode cX12_takeGuess 8 = .ok (.iconst 0, 1) := by decide +kernel
theorem dX12_takeGuess_9 : decode cX12_takeGuess 9 = .ok (.ireturn, 1) := by decide +kernel
theorem dX12_takeGuess_10 : decode cX12_takeGuess 10 = .ok (.aload_n 0, 1) := by decide +kernel
theorem dX12_takeGuess_11 : decode cX12_takeGuess 11 = .ok (.dup, 1) := by decide +kernel
theorem dX12_takeGuess_12 : decode cX12_takeGuess 12 = .ok (.getfield 180, 3) := by decide +kernel
theorem dX12_takeGuess_15 : decode cX12_takeGuess 15 = .ok (.iconst 1, 1) := by decide +kernel
theorem dX12_takeGuess_16 : decode cX12_takeGuess 16 = .ok (.iadd, 1) := by decide +kernel
theorem dX12_takeGuess_17 : decode cX12_takeGuess 17 = .ok (.putfield 180, 3) := by decide +kernel
theorem dX12_takeGuess_20 : decode cX12_takeGuess 20 = .ok (.aload_n 0, 1) := by decide +kernel
theorem dX12_takeGuess_21 : decode cX12_takeGuess 21 = .ok (.iconst 3, 1) := by decide +kernel
theorem dX12_takeGuess_22 : decode cX12_takeGuess 22 = .ok (.putfield 144, 3) := by decide +kernel
theorem dX12_takeGuess_25 : decode cX12_takeGuess 25 = .ok (.iconst 1, 1) := by decide +kernel
theorem dX12_takeGuess_26 : decode cX12_takeGuess 26 = .ok (.ireturn, 1) := by decide +kernel
theorem dX12_takeDeed_0 : decode cX12_takeDeed 0 = .ok (.iload_n 1, 1) := by decide +kernel
theorem dX12_takeDeed_1 : decode cX12_takeDeed 1 = .ok (.bipush 61, 2) := by decide +kernel
theorem dX12_takeDeed_3 : decode cX12_takeDeed 3 = .ok (.if_icmp .ne 7, 3) := by decide +kernel
theorem dX12_takeDeed_6 : decode cX12_takeDeed 6 = .ok (.iconst 0, 1) := by decide +kernel
theorem dX12_takeDeed_7 : decode cX12_takeDeed 7 = .ok (.goto 35, 3) := by decide +kernel
theorem dX12_takeDeed_10 : decode cX12_takeDeed 10 = .ok (.iload_n 1, 1) := by decide +kernel
theorem dX12_takeDeed_11 : decode cX12_takeDeed 11 = .ok (.bipush 43, 2) := by decide +kernel
theorem dX12_takeDeed_13 : decode cX12_takeDeed 13 = .ok (.if_icmp .ne 7, 3) := by decide +kernel
theorem dX12_takeDeed_16 : decode cX12_takeDeed 16 = .ok (.iconst 1, 1) := by decide +kernel
theorem dX12_takeDeed_17 : decode cX12_takeDeed 17 = .ok (.goto 25, 3) := by decide +kernel
theorem dX12_takeDeed_20 : decode cX12_takeDeed 20 = .ok (.iload_n 1, 1) := by decide +kernel
theorem dX12_takeDeed_21 : decode cX12_takeDeed 21 = .ok (.bipush 45, 2) := by decide +kernel
theorem dX12_takeDeed_23 : decode cX12_takeDeed 23 = .ok (.if_icmp .ne 7, 3) := by decide +kernel
theorem dX12_takeDeed_26 : decode cX12_takeDeed 26 = .ok (.iconst 2, 1) := by decide +kernel
theorem dX12_takeDeed_27 : decode cX12_takeDeed 27 = .ok (.goto 15, 3) := by decide +kernel
theorem dX12_takeDeed_30 : decode cX12_takeDeed 30 = .ok (.iload_n 1, 1) := by decide +kernel
theorem dX12_takeDeed_31 : decode cX12_takeDeed 31 = .ok (.bipush 63, 2) := by decide +kernel
theorem dX12_takeDeed_33 : decode cX12_takeDeed 33 = .ok (.if_icmp .ne 7, 3) := by decide +kernel
theorem dX12_takeDeed_36 : decode cX12_takeDeed 36 = .ok (.iconst 3, 1) := by decide +kernel
theorem dX12_takeDeed_37 : decode cX12_takeDeed 37 = .ok (.goto 5, 3) := by decide +kernel
theorem dX12_takeDeed_40 : decode cX12_takeDeed 40 = .ok (.bipush (-9), 2) := by decide +kernel
theorem dX12_takeDeed_42 : decode cX12_takeDeed 42 = .ok (.istore_n 2, 1) := by decide +kernel
theorem dX12_takeDeed_43 : decode cX12_takeDeed 43 = .ok (.aload_n 0, 1) := by decide +kernel
theorem dX12_takeDeed_44 : decode cX12_takeDeed 44 = .ok (.getfield 40, 3) := by decide +kernel
theorem dX12_takeDeed_47 : decode cX12_takeDeed 47 = .ok (.aload_n 0, 1) := by decide +kernel
theorem dX12_takeDeed_48 : decode cX12_takeDeed 48 = .ok (.getfield 130, 3) := by decide +kernel
theorem dX12_takeDeed_51 : decode cX12_takeDeed 51 = .ok (.iconst 1, 1) := by decide +kernel
theorem dX12_takeDeed_52 : decode cX12_takeDeed 52 = .ok (.isub, 1) := by decide +kernel
theorem dX12_takeDeed_53 : decode cX12_takeDeed 53 = .ok (.iload_n 2, 1) := by decide +kernel
theorem dX12_takeDeed_54 : decode cX12_takeDeed 54 = .ok (.iastore, 1) := by decide +kernel
theorem dX12_takeDeed_55 : decode cX12_takeDeed 55 = .ok (.aload_n 0, 1) := by decide +kernel
theorem dX12_takeDeed_56 : decode cX12_takeDeed 56 = .ok (.iload_n 2, 1) := by decide +kernel
theorem dX12_takeDeed_57 : decode cX12_takeDeed 57 = .ok (.ifCond .ne 7, 3) := by decide +kernel
theorem dX12_takeDeed_60 : decode cX12_takeDeed 60 = .ok (.iconst 2, 1) := by decide +kernel
theorem dX12_takeDeed_61 : decode cX12_takeDeed 61 = .ok (.goto 4, 3) := by decide +kernel
theorem dX12_takeDeed_64 : decode cX12_takeDeed 64 = .ok (.iconst 0, 1) := by decide +kernel
theorem dX12_takeDeed_65 : decode cX12_takeDeed 65 = .ok (.putfield 144, 3) := by decide +kernel
theorem dX12_takeDeed_68 : decode cX12_takeDeed 68 = .ok (.iload_n 2, 1) := by decide +kernel
theorem dX12_takeDeed_69 : decode cX12_takeDeed 69 = .ok (.bipush (-9), 2) := by decide +kernel
theorem dX12_takeDeed_71 : decode cX12_takeDeed 71 = .ok (.if_icmp .eq 7, 3) := by decide +kernel
theorem dX12_takeDeed_74 : decode cX12_takeDeed 74 = .ok (.iconst 1, 1) := by decide +kernel
theorem dX12_takeDeed_75 : decode cX12_takeDeed 75 = .ok (.goto 4, 3) := by decide +kernel
theorem dX12_takeDeed_78 : decode cX12_takeDeed 78 = .ok (.iconst 0, 1) := by decide +kernel
theorem dX12_takeDeed_79 : decode cX12_takeDeed 79 = .ok (.ireturn, 1) := by decide +kernel
theorem dX12_takePart_0 : decode cX12_takePart 0 = .ok (.iload_n 1, 1) := by decide +kernel
theorem dX12_takePart_1 : decode cX12_takePart 1 = .ok (.ifCond .ne 10, 3) := by decide +kernel
theorem dX12_takePart_4 : decode cX12_takePart 4 = .ok (.iload_n 2, 1) := by decide +kernel
theorem dX12_takePart_5 : decode cX12_takePart 5 = .ok (.invokestatic 136, 3) := by decide +kernel
theorem dX12_takePart_8 : decode cX12_takePart 8 = .ok (.goto 28, 3) := by decide +kernel
theorem dX12_takePart_11 : decode cX12_takePart 11 = .ok (.iload_n 1, 1) := by decide +kernel
theorem dX12_takePart_12 : decode cX12_takePart 12 = .ok (.iconst 1, 1) := by decide +kernel
theorem dX12_takePart_13 : decode cX12_takePart 13 = .ok (.if_icmp .ne 19, 3) := by decide +kernel
theorem dX12_takePart_16 : decode cX12_takePart 16 = .ok (.iload_n 2, 1) := by decide +kernel
theorem dX12_takePart_17 : decode cX12_takePart 17 = .ok (.invokestatic 183, 3) := by decide +kernel
theorem dX12_takePart_20 : decode cX12_takePart 20 = .ok (.ifCond .eq 7, 3) := by decide +kernel
theorem dX12_takePart_23 : decode cX12_takePart 23 = .ok (.iload_n 2, 1) := by decide +kernel
theorem dX12_takePart_24 : decode cX12_takePart 24 = .ok (.goto 12, 3) := by decide +kernel
theorem dX12_takePart_27 : decode cX12_takePart 27 = .ok (.bipush (-9), 2) := by decide +kernel
theorem dX12_takePart_29 : decode cX12_takePart 29 = .ok (.goto 7, 3) := by decide +kernel
theorem dX12_takePart_32 : decode cX12_takePart 32 = .ok (.iload_n 2, 1) := by decide +kernel
theorem dX12_takePart_33 : decode cX12_takePart 33 = .ok (.invokestatic 186, 3) := by decide +kernel
theorem dX12_takePart_36 : decode cX12_takePart 36 = .ok (.istore_n 3, 1) := by decide +kernel
theorem dX12_takePart_37 : decode cX12_takePart 37 = .ok (.iload_n 3, 1) := by decide +kernel
theorem dX12_takePart_38 : decode cX12_takePart 38 = .ok (.bipush (-9), 2) := by decide +kernel
theorem dX12_takePart_40 : decode cX12_takePart 40 = .ok (.if_icmp .ne 5, 3) := by decide +kernel
theorem dX12_takePart_43 : decode cX12_takePart 43 = .ok (.iconst 0, 1) := by decide +kernel
theorem dX12_takePart_44 : decode cX12_takePart 44 = .ok (.ireturn, 1) := by decide +kernel
theorem dX12_takePart_45 : decode cX12_takePart 45 = .ok (.aload_n 0, 1) := by decide +kernel
theorem dX12_takePart_46 : decode cX12_takePart 46 = .ok (.getfield 180, 3) := by decide +kernel
theorem dX12_takePart_49 : decode cX12_takePart 49 = .ok (.ifCond .le 57, 3) := by decide +kernel
theorem dX12_takePart_52 : decode cX12_takePart 52 = .ok (.iload_n 1, 1) := by decide +kernel
theorem dX12_takePart_53 : decode cX12_takePart 53 = .ok (.ifCond .ne 18, 3) := by decide +kernel
theorem dX12_takePart_56 : decode cX12_takePart 56 = .ok (.aload_n 0, 1) := by decide +kernel
theorem dX12_takePart_57 : decode cX12_takePart 57 = .ok (.getfield 58, 3) := by decide +kernel
theorem dX12_takePart_60 : decode cX12_takePart 60 = .ok (.aload_n 0, 1) := by decide +kernel
theorem dX12_takePart_61 : decode cX12_takePart 61 = .ok (.getfield 180, 3) := by decide +kernel
theorem dX12_takePart_64 : decode cX12_takePart 64 = .ok (.iconst 1, 1) := by decide +kernel
theorem dX12_takePart_65 : decode cX12_takePart 65 = .ok (.isub, 1) := by decide +kernel
theorem dX12_takePart_66 : decode cX12_takePart 66 = .ok (.iload_n 3, 1) := by decide +kernel
theorem dX12_takePart_67 : decode cX12_takePart 67 = .ok (.iastore, 1) := by decide +kernel
theorem dX12_takePart_68 : decode cX12_takePart 68 = .ok (.goto 89, 3) := by decide +kernel
theorem dX12_takePart_71 : decode cX12_takePart 71 = .ok (.iload_n 1, 1) := by decide +kernel
theorem dX12_takePart_72 : decode cX12_takePart 72 = .ok (.iconst 1, 1) := by decide +kernel
theorem dX12_takePart_73 : decode cX12_takePart 73 = .ok (.if_icmp .ne 18, 3) := by decide +kernel
theorem dX12_takePart_76 : decode cX12_takePart 76 = .ok (.aload_n 0, 1) := by decide +kernel
theorem dX12_takePart_77 : decode cX12_takePart 77 = .ok (.getfield 61, 3) := by decide +kernel
theorem dX12_takePart_80 : decode cX12_takePart 80 = .ok (.aload_n 0, 1) := by decide +kernel
theorem dX12_takePart_81 : decode cX12_takePart 81 = .ok (.getfield 180, 3) := by decide +kernel
theorem dX12_takePart_84 : decode cX12_takePart 84 = .ok (.iconst 1, 1) := by decide +kernel
theorem dX12_takePart_85 : decode cX12_takePart 85 = .ok (.isub, 1) := by decide +kernel
theorem dX12_takePart_86 : decode cX12_takePart 86 = .ok (.iload_n 3, 1) := by decide +kernel
theorem dX12_takePart_87 : decode cX12_takePart 87 = .ok (.iastore, 1) := by decide +kernel
theorem dX12_takePart_88 : decode cX12_takePart 88 = .ok (.goto 69, 3) := by decide +kernel
theorem dX12_takePart_91 : decode cX12_takePart 91 = .ok (.aload_n 0, 1) := by decide +kernel
theorem dX12_takePart_92 : decode cX12_takePart 92 = .ok (.getfield 64, 3) := by decide +kernel
theorem dX12_takePart_95 : decode cX12_takePart 95 = .ok (.aload_n 0, 1) := by decide +kernel
theorem dX12_takePart_96 : decode cX12_takePart 96 = .ok (.getfield 180, 3) := by decide +kernel
theorem dX12_takePart_99 : decode cX12_takePart 99 = .ok (.iconst 1, 1) := by decide +kernel
theorem dX12_takePart_100 : decode cX12_takePart 100 = .ok (.isub, 1) := by decide +kernel
theorem dX12_takePart_101 : decode cX12_takePart 101 = .ok (.iload_n 3, 1) := by decide +kernel
theorem dX12_takePart_102 : decode cX12_takePart 102 = .ok (.iastore, 1) := by decide +kernel
theorem dX12_takePart_103 : decode cX12_takePart 103 = .ok (.goto 54, 3) := by decide +kernel
theorem dX12_takePart_106 : decode cX12_takePart 106 = .ok (.iload_n 1, 1) := by decide +kernel
theorem dX12_takePart_107 : decode cX12_takePart 107 = .ok (.ifCond .ne 18, 3) := by decide +kernel
theorem dX12_takePart_110 : decode cX12_takePart 110 = .ok (.aload_n 0, 1) := by decide +kernel
theorem dX12_takePart_111 : decode cX12_takePart 111 = .ok (.getfield 43, 3) := by decide +kernel
theorem dX12_takePart_114 : decode cX12_takePart 114 = .ok (.aload_n 0, 1) := by decide +kernel
theorem dX12_takePart_115 : decode cX12_takePart 115 = .ok (.getfield 130, 3) := by decide +kernel
theorem dX12_takePart_118 : decode cX12_takePart 118 = .ok (.iconst 1, 1) := by decide +kernel
theorem dX12_takePart_119 : decode cX12_takePart 119 = .ok (.isub, 1) := by decide +kernel
theorem dX12_takePart_120 : decode cX12_takePart 120 = .ok (.iload_n 3, 1) := by decide +kernel
theorem dX12_takePart_121 : decode cX12_takePart 121 = .ok (.iastore, 1) := by decide +kernel
theorem dX12_takePart_122 : decode cX12_takePart 122 = .ok (.goto 35, 3) := by decide +kernel
theorem dX12_takePart_125 : decode cX12_takePart 125 = .ok (.iload_n 1, 1) := by decide +kernel
theorem dX12_takePart_126 : decode cX12_takePart 126 = .ok (.iconst 1, 1) := by decide +kernel
theorem dX12_takePart_127 : decode cX12_takePart 127 = .ok (.if_icmp .ne 18, 3) := by decide +kernel
theorem dX12_takePart_130 : decode cX12_takePart 130 = .ok (.aload_n 0, 1) := by decide +kernel
theorem dX12_takePart_131 : decode cX12_takePart 131 = .ok (.getfield 46, 3) := by decide +kernel
theorem dX12_takePart_134 : decode cX12_takePart 134 = .ok (.aload_n 0, 1) := by decide +kernel
theorem dX12_takePart_135 : decode cX12_takePart 135 = .ok (.getfield 130, 3) := by decide +kernel
theorem dX12_takePart_138 : decode cX12_takePart 138 = .ok (.iconst 1, 1) := by decide +kernel
theorem dX12_takePart_139 : decode cX12_takePart 139 = .ok (.isub, 1) := by decide +kernel
theorem dX12_takePart_140 : decode cX12_takePart 140 = .ok (.iload_n 3, 1) := by decide +kernel
theorem dX12_takePart_141 : decode cX12_takePart 141 = .ok (.iastore, 1) := by decide +kernel
theorem dX12_takePart_142 : decode cX12_takePart 142 = .ok (.goto 15, 3) := by decide +kernel
theorem dX12_takePart_145 : decode cX12_takePart 145 = .ok (.aload_n 0, 1) := by decide +kernel
theorem dX12_takePart_146 : decode cX12_takePart 146 = .ok (.getfield 49, 3) := by decide +kernel
theorem dX12_takePart_149 : decode cX12_takePart 149 = .ok (.aload_n 0, 1) := by decide +kernel
theorem dX12_takePart_150 : decode cX12_takePart 150 = .ok (.getfield 130, 3) := by decide +kernel
theorem dX12_takePart_153 : decode cX12_takePart 153 = .ok (.iconst 1, 1) := by decide +kernel
theorem dX12_takePart_154 : decode cX12_takePart 154 = .ok (.isub, 1) := by decide +kernel
theorem dX12_takePart_155 : decode cX12_takePart 155 = .ok (.iload_n 3, 1) := by decide +kernel
theorem dX12_takePart_156 : decode cX12_takePart 156 = .ok (.iastore, 1) := by decide +kernel
theorem dX12_takePart_157 : decode cX12_takePart 157 = .ok (.aload_n 0, 1) := by decide +kernel
theorem dX12_takePart_158 : decode cX12_takePart 158 = .ok (.iload_n 1, 1) := by decide +kernel
theorem dX12_takePart_159 : decode cX12_takePart 159 = .ok (.ifCond .ne 7, 3) := by decide +kernel
theorem dX12_takePart_162 : decode cX12_takePart 162 = .ok (.iconst 4, 1) := by decide +kernel
theorem dX12_takePart_163 : decode cX12_takePart 163 = .ok (.goto 25, 3) := by decide +kernel
theorem dX12_takePart_166 : decode cX12_takePart 166 = .ok (.iload_n 1, 1) := by decide +kernel
theorem dX12_takePart_167 : decode cX12_takePart 167 = .ok (.iconst 1, 1) := by decide +kernel
theorem dX12_takePart_168 : decode cX12_takePart 168 = .ok (.if_icmp .ne 7, 3) := by decide +kernel
theorem dX12_takePart_171 : decode cX12_takePart 171 = .ok (.iconst 5, 1) := by decide +kernel
theorem dX12_takePart_172 : decode cX12_takePart 172 = .ok (.goto 16, 3) := by decide +kernel
theorem dX12_takePart_175 : decode cX12_takePart 175 = .ok (.aload_n 0, 1) := by decide +kernel
theorem dX12_takePart_176 : decode cX12_takePart 176 = .ok (.getfield 180, 3) := by decide +kernel
theorem dX12_takePart_179 : decode cX12_takePart 179 = .ok (.ifCond .le 8, 3) := by decide +kernel
theorem dX12_takePart_182 : decode cX12_takePart 182 = .ok (.bipush 6, 2) := by decide +kernel
theorem dX12_takePart_184 : decode cX12_takePart 184 = .ok (.goto 4, 3) := by decide +kernel
theorem dX12_takePart_187 : decode cX12_takePart 187 = .ok (.iconst 0, 1) := by decide +kernel
theorem dX12_takePart_188 : decode cX12_takePart 188 = .ok (.putfield 144, 3) := by decide +kernel
theorem dX12_takePart_191 : decode cX12_takePart 191 = .ok (.iconst 1, 1) := by decide +kernel
theorem dX12_takePart_192 : decode cX12_takePart 192 = .ok (.ireturn, 1) := by decide +kernel
theorem dX12_take_0 : decode cX12_take 0 = .ok (.aload_n 0, 1) := by decide +kernel
theorem dX12_take_1 : decode cX12_take 1 = .ok (.getfield 144, 3) := by decide +kernel
theorem dX12_take_4 : decode cX12_take 4 = .ok (.tableswitch 108 0 5 #[40, 46, 52, 87, 94, 101], 40) := by decide +kernel
theorem dX12_take_44 : decode cX12_take 44 = .ok (.aload_n 0, 1) := by decide +kernel
theorem dX12_take_45 : decode cX12_take 45 = .ok (.iload_n 1, 1) := by decide +kernel
theorem dX12_take_46 : decode cX12_take 46 = .ok (.invokevirtual 189, 3) := by decide +kernel
theorem dX12_take_49 : decode cX12_take 49 = .ok (.ireturn, 1) := by decide +kernel
theorem dX12_take_50 : decode cX12_take 50 = .ok (.aload_n 0, 1) := by decide +kernel
theorem dX12_take_51 : decode cX12_take 51 = .ok (.iload_n 1, 1) := by decide +kernel
theorem dX12_take_52 : decode cX12_take 52 = .ok (.invokevirtual 192, 3) := by decide +kernel
theorem dX12_take_55 : decode cX12_take 55 = .ok (.ireturn, 1) := by decide +kernel
theorem dX12_take_56 : decode cX12_take 56 = .ok (.aload_n 0, 1) := by decide +kernel
theorem dX12_take_57 : decode cX12_take 57 = .ok (.getfield 49, 3) := by decide +kernel
theorem dX12_take_60 : decode cX12_take 60 = .ok (.aload_n 0, 1) := by decide +kernel
theorem dX12_take_61 : decode cX12_take 61 = .ok (.getfield 130, 3) := by decide +kernel
theorem dX12_take_64 : decode cX12_take 64 = .ok (.iconst 1, 1) := by decide +kernel
theorem dX12_take_65 : decode cX12_take 65 = .ok (.isub, 1) := by decide +kernel
theorem dX12_take_66 : decode cX12_take 66 = .ok (.iload_n 1, 1) := by decide +kernel
theorem dX12_take_67 : decode cX12_take 67 = .ok (.invokestatic 186, 3) := by decide +kernel
theorem dX12_take_70 : decode cX12_take 70 = .ok (.iastore, 1) := by decide +kernel
theorem dX12_take_71 : decode cX12_take 71 = .ok (.aload_n 0, 1) := by decide +kernel
theorem dX12_take_72 : decode cX12_take 72 = .ok (.iconst 0, 1) := by decide +kernel
theorem dX12_take_73 : decode cX12_take 73 = .ok (.putfield 144, 3) := by decide +kernel
theorem dX12_take_76 : decode cX12_take 76 = .ok (.iload_n 1, 1) := by decide +kernel
theorem dX12_take_77 : decode cX12_take 77 = .ok (.invokestatic 186, 3) := by decide +kernel
theorem dX12_take_80 : decode cX12_take 80 = .ok (.bipush (-9), 2) := by decide +kernel
theorem dX12_take_82 : decode cX12_take 82 = .ok (.if_icmp .eq 7, 3) := by decide +kernel
theorem dX12_take_85 : decode cX12_take 85 = .ok (.iconst 1, 1) := by decide +kernel
theorem dX12_take_86 : decode cX12_take 86 = .ok (.goto 4, 3) := by decide +kernel
theorem dX12_take_89 : decode cX12_take 89 = .ok (.iconst 0, 1) := by decide +kernel
theorem dX12_take_90 : decode cX12_take 90 = .ok (.ireturn, 1) := by decide +kernel
theorem dX12_take_91 : decode cX12_take 91 = .ok (.aload_n 0, 1) := by decide +kernel
theorem dX12_take_92 : decode cX12_take 92 = .ok (.iconst 0, 1) := by decide +kernel
theorem dX12_take_93 : decode cX12_take 93 = .ok (.iload_n 1, 1) := by decide +kernel
theorem dX12_take_94 : decode cX12_take 94 = .ok (.invokevirtual 195, 3) := by decide +kernel
theorem dX12_take_97 : decode cX12_take 97 = .ok (.ireturn, 1) := by decide +kernel
theorem dX12_take_98 : decode cX12_take 98 = .ok (.aload_n 0, 1) := by decide +kernel
theorem dX12_take_99 : decode cX12_take 99 = .ok (.iconst 1, 1) := by decide +kernel
theorem dX12_take_100 : decode cX12_take 100 = .ok (.iload_n 1, 1) := by decide +kernel
theorem dX12_take_101 : decode cX12_take 101 = .ok (.invokevirtual 195, 3) := by decide +kernel
theorem dX12_take_104 : decode cX12_take 104 = .ok (.ireturn, 1) := by decide +kernel
theorem dX12_take_105 : decode cX12_take 105 = .ok (.aload_n 0, 1) := by decide +kernel
theorem dX12_take_106 : decode cX12_take 106 = .ok (.iconst 2, 1) := by decide +kernel
theorem dX12_take_107 : decode cX12_take 107 = .ok (.iload_n 1, 1) := by decide +kernel
theorem dX12_take_108 : decode cX12_take 108 = .ok (.invokevirtual 195, 3) := by decide +kernel
theorem dX12_take_111 : decode cX12_take 111 = .ok (.ireturn, 1) := by decide +kernel
theorem dX12_take_112 : decode cX12_take 112 = .ok (.iload_n 1, 1) := by decide +kernel
theorem dX12_take_113 : decode cX12_take 113 = .ok (.bipush 59, 2) := by decide +kernel
theorem dX12_take_115 : decode cX12_take 115 = .ok (.if_icmp .ne 14, 3) := by decide +kernel
theorem dX12_take_118 : decode cX12_take 118 = .ok (.aload_n 0, 1) := by decide +kernel
theorem dX12_take_119 : decode cX12_take 119 = .ok (.invokevirtual 177, 3) := by decide +kernel
theorem dX12_take_122 : decode cX12_take 122 = .ok (.ifCond .eq 7, 3) := by decide +kernel
theorem dX12_take_125 : decode cX12_take 125 = .ok (.iconst 1, 1) := by decide +kernel
theorem dX12_take_126 : decode cX12_take 126 = .ok (.goto 4, 3) := by decide +kernel
theorem dX12_take_129 : decode cX12_take 129 = .ok (.iconst 0, 1) := by decide +kernel
theorem dX12_take_130 : decode cX12_take 130 = .ok (.ireturn, 1) := by decide +kernel
theorem dX12_readText_0 : decode cX12_readText 0 = .ok (.aload_n 0, 1) := by decide +kernel
theorem dX12_readText_1 : decode cX12_readText 1 = .ok (.iconst 0, 1) := by decide +kernel
theorem dX12_readText_2 : decode cX12_readText 2 = .ok (.putfield 130, 3) := by decide +kernel
theorem dX12_readText_5 : decode cX12_readText 5 = .ok (.aload_n 0, 1) := by decide +kernel
theorem dX12_readText_6 : decode cX12_readText 6 = .ok (.iconst 0, 1) := by decide +kernel
theorem dX12_readText_7 : decode cX12_readText 7 = .ok (.putfield 151, 3) := by decide +kernel
theorem dX12_readText_10 : decode cX12_readText 10 = .ok (.aload_n 0, 1) := by decide +kernel
theorem dX12_readText_11 : decode cX12_readText 11 = .ok (.iconst 0, 1) := by decide +kernel
theorem dX12_readText_12 : decode cX12_readText 12 = .ok (.putfield 154, 3) := by decide +kernel
theorem dX12_readText_15 : decode cX12_readText 15 = .ok (.aload_n 0, 1) := by decide +kernel
theorem dX12_readText_16 : decode cX12_readText 16 = .ok (.iconst 0, 1) := by decide +kernel
theorem dX12_readText_17 : decode cX12_readText 17 = .ok (.putfield 157, 3) := by decide +kernel
theorem dX12_readText_20 : decode cX12_readText 20 = .ok (.aload_n 0, 1) := by decide +kernel
theorem dX12_readText_21 : decode cX12_readText 21 = .ok (.iconst 0, 1) := by decide +kernel
theorem dX12_readText_22 : decode cX12_readText 22 = .ok (.putfield 180, 3) := by decide +kernel
theorem dX12_readText_25 : decode cX12_readText 25 = .ok (.aload_n 0, 1) := by decide +kernel
theorem dX12_readText_26 : decode cX12_readText 26 = .ok (.iconst 0, 1) := by decide +kernel
theorem dX12_readText_27 : decode cX12_readText 27 = .ok (.putfield 133, 3) := by decide +kernel
theorem dX12_readText_30 : decode cX12_readText 30 = .ok (.aload_n 0, 1) := by decide +kernel
theorem dX12_readText_31 : decode cX12_readText 31 = .ok (.iconst 0, 1) := by decide +kernel
theorem dX12_readText_32 : decode cX12_readText 32 = .ok (.putfield 144, 3) := by decide +kernel
theorem dX12_readText_35 : decode cX12_readText 35 = .ok (.iconst 0, 1) := by decide +kernel
theorem dX12_readText_36 : decode cX12_readText 36 = .ok (.istore_n 1, 1) := by decide +kernel
theorem dX12_readText_37 : decode cX12_readText 37 = .ok (.iload_n 1, 1) := by decide +kernel
theorem dX12_readText_38 : decode cX12_readText 38 = .ok (.aload_n 0, 1) := by decide +kernel
theorem dX12_readText_39 : decode cX12_readText 39 = .ok (.getfield 118, 3) := by decide +kernel
theorem dX12_readText_42 : decode cX12_readText 42 = .ok (.if_icmp .ge 24, 3) := by decide +kernel
theorem dX12_readText_45 : decode cX12_readText 45 = .ok (.aload_n 0, 1) := by decide +kernel
theorem dX12_readText_46 : decode cX12_readText 46 = .ok (.aload_n 0, 1) := by decide +kernel
theorem dX12_readText_47 : decode cX12_readText 47 = .ok (.getfield 7, 3) := by decide +kernel
theorem dX12_readText_50 : decode cX12_readText 50 = .ok (.iload_n 1, 1) := by decide +kernel
theorem dX12_readText_51 : decode cX12_readText 51 = .ok (.iaload, 1) := by decide +kernel
theorem dX12_readText_52 : decode cX12_readText 52 = .ok (.invokevirtual 199, 3) := by decide +kernel
theorem dX12_readText_55 : decode cX12_readText 55 = .ok (.ifCond .ne 5, 3) := by decide +kernel
theorem dX12_readText_58 : decode cX12_readText 58 = .ok (.iload_n 1, 1) := by decide +kernel
theorem dX12_readText_59 : decode cX12_readText 59 = .ok (.ireturn, 1) := by decide +kernel
theorem dX12_readText_60 : decode cX12_readText 60 = .ok (.iinc 1 1, 3) := by decide +kernel
theorem dX12_readText_63 : decode cX12_readText 63 = .ok (.goto (-26), 3) := by decide +kernel
theorem dX12_readText_66 : decode cX12_readText 66 = .ok (.aload_n 0, 1) := by decide +kernel
theorem dX12_readText_67 : decode cX12_readText 67 = .ok (.getfield 144, 3) := by decide +kernel
theorem dX12_readText_70 : decode cX12_readText 70 = .ok (.bipush 6, 2) := by decide +kernel
theorem dX12_readText_72 : decode cX12_readText 72 = .ok (.if_icmp .eq 17, 3) := by decide +kernel
theorem dX12_readText_75 : decode cX12_readText 75 = .ok (.aload_n 0, 1) := by decide +kernel
theorem dX12_readText_76 : decode cX12_readText 76 = .ok (.getfield 144, 3) := by decide +kernel
theorem dX12_readText_79 : decode cX12_readText 79 = .ok (.ifCond .ne 15, 3) := by decide +kernel
theorem dX12_readText_82 : decode cX12_readText 82 = .ok (.aload_n 0, 1) := by decide +kernel
theorem dX12_readText_83 : decode cX12_readText 83 = .ok (.getfield 133, 3) := by decide +kernel
theorem dX12_readText_86 : decode cX12_readText 86 = .ok (.ifCond .ne 8, 3) := by decide +kernel
theorem dX12_readText_89 : decode cX12_readText 89 = .ok (.bipush (-9), 2) := by decide +kernel
theorem dX12_readText_91 : decode cX12_readText 91 = .ok (.goto 7, 3) := by decide +kernel
theorem dX12_readText_94 : decode cX12_readText 94 = .ok (.aload_n 0, 1) := by decide +kernel
theorem dX12_readText_95 : decode cX12_readText 95 = .ok (.getfield 118, 3) := by decide +kernel
theorem dX12_readText_98 : decode cX12_readText 98 = .ok (.ireturn, 1) := by decide +kernel
theorem dX12_fault_0 : decode cX12_fault 0 = .ok (.aload_n 0, 1) := by decide +kernel
theorem dX12_fault_1 : decode cX12_fault 1 = .ok (.invokevirtual 202, 3) := by decide +kernel
theorem dX12_fault_4 : decode cX12_fault 4 = .ok (.ireturn, 1) := by decide +kernel
theorem dX12_program_0 : decode cX12_program 0 = .ok (.aload_n 0, 1) := by decide +kernel
theorem dX12_program_1 : decode cX12_program 1 = .ok (.invokevirtual 202, 3) := by decide +kernel
theorem dX12_program_4 : decode cX12_program 4 = .ok (.bipush (-9), 2) := by decide +kernel
theorem dX12_program_6 : decode cX12_program 6 = .ok (.if_icmp .eq 6, 3) := by decide +kernel
theorem dX12_program_9 : decode cX12_program 9 = .ok (.bipush (-3), 2) := by decide +kernel
theorem dX12_program_11 : decode cX12_program 11 = .ok (.ireturn, 1) := by decide +kernel
theorem dX12_program_12 : decode cX12_program 12 = .ok (.aload_n 0, 1) := by decide +kernel
theorem dX12_program_13 : decode cX12_program 13 = .ok (.aload_n 0, 1) := by decide +kernel
theorem dX12_program_14 : decode cX12_program 14 = .ok (.getfield 130, 3) := by decide +kernel
theorem dX12_program_17 : decode cX12_program 17 = .ok (.putfield 205, 3) := by decide +kernel
theorem dX12_program_20 : decode cX12_program 20 = .ok (.aload_n 0, 1) := by decide +kernel
theorem dX12_program_21 : decode cX12_program 21 = .ok (.aload_n 0, 1) := by decide +kernel
theorem dX12_program_22 : decode cX12_program 22 = .ok (.getfield 151, 3) := by decide +kernel
theorem dX12_program_25 : decode cX12_program 25 = .ok (.putfield 208, 3) := by decide +kernel
theorem dX12_program_28 : decode cX12_program 28 = .ok (.aload_n 0, 1) := by decide +kernel
theorem dX12_program_29 : decode cX12_program 29 = .ok (.aload_n 0, 1) := by decide +kernel
theorem dX12_program_30 : decode cX12_program 30 = .ok (.getfield 154, 3) := by decide +kernel
theorem dX12_program_33 : decode cX12_program 33 = .ok (.putfield 211, 3) := by decide +kernel
theorem dX12_program_36 : decode cX12_program 36 = .ok (.aload_n 0, 1) := by decide +kernel
theorem dX12_program_37 : decode cX12_program 37 = .ok (.aload_n 0, 1) := by decide +kernel
theorem dX12_program_38 : decode cX12_program 38 = .ok (.getfield 157, 3) := by decide +kernel
theorem dX12_program_41 : decode cX12_program 41 = .ok (.putfield 214, 3) := by decide +kernel
theorem dX12_program_44 : decode cX12_program 44 = .ok (.aload_n 0, 1) := by decide +kernel
theorem dX12_program_45 : decode cX12_program 45 = .ok (.aload_n 0, 1) := by decide +kernel
theorem dX12_program_46 : decode cX12_program 46 = .ok (.getfield 180, 3) := by decide +kernel
theorem dX12_program_49 : decode cX12_program 49 = .ok (.putfield 217, 3) := by decide +kernel
theorem dX12_program_52 : decode cX12_program 52 = .ok (.iconst 0, 1) := by decide +kernel
theorem dX12_program_53 : decode cX12_program 53 = .ok (.istore_n 1, 1) := by decide +kernel
theorem dX12_program_54 : decode cX12_program 54 = .ok (.iconst 0, 1) := by decide +kernel
theorem dX12_program_55 : decode cX12_program 55 = .ok (.istore_n 2, 1) := by decide +kernel
theorem dX12_program_56 : decode cX12_program 56 = .ok (.iload_n 2, 1) := by decide +kernel
theorem dX12_program_57 : decode cX12_program 57 = .ok (.aload_n 0, 1) := by decide +kernel
theorem dX12_program_58 : decode cX12_program 58 = .ok (.getfield 205, 3) := by decide +kernel
theorem dX12_program_61 : decode cX12_program 61 = .ok (.if_icmp .ge 101, 3) := by decide +kernel
theorem dX12_program_64 : decode cX12_program 64 = .ok (.aload_n 0, 1) := by decide +kernel
theorem dX12_program_65 : decode cX12_program 65 = .ok (.getfield 13, 3) := by decide +kernel
theorem dX12_program_68 : decode cX12_program 68 = .ok (.iload_n 2, 1) := by decide +kernel
theorem dX12_program_69 : decode cX12_program 69 = .ok (.aload_n 0, 1) := by decide +kernel
theorem dX12_program_70 : decode cX12_program 70 = .ok (.getfield 40, 3) := by decide +kernel
theorem dX12_program_73 : decode cX12_program 73 = .ok (.iload_n 2, 1) := by decide +kernel
theorem dX12_program_74 : decode cX12_program 74 = .ok (.iaload, 1) := by decide +kernel
theorem dX12_program_75 : decode cX12_program 75 = .ok (.iastore, 1) := by decide +kernel
theorem dX12_program_76 : decode cX12_program 76 = .ok (.aload_n 0, 1) := by decide +kernel
theorem dX12_program_77 : decode cX12_program 77 = .ok (.getfield 16, 3) := by decide +kernel
theorem dX12_program_80 : decode cX12_program 80 = .ok (.iload_n 2, 1) := by decide +kernel
theorem dX12_program_81 : decode cX12_program 81 = .ok (.aload_n 0, 1) := by decide +kernel
theorem dX12_program_82 : decode cX12_program 82 = .ok (.getfield 43, 3) := by decide +kernel
theorem dX12_program_85 : decode cX12_program 85 = .ok (.iload_n 2, 1) := by decide +kernel
theorem dX12_program_86 : decode cX12_program 86 = .ok (.iaload, 1) := by decide +kernel
theorem dX12_program_87 : decode cX12_program 87 = .ok (.iastore, 1) := by decide +kernel
theorem dX12_program_88 : decode cX12_program 88 = .ok (.aload_n 0, 1) := by decide +kernel
theorem dX12_program_89 : decode cX12_program 89 = .ok (.getfield 19, 3) := by decide +kernel
theorem dX12_program_92 : decode cX12_program 92 = .ok (.iload_n 2, 1) := by decide +kernel
theorem dX12_program_93 : decode cX12_program 93 = .ok (.aload_n 0, 1) := by decide +kernel
theorem dX12_program_94 : decode cX12_program 94 = .ok (.getfield 46, 3) := by decide +kernel
theorem dX12_program_97 : decode cX12_program 97 = .ok (.iload_n 2, 1) := by decide +kernel
theorem dX12_program_98 : decode cX12_program 98 = .ok (.iaload, 1) := by decide +kernel
theorem dX12_program_99 : decode cX12_program 99 = .ok (.iastore, 1) := by decide +kernel
theorem dX12_program_100 : decode cX12_program 100 = .ok (.aload_n 0, 1) := by decide +kernel
theorem dX12_program_101 : decode cX12_program 101 = .ok (.getfield 22, 3) := by decide +kernel
theorem dX12_program_104 : decode cX12_program 104 = .ok (.iload_n 2, 1) := by decide +kernel
theorem dX12_program_105 : decode cX12_program 105 = .ok (.aload_n 0, 1) := by decide +kernel
theorem dX12_program_106 : decode cX12_program 106 = .ok (.getfield 49, 3) := by decide +kernel
theorem dX12_program_109 : decode cX12_program 109 = .ok (.iload_n 2, 1) := by decide +kernel
theorem dX12_program_110 : decode cX12_program 110 = .ok (.iaload, 1) := by decide +kernel
theorem dX12_program_111 : decode cX12_program 111 = .ok (.iastore, 1) := by decide +kernel
theorem dX12_program_112 : decode cX12_program 112 = .ok (.aload_n 0, 1) := by decide +kernel
theorem dX12_program_113 : decode cX12_program 113 = .ok (.getfield 25, 3) := by decide +kernel
theorem dX12_program_116 : decode cX12_program 116 = .ok (.iload_n 2, 1) := by decide +kernel
theorem dX12_program_117 : decode cX12_program 117 = .ok (.aload_n 0, 1) := by decide +kernel
theorem dX12_program_118 : decode cX12_program 118 = .ok (.getfield 52, 3) := by decide +kernel
theorem dX12_program_121 : decode cX12_program 121 = .ok (.iload_n 2, 1) := by decide +kernel
theorem dX12_program_122 : decode cX12_program 122 = .ok (.iaload, 1) := by decide +kernel
theorem dX12_program_123 : decode cX12_program 123 = .ok (.iastore, 1) := by decide +kernel
theorem dX12_program_124 : decode cX12_program 124 = .ok (.aload_n 0, 1) := by decide +kernel
theorem dX12_program_125 : decode cX12_program 125 = .ok (.getfield 28, 3) := by decide +kernel
theorem dX12_program_128 : decode cX12_program 128 = .ok (.iload_n 2, 1) := by decide +kernel
theorem dX12_program_129 : decode cX12_program 129 = .ok (.aload_n 0, 1) := by decide +kernel
theorem dX12_program_130 : decode cX12_program 130 = .ok (.getfield 55, 3) := by decide +kernel
theorem dX12_program_133 : decode cX12_program 133 = .ok (.iload_n 2, 1) := by decide +kernel
theorem dX12_program_134 : decode cX12_program 134 = .ok (.iaload, 1) := by decide +kernel
theorem dX12_program_135 : decode cX12_program 135 = .ok (.iastore, 1) := by decide +kernel
theorem dX12_program_136 : decode cX12_program 136 = .ok (.iload_n 1, 1) := by decide +kernel
theorem dX12_program_137 : decode cX12_program 137 = .ok (.aload_n 0, 1) := by decide +kernel
theorem dX12_program_138 : decode cX12_program 138 = .ok (.getfield 13, 3) := by decide +kernel
theorem dX12_program_141 : decode cX12_program 141 = .ok (.iload_n 2, 1) := by decide +kernel
theorem dX12_program_142 : decode cX12_program 142 = .ok (.iaload, 1) := by decide +kernel
theorem dX12_program_143 : decode cX12_program 143 = .ok (.invokestatic 220, 3) := by decide +kernel
theorem dX12_program_146 : decode cX12_program 146 = .ok (.ifCond .eq 7, 3) := by decide +kernel
theorem dX12_program_149 : decode cX12_program 149 = .ok (.iconst 1, 1) := by decide +kernel
theorem dX12_program_150 : decode cX12_program 150 = .ok (.goto 4, 3) := by decide +kernel
theorem dX12_program_153 : decode cX12_program 153 = .ok (.iconst 0, 1) := by decide +kernel
theorem dX12_program_154 : decode cX12_program 154 = .ok (.iadd, 1) := by decide +kernel
theorem dX12_program_155 : decode cX12_program 155 = .ok (.istore_n 1, 1) := by decide +kernel
theorem dX12_program_156 : decode cX12_program 156 = .ok (.iinc 2 1, 3) := by decide +kernel
theorem dX12_program_159 : decode cX12_program 159 = .ok (.goto (-103), 3) := by decide +kernel
theorem dX12_program_162 : decode cX12_program 162 = .ok (.iconst 0, 1) := by decide +kernel
theorem dX12_program_163 : decode cX12_program 163 = .ok (.istore_n 2, 1) := by decide +kernel
theorem dX12_program_164 : decode cX12_program 164 = .ok (.iload_n 2, 1) := by decide +kernel
theorem dX12_program_165 : decode cX12_program 165 = .ok (.aload_n 0, 1) := by decide +kernel
theorem dX12_program_166 : decode cX12_program 166 = .ok (.getfield 217, 3) := by decide +kernel
theorem dX12_program_169 : decode cX12_program 169 = .ok (.if_icmp .ge 45, 3) := by decide +kernel
theorem dX12_program_172 : decode cX12_program 172 = .ok (.aload_n 0, 1) := by decide +kernel
theorem dX12_program_173 : decode cX12_program 173 = .ok (.getfield 31, 3) := by decide +kernel
theorem dX12_program_176 : decode cX12_program 176 = .ok (.iload_n 2, 1) := by decide +kernel
theorem dX12_program_177 : decode cX12_program 177 = .ok (.aload_n 0, 1) := by decide +kernel
theorem dX12_program_178 : decode cX12_program 178 = .ok (.getfield 58, 3) := by decide +kernel
theorem dX12_program_181 : decode cX12_program 181 = .ok (.iload_n 2, 1) := by decide +kernel
theorem dX12_program_182 : decode cX12_program 182 = .ok (.iaload, 1) := by decide +kernel
theorem dX12_program_183 : decode cX12_program 183 = .ok (.iastore, 1) := by decide +kernel
theorem dX12_program_184 : decode cX12_program 184 = .ok (.aload_n 0, 1) := by decide +kernel
theorem dX12_program_185 : decode cX12_program 185 = .ok (.getfield 34, 3) := by decide +kernel
theorem dX12_program_188 : decode cX12_program 188 = .ok (.iload_n 2, 1) := by decide +kernel
theorem dX12_program_189 : decode cX12_program 189 = .ok (.aload_n 0, 1) := by decide +kernel
theorem dX12_program_190 : decode cX12_program 190 = .ok (.getfield 61, 3) := by decide +kernel
theorem dX12_program_193 : decode cX12_program 193 = .ok (.iload_n 2, 1) := by decide +kernel
theorem dX12_program_194 : decode cX12_program 194 = .ok (.iaload, 1) := by decide +kernel
theorem dX12_program_195 : decode cX12_program 195 = .ok (.iastore, 1) := by decide +kernel
theorem dX12_program_196 : decode cX12_program 196 = .ok (.aload_n 0, 1) := by decide +kernel
theorem dX12_program_197 : decode cX12_program 197 = .ok (.getfield 37, 3) := by decide +kernel
theorem dX12_program_200 : decode cX12_program 200 = .ok (.iload_n 2, 1) := by decide +kernel
theorem dX12_program_201 : decode cX12_program 201 = .ok (.aload_n 0, 1) := by decide +kernel
theorem dX12_program_202 : decode cX12_program 202 = .ok (.getfield 64, 3) := by decide +kernel
theorem dX12_program_205 : decode cX12_program 205 = .ok (.iload_n 2, 1) := by decide +kernel
theorem dX12_program_206 : decode cX12_program 206 = .ok (.iaload, 1) := by decide +kernel
theorem dX12_program_207 : decode cX12_program 207 = .ok (.iastore, 1) := by decide +kernel
theorem dX12_program_208 : decode cX12_program 208 = .ok (.iinc 2 1, 3) := by decide +kernel
theorem dX12_program_211 : decode cX12_program 211 = .ok (.goto (-47), 3) := by decide +kernel
theorem dX12_program_214 : decode cX12_program 214 = .ok (.iconst 0, 1) := by decide +kernel
theorem dX12_program_215 : decode cX12_program 215 = .ok (.istore_n 2, 1) := by decide +kernel
theorem dX12_program_216 : decode cX12_program 216 = .ok (.iload_n 2, 1) := by decide +kernel
theorem dX12_program_217 : decode cX12_program 217 = .ok (.iconst 3, 1) := by decide +kernel
theorem dX12_program_218 : decode cX12_program 218 = .ok (.if_icmp .ge 17, 3) := by decide +kernel
theorem dX12_program_221 : decode cX12_program 221 = .ok (.aload_n 0, 1) := by decide +kernel
theorem dX12_program_222 : decode cX12_program 222 = .ok (.getfield 70, 3) := by decide +kernel
theorem dX12_program_225 : decode cX12_program 225 = .ok (.iload_n 2, 1) := by decide +kernel
theorem dX12_program_226 : decode cX12_program 226 = .ok (.bipush 6, 2) := by decide +kernel
theorem dX12_program_228 : decode cX12_program 228 = .ok (.iastore, 1) := by decide +kernel
theorem dX12_program_229 : decode cX12_program 229 = .ok (.iinc 2 1, 3) := by decide +kernel
theorem dX12_program_232 : decode cX12_program 232 = .ok (.goto (-16), 3) := by decide +kernel
theorem dX12_program_235 : decode cX12_program 235 = .ok (.aload_n 0, 1) := by decide +kernel
theorem dX12_program_236 : decode cX12_program 236 = .ok (.getfield 70, 3) := by decide +kernel
theorem dX12_program_239 : decode cX12_program 239 = .ok (.iconst 3, 1) := by decide +kernel
theorem dX12_program_240 : decode cX12_program 240 = .ok (.iconst 0, 1) := by decide +kernel
theorem dX12_program_241 : decode cX12_program 241 = .ok (.iastore, 1) := by decide +kernel
theorem dX12_program_242 : decode cX12_program 242 = .ok (.aload_n 0, 1) := by decide +kernel
theorem dX12_program_243 : decode cX12_program 243 = .ok (.iconst 0, 1) := by decide +kernel
theorem dX12_program_244 : decode cX12_program 244 = .ok (.putfield 223, 3) := by decide +kernel
theorem dX12_program_247 : decode cX12_program 247 = .ok (.aload_n 0, 1) := by decide +kernel
theorem dX12_program_248 : decode cX12_program 248 = .ok (.getfield 82, 3) := by decide +kernel
theorem dX12_program_251 : decode cX12_program 251 = .ok (.iconst 0, 1) := by decide +kernel
theorem dX12_program_252 : decode cX12_program 252 = .ok (.iconst 0, 1) := by decide +kernel
theorem dX12_program_253 : decode cX12_program 253 = .ok (.bastore, 1) := by decide +kernel
theorem dX12_program_254 : decode cX12_program 254 = .ok (.aload_n 0, 1) := by decide +kernel
theorem dX12_program_255 : decode cX12_program 255 = .ok (.getfield 82, 3) := by decide +kernel
theorem dX12_program_258 : decode cX12_program 258 = .ok (.iconst 1, 1) := by decide +kernel
theorem dX12_program_259 : decode cX12_program 259 = .ok (.iconst 0, 1) := by decide +kernel
theorem dX12_program_260 : decode cX12_program 260 = .ok (.bastore, 1) := by decide +kernel
theorem dX12_program_261 : decode cX12_program 261 = .ok (.iload_n 1, 1) := by decide +kernel
theorem dX12_program_262 : decode cX12_program 262 = .ok (.ireturn, 1) := by decide +kernel
theorem dX12_isStatement_0 : decode cX12_isStatement 0 = .ok (.iload_n 0, 1) := by decide +kernel
theorem dX12_isStatement_1 : decode cX12_isStatement 1 = .ok (.bipush 7, 2) := by decide +kernel
theorem dX12_isStatement_3 : decode cX12_isStatement 3 = .ok (.if_icmp .eq 19, 3) := by decide +kernel
theorem dX12_isStatement_6 : decode cX12_isStatement 6 = .ok (.iload_n 0, 1) := by decide +kernel
theorem dX12_isStatement_7 : decode cX12_isStatement 7 = .ok (.bipush 9, 2) := by decide +kernel
theorem dX12_isStatement_9 : decode cX12_isStatement 9 = .ok (.if_icmp .eq 13, 3) := by decide +kernel
theorem dX12_isStatement_12 : decode cX12_isStatement 12 = .ok (.iload_n 0, 1) := by decide +kernel
theorem dX12_isStatement_13 : decode cX12_isStatement 13 = .ok (.bipush 10, 2) := by decide +kernel
theorem dX12_isStatement_15 : decode cX12_isStatement 15 = .ok (.if_icmp .eq 7, 3) := by decide +kernel
theorem dX12_isStatement_18 : decode cX12_isStatement 18 = .ok (.iconst 1, 1) := by decide +kernel
theorem dX12_isStatement_19 : decode cX12_isStatement 19 = .ok (.goto 4, 3) := by decide +kernel
theorem dX12_isStatement_22 : decode cX12_isStatement 22 = .ok (.iconst 0, 1) := by decide +kernel
theorem dX12_isStatement_23 : decode cX12_isStatement 23 = .ok (.ireturn, 1) := by decide +kernel
theorem dX12_valueOf_0 : decode cX12_valueOf 0 = .ok (.iload_n 1, 1) := by decide +kernel
theorem dX12_valueOf_1 : decode cX12_valueOf 1 = .ok (.ifCond .ne 10, 3) := by decide +kernel
theorem dX12_valueOf_4 : decode cX12_valueOf 4 = .ok (.iload_n 0, 1) := by decide +kernel
theorem dX12_valueOf_5 : decode cX12_valueOf 5 = .ok (.bipush 36, 2) := by decide +kernel
theorem dX12_valueOf_7 : decode cX12_valueOf 7 = .ok (.idiv, 1) := by decide +kernel
theorem dX12_valueOf_8 : decode cX12_valueOf 8 = .ok (.goto 22, 3) := by decide +kernel
theorem dX12_valueOf_11 : decode cX12_valueOf 11 = .ok (.iload_n 1, 1) := by decide +kernel
theorem dX12_valueOf_12 : decode cX12_valueOf 12 = .ok (.iconst 1, 1) := by decide +kernel
theorem dX12_valueOf_13 : decode cX12_valueOf 13 = .ok (.if_icmp .ne 13, 3) := by decide +kernel
theorem dX12_valueOf_16 : decode cX12_valueOf 16 = .ok (.iload_n 0, 1) := by decide +kernel
theorem dX12_valueOf_17 : decode cX12_valueOf 17 = .ok (.bipush 6, 2) := by decide +kernel
theorem dX12_valueOf_19 : decode cX12_valueOf 19 = .ok (.idiv, 1) := by decide +kernel
theorem dX12_valueOf_20 : decode cX12_valueOf 20 = .ok (.bipush 6, 2) := by decide +kernel
theorem dX12_valueOf_22 : decode cX12_valueOf 22 = .ok (.irem, 1) := by decide +kernel
theorem dX12_valueOf_23 : decode cX12_valueOf 23 = .ok (.goto 7, 3) := by decide +kernel
theorem dX12_valueOf_26 : decode cX12_valueOf 26 = .ok (.iload_n 0, 1) := by decide +kernel
theorem dX12_valueOf_27 : decode cX12_valueOf 27 = .ok (.bipush 6, 2) := by decide +kernel
theorem dX12_valueOf_29 : decode cX12_valueOf 29 = .ok (.irem, 1) := by decide +kernel
theorem dX12_valueOf_30 : decode cX12_valueOf 30 = .ok (.ireturn, 1) := by decide +kernel
theorem dX12_with_0 : decode cX12_with 0 = .ok (.iload_n 1, 1) := by decide +kernel
theorem dX12_with_1 : decode cX12_with 1 = .ok (.ifCond .ne 8, 3) := by decide +kernel
theorem dX12_with_4 : decode cX12_with 4 = .ok (.bipush 36, 2) := by decide +kernel
theorem dX12_with_6 : decode cX12_with 6 = .ok (.goto 14, 3) := by decide +kernel
theorem dX12_with_9 : decode cX12_with 9 = .ok (.iload_n 1, 1) := by decide +kernel
theorem dX12_with_10 : decode cX12_with 10 = .ok (.iconst 1, 1) := by decide +kernel
theorem dX12_with_11 : decode cX12_with 11 = .ok (.if_icmp .ne 8, 3) := by decide +kernel
theorem dX12_with_14 : decode cX12_with 14 = .ok (.bipush 6, 2) := by decide +kernel
theorem dX12_with_16 : decode cX12_with 16 = .ok (.goto 4, 3) := by decide +kernel
theorem dX12_with_19 : decode cX12_with 19 = .ok (.iconst 1, 1) := by decide +kernel
theorem dX12_with_20 : decode cX12_with 20 = .ok (.istore_n 3, 1) := by decide +kernel
theorem dX12_with_21 : decode cX12_with 21 = .ok (.iload_n 0, 1) := by decide +kernel
theorem dX12_with_22 : decode cX12_with 22 = .ok (.iload_n 2, 1) := by decide +kernel
theorem dX12_with_23 : decode cX12_with 23 = .ok (.iload_n 0, 1) := by decide +kernel
theorem dX12_with_24 : decode cX12_with 24 = .ok (.iload_n 1, 1) := by decide +kernel
theorem dX12_with_25 : decode cX12_with 25 = .ok (.invokestatic 226, 3) := by decide +kernel
theorem dX12_with_28 : decode cX12_with 28 = .ok (.isub, 1) := by decide +kernel
theorem dX12_with_29 : decode cX12_with 29 = .ok (.iload_n 3, 1) := by decide +kernel
theorem dX12_with_30 : decode cX12_with 30 = .ok (.imul, 1) := by decide +kernel
theorem dX12_with_31 : decode cX12_with 31 = .ok (.iadd, 1) := by decide +kernel
theorem dX12_with_32 : decode cX12_with 32 = .ok (.ireturn, 1) := by decide +kernel
theorem dX12_told_0 : decode cX12_told 0 = .ok (.bipush 100, 2) := by decide +kernel
theorem dX12_told_2 : decode cX12_told 2 = .ok (.iload_n 0, 1) := by decide +kernel
theorem dX12_told_3 : decode cX12_told 3 = .ok (.bipush 36, 2) := by decide +kernel
theorem dX12_told_5 : decode cX12_told 5 = .ok (.idiv, 1) := by decide +kernel
theorem dX12_told_6 : decode cX12_told 6 = .ok (.imul, 1) := by decide +kernel
theorem dX12_told_7 : decode cX12_told 7 = .ok (.bipush 10, 2) := by decide +kernel
theorem dX12_told_9 : decode cX12_told 9 = .ok (.iload_n 0, 1) := by decide +kernel
theorem dX12_told_10 : decode cX12_told 10 = .ok (.bipush 6, 2) := by decide +kernel
theorem dX12_told_12 : decode cX12_told 12 = .ok (.idiv, 1) := by decide +kernel
theorem dX12_told_13 : decode cX12_told 13 = .ok (.bipush 6, 2) := by decide +kernel
theorem dX12_told_15 : decode cX12_told 15 = .ok (.irem, 1) := by decide +kernel
theorem dX12_told_16 : decode cX12_told 16 = .ok (.imul, 1) := by decide +kernel
theorem dX12_told_17 : decode cX12_told 17 = .ok (.iadd, 1) := by decide +kernel
theorem dX12_told_18 : decode cX12_told 18 = .ok (.iload_n 0, 1) := by decide +kernel
theorem dX12_told_19 : decode cX12_told 19 = .ok (.bipush 6, 2) := by decide +kernel
theorem dX12_told_21 : decode cX12_told 21 = .ok (.irem, 1) := by decide +kernel
theorem dX12_told_22 : decode cX12_told 22 = .ok (.iadd, 1) := by decide +kernel
theorem dX12_told_23 : decode cX12_told 23 = .ok (.ireturn, 1) := by decide +kernel
theorem dX12_termBy_0 : decode cX12_termBy 0 = .ok (.iload_n 1, 1) := by decide +kernel
theorem dX12_termBy_1 : decode cX12_termBy 1 = .ok (.bipush 6, 2) := by decide +kernel
theorem dX12_termBy_3 : decode cX12_termBy 3 = .ok (.if_icmp .ge 7, 3) := by decide +kernel
theorem dX12_termBy_6 : decode cX12_termBy 6 = .ok (.iload_n 1, 1) := by decide +kernel
theorem dX12_termBy_7 : decode cX12_termBy 7 = .ok (.goto 11, 3) := by decide +kernel
theorem dX12_termBy_10 : decode cX12_termBy 10 = .ok (.iload_n 0, 1) := by decide +kernel
theorem dX12_termBy_11 : decode cX12_termBy 11 = .ok (.iload_n 1, 1) := by decide +kernel
theorem dX12_termBy_12 : decode cX12_termBy 12 = .ok (.bipush 6, 2) := by decide +kernel
theorem dX12_termBy_14 : decode cX12_termBy 14 = .ok (.isub, 1) := by decide +kernel
theorem dX12_termBy_15 : decode cX12_termBy 15 = .ok (.invokestatic 226, 3) := by decide +kernel
theorem dX12_termBy_18 : decode cX12_termBy 18 = .ok (.ireturn, 1) := by decide +kernel
theorem dX12_compares_0 : decode cX12_compares 0 = .ok (.iload_n 0, 1) := by decide +kernel
theorem dX12_compares_1 : decode cX12_compares 1 = .ok (.iload_n 1, 1) := by decide +kernel
theorem dX12_compares_2 : decode cX12_compares 2 = .ok (.invokestatic 226, 3) := by decide +kernel
theorem dX12_compares_5 : decode cX12_compares 5 = .ok (.istore 4, 2) := by decide +kernel
theorem dX12_compares_7 : decode cX12_compares 7 = .ok (.iload_n 0, 1) := by decide +kernel
theorem dX12_compares_8 : decode cX12_compares 8 = .ok (.iload_n 3, 1) := by decide +kernel
theorem dX12_compares_9 : decode cX12_compares 9 = .ok (.invokestatic 229, 3) := by decide +kernel
theorem dX12_compares_12 : decode cX12_compares 12 = .ok (.istore 5, 2) := by decide +kernel
theorem dX12_compares_14 : decode cX12_compares 14 = .ok (.iload_n 2, 1) := by decide +kernel
theorem dX12_compares_15 : decode cX12_compares 15 = .ok (.tableswitch 64 60 62 #[25, 38, 51], 25) := by decide +kernel
theorem dX12_compares_40 : decode cX12_compares 40 = .ok (.iload 4, 2) := by decide +kernel
theorem dX12_compares_42 : decode cX12_compares 42 = .ok (.iload 5, 2) := by decide +kernel
theorem dX12_compares_44 : decode cX12_compares 44 = .ok (.if_icmp .ge 7, 3) := by decide +kernel
theorem dX12_compares_47 : decode cX12_compares 47 = .ok (.iconst 1, 1) := by decide +kernel
theorem dX12_compares_48 : decode cX12_compares 48 = .ok (.goto 4, 3) := by decide +kernel
theorem dX12_compares_51 : decode cX12_compares 51 = .ok (.iconst 0, 1) := by decide +kernel
theorem dX12_compares_52 : decode cX12_compares 52 = .ok (.ireturn, 1) := by decide +kernel
theorem dX12_compares_53 : decode cX12_compares 53 = .ok (.iload 4, 2) := by decide +kernel
theorem dX12_compares_55 : decode cX12_compares 55 = .ok (.iload 5, 2) := by decide +kernel
theorem dX12_compares_57 : decode cX12_compares 57 = .ok (.if_icmp .ne 7, 3) := by decide +kernel
theorem dX12_compares_60 : decode cX12_compares 60 = .ok (.iconst 1, 1) := by decide +kernel
theorem dX12_compares_61 : decode cX12_compares 61 = .ok (.goto 4, 3) := by decide +kernel
theorem dX12_compares_64 : decode cX12_compares 64 = .ok (.iconst 0, 1) := by decide +kernel
theorem dX12_compares_65 : decode cX12_compares 65 = .ok (.ireturn, 1) := by decide +kernel
theorem dX12_compares_66 : decode cX12_compares 66 = .ok (.iload 4, 2) := by decide +kernel
theorem dX12_compares_68 : decode cX12_compares 68 = .ok (.iload 5, 2) := by decide +kernel
theorem dX12_compares_70 : decode cX12_compares 70 = .ok (.if_icmp .le 7, 3) := by decide +kernel
theorem dX12_compares_73 : decode cX12_compares 73 = .ok (.iconst 1, 1) := by decide +kernel
theorem dX12_compares_74 : decode cX12_compares 74 = .ok (.goto 4, 3) := by decide +kernel
theorem dX12_compares_77 : decode cX12_compares 77 = .ok (.iconst 0, 1) := by decide +kernel
theorem dX12_compares_78 : decode cX12_compares 78 = .ok (.ireturn, 1) := by decide +kernel
theorem dX12_compares_79 : decode cX12_compares 79 = .ok (.iload 4, 2) := by decide +kernel
theorem dX12_compares_81 : decode cX12_compares 81 = .ok (.iload 5, 2) := by decide +kernel
theorem dX12_compares_83 : decode cX12_compares 83 = .ok (.if_icmp .eq 7, 3) := by decide +kernel
theorem dX12_compares_86 : decode cX12_compares 86 = .ok (.iconst 1, 1) := by decide +kernel
theorem dX12_compares_87 : decode cX12_compares 87 = .ok (.goto 4, 3) := by decide +kernel
theorem dX12_compares_90 : decode cX12_compares 90 = .ok (.iconst 0, 1) := by decide +kernel
theorem dX12_compares_91 : decode cX12_compares 91 = .ok (.ireturn, 1) := by decide +kernel
theorem dX12_isSo_0 : decode cX12_isSo 0 = .ok (.iload_n 2, 1) := by decide +kernel
theorem dX12_isSo_1 : decode cX12_isSo 1 = .ok (.aload_n 0, 1) := by decide +kernel
theorem dX12_isSo_2 : decode cX12_isSo 2 = .ok (.getfield 16, 3) := by decide +kernel
theorem dX12_isSo_5 : decode cX12_isSo 5 = .ok (.iload_n 1, 1) := by decide +kernel
theorem dX12_isSo_6 : decode cX12_isSo 6 = .ok (.iaload, 1) := by decide +kernel
theorem dX12_isSo_7 : decode cX12_isSo 7 = .ok (.aload_n 0, 1) := by decide +kernel
theorem dX12_isSo_8 : decode cX12_isSo 8 = .ok (.getfield 19, 3) := by decide +kernel
theorem dX12_isSo_11 : decode cX12_isSo 11 = .ok (.iload_n 1, 1) := by decide +kernel
theorem dX12_isSo_12 : decode cX12_isSo 12 = .ok (.iaload, 1) := by decide +kernel
theorem dX12_isSo_13 : decode cX12_isSo 13 = .ok (.aload_n 0, 1) := by decide +kernel
theorem dX12_isSo_14 : decode cX12_isSo 14 = .ok (.getfield 22, 3) := by decide +kernel
theorem dX12_isSo_17 : decode cX12_isSo 17 = .ok (.iload_n 1, 1) := by decide +kernel
theorem dX12_isSo_18 : decode cX12_isSo 18 = .ok (.iaload, 1) := by decide +kernel
theorem dX12_isSo_19 : decode cX12_isSo 19 = .ok (.invokestatic 232, 3) := by decide +kernel
theorem dX12_isSo_22 : decode cX12_isSo 22 = .ok (.ireturn, 1) := by decide +kernel
theorem dX12_isGuessed_0 : decode cX12_isGuessed 0 = .ok (.iload_n 2, 1) := by decide +kernel
theorem dX12_isGuessed_1 : decode cX12_isGuessed 1 = .ok (.aload_n 0, 1) := by decide +kernel
theorem dX12_isGuessed_2 : decode cX12_isGuessed 2 = .ok (.getfield 31, 3) := by decide +kernel
theorem dX12_isGuessed_5 : decode cX12_isGuessed 5 = .ok (.iload_n 1, 1) := by decide +kernel
theorem dX12_isGuessed_6 : decode cX12_isGuessed 6 = .ok (.iaload, 1) := by decide +kernel
theorem dX12_isGuessed_7 : decode cX12_isGuessed 7 = .ok (.aload_n 0, 1) := by decide +kernel
theorem dX12_isGuessed_8 : decode cX12_isGuessed 8 = .ok (.getfield 34, 3) := by decide +kernel
theorem dX12_isGuessed_11 : decode cX12_isGuessed 11 = .ok (.iload_n 1, 1) := by decide +kernel
theorem dX12_isGuessed_12 : decode cX12_isGuessed 12 = .ok (.iaload, 1) := by decide +kernel
theorem dX12_isGuessed_13 : decode cX12_isGuessed 13 = .ok (.aload_n 0, 1) := by decide +kernel
theorem dX12_isGuessed_14 : decode cX12_isGuessed 14 = .ok (.getfield 37, 3) := by decide +kernel
theorem dX12_isGuessed_17 : decode cX12_isGuessed 17 = .ok (.iload_n 1, 1) := by decide +kernel
theorem dX12_isGuessed_18 : decode cX12_isGuessed 18 = .ok (.iaload, 1) := by decide +kernel
theorem dX12_isGuessed_19 : decode cX12_isGuessed 19 = .ok (.invokestatic 232, 3) := by decide +kernel
theorem dX12_isGuessed_22 : decode cX12_isGuessed 22 = .ok (.ireturn, 1) := by decide +kernel
theorem dX12_areGuessed_0 : decode cX12_areGuessed 0 = .ok (.iconst 1, 1) := by decide +kernel
theorem dX12_areGuessed_1 : decode cX12_areGuessed 1 = .ok (.istore_n 3, 1) := by decide +kernel
theorem dX12_areGuessed_2 : decode cX12_areGuessed 2 = .ok (.iconst 0, 1) := by decide +kernel
theorem dX12_areGuessed_3 : decode cX12_areGuessed 3 = .ok (.istore 4, 2) := by decide +kernel
theorem dX12_areGuessed_5 : decode cX12_areGuessed 5 = .ok (.iload 4, 2) := by decide +kernel
theorem dX12_areGuessed_7 : decode cX12_areGuessed 7 = .ok (.aload_n 0, 1) := by decide +kernel
theorem dX12_areGuessed_8 : decode cX12_areGuessed 8 = .ok (.getfield 217, 3) := by decide +kernel
theorem dX12_areGuessed_11 : decode cX12_areGuessed 11 = .ok (.if_icmp .ge 38, 3) := by decide +kernel
theorem dX12_areGuessed_14 : decode cX12_areGuessed 14 = .ok (.iload_n 3, 1) := by decide +kernel
theorem dX12_areGuessed_15 : decode cX12_areGuessed 15 = .ok (.ifCond .eq 26, 3) := by decide +kernel
theorem dX12_areGuessed_18 : decode cX12_areGuessed 18 = .ok (.iload_n 1, 1) := by decide +kernel
theorem dX12_areGuessed_19 : decode cX12_areGuessed 19 = .ok (.iload 4, 2) := by decide +kernel
theorem dX12_areGuessed_21 : decode cX12_areGuessed 21 = .ok (.invokestatic 236, 3) := by decide +kernel
theorem dX12_areGuessed_24 : decode cX12_areGuessed 24 = .ok (.ifCond .eq 13, 3) := by decide +kernel
theorem dX12_areGuessed_27 : decode cX12_areGuessed 27 = .ok (.aload_n 0, 1) := by decide +kernel
theorem dX12_areGuessed_28 : decode cX12_areGuessed 28 = .ok (.iload 4, 2) := by decide +kernel
theorem dX12_areGuessed_30 : decode cX12_areGuessed 30 = .ok (.iload_n 2, 1) := by decide +kernel
theorem dX12_areGuessed_31 : decode cX12_areGuessed 31 = .ok (.invokevirtual 239, 3) := by decide +kernel
theorem dX12_areGuessed_34 : decode cX12_areGuessed 34 = .ok (.ifCond .eq 7, 3) := by decide +kernel
theorem dX12_areGuessed_37 : decode cX12_areGuessed 37 = .ok (.iconst 1, 1) := by decide +kernel
theorem dX12_areGuessed_38 : decode cX12_areGuessed 38 = .ok (.goto 4, 3) := by decide +kernel
theorem dX12_areGuessed_41 : decode cX12_areGuessed 41 = .ok (.iconst 0, 1) := by decide +kernel
theorem dX12_areGuessed_42 : decode cX12_areGuessed 42 = .ok (.istore_n 3, 1) := by decide +kernel
theorem dX12_areGuessed_43 : decode cX12_areGuessed 43 = .ok (.iinc 4 1, 3) := by decide +kernel
theorem dX12_areGuessed_46 : decode cX12_areGuessed 46 = .ok (.goto (-41), 3) := by decide +kernel
theorem dX12_areGuessed_49 : decode cX12_areGuessed 49 = .ok (.iload_n 3, 1) := by decide +kernel
theorem dX12_areGuessed_50 : decode cX12_areGuessed 50 = .ok (.ireturn, 1) := by decide +kernel
theorem dX12_mayBegin_0 : decode cX12_mayBegin 0 = .ok (.iconst 1, 1) := by decide +kernel
theorem dX12_mayBegin_1 : decode cX12_mayBegin 1 = .ok (.istore_n 2, 1) := by decide +kernel
theorem dX12_mayBegin_2 : decode cX12_mayBegin 2 = .ok (.iconst 0, 1) := by decide +kernel
theorem dX12_mayBegin_3 : decode cX12_mayBegin 3 = .ok (.istore_n 3, 1) := by decide +kernel
theorem dX12_mayBegin_4 : decode cX12_mayBegin 4 = .ok (.iload_n 3, 1) := by decide +kernel
theorem dX12_mayBegin_5 : decode cX12_mayBegin 5 = .ok (.iconst 3, 1) := by decide +kernel
theorem dX12_mayBegin_6 : decode cX12_mayBegin 6 = .ok (.if_icmp .ge 38, 3) := by decide +kernel
theorem dX12_mayBegin_9 : decode cX12_mayBegin 9 = .ok (.iload_n 2, 1) := by decide +kernel
theorem dX12_mayBegin_10 : decode cX12_mayBegin 10 = .ok (.ifCond .eq 26, 3) := by decide +kernel
theorem dX12_mayBegin_13 : decode cX12_mayBegin 13 = .ok (.aload_n 0, 1) := by decide +kernel
theorem dX12_mayBegin_14 : decode cX12_mayBegin 14 = .ok (.iload_n 3, 1) := by decide +kernel
theorem dX12_mayBegin_15 : decode cX12_mayBegin 15 = .ok (.iaload, 1) := by decide +kernel
theorem dX12_mayBegin_16 : decode cX12_mayBegin 16 = .ok (.bipush 6, 2) := by decide +kernel
theorem dX12_mayBegin_18 : decode cX12_mayBegin 18 = .ok (.if_icmp .eq 14, 3) := by decide +kernel
theorem dX12_mayBegin_21 : decode cX12_mayBegin 21 = .ok (.aload_n 0, 1) := by decide +kernel
theorem dX12_mayBegin_22 : decode cX12_mayBegin 22 = .ok (.iload_n 3, 1) := by decide +kernel
theorem dX12_mayBegin_23 : decode cX12_mayBegin 23 = .ok (.iaload, 1) := by decide +kernel
theorem dX12_mayBegin_24 : decode cX12_mayBegin 24 = .ok (.iload_n 1, 1) := by decide +kernel
theorem dX12_mayBegin_25 : decode cX12_mayBegin 25 = .ok (.iload_n 3, 1) := by decide +kernel
theorem dX12_mayBegin_26 : decode cX12_mayBegin 26 = .ok (.invokestatic 226, 3) := by decide +kernel
theorem dX12_mayBegin_29 : decode cX12_mayBegin 29 = .ok (.if_icmp .ne 7, 3) := by decide +kernel
theorem dX12_mayBegin_32 : decode cX12_mayBegin 32 = .ok (.iconst 1, 1) := by decide +kernel
theorem dX12_mayBegin_33 : decode cX12_mayBegin 33 = .ok (.goto 4, 3) := by decide +kernel
theorem dX12_mayBegin_36 : decode cX12_mayBegin 36 = .ok (.iconst 0, 1) := by decide +kernel
theorem dX12_mayBegin_37 : decode cX12_mayBegin 37 = .ok (.istore_n 2, 1) := by decide +kernel
theorem dX12_mayBegin_38 : decode cX12_mayBegin 38 = .ok (.iinc 3 1, 3) := by decide +kernel
theorem dX12_mayBegin_41 : decode cX12_mayBegin 41 = .ok (.goto (-37), 3) := by decide +kernel
theorem dX12_mayBegin_44 : decode cX12_mayBegin 44 = .ok (.iload_n 2, 1) := by decide +kernel
theorem dX12_mayBegin_45 : decode cX12_mayBegin 45 = .ok (.ireturn, 1) := by decide +kernel
theorem dX12_done_0 : decode cX12_done 0 = .ok (.aload_n 0, 1) := by decide +kernel
theorem dX12_done_1 : decode cX12_done 1 = .ok (.getfield 16, 3) := by decide +kernel
theorem dX12_done_4 : decode cX12_done 4 = .ok (.iload_n 1, 1) := by decide +kernel
theorem dX12_done_5 : decode cX12_done 5 = .ok (.iaload, 1) := by decide +kernel
theorem dX12_done_6 : decode cX12_done 6 = .ok (.istore 4, 2) := by decide +kernel
theorem dX12_done_8 : decode cX12_done 8 = .ok (.iload_n 2, 1) := by decide +kernel
theorem dX12_done_9 : decode cX12_done 9 = .ok (.iload 4, 2) := by decide +kernel
theorem dX12_done_11 : decode cX12_done 11 = .ok (.invokestatic 226, 3) := by decide +kernel
theorem dX12_done_14 : decode cX12_done 14 = .ok (.istore 5, 2) := by decide +kernel
theorem dX12_done_16 : decode cX12_done 16 = .ok (.aload_n 0, 1) := by decide +kernel
theorem dX12_done_17 : decode cX12_done 17 = .ok (.getfield 13, 3) := by decide +kernel
theorem dX12_done_20 : decode cX12_done 20 = .ok (.iload_n 1, 1) := by decide +kernel
theorem dX12_done_21 : decode cX12_done 21 = .ok (.iaload, 1) := by decide +kernel
theorem dX12_done_22 : decode cX12_done 22 = .ok (.tableswitch 84 0 2 #[26, 43, 64], 26) := by decide +kernel
theorem dX12_done_48 : decode cX12_done 48 = .ok (.iload_n 2, 1) := by decide +kernel
theorem dX12_done_49 : decode cX12_done 49 = .ok (.iload 4, 2) := by decide +kernel
theorem dX12_done_51 : decode cX12_done 51 = .ok (.iload_n 2, 1) := by decide +kernel
theorem dX12_done_52 : decode cX12_done 52 = .ok (.aload_n 0, 1) := by decide +kernel
theorem dX12_done_53 : decode cX12_done 53 = .ok (.getfield 22, 3) := by decide +kernel
theorem dX12_done_56 : decode cX12_done 56 = .ok (.iload_n 1, 1) := by decide +kernel
theorem dX12_done_57 : decode cX12_done 57 = .ok (.iaload, 1) := by decide +kernel
theorem dX12_done_58 : decode cX12_done 58 = .ok (.invokestatic 229, 3) := by decide +kernel
theorem dX12_done_61 : decode cX12_done 61 = .ok (.invokestatic 242, 3) := by decide +kernel
theorem dX12_done_64 : decode cX12_done 64 = .ok (.ireturn, 1) := by decide +kernel
theorem dX12_done_65 : decode cX12_done 65 = .ok (.iload_n 2, 1) := by decide +kernel
theorem dX12_done_66 : decode cX12_done 66 = .ok (.iload 4, 2) := by decide +kernel
theorem dX12_done_68 : decode cX12_done 68 = .ok (.iload 5, 2) := by decide +kernel
theorem dX12_done_70 : decode cX12_done 70 = .ok (.iconst 5, 1) := by decide +kernel
theorem dX12_done_71 : decode cX12_done 71 = .ok (.if_icmp .ge 10, 3) := by decide +kernel
theorem dX12_done_74 : decode cX12_done 74 = .ok (.iload 5, 2) := by decide +kernel
theorem dX12_done_76 : decode cX12_done 76 = .ok (.iconst 1, 1) := by decide +kernel
theorem dX12_done_77 : decode cX12_done 77 = .ok (.iadd, 1) := by decide +kernel
theorem dX12_done_78 : decode cX12_done 78 = .ok (.goto 4, 3) := by decide +kernel
theorem dX12_done_81 : decode cX12_done 81 = .ok (.iconst 5, 1) := by decide +kernel
theorem dX12_done_82 : decode cX12_done 82 = .ok (.invokestatic 242, 3) := by decide +kernel
theorem dX12_done_85 : decode cX12_done 85 = .ok (.ireturn, 1) := by decide +kernel
theorem dX12_done_86 : decode cX12_done 86 = .ok (.iload_n 2, 1) := by decide +kernel
theorem dX12_done_87 : decode cX12_done 87 = .ok (.iload 4, 2) := by decide +kernel
theorem dX12_done_89 : decode cX12_done 89 = .ok (.iload 5, 2) := by decide +kernel
theorem dX12_done_91 : decode cX12_done 91 = .ok (.ifCond .le 10, 3) := by decide +kernel
theorem dX12_done_94 : decode cX12_done 94 = .ok (.iload 5, 2) := by decide +kernel
theorem dX12_done_96 : decode cX12_done 96 = .ok (.iconst 1, 1) := by decide +kernel
theorem dX12_done_97 : decode cX12_done 97 = .ok (.isub, 1) := by decide +kernel
theorem dX12_done_98 : decode cX12_done 98 = .ok (.goto 4, 3) := by decide +kernel
theorem dX12_done_101 : decode cX12_done 101 = .ok (.iconst 0, 1) := by decide +kernel
theorem dX12_done_102 : decode cX12_done 102 = .ok (.invokestatic 242, 3) := by decide +kernel
theorem dX12_done_105 : decode cX12_done 105 = .ok (.ireturn, 1) := by decide +kernel
theorem dX12_done_106 : decode cX12_done 106 = .ok (.iload_n 2, 1) := by decide +kernel
theorem dX12_done_107 : decode cX12_done 107 = .ok (.iload 4, 2) := by decide +kernel
theorem dX12_done_109 : decode cX12_done 109 = .ok (.iload_n 3, 1) := by decide +kernel
theorem dX12_done_110 : decode cX12_done 110 = .ok (.invokestatic 242, 3) := by decide +kernel
theorem dX12_done_113 : decode cX12_done 113 = .ok (.ireturn, 1) := by decide +kernel
theorem dX12_isThere_0 : decode cX12_isThere 0 = .ok (.aload_n 0, 1) := by decide +kernel
theorem dX12_isThere_1 : decode cX12_isThere 1 = .ok (.getfield 92, 3) := by decide +kernel
theorem dX12_isThere_4 : decode cX12_isThere 4 = .ok (.iconst 4, 1) := by decide +kernel
theorem dX12_isThere_5 : decode cX12_isThere 5 = .ok (.iload_n 1, 1) := by decide +kernel
theorem dX12_isThere_6 : decode cX12_isThere 6 = .ok (.imul, 1) := by decide +kernel
theorem dX12_isThere_7 : decode cX12_isThere 7 = .ok (.iload_n 2, 1) := by decide +kernel
theorem dX12_isThere_8 : decode cX12_isThere 8 = .ok (.bipush 54, 2) := by decide +kernel
theorem dX12_isThere_10 : decode cX12_isThere 10 = .ok (.idiv, 1) := by decide +kernel
theorem dX12_isThere_11 : decode cX12_isThere 11 = .ok (.iadd, 1) := by decide +kernel
theorem dX12_isThere_12 : decode cX12_isThere 12 = .ok (.laload, 1) := by decide +kernel
theorem dX12_isThere_13 : decode cX12_isThere 13 = .ok (.iload_n 2, 1) := by decide +kernel
theorem dX12_isThere_14 : decode cX12_isThere 14 = .ok (.bipush 54, 2) := by decide +kernel
theorem dX12_isThere_16 : decode cX12_isThere 16 = .ok (.irem, 1) := by decide +kernel
theorem dX12_isThere_17 : decode cX12_isThere 17 = .ok (.lshr, 1) := by decide +kernel
theorem dX12_isThere_18 : decode cX12_isThere 18 = .ok (.lconst 1, 1) := by decide +kernel
theorem dX12_isThere_19 : decode cX12_isThere 19 = .ok (.land, 1) := by decide +kernel
theorem dX12_isThere_20 : decode cX12_isThere 20 = .ok (.lconst 1, 1) := by decide +kernel
theorem dX12_isThere_21 : decode cX12_isThere 21 = .ok (.lcmp, 1) := by decide +kernel
theorem dX12_isThere_22 : decode cX12_isThere 22 = .ok (.ifCond .ne 7, 3) := by decide +kernel
theorem dX12_isThere_25 : decode cX12_isThere 25 = .ok (.iconst 1, 1) := by decide +kernel
theorem dX12_isThere_26 : decode cX12_isThere 26 = .ok (.goto 4, 3) := by decide +kernel
theorem dX12_isThere_29 : decode cX12_isThere 29 = .ok (.iconst 0, 1) := by decide +kernel
theorem dX12_isThere_30 : decode cX12_isThere 30 = .ok (.ireturn, 1) := by decide +kernel
theorem dX12_put_0 : decode cX12_put 0 = .ok (.aload_n 0, 1) := by decide +kernel
theorem dX12_put_1 : decode cX12_put 1 = .ok (.iload_n 1, 1) := by decide +kernel
theorem dX12_put_2 : decode cX12_put 2 = .ok (.iload_n 2, 1) := by decide +kernel
theorem dX12_put_3 : decode cX12_put 3 = .ok (.invokevirtual 246, 3) := by decide +kernel
theorem dX12_put_6 : decode cX12_put 6 = .ok (.ifCond .ne 7, 3) := by decide +kernel
theorem dX12_put_9 : decode cX12_put 9 = .ok (.iconst 1, 1) := by decide +kernel
theorem dX12_put_10 : decode cX12_put 10 = .ok (.goto 4, 3) := by decide +kernel
theorem dX12_put_13 : decode cX12_put 13 = .ok (.iconst 0, 1) := by decide +kernel
theorem dX12_put_14 : decode cX12_put 14 = .ok (.istore_n 3, 1) := by decide +kernel
theorem dX12_put_15 : decode cX12_put 15 = .ok (.aload_n 0, 1) := by decide +kernel
theorem dX12_put_16 : decode cX12_put 16 = .ok (.getfield 92, 3) := by decide +kernel
theorem dX12_put_19 : decode cX12_put 19 = .ok (.iconst 4, 1) := by decide +kernel
theorem dX12_put_20 : decode cX12_put 20 = .ok (.iload_n 1, 1) := by decide +kernel
theorem dX12_put_21 : decode cX12_put 21 = .ok (.imul, 1) := by decide +kernel
theorem dX12_put_22 : decode cX12_put 22 = .ok (.iload_n 2, 1) := by decide +kernel
theorem dX12_put_23 : decode cX12_put 23 = .ok (.bipush 54, 2) := by decide +kernel
theorem dX12_put_25 : decode cX12_put 25 = .ok (.idiv, 1) := by decide +kernel
theorem dX12_put_26 : decode cX12_put 26 = .ok (.iadd, 1) := by decide +kernel
theorem dX12_put_27 : decode cX12_put 27 = .ok (.dup2, 1) := by decide +kernel
theorem dX12_put_28 : decode cX12_put 28 = .ok (.laload, 1) := by decide +kernel
theorem dX12_put_29 : decode cX12_put 29 = .ok (.lconst 1, 1) := by decide +kernel
theorem dX12_put_30 : decode cX12_put 30 = .ok (.iload_n 2, 1) := by decide +kernel
theorem dX12_put_31 : decode cX12_put 31 = .ok (.bipush 54, 2) := by decide +kernel
theorem dX12_put_33 : decode cX12_put 33 = .ok (.irem, 1) := by decide +kernel
theorem dX12_put_34 : decode cX12_put 34 = .ok (.lshl, 1) := by decide +kernel
theorem dX12_put_35 : decode cX12_put 35 = .ok (.lor, 1) := by decide +kernel
theorem dX12_put_36 : decode cX12_put 36 = .ok (.lastore, 1) := by decide +kernel
theorem dX12_put_37 : decode cX12_put 37 = .ok (.aload_n 0, 1) := by decide +kernel
theorem dX12_put_38 : decode cX12_put 38 = .ok (.getfield 96, 3) := by decide +kernel
theorem dX12_put_41 : decode cX12_put 41 = .ok (.iconst 4, 1) := by decide +kernel
theorem dX12_put_42 : decode cX12_put 42 = .ok (.iload_n 1, 1) := by decide +kernel
theorem dX12_put_43 : decode cX12_put 43 = .ok (.imul, 1) := by decide +kernel
theorem dX12_put_44 : decode cX12_put 44 = .ok (.iload_n 2, 1) := by decide +kernel
theorem dX12_put_45 : decode cX12_put 45 = .ok (.bipush 54, 2) := by decide +kernel
theorem dX12_put_47 : decode cX12_put 47 = .ok (.idiv, 1) := by decide +kernel
theorem dX12_put_48 : decode cX12_put 48 = .ok (.iadd, 1) := by decide +kernel
theorem dX12_put_49 : decode cX12_put 49 = .ok (.dup2, 1) := by decide +kernel
theorem dX12_put_50 : decode cX12_put 50 = .ok (.laload, 1) := by decide +kernel
theorem dX12_put_51 : decode cX12_put 51 = .ok (.iload_n 3, 1) := by decide +kernel
theorem dX12_put_52 : decode cX12_put 52 = .ok (.ifCond .eq 12, 3) := by decide +kernel
theorem dX12_put_55 : decode cX12_put 55 = .ok (.lconst 1, 1) := by decide +kernel
theorem dX12_put_56 : decode cX12_put 56 = .ok (.iload_n 2, 1) := by decide +kernel
theorem dX12_put_57 : decode cX12_put 57 = .ok (.bipush 54, 2) := by decide +kernel
theorem dX12_put_59 : decode cX12_put 59 = .ok (.irem, 1) := by decide +kernel
theorem dX12_put_60 : decode cX12_put 60 = .ok (.lshl, 1) := by decide +kernel
theorem dX12_put_61 : decode cX12_put 61 = .ok (.goto 4, 3) := by decide +kernel
theorem dX12_put_64 : decode cX12_put 64 = .ok (.lconst 0, 1) := by decide +kernel
theorem dX12_put_65 : decode cX12_put 65 = .ok (.lor, 1) := by decide +kernel
theorem dX12_put_66 : decode cX12_put 66 = .ok (.lastore, 1) := by decide +kernel
theorem dX12_put_67 : decode cX12_put 67 = .ok (.iload_n 3, 1) := by decide +kernel
theorem dX12_put_68 : decode cX12_put 68 = .ok (.ireturn, 1) := by decide +kernel
theorem dX12_manyAt_0 : decode cX12_manyAt 0 = .ok (.iconst 0, 1) := by decide +kernel
theorem dX12_manyAt_1 : decode cX12_manyAt 1 = .ok (.istore_n 2, 1) := by decide +kernel
theorem dX12_manyAt_2 : decode cX12_manyAt 2 = .ok (.iconst 0, 1) := by decide +kernel
theorem dX12_manyAt_3 : decode cX12_manyAt 3 = .ok (.istore_n 3, 1) := by decide +kernel
theorem dX12_manyAt_4 : decode cX12_manyAt 4 = .ok (.iload_n 3, 1) := by decide +kernel
theorem dX12_manyAt_5 : decode cX12_manyAt 5 = .ok (.sipush 216, 3) := by decide +kernel
theorem dX12_manyAt_8 : decode cX12_manyAt 8 = .ok (.if_icmp .ge 26, 3) := by decide +kernel
theorem dX12_manyAt_11 : decode cX12_manyAt 11 = .ok (.iload_n 2, 1) := by decide +kernel
theorem dX12_manyAt_12 : decode cX12_manyAt 12 = .ok (.aload_n 0, 1) := by decide +kernel
theorem dX12_manyAt_13 : decode cX12_manyAt 13 = .ok (.iload_n 1, 1) := by decide +kernel
theorem dX12_manyAt_14 : decode cX12_manyAt 14 = .ok (.iload_n 3, 1) := by decide +kernel
theorem dX12_manyAt_15 : decode cX12_manyAt 15 = .ok (.invokevirtual 246, 3) := by decide +kernel
theorem dX12_manyAt_18 : decode cX12_manyAt 18 = .ok (.ifCond .eq 7, 3) := by decide +kernel
theorem dX12_manyAt_21 : decode cX12_manyAt 21 = .ok (.iconst 1, 1) := by decide +kernel
theorem dX12_manyAt_22 : decode cX12_manyAt 22 = .ok (.goto 4, 3) := by decide +kernel
theorem dX12_manyAt_25 : decode cX12_manyAt 25 = .ok (.iconst 0, 1) := by decide +kernel
theorem dX12_manyAt_26 : decode cX12_manyAt 26 = .ok (.iadd, 1) := by decide +kernel
theorem dX12_manyAt_27 : decode cX12_manyAt 27 = .ok (.istore_n 2, 1) := by decide +kernel
theorem dX12_manyAt_28 : decode cX12_manyAt 28 = .ok (.iinc 3 1, 3) := by decide +kernel
theorem dX12_manyAt_31 : decode cX12_manyAt 31 = .ok (.goto (-27), 3) := by decide +kernel
theorem dX12_manyAt_34 : decode cX12_manyAt 34 = .ok (.iload_n 2, 1) := by decide +kernel
theorem dX12_manyAt_35 : decode cX12_manyAt 35 = .ok (.ireturn, 1) := by decide +kernel
theorem dX12_goOn_0 : decode cX12_goOn 0 = .ok (.iconst 0, 1) := by decide +kernel
theorem dX12_goOn_1 : decode cX12_goOn 1 = .ok (.istore_n 3, 1) := by decide +kernel
theorem dX12_goOn_2 : decode cX12_goOn 2 = .ok (.aload_n 0, 1) := by decide +kernel
theorem dX12_goOn_3 : decode cX12_goOn 3 = .ok (.getfield 13, 3) := by decide +kernel
theorem dX12_goOn_6 : decode cX12_goOn 6 = .ok (.iload_n 1, 1) := by decide +kernel
theorem dX12_goOn_7 : decode cX12_goOn 7 = .ok (.iaload, 1) := by decide +kernel
theorem dX12_goOn_8 : decode cX12_goOn 8 = .ok (.tableswitch 216 0 10 #[60, 60, 60, 75, 121, 121, 147, 216, 174, 216, 207], 60) := by decide +kernel
theorem dX12_goOn_68 : decode cX12_goOn 68 = .ok (.aload_n 0, 1) := by decide +kernel
theorem dX12_goOn_69 : decode cX12_goOn 69 = .ok (.iload_n 1, 1) := by decide +kernel
theorem dX12_goOn_70 : decode cX12_goOn 70 = .ok (.iconst 1, 1) := by decide +kernel
theorem dX12_goOn_71 : decode cX12_goOn 71 = .ok (.iadd, 1) := by decide +kernel
theorem dX12_goOn_72 : decode cX12_goOn 72 = .ok (.aload_n 0, 1) := by decide +kernel
theorem dX12_goOn_73 : decode cX12_goOn 73 = .ok (.iload_n 1, 1) := by decide +kernel
theorem dX12_goOn_74 : decode cX12_goOn 74 = .ok (.iload_n 2, 1) := by decide +kernel
theorem dX12_goOn_75 : decode cX12_goOn 75 = .ok (.iconst 0, 1) := by decide +kernel
theorem dX12_goOn_76 : decode cX12_goOn 76 = .ok (.invokevirtual 249, 3) := by decide +kernel
theorem dX12_goOn_79 : decode cX12_goOn 79 = .ok (.invokevirtual 252, 3) := by decide +kernel
theorem dX12_goOn_82 : decode cX12_goOn 82 = .ok (.ireturn, 1) := by decide +kernel
theorem dX12_goOn_83 : decode cX12_goOn 83 = .ok (.iconst 0, 1) := by decide +kernel
theorem dX12_goOn_84 : decode cX12_goOn 84 = .ok (.istore 4, 2) := by decide +kernel
theorem dX12_goOn_86 : decode cX12_goOn 86 = .ok (.iload 4, 2) := by decide +kernel
theorem dX12_goOn_88 : decode cX12_goOn 88 = .ok (.bipush 6, 2) := by decide +kernel
theorem dX12_goOn_90 : decode cX12_goOn 90 = .ok (.if_icmp .ge 37, 3) := by decide +kernel
theorem dX12_goOn_93 : decode cX12_goOn 93 = .ok (.aload_n 0, 1) := by decide +kernel
theorem dX12_goOn_94 : decode cX12_goOn 94 = .ok (.iload_n 1, 1) := by decide +kernel
theorem dX12_goOn_95 : decode cX12_goOn 95 = .ok (.iconst 1, 1) := by decide +kernel
theorem dX12_goOn_96 : decode cX12_goOn 96 = .ok (.iadd, 1) := by decide +kernel
theorem dX12_goOn_97 : decode cX12_goOn 97 = .ok (.aload_n 0, 1) := by decide +kernel
theorem dX12_goOn_98 : decode cX12_goOn 98 = .ok (.iload_n 1, 1) := by decide +kernel
theorem dX12_goOn_99 : decode cX12_goOn 99 = .ok (.iload_n 2, 1) := by decide +kernel
theorem dX12_goOn_100 : decode cX12_goOn 100 = .ok (.iload 4, 2) := by decide +kernel
theorem dX12_goOn_102 : decode cX12_goOn 102 = .ok (.invokevirtual 249, 3) := by decide +kernel
theorem dX12_goOn_105 : decode cX12_goOn 105 = .ok (.invokevirtual 252, 3) := by decide +kernel
theorem dX12_goOn_108 : decode cX12_goOn 108 = .ok (.ifCond .ne 7, 3) := by decide +kernel
theorem dX12_goOn_111 : decode cX12_goOn 111 = .ok (.iload_n 3, 1) := by decide +kernel
theorem dX12_goOn_112 : decode cX12_goOn 112 = .ok (.ifCond .eq 7, 3) := by decide +kernel
theorem dX12_goOn_115 : decode cX12_goOn 115 = .ok (.iconst 1, 1) := by decide +kernel
theorem dX12_goOn_116 : decode cX12_goOn 116 = .ok (.goto 4, 3) := by decide +kernel
theorem dX12_goOn_119 : decode cX12_goOn 119 = .ok (.iconst 0, 1) := by decide +kernel
theorem dX12_goOn_120 : decode cX12_goOn 120 = .ok (.istore_n 3, 1) := by decide +kernel
theorem dX12_goOn_121 : decode cX12_goOn 121 = .ok (.iinc 4 1, 3) := by decide +kernel
theorem dX12_goOn_124 : decode cX12_goOn 124 = .ok (.goto (-38), 3) := by decide +kernel
theorem dX12_goOn_127 : decode cX12_goOn 127 = .ok (.iload_n 3, 1) := by decide +kernel
theorem dX12_goOn_128 : decode cX12_goOn 128 = .ok (.ireturn, 1) := by decide +kernel
theorem dX12_goOn_129 : decode cX12_goOn 129 = .ok (.aload_n 0, 1) := by decide +kernel
theorem dX12_goOn_130 : decode cX12_goOn 130 = .ok (.iload_n 1, 1) := by decide +kernel
theorem dX12_goOn_131 : decode cX12_goOn 131 = .ok (.iload_n 2, 1) := by decide +kernel
theorem dX12_goOn_132 : decode cX12_goOn 132 = .ok (.invokevirtual 255, 3) := by decide +kernel
theorem dX12_goOn_135 : decode cX12_goOn 135 = .ok (.ifCond .eq 18, 3) := by decide +kernel
theorem dX12_goOn_138 : decode cX12_goOn 138 = .ok (.aload_n 0, 1) := by decide +kernel
theorem dX12_goOn_139 : decode cX12_goOn 139 = .ok (.iload_n 1, 1) := by decide +kernel
theorem dX12_goOn_140 : decode cX12_goOn 140 = .ok (.iconst 1, 1) := by decide +kernel
theorem dX12_goOn_141 : decode cX12_goOn 141 = .ok (.iadd, 1) := by decide +kernel
theorem dX12_goOn_142 : decode cX12_goOn 142 = .ok (.iload_n 2, 1) := by decide +kernel
theorem dX12_goOn_143 : decode cX12_goOn 143 = .ok (.invokevirtual 252, 3) := by decide +kernel
theorem dX12_goOn_146 : decode cX12_goOn 146 = .ok (.ifCond .eq 7, 3) := by decide +kernel
theorem dX12_goOn_149 : decode cX12_goOn 149 = .ok (.iconst 1, 1) := by decide +kernel
theorem dX12_goOn_150 : decode cX12_goOn 150 = .ok (.goto 4, 3) := by decide +kernel
theorem dX12_goOn_153 : decode cX12_goOn 153 = .ok (.iconst 0, 1) := by decide +kernel
theorem dX12_goOn_154 : decode cX12_goOn 154 = .ok (.ireturn, 1) := by decide +kernel
theorem dX12_goOn_155 : decode cX12_goOn 155 = .ok (.aload_n 0, 1) := by decide +kernel
theorem dX12_goOn_156 : decode cX12_goOn 156 = .ok (.aload_n 0, 1) := by decide +kernel
theorem dX12_goOn_157 : decode cX12_goOn 157 = .ok (.iload_n 1, 1) := by decide +kernel
theorem dX12_goOn_158 : decode cX12_goOn 158 = .ok (.iload_n 2, 1) := by decide +kernel
theorem dX12_goOn_159 : decode cX12_goOn 159 = .ok (.invokevirtual 255, 3) := by decide +kernel
theorem dX12_goOn_162 : decode cX12_goOn 162 = .ok (.ifCond .eq 9, 3) := by decide +kernel
theorem dX12_goOn_165 : decode cX12_goOn 165 = .ok (.iload_n 1, 1) := by decide +kernel
theorem dX12_goOn_166 : decode cX12_goOn 166 = .ok (.iconst 1, 1) := by decide +kernel
theorem dX12_goOn_167 : decode cX12_goOn 167 = .ok (.iadd, 1) := by decide +kernel
theorem dX12_goOn_168 : decode cX12_goOn 168 = .ok (.goto 9, 3) := by decide +kernel
theorem dX12_goOn_171 : decode cX12_goOn 171 = .ok (.aload_n 0, 1) := by decide +kernel
theorem dX12_goOn_172 : decode cX12_goOn 172 = .ok (.getfield 28, 3) := by decide +kernel
theorem dX12_goOn_175 : decode cX12_goOn 175 = .ok (.iload_n 1, 1) := by decide +kernel
theorem dX12_goOn_176 : decode cX12_goOn 176 = .ok (.iaload, 1) := by decide +kernel
theorem dX12_goOn_177 : decode cX12_goOn 177 = .ok (.iload_n 2, 1) := by decide +kernel
theorem dX12_goOn_178 : decode cX12_goOn 178 = .ok (.invokevirtual 252, 3) := by decide +kernel
theorem dX12_goOn_181 : decode cX12_goOn 181 = .ok (.ireturn, 1) := by decide +kernel
theorem dX12_goOn_182 : decode cX12_goOn 182 = .ok (.aload_n 0, 1) := by decide +kernel
theorem dX12_goOn_183 : decode cX12_goOn 183 = .ok (.iload_n 1, 1) := by decide +kernel
theorem dX12_goOn_184 : decode cX12_goOn 184 = .ok (.iconst 1, 1) := by decide +kernel
theorem dX12_goOn_185 : decode cX12_goOn 185 = .ok (.iadd, 1) := by decide +kernel
theorem dX12_goOn_186 : decode cX12_goOn 186 = .ok (.iload_n 2, 1) := by decide +kernel
theorem dX12_goOn_187 : decode cX12_goOn 187 = .ok (.invokevirtual 252, 3) := by decide +kernel
theorem dX12_goOn_190 : decode cX12_goOn 190 = .ok (.istore_n 3, 1) := by decide +kernel
theorem dX12_goOn_191 : decode cX12_goOn 191 = .ok (.aload_n 0, 1) := by decide +kernel
theorem dX12_goOn_192 : decode cX12_goOn 192 = .ok (.aload_n 0, 1) := by decide +kernel
theorem dX12_goOn_193 : decode cX12_goOn 193 = .ok (.getfield 28, 3) := by decide +kernel
theorem dX12_goOn_196 : decode cX12_goOn 196 = .ok (.iload_n 1, 1) := by decide +kernel
theorem dX12_goOn_197 : decode cX12_goOn 197 = .ok (.iaload, 1) := by decide +kernel
theorem dX12_goOn_198 : decode cX12_goOn 198 = .ok (.iload_n 2, 1) := by decide +kernel
theorem dX12_goOn_199 : decode cX12_goOn 199 = .ok (.invokevirtual 252, 3) := by decide +kernel
theorem dX12_goOn_202 : decode cX12_goOn 202 = .ok (.ifCond .ne 7, 3) := by decide +kernel
theorem dX12_goOn_205 : decode cX12_goOn 205 = .ok (.iload_n 3, 1) := by decide +kernel
theorem dX12_goOn_206 : decode cX12_goOn 206 = .ok (.ifCond .eq 7, 3) := by decide +kernel
theorem dX12_goOn_209 : decode cX12_goOn 209 = .ok (.iconst 1, 1) := by decide +kernel
theorem dX12_goOn_210 : decode cX12_goOn 210 = .ok (.goto 4, 3) := by decide +kernel
theorem dX12_goOn_213 : decode cX12_goOn 213 = .ok (.iconst 0, 1) := by decide +kernel
theorem dX12_goOn_214 : decode cX12_goOn 214 = .ok (.ireturn, 1) := by decide +kernel
theorem dX12_goOn_215 : decode cX12_goOn 215 = .ok (.aload_n 0, 1) := by decide +kernel
theorem dX12_goOn_216 : decode cX12_goOn 216 = .ok (.iload_n 1, 1) := by decide +kernel
theorem dX12_goOn_217 : decode cX12_goOn 217 = .ok (.iconst 1, 1) := by decide +kernel
theorem dX12_goOn_218 : decode cX12_goOn 218 = .ok (.iadd, 1) := by decide +kernel
theorem dX12_goOn_219 : decode cX12_goOn 219 = .ok (.iload_n 2, 1) := by decide +kernel
theorem dX12_goOn_220 : decode cX12_goOn 220 = .ok (.invokevirtual 252, 3) := by decide +kernel
theorem dX12_goOn_223 : decode cX12_goOn 223 = .ok (.ireturn, 1) := by decide +kernel
theorem dX12_goOn_224 : decode cX12_goOn 224 = .ok (.aload_n 0, 1) := by decide +kernel
theorem dX12_goOn_225 : decode cX12_goOn 225 = .ok (.aload_n 0, 1) := by decide +kernel
theorem dX12_goOn_226 : decode cX12_goOn 226 = .ok (.getfield 28, 3) := by decide +kernel
theorem dX12_goOn_229 : decode cX12_goOn 229 = .ok (.iload_n 1, 1) := by decide +kernel
theorem dX12_goOn_230 : decode cX12_goOn 230 = .ok (.iaload, 1) := by decide +kernel
theorem dX12_goOn_231 : decode cX12_goOn 231 = .ok (.iload_n 2, 1) := by decide +kernel
theorem dX12_goOn_232 : decode cX12_goOn 232 = .ok (.invokevirtual 252, 3) := by decide +kernel
theorem dX12_goOn_235 : decode cX12_goOn 235 = .ok (.ireturn, 1) := by decide +kernel
theorem dX12_beginAt_0 : decode cX12_beginAt 0 = .ok (.iconst 0, 1) := by decide +kernel
theorem dX12_beginAt_1 : decode cX12_beginAt 1 = .ok (.istore_n 2, 1) := by decide +kernel
theorem dX12_beginAt_2 : decode cX12_beginAt 2 = .ok (.iload_n 2, 1) := by decide +kernel
theorem dX12_beginAt_3 : decode cX12_beginAt 3 = .ok (.sipush 248, 3) := by decide +kernel
theorem dX12_beginAt_6 : decode cX12_beginAt 6 = .ok (.if_icmp .ge 23, 3) := by decide +kernel
theorem dX12_beginAt_9 : decode cX12_beginAt 9 = .ok (.aload_n 0, 1) := by decide +kernel
theorem dX12_beginAt_10 : decode cX12_beginAt 10 = .ok (.getfield 92, 3) := by decide +kernel
theorem dX12_beginAt_13 : decode cX12_beginAt 13 = .ok (.iload_n 2, 1) := by decide +kernel
theorem dX12_beginAt_14 : decode cX12_beginAt 14 = .ok (.lconst 0, 1) := by decide +kernel
theorem dX12_beginAt_15 : decode cX12_beginAt 15 = .ok (.lastore, 1) := by decide +kernel
theorem dX12_beginAt_16 : decode cX12_beginAt 16 = .ok (.aload_n 0, 1) := by decide +kernel
theorem dX12_beginAt_17 : decode cX12_beginAt 17 = .ok (.getfield 96, 3) := by decide +kernel
theorem dX12_beginAt_20 : decode cX12_beginAt 20 = .ok (.iload_n 2, 1) := by decide +kernel
theorem dX12_beginAt_21 : decode cX12_beginAt 21 = .ok (.lconst 0, 1) := by decide +kernel
theorem dX12_beginAt_22 : decode cX12_beginAt 22 = .ok (.lastore, 1) := by decide +kernel
theorem dX12_beginAt_23 : decode cX12_beginAt 23 = .ok (.iinc 2 1, 3) := by decide +kernel
theorem dX12_beginAt_26 : decode cX12_beginAt 26 = .ok (.goto (-24), 3) := by decide +kernel
theorem dX12_beginAt_29 : decode cX12_beginAt 29 = .ok (.iconst 0, 1) := by decide +kernel
theorem dX12_beginAt_30 : decode cX12_beginAt 30 = .ok (.istore_n 2, 1) := by decide +kernel
theorem dX12_beginAt_31 : decode cX12_beginAt 31 = .ok (.iload_n 2, 1) := by decide +kernel
theorem dX12_beginAt_32 : decode cX12_beginAt 32 = .ok (.sipush 216, 3) := by decide +kernel
theorem dX12_beginAt_35 : decode cX12_beginAt 35 = .ok (.if_icmp .ge 24, 3) := by decide +kernel
theorem dX12_beginAt_38 : decode cX12_beginAt 38 = .ok (.aload_n 1, 1) := by decide +kernel
theorem dX12_beginAt_39 : decode cX12_beginAt 39 = .ok (.iload_n 2, 1) := by decide +kernel
theorem dX12_beginAt_40 : decode cX12_beginAt 40 = .ok (.invokestatic 258, 3) := by decide +kernel
theorem dX12_beginAt_43 : decode cX12_beginAt 43 = .ok (.ifCond .eq 10, 3) := by decide +kernel
theorem dX12_beginAt_46 : decode cX12_beginAt 46 = .ok (.aload_n 0, 1) := by decide +kernel
theorem dX12_beginAt_47 : decode cX12_beginAt 47 = .ok (.iconst 0, 1) := by decide +kernel
theorem dX12_beginAt_48 : decode cX12_beginAt 48 = .ok (.iload_n 2, 1) := by decide +kernel
theorem dX12_beginAt_49 : decode cX12_beginAt 49 = .ok (.invokevirtual 252, 3) := by decide +kernel
theorem dX12_beginAt_52 : decode cX12_beginAt 52 = .ok (.pop, 1) := by decide +kernel
theorem dX12_beginAt_53 : decode cX12_beginAt 53 = .ok (.iinc 2 1, 3) := by decide +kernel
theorem dX12_beginAt_56 : decode cX12_beginAt 56 = .ok (.goto (-25), 3) := by decide +kernel
theorem dX12_beginAt_59 : decode cX12_beginAt 59 = .ok (.return_, 1) := by decide +kernel
theorem dX12_layComes_0 : decode cX12_layComes 0 = .ok (.aload_n 0, 1) := by decide +kernel
theorem dX12_layComes_1 : decode cX12_layComes 1 = .ok (.aload_n 1, 1) := by decide +kernel
theorem dX12_layComes_2 : decode cX12_layComes 2 = .ok (.invokevirtual 262, 3) := by decide +kernel
theorem dX12_layComes_5 : decode cX12_layComes 5 = .ok (.iconst 0, 1) := by decide +kernel
theorem dX12_layComes_6 : decode cX12_layComes 6 = .ok (.istore_n 2, 1) := by decide +kernel
theorem dX12_layComes_7 : decode cX12_layComes 7 = .ok (.iload_n 2, 1) := by decide +kernel
theorem dX12_layComes_8 : decode cX12_layComes 8 = .ok (.aload_n 0, 1) := by decide +kernel
theorem dX12_layComes_9 : decode cX12_layComes 9 = .ok (.getfield 205, 3) := by decide +kernel
theorem dX12_layComes_12 : decode cX12_layComes 12 = .ok (.if_icmp .ge 74, 3) := by decide +kernel
theorem dX12_layComes_15 : decode cX12_layComes 15 = .ok (.iconst 0, 1) := by decide +kernel
theorem dX12_layComes_16 : decode cX12_layComes 16 = .ok (.istore_n 3, 1) := by decide +kernel
theorem dX12_layComes_17 : decode cX12_layComes 17 = .ok (.iload_n 3, 1) := by decide +kernel
theorem dX12_layComes_18 : decode cX12_layComes 18 = .ok (.sipush 216, 3) := by decide +kernel
theorem dX12_layComes_21 : decode cX12_layComes 21 = .ok (.if_icmp .ge 59, 3) := by decide +kernel
theorem dX12_layComes_24 : decode cX12_layComes 24 = .ok (.aload_n 0, 1) := by decide +kernel
theorem dX12_layComes_25 : decode cX12_layComes 25 = .ok (.getfield 13, 3) := by decide +kernel
theorem dX12_layComes_28 : decode cX12_layComes 28 = .ok (.iload_n 2, 1) := by decide +kernel
theorem dX12_layComes_29 : decode cX12_layComes 29 = .ok (.iaload, 1) := by decide +kernel
theorem dX12_layComes_30 : decode cX12_layComes 30 = .ok (.bipush 6, 2) := by decide +kernel
theorem dX12_layComes_32 : decode cX12_layComes 32 = .ok (.if_icmp .ne 22, 3) := by decide +kernel
theorem dX12_layComes_35 : decode cX12_layComes 35 = .ok (.aload_n 0, 1) := by decide +kernel
theorem dX12_layComes_36 : decode cX12_layComes 36 = .ok (.aload_n 0, 1) := by decide +kernel
theorem dX12_layComes_37 : decode cX12_layComes 37 = .ok (.getfield 99, 3) := by decide +kernel
theorem dX12_layComes_40 : decode cX12_layComes 40 = .ok (.aload_n 0, 1) := by decide +kernel
theorem dX12_layComes_41 : decode cX12_layComes 41 = .ok (.getfield 25, 3) := by decide +kernel
theorem dX12_layComes_44 : decode cX12_layComes 44 = .ok (.iload_n 2, 1) := by decide +kernel
theorem dX12_layComes_45 : decode cX12_layComes 45 = .ok (.iaload, 1) := by decide +kernel
theorem dX12_layComes_46 : decode cX12_layComes 46 = .ok (.iaload, 1) := by decide +kernel
theorem dX12_layComes_47 : decode cX12_layComes 47 = .ok (.iload_n 3, 1) := by decide +kernel
theorem dX12_layComes_48 : decode cX12_layComes 48 = .ok (.invokevirtual 266, 3) := by decide +kernel
end
section
theorem dX12_layComes_51 : decode cX12_layComes 51 = .ok (.goto 9, 3) := by decide +kernel
theorem dX12_layComes_54 : decode cX12_layComes 54 = .ok (.aload_n 0, 1) := by decide +kernel
theorem dX12_layComes_55 : decode cX12_layComes 55 = .ok (.iload_n 2, 1) := by decide +kernel
theorem dX12_layComes_56 : decode cX12_layComes 56 = .ok (.iload_n 3, 1) := by decide +kernel
theorem dX12_layComes_57 : decode cX12_layComes 57 = .ok (.invokevirtual 246, 3) := by decide +kernel
theorem dX12_layComes_60 : decode cX12_layComes 60 = .ok (.istore 4, 2) := by decide +kernel
theorem dX12_layComes_62 : decode cX12_layComes 62 = .ok (.iload 4, 2) := by decide +kernel
theorem dX12_layComes_64 : decode cX12_layComes 64 = .ok (.ifCond .eq 10, 3) := by decide +kernel
theorem dX12_layComes_67 : decode cX12_layComes 67 = .ok (.aload_n 0, 1) := by decide +kernel
theorem dX12_layComes_68 : decode cX12_layComes 68 = .ok (.iload_n 2, 1) := by decide +kernel
theorem dX12_layComes_69 : decode cX12_layComes 69 = .ok (.iload_n 3, 1) := by decide +kernel
theorem dX12_layComes_70 : decode cX12_layComes 70 = .ok (.invokevirtual 269, 3) := by decide +kernel
theorem dX12_layComes_73 : decode cX12_layComes 73 = .ok (.pop, 1) := by decide +kernel
theorem dX12_layComes_74 : decode cX12_layComes 74 = .ok (.iinc 3 1, 3) := by decide +kernel
theorem dX12_layComes_77 : decode cX12_layComes 77 = .ok (.goto (-60), 3) := by decide +kernel
theorem dX12_layComes_80 : decode cX12_layComes 80 = .ok (.iinc 2 1, 3) := by decide +kernel
theorem dX12_layComes_83 : decode cX12_layComes 83 = .ok (.goto (-76), 3) := by decide +kernel
theorem dX12_layComes_86 : decode cX12_layComes 86 = .ok (.return_, 1) := by decide +kernel
theorem dX12_isSoInAll_0 : decode cX12_isSoInAll 0 = .ok (.iconst 1, 1) := by decide +kernel
theorem dX12_isSoInAll_1 : decode cX12_isSoInAll 1 = .ok (.istore_n 3, 1) := by decide +kernel
theorem dX12_isSoInAll_2 : decode cX12_isSoInAll 2 = .ok (.iconst 0, 1) := by decide +kernel
theorem dX12_isSoInAll_3 : decode cX12_isSoInAll 3 = .ok (.istore 4, 2) := by decide +kernel
theorem dX12_isSoInAll_5 : decode cX12_isSoInAll 5 = .ok (.iload 4, 2) := by decide +kernel
theorem dX12_isSoInAll_7 : decode cX12_isSoInAll 7 = .ok (.sipush 216, 3) := by decide +kernel
theorem dX12_isSoInAll_10 : decode cX12_isSoInAll 10 = .ok (.if_icmp .ge 39, 3) := by decide +kernel
theorem dX12_isSoInAll_13 : decode cX12_isSoInAll 13 = .ok (.iload_n 3, 1) := by decide +kernel
theorem dX12_isSoInAll_14 : decode cX12_isSoInAll 14 = .ok (.ifCond .eq 27, 3) := by decide +kernel
theorem dX12_isSoInAll_17 : decode cX12_isSoInAll 17 = .ok (.aload_n 0, 1) := by decide +kernel
theorem dX12_isSoInAll_18 : decode cX12_isSoInAll 18 = .ok (.iload_n 2, 1) := by decide +kernel
theorem dX12_isSoInAll_19 : decode cX12_isSoInAll 19 = .ok (.iload 4, 2) := by decide +kernel
theorem dX12_isSoInAll_21 : decode cX12_isSoInAll 21 = .ok (.invokevirtual 246, 3) := by decide +kernel
theorem dX12_isSoInAll_24 : decode cX12_isSoInAll 24 = .ok (.ifCond .eq 13, 3) := by decide +kernel
theorem dX12_isSoInAll_27 : decode cX12_isSoInAll 27 = .ok (.aload_n 0, 1) := by decide +kernel
theorem dX12_isSoInAll_28 : decode cX12_isSoInAll 28 = .ok (.iload_n 1, 1) := by decide +kernel
theorem dX12_isSoInAll_29 : decode cX12_isSoInAll 29 = .ok (.iload 4, 2) := by decide +kernel
theorem dX12_isSoInAll_31 : decode cX12_isSoInAll 31 = .ok (.invokevirtual 239, 3) := by decide +kernel
theorem dX12_isSoInAll_34 : decode cX12_isSoInAll 34 = .ok (.ifCond .eq 7, 3) := by decide +kernel
theorem dX12_isSoInAll_37 : decode cX12_isSoInAll 37 = .ok (.iconst 1, 1) := by decide +kernel
theorem dX12_isSoInAll_38 : decode cX12_isSoInAll 38 = .ok (.goto 4, 3) := by decide +kernel
theorem dX12_isSoInAll_41 : decode cX12_isSoInAll 41 = .ok (.iconst 0, 1) := by decide +kernel
theorem dX12_isSoInAll_42 : decode cX12_isSoInAll 42 = .ok (.istore_n 3, 1) := by decide +kernel
theorem dX12_isSoInAll_43 : decode cX12_isSoInAll 43 = .ok (.iinc 4 1, 3) := by decide +kernel
theorem dX12_isSoInAll_46 : decode cX12_isSoInAll 46 = .ok (.goto (-41), 3) := by decide +kernel
theorem dX12_isSoInAll_49 : decode cX12_isSoInAll 49 = .ok (.iload_n 3, 1) := by decide +kernel
theorem dX12_isSoInAll_50 : decode cX12_isSoInAll 50 = .ok (.ireturn, 1) := by decide +kernel
theorem dX12_giveUp_0 : decode cX12_giveUp 0 = .ok (.iconst 0, 1) := by decide +kernel
theorem dX12_giveUp_1 : decode cX12_giveUp 1 = .ok (.istore_n 1, 1) := by decide +kernel
theorem dX12_giveUp_2 : decode cX12_giveUp 2 = .ok (.iconst 0, 1) := by decide +kernel
theorem dX12_giveUp_3 : decode cX12_giveUp 3 = .ok (.istore_n 2, 1) := by decide +kernel
theorem dX12_giveUp_4 : decode cX12_giveUp 4 = .ok (.iload_n 2, 1) := by decide +kernel
theorem dX12_giveUp_5 : decode cX12_giveUp 5 = .ok (.aload_n 0, 1) := by decide +kernel
theorem dX12_giveUp_6 : decode cX12_giveUp 6 = .ok (.getfield 205, 3) := by decide +kernel
theorem dX12_giveUp_9 : decode cX12_giveUp 9 = .ok (.if_icmp .ge 85, 3) := by decide +kernel
theorem dX12_giveUp_12 : decode cX12_giveUp 12 = .ok (.iconst 0, 1) := by decide +kernel
theorem dX12_giveUp_13 : decode cX12_giveUp 13 = .ok (.istore_n 3, 1) := by decide +kernel
theorem dX12_giveUp_14 : decode cX12_giveUp 14 = .ok (.iload_n 3, 1) := by decide +kernel
theorem dX12_giveUp_15 : decode cX12_giveUp 15 = .ok (.aload_n 0, 1) := by decide +kernel
theorem dX12_giveUp_16 : decode cX12_giveUp 16 = .ok (.getfield 217, 3) := by decide +kernel
theorem dX12_giveUp_19 : decode cX12_giveUp 19 = .ok (.if_icmp .ge 69, 3) := by decide +kernel
theorem dX12_giveUp_22 : decode cX12_giveUp 22 = .ok (.aload_n 0, 1) := by decide +kernel
theorem dX12_giveUp_23 : decode cX12_giveUp 23 = .ok (.getfield 13, 3) := by decide +kernel
theorem dX12_giveUp_26 : decode cX12_giveUp 26 = .ok (.iload_n 2, 1) := by decide +kernel
theorem dX12_giveUp_27 : decode cX12_giveUp 27 = .ok (.iaload, 1) := by decide +kernel
theorem dX12_giveUp_28 : decode cX12_giveUp 28 = .ok (.bipush 6, 2) := by decide +kernel
theorem dX12_giveUp_30 : decode cX12_giveUp 30 = .ok (.if_icmp .ne 58, 3) := by decide +kernel
theorem dX12_giveUp_33 : decode cX12_giveUp 33 = .ok (.aload_n 0, 1) := by decide +kernel
theorem dX12_giveUp_34 : decode cX12_giveUp 34 = .ok (.getfield 99, 3) := by decide +kernel
theorem dX12_giveUp_37 : decode cX12_giveUp 37 = .ok (.aload_n 0, 1) := by decide +kernel
theorem dX12_giveUp_38 : decode cX12_giveUp 38 = .ok (.getfield 25, 3) := by decide +kernel
theorem dX12_giveUp_41 : decode cX12_giveUp 41 = .ok (.iload_n 2, 1) := by decide +kernel
theorem dX12_giveUp_42 : decode cX12_giveUp 42 = .ok (.iaload, 1) := by decide +kernel
theorem dX12_giveUp_43 : decode cX12_giveUp 43 = .ok (.iaload, 1) := by decide +kernel
theorem dX12_giveUp_44 : decode cX12_giveUp 44 = .ok (.iload_n 3, 1) := by decide +kernel
theorem dX12_giveUp_45 : decode cX12_giveUp 45 = .ok (.invokestatic 236, 3) := by decide +kernel
theorem dX12_giveUp_48 : decode cX12_giveUp 48 = .ok (.ifCond .eq 34, 3) := by decide +kernel
theorem dX12_giveUp_51 : decode cX12_giveUp 51 = .ok (.aload_n 0, 1) := by decide +kernel
theorem dX12_giveUp_52 : decode cX12_giveUp 52 = .ok (.iload_n 3, 1) := by decide +kernel
theorem dX12_giveUp_53 : decode cX12_giveUp 53 = .ok (.iload_n 2, 1) := by decide +kernel
theorem dX12_giveUp_54 : decode cX12_giveUp 54 = .ok (.invokevirtual 272, 3) := by decide +kernel
theorem dX12_giveUp_57 : decode cX12_giveUp 57 = .ok (.ifCond .ne 25, 3) := by decide +kernel
theorem dX12_giveUp_60 : decode cX12_giveUp 60 = .ok (.aload_n 0, 1) := by decide +kernel
theorem dX12_giveUp_61 : decode cX12_giveUp 61 = .ok (.getfield 99, 3) := by decide +kernel
theorem dX12_giveUp_64 : decode cX12_giveUp 64 = .ok (.aload_n 0, 1) := by decide +kernel
theorem dX12_giveUp_65 : decode cX12_giveUp 65 = .ok (.getfield 25, 3) := by decide +kernel
theorem dX12_giveUp_68 : decode cX12_giveUp 68 = .ok (.iload_n 2, 1) := by decide +kernel
theorem dX12_giveUp_69 : decode cX12_giveUp 69 = .ok (.iaload, 1) := by decide +kernel
theorem dX12_giveUp_70 : decode cX12_giveUp 70 = .ok (.dup2, 1) := by decide +kernel
theorem dX12_giveUp_71 : decode cX12_giveUp 71 = .ok (.iaload, 1) := by decide +kernel
theorem dX12_giveUp_72 : decode cX12_giveUp 72 = .ok (.iconst 1, 1) := by decide +kernel
theorem dX12_giveUp_73 : decode cX12_giveUp 73 = .ok (.iload_n 3, 1) := by decide +kernel
theorem dX12_giveUp_74 : decode cX12_giveUp 74 = .ok (.ishl, 1) := by decide +kernel
theorem dX12_giveUp_75 : decode cX12_giveUp 75 = .ok (.iconst (-1), 1) := by decide +kernel
theorem dX12_giveUp_76 : decode cX12_giveUp 76 = .ok (.ixor, 1) := by decide +kernel
theorem dX12_giveUp_77 : decode cX12_giveUp 77 = .ok (.iand, 1) := by decide +kernel
theorem dX12_giveUp_78 : decode cX12_giveUp 78 = .ok (.iastore, 1) := by decide +kernel
theorem dX12_giveUp_79 : decode cX12_giveUp 79 = .ok (.iinc 1 1, 3) := by decide +kernel
theorem dX12_giveUp_82 : decode cX12_giveUp 82 = .ok (.iinc 3 1, 3) := by decide +kernel
theorem dX12_giveUp_85 : decode cX12_giveUp 85 = .ok (.goto (-71), 3) := by decide +kernel
theorem dX12_giveUp_88 : decode cX12_giveUp 88 = .ok (.iinc 2 1, 3) := by decide +kernel
theorem dX12_giveUp_91 : decode cX12_giveUp 91 = .ok (.goto (-87), 3) := by decide +kernel
theorem dX12_giveUp_94 : decode cX12_giveUp 94 = .ok (.iload_n 1, 1) := by decide +kernel
theorem dX12_giveUp_95 : decode cX12_giveUp 95 = .ok (.ireturn, 1) := by decide +kernel
theorem dX12_findInvariants_0 : decode cX12_findInvariants 0 = .ok (.iconst 0, 1) := by decide +kernel
theorem dX12_findInvariants_1 : decode cX12_findInvariants 1 = .ok (.istore_n 3, 1) := by decide +kernel
theorem dX12_findInvariants_2 : decode cX12_findInvariants 2 = .ok (.iload_n 3, 1) := by decide +kernel
theorem dX12_findInvariants_3 : decode cX12_findInvariants 3 = .ok (.iconst 3, 1) := by decide +kernel
theorem dX12_findInvariants_4 : decode cX12_findInvariants 4 = .ok (.if_icmp .ge 16, 3) := by decide +kernel
theorem dX12_findInvariants_7 : decode cX12_findInvariants 7 = .ok (.aload_n 0, 1) := by decide +kernel
theorem dX12_findInvariants_8 : decode cX12_findInvariants 8 = .ok (.getfield 99, 3) := by decide +kernel
theorem dX12_findInvariants_11 : decode cX12_findInvariants 11 = .ok (.iload_n 3, 1) := by decide +kernel
theorem dX12_findInvariants_12 : decode cX12_findInvariants 12 = .ok (.iload_n 2, 1) := by decide +kernel
theorem dX12_findInvariants_13 : decode cX12_findInvariants 13 = .ok (.iastore, 1) := by decide +kernel
theorem dX12_findInvariants_14 : decode cX12_findInvariants 14 = .ok (.iinc 3 1, 3) := by decide +kernel
theorem dX12_findInvariants_17 : decode cX12_findInvariants 17 = .ok (.goto (-15), 3) := by decide +kernel
theorem dX12_findInvariants_20 : decode cX12_findInvariants 20 = .ok (.aload_n 0, 1) := by decide +kernel
theorem dX12_findInvariants_21 : decode cX12_findInvariants 21 = .ok (.aload_n 1, 1) := by decide +kernel
theorem dX12_findInvariants_22 : decode cX12_findInvariants 22 = .ok (.invokevirtual 275, 3) := by decide +kernel
theorem dX12_findInvariants_25 : decode cX12_findInvariants 25 = .ok (.iconst 0, 1) := by decide +kernel
theorem dX12_findInvariants_26 : decode cX12_findInvariants 26 = .ok (.istore_n 3, 1) := by decide +kernel
theorem dX12_findInvariants_27 : decode cX12_findInvariants 27 = .ok (.iload_n 3, 1) := by decide +kernel
theorem dX12_findInvariants_28 : decode cX12_findInvariants 28 = .ok (.bipush 15, 2) := by decide +kernel
theorem dX12_findInvariants_30 : decode cX12_findInvariants 30 = .ok (.if_icmp .ge 21, 3) := by decide +kernel
theorem dX12_findInvariants_33 : decode cX12_findInvariants 33 = .ok (.aload_n 0, 1) := by decide +kernel
theorem dX12_findInvariants_34 : decode cX12_findInvariants 34 = .ok (.invokevirtual 278, 3) := by decide +kernel
theorem dX12_findInvariants_37 : decode cX12_findInvariants 37 = .ok (.ifCond .le 14, 3) := by decide +kernel
theorem dX12_findInvariants_40 : decode cX12_findInvariants 40 = .ok (.aload_n 0, 1) := by decide +kernel
theorem dX12_findInvariants_41 : decode cX12_findInvariants 41 = .ok (.aload_n 1, 1) := by decide +kernel
theorem dX12_findInvariants_42 : decode cX12_findInvariants 42 = .ok (.invokevirtual 275, 3) := by decide +kernel
theorem dX12_findInvariants_45 : decode cX12_findInvariants 45 = .ok (.iinc 3 1, 3) := by decide +kernel
theorem dX12_findInvariants_48 : decode cX12_findInvariants 48 = .ok (.goto (-21), 3) := by decide +kernel
theorem dX12_findInvariants_51 : decode cX12_findInvariants 51 = .ok (.return_, 1) := by decide +kernel
theorem dX12_left_0 : decode cX12_left 0 = .ok (.iconst 1, 1) := by decide +kernel
theorem dX12_left_1 : decode cX12_left 1 = .ok (.aload_n 0, 1) := by decide +kernel
theorem dX12_left_2 : decode cX12_left 2 = .ok (.getfield 217, 3) := by decide +kernel
theorem dX12_left_5 : decode cX12_left 5 = .ok (.ishl, 1) := by decide +kernel
theorem dX12_left_6 : decode cX12_left 6 = .ok (.iconst 1, 1) := by decide +kernel
theorem dX12_left_7 : decode cX12_left 7 = .ok (.isub, 1) := by decide +kernel
theorem dX12_left_8 : decode cX12_left 8 = .ok (.aload_n 1, 1) := by decide +kernel
theorem dX12_left_9 : decode cX12_left 9 = .ok (.iconst 3, 1) := by decide +kernel
theorem dX12_left_10 : decode cX12_left 10 = .ok (.iaload, 1) := by decide +kernel
theorem dX12_left_11 : decode cX12_left 11 = .ok (.iconst (-1), 1) := by decide +kernel
theorem dX12_left_12 : decode cX12_left 12 = .ok (.ixor, 1) := by decide +kernel
theorem dX12_left_13 : decode cX12_left 13 = .ok (.iand, 1) := by decide +kernel
theorem dX12_left_14 : decode cX12_left 14 = .ok (.ireturn, 1) := by decide +kernel
theorem dX12_invariants_0 : decode cX12_invariants 0 = .ok (.aload_n 0, 1) := by decide +kernel
theorem dX12_invariants_1 : decode cX12_invariants 1 = .ok (.aload_n 1, 1) := by decide +kernel
theorem dX12_invariants_2 : decode cX12_invariants 2 = .ok (.aload_n 0, 1) := by decide +kernel
theorem dX12_invariants_3 : decode cX12_invariants 3 = .ok (.aload_n 1, 1) := by decide +kernel
theorem dX12_invariants_4 : decode cX12_invariants 4 = .ok (.invokevirtual 281, 3) := by decide +kernel
theorem dX12_invariants_7 : decode cX12_invariants 7 = .ok (.invokevirtual 285, 3) := by decide +kernel
theorem dX12_invariants_10 : decode cX12_invariants 10 = .ok (.return_, 1) := by decide +kernel
theorem dX12_goOnFresh_0 : decode cX12_goOnFresh 0 = .ok (.iconst 0, 1) := by decide +kernel
theorem dX12_goOnFresh_1 : decode cX12_goOnFresh 1 = .ok (.istore_n 2, 1) := by decide +kernel
theorem dX12_goOnFresh_2 : decode cX12_goOnFresh 2 = .ok (.iconst 0, 1) := by decide +kernel
theorem dX12_goOnFresh_3 : decode cX12_goOnFresh 3 = .ok (.istore_n 3, 1) := by decide +kernel
theorem dX12_goOnFresh_4 : decode cX12_goOnFresh 4 = .ok (.iload_n 3, 1) := by decide +kernel
theorem dX12_goOnFresh_5 : decode cX12_goOnFresh 5 = .ok (.iconst 4, 1) := by decide +kernel
theorem dX12_goOnFresh_6 : decode cX12_goOnFresh 6 = .ok (.if_icmp .ge 91, 3) := by decide +kernel
theorem dX12_goOnFresh_9 : decode cX12_goOnFresh 9 = .ok (.aload_n 0, 1) := by decide +kernel
theorem dX12_goOnFresh_10 : decode cX12_goOnFresh 10 = .ok (.getfield 96, 3) := by decide +kernel
theorem dX12_goOnFresh_13 : decode cX12_goOnFresh 13 = .ok (.iconst 4, 1) := by decide +kernel
theorem dX12_goOnFresh_14 : decode cX12_goOnFresh 14 = .ok (.iload_n 1, 1) := by decide +kernel
theorem dX12_goOnFresh_15 : decode cX12_goOnFresh 15 = .ok (.imul, 1) := by decide +kernel
theorem dX12_goOnFresh_16 : decode cX12_goOnFresh 16 = .ok (.iload_n 3, 1) := by decide +kernel
theorem dX12_goOnFresh_17 : decode cX12_goOnFresh 17 = .ok (.iadd, 1) := by decide +kernel
theorem dX12_goOnFresh_18 : decode cX12_goOnFresh 18 = .ok (.laload, 1) := by decide +kernel
theorem dX12_goOnFresh_19 : decode cX12_goOnFresh 19 = .ok (.lstore 4, 2) := by decide +kernel
theorem dX12_goOnFresh_21 : decode cX12_goOnFresh 21 = .ok (.aload_n 0, 1) := by decide +kernel
theorem dX12_goOnFresh_22 : decode cX12_goOnFresh 22 = .ok (.getfield 96, 3) := by decide +kernel
theorem dX12_goOnFresh_25 : decode cX12_goOnFresh 25 = .ok (.iconst 4, 1) := by decide +kernel
theorem dX12_goOnFresh_26 : decode cX12_goOnFresh 26 = .ok (.iload_n 1, 1) := by decide +kernel
theorem dX12_goOnFresh_27 : decode cX12_goOnFresh 27 = .ok (.imul, 1) := by decide +kernel
theorem dX12_goOnFresh_28 : decode cX12_goOnFresh 28 = .ok (.iload_n 3, 1) := by decide +kernel
theorem dX12_goOnFresh_29 : decode cX12_goOnFresh 29 = .ok (.iadd, 1) := by decide +kernel
theorem dX12_goOnFresh_30 : decode cX12_goOnFresh 30 = .ok (.lconst 0, 1) := by decide +kernel
theorem dX12_goOnFresh_31 : decode cX12_goOnFresh 31 = .ok (.lastore, 1) := by decide +kernel
theorem dX12_goOnFresh_32 : decode cX12_goOnFresh 32 = .ok (.iload_n 2, 1) := by decide +kernel
theorem dX12_goOnFresh_33 : decode cX12_goOnFresh 33 = .ok (.ifCond .ne 10, 3) := by decide +kernel
theorem dX12_goOnFresh_36 : decode cX12_goOnFresh 36 = .ok (.lload 4, 2) := by decide +kernel
theorem dX12_goOnFresh_38 : decode cX12_goOnFresh 38 = .ok (.lconst 0, 1) := by decide +kernel
theorem dX12_goOnFresh_39 : decode cX12_goOnFresh 39 = .ok (.lcmp, 1) := by decide +kernel
theorem dX12_goOnFresh_40 : decode cX12_goOnFresh 40 = .ok (.ifCond .eq 7, 3) := by decide +kernel
theorem dX12_goOnFresh_43 : decode cX12_goOnFresh 43 = .ok (.iconst 1, 1) := by decide +kernel
theorem dX12_goOnFresh_44 : decode cX12_goOnFresh 44 = .ok (.goto 4, 3) := by decide +kernel
theorem dX12_goOnFresh_47 : decode cX12_goOnFresh 47 = .ok (.iconst 0, 1) := by decide +kernel
theorem dX12_goOnFresh_48 : decode cX12_goOnFresh 48 = .ok (.istore_n 2, 1) := by decide +kernel
theorem dX12_goOnFresh_49 : decode cX12_goOnFresh 49 = .ok (.bipush 54, 2) := by decide +kernel
theorem dX12_goOnFresh_51 : decode cX12_goOnFresh 51 = .ok (.iload_n 3, 1) := by decide +kernel
theorem dX12_goOnFresh_52 : decode cX12_goOnFresh 52 = .ok (.imul, 1) := by decide +kernel
theorem dX12_goOnFresh_53 : decode cX12_goOnFresh 53 = .ok (.istore 6, 2) := by decide +kernel
theorem dX12_goOnFresh_55 : decode cX12_goOnFresh 55 = .ok (.lload 4, 2) := by decide +kernel
theorem dX12_goOnFresh_57 : decode cX12_goOnFresh 57 = .ok (.lconst 0, 1) := by decide +kernel
theorem dX12_goOnFresh_58 : decode cX12_goOnFresh 58 = .ok (.lcmp, 1) := by decide +kernel
theorem dX12_goOnFresh_59 : decode cX12_goOnFresh 59 = .ok (.ifCond .eq 32, 3) := by decide +kernel
theorem dX12_goOnFresh_62 : decode cX12_goOnFresh 62 = .ok (.lload 4, 2) := by decide +kernel
theorem dX12_goOnFresh_64 : decode cX12_goOnFresh 64 = .ok (.lconst 1, 1) := by decide +kernel
theorem dX12_goOnFresh_65 : decode cX12_goOnFresh 65 = .ok (.land, 1) := by decide +kernel
theorem dX12_goOnFresh_66 : decode cX12_goOnFresh 66 = .ok (.lconst 1, 1) := by decide +kernel
theorem dX12_goOnFresh_67 : decode cX12_goOnFresh 67 = .ok (.lcmp, 1) := by decide +kernel
theorem dX12_goOnFresh_68 : decode cX12_goOnFresh 68 = .ok (.ifCond .ne 11, 3) := by decide +kernel
theorem dX12_goOnFresh_71 : decode cX12_goOnFresh 71 = .ok (.aload_n 0, 1) := by decide +kernel
theorem dX12_goOnFresh_72 : decode cX12_goOnFresh 72 = .ok (.iload_n 1, 1) := by decide +kernel
theorem dX12_goOnFresh_73 : decode cX12_goOnFresh 73 = .ok (.iload 6, 2) := by decide +kernel
theorem dX12_goOnFresh_75 : decode cX12_goOnFresh 75 = .ok (.invokevirtual 269, 3) := by decide +kernel
theorem dX12_goOnFresh_78 : decode cX12_goOnFresh 78 = .ok (.pop, 1) := by decide +kernel
theorem dX12_goOnFresh_79 : decode cX12_goOnFresh 79 = .ok (.lload 4, 2) := by decide +kernel
theorem dX12_goOnFresh_81 : decode cX12_goOnFresh 81 = .ok (.iconst 1, 1) := by decide +kernel
theorem dX12_goOnFresh_82 : decode cX12_goOnFresh 82 = .ok (.lshr, 1) := by decide +kernel
theorem dX12_goOnFresh_83 : decode cX12_goOnFresh 83 = .ok (.lstore 4, 2) := by decide +kernel
theorem dX12_goOnFresh_85 : decode cX12_goOnFresh 85 = .ok (.iinc 6 1, 3) := by decide +kernel
theorem dX12_goOnFresh_88 : decode cX12_goOnFresh 88 = .ok (.goto (-33), 3) := by decide +kernel
theorem dX12_goOnFresh_91 : decode cX12_goOnFresh 91 = .ok (.iinc 3 1, 3) := by decide +kernel
theorem dX12_goOnFresh_94 : decode cX12_goOnFresh 94 = .ok (.goto (-90), 3) := by decide +kernel
theorem dX12_goOnFresh_97 : decode cX12_goOnFresh 97 = .ok (.iload_n 2, 1) := by decide +kernel
theorem dX12_goOnFresh_98 : decode cX12_goOnFresh 98 = .ok (.ireturn, 1) := by decide +kernel
theorem dX12_layReached_0 : decode cX12_layReached 0 = .ok (.aload_n 0, 1) := by decide +kernel
theorem dX12_layReached_1 : decode cX12_layReached 1 = .ok (.aload_n 1, 1) := by decide +kernel
theorem dX12_layReached_2 : decode cX12_layReached 2 = .ok (.invokevirtual 262, 3) := by decide +kernel
theorem dX12_layReached_5 : decode cX12_layReached 5 = .ok (.iconst 1, 1) := by decide +kernel
theorem dX12_layReached_6 : decode cX12_layReached 6 = .ok (.istore_n 2, 1) := by decide +kernel
theorem dX12_layReached_7 : decode cX12_layReached 7 = .ok (.iload_n 2, 1) := by decide +kernel
theorem dX12_layReached_8 : decode cX12_layReached 8 = .ok (.ifCond .eq 42, 3) := by decide +kernel
theorem dX12_layReached_11 : decode cX12_layReached 11 = .ok (.iconst 0, 1) := by decide +kernel
theorem dX12_layReached_12 : decode cX12_layReached 12 = .ok (.istore_n 2, 1) := by decide +kernel
theorem dX12_layReached_13 : decode cX12_layReached 13 = .ok (.iconst 0, 1) := by decide +kernel
theorem dX12_layReached_14 : decode cX12_layReached 14 = .ok (.istore_n 3, 1) := by decide +kernel
theorem dX12_layReached_15 : decode cX12_layReached 15 = .ok (.iload_n 3, 1) := by decide +kernel
theorem dX12_layReached_16 : decode cX12_layReached 16 = .ok (.aload_n 0, 1) := by decide +kernel
theorem dX12_layReached_17 : decode cX12_layReached 17 = .ok (.getfield 205, 3) := by decide +kernel
theorem dX12_layReached_20 : decode cX12_layReached 20 = .ok (.if_icmp .ge 27, 3) := by decide +kernel
theorem dX12_layReached_23 : decode cX12_layReached 23 = .ok (.aload_n 0, 1) := by decide +kernel
theorem dX12_layReached_24 : decode cX12_layReached 24 = .ok (.iload_n 3, 1) := by decide +kernel
theorem dX12_layReached_25 : decode cX12_layReached 25 = .ok (.invokevirtual 289, 3) := by decide +kernel
theorem dX12_layReached_28 : decode cX12_layReached 28 = .ok (.ifCond .ne 7, 3) := by decide +kernel
theorem dX12_layReached_31 : decode cX12_layReached 31 = .ok (.iload_n 2, 1) := by decide +kernel
theorem dX12_layReached_32 : decode cX12_layReached 32 = .ok (.ifCond .eq 7, 3) := by decide +kernel
theorem dX12_layReached_35 : decode cX12_layReached 35 = .ok (.iconst 1, 1) := by decide +kernel
theorem dX12_layReached_36 : decode cX12_layReached 36 = .ok (.goto 4, 3) := by decide +kernel
theorem dX12_layReached_39 : decode cX12_layReached 39 = .ok (.iconst 0, 1) := by decide +kernel
theorem dX12_layReached_40 : decode cX12_layReached 40 = .ok (.istore_n 2, 1) := by decide +kernel
theorem dX12_layReached_41 : decode cX12_layReached 41 = .ok (.iinc 3 1, 3) := by decide +kernel
theorem dX12_layReached_44 : decode cX12_layReached 44 = .ok (.goto (-29), 3) := by decide +kernel
theorem dX12_layReached_47 : decode cX12_layReached 47 = .ok (.goto (-40), 3) := by decide +kernel
theorem dX12_layReached_50 : decode cX12_layReached 50 = .ok (.return_, 1) := by decide +kernel
theorem dX12_nodeOf_0 : decode cX12_nodeOf 0 = .ok (.bipush (-9), 2) := by decide +kernel
theorem dX12_nodeOf_2 : decode cX12_nodeOf 2 = .ok (.istore_n 3, 1) := by decide +kernel
theorem dX12_nodeOf_3 : decode cX12_nodeOf 3 = .ok (.iconst 0, 1) := by decide +kernel
theorem dX12_nodeOf_4 : decode cX12_nodeOf 4 = .ok (.istore 4, 2) := by decide +kernel
theorem dX12_nodeOf_6 : decode cX12_nodeOf 6 = .ok (.iload 4, 2) := by decide +kernel
theorem dX12_nodeOf_8 : decode cX12_nodeOf 8 = .ok (.aload_n 0, 1) := by decide +kernel
theorem dX12_nodeOf_9 : decode cX12_nodeOf 9 = .ok (.getfield 205, 3) := by decide +kernel
theorem dX12_nodeOf_12 : decode cX12_nodeOf 12 = .ok (.if_icmp .ge 38, 3) := by decide +kernel
theorem dX12_nodeOf_15 : decode cX12_nodeOf 15 = .ok (.aload_n 0, 1) := by decide +kernel
theorem dX12_nodeOf_16 : decode cX12_nodeOf 16 = .ok (.getfield 13, 3) := by decide +kernel
theorem dX12_nodeOf_19 : decode cX12_nodeOf 19 = .ok (.iload 4, 2) := by decide +kernel
theorem dX12_nodeOf_21 : decode cX12_nodeOf 21 = .ok (.iaload, 1) := by decide +kernel
theorem dX12_nodeOf_22 : decode cX12_nodeOf 22 = .ok (.iload_n 1, 1) := by decide +kernel
theorem dX12_nodeOf_23 : decode cX12_nodeOf 23 = .ok (.if_icmp .ne 19, 3) := by decide +kernel
theorem dX12_nodeOf_26 : decode cX12_nodeOf 26 = .ok (.aload_n 0, 1) := by decide +kernel
theorem dX12_nodeOf_27 : decode cX12_nodeOf 27 = .ok (.getfield 25, 3) := by decide +kernel
theorem dX12_nodeOf_30 : decode cX12_nodeOf 30 = .ok (.iload 4, 2) := by decide +kernel
theorem dX12_nodeOf_32 : decode cX12_nodeOf 32 = .ok (.iaload, 1) := by decide +kernel
theorem dX12_nodeOf_33 : decode cX12_nodeOf 33 = .ok (.iload_n 2, 1) := by decide +kernel
theorem dX12_nodeOf_34 : decode cX12_nodeOf 34 = .ok (.if_icmp .ne 8, 3) := by decide +kernel
theorem dX12_nodeOf_37 : decode cX12_nodeOf 37 = .ok (.iload 4, 2) := by decide +kernel
theorem dX12_nodeOf_39 : decode cX12_nodeOf 39 = .ok (.goto 4, 3) := by decide +kernel
theorem dX12_nodeOf_42 : decode cX12_nodeOf 42 = .ok (.iload_n 3, 1) := by decide +kernel
theorem dX12_nodeOf_43 : decode cX12_nodeOf 43 = .ok (.istore_n 3, 1) := by decide +kernel
theorem dX12_nodeOf_44 : decode cX12_nodeOf 44 = .ok (.iinc 4 1, 3) := by decide +kernel
theorem dX12_nodeOf_47 : decode cX12_nodeOf 47 = .ok (.goto (-41), 3) := by decide +kernel
theorem dX12_nodeOf_50 : decode cX12_nodeOf 50 = .ok (.iload_n 3, 1) := by decide +kernel
theorem dX12_nodeOf_51 : decode cX12_nodeOf 51 = .ok (.ireturn, 1) := by decide +kernel
theorem dX12_failing_0 : decode cX12_failing 0 = .ok (.aload_n 0, 1) := by decide +kernel
theorem dX12_failing_1 : decode cX12_failing 1 = .ok (.iconst 5, 1) := by decide +kernel
theorem dX12_failing_2 : decode cX12_failing 2 = .ok (.iload_n 1, 1) := by decide +kernel
theorem dX12_failing_3 : decode cX12_failing 3 = .ok (.invokevirtual 292, 3) := by decide +kernel
theorem dX12_failing_6 : decode cX12_failing 6 = .ok (.istore_n 2, 1) := by decide +kernel
theorem dX12_failing_7 : decode cX12_failing 7 = .ok (.iconst 0, 1) := by decide +kernel
theorem dX12_failing_8 : decode cX12_failing 8 = .ok (.istore_n 3, 1) := by decide +kernel
theorem dX12_failing_9 : decode cX12_failing 9 = .ok (.iload_n 3, 1) := by decide +kernel
theorem dX12_failing_10 : decode cX12_failing 10 = .ok (.sipush 216, 3) := by decide +kernel
theorem dX12_failing_13 : decode cX12_failing 13 = .ok (.if_icmp .ge 32, 3) := by decide +kernel
theorem dX12_failing_16 : decode cX12_failing 16 = .ok (.aload_n 0, 1) := by decide +kernel
theorem dX12_failing_17 : decode cX12_failing 17 = .ok (.iload_n 2, 1) := by decide +kernel
theorem dX12_failing_18 : decode cX12_failing 18 = .ok (.iload_n 3, 1) := by decide +kernel
theorem dX12_failing_19 : decode cX12_failing 19 = .ok (.invokevirtual 246, 3) := by decide +kernel
theorem dX12_failing_22 : decode cX12_failing 22 = .ok (.ifCond .eq 17, 3) := by decide +kernel
theorem dX12_failing_25 : decode cX12_failing 25 = .ok (.aload_n 0, 1) := by decide +kernel
theorem dX12_failing_26 : decode cX12_failing 26 = .ok (.iload_n 2, 1) := by decide +kernel
theorem dX12_failing_27 : decode cX12_failing 27 = .ok (.iload_n 3, 1) := by decide +kernel
theorem dX12_failing_28 : decode cX12_failing 28 = .ok (.invokevirtual 255, 3) := by decide +kernel
theorem dX12_failing_31 : decode cX12_failing 31 = .ok (.ifCond .ne 8, 3) := by decide +kernel
theorem dX12_failing_34 : decode cX12_failing 34 = .ok (.iload_n 3, 1) := by decide +kernel
theorem dX12_failing_35 : decode cX12_failing 35 = .ok (.invokestatic 295, 3) := by decide +kernel
theorem dX12_failing_38 : decode cX12_failing 38 = .ok (.ireturn, 1) := by decide +kernel
theorem dX12_failing_39 : decode cX12_failing 39 = .ok (.iinc 3 1, 3) := by decide +kernel
theorem dX12_failing_42 : decode cX12_failing 42 = .ok (.goto (-33), 3) := by decide +kernel
theorem dX12_failing_45 : decode cX12_failing 45 = .ok (.bipush (-9), 2) := by decide +kernel
theorem dX12_failing_47 : decode cX12_failing 47 = .ok (.ireturn, 1) := by decide +kernel
theorem dX12_fine_0 : decode cX12_fine 0 = .ok (.iconst 0, 1) := by decide +kernel
theorem dX12_fine_1 : decode cX12_fine 1 = .ok (.istore_n 1, 1) := by decide +kernel
theorem dX12_fine_2 : decode cX12_fine 2 = .ok (.iconst 0, 1) := by decide +kernel
theorem dX12_fine_3 : decode cX12_fine 3 = .ok (.istore_n 2, 1) := by decide +kernel
theorem dX12_fine_4 : decode cX12_fine 4 = .ok (.iload_n 2, 1) := by decide +kernel
theorem dX12_fine_5 : decode cX12_fine 5 = .ok (.aload_n 0, 1) := by decide +kernel
theorem dX12_fine_6 : decode cX12_fine 6 = .ok (.getfield 208, 3) := by decide +kernel
theorem dX12_fine_9 : decode cX12_fine 9 = .ok (.if_icmp .ge 29, 3) := by decide +kernel
theorem dX12_fine_12 : decode cX12_fine 12 = .ok (.iload_n 1, 1) := by decide +kernel
theorem dX12_fine_13 : decode cX12_fine 13 = .ok (.aload_n 0, 1) := by decide +kernel
theorem dX12_fine_14 : decode cX12_fine 14 = .ok (.iload_n 2, 1) := by decide +kernel
theorem dX12_fine_15 : decode cX12_fine 15 = .ok (.invokevirtual 298, 3) := by decide +kernel
theorem dX12_fine_18 : decode cX12_fine 18 = .ok (.bipush (-9), 2) := by decide +kernel
theorem dX12_fine_20 : decode cX12_fine 20 = .ok (.if_icmp .ne 9, 3) := by decide +kernel
theorem dX12_fine_23 : decode cX12_fine 23 = .ok (.iconst 1, 1) := by decide +kernel
theorem dX12_fine_24 : decode cX12_fine 24 = .ok (.iload_n 2, 1) := by decide +kernel
theorem dX12_fine_25 : decode cX12_fine 25 = .ok (.ishl, 1) := by decide +kernel
theorem dX12_fine_26 : decode cX12_fine 26 = .ok (.goto 4, 3) := by decide +kernel
theorem dX12_fine_29 : decode cX12_fine 29 = .ok (.iconst 0, 1) := by decide +kernel
theorem dX12_fine_30 : decode cX12_fine 30 = .ok (.ior, 1) := by decide +kernel
theorem dX12_fine_31 : decode cX12_fine 31 = .ok (.istore_n 1, 1) := by decide +kernel
theorem dX12_fine_32 : decode cX12_fine 32 = .ok (.iinc 2 1, 3) := by decide +kernel
theorem dX12_fine_35 : decode cX12_fine 35 = .ok (.goto (-31), 3) := by decide +kernel
theorem dX12_fine_38 : decode cX12_fine 38 = .ok (.iload_n 1, 1) := by decide +kernel
theorem dX12_fine_39 : decode cX12_fine 39 = .ok (.ireturn, 1) := by decide +kernel
theorem dX12_provedBy_0 : decode cX12_provedBy 0 = .ok (.aload_n 0, 1) := by decide +kernel
theorem dX12_provedBy_1 : decode cX12_provedBy 1 = .ok (.aload_n 1, 1) := by decide +kernel
theorem dX12_provedBy_2 : decode cX12_provedBy 2 = .ok (.iload_n 2, 1) := by decide +kernel
theorem dX12_provedBy_3 : decode cX12_provedBy 3 = .ok (.invokevirtual 285, 3) := by decide +kernel
theorem dX12_provedBy_6 : decode cX12_provedBy 6 = .ok (.aload_n 0, 1) := by decide +kernel
theorem dX12_provedBy_7 : decode cX12_provedBy 7 = .ok (.invokevirtual 301, 3) := by decide +kernel
theorem dX12_provedBy_10 : decode cX12_provedBy 10 = .ok (.invokestatic 304, 3) := by decide +kernel
theorem dX12_provedBy_13 : decode cX12_provedBy 13 = .ok (.ireturn, 1) := by decide +kernel
theorem dX12_about_0 : decode cX12_about 0 = .ok (.iload_n 1, 1) := by decide +kernel
theorem dX12_about_1 : decode cX12_about 1 = .ok (.tableswitch 165 0 11 #[63, 68, 73, 78, 83, 90, 103, 116, 133, 150, 155, 160], 63) := by decide +kernel
theorem dX12_about_64 : decode cX12_about 64 = .ok (.aload_n 0, 1) := by decide +kernel
theorem dX12_about_65 : decode cX12_about 65 = .ok (.getfield 208, 3) := by decide +kernel
theorem dX12_about_68 : decode cX12_about 68 = .ok (.ireturn, 1) := by decide +kernel
theorem dX12_about_69 : decode cX12_about 69 = .ok (.aload_n 0, 1) := by decide +kernel
theorem dX12_about_70 : decode cX12_about 70 = .ok (.getfield 211, 3) := by decide +kernel
theorem dX12_about_73 : decode cX12_about 73 = .ok (.ireturn, 1) := by decide +kernel
theorem dX12_about_74 : decode cX12_about 74 = .ok (.aload_n 0, 1) := by decide +kernel
theorem dX12_about_75 : decode cX12_about 75 = .ok (.getfield 214, 3) := by decide +kernel
theorem dX12_about_78 : decode cX12_about 78 = .ok (.ireturn, 1) := by decide +kernel
theorem dX12_about_79 : decode cX12_about 79 = .ok (.aload_n 0, 1) := by decide +kernel
theorem dX12_about_80 : decode cX12_about 80 = .ok (.getfield 217, 3) := by decide +kernel
theorem dX12_about_83 : decode cX12_about 83 = .ok (.ireturn, 1) := by decide +kernel
theorem dX12_about_84 : decode cX12_about 84 = .ok (.aload_n 0, 1) := by decide +kernel
theorem dX12_about_85 : decode cX12_about 85 = .ok (.getfield 70, 3) := by decide +kernel
theorem dX12_about_88 : decode cX12_about 88 = .ok (.iconst 3, 1) := by decide +kernel
theorem dX12_about_89 : decode cX12_about 89 = .ok (.iaload, 1) := by decide +kernel
theorem dX12_about_90 : decode cX12_about 90 = .ok (.ireturn, 1) := by decide +kernel
theorem dX12_about_91 : decode cX12_about 91 = .ok (.aload_n 0, 1) := by decide +kernel
theorem dX12_about_92 : decode cX12_about 92 = .ok (.aload_n 0, 1) := by decide +kernel
theorem dX12_about_93 : decode cX12_about 93 = .ok (.getfield 70, 3) := by decide +kernel
theorem dX12_about_96 : decode cX12_about 96 = .ok (.invokevirtual 307, 3) := by decide +kernel
theorem dX12_about_99 : decode cX12_about 99 = .ok (.aload_n 0, 1) := by decide +kernel
theorem dX12_about_100 : decode cX12_about 100 = .ok (.invokevirtual 301, 3) := by decide +kernel
theorem dX12_about_103 : decode cX12_about 103 = .ok (.ireturn, 1) := by decide +kernel
theorem dX12_about_104 : decode cX12_about 104 = .ok (.aload_n 0, 1) := by decide +kernel
theorem dX12_about_105 : decode cX12_about 105 = .ok (.aload_n 0, 1) := by decide +kernel
theorem dX12_about_106 : decode cX12_about 106 = .ok (.getfield 70, 3) := by decide +kernel
theorem dX12_about_109 : decode cX12_about 109 = .ok (.invokevirtual 310, 3) := by decide +kernel
theorem dX12_about_112 : decode cX12_about 112 = .ok (.aload_n 0, 1) := by decide +kernel
theorem dX12_about_113 : decode cX12_about 113 = .ok (.invokevirtual 301, 3) := by decide +kernel
theorem dX12_about_116 : decode cX12_about 116 = .ok (.ireturn, 1) := by decide +kernel
theorem dX12_about_117 : decode cX12_about 117 = .ok (.aload_n 0, 1) := by decide +kernel
theorem dX12_about_118 : decode cX12_about 118 = .ok (.aload_n 0, 1) := by decide +kernel
theorem dX12_about_119 : decode cX12_about 119 = .ok (.getfield 70, 3) := by decide +kernel
theorem dX12_about_122 : decode cX12_about 122 = .ok (.invokevirtual 307, 3) := by decide +kernel
theorem dX12_about_125 : decode cX12_about 125 = .ok (.aload_n 0, 1) := by decide +kernel
theorem dX12_about_126 : decode cX12_about 126 = .ok (.aload_n 0, 1) := by decide +kernel
theorem dX12_about_127 : decode cX12_about 127 = .ok (.getfield 205, 3) := by decide +kernel
theorem dX12_about_130 : decode cX12_about 130 = .ok (.invokevirtual 313, 3) := by decide +kernel
theorem dX12_about_133 : decode cX12_about 133 = .ok (.ireturn, 1) := by decide +kernel
theorem dX12_about_134 : decode cX12_about 134 = .ok (.aload_n 0, 1) := by decide +kernel
theorem dX12_about_135 : decode cX12_about 135 = .ok (.aload_n 0, 1) := by decide +kernel
theorem dX12_about_136 : decode cX12_about 136 = .ok (.getfield 70, 3) := by decide +kernel
theorem dX12_about_139 : decode cX12_about 139 = .ok (.invokevirtual 310, 3) := by decide +kernel
theorem dX12_about_142 : decode cX12_about 142 = .ok (.aload_n 0, 1) := by decide +kernel
theorem dX12_about_143 : decode cX12_about 143 = .ok (.aload_n 0, 1) := by decide +kernel
theorem dX12_about_144 : decode cX12_about 144 = .ok (.getfield 205, 3) := by decide +kernel
theorem dX12_about_147 : decode cX12_about 147 = .ok (.invokevirtual 313, 3) := by decide +kernel
theorem dX12_about_150 : decode cX12_about 150 = .ok (.ireturn, 1) := by decide +kernel
theorem dX12_about_151 : decode cX12_about 151 = .ok (.aload_n 0, 1) := by decide +kernel
theorem dX12_about_152 : decode cX12_about 152 = .ok (.getfield 223, 3) := by decide +kernel
theorem dX12_about_155 : decode cX12_about 155 = .ok (.ireturn, 1) := by decide +kernel
theorem dX12_about_156 : decode cX12_about 156 = .ok (.aload_n 0, 1) := by decide +kernel
theorem dX12_about_157 : decode cX12_about 157 = .ok (.getfield 316, 3) := by decide +kernel
theorem dX12_about_160 : decode cX12_about 160 = .ok (.ireturn, 1) := by decide +kernel
theorem dX12_about_161 : decode cX12_about 161 = .ok (.aload_n 0, 1) := by decide +kernel
theorem dX12_about_162 : decode cX12_about 162 = .ok (.getfield 118, 3) := by decide +kernel
theorem dX12_about_165 : decode cX12_about 165 = .ok (.ireturn, 1) := by decide +kernel
theorem dX12_about_166 : decode cX12_about 166 = .ok (.bipush (-2), 2) := by decide +kernel
theorem dX12_about_168 : decode cX12_about 168 = .ok (.ireturn, 1) := by decide +kernel
theorem dX12_manyGuessed_0 : decode cX12_manyGuessed 0 = .ok (.iconst 0, 1) := by decide +kernel
theorem dX12_manyGuessed_1 : decode cX12_manyGuessed 1 = .ok (.istore_n 2, 1) := by decide +kernel
theorem dX12_manyGuessed_2 : decode cX12_manyGuessed 2 = .ok (.iconst 0, 1) := by decide +kernel
theorem dX12_manyGuessed_3 : decode cX12_manyGuessed 3 = .ok (.istore_n 3, 1) := by decide +kernel
theorem dX12_manyGuessed_4 : decode cX12_manyGuessed 4 = .ok (.iload_n 3, 1) := by decide +kernel
theorem dX12_manyGuessed_5 : decode cX12_manyGuessed 5 = .ok (.sipush 216, 3) := by decide +kernel
theorem dX12_manyGuessed_8 : decode cX12_manyGuessed 8 = .ok (.if_icmp .ge 26, 3) := by decide +kernel
theorem dX12_manyGuessed_11 : decode cX12_manyGuessed 11 = .ok (.iload_n 2, 1) := by decide +kernel
theorem dX12_manyGuessed_12 : decode cX12_manyGuessed 12 = .ok (.aload_n 0, 1) := by decide +kernel
theorem dX12_manyGuessed_13 : decode cX12_manyGuessed 13 = .ok (.iload_n 1, 1) := by decide +kernel
theorem dX12_manyGuessed_14 : decode cX12_manyGuessed 14 = .ok (.iload_n 3, 1) := by decide +kernel
theorem dX12_manyGuessed_15 : decode cX12_manyGuessed 15 = .ok (.invokevirtual 266, 3) := by decide +kernel
theorem dX12_manyGuessed_18 : decode cX12_manyGuessed 18 = .ok (.ifCond .eq 7, 3) := by decide +kernel
theorem dX12_manyGuessed_21 : decode cX12_manyGuessed 21 = .ok (.iconst 1, 1) := by decide +kernel
theorem dX12_manyGuessed_22 : decode cX12_manyGuessed 22 = .ok (.goto 4, 3) := by decide +kernel
theorem dX12_manyGuessed_25 : decode cX12_manyGuessed 25 = .ok (.iconst 0, 1) := by decide +kernel
theorem dX12_manyGuessed_26 : decode cX12_manyGuessed 26 = .ok (.iadd, 1) := by decide +kernel
theorem dX12_manyGuessed_27 : decode cX12_manyGuessed 27 = .ok (.istore_n 2, 1) := by decide +kernel
theorem dX12_manyGuessed_28 : decode cX12_manyGuessed 28 = .ok (.iinc 3 1, 3) := by decide +kernel
theorem dX12_manyGuessed_31 : decode cX12_manyGuessed 31 = .ok (.goto (-27), 3) := by decide +kernel
theorem dX12_manyGuessed_34 : decode cX12_manyGuessed 34 = .ok (.iload_n 2, 1) := by decide +kernel
theorem dX12_manyGuessed_35 : decode cX12_manyGuessed 35 = .ok (.ireturn, 1) := by decide +kernel
theorem dX12_loop_0 : decode cX12_loop 0 = .ok (.iload_n 1, 1) := by decide +kernel
theorem dX12_loop_1 : decode cX12_loop 1 = .ok (.i2l, 1) := by decide +kernel
theorem dX12_loop_2 : decode cX12_loop 2 = .ok (.lconst 0, 1) := by decide +kernel
theorem dX12_loop_3 : decode cX12_loop 3 = .ok (.aload_n 0, 1) := by decide +kernel
theorem dX12_loop_4 : decode cX12_loop 4 = .ok (.getfield 211, 3) := by decide +kernel
theorem dX12_loop_7 : decode cX12_loop 7 = .ok (.iconst 1, 1) := by decide +kernel
theorem dX12_loop_8 : decode cX12_loop 8 = .ok (.isub, 1) := by decide +kernel
theorem dX12_loop_9 : decode cX12_loop 9 = .ok (.i2l, 1) := by decide +kernel
theorem dX12_loop_10 : decode cX12_loop 10 = .ok (.invokestatic 114, 3) := by decide +kernel
theorem dX12_loop_13 : decode cX12_loop 13 = .ok (.ifCond .ne 5, 3) := by decide +kernel
theorem dX12_loop_16 : decode cX12_loop 16 = .ok (.iconst (-1), 1) := by decide +kernel
theorem dX12_loop_17 : decode cX12_loop 17 = .ok (.ireturn, 1) := by decide +kernel
theorem dX12_loop_18 : decode cX12_loop 18 = .ok (.iload_n 2, 1) := by decide +kernel
theorem dX12_loop_19 : decode cX12_loop 19 = .ok (.i2l, 1) := by decide +kernel
theorem dX12_loop_20 : decode cX12_loop 20 = .ok (.lconst 0, 1) := by decide +kernel
theorem dX12_loop_21 : decode cX12_loop 21 = .ok (.ldc2_w 319, 3) := by decide +kernel
theorem dX12_loop_24 : decode cX12_loop 24 = .ok (.invokestatic 114, 3) := by decide +kernel
theorem dX12_loop_27 : decode cX12_loop 27 = .ok (.ifCond .ne 6, 3) := by decide +kernel
theorem dX12_loop_30 : decode cX12_loop 30 = .ok (.bipush (-2), 2) := by decide +kernel
theorem dX12_loop_32 : decode cX12_loop 32 = .ok (.ireturn, 1) := by decide +kernel
theorem dX12_loop_33 : decode cX12_loop 33 = .ok (.aload_n 0, 1) := by decide +kernel
theorem dX12_loop_34 : decode cX12_loop 34 = .ok (.bipush 6, 2) := by decide +kernel
theorem dX12_loop_36 : decode cX12_loop 36 = .ok (.iload_n 1, 1) := by decide +kernel
theorem dX12_loop_37 : decode cX12_loop 37 = .ok (.invokevirtual 292, 3) := by decide +kernel
theorem dX12_loop_40 : decode cX12_loop 40 = .ok (.istore_n 3, 1) := by decide +kernel
theorem dX12_loop_41 : decode cX12_loop 41 = .ok (.iload_n 2, 1) := by decide +kernel
theorem dX12_loop_42 : decode cX12_loop 42 = .ok (.iconst 2, 1) := by decide +kernel
theorem dX12_loop_43 : decode cX12_loop 43 = .ok (.if_icmp .ne 17, 3) := by decide +kernel
theorem dX12_loop_46 : decode cX12_loop 46 = .ok (.aload_n 0, 1) := by decide +kernel
theorem dX12_loop_47 : decode cX12_loop 47 = .ok (.aload_n 0, 1) := by decide +kernel
theorem dX12_loop_48 : decode cX12_loop 48 = .ok (.getfield 70, 3) := by decide +kernel
theorem dX12_loop_51 : decode cX12_loop 51 = .ok (.invokevirtual 310, 3) := by decide +kernel
theorem dX12_loop_54 : decode cX12_loop 54 = .ok (.aload_n 0, 1) := by decide +kernel
theorem dX12_loop_55 : decode cX12_loop 55 = .ok (.iload_n 3, 1) := by decide +kernel
theorem dX12_loop_56 : decode cX12_loop 56 = .ok (.invokevirtual 313, 3) := by decide +kernel
theorem dX12_loop_59 : decode cX12_loop 59 = .ok (.ireturn, 1) := by decide +kernel
theorem dX12_loop_60 : decode cX12_loop 60 = .ok (.aload_n 0, 1) := by decide +kernel
theorem dX12_loop_61 : decode cX12_loop 61 = .ok (.aload_n 0, 1) := by decide +kernel
theorem dX12_loop_62 : decode cX12_loop 62 = .ok (.getfield 70, 3) := by decide +kernel
theorem dX12_loop_65 : decode cX12_loop 65 = .ok (.invokevirtual 307, 3) := by decide +kernel
theorem dX12_loop_68 : decode cX12_loop 68 = .ok (.iload_n 2, 1) := by decide +kernel
theorem dX12_loop_69 : decode cX12_loop 69 = .ok (.ifCond .ne 12, 3) := by decide +kernel
theorem dX12_loop_72 : decode cX12_loop 72 = .ok (.aload_n 0, 1) := by decide +kernel
theorem dX12_loop_73 : decode cX12_loop 73 = .ok (.getfield 99, 3) := by decide +kernel
theorem dX12_loop_76 : decode cX12_loop 76 = .ok (.iload_n 1, 1) := by decide +kernel
theorem dX12_loop_77 : decode cX12_loop 77 = .ok (.iaload, 1) := by decide +kernel
theorem dX12_loop_78 : decode cX12_loop 78 = .ok (.goto 26, 3) := by decide +kernel
theorem dX12_loop_81 : decode cX12_loop 81 = .ok (.iload_n 2, 1) := by decide +kernel
theorem dX12_loop_82 : decode cX12_loop 82 = .ok (.iconst 1, 1) := by decide +kernel
theorem dX12_loop_83 : decode cX12_loop 83 = .ok (.if_icmp .ne 16, 3) := by decide +kernel
theorem dX12_loop_86 : decode cX12_loop 86 = .ok (.aload_n 0, 1) := by decide +kernel
theorem dX12_loop_87 : decode cX12_loop 87 = .ok (.aload_n 0, 1) := by decide +kernel
theorem dX12_loop_88 : decode cX12_loop 88 = .ok (.getfield 99, 3) := by decide +kernel
theorem dX12_loop_91 : decode cX12_loop 91 = .ok (.iload_n 1, 1) := by decide +kernel
theorem dX12_loop_92 : decode cX12_loop 92 = .ok (.iaload, 1) := by decide +kernel
theorem dX12_loop_93 : decode cX12_loop 93 = .ok (.invokevirtual 321, 3) := by decide +kernel
theorem dX12_loop_96 : decode cX12_loop 96 = .ok (.goto 8, 3) := by decide +kernel
theorem dX12_loop_99 : decode cX12_loop 99 = .ok (.aload_n 0, 1) := by decide +kernel
theorem dX12_loop_100 : decode cX12_loop 100 = .ok (.iload_n 3, 1) := by decide +kernel
theorem dX12_loop_101 : decode cX12_loop 101 = .ok (.invokevirtual 313, 3) := by decide +kernel
theorem dX12_loop_104 : decode cX12_loop 104 = .ok (.ireturn, 1) := by decide +kernel
theorem dX12_check_0 : decode cX12_check 0 = .ok (.iload_n 1, 1) := by decide +kernel
theorem dX12_check_1 : decode cX12_check 1 = .ok (.i2l, 1) := by decide +kernel
theorem dX12_check_2 : decode cX12_check 2 = .ok (.lconst 0, 1) := by decide +kernel
theorem dX12_check_3 : decode cX12_check 3 = .ok (.aload_n 0, 1) := by decide +kernel
theorem dX12_check_4 : decode cX12_check 4 = .ok (.getfield 208, 3) := by decide +kernel
theorem dX12_check_7 : decode cX12_check 7 = .ok (.iconst 1, 1) := by decide +kernel
theorem dX12_check_8 : decode cX12_check 8 = .ok (.isub, 1) := by decide +kernel
theorem dX12_check_9 : decode cX12_check 9 = .ok (.i2l, 1) := by decide +kernel
theorem dX12_check_10 : decode cX12_check 10 = .ok (.invokestatic 114, 3) := by decide +kernel
theorem dX12_check_13 : decode cX12_check 13 = .ok (.ifCond .ne 5, 3) := by decide +kernel
theorem dX12_check_16 : decode cX12_check 16 = .ok (.iconst (-1), 1) := by decide +kernel
theorem dX12_check_17 : decode cX12_check 17 = .ok (.ireturn, 1) := by decide +kernel
theorem dX12_check_18 : decode cX12_check 18 = .ok (.iload_n 2, 1) := by decide +kernel
theorem dX12_check_19 : decode cX12_check 19 = .ok (.i2l, 1) := by decide +kernel
theorem dX12_check_20 : decode cX12_check 20 = .ok (.lconst 0, 1) := by decide +kernel
theorem dX12_check_21 : decode cX12_check 21 = .ok (.ldc2_w 319, 3) := by decide +kernel
theorem dX12_check_24 : decode cX12_check 24 = .ok (.invokestatic 114, 3) := by decide +kernel
theorem dX12_check_27 : decode cX12_check 27 = .ok (.ifCond .ne 6, 3) := by decide +kernel
theorem dX12_check_30 : decode cX12_check 30 = .ok (.bipush (-2), 2) := by decide +kernel
theorem dX12_check_32 : decode cX12_check 32 = .ok (.ireturn, 1) := by decide +kernel
theorem dX12_check_33 : decode cX12_check 33 = .ok (.iload_n 2, 1) := by decide +kernel
theorem dX12_check_34 : decode cX12_check 34 = .ok (.iconst 2, 1) := by decide +kernel
theorem dX12_check_35 : decode cX12_check 35 = .ok (.irem, 1) := by decide +kernel
theorem dX12_check_36 : decode cX12_check 36 = .ok (.ifCond .ne 14, 3) := by decide +kernel
theorem dX12_check_39 : decode cX12_check 39 = .ok (.aload_n 0, 1) := by decide +kernel
theorem dX12_check_40 : decode cX12_check 40 = .ok (.aload_n 0, 1) := by decide +kernel
theorem dX12_check_41 : decode cX12_check 41 = .ok (.getfield 70, 3) := by decide +kernel
theorem dX12_check_44 : decode cX12_check 44 = .ok (.invokevirtual 307, 3) := by decide +kernel
theorem dX12_check_47 : decode cX12_check 47 = .ok (.goto 11, 3) := by decide +kernel
theorem dX12_check_50 : decode cX12_check 50 = .ok (.aload_n 0, 1) := by decide +kernel
theorem dX12_check_51 : decode cX12_check 51 = .ok (.aload_n 0, 1) := by decide +kernel
theorem dX12_check_52 : decode cX12_check 52 = .ok (.getfield 70, 3) := by decide +kernel
theorem dX12_check_55 : decode cX12_check 55 = .ok (.invokevirtual 310, 3) := by decide +kernel
theorem dX12_check_58 : decode cX12_check 58 = .ok (.iload_n 2, 1) := by decide +kernel
theorem dX12_check_59 : decode cX12_check 59 = .ok (.iconst 2, 1) := by decide +kernel
theorem dX12_check_60 : decode cX12_check 60 = .ok (.if_icmp .ge 16, 3) := by decide +kernel
theorem dX12_check_63 : decode cX12_check 63 = .ok (.aload_n 0, 1) := by decide +kernel
theorem dX12_check_64 : decode cX12_check 64 = .ok (.aload_n 0, 1) := by decide +kernel
theorem dX12_check_65 : decode cX12_check 65 = .ok (.iconst 5, 1) := by decide +kernel
theorem dX12_check_66 : decode cX12_check 66 = .ok (.iload_n 1, 1) := by decide +kernel
theorem dX12_check_67 : decode cX12_check 67 = .ok (.invokevirtual 292, 3) := by decide +kernel
theorem dX12_check_70 : decode cX12_check 70 = .ok (.invokevirtual 313, 3) := by decide +kernel
theorem dX12_check_73 : decode cX12_check 73 = .ok (.goto 8, 3) := by decide +kernel
theorem dX12_check_76 : decode cX12_check 76 = .ok (.aload_n 0, 1) := by decide +kernel
theorem dX12_check_77 : decode cX12_check 77 = .ok (.iload_n 1, 1) := by decide +kernel
theorem dX12_check_78 : decode cX12_check 78 = .ok (.invokevirtual 298, 3) := by decide +kernel
theorem dX12_check_81 : decode cX12_check 81 = .ok (.ireturn, 1) := by decide +kernel
theorem dX12_start_0 : decode cX12_start 0 = .ok (.iload_n 1, 1) := by decide +kernel
theorem dX12_start_1 : decode cX12_start 1 = .ok (.i2l, 1) := by decide +kernel
theorem dX12_start_2 : decode cX12_start 2 = .ok (.lconst 0, 1) := by decide +kernel
theorem dX12_start_3 : decode cX12_start 3 = .ok (.ldc2_w 324, 3) := by decide +kernel
theorem dX12_start_6 : decode cX12_start 6 = .ok (.invokestatic 114, 3) := by decide +kernel
theorem dX12_start_9 : decode cX12_start 9 = .ok (.ifCond .eq 12, 3) := by decide +kernel
theorem dX12_start_12 : decode cX12_start 12 = .ok (.aload_n 0, 1) := by decide +kernel
theorem dX12_start_13 : decode cX12_start 13 = .ok (.getfield 70, 3) := by decide +kernel
theorem dX12_start_16 : decode cX12_start 16 = .ok (.iload_n 1, 1) := by decide +kernel
theorem dX12_start_17 : decode cX12_start 17 = .ok (.iaload, 1) := by decide +kernel
theorem dX12_start_18 : decode cX12_start 18 = .ok (.goto 4, 3) := by decide +kernel
theorem dX12_start_21 : decode cX12_start 21 = .ok (.iconst (-1), 1) := by decide +kernel
theorem dX12_start_22 : decode cX12_start 22 = .ok (.ireturn, 1) := by decide +kernel
theorem dX12_note_0 : decode cX12_note 0 = .ok (.iconst 0, 1) := by decide +kernel
theorem dX12_note_1 : decode cX12_note 1 = .ok (.istore_n 1, 1) := by decide +kernel
theorem dX12_note_2 : decode cX12_note 2 = .ok (.iload_n 1, 1) := by decide +kernel
theorem dX12_note_3 : decode cX12_note 3 = .ok (.iconst 4, 1) := by decide +kernel
theorem dX12_note_4 : decode cX12_note 4 = .ok (.if_icmp .ge 28, 3) := by decide +kernel
theorem dX12_note_7 : decode cX12_note 7 = .ok (.aload_n 0, 1) := by decide +kernel
theorem dX12_note_8 : decode cX12_note 8 = .ok (.getfield 76, 3) := by decide +kernel
theorem dX12_note_11 : decode cX12_note 11 = .ok (.iconst 4, 1) := by decide +kernel
theorem dX12_note_12 : decode cX12_note 12 = .ok (.aload_n 0, 1) := by decide +kernel
theorem dX12_note_13 : decode cX12_note 13 = .ok (.getfield 326, 3) := by decide +kernel
theorem dX12_note_16 : decode cX12_note 16 = .ok (.imul, 1) := by decide +kernel
theorem dX12_note_17 : decode cX12_note 17 = .ok (.iload_n 1, 1) := by decide +kernel
theorem dX12_note_18 : decode cX12_note 18 = .ok (.iadd, 1) := by decide +kernel
theorem dX12_note_19 : decode cX12_note 19 = .ok (.aload_n 0, 1) := by decide +kernel
theorem dX12_note_20 : decode cX12_note 20 = .ok (.getfield 70, 3) := by decide +kernel
theorem dX12_note_23 : decode cX12_note 23 = .ok (.iload_n 1, 1) := by decide +kernel
theorem dX12_note_24 : decode cX12_note 24 = .ok (.iaload, 1) := by decide +kernel
theorem dX12_note_25 : decode cX12_note 25 = .ok (.iastore, 1) := by decide +kernel
theorem dX12_note_26 : decode cX12_note 26 = .ok (.iinc 1 1, 3) := by decide +kernel
theorem dX12_note_29 : decode cX12_note 29 = .ok (.goto (-27), 3) := by decide +kernel
theorem dX12_note_32 : decode cX12_note 32 = .ok (.aload_n 0, 1) := by decide +kernel
theorem dX12_note_33 : decode cX12_note 33 = .ok (.aload_n 0, 1) := by decide +kernel
theorem dX12_note_34 : decode cX12_note 34 = .ok (.getfield 326, 3) := by decide +kernel
theorem dX12_note_37 : decode cX12_note 37 = .ok (.iconst 1, 1) := by decide +kernel
theorem dX12_note_38 : decode cX12_note 38 = .ok (.iadd, 1) := by decide +kernel
theorem dX12_note_39 : decode cX12_note 39 = .ok (.bipush 14, 2) := by decide +kernel
theorem dX12_note_41 : decode cX12_note 41 = .ok (.irem, 1) := by decide +kernel
theorem dX12_note_42 : decode cX12_note 42 = .ok (.putfield 326, 3) := by decide +kernel
theorem dX12_note_45 : decode cX12_note 45 = .ok (.aload_n 0, 1) := by decide +kernel
theorem dX12_note_46 : decode cX12_note 46 = .ok (.aload_n 0, 1) := by decide +kernel
theorem dX12_note_47 : decode cX12_note 47 = .ok (.getfield 223, 3) := by decide +kernel
theorem dX12_note_50 : decode cX12_note 50 = .ok (.bipush 14, 2) := by decide +kernel
theorem dX12_note_52 : decode cX12_note 52 = .ok (.if_icmp .ge 12, 3) := by decide +kernel
theorem dX12_note_55 : decode cX12_note 55 = .ok (.aload_n 0, 1) := by decide +kernel
theorem dX12_note_56 : decode cX12_note 56 = .ok (.getfield 223, 3) := by decide +kernel
theorem dX12_note_59 : decode cX12_note 59 = .ok (.iconst 1, 1) := by decide +kernel
theorem dX12_note_60 : decode cX12_note 60 = .ok (.iadd, 1) := by decide +kernel
theorem dX12_note_61 : decode cX12_note 61 = .ok (.goto 5, 3) := by decide +kernel
theorem dX12_note_64 : decode cX12_note 64 = .ok (.bipush 14, 2) := by decide +kernel
theorem dX12_note_66 : decode cX12_note 66 = .ok (.putfield 223, 3) := by decide +kernel
theorem dX12_note_69 : decode cX12_note 69 = .ok (.return_, 1) := by decide +kernel
theorem dX12_begin_0 : decode cX12_begin 0 = .ok (.iload_n 1, 1) := by decide +kernel
theorem dX12_begin_1 : decode cX12_begin 1 = .ok (.i2l, 1) := by decide +kernel
theorem dX12_begin_2 : decode cX12_begin 2 = .ok (.lconst 0, 1) := by decide +kernel
theorem dX12_begin_3 : decode cX12_begin 3 = .ok (.ldc2_w 324, 3) := by decide +kernel
theorem dX12_begin_6 : decode cX12_begin 6 = .ok (.invokestatic 114, 3) := by decide +kernel
theorem dX12_begin_9 : decode cX12_begin 9 = .ok (.ifCond .ne 5, 3) := by decide +kernel
theorem dX12_begin_12 : decode cX12_begin 12 = .ok (.iconst (-1), 1) := by decide +kernel
theorem dX12_begin_13 : decode cX12_begin 13 = .ok (.ireturn, 1) := by decide +kernel
theorem dX12_begin_14 : decode cX12_begin 14 = .ok (.iload_n 2, 1) := by decide +kernel
theorem dX12_begin_15 : decode cX12_begin 15 = .ok (.i2l, 1) := by decide +kernel
theorem dX12_begin_16 : decode cX12_begin 16 = .ok (.lconst 0, 1) := by decide +kernel
theorem dX12_begin_17 : decode cX12_begin 17 = .ok (.ldc2_w 329, 3) := by decide +kernel
theorem dX12_begin_20 : decode cX12_begin 20 = .ok (.invokestatic 114, 3) := by decide +kernel
theorem dX12_begin_23 : decode cX12_begin 23 = .ok (.ifCond .ne 6, 3) := by decide +kernel
theorem dX12_begin_26 : decode cX12_begin 26 = .ok (.bipush (-2), 2) := by decide +kernel
theorem dX12_begin_28 : decode cX12_begin 28 = .ok (.ireturn, 1) := by decide +kernel
theorem dX12_begin_29 : decode cX12_begin 29 = .ok (.aload_n 0, 1) := by decide +kernel
theorem dX12_begin_30 : decode cX12_begin 30 = .ok (.invokevirtual 331, 3) := by decide +kernel
theorem dX12_begin_33 : decode cX12_begin 33 = .ok (.aload_n 0, 1) := by decide +kernel
theorem dX12_begin_34 : decode cX12_begin 34 = .ok (.getfield 70, 3) := by decide +kernel
theorem dX12_begin_37 : decode cX12_begin 37 = .ok (.iload_n 1, 1) := by decide +kernel
theorem dX12_begin_38 : decode cX12_begin 38 = .ok (.iaload, 1) := by decide +kernel
theorem dX12_begin_39 : decode cX12_begin 39 = .ok (.istore_n 3, 1) := by decide +kernel
theorem dX12_begin_40 : decode cX12_begin 40 = .ok (.aload_n 0, 1) := by decide +kernel
theorem dX12_begin_41 : decode cX12_begin 41 = .ok (.getfield 70, 3) := by decide +kernel
theorem dX12_begin_44 : decode cX12_begin 44 = .ok (.iload_n 1, 1) := by decide +kernel
theorem dX12_begin_45 : decode cX12_begin 45 = .ok (.iload_n 2, 1) := by decide +kernel
theorem dX12_begin_46 : decode cX12_begin 46 = .ok (.iastore, 1) := by decide +kernel
theorem dX12_begin_47 : decode cX12_begin 47 = .ok (.iload_n 3, 1) := by decide +kernel
theorem dX12_begin_48 : decode cX12_begin 48 = .ok (.ireturn, 1) := by decide +kernel
theorem dX12_turn_0 : decode cX12_turn 0 = .ok (.iload_n 1, 1) := by decide +kernel
theorem dX12_turn_1 : decode cX12_turn 1 = .ok (.i2l, 1) := by decide +kernel
theorem dX12_turn_2 : decode cX12_turn 2 = .ok (.lconst 0, 1) := by decide +kernel
theorem dX12_turn_3 : decode cX12_turn 3 = .ok (.aload_n 0, 1) := by decide +kernel
theorem dX12_turn_4 : decode cX12_turn 4 = .ok (.getfield 217, 3) := by decide +kernel
theorem dX12_turn_7 : decode cX12_turn 7 = .ok (.iconst 1, 1) := by decide +kernel
theorem dX12_turn_8 : decode cX12_turn 8 = .ok (.isub, 1) := by decide +kernel
theorem dX12_turn_9 : decode cX12_turn 9 = .ok (.i2l, 1) := by decide +kernel
theorem dX12_turn_10 : decode cX12_turn 10 = .ok (.invokestatic 114, 3) := by decide +kernel
theorem dX12_turn_13 : decode cX12_turn 13 = .ok (.ifCond .ne 5, 3) := by decide +kernel
theorem dX12_turn_16 : decode cX12_turn 16 = .ok (.iconst (-1), 1) := by decide +kernel
theorem dX12_turn_17 : decode cX12_turn 17 = .ok (.ireturn, 1) := by decide +kernel
theorem dX12_turn_18 : decode cX12_turn 18 = .ok (.aload_n 0, 1) := by decide +kernel
theorem dX12_turn_19 : decode cX12_turn 19 = .ok (.invokevirtual 331, 3) := by decide +kernel
theorem dX12_turn_22 : decode cX12_turn 22 = .ok (.aload_n 0, 1) := by decide +kernel
theorem dX12_turn_23 : decode cX12_turn 23 = .ok (.getfield 70, 3) := by decide +kernel
theorem dX12_turn_26 : decode cX12_turn 26 = .ok (.iconst 3, 1) := by decide +kernel
theorem dX12_turn_27 : decode cX12_turn 27 = .ok (.dup2, 1) := by decide +kernel
theorem dX12_turn_28 : decode cX12_turn 28 = .ok (.iaload, 1) := by decide +kernel
theorem dX12_turn_29 : decode cX12_turn 29 = .ok (.iconst 1, 1) := by decide +kernel
theorem dX12_turn_30 : decode cX12_turn 30 = .ok (.iload_n 1, 1) := by decide +kernel
theorem dX12_turn_31 : decode cX12_turn 31 = .ok (.ishl, 1) := by decide +kernel
theorem dX12_turn_32 : decode cX12_turn 32 = .ok (.ixor, 1) := by decide +kernel
theorem dX12_turn_33 : decode cX12_turn 33 = .ok (.iastore, 1) := by decide +kernel
theorem dX12_turn_34 : decode cX12_turn 34 = .ok (.aload_n 0, 1) := by decide +kernel
theorem dX12_turn_35 : decode cX12_turn 35 = .ok (.getfield 70, 3) := by decide +kernel
theorem dX12_turn_38 : decode cX12_turn 38 = .ok (.iconst 3, 1) := by decide +kernel
theorem dX12_turn_39 : decode cX12_turn 39 = .ok (.iaload, 1) := by decide +kernel
theorem dX12_turn_40 : decode cX12_turn 40 = .ok (.iload_n 1, 1) := by decide +kernel
theorem dX12_turn_41 : decode cX12_turn 41 = .ok (.ishr, 1) := by decide +kernel
theorem dX12_turn_42 : decode cX12_turn 42 = .ok (.iconst 1, 1) := by decide +kernel
theorem dX12_turn_43 : decode cX12_turn 43 = .ok (.iand, 1) := by decide +kernel
theorem dX12_turn_44 : decode cX12_turn 44 = .ok (.ireturn, 1) := by decide +kernel
theorem dX12_undo_0 : decode cX12_undo 0 = .ok (.aload_n 0, 1) := by decide +kernel
theorem dX12_undo_1 : decode cX12_undo 1 = .ok (.getfield 223, 3) := by decide +kernel
theorem dX12_undo_4 : decode cX12_undo 4 = .ok (.ifCond .ne 6, 3) := by decide +kernel
theorem dX12_undo_7 : decode cX12_undo 7 = .ok (.bipush (-3), 2) := by decide +kernel
theorem dX12_undo_9 : decode cX12_undo 9 = .ok (.ireturn, 1) := by decide +kernel
theorem dX12_undo_10 : decode cX12_undo 10 = .ok (.aload_n 0, 1) := by decide +kernel
theorem dX12_undo_11 : decode cX12_undo 11 = .ok (.dup, 1) := by decide +kernel
theorem dX12_undo_12 : decode cX12_undo 12 = .ok (.getfield 223, 3) := by decide +kernel
theorem dX12_undo_15 : decode cX12_undo 15 = .ok (.iconst 1, 1) := by decide +kernel
theorem dX12_undo_16 : decode cX12_undo 16 = .ok (.isub, 1) := by decide +kernel
theorem dX12_undo_17 : decode cX12_undo 17 = .ok (.putfield 223, 3) := by decide +kernel
theorem dX12_undo_20 : decode cX12_undo 20 = .ok (.aload_n 0, 1) := by decide +kernel
theorem dX12_undo_21 : decode cX12_undo 21 = .ok (.aload_n 0, 1) := by decide +kernel
theorem dX12_undo_22 : decode cX12_undo 22 = .ok (.getfield 326, 3) := by decide +kernel
theorem dX12_undo_25 : decode cX12_undo 25 = .ok (.bipush 14, 2) := by decide +kernel
theorem dX12_undo_27 : decode cX12_undo 27 = .ok (.iadd, 1) := by decide +kernel
theorem dX12_undo_28 : decode cX12_undo 28 = .ok (.iconst 1, 1) := by decide +kernel
theorem dX12_undo_29 : decode cX12_undo 29 = .ok (.isub, 1) := by decide +kernel
theorem dX12_undo_30 : decode cX12_undo 30 = .ok (.bipush 14, 2) := by decide +kernel
theorem dX12_undo_32 : decode cX12_undo 32 = .ok (.irem, 1) := by decide +kernel
theorem dX12_undo_33 : decode cX12_undo 33 = .ok (.putfield 326, 3) := by decide +kernel
theorem dX12_undo_36 : decode cX12_undo 36 = .ok (.iconst 0, 1) := by decide +kernel
theorem dX12_undo_37 : decode cX12_undo 37 = .ok (.istore_n 1, 1) := by decide +kernel
theorem dX12_undo_38 : decode cX12_undo 38 = .ok (.iload_n 1, 1) := by decide +kernel
theorem dX12_undo_39 : decode cX12_undo 39 = .ok (.iconst 4, 1) := by decide +kernel
theorem dX12_undo_40 : decode cX12_undo 40 = .ok (.if_icmp .ge 28, 3) := by decide +kernel
theorem dX12_undo_43 : decode cX12_undo 43 = .ok (.aload_n 0, 1) := by decide +kernel
theorem dX12_undo_44 : decode cX12_undo 44 = .ok (.getfield 70, 3) := by decide +kernel
theorem dX12_undo_47 : decode cX12_undo 47 = .ok (.iload_n 1, 1) := by decide +kernel
theorem dX12_undo_48 : decode cX12_undo 48 = .ok (.aload_n 0, 1) := by decide +kernel
theorem dX12_undo_49 : decode cX12_undo 49 = .ok (.getfield 76, 3) := by decide +kernel
theorem dX12_undo_52 : decode cX12_undo 52 = .ok (.iconst 4, 1) := by decide +kernel
theorem dX12_undo_53 : decode cX12_undo 53 = .ok (.aload_n 0, 1) := by decide +kernel
theorem dX12_undo_54 : decode cX12_undo 54 = .ok (.getfield 326, 3) := by decide +kernel
theorem dX12_undo_57 : decode cX12_undo 57 = .ok (.imul, 1) := by decide +kernel
theorem dX12_undo_58 : decode cX12_undo 58 = .ok (.iload_n 1, 1) := by decide +kernel
theorem dX12_undo_59 : decode cX12_undo 59 = .ok (.iadd, 1) := by decide +kernel
theorem dX12_undo_60 : decode cX12_undo 60 = .ok (.iaload, 1) := by decide +kernel
theorem dX12_undo_61 : decode cX12_undo 61 = .ok (.iastore, 1) := by decide +kernel
theorem dX12_undo_62 : decode cX12_undo 62 = .ok (.iinc 1 1, 3) := by decide +kernel
theorem dX12_undo_65 : decode cX12_undo 65 = .ok (.goto (-27), 3) := by decide +kernel
theorem dX12_undo_68 : decode cX12_undo 68 = .ok (.aload_n 0, 1) := by decide +kernel
theorem dX12_undo_69 : decode cX12_undo 69 = .ok (.getfield 223, 3) := by decide +kernel
theorem dX12_undo_72 : decode cX12_undo 72 = .ok (.ireturn, 1) := by decide +kernel
theorem dX12_falls_0 : decode cX12_falls 0 = .ok (.iload_n 1, 1) := by decide +kernel
theorem dX12_falls_1 : decode cX12_falls 1 = .ok (.i2l, 1) := by decide +kernel
theorem dX12_falls_2 : decode cX12_falls 2 = .ok (.lconst 0, 1) := by decide +kernel
theorem dX12_falls_3 : decode cX12_falls 3 = .ok (.aload_n 0, 1) := by decide +kernel
theorem dX12_falls_4 : decode cX12_falls 4 = .ok (.getfield 211, 3) := by decide +kernel
theorem dX12_falls_7 : decode cX12_falls 7 = .ok (.iconst 1, 1) := by decide +kernel
theorem dX12_falls_8 : decode cX12_falls 8 = .ok (.isub, 1) := by decide +kernel
theorem dX12_falls_9 : decode cX12_falls 9 = .ok (.i2l, 1) := by decide +kernel
theorem dX12_falls_10 : decode cX12_falls 10 = .ok (.invokestatic 114, 3) := by decide +kernel
theorem dX12_falls_13 : decode cX12_falls 13 = .ok (.ifCond .ne 5, 3) := by decide +kernel
theorem dX12_falls_16 : decode cX12_falls 16 = .ok (.iconst (-1), 1) := by decide +kernel
theorem dX12_falls_17 : decode cX12_falls 17 = .ok (.ireturn, 1) := by decide +kernel
theorem dX12_falls_18 : decode cX12_falls 18 = .ok (.iload_n 2, 1) := by decide +kernel
theorem dX12_falls_19 : decode cX12_falls 19 = .ok (.ifCond .lt 18, 3) := by decide +kernel
theorem dX12_falls_22 : decode cX12_falls 22 = .ok (.iload_n 2, 1) := by decide +kernel
theorem dX12_falls_23 : decode cX12_falls 23 = .ok (.aload_n 0, 1) := by decide +kernel
theorem dX12_falls_24 : decode cX12_falls 24 = .ok (.aload_n 0, 1) := by decide +kernel
theorem dX12_falls_25 : decode cX12_falls 25 = .ok (.getfield 70, 3) := by decide +kernel
theorem dX12_falls_28 : decode cX12_falls 28 = .ok (.invokevirtual 281, 3) := by decide +kernel
theorem dX12_falls_31 : decode cX12_falls 31 = .ok (.iconst (-1), 1) := by decide +kernel
theorem dX12_falls_32 : decode cX12_falls 32 = .ok (.ixor, 1) := by decide +kernel
theorem dX12_falls_33 : decode cX12_falls 33 = .ok (.iand, 1) := by decide +kernel
theorem dX12_falls_34 : decode cX12_falls 34 = .ok (.ifCond .eq 6, 3) := by decide +kernel
theorem dX12_falls_37 : decode cX12_falls 37 = .ok (.bipush (-2), 2) := by decide +kernel
theorem dX12_falls_39 : decode cX12_falls 39 = .ok (.ireturn, 1) := by decide +kernel
theorem dX12_falls_40 : decode cX12_falls 40 = .ok (.aload_n 0, 1) := by decide +kernel
theorem dX12_falls_41 : decode cX12_falls 41 = .ok (.aload_n 0, 1) := by decide +kernel
theorem dX12_falls_42 : decode cX12_falls 42 = .ok (.getfield 70, 3) := by decide +kernel
theorem dX12_falls_45 : decode cX12_falls 45 = .ok (.invokevirtual 307, 3) := by decide +kernel
theorem dX12_falls_48 : decode cX12_falls 48 = .ok (.aload_n 0, 1) := by decide +kernel
theorem dX12_falls_49 : decode cX12_falls 49 = .ok (.getfield 99, 3) := by decide +kernel
theorem dX12_falls_52 : decode cX12_falls 52 = .ok (.iload_n 1, 1) := by decide +kernel
theorem dX12_falls_53 : decode cX12_falls 53 = .ok (.iload_n 2, 1) := by decide +kernel
theorem dX12_falls_54 : decode cX12_falls 54 = .ok (.iastore, 1) := by decide +kernel
theorem dX12_falls_55 : decode cX12_falls 55 = .ok (.aload_n 0, 1) := by decide +kernel
theorem dX12_falls_56 : decode cX12_falls 56 = .ok (.aload_n 0, 1) := by decide +kernel
theorem dX12_falls_57 : decode cX12_falls 57 = .ok (.getfield 70, 3) := by decide +kernel
theorem dX12_falls_60 : decode cX12_falls 60 = .ok (.invokevirtual 275, 3) := by decide +kernel
theorem dX12_falls_63 : decode cX12_falls 63 = .ok (.aload_n 0, 1) := by decide +kernel
theorem dX12_falls_64 : decode cX12_falls 64 = .ok (.bipush 6, 2) := by decide +kernel
theorem dX12_falls_66 : decode cX12_falls 66 = .ok (.iload_n 1, 1) := by decide +kernel
theorem dX12_falls_67 : decode cX12_falls 67 = .ok (.invokevirtual 292, 3) := by decide +kernel
theorem dX12_falls_70 : decode cX12_falls 70 = .ok (.istore_n 3, 1) := by decide +kernel
theorem dX12_falls_71 : decode cX12_falls 71 = .ok (.bipush (-9), 2) := by decide +kernel
theorem dX12_falls_73 : decode cX12_falls 73 = .ok (.istore 4, 2) := by decide +kernel
theorem dX12_falls_75 : decode cX12_falls 75 = .ok (.aload_n 0, 1) := by decide +kernel
theorem dX12_falls_76 : decode cX12_falls 76 = .ok (.getfield 217, 3) := by decide +kernel
theorem dX12_falls_79 : decode cX12_falls 79 = .ok (.iconst 1, 1) := by decide +kernel
theorem dX12_falls_80 : decode cX12_falls 80 = .ok (.isub, 1) := by decide +kernel
theorem dX12_falls_81 : decode cX12_falls 81 = .ok (.istore 5, 2) := by decide +kernel
theorem dX12_falls_83 : decode cX12_falls 83 = .ok (.iload 5, 2) := by decide +kernel
theorem dX12_falls_85 : decode cX12_falls 85 = .ok (.ifCond .lt 37, 3) := by decide +kernel
theorem dX12_falls_88 : decode cX12_falls 88 = .ok (.iload_n 2, 1) := by decide +kernel
theorem dX12_falls_89 : decode cX12_falls 89 = .ok (.iload 5, 2) := by decide +kernel
theorem dX12_falls_91 : decode cX12_falls 91 = .ok (.invokestatic 236, 3) := by decide +kernel
theorem dX12_falls_94 : decode cX12_falls 94 = .ok (.ifCond .eq 18, 3) := by decide +kernel
theorem dX12_falls_97 : decode cX12_falls 97 = .ok (.aload_n 0, 1) := by decide +kernel
theorem dX12_falls_98 : decode cX12_falls 98 = .ok (.iload 5, 2) := by decide +kernel
theorem dX12_falls_100 : decode cX12_falls 100 = .ok (.iload_n 3, 1) := by decide +kernel
theorem dX12_falls_101 : decode cX12_falls 101 = .ok (.invokevirtual 272, 3) := by decide +kernel
theorem dX12_falls_104 : decode cX12_falls 104 = .ok (.ifCond .ne 8, 3) := by decide +kernel
theorem dX12_falls_107 : decode cX12_falls 107 = .ok (.iload 5, 2) := by decide +kernel
theorem dX12_falls_109 : decode cX12_falls 109 = .ok (.goto 5, 3) := by decide +kernel
theorem dX12_falls_112 : decode cX12_falls 112 = .ok (.iload 4, 2) := by decide +kernel
theorem dX12_falls_114 : decode cX12_falls 114 = .ok (.istore 4, 2) := by decide +kernel
theorem dX12_falls_116 : decode cX12_falls 116 = .ok (.iinc 5 (-1), 3) := by decide +kernel
theorem dX12_falls_119 : decode cX12_falls 119 = .ok (.goto (-36), 3) := by decide +kernel
theorem dX12_falls_122 : decode cX12_falls 122 = .ok (.iload 4, 2) := by decide +kernel
theorem dX12_falls_124 : decode cX12_falls 124 = .ok (.ireturn, 1) := by decide +kernel
theorem dX12_fewest_0 : decode cX12_fewest 0 = .ok (.iload_n 1, 1) := by decide +kernel
theorem dX12_fewest_1 : decode cX12_fewest 1 = .ok (.i2l, 1) := by decide +kernel
theorem dX12_fewest_2 : decode cX12_fewest 2 = .ok (.lconst 0, 1) := by decide +kernel
theorem dX12_fewest_3 : decode cX12_fewest 3 = .ok (.lconst 1, 1) := by decide +kernel
theorem dX12_fewest_4 : decode cX12_fewest 4 = .ok (.invokestatic 114, 3) := by decide +kernel
theorem dX12_fewest_7 : decode cX12_fewest 7 = .ok (.ifCond .ne 6, 3) := by decide +kernel
theorem dX12_fewest_10 : decode cX12_fewest 10 = .ok (.bipush (-2), 2) := by decide +kernel
theorem dX12_fewest_12 : decode cX12_fewest 12 = .ok (.ireturn, 1) := by decide +kernel
theorem dX12_fewest_13 : decode cX12_fewest 13 = .ok (.aload_n 0, 1) := by decide +kernel
theorem dX12_fewest_14 : decode cX12_fewest 14 = .ok (.aload_n 0, 1) := by decide +kernel
theorem dX12_fewest_15 : decode cX12_fewest 15 = .ok (.getfield 70, 3) := by decide +kernel
theorem dX12_fewest_18 : decode cX12_fewest 18 = .ok (.invokevirtual 281, 3) := by decide +kernel
theorem dX12_fewest_21 : decode cX12_fewest 21 = .ok (.istore_n 2, 1) := by decide +kernel
theorem dX12_fewest_22 : decode cX12_fewest 22 = .ok (.aload_n 0, 1) := by decide +kernel
theorem dX12_fewest_23 : decode cX12_fewest 23 = .ok (.aload_n 0, 1) := by decide +kernel
theorem dX12_fewest_24 : decode cX12_fewest 24 = .ok (.getfield 70, 3) := by decide +kernel
theorem dX12_fewest_27 : decode cX12_fewest 27 = .ok (.iload_n 2, 1) := by decide +kernel
theorem dX12_fewest_28 : decode cX12_fewest 28 = .ok (.invokevirtual 334, 3) := by decide +kernel
theorem dX12_fewest_31 : decode cX12_fewest 31 = .ok (.istore_n 3, 1) := by decide +kernel
theorem dX12_fewest_32 : decode cX12_fewest 32 = .ok (.iload_n 2, 1) := by decide +kernel
theorem dX12_fewest_33 : decode cX12_fewest 33 = .ok (.istore 4, 2) := by decide +kernel
theorem dX12_fewest_35 : decode cX12_fewest 35 = .ok (.iload_n 2, 1) := by decide +kernel
theorem dX12_fewest_36 : decode cX12_fewest 36 = .ok (.istore 5, 2) := by decide +kernel
theorem dX12_fewest_38 : decode cX12_fewest 38 = .ok (.iload 5, 2) := by decide +kernel
theorem dX12_fewest_40 : decode cX12_fewest 40 = .ok (.ifCond .lt 66, 3) := by decide +kernel
theorem dX12_fewest_43 : decode cX12_fewest 43 = .ok (.iload 5, 2) := by decide +kernel
theorem dX12_fewest_45 : decode cX12_fewest 45 = .ok (.iload_n 2, 1) := by decide +kernel
theorem dX12_fewest_46 : decode cX12_fewest 46 = .ok (.iconst (-1), 1) := by decide +kernel
theorem dX12_fewest_47 : decode cX12_fewest 47 = .ok (.ixor, 1) := by decide +kernel
theorem dX12_fewest_48 : decode cX12_fewest 48 = .ok (.iand, 1) := by decide +kernel
theorem dX12_fewest_49 : decode cX12_fewest 49 = .ok (.ifCond .ne 34, 3) := by decide +kernel
theorem dX12_fewest_52 : decode cX12_fewest 52 = .ok (.iload 5, 2) := by decide +kernel
theorem dX12_fewest_54 : decode cX12_fewest 54 = .ok (.invokestatic 304, 3) := by decide +kernel
theorem dX12_fewest_57 : decode cX12_fewest 57 = .ok (.iload 4, 2) := by decide +kernel
theorem dX12_fewest_59 : decode cX12_fewest 59 = .ok (.invokestatic 304, 3) := by decide +kernel
theorem dX12_fewest_62 : decode cX12_fewest 62 = .ok (.if_icmp .gt 21, 3) := by decide +kernel
theorem dX12_fewest_65 : decode cX12_fewest 65 = .ok (.aload_n 0, 1) := by decide +kernel
theorem dX12_fewest_66 : decode cX12_fewest 66 = .ok (.aload_n 0, 1) := by decide +kernel
theorem dX12_fewest_67 : decode cX12_fewest 67 = .ok (.getfield 70, 3) := by decide +kernel
theorem dX12_fewest_70 : decode cX12_fewest 70 = .ok (.iload 5, 2) := by decide +kernel
theorem dX12_fewest_72 : decode cX12_fewest 72 = .ok (.invokevirtual 334, 3) := by decide +kernel
theorem dX12_fewest_75 : decode cX12_fewest 75 = .ok (.iload_n 3, 1) := by decide +kernel
theorem dX12_fewest_76 : decode cX12_fewest 76 = .ok (.if_icmp .ne 7, 3) := by decide +kernel
theorem dX12_fewest_79 : decode cX12_fewest 79 = .ok (.iconst 1, 1) := by decide +kernel
theorem dX12_fewest_80 : decode cX12_fewest 80 = .ok (.goto 4, 3) := by decide +kernel
theorem dX12_fewest_83 : decode cX12_fewest 83 = .ok (.iconst 0, 1) := by decide +kernel
theorem dX12_fewest_84 : decode cX12_fewest 84 = .ok (.istore 6, 2) := by decide +kernel
theorem dX12_fewest_86 : decode cX12_fewest 86 = .ok (.iload 6, 2) := by decide +kernel
theorem dX12_fewest_88 : decode cX12_fewest 88 = .ok (.ifCond .eq 8, 3) := by decide +kernel
theorem dX12_fewest_91 : decode cX12_fewest 91 = .ok (.iload 5, 2) := by decide +kernel
theorem dX12_fewest_93 : decode cX12_fewest 93 = .ok (.goto 5, 3) := by decide +kernel
theorem dX12_fewest_96 : decode cX12_fewest 96 = .ok (.iload 4, 2) := by decide +kernel
theorem dX12_fewest_98 : decode cX12_fewest 98 = .ok (.istore 4, 2) := by decide +kernel
theorem dX12_fewest_100 : decode cX12_fewest 100 = .ok (.iinc 5 (-1), 3) := by decide +kernel
theorem dX12_fewest_103 : decode cX12_fewest 103 = .ok (.goto (-65), 3) := by decide +kernel
theorem dX12_fewest_106 : decode cX12_fewest 106 = .ok (.iload_n 1, 1) := by decide +kernel
theorem dX12_fewest_107 : decode cX12_fewest 107 = .ok (.ifCond .ne 11, 3) := by decide +kernel
theorem dX12_fewest_110 : decode cX12_fewest 110 = .ok (.iload 4, 2) := by decide +kernel
theorem dX12_fewest_112 : decode cX12_fewest 112 = .ok (.invokestatic 304, 3) := by decide +kernel
theorem dX12_fewest_115 : decode cX12_fewest 115 = .ok (.goto 5, 3) := by decide +kernel
theorem dX12_fewest_118 : decode cX12_fewest 118 = .ok (.iload 4, 2) := by decide +kernel
theorem dX12_fewest_120 : decode cX12_fewest 120 = .ok (.ireturn, 1) := by decide +kernel
theorem dX12_isState_0 : decode cX12_isState 0 = .ok (.iload_n 1, 1) := by decide +kernel
theorem dX12_isState_1 : decode cX12_isState 1 = .ok (.bipush 100, 2) := by decide +kernel
theorem dX12_isState_3 : decode cX12_isState 3 = .ok (.idiv, 1) := by decide +kernel
theorem dX12_isState_4 : decode cX12_isState 4 = .ok (.i2l, 1) := by decide +kernel
theorem dX12_isState_5 : decode cX12_isState 5 = .ok (.lconst 0, 1) := by decide +kernel
theorem dX12_isState_6 : decode cX12_isState 6 = .ok (.ldc2_w 338, 3) := by decide +kernel
theorem dX12_isState_9 : decode cX12_isState 9 = .ok (.invokestatic 114, 3) := by decide +kernel
theorem dX12_isState_12 : decode cX12_isState 12 = .ok (.ifCond .eq 40, 3) := by decide +kernel
theorem dX12_isState_15 : decode cX12_isState 15 = .ok (.iload_n 1, 1) := by decide +kernel
theorem dX12_isState_16 : decode cX12_isState 16 = .ok (.bipush 10, 2) := by decide +kernel
theorem dX12_isState_18 : decode cX12_isState 18 = .ok (.idiv, 1) := by decide +kernel
theorem dX12_isState_19 : decode cX12_isState 19 = .ok (.bipush 10, 2) := by decide +kernel
theorem dX12_isState_21 : decode cX12_isState 21 = .ok (.irem, 1) := by decide +kernel
theorem dX12_isState_22 : decode cX12_isState 22 = .ok (.i2l, 1) := by decide +kernel
theorem dX12_isState_23 : decode cX12_isState 23 = .ok (.lconst 0, 1) := by decide +kernel
theorem dX12_isState_24 : decode cX12_isState 24 = .ok (.ldc2_w 338, 3) := by decide +kernel
theorem dX12_isState_27 : decode cX12_isState 27 = .ok (.invokestatic 114, 3) := by decide +kernel
theorem dX12_isState_30 : decode cX12_isState 30 = .ok (.ifCond .eq 22, 3) := by decide +kernel
theorem dX12_isState_33 : decode cX12_isState 33 = .ok (.iload_n 1, 1) := by decide +kernel
theorem dX12_isState_34 : decode cX12_isState 34 = .ok (.bipush 10, 2) := by decide +kernel
theorem dX12_isState_36 : decode cX12_isState 36 = .ok (.irem, 1) := by decide +kernel
theorem dX12_isState_37 : decode cX12_isState 37 = .ok (.i2l, 1) := by decide +kernel
theorem dX12_isState_38 : decode cX12_isState 38 = .ok (.lconst 0, 1) := by decide +kernel
theorem dX12_isState_39 : decode cX12_isState 39 = .ok (.ldc2_w 338, 3) := by decide +kernel
theorem dX12_isState_42 : decode cX12_isState 42 = .ok (.invokestatic 114, 3) := by decide +kernel
theorem dX12_isState_45 : decode cX12_isState 45 = .ok (.ifCond .eq 7, 3) := by decide +kernel
theorem dX12_isState_48 : decode cX12_isState 48 = .ok (.iconst 1, 1) := by decide +kernel
theorem dX12_isState_49 : decode cX12_isState 49 = .ok (.goto 4, 3) := by decide +kernel
theorem dX12_isState_52 : decode cX12_isState 52 = .ok (.iconst 0, 1) := by decide +kernel
theorem dX12_isState_53 : decode cX12_isState 53 = .ok (.ireturn, 1) := by decide +kernel
theorem dX12_isReachedAtEnd_0 : decode cX12_isReachedAtEnd 0 = .ok (.aload_n 0, 1) := by decide +kernel
theorem dX12_isReachedAtEnd_1 : decode cX12_isReachedAtEnd 1 = .ok (.iload_n 1, 1) := by decide +kernel
theorem dX12_isReachedAtEnd_2 : decode cX12_isReachedAtEnd 2 = .ok (.invokevirtual 340, 3) := by decide +kernel
theorem dX12_isReachedAtEnd_5 : decode cX12_isReachedAtEnd 5 = .ok (.ifCond .ne 5, 3) := by decide +kernel
theorem dX12_isReachedAtEnd_8 : decode cX12_isReachedAtEnd 8 = .ok (.iconst 0, 1) := by decide +kernel
theorem dX12_isReachedAtEnd_9 : decode cX12_isReachedAtEnd 9 = .ok (.ireturn, 1) := by decide +kernel
theorem dX12_isReachedAtEnd_10 : decode cX12_isReachedAtEnd 10 = .ok (.aload_n 0, 1) := by decide +kernel
theorem dX12_isReachedAtEnd_11 : decode cX12_isReachedAtEnd 11 = .ok (.aload_n 0, 1) := by decide +kernel
theorem dX12_isReachedAtEnd_12 : decode cX12_isReachedAtEnd 12 = .ok (.getfield 73, 3) := by decide +kernel
theorem dX12_isReachedAtEnd_15 : decode cX12_isReachedAtEnd 15 = .ok (.invokevirtual 310, 3) := by decide +kernel
theorem dX12_isReachedAtEnd_18 : decode cX12_isReachedAtEnd 18 = .ok (.aload_n 0, 1) := by decide +kernel
theorem dX12_isReachedAtEnd_19 : decode cX12_isReachedAtEnd 19 = .ok (.aload_n 0, 1) := by decide +kernel
theorem dX12_isReachedAtEnd_20 : decode cX12_isReachedAtEnd 20 = .ok (.getfield 205, 3) := by decide +kernel
theorem dX12_isReachedAtEnd_23 : decode cX12_isReachedAtEnd 23 = .ok (.bipush 36, 2) := by decide +kernel
theorem dX12_isReachedAtEnd_25 : decode cX12_isReachedAtEnd 25 = .ok (.iload_n 1, 1) := by decide +kernel
theorem dX12_isReachedAtEnd_26 : decode cX12_isReachedAtEnd 26 = .ok (.bipush 100, 2) := by decide +kernel
theorem dX12_isReachedAtEnd_28 : decode cX12_isReachedAtEnd 28 = .ok (.idiv, 1) := by decide +kernel
theorem dX12_isReachedAtEnd_29 : decode cX12_isReachedAtEnd 29 = .ok (.imul, 1) := by decide +kernel
theorem dX12_isReachedAtEnd_30 : decode cX12_isReachedAtEnd 30 = .ok (.bipush 6, 2) := by decide +kernel
theorem dX12_isReachedAtEnd_32 : decode cX12_isReachedAtEnd 32 = .ok (.iload_n 1, 1) := by decide +kernel
theorem dX12_isReachedAtEnd_33 : decode cX12_isReachedAtEnd 33 = .ok (.bipush 10, 2) := by decide +kernel
theorem dX12_isReachedAtEnd_35 : decode cX12_isReachedAtEnd 35 = .ok (.idiv, 1) := by decide +kernel
theorem dX12_isReachedAtEnd_36 : decode cX12_isReachedAtEnd 36 = .ok (.bipush 10, 2) := by decide +kernel
theorem dX12_isReachedAtEnd_38 : decode cX12_isReachedAtEnd 38 = .ok (.irem, 1) := by decide +kernel
theorem dX12_isReachedAtEnd_39 : decode cX12_isReachedAtEnd 39 = .ok (.imul, 1) := by decide +kernel
theorem dX12_isReachedAtEnd_40 : decode cX12_isReachedAtEnd 40 = .ok (.iadd, 1) := by decide +kernel
theorem dX12_isReachedAtEnd_41 : decode cX12_isReachedAtEnd 41 = .ok (.iload_n 1, 1) := by decide +kernel
theorem dX12_isReachedAtEnd_42 : decode cX12_isReachedAtEnd 42 = .ok (.bipush 10, 2) := by decide +kernel
theorem dX12_isReachedAtEnd_44 : decode cX12_isReachedAtEnd 44 = .ok (.irem, 1) := by decide +kernel
theorem dX12_isReachedAtEnd_45 : decode cX12_isReachedAtEnd 45 = .ok (.iadd, 1) := by decide +kernel
theorem dX12_isReachedAtEnd_46 : decode cX12_isReachedAtEnd 46 = .ok (.invokevirtual 246, 3) := by decide +kernel
theorem dX12_isReachedAtEnd_49 : decode cX12_isReachedAtEnd 49 = .ok (.ireturn, 1) := by decide +kernel
theorem dX12_judged_0 : decode cX12_judged 0 = .ok (.iload_n 1, 1) := by decide +kernel
theorem dX12_judged_1 : decode cX12_judged 1 = .ok (.tableswitch 317 1 6 #[39, 67, 112, 175, 238, 300], 39) := by decide +kernel
theorem dX12_judged_40 : decode cX12_judged 40 = .ok (.iload_n 2, 1) := by decide +kernel
theorem dX12_judged_41 : decode cX12_judged 41 = .ok (.iconst 2, 1) := by decide +kernel
theorem dX12_judged_42 : decode cX12_judged 42 = .ok (.if_icmp .gt 14, 3) := by decide +kernel
theorem dX12_judged_45 : decode cX12_judged 45 = .ok (.iload_n 3, 1) := by decide +kernel
theorem dX12_judged_46 : decode cX12_judged 46 = .ok (.ifCond .ne 10, 3) := by decide +kernel
theorem dX12_judged_49 : decode cX12_judged 49 = .ok (.iload 4, 2) := by decide +kernel
theorem dX12_judged_51 : decode cX12_judged 51 = .ok (.bipush 6, 2) := by decide +kernel
theorem dX12_judged_53 : decode cX12_judged 53 = .ok (.if_icmp .le 5, 3) := by decide +kernel
theorem dX12_judged_56 : decode cX12_judged 56 = .ok (.iconst 0, 1) := by decide +kernel
theorem dX12_judged_57 : decode cX12_judged 57 = .ok (.ireturn, 1) := by decide +kernel
theorem dX12_judged_58 : decode cX12_judged 58 = .ok (.aload_n 0, 1) := by decide +kernel
theorem dX12_judged_59 : decode cX12_judged 59 = .ok (.getfield 73, 3) := by decide +kernel
theorem dX12_judged_62 : decode cX12_judged 62 = .ok (.iload_n 2, 1) := by decide +kernel
theorem dX12_judged_63 : decode cX12_judged 63 = .ok (.iload 4, 2) := by decide +kernel
theorem dX12_judged_65 : decode cX12_judged 65 = .ok (.iastore, 1) := by decide +kernel
theorem dX12_judged_66 : decode cX12_judged 66 = .ok (.iconst 1, 1) := by decide +kernel
theorem dX12_judged_67 : decode cX12_judged 67 = .ok (.ireturn, 1) := by decide +kernel
theorem dX12_judged_68 : decode cX12_judged 68 = .ok (.iload_n 2, 1) := by decide +kernel
theorem dX12_judged_69 : decode cX12_judged 69 = .ok (.aload_n 0, 1) := by decide +kernel
theorem dX12_judged_70 : decode cX12_judged 70 = .ok (.getfield 217, 3) := by decide +kernel
theorem dX12_judged_73 : decode cX12_judged 73 = .ok (.if_icmp .ge 13, 3) := by decide +kernel
theorem dX12_judged_76 : decode cX12_judged 76 = .ok (.iload_n 3, 1) := by decide +kernel
theorem dX12_judged_77 : decode cX12_judged 77 = .ok (.ifCond .ne 9, 3) := by decide +kernel
theorem dX12_judged_80 : decode cX12_judged 80 = .ok (.iload 4, 2) := by decide +kernel
theorem dX12_judged_82 : decode cX12_judged 82 = .ok (.iconst 1, 1) := by decide +kernel
theorem dX12_judged_83 : decode cX12_judged 83 = .ok (.if_icmp .le 5, 3) := by decide +kernel
theorem dX12_judged_86 : decode cX12_judged 86 = .ok (.iconst 0, 1) := by decide +kernel
theorem dX12_judged_87 : decode cX12_judged 87 = .ok (.ireturn, 1) := by decide +kernel
theorem dX12_judged_88 : decode cX12_judged 88 = .ok (.aload_n 0, 1) := by decide +kernel
theorem dX12_judged_89 : decode cX12_judged 89 = .ok (.getfield 73, 3) := by decide +kernel
theorem dX12_judged_92 : decode cX12_judged 92 = .ok (.iconst 3, 1) := by decide +kernel
theorem dX12_judged_93 : decode cX12_judged 93 = .ok (.aload_n 0, 1) := by decide +kernel
theorem dX12_judged_94 : decode cX12_judged 94 = .ok (.getfield 73, 3) := by decide +kernel
theorem dX12_judged_97 : decode cX12_judged 97 = .ok (.iconst 3, 1) := by decide +kernel
theorem dX12_judged_98 : decode cX12_judged 98 = .ok (.iaload, 1) := by decide +kernel
theorem dX12_judged_99 : decode cX12_judged 99 = .ok (.iconst 1, 1) := by decide +kernel
theorem dX12_judged_100 : decode cX12_judged 100 = .ok (.iload_n 2, 1) := by decide +kernel
theorem dX12_judged_101 : decode cX12_judged 101 = .ok (.ishl, 1) := by decide +kernel
theorem dX12_judged_102 : decode cX12_judged 102 = .ok (.iconst (-1), 1) := by decide +kernel
theorem dX12_judged_103 : decode cX12_judged 103 = .ok (.ixor, 1) := by decide +kernel
theorem dX12_judged_104 : decode cX12_judged 104 = .ok (.iand, 1) := by decide +kernel
theorem dX12_judged_105 : decode cX12_judged 105 = .ok (.iload 4, 2) := by decide +kernel
theorem dX12_judged_107 : decode cX12_judged 107 = .ok (.iload_n 2, 1) := by decide +kernel
theorem dX12_judged_108 : decode cX12_judged 108 = .ok (.ishl, 1) := by decide +kernel
theorem dX12_judged_109 : decode cX12_judged 109 = .ok (.ior, 1) := by decide +kernel
theorem dX12_judged_110 : decode cX12_judged 110 = .ok (.iastore, 1) := by decide +kernel
theorem dX12_judged_111 : decode cX12_judged 111 = .ok (.iconst 1, 1) := by decide +kernel
theorem dX12_judged_112 : decode cX12_judged 112 = .ok (.ireturn, 1) := by decide +kernel
theorem dX12_judged_113 : decode cX12_judged 113 = .ok (.iload_n 2, 1) := by decide +kernel
theorem dX12_judged_114 : decode cX12_judged 114 = .ok (.aload_n 0, 1) := by decide +kernel
theorem dX12_judged_115 : decode cX12_judged 115 = .ok (.getfield 208, 3) := by decide +kernel
theorem dX12_judged_118 : decode cX12_judged 118 = .ok (.if_icmp .ge 13, 3) := by decide +kernel
theorem dX12_judged_121 : decode cX12_judged 121 = .ok (.iload_n 3, 1) := by decide +kernel
theorem dX12_judged_122 : decode cX12_judged 122 = .ok (.ifCond .ne 9, 3) := by decide +kernel
theorem dX12_judged_125 : decode cX12_judged 125 = .ok (.iload 4, 2) := by decide +kernel
theorem dX12_judged_127 : decode cX12_judged 127 = .ok (.iconst 1, 1) := by decide +kernel
theorem dX12_judged_128 : decode cX12_judged 128 = .ok (.if_icmp .le 5, 3) := by decide +kernel
theorem dX12_judged_131 : decode cX12_judged 131 = .ok (.iconst 0, 1) := by decide +kernel
theorem dX12_judged_132 : decode cX12_judged 132 = .ok (.ireturn, 1) := by decide +kernel
theorem dX12_judged_133 : decode cX12_judged 133 = .ok (.aload_n 0, 1) := by decide +kernel
theorem dX12_judged_134 : decode cX12_judged 134 = .ok (.aload_n 0, 1) := by decide +kernel
theorem dX12_judged_135 : decode cX12_judged 135 = .ok (.getfield 73, 3) := by decide +kernel
theorem dX12_judged_138 : decode cX12_judged 138 = .ok (.invokevirtual 307, 3) := by decide +kernel
theorem dX12_judged_141 : decode cX12_judged 141 = .ok (.aload_n 0, 1) := by decide +kernel
theorem dX12_judged_142 : decode cX12_judged 142 = .ok (.iload_n 2, 1) := by decide +kernel
theorem dX12_judged_143 : decode cX12_judged 143 = .ok (.invokevirtual 298, 3) := by decide +kernel
theorem dX12_judged_146 : decode cX12_judged 146 = .ok (.bipush (-9), 2) := by decide +kernel
theorem dX12_judged_148 : decode cX12_judged 148 = .ok (.if_icmp .ne 7, 3) := by decide +kernel
theorem dX12_judged_151 : decode cX12_judged 151 = .ok (.iconst 1, 1) := by decide +kernel
theorem dX12_judged_152 : decode cX12_judged 152 = .ok (.goto 4, 3) := by decide +kernel
theorem dX12_judged_155 : decode cX12_judged 155 = .ok (.iconst 0, 1) := by decide +kernel
theorem dX12_judged_156 : decode cX12_judged 156 = .ok (.iload 4, 2) := by decide +kernel
theorem dX12_judged_158 : decode cX12_judged 158 = .ok (.iconst 1, 1) := by decide +kernel
theorem dX12_judged_159 : decode cX12_judged 159 = .ok (.if_icmp .ne 7, 3) := by decide +kernel
theorem dX12_judged_162 : decode cX12_judged 162 = .ok (.iconst 1, 1) := by decide +kernel
theorem dX12_judged_163 : decode cX12_judged 163 = .ok (.goto 4, 3) := by decide +kernel
theorem dX12_judged_166 : decode cX12_judged 166 = .ok (.iconst 0, 1) := by decide +kernel
theorem dX12_judged_167 : decode cX12_judged 167 = .ok (.if_icmp .ne 7, 3) := by decide +kernel
theorem dX12_judged_170 : decode cX12_judged 170 = .ok (.iconst 1, 1) := by decide +kernel
theorem dX12_judged_171 : decode cX12_judged 171 = .ok (.goto 4, 3) := by decide +kernel
theorem dX12_judged_174 : decode cX12_judged 174 = .ok (.iconst 0, 1) := by decide +kernel
theorem dX12_judged_175 : decode cX12_judged 175 = .ok (.ireturn, 1) := by decide +kernel
theorem dX12_judged_176 : decode cX12_judged 176 = .ok (.iload_n 2, 1) := by decide +kernel
theorem dX12_judged_177 : decode cX12_judged 177 = .ok (.aload_n 0, 1) := by decide +kernel
theorem dX12_judged_178 : decode cX12_judged 178 = .ok (.getfield 208, 3) := by decide +kernel
theorem dX12_judged_181 : decode cX12_judged 181 = .ok (.if_icmp .ge 13, 3) := by decide +kernel
theorem dX12_judged_184 : decode cX12_judged 184 = .ok (.iload_n 3, 1) := by decide +kernel
theorem dX12_judged_185 : decode cX12_judged 185 = .ok (.ifCond .ne 9, 3) := by decide +kernel
theorem dX12_judged_188 : decode cX12_judged 188 = .ok (.iload 4, 2) := by decide +kernel
theorem dX12_judged_190 : decode cX12_judged 190 = .ok (.iconst 1, 1) := by decide +kernel
theorem dX12_judged_191 : decode cX12_judged 191 = .ok (.if_icmp .le 5, 3) := by decide +kernel
theorem dX12_judged_194 : decode cX12_judged 194 = .ok (.iconst 0, 1) := by decide +kernel
theorem dX12_judged_195 : decode cX12_judged 195 = .ok (.ireturn, 1) := by decide +kernel
theorem dX12_judged_196 : decode cX12_judged 196 = .ok (.aload_n 0, 1) := by decide +kernel
theorem dX12_judged_197 : decode cX12_judged 197 = .ok (.aload_n 0, 1) := by decide +kernel
theorem dX12_judged_198 : decode cX12_judged 198 = .ok (.getfield 73, 3) := by decide +kernel
theorem dX12_judged_201 : decode cX12_judged 201 = .ok (.invokevirtual 310, 3) := by decide +kernel
theorem dX12_judged_204 : decode cX12_judged 204 = .ok (.aload_n 0, 1) := by decide +kernel
theorem dX12_judged_205 : decode cX12_judged 205 = .ok (.iload_n 2, 1) := by decide +kernel
theorem dX12_judged_206 : decode cX12_judged 206 = .ok (.invokevirtual 298, 3) := by decide +kernel
theorem dX12_judged_209 : decode cX12_judged 209 = .ok (.bipush (-9), 2) := by decide +kernel
theorem dX12_judged_211 : decode cX12_judged 211 = .ok (.if_icmp .ne 7, 3) := by decide +kernel
theorem dX12_judged_214 : decode cX12_judged 214 = .ok (.iconst 1, 1) := by decide +kernel
theorem dX12_judged_215 : decode cX12_judged 215 = .ok (.goto 4, 3) := by decide +kernel
theorem dX12_judged_218 : decode cX12_judged 218 = .ok (.iconst 0, 1) := by decide +kernel
theorem dX12_judged_219 : decode cX12_judged 219 = .ok (.iload 4, 2) := by decide +kernel
theorem dX12_judged_221 : decode cX12_judged 221 = .ok (.iconst 1, 1) := by decide +kernel
theorem dX12_judged_222 : decode cX12_judged 222 = .ok (.if_icmp .ne 7, 3) := by decide +kernel
theorem dX12_judged_225 : decode cX12_judged 225 = .ok (.iconst 1, 1) := by decide +kernel
theorem dX12_judged_226 : decode cX12_judged 226 = .ok (.goto 4, 3) := by decide +kernel
theorem dX12_judged_229 : decode cX12_judged 229 = .ok (.iconst 0, 1) := by decide +kernel
theorem dX12_judged_230 : decode cX12_judged 230 = .ok (.if_icmp .ne 7, 3) := by decide +kernel
theorem dX12_judged_233 : decode cX12_judged 233 = .ok (.iconst 1, 1) := by decide +kernel
theorem dX12_judged_234 : decode cX12_judged 234 = .ok (.goto 4, 3) := by decide +kernel
theorem dX12_judged_237 : decode cX12_judged 237 = .ok (.iconst 0, 1) := by decide +kernel
theorem dX12_judged_238 : decode cX12_judged 238 = .ok (.ireturn, 1) := by decide +kernel
theorem dX12_judged_239 : decode cX12_judged 239 = .ok (.iload_n 2, 1) := by decide +kernel
theorem dX12_judged_240 : decode cX12_judged 240 = .ok (.aload_n 0, 1) := by decide +kernel
theorem dX12_judged_241 : decode cX12_judged 241 = .ok (.getfield 211, 3) := by decide +kernel
theorem dX12_judged_244 : decode cX12_judged 244 = .ok (.if_icmp .ge 17, 3) := by decide +kernel
theorem dX12_judged_247 : decode cX12_judged 247 = .ok (.iload_n 3, 1) := by decide +kernel
theorem dX12_judged_248 : decode cX12_judged 248 = .ok (.aload_n 0, 1) := by decide +kernel
theorem dX12_judged_249 : decode cX12_judged 249 = .ok (.getfield 217, 3) := by decide +kernel
theorem dX12_judged_252 : decode cX12_judged 252 = .ok (.if_icmp .ge 9, 3) := by decide +kernel
theorem dX12_judged_255 : decode cX12_judged 255 = .ok (.iload 4, 2) := by decide +kernel
theorem dX12_judged_257 : decode cX12_judged 257 = .ok (.iconst 1, 1) := by decide +kernel
theorem dX12_judged_258 : decode cX12_judged 258 = .ok (.if_icmp .le 5, 3) := by decide +kernel
theorem dX12_judged_261 : decode cX12_judged 261 = .ok (.iconst 0, 1) := by decide +kernel
theorem dX12_judged_262 : decode cX12_judged 262 = .ok (.ireturn, 1) := by decide +kernel
theorem dX12_judged_263 : decode cX12_judged 263 = .ok (.aload_n 0, 1) := by decide +kernel
theorem dX12_judged_264 : decode cX12_judged 264 = .ok (.aload_n 0, 1) := by decide +kernel
theorem dX12_judged_265 : decode cX12_judged 265 = .ok (.getfield 73, 3) := by decide +kernel
theorem dX12_judged_268 : decode cX12_judged 268 = .ok (.invokevirtual 307, 3) := by decide +kernel
theorem dX12_judged_271 : decode cX12_judged 271 = .ok (.aload_n 0, 1) := by decide +kernel
theorem dX12_judged_272 : decode cX12_judged 272 = .ok (.getfield 99, 3) := by decide +kernel
theorem dX12_judged_275 : decode cX12_judged 275 = .ok (.iload_n 2, 1) := by decide +kernel
theorem dX12_judged_276 : decode cX12_judged 276 = .ok (.iaload, 1) := by decide +kernel
theorem dX12_judged_277 : decode cX12_judged 277 = .ok (.iload_n 3, 1) := by decide +kernel
theorem dX12_judged_278 : decode cX12_judged 278 = .ok (.invokestatic 236, 3) := by decide +kernel
theorem dX12_judged_281 : decode cX12_judged 281 = .ok (.iload 4, 2) := by decide +kernel
theorem dX12_judged_283 : decode cX12_judged 283 = .ok (.iconst 1, 1) := by decide +kernel
theorem dX12_judged_284 : decode cX12_judged 284 = .ok (.if_icmp .ne 7, 3) := by decide +kernel
theorem dX12_judged_287 : decode cX12_judged 287 = .ok (.iconst 1, 1) := by decide +kernel
theorem dX12_judged_288 : decode cX12_judged 288 = .ok (.goto 4, 3) := by decide +kernel
theorem dX12_judged_291 : decode cX12_judged 291 = .ok (.iconst 0, 1) := by decide +kernel
theorem dX12_judged_292 : decode cX12_judged 292 = .ok (.if_icmp .ne 7, 3) := by decide +kernel
theorem dX12_judged_295 : decode cX12_judged 295 = .ok (.iconst 1, 1) := by decide +kernel
theorem dX12_judged_296 : decode cX12_judged 296 = .ok (.goto 4, 3) := by decide +kernel
theorem dX12_judged_299 : decode cX12_judged 299 = .ok (.iconst 0, 1) := by decide +kernel
theorem dX12_judged_300 : decode cX12_judged 300 = .ok (.ireturn, 1) := by decide +kernel
theorem dX12_judged_301 : decode cX12_judged 301 = .ok (.aload_n 0, 1) := by decide +kernel
theorem dX12_judged_302 : decode cX12_judged 302 = .ok (.bipush 100, 2) := by decide +kernel
theorem dX12_judged_304 : decode cX12_judged 304 = .ok (.iload_n 2, 1) := by decide +kernel
theorem dX12_judged_305 : decode cX12_judged 305 = .ok (.imul, 1) := by decide +kernel
theorem dX12_judged_306 : decode cX12_judged 306 = .ok (.bipush 10, 2) := by decide +kernel
theorem dX12_judged_308 : decode cX12_judged 308 = .ok (.iload_n 3, 1) := by decide +kernel
theorem dX12_judged_309 : decode cX12_judged 309 = .ok (.imul, 1) := by decide +kernel
theorem dX12_judged_310 : decode cX12_judged 310 = .ok (.iadd, 1) := by decide +kernel
theorem dX12_judged_311 : decode cX12_judged 311 = .ok (.iload 4, 2) := by decide +kernel
theorem dX12_judged_313 : decode cX12_judged 313 = .ok (.iadd, 1) := by decide +kernel
theorem dX12_judged_314 : decode cX12_judged 314 = .ok (.invokevirtual 343, 3) := by decide +kernel
theorem dX12_judged_317 : decode cX12_judged 317 = .ok (.ireturn, 1) := by decide +kernel
theorem dX12_judged_318 : decode cX12_judged 318 = .ok (.iconst 0, 1) := by decide +kernel
theorem dX12_judged_319 : decode cX12_judged 319 = .ok (.ireturn, 1) := by decide +kernel
theorem dX12_tenThousands_0 : decode cX12_tenThousands 0 = .ok (.lconst 1, 1) := by decide +kernel
theorem dX12_tenThousands_1 : decode cX12_tenThousands 1 = .ok (.lstore_n 1, 1) := by decide +kernel
theorem dX12_tenThousands_2 : decode cX12_tenThousands 2 = .ok (.iconst 0, 1) := by decide +kernel
theorem dX12_tenThousands_3 : decode cX12_tenThousands 3 = .ok (.istore_n 3, 1) := by decide +kernel
theorem dX12_tenThousands_4 : decode cX12_tenThousands 4 = .ok (.iload_n 3, 1) := by decide +kernel
theorem dX12_tenThousands_5 : decode cX12_tenThousands 5 = .ok (.iload_n 0, 1) := by decide +kernel
theorem dX12_tenThousands_6 : decode cX12_tenThousands 6 = .ok (.if_icmp .ge 15, 3) := by decide +kernel
theorem dX12_tenThousands_9 : decode cX12_tenThousands 9 = .ok (.lload_n 1, 1) := by decide +kernel
theorem dX12_tenThousands_10 : decode cX12_tenThousands 10 = .ok (.ldc2_w 346, 3) := by decide +kernel
theorem dX12_tenThousands_13 : decode cX12_tenThousands 13 = .ok (.lmul, 1) := by decide +kernel
theorem dX12_tenThousands_14 : decode cX12_tenThousands 14 = .ok (.lstore_n 1, 1) := by decide +kernel
theorem dX12_tenThousands_15 : decode cX12_tenThousands 15 = .ok (.iinc 3 1, 3) := by decide +kernel
theorem dX12_tenThousands_18 : decode cX12_tenThousands 18 = .ok (.goto (-14), 3) := by decide +kernel
theorem dX12_tenThousands_21 : decode cX12_tenThousands 21 = .ok (.lload_n 1, 1) := by decide +kernel
theorem dX12_tenThousands_22 : decode cX12_tenThousands 22 = .ok (.lreturn, 1) := by decide +kernel
theorem dX12_layTrial_0 : decode cX12_layTrial 0 = .ok (.iconst 0, 1) := by decide +kernel
theorem dX12_layTrial_1 : decode cX12_layTrial 1 = .ok (.istore_n 1, 1) := by decide +kernel
theorem dX12_layTrial_2 : decode cX12_layTrial 2 = .ok (.iload_n 1, 1) := by decide +kernel
theorem dX12_layTrial_3 : decode cX12_layTrial 3 = .ok (.iconst 4, 1) := by decide +kernel
theorem dX12_layTrial_4 : decode cX12_layTrial 4 = .ok (.if_icmp .ge 21, 3) := by decide +kernel
theorem dX12_layTrial_7 : decode cX12_layTrial 7 = .ok (.aload_n 0, 1) := by decide +kernel
theorem dX12_layTrial_8 : decode cX12_layTrial 8 = .ok (.getfield 73, 3) := by decide +kernel
theorem dX12_layTrial_11 : decode cX12_layTrial 11 = .ok (.iload_n 1, 1) := by decide +kernel
theorem dX12_layTrial_12 : decode cX12_layTrial 12 = .ok (.aload_n 0, 1) := by decide +kernel
theorem dX12_layTrial_13 : decode cX12_layTrial 13 = .ok (.getfield 70, 3) := by decide +kernel
theorem dX12_layTrial_16 : decode cX12_layTrial 16 = .ok (.iload_n 1, 1) := by decide +kernel
theorem dX12_layTrial_17 : decode cX12_layTrial 17 = .ok (.iaload, 1) := by decide +kernel
theorem dX12_layTrial_18 : decode cX12_layTrial 18 = .ok (.iastore, 1) := by decide +kernel
theorem dX12_layTrial_19 : decode cX12_layTrial 19 = .ok (.iinc 1 1, 3) := by decide +kernel
theorem dX12_layTrial_22 : decode cX12_layTrial 22 = .ok (.goto (-20), 3) := by decide +kernel
theorem dX12_layTrial_25 : decode cX12_layTrial 25 = .ok (.return_, 1) := by decide +kernel
theorem dX12_judge_0 : decode cX12_judge 0 = .ok (.iload_n 1, 1) := by decide +kernel
theorem dX12_judge_1 : decode cX12_judge 1 = .ok (.i2l, 1) := by decide +kernel
theorem dX12_judge_2 : decode cX12_judge 2 = .ok (.lconst 1, 1) := by decide +kernel
theorem dX12_judge_3 : decode cX12_judge 3 = .ok (.ldc2_w 348, 3) := by decide +kernel
theorem dX12_judge_6 : decode cX12_judge 6 = .ok (.invokestatic 114, 3) := by decide +kernel
theorem dX12_judge_9 : decode cX12_judge 9 = .ok (.ifCond .eq 17, 3) := by decide +kernel
theorem dX12_judge_12 : decode cX12_judge 12 = .ok (.lload_n 2, 1) := by decide +kernel
theorem dX12_judge_13 : decode cX12_judge 13 = .ok (.lconst 0, 1) := by decide +kernel
theorem dX12_judge_14 : decode cX12_judge 14 = .ok (.iload_n 1, 1) := by decide +kernel
theorem dX12_judge_15 : decode cX12_judge 15 = .ok (.invokestatic 350, 3) := by decide +kernel
theorem dX12_judge_18 : decode cX12_judge 18 = .ok (.lconst 1, 1) := by decide +kernel
theorem dX12_judge_19 : decode cX12_judge 19 = .ok (.lsub, 1) := by decide +kernel
theorem dX12_judge_20 : decode cX12_judge 20 = .ok (.invokestatic 114, 3) := by decide +kernel
theorem dX12_judge_23 : decode cX12_judge 23 = .ok (.ifCond .ne 6, 3) := by decide +kernel
theorem dX12_judge_26 : decode cX12_judge 26 = .ok (.bipush (-2), 2) := by decide +kernel
theorem dX12_judge_28 : decode cX12_judge 28 = .ok (.ireturn, 1) := by decide +kernel
theorem dX12_judge_29 : decode cX12_judge 29 = .ok (.aload_n 0, 1) := by decide +kernel
theorem dX12_judge_30 : decode cX12_judge 30 = .ok (.invokevirtual 354, 3) := by decide +kernel
theorem dX12_judge_33 : decode cX12_judge 33 = .ok (.iconst 0, 1) := by decide +kernel
theorem dX12_judge_34 : decode cX12_judge 34 = .ok (.istore 4, 2) := by decide +kernel
theorem dX12_judge_36 : decode cX12_judge 36 = .ok (.iload 4, 2) := by decide +kernel
theorem dX12_judge_38 : decode cX12_judge 38 = .ok (.iload_n 1, 1) := by decide +kernel
theorem dX12_judge_39 : decode cX12_judge 39 = .ok (.if_icmp .ge 64, 3) := by decide +kernel
theorem dX12_judge_42 : decode cX12_judge 42 = .ok (.lload_n 2, 1) := by decide +kernel
theorem dX12_judge_43 : decode cX12_judge 43 = .ok (.iload_n 1, 1) := by decide +kernel
theorem dX12_judge_44 : decode cX12_judge 44 = .ok (.iconst 1, 1) := by decide +kernel
theorem dX12_judge_45 : decode cX12_judge 45 = .ok (.isub, 1) := by decide +kernel
theorem dX12_judge_46 : decode cX12_judge 46 = .ok (.iload 4, 2) := by decide +kernel
theorem dX12_judge_48 : decode cX12_judge 48 = .ok (.isub, 1) := by decide +kernel
theorem dX12_judge_49 : decode cX12_judge 49 = .ok (.invokestatic 350, 3) := by decide +kernel
theorem dX12_judge_52 : decode cX12_judge 52 = .ok (.ldiv, 1) := by decide +kernel
theorem dX12_judge_53 : decode cX12_judge 53 = .ok (.ldc2_w 346, 3) := by decide +kernel
theorem dX12_judge_56 : decode cX12_judge 56 = .ok (.lrem, 1) := by decide +kernel
theorem dX12_judge_57 : decode cX12_judge 57 = .ok (.l2i, 1) := by decide +kernel
theorem dX12_judge_58 : decode cX12_judge 58 = .ok (.istore 5, 2) := by decide +kernel
theorem dX12_judge_60 : decode cX12_judge 60 = .ok (.aload_n 0, 1) := by decide +kernel
theorem dX12_judge_61 : decode cX12_judge 61 = .ok (.iload 5, 2) := by decide +kernel
theorem dX12_judge_63 : decode cX12_judge 63 = .ok (.sipush 1000, 3) := by decide +kernel
theorem dX12_judge_66 : decode cX12_judge 66 = .ok (.idiv, 1) := by decide +kernel
theorem dX12_judge_67 : decode cX12_judge 67 = .ok (.iload 5, 2) := by decide +kernel
theorem dX12_judge_69 : decode cX12_judge 69 = .ok (.bipush 100, 2) := by decide +kernel
theorem dX12_judge_71 : decode cX12_judge 71 = .ok (.idiv, 1) := by decide +kernel
theorem dX12_judge_72 : decode cX12_judge 72 = .ok (.bipush 10, 2) := by decide +kernel
theorem dX12_judge_74 : decode cX12_judge 74 = .ok (.irem, 1) := by decide +kernel
theorem dX12_judge_75 : decode cX12_judge 75 = .ok (.iload 5, 2) := by decide +kernel
theorem dX12_judge_77 : decode cX12_judge 77 = .ok (.bipush 10, 2) := by decide +kernel
theorem dX12_judge_79 : decode cX12_judge 79 = .ok (.idiv, 1) := by decide +kernel
theorem dX12_judge_80 : decode cX12_judge 80 = .ok (.bipush 10, 2) := by decide +kernel
theorem dX12_judge_82 : decode cX12_judge 82 = .ok (.irem, 1) := by decide +kernel
theorem dX12_judge_83 : decode cX12_judge 83 = .ok (.iload 5, 2) := by decide +kernel
theorem dX12_judge_85 : decode cX12_judge 85 = .ok (.bipush 10, 2) := by decide +kernel
theorem dX12_judge_87 : decode cX12_judge 87 = .ok (.irem, 1) := by decide +kernel
theorem dX12_judge_88 : decode cX12_judge 88 = .ok (.invokevirtual 357, 3) := by decide +kernel
theorem dX12_judge_91 : decode cX12_judge 91 = .ok (.ifCond .ne 6, 3) := by decide +kernel
theorem dX12_judge_94 : decode cX12_judge 94 = .ok (.iload 4, 2) := by decide +kernel
theorem dX12_judge_96 : decode cX12_judge 96 = .ok (.ireturn, 1) := by decide +kernel
theorem dX12_judge_97 : decode cX12_judge 97 = .ok (.iinc 4 1, 3) := by decide +kernel
theorem dX12_judge_100 : decode cX12_judge 100 = .ok (.goto (-64), 3) := by decide +kernel
theorem dX12_judge_103 : decode cX12_judge 103 = .ok (.bipush (-9), 2) := by decide +kernel
theorem dX12_judge_105 : decode cX12_judge 105 = .ok (.ireturn, 1) := by decide +kernel
theorem dX12_share_0 : decode cX12_share 0 = .ok (.iload_n 1, 1) := by decide +kernel
theorem dX12_share_1 : decode cX12_share 1 = .ok (.i2l, 1) := by decide +kernel
theorem dX12_share_2 : decode cX12_share 2 = .ok (.lconst 0, 1) := by decide +kernel
theorem dX12_share_3 : decode cX12_share 3 = .ok (.aload_n 0, 1) := by decide +kernel
theorem dX12_share_4 : decode cX12_share 4 = .ok (.getfield 217, 3) := by decide +kernel
theorem dX12_share_7 : decode cX12_share 7 = .ok (.iconst 1, 1) := by decide +kernel
theorem dX12_share_8 : decode cX12_share 8 = .ok (.isub, 1) := by decide +kernel
theorem dX12_share_9 : decode cX12_share 9 = .ok (.i2l, 1) := by decide +kernel
theorem dX12_share_10 : decode cX12_share 10 = .ok (.invokestatic 114, 3) := by decide +kernel
theorem dX12_share_13 : decode cX12_share 13 = .ok (.ifCond .ne 5, 3) := by decide +kernel
theorem dX12_share_16 : decode cX12_share 16 = .ok (.iconst (-1), 1) := by decide +kernel
theorem dX12_share_17 : decode cX12_share 17 = .ok (.ireturn, 1) := by decide +kernel
theorem dX12_share_18 : decode cX12_share 18 = .ok (.aload_n 0, 1) := by decide +kernel
theorem dX12_share_19 : decode cX12_share 19 = .ok (.aload_n 0, 1) := by decide +kernel
theorem dX12_share_20 : decode cX12_share 20 = .ok (.getfield 70, 3) := by decide +kernel
theorem dX12_share_23 : decode cX12_share 23 = .ok (.invokevirtual 281, 3) := by decide +kernel
theorem dX12_share_26 : decode cX12_share 26 = .ok (.istore_n 3, 1) := by decide +kernel
theorem dX12_share_27 : decode cX12_share 27 = .ok (.iload_n 3, 1) := by decide +kernel
theorem dX12_share_28 : decode cX12_share 28 = .ok (.iload_n 1, 1) := by decide +kernel
theorem dX12_share_29 : decode cX12_share 29 = .ok (.invokestatic 236, 3) := by decide +kernel
theorem dX12_share_32 : decode cX12_share 32 = .ok (.ifCond .ne 6, 3) := by decide +kernel
theorem dX12_share_35 : decode cX12_share 35 = .ok (.bipush (-3), 2) := by decide +kernel
theorem dX12_share_37 : decode cX12_share 37 = .ok (.ireturn, 1) := by decide +kernel
theorem dX12_share_38 : decode cX12_share 38 = .ok (.iconst 0, 1) := by decide +kernel
theorem dX12_share_39 : decode cX12_share 39 = .ok (.istore 4, 2) := by decide +kernel
theorem dX12_share_41 : decode cX12_share 41 = .ok (.iload 4, 2) := by decide +kernel
theorem dX12_share_43 : decode cX12_share 43 = .ok (.iload_n 3, 1) := by decide +kernel
theorem dX12_share_44 : decode cX12_share 44 = .ok (.if_icmp .gt 39, 3) := by decide +kernel
theorem dX12_share_47 : decode cX12_share 47 = .ok (.aload_n 0, 1) := by decide +kernel
theorem dX12_share_48 : decode cX12_share 48 = .ok (.getfield 105, 3) := by decide +kernel
theorem dX12_share_51 : decode cX12_share 51 = .ok (.iload 4, 2) := by decide +kernel
theorem dX12_share_53 : decode cX12_share 53 = .ok (.iload 4, 2) := by decide +kernel
theorem dX12_share_55 : decode cX12_share 55 = .ok (.iload_n 3, 1) := by decide +kernel
theorem dX12_share_56 : decode cX12_share 56 = .ok (.iconst (-1), 1) := by decide +kernel
theorem dX12_share_57 : decode cX12_share 57 = .ok (.ixor, 1) := by decide +kernel
theorem dX12_share_58 : decode cX12_share 58 = .ok (.iand, 1) := by decide +kernel
theorem dX12_share_59 : decode cX12_share 59 = .ok (.ifCond .ne 16, 3) := by decide +kernel
theorem dX12_share_62 : decode cX12_share 62 = .ok (.aload_n 0, 1) := by decide +kernel
theorem dX12_share_63 : decode cX12_share 63 = .ok (.aload_n 0, 1) := by decide +kernel
theorem dX12_share_64 : decode cX12_share 64 = .ok (.getfield 70, 3) := by decide +kernel
theorem dX12_share_67 : decode cX12_share 67 = .ok (.iload 4, 2) := by decide +kernel
theorem dX12_share_69 : decode cX12_share 69 = .ok (.invokevirtual 334, 3) := by decide +kernel
theorem dX12_share_72 : decode cX12_share 72 = .ok (.goto 4, 3) := by decide +kernel
theorem dX12_share_75 : decode cX12_share 75 = .ok (.iconst 0, 1) := by decide +kernel
theorem dX12_share_76 : decode cX12_share 76 = .ok (.iastore, 1) := by decide +kernel
theorem dX12_share_77 : decode cX12_share 77 = .ok (.iinc 4 1, 3) := by decide +kernel
theorem dX12_share_80 : decode cX12_share 80 = .ok (.goto (-39), 3) := by decide +kernel
theorem dX12_share_83 : decode cX12_share 83 = .ok (.iload_n 3, 1) := by decide +kernel
theorem dX12_share_84 : decode cX12_share 84 = .ok (.invokestatic 304, 3) := by decide +kernel
theorem dX12_share_87 : decode cX12_share 87 = .ok (.istore 4, 2) := by decide +kernel
theorem dX12_share_89 : decode cX12_share 89 = .ok (.iconst 0, 1) := by decide +kernel
theorem dX12_share_90 : decode cX12_share 90 = .ok (.istore 5, 2) := by decide +kernel
theorem dX12_share_92 : decode cX12_share 92 = .ok (.iconst 0, 1) := by decide +kernel
theorem dX12_share_93 : decode cX12_share 93 = .ok (.istore 6, 2) := by decide +kernel
theorem dX12_share_95 : decode cX12_share 95 = .ok (.iload 6, 2) := by decide +kernel
theorem dX12_share_97 : decode cX12_share 97 = .ok (.iload_n 3, 1) := by decide +kernel
theorem dX12_share_98 : decode cX12_share 98 = .ok (.if_icmp .gt 75, 3) := by decide +kernel
theorem dX12_share_101 : decode cX12_share 101 = .ok (.iload 6, 2) := by decide +kernel
theorem dX12_share_103 : decode cX12_share 103 = .ok (.iload_n 3, 1) := by decide +kernel
theorem dX12_share_104 : decode cX12_share 104 = .ok (.iconst (-1), 1) := by decide +kernel
theorem dX12_share_105 : decode cX12_share 105 = .ok (.ixor, 1) := by decide +kernel
theorem dX12_share_106 : decode cX12_share 106 = .ok (.iand, 1) := by decide +kernel
theorem dX12_share_107 : decode cX12_share 107 = .ok (.ifCond .ne 60, 3) := by decide +kernel
theorem dX12_share_110 : decode cX12_share 110 = .ok (.iload 6, 2) := by decide +kernel
theorem dX12_share_112 : decode cX12_share 112 = .ok (.iload_n 1, 1) := by decide +kernel
theorem dX12_share_113 : decode cX12_share 113 = .ok (.invokestatic 236, 3) := by decide +kernel
theorem dX12_share_116 : decode cX12_share 116 = .ok (.ifCond .ne 51, 3) := by decide +kernel
theorem dX12_share_119 : decode cX12_share 119 = .ok (.iload 6, 2) := by decide +kernel
theorem dX12_share_121 : decode cX12_share 121 = .ok (.invokestatic 304, 3) := by decide +kernel
theorem dX12_share_124 : decode cX12_share 124 = .ok (.istore 7, 2) := by decide +kernel
theorem dX12_share_126 : decode cX12_share 126 = .ok (.iload 5, 2) := by decide +kernel
theorem dX12_share_128 : decode cX12_share 128 = .ok (.iload 7, 2) := by decide +kernel
theorem dX12_share_130 : decode cX12_share 130 = .ok (.invokestatic 360, 3) := by decide +kernel
theorem dX12_share_133 : decode cX12_share 133 = .ok (.iload 4, 2) := by decide +kernel
theorem dX12_share_135 : decode cX12_share 135 = .ok (.iconst 1, 1) := by decide +kernel
theorem dX12_share_136 : decode cX12_share 136 = .ok (.isub, 1) := by decide +kernel
theorem dX12_share_137 : decode cX12_share 137 = .ok (.iload 7, 2) := by decide +kernel
theorem dX12_share_139 : decode cX12_share 139 = .ok (.isub, 1) := by decide +kernel
theorem dX12_share_140 : decode cX12_share 140 = .ok (.invokestatic 360, 3) := by decide +kernel
theorem dX12_share_143 : decode cX12_share 143 = .ok (.imul, 1) := by decide +kernel
theorem dX12_share_144 : decode cX12_share 144 = .ok (.aload_n 0, 1) := by decide +kernel
theorem dX12_share_145 : decode cX12_share 145 = .ok (.getfield 105, 3) := by decide +kernel
theorem dX12_share_148 : decode cX12_share 148 = .ok (.iload 6, 2) := by decide +kernel
theorem dX12_share_150 : decode cX12_share 150 = .ok (.iconst 1, 1) := by decide +kernel
theorem dX12_share_151 : decode cX12_share 151 = .ok (.iload_n 1, 1) := by decide +kernel
theorem dX12_share_152 : decode cX12_share 152 = .ok (.ishl, 1) := by decide +kernel
theorem dX12_share_153 : decode cX12_share 153 = .ok (.ior, 1) := by decide +kernel
theorem dX12_share_154 : decode cX12_share 154 = .ok (.iaload, 1) := by decide +kernel
theorem dX12_share_155 : decode cX12_share 155 = .ok (.aload_n 0, 1) := by decide +kernel
theorem dX12_share_156 : decode cX12_share 156 = .ok (.getfield 105, 3) := by decide +kernel
theorem dX12_share_159 : decode cX12_share 159 = .ok (.iload 6, 2) := by decide +kernel
theorem dX12_share_161 : decode cX12_share 161 = .ok (.iaload, 1) := by decide +kernel
theorem dX12_share_162 : decode cX12_share 162 = .ok (.isub, 1) := by decide +kernel
theorem dX12_share_163 : decode cX12_share 163 = .ok (.imul, 1) := by decide +kernel
theorem dX12_share_164 : decode cX12_share 164 = .ok (.iadd, 1) := by decide +kernel
theorem dX12_share_165 : decode cX12_share 165 = .ok (.istore 5, 2) := by decide +kernel
theorem dX12_share_167 : decode cX12_share 167 = .ok (.iinc 6 1, 3) := by decide +kernel
theorem dX12_share_170 : decode cX12_share 170 = .ok (.goto (-75), 3) := by decide +kernel
theorem dX12_share_173 : decode cX12_share 173 = .ok (.iload 5, 2) := by decide +kernel
theorem dX12_share_175 : decode cX12_share 175 = .ok (.iload 4, 2) := by decide +kernel
theorem dX12_share_177 : decode cX12_share 177 = .ok (.invokestatic 360, 3) := by decide +kernel
theorem dX12_share_180 : decode cX12_share 180 = .ok (.iload_n 2, 1) := by decide +kernel
theorem dX12_share_181 : decode cX12_share 181 = .ok (.invokestatic 363, 3) := by decide +kernel
theorem dX12_share_184 : decode cX12_share 184 = .ok (.ireturn, 1) := by decide +kernel
theorem dX12_see_0 : decode cX12_see 0 = .ok (.iload_n 1, 1) := by decide +kernel
theorem dX12_see_1 : decode cX12_see 1 = .ok (.i2l, 1) := by decide +kernel
theorem dX12_see_2 : decode cX12_see 2 = .ok (.lconst 0, 1) := by decide +kernel
theorem dX12_see_3 : decode cX12_see 3 = .ok (.aload_n 0, 1) := by decide +kernel
theorem dX12_see_4 : decode cX12_see 4 = .ok (.getfield 208, 3) := by decide +kernel
theorem dX12_see_7 : decode cX12_see 7 = .ok (.iconst 1, 1) := by decide +kernel
theorem dX12_see_8 : decode cX12_see 8 = .ok (.isub, 1) := by decide +kernel
theorem dX12_see_9 : decode cX12_see 9 = .ok (.i2l, 1) := by decide +kernel
theorem dX12_see_10 : decode cX12_see 10 = .ok (.invokestatic 114, 3) := by decide +kernel
theorem dX12_see_13 : decode cX12_see 13 = .ok (.ifCond .ne 5, 3) := by decide +kernel
theorem dX12_see_16 : decode cX12_see 16 = .ok (.iconst (-1), 1) := by decide +kernel
theorem dX12_see_17 : decode cX12_see 17 = .ok (.ireturn, 1) := by decide +kernel
theorem dX12_see_18 : decode cX12_see 18 = .ok (.iload_n 2, 1) := by decide +kernel
theorem dX12_see_19 : decode cX12_see 19 = .ok (.i2l, 1) := by decide +kernel
theorem dX12_see_20 : decode cX12_see 20 = .ok (.lconst 0, 1) := by decide +kernel
theorem dX12_see_21 : decode cX12_see 21 = .ok (.lconst 1, 1) := by decide +kernel
theorem dX12_see_22 : decode cX12_see 22 = .ok (.invokestatic 114, 3) := by decide +kernel
theorem dX12_see_25 : decode cX12_see 25 = .ok (.ifCond .ne 6, 3) := by decide +kernel
theorem dX12_see_28 : decode cX12_see 28 = .ok (.bipush (-2), 2) := by decide +kernel
theorem dX12_see_30 : decode cX12_see 30 = .ok (.ireturn, 1) := by decide +kernel
theorem dX12_see_31 : decode cX12_see 31 = .ok (.aload_n 0, 1) := by decide +kernel
theorem dX12_see_32 : decode cX12_see 32 = .ok (.getfield 316, 3) := by decide +kernel
theorem dX12_see_35 : decode cX12_see 35 = .ok (.bipush 6, 2) := by decide +kernel
theorem dX12_see_37 : decode cX12_see 37 = .ok (.if_icmp .ne 6, 3) := by decide +kernel
theorem dX12_see_40 : decode cX12_see 40 = .ok (.bipush (-4), 2) := by decide +kernel
theorem dX12_see_42 : decode cX12_see 42 = .ok (.ireturn, 1) := by decide +kernel
theorem dX12_see_43 : decode cX12_see 43 = .ok (.aload_n 0, 1) := by decide +kernel
theorem dX12_see_44 : decode cX12_see 44 = .ok (.getfield 86, 3) := by decide +kernel
theorem dX12_see_47 : decode cX12_see 47 = .ok (.aload_n 0, 1) := by decide +kernel
theorem dX12_see_48 : decode cX12_see 48 = .ok (.getfield 316, 3) := by decide +kernel
theorem dX12_see_51 : decode cX12_see 51 = .ok (.iload_n 1, 1) := by decide +kernel
theorem dX12_see_52 : decode cX12_see 52 = .ok (.iastore, 1) := by decide +kernel
theorem dX12_see_53 : decode cX12_see 53 = .ok (.aload_n 0, 1) := by decide +kernel
theorem dX12_see_54 : decode cX12_see 54 = .ok (.getfield 89, 3) := by decide +kernel
theorem dX12_see_57 : decode cX12_see 57 = .ok (.aload_n 0, 1) := by decide +kernel
theorem dX12_see_58 : decode cX12_see 58 = .ok (.getfield 316, 3) := by decide +kernel
theorem dX12_see_61 : decode cX12_see 61 = .ok (.iload_n 2, 1) := by decide +kernel
theorem dX12_see_62 : decode cX12_see 62 = .ok (.iastore, 1) := by decide +kernel
theorem dX12_see_63 : decode cX12_see 63 = .ok (.aload_n 0, 1) := by decide +kernel
theorem dX12_see_64 : decode cX12_see 64 = .ok (.dup, 1) := by decide +kernel
theorem dX12_see_65 : decode cX12_see 65 = .ok (.getfield 316, 3) := by decide +kernel
theorem dX12_see_68 : decode cX12_see 68 = .ok (.iconst 1, 1) := by decide +kernel
theorem dX12_see_69 : decode cX12_see 69 = .ok (.iadd, 1) := by decide +kernel
theorem dX12_see_70 : decode cX12_see 70 = .ok (.putfield 316, 3) := by decide +kernel
theorem dX12_see_73 : decode cX12_see 73 = .ok (.aload_n 0, 1) := by decide +kernel
theorem dX12_see_74 : decode cX12_see 74 = .ok (.getfield 316, 3) := by decide +kernel
theorem dX12_see_77 : decode cX12_see 77 = .ok (.ireturn, 1) := by decide +kernel
theorem dX12_unsee_0 : decode cX12_unsee 0 = .ok (.aload_n 0, 1) := by decide +kernel
theorem dX12_unsee_1 : decode cX12_unsee 1 = .ok (.getfield 316, 3) := by decide +kernel
theorem dX12_unsee_4 : decode cX12_unsee 4 = .ok (.istore_n 1, 1) := by decide +kernel
theorem dX12_unsee_5 : decode cX12_unsee 5 = .ok (.aload_n 0, 1) := by decide +kernel
theorem dX12_unsee_6 : decode cX12_unsee 6 = .ok (.iconst 0, 1) := by decide +kernel
theorem dX12_unsee_7 : decode cX12_unsee 7 = .ok (.putfield 316, 3) := by decide +kernel
theorem dX12_unsee_10 : decode cX12_unsee 10 = .ok (.iload_n 1, 1) := by decide +kernel
theorem dX12_unsee_11 : decode cX12_unsee 11 = .ok (.ireturn, 1) := by decide +kernel
theorem dX12_can_0 : decode cX12_can 0 = .ok (.iconst 0, 1) := by decide +kernel
theorem dX12_can_1 : decode cX12_can 1 = .ok (.istore 4, 2) := by decide +kernel
theorem dX12_can_3 : decode cX12_can 3 = .ok (.aload_n 0, 1) := by decide +kernel
theorem dX12_can_4 : decode cX12_can 4 = .ok (.getfield 13, 3) := by decide +kernel
theorem dX12_can_7 : decode cX12_can 7 = .ok (.iload_n 1, 1) := by decide +kernel
theorem dX12_can_8 : decode cX12_can 8 = .ok (.iaload, 1) := by decide +kernel
theorem dX12_can_9 : decode cX12_can 9 = .ok (.tableswitch 252 0 10 #[59, 59, 59, 74, 123, 149, 185, 252, 212, 252, 243], 59) := by decide +kernel
theorem dX12_can_68 : decode cX12_can 68 = .ok (.aload_n 0, 1) := by decide +kernel
theorem dX12_can_69 : decode cX12_can 69 = .ok (.iload_n 1, 1) := by decide +kernel
theorem dX12_can_70 : decode cX12_can 70 = .ok (.iconst 1, 1) := by decide +kernel
theorem dX12_can_71 : decode cX12_can 71 = .ok (.iadd, 1) := by decide +kernel
theorem dX12_can_72 : decode cX12_can 72 = .ok (.aload_n 0, 1) := by decide +kernel
theorem dX12_can_73 : decode cX12_can 73 = .ok (.iload_n 1, 1) := by decide +kernel
theorem dX12_can_74 : decode cX12_can 74 = .ok (.iload_n 2, 1) := by decide +kernel
theorem dX12_can_75 : decode cX12_can 75 = .ok (.iconst 0, 1) := by decide +kernel
theorem dX12_can_76 : decode cX12_can 76 = .ok (.invokevirtual 249, 3) := by decide +kernel
theorem dX12_can_79 : decode cX12_can 79 = .ok (.invokevirtual 246, 3) := by decide +kernel
theorem dX12_can_82 : decode cX12_can 82 = .ok (.ireturn, 1) := by decide +kernel
theorem dX12_can_83 : decode cX12_can 83 = .ok (.iconst 0, 1) := by decide +kernel
theorem dX12_can_84 : decode cX12_can 84 = .ok (.istore 5, 2) := by decide +kernel
theorem dX12_can_86 : decode cX12_can 86 = .ok (.iload 5, 2) := by decide +kernel
theorem dX12_can_88 : decode cX12_can 88 = .ok (.bipush 6, 2) := by decide +kernel
theorem dX12_can_90 : decode cX12_can 90 = .ok (.if_icmp .ge 39, 3) := by decide +kernel
theorem dX12_can_93 : decode cX12_can 93 = .ok (.iload 4, 2) := by decide +kernel
theorem dX12_can_95 : decode cX12_can 95 = .ok (.ifCond .ne 21, 3) := by decide +kernel
theorem dX12_can_98 : decode cX12_can 98 = .ok (.aload_n 0, 1) := by decide +kernel
theorem dX12_can_99 : decode cX12_can 99 = .ok (.iload_n 1, 1) := by decide +kernel
theorem dX12_can_100 : decode cX12_can 100 = .ok (.iconst 1, 1) := by decide +kernel
theorem dX12_can_101 : decode cX12_can 101 = .ok (.iadd, 1) := by decide +kernel
theorem dX12_can_102 : decode cX12_can 102 = .ok (.aload_n 0, 1) := by decide +kernel
theorem dX12_can_103 : decode cX12_can 103 = .ok (.iload_n 1, 1) := by decide +kernel
theorem dX12_can_104 : decode cX12_can 104 = .ok (.iload_n 2, 1) := by decide +kernel
theorem dX12_can_105 : decode cX12_can 105 = .ok (.iload 5, 2) := by decide +kernel
theorem dX12_can_107 : decode cX12_can 107 = .ok (.invokevirtual 249, 3) := by decide +kernel
theorem dX12_can_110 : decode cX12_can 110 = .ok (.invokevirtual 246, 3) := by decide +kernel
theorem dX12_can_113 : decode cX12_can 113 = .ok (.ifCond .eq 7, 3) := by decide +kernel
theorem dX12_can_116 : decode cX12_can 116 = .ok (.iconst 1, 1) := by decide +kernel
theorem dX12_can_117 : decode cX12_can 117 = .ok (.goto 4, 3) := by decide +kernel
theorem dX12_can_120 : decode cX12_can 120 = .ok (.iconst 0, 1) := by decide +kernel
theorem dX12_can_121 : decode cX12_can 121 = .ok (.istore 4, 2) := by decide +kernel
theorem dX12_can_123 : decode cX12_can 123 = .ok (.iinc 5 1, 3) := by decide +kernel
theorem dX12_can_126 : decode cX12_can 126 = .ok (.goto (-40), 3) := by decide +kernel
theorem dX12_can_129 : decode cX12_can 129 = .ok (.iload 4, 2) := by decide +kernel
theorem dX12_can_131 : decode cX12_can 131 = .ok (.ireturn, 1) := by decide +kernel
theorem dX12_can_132 : decode cX12_can 132 = .ok (.aload_n 0, 1) := by decide +kernel
theorem dX12_can_133 : decode cX12_can 133 = .ok (.iload_n 1, 1) := by decide +kernel
theorem dX12_can_134 : decode cX12_can 134 = .ok (.iload_n 2, 1) := by decide +kernel
theorem dX12_can_135 : decode cX12_can 135 = .ok (.invokevirtual 255, 3) := by decide +kernel
theorem dX12_can_138 : decode cX12_can 138 = .ok (.ifCond .eq 18, 3) := by decide +kernel
theorem dX12_can_141 : decode cX12_can 141 = .ok (.aload_n 0, 1) := by decide +kernel
theorem dX12_can_142 : decode cX12_can 142 = .ok (.iload_n 1, 1) := by decide +kernel
theorem dX12_can_143 : decode cX12_can 143 = .ok (.iconst 1, 1) := by decide +kernel
theorem dX12_can_144 : decode cX12_can 144 = .ok (.iadd, 1) := by decide +kernel
theorem dX12_can_145 : decode cX12_can 145 = .ok (.iload_n 2, 1) := by decide +kernel
theorem dX12_can_146 : decode cX12_can 146 = .ok (.invokevirtual 246, 3) := by decide +kernel
theorem dX12_can_149 : decode cX12_can 149 = .ok (.ifCond .eq 7, 3) := by decide +kernel
theorem dX12_can_152 : decode cX12_can 152 = .ok (.iconst 1, 1) := by decide +kernel
theorem dX12_can_153 : decode cX12_can 153 = .ok (.goto 4, 3) := by decide +kernel
theorem dX12_can_156 : decode cX12_can 156 = .ok (.iconst 0, 1) := by decide +kernel
theorem dX12_can_157 : decode cX12_can 157 = .ok (.ireturn, 1) := by decide +kernel
theorem dX12_can_158 : decode cX12_can 158 = .ok (.aload_n 0, 1) := by decide +kernel
theorem dX12_can_159 : decode cX12_can 159 = .ok (.iload_n 1, 1) := by decide +kernel
theorem dX12_can_160 : decode cX12_can 160 = .ok (.iload_n 2, 1) := by decide +kernel
theorem dX12_can_161 : decode cX12_can 161 = .ok (.invokevirtual 255, 3) := by decide +kernel
theorem dX12_can_164 : decode cX12_can 164 = .ok (.ifCond .eq 14, 3) := by decide +kernel
theorem dX12_can_167 : decode cX12_can 167 = .ok (.aload_n 0, 1) := by decide +kernel
theorem dX12_can_168 : decode cX12_can 168 = .ok (.iload_n 1, 1) := by decide +kernel
theorem dX12_can_169 : decode cX12_can 169 = .ok (.iconst 1, 1) := by decide +kernel
theorem dX12_can_170 : decode cX12_can 170 = .ok (.iadd, 1) := by decide +kernel
theorem dX12_can_171 : decode cX12_can 171 = .ok (.iload_n 2, 1) := by decide +kernel
theorem dX12_can_172 : decode cX12_can 172 = .ok (.invokevirtual 246, 3) := by decide +kernel
theorem dX12_can_175 : decode cX12_can 175 = .ok (.goto 18, 3) := by decide +kernel
theorem dX12_can_178 : decode cX12_can 178 = .ok (.aload_n 0, 1) := by decide +kernel
theorem dX12_can_179 : decode cX12_can 179 = .ok (.getfield 25, 3) := by decide +kernel
theorem dX12_can_182 : decode cX12_can 182 = .ok (.iload_n 1, 1) := by decide +kernel
theorem dX12_can_183 : decode cX12_can 183 = .ok (.iaload, 1) := by decide +kernel
theorem dX12_can_184 : decode cX12_can 184 = .ok (.iload_n 3, 1) := by decide +kernel
theorem dX12_can_185 : decode cX12_can 185 = .ok (.if_icmp .ne 7, 3) := by decide +kernel
theorem dX12_can_188 : decode cX12_can 188 = .ok (.iconst 1, 1) := by decide +kernel
theorem dX12_can_189 : decode cX12_can 189 = .ok (.goto 4, 3) := by decide +kernel
theorem dX12_can_192 : decode cX12_can 192 = .ok (.iconst 0, 1) := by decide +kernel
theorem dX12_can_193 : decode cX12_can 193 = .ok (.ireturn, 1) := by decide +kernel
theorem dX12_can_194 : decode cX12_can 194 = .ok (.aload_n 0, 1) := by decide +kernel
theorem dX12_can_195 : decode cX12_can 195 = .ok (.aload_n 0, 1) := by decide +kernel
theorem dX12_can_196 : decode cX12_can 196 = .ok (.iload_n 1, 1) := by decide +kernel
theorem dX12_can_197 : decode cX12_can 197 = .ok (.iload_n 2, 1) := by decide +kernel
theorem dX12_can_198 : decode cX12_can 198 = .ok (.invokevirtual 255, 3) := by decide +kernel
theorem dX12_can_201 : decode cX12_can 201 = .ok (.ifCond .eq 9, 3) := by decide +kernel
theorem dX12_can_204 : decode cX12_can 204 = .ok (.iload_n 1, 1) := by decide +kernel
theorem dX12_can_205 : decode cX12_can 205 = .ok (.iconst 1, 1) := by decide +kernel
theorem dX12_can_206 : decode cX12_can 206 = .ok (.iadd, 1) := by decide +kernel
theorem dX12_can_207 : decode cX12_can 207 = .ok (.goto 9, 3) := by decide +kernel
theorem dX12_can_210 : decode cX12_can 210 = .ok (.aload_n 0, 1) := by decide +kernel
theorem dX12_can_211 : decode cX12_can 211 = .ok (.getfield 28, 3) := by decide +kernel
theorem dX12_can_214 : decode cX12_can 214 = .ok (.iload_n 1, 1) := by decide +kernel
theorem dX12_can_215 : decode cX12_can 215 = .ok (.iaload, 1) := by decide +kernel
theorem dX12_can_216 : decode cX12_can 216 = .ok (.iload_n 2, 1) := by decide +kernel
theorem dX12_can_217 : decode cX12_can 217 = .ok (.invokevirtual 246, 3) := by decide +kernel
theorem dX12_can_220 : decode cX12_can 220 = .ok (.ireturn, 1) := by decide +kernel
theorem dX12_can_221 : decode cX12_can 221 = .ok (.aload_n 0, 1) := by decide +kernel
theorem dX12_can_222 : decode cX12_can 222 = .ok (.iload_n 1, 1) := by decide +kernel
theorem dX12_can_223 : decode cX12_can 223 = .ok (.iconst 1, 1) := by decide +kernel
theorem dX12_can_224 : decode cX12_can 224 = .ok (.iadd, 1) := by decide +kernel
theorem dX12_can_225 : decode cX12_can 225 = .ok (.iload_n 2, 1) := by decide +kernel
theorem dX12_can_226 : decode cX12_can 226 = .ok (.invokevirtual 246, 3) := by decide +kernel
theorem dX12_can_229 : decode cX12_can 229 = .ok (.ifCond .ne 17, 3) := by decide +kernel
theorem dX12_can_232 : decode cX12_can 232 = .ok (.aload_n 0, 1) := by decide +kernel
theorem dX12_can_233 : decode cX12_can 233 = .ok (.aload_n 0, 1) := by decide +kernel
theorem dX12_can_234 : decode cX12_can 234 = .ok (.getfield 28, 3) := by decide +kernel
theorem dX12_can_237 : decode cX12_can 237 = .ok (.iload_n 1, 1) := by decide +kernel
theorem dX12_can_238 : decode cX12_can 238 = .ok (.iaload, 1) := by decide +kernel
theorem dX12_can_239 : decode cX12_can 239 = .ok (.iload_n 2, 1) := by decide +kernel
theorem dX12_can_240 : decode cX12_can 240 = .ok (.invokevirtual 246, 3) := by decide +kernel
theorem dX12_can_243 : decode cX12_can 243 = .ok (.ifCond .eq 7, 3) := by decide +kernel
theorem dX12_can_246 : decode cX12_can 246 = .ok (.iconst 1, 1) := by decide +kernel
theorem dX12_can_247 : decode cX12_can 247 = .ok (.goto 4, 3) := by decide +kernel
theorem dX12_can_250 : decode cX12_can 250 = .ok (.iconst 0, 1) := by decide +kernel
theorem dX12_can_251 : decode cX12_can 251 = .ok (.ireturn, 1) := by decide +kernel
theorem dX12_can_252 : decode cX12_can 252 = .ok (.aload_n 0, 1) := by decide +kernel
theorem dX12_can_253 : decode cX12_can 253 = .ok (.iload_n 1, 1) := by decide +kernel
theorem dX12_can_254 : decode cX12_can 254 = .ok (.iconst 1, 1) := by decide +kernel
theorem dX12_can_255 : decode cX12_can 255 = .ok (.iadd, 1) := by decide +kernel
theorem dX12_can_256 : decode cX12_can 256 = .ok (.iload_n 2, 1) := by decide +kernel
theorem dX12_can_257 : decode cX12_can 257 = .ok (.invokevirtual 246, 3) := by decide +kernel
theorem dX12_can_260 : decode cX12_can 260 = .ok (.ireturn, 1) := by decide +kernel
theorem dX12_can_261 : decode cX12_can 261 = .ok (.aload_n 0, 1) := by decide +kernel
theorem dX12_can_262 : decode cX12_can 262 = .ok (.aload_n 0, 1) := by decide +kernel
theorem dX12_can_263 : decode cX12_can 263 = .ok (.getfield 28, 3) := by decide +kernel
theorem dX12_can_266 : decode cX12_can 266 = .ok (.iload_n 1, 1) := by decide +kernel
theorem dX12_can_267 : decode cX12_can 267 = .ok (.iaload, 1) := by decide +kernel
theorem dX12_can_268 : decode cX12_can 268 = .ok (.iload_n 2, 1) := by decide +kernel
theorem dX12_can_269 : decode cX12_can 269 = .ok (.invokevirtual 246, 3) := by decide +kernel
theorem dX12_can_272 : decode cX12_can 272 = .ok (.ireturn, 1) := by decide +kernel
theorem dX12_layCans_0 : decode cX12_layCans 0 = .ok (.iconst 0, 1) := by decide +kernel
theorem dX12_layCans_1 : decode cX12_layCans 1 = .ok (.istore_n 2, 1) := by decide +kernel
theorem dX12_layCans_2 : decode cX12_layCans 2 = .ok (.iload_n 2, 1) := by decide +kernel
theorem dX12_layCans_3 : decode cX12_layCans 3 = .ok (.sipush 248, 3) := by decide +kernel
theorem dX12_layCans_6 : decode cX12_layCans 6 = .ok (.if_icmp .ge 16, 3) := by decide +kernel
theorem dX12_layCans_9 : decode cX12_layCans 9 = .ok (.aload_n 0, 1) := by decide +kernel
theorem dX12_layCans_10 : decode cX12_layCans 10 = .ok (.getfield 92, 3) := by decide +kernel
theorem dX12_layCans_13 : decode cX12_layCans 13 = .ok (.iload_n 2, 1) := by decide +kernel
theorem dX12_layCans_14 : decode cX12_layCans 14 = .ok (.lconst 0, 1) := by decide +kernel
theorem dX12_layCans_15 : decode cX12_layCans 15 = .ok (.lastore, 1) := by decide +kernel
theorem dX12_layCans_16 : decode cX12_layCans 16 = .ok (.iinc 2 1, 3) := by decide +kernel
theorem dX12_layCans_19 : decode cX12_layCans 19 = .ok (.goto (-17), 3) := by decide +kernel
theorem dX12_layCans_22 : decode cX12_layCans 22 = .ok (.iconst 1, 1) := by decide +kernel
theorem dX12_layCans_23 : decode cX12_layCans 23 = .ok (.istore_n 2, 1) := by decide +kernel
theorem dX12_layCans_24 : decode cX12_layCans 24 = .ok (.iload_n 2, 1) := by decide +kernel
theorem dX12_layCans_25 : decode cX12_layCans 25 = .ok (.ifCond .eq 83, 3) := by decide +kernel
theorem dX12_layCans_28 : decode cX12_layCans 28 = .ok (.iconst 0, 1) := by decide +kernel
theorem dX12_layCans_29 : decode cX12_layCans 29 = .ok (.istore_n 2, 1) := by decide +kernel
theorem dX12_layCans_30 : decode cX12_layCans 30 = .ok (.aload_n 0, 1) := by decide +kernel
theorem dX12_layCans_31 : decode cX12_layCans 31 = .ok (.getfield 205, 3) := by decide +kernel
theorem dX12_layCans_34 : decode cX12_layCans 34 = .ok (.iconst 1, 1) := by decide +kernel
theorem dX12_layCans_35 : decode cX12_layCans 35 = .ok (.isub, 1) := by decide +kernel
theorem dX12_layCans_36 : decode cX12_layCans 36 = .ok (.istore_n 3, 1) := by decide +kernel
theorem dX12_layCans_37 : decode cX12_layCans 37 = .ok (.iload_n 3, 1) := by decide +kernel
theorem dX12_layCans_38 : decode cX12_layCans 38 = .ok (.ifCond .lt 67, 3) := by decide +kernel
theorem dX12_layCans_41 : decode cX12_layCans 41 = .ok (.iconst 0, 1) := by decide +kernel
theorem dX12_layCans_42 : decode cX12_layCans 42 = .ok (.istore 4, 2) := by decide +kernel
theorem dX12_layCans_44 : decode cX12_layCans 44 = .ok (.iload 4, 2) := by decide +kernel
theorem dX12_layCans_46 : decode cX12_layCans 46 = .ok (.sipush 216, 3) := by decide +kernel
theorem dX12_layCans_49 : decode cX12_layCans 49 = .ok (.if_icmp .ge 50, 3) := by decide +kernel
theorem dX12_layCans_52 : decode cX12_layCans 52 = .ok (.aload_n 0, 1) := by decide +kernel
theorem dX12_layCans_53 : decode cX12_layCans 53 = .ok (.iload_n 3, 1) := by decide +kernel
theorem dX12_layCans_54 : decode cX12_layCans 54 = .ok (.iload 4, 2) := by decide +kernel
theorem dX12_layCans_56 : decode cX12_layCans 56 = .ok (.invokevirtual 246, 3) := by decide +kernel
theorem dX12_layCans_59 : decode cX12_layCans 59 = .ok (.ifCond .ne 24, 3) := by decide +kernel
theorem dX12_layCans_62 : decode cX12_layCans 62 = .ok (.aload_n 0, 1) := by decide +kernel
theorem dX12_layCans_63 : decode cX12_layCans 63 = .ok (.iload_n 3, 1) := by decide +kernel
theorem dX12_layCans_64 : decode cX12_layCans 64 = .ok (.iload 4, 2) := by decide +kernel
theorem dX12_layCans_66 : decode cX12_layCans 66 = .ok (.iload_n 1, 1) := by decide +kernel
theorem dX12_layCans_67 : decode cX12_layCans 67 = .ok (.invokevirtual 367, 3) := by decide +kernel
theorem dX12_layCans_70 : decode cX12_layCans 70 = .ok (.ifCond .eq 13, 3) := by decide +kernel
theorem dX12_layCans_73 : decode cX12_layCans 73 = .ok (.aload_n 0, 1) := by decide +kernel
theorem dX12_layCans_74 : decode cX12_layCans 74 = .ok (.iload_n 3, 1) := by decide +kernel
theorem dX12_layCans_75 : decode cX12_layCans 75 = .ok (.iload 4, 2) := by decide +kernel
theorem dX12_layCans_77 : decode cX12_layCans 77 = .ok (.invokevirtual 252, 3) := by decide +kernel
theorem dX12_layCans_80 : decode cX12_layCans 80 = .ok (.ifCond .ne 7, 3) := by decide +kernel
theorem dX12_layCans_83 : decode cX12_layCans 83 = .ok (.iload_n 2, 1) := by decide +kernel
theorem dX12_layCans_84 : decode cX12_layCans 84 = .ok (.ifCond .eq 7, 3) := by decide +kernel
theorem dX12_layCans_87 : decode cX12_layCans 87 = .ok (.iconst 1, 1) := by decide +kernel
theorem dX12_layCans_88 : decode cX12_layCans 88 = .ok (.goto 4, 3) := by decide +kernel
theorem dX12_layCans_91 : decode cX12_layCans 91 = .ok (.iconst 0, 1) := by decide +kernel
theorem dX12_layCans_92 : decode cX12_layCans 92 = .ok (.istore_n 2, 1) := by decide +kernel
theorem dX12_layCans_93 : decode cX12_layCans 93 = .ok (.iinc 4 1, 3) := by decide +kernel
theorem dX12_layCans_96 : decode cX12_layCans 96 = .ok (.goto (-52), 3) := by decide +kernel
theorem dX12_layCans_99 : decode cX12_layCans 99 = .ok (.iinc 3 (-1), 3) := by decide +kernel
theorem dX12_layCans_102 : decode cX12_layCans 102 = .ok (.goto (-65), 3) := by decide +kernel
theorem dX12_layCans_105 : decode cX12_layCans 105 = .ok (.goto (-81), 3) := by decide +kernel
theorem dX12_layCans_108 : decode cX12_layCans 108 = .ok (.return_, 1) := by decide +kernel
theorem dX12_leave_0 : decode cX12_leave 0 = .ok (.aload_n 0, 1) := by decide +kernel
theorem dX12_leave_1 : decode cX12_leave 1 = .ok (.iload_n 1, 1) := by decide +kernel
theorem dX12_leave_2 : decode cX12_leave 2 = .ok (.invokevirtual 371, 3) := by decide +kernel
theorem dX12_leave_5 : decode cX12_leave 5 = .ok (.iconst 0, 1) := by decide +kernel
theorem dX12_leave_6 : decode cX12_leave 6 = .ok (.istore_n 3, 1) := by decide +kernel
theorem dX12_leave_7 : decode cX12_leave 7 = .ok (.iload_n 3, 1) := by decide +kernel
theorem dX12_leave_8 : decode cX12_leave 8 = .ok (.iconst 4, 1) := by decide +kernel
theorem dX12_leave_9 : decode cX12_leave 9 = .ok (.if_icmp .ge 42, 3) := by decide +kernel
theorem dX12_leave_12 : decode cX12_leave 12 = .ok (.aload_n 0, 1) := by decide +kernel
theorem dX12_leave_13 : decode cX12_leave 13 = .ok (.getfield 102, 3) := by decide +kernel
theorem dX12_leave_16 : decode cX12_leave 16 = .ok (.iload_n 3, 1) := by decide +kernel
theorem dX12_leave_17 : decode cX12_leave 17 = .ok (.dup2, 1) := by decide +kernel
theorem dX12_leave_18 : decode cX12_leave 18 = .ok (.laload, 1) := by decide +kernel
theorem dX12_leave_19 : decode cX12_leave 19 = .ok (.iload_n 2, 1) := by decide +kernel
theorem dX12_leave_20 : decode cX12_leave 20 = .ok (.iconst 1, 1) := by decide +kernel
theorem dX12_leave_21 : decode cX12_leave 21 = .ok (.if_icmp .ne 12, 3) := by decide +kernel
theorem dX12_leave_24 : decode cX12_leave 24 = .ok (.aload_n 0, 1) := by decide +kernel
theorem dX12_leave_25 : decode cX12_leave 25 = .ok (.getfield 92, 3) := by decide +kernel
theorem dX12_leave_28 : decode cX12_leave 28 = .ok (.iload_n 3, 1) := by decide +kernel
theorem dX12_leave_29 : decode cX12_leave 29 = .ok (.laload, 1) := by decide +kernel
theorem dX12_leave_30 : decode cX12_leave 30 = .ok (.goto 13, 3) := by decide +kernel
theorem dX12_leave_33 : decode cX12_leave 33 = .ok (.aload_n 0, 1) := by decide +kernel
theorem dX12_leave_34 : decode cX12_leave 34 = .ok (.getfield 92, 3) := by decide +kernel
theorem dX12_leave_37 : decode cX12_leave 37 = .ok (.iload_n 3, 1) := by decide +kernel
theorem dX12_leave_38 : decode cX12_leave 38 = .ok (.laload, 1) := by decide +kernel
theorem dX12_leave_39 : decode cX12_leave 39 = .ok (.ldc2_w 374, 3) := by decide +kernel
theorem dX12_leave_42 : decode cX12_leave 42 = .ok (.lxor, 1) := by decide +kernel
theorem dX12_leave_43 : decode cX12_leave 43 = .ok (.land, 1) := by decide +kernel
theorem dX12_leave_44 : decode cX12_leave 44 = .ok (.lastore, 1) := by decide +kernel
theorem dX12_leave_45 : decode cX12_leave 45 = .ok (.iinc 3 1, 3) := by decide +kernel
theorem dX12_leave_48 : decode cX12_leave 48 = .ok (.goto (-41), 3) := by decide +kernel
theorem dX12_leave_51 : decode cX12_leave 51 = .ok (.return_, 1) := by decide +kernel
theorem dX12_which_0 : decode cX12_which 0 = .ok (.iload_n 1, 1) := by decide +kernel
theorem dX12_which_1 : decode cX12_which 1 = .ok (.i2l, 1) := by decide +kernel
theorem dX12_which_2 : decode cX12_which 2 = .ok (.lconst 0, 1) := by decide +kernel
theorem dX12_which_3 : decode cX12_which 3 = .ok (.lconst 1, 1) := by decide +kernel
theorem dX12_which_4 : decode cX12_which 4 = .ok (.invokestatic 114, 3) := by decide +kernel
theorem dX12_which_7 : decode cX12_which 7 = .ok (.ifCond .ne 6, 3) := by decide +kernel
theorem dX12_which_10 : decode cX12_which 10 = .ok (.bipush (-2), 2) := by decide +kernel
theorem dX12_which_12 : decode cX12_which 12 = .ok (.ireturn, 1) := by decide +kernel
theorem dX12_which_13 : decode cX12_which 13 = .ok (.iconst 0, 1) := by decide +kernel
theorem dX12_which_14 : decode cX12_which 14 = .ok (.istore_n 2, 1) := by decide +kernel
theorem dX12_which_15 : decode cX12_which 15 = .ok (.iload_n 2, 1) := by decide +kernel
theorem dX12_which_16 : decode cX12_which 16 = .ok (.iconst 4, 1) := by decide +kernel
theorem dX12_which_17 : decode cX12_which 17 = .ok (.if_icmp .ge 18, 3) := by decide +kernel
theorem dX12_which_20 : decode cX12_which 20 = .ok (.aload_n 0, 1) := by decide +kernel
theorem dX12_which_21 : decode cX12_which 21 = .ok (.getfield 102, 3) := by decide +kernel
theorem dX12_which_24 : decode cX12_which 24 = .ok (.iload_n 2, 1) := by decide +kernel
theorem dX12_which_25 : decode cX12_which 25 = .ok (.ldc2_w 376, 3) := by decide +kernel
theorem dX12_which_28 : decode cX12_which 28 = .ok (.lastore, 1) := by decide +kernel
theorem dX12_which_29 : decode cX12_which 29 = .ok (.iinc 2 1, 3) := by decide +kernel
theorem dX12_which_32 : decode cX12_which 32 = .ok (.goto (-17), 3) := by decide +kernel
theorem dX12_which_35 : decode cX12_which 35 = .ok (.iconst 0, 1) := by decide +kernel
theorem dX12_which_36 : decode cX12_which 36 = .ok (.istore_n 2, 1) := by decide +kernel
theorem dX12_which_37 : decode cX12_which 37 = .ok (.iload_n 2, 1) := by decide +kernel
theorem dX12_which_38 : decode cX12_which 38 = .ok (.aload_n 0, 1) := by decide +kernel
theorem dX12_which_39 : decode cX12_which 39 = .ok (.getfield 316, 3) := by decide +kernel
theorem dX12_which_42 : decode cX12_which 42 = .ok (.if_icmp .ge 43, 3) := by decide +kernel
theorem dX12_which_45 : decode cX12_which 45 = .ok (.aload_n 0, 1) := by decide +kernel
theorem dX12_which_46 : decode cX12_which 46 = .ok (.aload_n 0, 1) := by decide +kernel
theorem dX12_which_47 : decode cX12_which 47 = .ok (.getfield 86, 3) := by decide +kernel
theorem dX12_which_50 : decode cX12_which 50 = .ok (.iload_n 2, 1) := by decide +kernel
theorem dX12_which_51 : decode cX12_which 51 = .ok (.iaload, 1) := by decide +kernel
theorem dX12_which_52 : decode cX12_which 52 = .ok (.aload_n 0, 1) := by decide +kernel
theorem dX12_which_53 : decode cX12_which 53 = .ok (.getfield 208, 3) := by decide +kernel
theorem dX12_which_56 : decode cX12_which 56 = .ok (.if_icmp .ge 12, 3) := by decide +kernel
theorem dX12_which_59 : decode cX12_which 59 = .ok (.aload_n 0, 1) := by decide +kernel
theorem dX12_which_60 : decode cX12_which 60 = .ok (.getfield 86, 3) := by decide +kernel
theorem dX12_which_63 : decode cX12_which 63 = .ok (.iload_n 2, 1) := by decide +kernel
theorem dX12_which_64 : decode cX12_which 64 = .ok (.iaload, 1) := by decide +kernel
theorem dX12_which_65 : decode cX12_which 65 = .ok (.goto 5, 3) := by decide +kernel
theorem dX12_which_68 : decode cX12_which 68 = .ok (.bipush (-9), 2) := by decide +kernel
theorem dX12_which_70 : decode cX12_which 70 = .ok (.aload_n 0, 1) := by decide +kernel
theorem dX12_which_71 : decode cX12_which 71 = .ok (.getfield 89, 3) := by decide +kernel
theorem dX12_which_74 : decode cX12_which 74 = .ok (.iload_n 2, 1) := by decide +kernel
theorem dX12_which_75 : decode cX12_which 75 = .ok (.iaload, 1) := by decide +kernel
theorem dX12_which_76 : decode cX12_which 76 = .ok (.invokevirtual 378, 3) := by decide +kernel
theorem dX12_which_79 : decode cX12_which 79 = .ok (.iinc 2 1, 3) := by decide +kernel
theorem dX12_which_82 : decode cX12_which 82 = .ok (.goto (-45), 3) := by decide +kernel
theorem dX12_which_85 : decode cX12_which 85 = .ok (.iconst 0, 1) := by decide +kernel
theorem dX12_which_86 : decode cX12_which 86 = .ok (.istore_n 2, 1) := by decide +kernel
theorem dX12_which_87 : decode cX12_which 87 = .ok (.bipush (-9), 2) := by decide +kernel
theorem dX12_which_89 : decode cX12_which 89 = .ok (.istore_n 3, 1) := by decide +kernel
theorem dX12_which_90 : decode cX12_which 90 = .ok (.sipush 215, 3) := by decide +kernel
theorem dX12_which_93 : decode cX12_which 93 = .ok (.istore 4, 2) := by decide +kernel
theorem dX12_which_95 : decode cX12_which 95 = .ok (.iload 4, 2) := by decide +kernel
theorem dX12_which_97 : decode cX12_which 97 = .ok (.ifCond .lt 79, 3) := by decide +kernel
theorem dX12_which_100 : decode cX12_which 100 = .ok (.aload_n 0, 1) := by decide +kernel
theorem dX12_which_101 : decode cX12_which 101 = .ok (.getfield 70, 3) := by decide +kernel
theorem dX12_which_104 : decode cX12_which 104 = .ok (.iload 4, 2) := by decide +kernel
theorem dX12_which_106 : decode cX12_which 106 = .ok (.invokestatic 258, 3) := by decide +kernel
theorem dX12_which_109 : decode cX12_which 109 = .ok (.ifCond .eq 30, 3) := by decide +kernel
theorem dX12_which_112 : decode cX12_which 112 = .ok (.aload_n 0, 1) := by decide +kernel
theorem dX12_which_113 : decode cX12_which 113 = .ok (.getfield 102, 3) := by decide +kernel
theorem dX12_which_116 : decode cX12_which 116 = .ok (.iload 4, 2) := by decide +kernel
theorem dX12_which_118 : decode cX12_which 118 = .ok (.bipush 54, 2) := by decide +kernel
theorem dX12_which_120 : decode cX12_which 120 = .ok (.idiv, 1) := by decide +kernel
theorem dX12_which_121 : decode cX12_which 121 = .ok (.laload, 1) := by decide +kernel
theorem dX12_which_122 : decode cX12_which 122 = .ok (.iload 4, 2) := by decide +kernel
theorem dX12_which_124 : decode cX12_which 124 = .ok (.bipush 54, 2) := by decide +kernel
theorem dX12_which_126 : decode cX12_which 126 = .ok (.irem, 1) := by decide +kernel
theorem dX12_which_127 : decode cX12_which 127 = .ok (.lshr, 1) := by decide +kernel
theorem dX12_which_128 : decode cX12_which 128 = .ok (.lconst 1, 1) := by decide +kernel
theorem dX12_which_129 : decode cX12_which 129 = .ok (.land, 1) := by decide +kernel
theorem dX12_which_130 : decode cX12_which 130 = .ok (.lconst 1, 1) := by decide +kernel
theorem dX12_which_131 : decode cX12_which 131 = .ok (.lcmp, 1) := by decide +kernel
theorem dX12_which_132 : decode cX12_which 132 = .ok (.ifCond .ne 7, 3) := by decide +kernel
theorem dX12_which_135 : decode cX12_which 135 = .ok (.iconst 1, 1) := by decide +kernel
theorem dX12_which_136 : decode cX12_which 136 = .ok (.goto 4, 3) := by decide +kernel
theorem dX12_which_139 : decode cX12_which 139 = .ok (.iconst 0, 1) := by decide +kernel
theorem dX12_which_140 : decode cX12_which 140 = .ok (.istore 5, 2) := by decide +kernel
theorem dX12_which_142 : decode cX12_which 142 = .ok (.iload_n 2, 1) := by decide +kernel
theorem dX12_which_143 : decode cX12_which 143 = .ok (.iload 5, 2) := by decide +kernel
theorem dX12_which_145 : decode cX12_which 145 = .ok (.ifCond .eq 7, 3) := by decide +kernel
theorem dX12_which_148 : decode cX12_which 148 = .ok (.iconst 1, 1) := by decide +kernel
theorem dX12_which_149 : decode cX12_which 149 = .ok (.goto 4, 3) := by decide +kernel
theorem dX12_which_152 : decode cX12_which 152 = .ok (.iconst 0, 1) := by decide +kernel
theorem dX12_which_153 : decode cX12_which 153 = .ok (.iadd, 1) := by decide +kernel
theorem dX12_which_154 : decode cX12_which 154 = .ok (.istore_n 2, 1) := by decide +kernel
theorem dX12_which_155 : decode cX12_which 155 = .ok (.iload 5, 2) := by decide +kernel
theorem dX12_which_157 : decode cX12_which 157 = .ok (.ifCond .eq 11, 3) := by decide +kernel
theorem dX12_which_160 : decode cX12_which 160 = .ok (.iload 4, 2) := by decide +kernel
theorem dX12_which_162 : decode cX12_which 162 = .ok (.invokestatic 295, 3) := by decide +kernel
theorem dX12_which_165 : decode cX12_which 165 = .ok (.goto 4, 3) := by decide +kernel
theorem dX12_which_168 : decode cX12_which 168 = .ok (.iload_n 3, 1) := by decide +kernel
theorem dX12_which_169 : decode cX12_which 169 = .ok (.istore_n 3, 1) := by decide +kernel
theorem dX12_which_170 : decode cX12_which 170 = .ok (.iinc 4 (-1), 3) := by decide +kernel
theorem dX12_which_173 : decode cX12_which 173 = .ok (.goto (-78), 3) := by decide +kernel
theorem dX12_which_176 : decode cX12_which 176 = .ok (.iload_n 1, 1) := by decide +kernel
theorem dX12_which_177 : decode cX12_which 177 = .ok (.ifCond .ne 7, 3) := by decide +kernel
theorem dX12_which_180 : decode cX12_which 180 = .ok (.iload_n 2, 1) := by decide +kernel
theorem dX12_which_181 : decode cX12_which 181 = .ok (.goto 4, 3) := by decide +kernel
theorem dX12_which_184 : decode cX12_which 184 = .ok (.iload_n 3, 1) := by decide +kernel
theorem dX12_which_185 : decode cX12_which 185 = .ok (.ireturn, 1) := by decide +kernel
theorem dX12_lost_0 : decode cX12_lost 0 = .ok (.iload_n 1, 1) := by decide +kernel
theorem dX12_lost_1 : decode cX12_lost 1 = .ok (.i2l, 1) := by decide +kernel
theorem dX12_lost_2 : decode cX12_lost 2 = .ok (.lconst 0, 1) := by decide +kernel
theorem dX12_lost_3 : decode cX12_lost 3 = .ok (.ldc2_w 382, 3) := by decide +kernel
theorem dX12_lost_6 : decode cX12_lost 6 = .ok (.invokestatic 114, 3) := by decide +kernel
theorem dX12_lost_9 : decode cX12_lost 9 = .ok (.ifCond .ne 6, 3) := by decide +kernel
theorem dX12_lost_12 : decode cX12_lost 12 = .ok (.bipush (-2), 2) := by decide +kernel
theorem dX12_lost_14 : decode cX12_lost 14 = .ok (.ireturn, 1) := by decide +kernel
theorem dX12_lost_15 : decode cX12_lost 15 = .ok (.aload_n 0, 1) := by decide +kernel
theorem dX12_lost_16 : decode cX12_lost 16 = .ok (.aload_n 0, 1) := by decide +kernel
theorem dX12_lost_17 : decode cX12_lost 17 = .ok (.getfield 70, 3) := by decide +kernel
theorem dX12_lost_20 : decode cX12_lost 20 = .ok (.invokevirtual 281, 3) := by decide +kernel
theorem dX12_lost_23 : decode cX12_lost 23 = .ok (.istore_n 3, 1) := by decide +kernel
theorem dX12_lost_24 : decode cX12_lost 24 = .ok (.iload_n 3, 1) := by decide +kernel
theorem dX12_lost_25 : decode cX12_lost 25 = .ok (.invokestatic 304, 3) := by decide +kernel
theorem dX12_lost_28 : decode cX12_lost 28 = .ok (.istore 4, 2) := by decide +kernel
theorem dX12_lost_30 : decode cX12_lost 30 = .ok (.iconst 0, 1) := by decide +kernel
theorem dX12_lost_31 : decode cX12_lost 31 = .ok (.istore 5, 2) := by decide +kernel
theorem dX12_lost_33 : decode cX12_lost 33 = .ok (.iconst 0, 1) := by decide +kernel
theorem dX12_lost_34 : decode cX12_lost 34 = .ok (.istore 6, 2) := by decide +kernel
theorem dX12_lost_36 : decode cX12_lost 36 = .ok (.iload 6, 2) := by decide +kernel
theorem dX12_lost_38 : decode cX12_lost 38 = .ok (.iload_n 3, 1) := by decide +kernel
theorem dX12_lost_39 : decode cX12_lost 39 = .ok (.if_icmp .gt 65, 3) := by decide +kernel
theorem dX12_lost_42 : decode cX12_lost 42 = .ok (.iload 6, 2) := by decide +kernel
theorem dX12_lost_44 : decode cX12_lost 44 = .ok (.iload_n 3, 1) := by decide +kernel
theorem dX12_lost_45 : decode cX12_lost 45 = .ok (.iconst (-1), 1) := by decide +kernel
theorem dX12_lost_46 : decode cX12_lost 46 = .ok (.ixor, 1) := by decide +kernel
theorem dX12_lost_47 : decode cX12_lost 47 = .ok (.iand, 1) := by decide +kernel
theorem dX12_lost_48 : decode cX12_lost 48 = .ok (.ifCond .ne 50, 3) := by decide +kernel
theorem dX12_lost_51 : decode cX12_lost 51 = .ok (.aload_n 0, 1) := by decide +kernel
theorem dX12_lost_52 : decode cX12_lost 52 = .ok (.aload_n 0, 1) := by decide +kernel
theorem dX12_lost_53 : decode cX12_lost 53 = .ok (.getfield 70, 3) := by decide +kernel
theorem dX12_lost_56 : decode cX12_lost 56 = .ok (.iload 6, 2) := by decide +kernel
theorem dX12_lost_58 : decode cX12_lost 58 = .ok (.invokevirtual 334, 3) := by decide +kernel
theorem dX12_lost_61 : decode cX12_lost 61 = .ok (.aload_n 0, 1) := by decide +kernel
theorem dX12_lost_62 : decode cX12_lost 62 = .ok (.getfield 208, 3) := by decide +kernel
theorem dX12_lost_65 : decode cX12_lost 65 = .ok (.if_icmp .ne 33, 3) := by decide +kernel
theorem dX12_lost_68 : decode cX12_lost 68 = .ok (.iload 5, 2) := by decide +kernel
theorem dX12_lost_70 : decode cX12_lost 70 = .ok (.bipush 10, 2) := by decide +kernel
theorem dX12_lost_72 : decode cX12_lost 72 = .ok (.iload_n 1, 1) := by decide +kernel
theorem dX12_lost_73 : decode cX12_lost 73 = .ok (.isub, 1) := by decide +kernel
theorem dX12_lost_74 : decode cX12_lost 74 = .ok (.iload 6, 2) := by decide +kernel
theorem dX12_lost_76 : decode cX12_lost 76 = .ok (.invokestatic 304, 3) := by decide +kernel
theorem dX12_lost_79 : decode cX12_lost 79 = .ok (.invokestatic 384, 3) := by decide +kernel
theorem dX12_lost_82 : decode cX12_lost 82 = .ok (.iload_n 1, 1) := by decide +kernel
theorem dX12_lost_83 : decode cX12_lost 83 = .ok (.iload 4, 2) := by decide +kernel
theorem dX12_lost_85 : decode cX12_lost 85 = .ok (.iload 6, 2) := by decide +kernel
theorem dX12_lost_87 : decode cX12_lost 87 = .ok (.invokestatic 304, 3) := by decide +kernel
theorem dX12_lost_90 : decode cX12_lost 90 = .ok (.isub, 1) := by decide +kernel
theorem dX12_lost_91 : decode cX12_lost 91 = .ok (.invokestatic 384, 3) := by decide +kernel
theorem dX12_lost_94 : decode cX12_lost 94 = .ok (.imul, 1) := by decide +kernel
theorem dX12_lost_95 : decode cX12_lost 95 = .ok (.iadd, 1) := by decide +kernel
theorem dX12_lost_96 : decode cX12_lost 96 = .ok (.istore 5, 2) := by decide +kernel
theorem dX12_lost_98 : decode cX12_lost 98 = .ok (.iinc 6 1, 3) := by decide +kernel
theorem dX12_lost_101 : decode cX12_lost 101 = .ok (.goto (-65), 3) := by decide +kernel
theorem dX12_lost_104 : decode cX12_lost 104 = .ok (.iload 5, 2) := by decide +kernel
theorem dX12_lost_106 : decode cX12_lost 106 = .ok (.bipush 10, 2) := by decide +kernel
theorem dX12_lost_108 : decode cX12_lost 108 = .ok (.iload 4, 2) := by decide +kernel
theorem dX12_lost_110 : decode cX12_lost 110 = .ok (.invokestatic 384, 3) := by decide +kernel
theorem dX12_lost_113 : decode cX12_lost 113 = .ok (.iload_n 2, 1) := by decide +kernel
theorem dX12_lost_114 : decode cX12_lost 114 = .ok (.invokestatic 363, 3) := by decide +kernel
theorem dX12_lost_117 : decode cX12_lost 117 = .ok (.ireturn, 1) := by decide +kernel
theorem dX12_seed_0 : decode cX12_seed 0 = .ok (.aload_n 0, 1) := by decide +kernel
theorem dX12_seed_1 : decode cX12_seed 1 = .ok (.getfield 387, 3) := by decide +kernel
theorem dX12_seed_4 : decode cX12_seed 4 = .ok (.lstore_n 3, 1) := by decide +kernel
theorem dX12_seed_5 : decode cX12_seed 5 = .ok (.aload_n 0, 1) := by decide +kernel
theorem dX12_seed_6 : decode cX12_seed 6 = .ok (.lload_n 1, 1) := by decide +kernel
theorem dX12_seed_7 : decode cX12_seed 7 = .ok (.putfield 387, 3) := by decide +kernel
theorem dX12_seed_10 : decode cX12_seed 10 = .ok (.lload_n 3, 1) := by decide +kernel
theorem dX12_seed_11 : decode cX12_seed 11 = .ok (.lreturn, 1) := by decide +kernel
theorem dX12_draw_0 : decode cX12_draw 0 = .ok (.aload_n 0, 1) := by decide +kernel
theorem dX12_draw_1 : decode cX12_draw 1 = .ok (.aload_n 0, 1) := by decide +kernel
theorem dX12_draw_2 : decode cX12_draw 2 = .ok (.getfield 387, 3) := by decide +kernel
theorem dX12_draw_5 : decode cX12_draw 5 = .ok (.ldc2_w 391, 3) := by decide +kernel
theorem dX12_draw_8 : decode cX12_draw 8 = .ok (.lmul, 1) := by decide +kernel
theorem dX12_draw_9 : decode cX12_draw 9 = .ok (.ldc2_w 393, 3) := by decide +kernel
theorem dX12_draw_12 : decode cX12_draw 12 = .ok (.ladd, 1) := by decide +kernel
theorem dX12_draw_13 : decode cX12_draw 13 = .ok (.putfield 387, 3) := by decide +kernel
theorem dX12_draw_16 : decode cX12_draw 16 = .ok (.aload_n 0, 1) := by decide +kernel
theorem dX12_draw_17 : decode cX12_draw 17 = .ok (.getfield 387, 3) := by decide +kernel
theorem dX12_draw_20 : decode cX12_draw 20 = .ok (.bipush 33, 2) := by decide +kernel
theorem dX12_draw_22 : decode cX12_draw 22 = .ok (.lushr, 1) := by decide +kernel
theorem dX12_draw_23 : decode cX12_draw 23 = .ok (.iload_n 1, 1) := by decide +kernel
theorem dX12_draw_24 : decode cX12_draw 24 = .ok (.i2l, 1) := by decide +kernel
theorem dX12_draw_25 : decode cX12_draw 25 = .ok (.lrem, 1) := by decide +kernel
theorem dX12_draw_26 : decode cX12_draw 26 = .ok (.l2i, 1) := by decide +kernel
theorem dX12_draw_27 : decode cX12_draw 27 = .ok (.ireturn, 1) := by decide +kernel
theorem dX12_step_0 : decode cX12_step 0 = .ok (.aload_n 0, 1) := by decide +kernel
theorem dX12_step_1 : decode cX12_step 1 = .ok (.getfield 395, 3) := by decide +kernel
theorem dX12_step_4 : decode cX12_step 4 = .ok (.istore_n 1, 1) := by decide +kernel
theorem dX12_step_5 : decode cX12_step 5 = .ok (.aload_n 0, 1) := by decide +kernel
theorem dX12_step_6 : decode cX12_step 6 = .ok (.dup, 1) := by decide +kernel
theorem dX12_step_7 : decode cX12_step 7 = .ok (.getfield 395, 3) := by decide +kernel
theorem dX12_step_10 : decode cX12_step 10 = .ok (.iconst 1, 1) := by decide +kernel
theorem dX12_step_11 : decode cX12_step 11 = .ok (.iadd, 1) := by decide +kernel
theorem dX12_step_12 : decode cX12_step 12 = .ok (.putfield 395, 3) := by decide +kernel
theorem dX12_step_15 : decode cX12_step 15 = .ok (.aload_n 0, 1) := by decide +kernel
theorem dX12_step_16 : decode cX12_step 16 = .ok (.getfield 13, 3) := by decide +kernel
theorem dX12_step_19 : decode cX12_step 19 = .ok (.iload_n 1, 1) := by decide +kernel
theorem dX12_step_20 : decode cX12_step 20 = .ok (.iaload, 1) := by decide +kernel
theorem dX12_step_21 : decode cX12_step 21 = .ok (.tableswitch 197 0 10 #[59, 59, 59, 76, 98, 117, 136, 197, 167, 197, 194], 59) := by decide +kernel
theorem dX12_step_80 : decode cX12_step 80 = .ok (.aload_n 0, 1) := by decide +kernel
theorem dX12_step_81 : decode cX12_step 81 = .ok (.aload_n 0, 1) := by decide +kernel
theorem dX12_step_82 : decode cX12_step 82 = .ok (.iload_n 1, 1) := by decide +kernel
theorem dX12_step_83 : decode cX12_step 83 = .ok (.aload_n 0, 1) := by decide +kernel
theorem dX12_step_84 : decode cX12_step 84 = .ok (.getfield 398, 3) := by decide +kernel
theorem dX12_step_87 : decode cX12_step 87 = .ok (.iconst 0, 1) := by decide +kernel
theorem dX12_step_88 : decode cX12_step 88 = .ok (.invokevirtual 249, 3) := by decide +kernel
theorem dX12_step_91 : decode cX12_step 91 = .ok (.putfield 398, 3) := by decide +kernel
theorem dX12_step_94 : decode cX12_step 94 = .ok (.bipush (-9), 2) := by decide +kernel
theorem dX12_step_96 : decode cX12_step 96 = .ok (.ireturn, 1) := by decide +kernel
theorem dX12_step_97 : decode cX12_step 97 = .ok (.aload_n 0, 1) := by decide +kernel
theorem dX12_step_98 : decode cX12_step 98 = .ok (.aload_n 0, 1) := by decide +kernel
theorem dX12_step_99 : decode cX12_step 99 = .ok (.iload_n 1, 1) := by decide +kernel
theorem dX12_step_100 : decode cX12_step 100 = .ok (.aload_n 0, 1) := by decide +kernel
theorem dX12_step_101 : decode cX12_step 101 = .ok (.getfield 398, 3) := by decide +kernel
theorem dX12_step_104 : decode cX12_step 104 = .ok (.aload_n 0, 1) := by decide +kernel
theorem dX12_step_105 : decode cX12_step 105 = .ok (.bipush 6, 2) := by decide +kernel
theorem dX12_step_107 : decode cX12_step 107 = .ok (.invokevirtual 401, 3) := by decide +kernel
theorem dX12_step_110 : decode cX12_step 110 = .ok (.invokevirtual 249, 3) := by decide +kernel
theorem dX12_step_113 : decode cX12_step 113 = .ok (.putfield 398, 3) := by decide +kernel
theorem dX12_step_116 : decode cX12_step 116 = .ok (.bipush (-9), 2) := by decide +kernel
theorem dX12_step_118 : decode cX12_step 118 = .ok (.ireturn, 1) := by decide +kernel
theorem dX12_step_119 : decode cX12_step 119 = .ok (.aload_n 0, 1) := by decide +kernel
theorem dX12_step_120 : decode cX12_step 120 = .ok (.iload_n 1, 1) := by decide +kernel
theorem dX12_step_121 : decode cX12_step 121 = .ok (.aload_n 0, 1) := by decide +kernel
theorem dX12_step_122 : decode cX12_step 122 = .ok (.getfield 398, 3) := by decide +kernel
theorem dX12_step_125 : decode cX12_step 125 = .ok (.invokevirtual 255, 3) := by decide +kernel
theorem dX12_step_128 : decode cX12_step 128 = .ok (.ifCond .eq 8, 3) := by decide +kernel
theorem dX12_step_131 : decode cX12_step 131 = .ok (.bipush (-9), 2) := by decide +kernel
theorem dX12_step_133 : decode cX12_step 133 = .ok (.goto 4, 3) := by decide +kernel
theorem dX12_step_136 : decode cX12_step 136 = .ok (.iconst 2, 1) := by decide +kernel
theorem dX12_step_137 : decode cX12_step 137 = .ok (.ireturn, 1) := by decide +kernel
theorem dX12_step_138 : decode cX12_step 138 = .ok (.aload_n 0, 1) := by decide +kernel
theorem dX12_step_139 : decode cX12_step 139 = .ok (.iload_n 1, 1) := by decide +kernel
theorem dX12_step_140 : decode cX12_step 140 = .ok (.aload_n 0, 1) := by decide +kernel
theorem dX12_step_141 : decode cX12_step 141 = .ok (.getfield 398, 3) := by decide +kernel
theorem dX12_step_144 : decode cX12_step 144 = .ok (.invokevirtual 255, 3) := by decide +kernel
theorem dX12_step_147 : decode cX12_step 147 = .ok (.ifCond .eq 8, 3) := by decide +kernel
theorem dX12_step_150 : decode cX12_step 150 = .ok (.bipush (-9), 2) := by decide +kernel
theorem dX12_step_152 : decode cX12_step 152 = .ok (.goto 4, 3) := by decide +kernel
theorem dX12_step_155 : decode cX12_step 155 = .ok (.iconst 1, 1) := by decide +kernel
theorem dX12_step_156 : decode cX12_step 156 = .ok (.ireturn, 1) := by decide +kernel
theorem dX12_step_157 : decode cX12_step 157 = .ok (.aload_n 0, 1) := by decide +kernel
theorem dX12_step_158 : decode cX12_step 158 = .ok (.aload_n 0, 1) := by decide +kernel
theorem dX12_step_159 : decode cX12_step 159 = .ok (.iload_n 1, 1) := by decide +kernel
theorem dX12_step_160 : decode cX12_step 160 = .ok (.aload_n 0, 1) := by decide +kernel
theorem dX12_step_161 : decode cX12_step 161 = .ok (.getfield 398, 3) := by decide +kernel
theorem dX12_step_164 : decode cX12_step 164 = .ok (.invokevirtual 255, 3) := by decide +kernel
theorem dX12_step_167 : decode cX12_step 167 = .ok (.ifCond .eq 9, 3) := by decide +kernel
theorem dX12_step_170 : decode cX12_step 170 = .ok (.iload_n 1, 1) := by decide +kernel
theorem dX12_step_171 : decode cX12_step 171 = .ok (.iconst 1, 1) := by decide +kernel
theorem dX12_step_172 : decode cX12_step 172 = .ok (.iadd, 1) := by decide +kernel
theorem dX12_step_173 : decode cX12_step 173 = .ok (.goto 9, 3) := by decide +kernel
theorem dX12_step_176 : decode cX12_step 176 = .ok (.aload_n 0, 1) := by decide +kernel
theorem dX12_step_177 : decode cX12_step 177 = .ok (.getfield 28, 3) := by decide +kernel
theorem dX12_step_180 : decode cX12_step 180 = .ok (.iload_n 1, 1) := by decide +kernel
theorem dX12_step_181 : decode cX12_step 181 = .ok (.iaload, 1) := by decide +kernel
theorem dX12_step_182 : decode cX12_step 182 = .ok (.putfield 395, 3) := by decide +kernel
theorem dX12_step_185 : decode cX12_step 185 = .ok (.bipush (-9), 2) := by decide +kernel
theorem dX12_step_187 : decode cX12_step 187 = .ok (.ireturn, 1) := by decide +kernel
theorem dX12_step_188 : decode cX12_step 188 = .ok (.aload_n 0, 1) := by decide +kernel
theorem dX12_step_189 : decode cX12_step 189 = .ok (.aload_n 0, 1) := by decide +kernel
theorem dX12_step_190 : decode cX12_step 190 = .ok (.iconst 2, 1) := by decide +kernel
theorem dX12_step_191 : decode cX12_step 191 = .ok (.invokevirtual 401, 3) := by decide +kernel
theorem dX12_step_194 : decode cX12_step 194 = .ok (.ifCond .ne 9, 3) := by decide +kernel
theorem dX12_step_197 : decode cX12_step 197 = .ok (.iload_n 1, 1) := by decide +kernel
theorem dX12_step_198 : decode cX12_step 198 = .ok (.iconst 1, 1) := by decide +kernel
theorem dX12_step_199 : decode cX12_step 199 = .ok (.iadd, 1) := by decide +kernel
theorem dX12_step_200 : decode cX12_step 200 = .ok (.goto 9, 3) := by decide +kernel
theorem dX12_step_203 : decode cX12_step 203 = .ok (.aload_n 0, 1) := by decide +kernel
theorem dX12_step_204 : decode cX12_step 204 = .ok (.getfield 28, 3) := by decide +kernel
theorem dX12_step_207 : decode cX12_step 207 = .ok (.iload_n 1, 1) := by decide +kernel
theorem dX12_step_208 : decode cX12_step 208 = .ok (.iaload, 1) := by decide +kernel
theorem dX12_step_209 : decode cX12_step 209 = .ok (.putfield 395, 3) := by decide +kernel
theorem dX12_step_212 : decode cX12_step 212 = .ok (.bipush (-9), 2) := by decide +kernel
theorem dX12_step_214 : decode cX12_step 214 = .ok (.ireturn, 1) := by decide +kernel
theorem dX12_step_215 : decode cX12_step 215 = .ok (.bipush (-9), 2) := by decide +kernel
theorem dX12_step_217 : decode cX12_step 217 = .ok (.ireturn, 1) := by decide +kernel
theorem dX12_step_218 : decode cX12_step 218 = .ok (.aload_n 0, 1) := by decide +kernel
theorem dX12_step_219 : decode cX12_step 219 = .ok (.aload_n 0, 1) := by decide +kernel
theorem dX12_step_220 : decode cX12_step 220 = .ok (.getfield 28, 3) := by decide +kernel
theorem dX12_step_223 : decode cX12_step 223 = .ok (.iload_n 1, 1) := by decide +kernel
theorem dX12_step_224 : decode cX12_step 224 = .ok (.iaload, 1) := by decide +kernel
theorem dX12_step_225 : decode cX12_step 225 = .ok (.putfield 395, 3) := by decide +kernel
theorem dX12_step_228 : decode cX12_step 228 = .ok (.bipush (-9), 2) := by decide +kernel
theorem dX12_step_230 : decode cX12_step 230 = .ok (.ireturn, 1) := by decide +kernel
theorem dX12_run_0 : decode cX12_run 0 = .ok (.aload_n 0, 1) := by decide +kernel
theorem dX12_run_1 : decode cX12_run 1 = .ok (.iconst 0, 1) := by decide +kernel
theorem dX12_run_2 : decode cX12_run 2 = .ok (.putfield 398, 3) := by decide +kernel
theorem dX12_run_5 : decode cX12_run 5 = .ok (.aload_n 0, 1) := by decide +kernel
theorem dX12_run_6 : decode cX12_run 6 = .ok (.iconst 0, 1) := by decide +kernel
theorem dX12_run_7 : decode cX12_run 7 = .ok (.putfield 395, 3) := by decide +kernel
theorem dX12_run_10 : decode cX12_run 10 = .ok (.iconst 0, 1) := by decide +kernel
theorem dX12_run_11 : decode cX12_run 11 = .ok (.istore_n 1, 1) := by decide +kernel
theorem dX12_run_12 : decode cX12_run 12 = .ok (.iload_n 1, 1) := by decide +kernel
theorem dX12_run_13 : decode cX12_run 13 = .ok (.iconst 3, 1) := by decide +kernel
theorem dX12_run_14 : decode cX12_run 14 = .ok (.if_icmp .ge 47, 3) := by decide +kernel
theorem dX12_run_17 : decode cX12_run 17 = .ok (.aload_n 0, 1) := by decide +kernel
theorem dX12_run_18 : decode cX12_run 18 = .ok (.aload_n 0, 1) := by decide +kernel
theorem dX12_run_19 : decode cX12_run 19 = .ok (.getfield 398, 3) := by decide +kernel
theorem dX12_run_22 : decode cX12_run 22 = .ok (.iload_n 1, 1) := by decide +kernel
theorem dX12_run_23 : decode cX12_run 23 = .ok (.aload_n 0, 1) := by decide +kernel
theorem dX12_run_24 : decode cX12_run 24 = .ok (.getfield 70, 3) := by decide +kernel
theorem dX12_run_27 : decode cX12_run 27 = .ok (.iload_n 1, 1) := by decide +kernel
theorem dX12_run_28 : decode cX12_run 28 = .ok (.iaload, 1) := by decide +kernel
theorem dX12_run_29 : decode cX12_run 29 = .ok (.bipush 6, 2) := by decide +kernel
theorem dX12_run_31 : decode cX12_run 31 = .ok (.if_icmp .ne 12, 3) := by decide +kernel
theorem dX12_run_34 : decode cX12_run 34 = .ok (.aload_n 0, 1) := by decide +kernel
theorem dX12_run_35 : decode cX12_run 35 = .ok (.bipush 6, 2) := by decide +kernel
theorem dX12_run_37 : decode cX12_run 37 = .ok (.invokevirtual 401, 3) := by decide +kernel
theorem dX12_run_40 : decode cX12_run 40 = .ok (.goto 9, 3) := by decide +kernel
theorem dX12_run_43 : decode cX12_run 43 = .ok (.aload_n 0, 1) := by decide +kernel
theorem dX12_run_44 : decode cX12_run 44 = .ok (.getfield 70, 3) := by decide +kernel
theorem dX12_run_47 : decode cX12_run 47 = .ok (.iload_n 1, 1) := by decide +kernel
theorem dX12_run_48 : decode cX12_run 48 = .ok (.iaload, 1) := by decide +kernel
theorem dX12_run_49 : decode cX12_run 49 = .ok (.invokestatic 242, 3) := by decide +kernel
theorem dX12_run_52 : decode cX12_run 52 = .ok (.putfield 398, 3) := by decide +kernel
theorem dX12_run_55 : decode cX12_run 55 = .ok (.iinc 1 1, 3) := by decide +kernel
theorem dX12_run_58 : decode cX12_run 58 = .ok (.goto (-46), 3) := by decide +kernel
theorem dX12_run_61 : decode cX12_run 61 = .ok (.iconst 0, 1) := by decide +kernel
theorem dX12_run_62 : decode cX12_run 62 = .ok (.istore_n 1, 1) := by decide +kernel
theorem dX12_run_63 : decode cX12_run 63 = .ok (.bipush (-9), 2) := by decide +kernel
theorem dX12_run_65 : decode cX12_run 65 = .ok (.istore_n 2, 1) := by decide +kernel
theorem dX12_run_66 : decode cX12_run 66 = .ok (.iload_n 2, 1) := by decide +kernel
theorem dX12_run_67 : decode cX12_run 67 = .ok (.bipush (-9), 2) := by decide +kernel
theorem dX12_run_69 : decode cX12_run 69 = .ok (.if_icmp .ne 55, 3) := by decide +kernel
theorem dX12_run_72 : decode cX12_run 72 = .ok (.aload_n 0, 1) := by decide +kernel
theorem dX12_run_73 : decode cX12_run 73 = .ok (.getfield 395, 3) := by decide +kernel
theorem dX12_run_76 : decode cX12_run 76 = .ok (.aload_n 0, 1) := by decide +kernel
theorem dX12_run_77 : decode cX12_run 77 = .ok (.getfield 205, 3) := by decide +kernel
theorem dX12_run_80 : decode cX12_run 80 = .ok (.if_icmp .ge 44, 3) := by decide +kernel
theorem dX12_run_83 : decode cX12_run 83 = .ok (.iload_n 1, 1) := by decide +kernel
theorem dX12_run_84 : decode cX12_run 84 = .ok (.aload_n 0, 1) := by decide +kernel
theorem dX12_run_85 : decode cX12_run 85 = .ok (.getfield 13, 3) := by decide +kernel
theorem dX12_run_88 : decode cX12_run 88 = .ok (.aload_n 0, 1) := by decide +kernel
theorem dX12_run_89 : decode cX12_run 89 = .ok (.getfield 395, 3) := by decide +kernel
theorem dX12_run_92 : decode cX12_run 92 = .ok (.iaload, 1) := by decide +kernel
theorem dX12_run_93 : decode cX12_run 93 = .ok (.invokestatic 220, 3) := by decide +kernel
theorem dX12_run_96 : decode cX12_run 96 = .ok (.ifCond .eq 7, 3) := by decide +kernel
theorem dX12_run_99 : decode cX12_run 99 = .ok (.iconst 1, 1) := by decide +kernel
theorem dX12_run_100 : decode cX12_run 100 = .ok (.goto 4, 3) := by decide +kernel
theorem dX12_run_103 : decode cX12_run 103 = .ok (.iconst 0, 1) := by decide +kernel
theorem dX12_run_104 : decode cX12_run 104 = .ok (.iadd, 1) := by decide +kernel
theorem dX12_run_105 : decode cX12_run 105 = .ok (.istore_n 1, 1) := by decide +kernel
theorem dX12_run_106 : decode cX12_run 106 = .ok (.iload_n 1, 1) := by decide +kernel
theorem dX12_run_107 : decode cX12_run 107 = .ok (.bipush 60, 2) := by decide +kernel
theorem dX12_run_109 : decode cX12_run 109 = .ok (.if_icmp .le 7, 3) := by decide +kernel
theorem dX12_run_112 : decode cX12_run 112 = .ok (.iconst 3, 1) := by decide +kernel
theorem dX12_run_113 : decode cX12_run 113 = .ok (.goto 7, 3) := by decide +kernel
theorem dX12_run_116 : decode cX12_run 116 = .ok (.aload_n 0, 1) := by decide +kernel
theorem dX12_run_117 : decode cX12_run 117 = .ok (.invokevirtual 404, 3) := by decide +kernel
theorem dX12_run_120 : decode cX12_run 120 = .ok (.istore_n 2, 1) := by decide +kernel
theorem dX12_run_121 : decode cX12_run 121 = .ok (.goto (-55), 3) := by decide +kernel
theorem dX12_run_124 : decode cX12_run 124 = .ok (.iload_n 2, 1) := by decide +kernel
theorem dX12_run_125 : decode cX12_run 125 = .ok (.bipush (-9), 2) := by decide +kernel
theorem dX12_run_127 : decode cX12_run 127 = .ok (.if_icmp .ne 7, 3) := by decide +kernel
theorem dX12_run_130 : decode cX12_run 130 = .ok (.iconst 0, 1) := by decide +kernel
theorem dX12_run_131 : decode cX12_run 131 = .ok (.goto 4, 3) := by decide +kernel
theorem dX12_run_134 : decode cX12_run 134 = .ok (.iload_n 2, 1) := by decide +kernel
theorem dX12_run_135 : decode cX12_run 135 = .ok (.ireturn, 1) := by decide +kernel
theorem dX12_drawn_0 : decode cX12_drawn 0 = .ok (.iload_n 1, 1) := by decide +kernel
theorem dX12_drawn_1 : decode cX12_drawn 1 = .ok (.i2l, 1) := by decide +kernel
theorem dX12_drawn_2 : decode cX12_drawn 2 = .ok (.lconst 1, 1) := by decide +kernel
theorem dX12_drawn_3 : decode cX12_drawn 3 = .ok (.ldc2_w 407, 3) := by decide +kernel
theorem dX12_drawn_6 : decode cX12_drawn 6 = .ok (.invokestatic 114, 3) := by decide +kernel
theorem dX12_drawn_9 : decode cX12_drawn 9 = .ok (.ifCond .ne 6, 3) := by decide +kernel
theorem dX12_drawn_12 : decode cX12_drawn 12 = .ok (.bipush (-2), 2) := by decide +kernel
theorem dX12_drawn_14 : decode cX12_drawn 14 = .ok (.ireturn, 1) := by decide +kernel
theorem dX12_drawn_15 : decode cX12_drawn 15 = .ok (.iconst 0, 1) := by decide +kernel
theorem dX12_drawn_16 : decode cX12_drawn 16 = .ok (.istore_n 2, 1) := by decide +kernel
theorem dX12_drawn_17 : decode cX12_drawn 17 = .ok (.iconst 0, 1) := by decide +kernel
theorem dX12_drawn_18 : decode cX12_drawn 18 = .ok (.istore_n 3, 1) := by decide +kernel
theorem dX12_drawn_19 : decode cX12_drawn 19 = .ok (.iload_n 3, 1) := by decide +kernel
theorem dX12_drawn_20 : decode cX12_drawn 20 = .ok (.iload_n 1, 1) := by decide +kernel
theorem dX12_drawn_21 : decode cX12_drawn 21 = .ok (.if_icmp .ge 16, 3) := by decide +kernel
theorem dX12_drawn_24 : decode cX12_drawn 24 = .ok (.iload_n 2, 1) := by decide +kernel
theorem dX12_drawn_25 : decode cX12_drawn 25 = .ok (.aload_n 0, 1) := by decide +kernel
theorem dX12_drawn_26 : decode cX12_drawn 26 = .ok (.invokevirtual 409, 3) := by decide +kernel
theorem dX12_drawn_29 : decode cX12_drawn 29 = .ok (.iadd, 1) := by decide +kernel
theorem dX12_drawn_30 : decode cX12_drawn 30 = .ok (.istore_n 2, 1) := by decide +kernel
theorem dX12_drawn_31 : decode cX12_drawn 31 = .ok (.iinc 3 1, 3) := by decide +kernel
theorem dX12_drawn_34 : decode cX12_drawn 34 = .ok (.goto (-15), 3) := by decide +kernel
theorem dX12_drawn_37 : decode cX12_drawn 37 = .ok (.iload_n 2, 1) := by decide +kernel
theorem dX12_drawn_38 : decode cX12_drawn 38 = .ok (.ireturn, 1) := by decide +kernel
theorem dX12_keep_0 : decode cX12_keep 0 = .ok (.iload_n 1, 1) := by decide +kernel
theorem dX12_keep_1 : decode cX12_keep 1 = .ok (.i2l, 1) := by decide +kernel
theorem dX12_keep_2 : decode cX12_keep 2 = .ok (.lconst 0, 1) := by decide +kernel
theorem dX12_keep_3 : decode cX12_keep 3 = .ok (.lconst 1, 1) := by decide +kernel
theorem dX12_keep_4 : decode cX12_keep 4 = .ok (.invokestatic 114, 3) := by decide +kernel
theorem dX12_keep_7 : decode cX12_keep 7 = .ok (.ifCond .ne 5, 3) := by decide +kernel
theorem dX12_keep_10 : decode cX12_keep 10 = .ok (.iconst (-1), 1) := by decide +kernel
theorem dX12_keep_11 : decode cX12_keep 11 = .ok (.ireturn, 1) := by decide +kernel
theorem dX12_keep_12 : decode cX12_keep 12 = .ok (.aload_n 0, 1) := by decide +kernel
theorem dX12_keep_13 : decode cX12_keep 13 = .ok (.getfield 82, 3) := by decide +kernel
theorem dX12_keep_16 : decode cX12_keep 16 = .ok (.iload_n 1, 1) := by decide +kernel
theorem dX12_keep_17 : decode cX12_keep 17 = .ok (.iconst 1, 1) := by decide +kernel
theorem dX12_keep_18 : decode cX12_keep 18 = .ok (.bastore, 1) := by decide +kernel
theorem dX12_keep_19 : decode cX12_keep 19 = .ok (.iconst 0, 1) := by decide +kernel
theorem dX12_keep_20 : decode cX12_keep 20 = .ok (.istore_n 2, 1) := by decide +kernel
theorem dX12_keep_21 : decode cX12_keep 21 = .ok (.iload_n 2, 1) := by decide +kernel
theorem dX12_keep_22 : decode cX12_keep 22 = .ok (.iconst 4, 1) := by decide +kernel
theorem dX12_keep_23 : decode cX12_keep 23 = .ok (.if_icmp .ge 25, 3) := by decide +kernel
theorem dX12_keep_26 : decode cX12_keep 26 = .ok (.aload_n 0, 1) := by decide +kernel
theorem dX12_keep_27 : decode cX12_keep 27 = .ok (.getfield 79, 3) := by decide +kernel
theorem dX12_keep_30 : decode cX12_keep 30 = .ok (.iconst 4, 1) := by decide +kernel
theorem dX12_keep_31 : decode cX12_keep 31 = .ok (.iload_n 1, 1) := by decide +kernel
theorem dX12_keep_32 : decode cX12_keep 32 = .ok (.imul, 1) := by decide +kernel
theorem dX12_keep_33 : decode cX12_keep 33 = .ok (.iload_n 2, 1) := by decide +kernel
theorem dX12_keep_34 : decode cX12_keep 34 = .ok (.iadd, 1) := by decide +kernel
theorem dX12_keep_35 : decode cX12_keep 35 = .ok (.aload_n 0, 1) := by decide +kernel
theorem dX12_keep_36 : decode cX12_keep 36 = .ok (.getfield 70, 3) := by decide +kernel
theorem dX12_keep_39 : decode cX12_keep 39 = .ok (.iload_n 2, 1) := by decide +kernel
theorem dX12_keep_40 : decode cX12_keep 40 = .ok (.iaload, 1) := by decide +kernel
theorem dX12_keep_41 : decode cX12_keep 41 = .ok (.iastore, 1) := by decide +kernel
theorem dX12_keep_42 : decode cX12_keep 42 = .ok (.iinc 2 1, 3) := by decide +kernel
theorem dX12_keep_45 : decode cX12_keep 45 = .ok (.goto (-24), 3) := by decide +kernel
theorem dX12_keep_48 : decode cX12_keep 48 = .ok (.aload_n 0, 1) := by decide +kernel
theorem dX12_keep_49 : decode cX12_keep 49 = .ok (.getfield 70, 3) := by decide +kernel
theorem dX12_keep_52 : decode cX12_keep 52 = .ok (.iconst 3, 1) := by decide +kernel
theorem dX12_keep_53 : decode cX12_keep 53 = .ok (.iaload, 1) := by decide +kernel
theorem dX12_keep_54 : decode cX12_keep 54 = .ok (.invokestatic 304, 3) := by decide +kernel
theorem dX12_keep_57 : decode cX12_keep 57 = .ok (.ireturn, 1) := by decide +kernel
theorem dX12_again_0 : decode cX12_again 0 = .ok (.iload_n 1, 1) := by decide +kernel
theorem dX12_again_1 : decode cX12_again 1 = .ok (.i2l, 1) := by decide +kernel
theorem dX12_again_2 : decode cX12_again 2 = .ok (.lconst 0, 1) := by decide +kernel
theorem dX12_again_3 : decode cX12_again 3 = .ok (.lconst 1, 1) := by decide +kernel
theorem dX12_again_4 : decode cX12_again 4 = .ok (.invokestatic 114, 3) := by decide +kernel
theorem dX12_again_7 : decode cX12_again 7 = .ok (.ifCond .ne 5, 3) := by decide +kernel
theorem dX12_again_10 : decode cX12_again 10 = .ok (.iconst (-1), 1) := by decide +kernel
theorem dX12_again_11 : decode cX12_again 11 = .ok (.ireturn, 1) := by decide +kernel
theorem dX12_again_12 : decode cX12_again 12 = .ok (.aload_n 0, 1) := by decide +kernel
theorem dX12_again_13 : decode cX12_again 13 = .ok (.getfield 82, 3) := by decide +kernel
theorem dX12_again_16 : decode cX12_again 16 = .ok (.iload_n 1, 1) := by decide +kernel
theorem dX12_again_17 : decode cX12_again 17 = .ok (.baload, 1) := by decide +kernel
theorem dX12_again_18 : decode cX12_again 18 = .ok (.ifCond .ne 6, 3) := by decide +kernel
theorem dX12_again_21 : decode cX12_again 21 = .ok (.bipush (-3), 2) := by decide +kernel
theorem dX12_again_23 : decode cX12_again 23 = .ok (.ireturn, 1) := by decide +kernel
theorem dX12_again_24 : decode cX12_again 24 = .ok (.iconst 0, 1) := by decide +kernel
theorem dX12_again_25 : decode cX12_again 25 = .ok (.istore_n 2, 1) := by decide +kernel
theorem dX12_again_26 : decode cX12_again 26 = .ok (.iload_n 2, 1) := by decide +kernel
theorem dX12_again_27 : decode cX12_again 27 = .ok (.iconst 4, 1) := by decide +kernel
theorem dX12_again_28 : decode cX12_again 28 = .ok (.if_icmp .ge 25, 3) := by decide +kernel
theorem dX12_again_31 : decode cX12_again 31 = .ok (.aload_n 0, 1) := by decide +kernel
theorem dX12_again_32 : decode cX12_again 32 = .ok (.getfield 70, 3) := by decide +kernel
theorem dX12_again_35 : decode cX12_again 35 = .ok (.iload_n 2, 1) := by decide +kernel
theorem dX12_again_36 : decode cX12_again 36 = .ok (.aload_n 0, 1) := by decide +kernel
theorem dX12_again_37 : decode cX12_again 37 = .ok (.getfield 79, 3) := by decide +kernel
theorem dX12_again_40 : decode cX12_again 40 = .ok (.iconst 4, 1) := by decide +kernel
theorem dX12_again_41 : decode cX12_again 41 = .ok (.iload_n 1, 1) := by decide +kernel
theorem dX12_again_42 : decode cX12_again 42 = .ok (.imul, 1) := by decide +kernel
theorem dX12_again_43 : decode cX12_again 43 = .ok (.iload_n 2, 1) := by decide +kernel
theorem dX12_again_44 : decode cX12_again 44 = .ok (.iadd, 1) := by decide +kernel
theorem dX12_again_45 : decode cX12_again 45 = .ok (.iaload, 1) := by decide +kernel
theorem dX12_again_46 : decode cX12_again 46 = .ok (.iastore, 1) := by decide +kernel
theorem dX12_again_47 : decode cX12_again 47 = .ok (.iinc 2 1, 3) := by decide +kernel
theorem dX12_again_50 : decode cX12_again 50 = .ok (.goto (-24), 3) := by decide +kernel
theorem dX12_again_53 : decode cX12_again 53 = .ok (.aload_n 0, 1) := by decide +kernel
theorem dX12_again_54 : decode cX12_again 54 = .ok (.iconst 0, 1) := by decide +kernel
theorem dX12_again_55 : decode cX12_again 55 = .ok (.putfield 223, 3) := by decide +kernel
theorem dX12_again_58 : decode cX12_again 58 = .ok (.aload_n 0, 1) := by decide +kernel
theorem dX12_again_59 : decode cX12_again 59 = .ok (.getfield 70, 3) := by decide +kernel
theorem dX12_again_62 : decode cX12_again 62 = .ok (.iconst 3, 1) := by decide +kernel
theorem dX12_again_63 : decode cX12_again 63 = .ok (.iaload, 1) := by decide +kernel
theorem dX12_again_64 : decode cX12_again 64 = .ok (.invokestatic 304, 3) := by decide +kernel
theorem dX12_again_67 : decode cX12_again 67 = .ok (.ireturn, 1) := by decide +kernel
theorem dJ6_numberOfTrailingZeros_0f7a4_0 : decode cJ6_numberOfTrailingZeros_0f7a4 0 = .ok (.iload_n 0, 1) := by decide +kernel
theorem dJ6_numberOfTrailingZeros_0f7a4_1 : decode cJ6_numberOfTrailingZeros_0f7a4 1 = .ok (.iconst (-1), 1) := by decide +kernel
theorem dJ6_numberOfTrailingZeros_0f7a4_2 : decode cJ6_numberOfTrailingZeros_0f7a4 2 = .ok (.ixor, 1) := by decide +kernel
theorem dJ6_numberOfTrailingZeros_0f7a4_3 : decode cJ6_numberOfTrailingZeros_0f7a4 3 = .ok (.iload_n 0, 1) := by decide +kernel
theorem dJ6_numberOfTrailingZeros_0f7a4_4 : decode cJ6_numberOfTrailingZeros_0f7a4 4 = .ok (.iconst 1, 1) := by decide +kernel
theorem dJ6_numberOfTrailingZeros_0f7a4_5 : decode cJ6_numberOfTrailingZeros_0f7a4 5 = .ok (.isub, 1) := by decide +kernel
theorem dJ6_numberOfTrailingZeros_0f7a4_6 : decode cJ6_numberOfTrailingZeros_0f7a4 6 = .ok (.iand, 1) := by decide +kernel
theorem dJ6_numberOfTrailingZeros_0f7a4_7 : decode cJ6_numberOfTrailingZeros_0f7a4 7 = .ok (.istore_n 0, 1) := by decide +kernel
theorem dJ6_numberOfTrailingZeros_0f7a4_8 : decode cJ6_numberOfTrailingZeros_0f7a4 8 = .ok (.iload_n 0, 1) := by decide +kernel
theorem dJ6_numberOfTrailingZeros_0f7a4_9 : decode cJ6_numberOfTrailingZeros_0f7a4 9 = .ok (.ifCond .gt 8, 3) := by decide +kernel
theorem dJ6_numberOfTrailingZeros_0f7a4_12 : decode cJ6_numberOfTrailingZeros_0f7a4 12 = .ok (.iload_n 0, 1) := by decide +kernel
theorem dJ6_numberOfTrailingZeros_0f7a4_13 : decode cJ6_numberOfTrailingZeros_0f7a4 13 = .ok (.bipush 32, 2) := by decide +kernel
theorem dJ6_numberOfTrailingZeros_0f7a4_15 : decode cJ6_numberOfTrailingZeros_0f7a4 15 = .ok (.iand, 1) := by decide +kernel
theorem dJ6_numberOfTrailingZeros_0f7a4_16 : decode cJ6_numberOfTrailingZeros_0f7a4 16 = .ok (.ireturn, 1) := by decide +kernel
theorem dJ6_numberOfTrailingZeros_0f7a4_17 : decode cJ6_numberOfTrailingZeros_0f7a4 17 = .ok (.iconst 1, 1) := by decide +kernel
theorem dJ6_numberOfTrailingZeros_0f7a4_18 : decode cJ6_numberOfTrailingZeros_0f7a4 18 = .ok (.istore_n 1, 1) := by decide +kernel
theorem dJ6_numberOfTrailingZeros_0f7a4_19 : decode cJ6_numberOfTrailingZeros_0f7a4 19 = .ok (.iload_n 0, 1) := by decide +kernel
theorem dJ6_numberOfTrailingZeros_0f7a4_20 : decode cJ6_numberOfTrailingZeros_0f7a4 20 = .ok (.ldc_w 264, 3) := by decide +kernel
theorem dJ6_numberOfTrailingZeros_0f7a4_23 : decode cJ6_numberOfTrailingZeros_0f7a4 23 = .ok (.if_icmp .le 11, 3) := by decide +kernel
theorem dJ6_numberOfTrailingZeros_0f7a4_26 : decode cJ6_numberOfTrailingZeros_0f7a4 26 = .ok (.iinc 1 16, 3) := by decide +kernel
theorem dJ6_numberOfTrailingZeros_0f7a4_29 : decode cJ6_numberOfTrailingZeros_0f7a4 29 = .ok (.iload_n 0, 1) := by decide +kernel
theorem dJ6_numberOfTrailingZeros_0f7a4_30 : decode cJ6_numberOfTrailingZeros_0f7a4 30 = .ok (.bipush 16, 2) := by decide +kernel
theorem dJ6_numberOfTrailingZeros_0f7a4_32 : decode cJ6_numberOfTrailingZeros_0f7a4 32 = .ok (.iushr, 1) := by decide +kernel
theorem dJ6_numberOfTrailingZeros_0f7a4_33 : decode cJ6_numberOfTrailingZeros_0f7a4 33 = .ok (.istore_n 0, 1) := by decide +kernel
theorem dJ6_numberOfTrailingZeros_0f7a4_34 : decode cJ6_numberOfTrailingZeros_0f7a4 34 = .ok (.iload_n 0, 1) := by decide +kernel
theorem dJ6_numberOfTrailingZeros_0f7a4_35 : decode cJ6_numberOfTrailingZeros_0f7a4 35 = .ok (.sipush 256, 3) := by decide +kernel
theorem dJ6_numberOfTrailingZeros_0f7a4_38 : decode cJ6_numberOfTrailingZeros_0f7a4 38 = .ok (.if_icmp .le 11, 3) := by decide +kernel
theorem dJ6_numberOfTrailingZeros_0f7a4_41 : decode cJ6_numberOfTrailingZeros_0f7a4 41 = .ok (.iinc 1 8, 3) := by decide +kernel
theorem dJ6_numberOfTrailingZeros_0f7a4_44 : decode cJ6_numberOfTrailingZeros_0f7a4 44 = .ok (.iload_n 0, 1) := by decide +kernel
theorem dJ6_numberOfTrailingZeros_0f7a4_45 : decode cJ6_numberOfTrailingZeros_0f7a4 45 = .ok (.bipush 8, 2) := by decide +kernel
theorem dJ6_numberOfTrailingZeros_0f7a4_47 : decode cJ6_numberOfTrailingZeros_0f7a4 47 = .ok (.iushr, 1) := by decide +kernel
theorem dJ6_numberOfTrailingZeros_0f7a4_48 : decode cJ6_numberOfTrailingZeros_0f7a4 48 = .ok (.istore_n 0, 1) := by decide +kernel
theorem dJ6_numberOfTrailingZeros_0f7a4_49 : decode cJ6_numberOfTrailingZeros_0f7a4 49 = .ok (.iload_n 0, 1) := by decide +kernel
theorem dJ6_numberOfTrailingZeros_0f7a4_50 : decode cJ6_numberOfTrailingZeros_0f7a4 50 = .ok (.bipush 16, 2) := by decide +kernel
theorem dJ6_numberOfTrailingZeros_0f7a4_52 : decode cJ6_numberOfTrailingZeros_0f7a4 52 = .ok (.if_icmp .le 10, 3) := by decide +kernel
theorem dJ6_numberOfTrailingZeros_0f7a4_55 : decode cJ6_numberOfTrailingZeros_0f7a4 55 = .ok (.iinc 1 4, 3) := by decide +kernel
theorem dJ6_numberOfTrailingZeros_0f7a4_58 : decode cJ6_numberOfTrailingZeros_0f7a4 58 = .ok (.iload_n 0, 1) := by decide +kernel
theorem dJ6_numberOfTrailingZeros_0f7a4_59 : decode cJ6_numberOfTrailingZeros_0f7a4 59 = .ok (.iconst 4, 1) := by decide +kernel
theorem dJ6_numberOfTrailingZeros_0f7a4_60 : decode cJ6_numberOfTrailingZeros_0f7a4 60 = .ok (.iushr, 1) := by decide +kernel
theorem dJ6_numberOfTrailingZeros_0f7a4_61 : decode cJ6_numberOfTrailingZeros_0f7a4 61 = .ok (.istore_n 0, 1) := by decide +kernel
theorem dJ6_numberOfTrailingZeros_0f7a4_62 : decode cJ6_numberOfTrailingZeros_0f7a4 62 = .ok (.iload_n 0, 1) := by decide +kernel
theorem dJ6_numberOfTrailingZeros_0f7a4_63 : decode cJ6_numberOfTrailingZeros_0f7a4 63 = .ok (.iconst 4, 1) := by decide +kernel
theorem dJ6_numberOfTrailingZeros_0f7a4_64 : decode cJ6_numberOfTrailingZeros_0f7a4 64 = .ok (.if_icmp .le 10, 3) := by decide +kernel
theorem dJ6_numberOfTrailingZeros_0f7a4_67 : decode cJ6_numberOfTrailingZeros_0f7a4 67 = .ok (.iinc 1 2, 3) := by decide +kernel
theorem dJ6_numberOfTrailingZeros_0f7a4_70 : decode cJ6_numberOfTrailingZeros_0f7a4 70 = .ok (.iload_n 0, 1) := by decide +kernel
theorem dJ6_numberOfTrailingZeros_0f7a4_71 : decode cJ6_numberOfTrailingZeros_0f7a4 71 = .ok (.iconst 2, 1) := by decide +kernel
theorem dJ6_numberOfTrailingZeros_0f7a4_72 : decode cJ6_numberOfTrailingZeros_0f7a4 72 = .ok (.iushr, 1) := by decide +kernel
theorem dJ6_numberOfTrailingZeros_0f7a4_73 : decode cJ6_numberOfTrailingZeros_0f7a4 73 = .ok (.istore_n 0, 1) := by decide +kernel
theorem dJ6_numberOfTrailingZeros_0f7a4_74 : decode cJ6_numberOfTrailingZeros_0f7a4 74 = .ok (.iload_n 1, 1) := by decide +kernel
theorem dJ6_numberOfTrailingZeros_0f7a4_75 : decode cJ6_numberOfTrailingZeros_0f7a4 75 = .ok (.iload_n 0, 1) := by decide +kernel
theorem dJ6_numberOfTrailingZeros_0f7a4_76 : decode cJ6_numberOfTrailingZeros_0f7a4 76 = .ok (.iconst 1, 1) := by decide +kernel
theorem dJ6_numberOfTrailingZeros_0f7a4_77 : decode cJ6_numberOfTrailingZeros_0f7a4 77 = .ok (.iushr, 1) := by decide +kernel
theorem dJ6_numberOfTrailingZeros_0f7a4_78 : decode cJ6_numberOfTrailingZeros_0f7a4 78 = .ok (.iadd, 1) := by decide +kernel
theorem dJ6_numberOfTrailingZeros_0f7a4_79 : decode cJ6_numberOfTrailingZeros_0f7a4 79 = .ok (.ireturn, 1) := by decide +kernel
theorem dJ6_bitCount_0f7a4_0 : decode cJ6_bitCount_0f7a4 0 = .ok (.iload_n 0, 1) := by decide +kernel
theorem dJ6_bitCount_0f7a4_1 : decode cJ6_bitCount_0f7a4 1 = .ok (.iload_n 0, 1) := by decide +kernel
theorem dJ6_bitCount_0f7a4_2 : decode cJ6_bitCount_0f7a4 2 = .ok (.iconst 1, 1) := by decide +kernel
theorem dJ6_bitCount_0f7a4_3 : decode cJ6_bitCount_0f7a4 3 = .ok (.iushr, 1) := by decide +kernel
theorem dJ6_bitCount_0f7a4_4 : decode cJ6_bitCount_0f7a4 4 = .ok (.ldc_w 265, 3) := by decide +kernel
theorem dJ6_bitCount_0f7a4_7 : decode cJ6_bitCount_0f7a4 7 = .ok (.iand, 1) := by decide +kernel
theorem dJ6_bitCount_0f7a4_8 : decode cJ6_bitCount_0f7a4 8 = .ok (.isub, 1) := by decide +kernel
theorem dJ6_bitCount_0f7a4_9 : decode cJ6_bitCount_0f7a4 9 = .ok (.istore_n 0, 1) := by decide +kernel
theorem dJ6_bitCount_0f7a4_10 : decode cJ6_bitCount_0f7a4 10 = .ok (.iload_n 0, 1) := by decide +kernel
theorem dJ6_bitCount_0f7a4_11 : decode cJ6_bitCount_0f7a4 11 = .ok (.ldc_w 266, 3) := by decide +kernel
theorem dJ6_bitCount_0f7a4_14 : decode cJ6_bitCount_0f7a4 14 = .ok (.iand, 1) := by decide +kernel
theorem dJ6_bitCount_0f7a4_15 : decode cJ6_bitCount_0f7a4 15 = .ok (.iload_n 0, 1) := by decide +kernel
theorem dJ6_bitCount_0f7a4_16 : decode cJ6_bitCount_0f7a4 16 = .ok (.iconst 2, 1) := by decide +kernel
theorem dJ6_bitCount_0f7a4_17 : decode cJ6_bitCount_0f7a4 17 = .ok (.iushr, 1) := by decide +kernel
theorem dJ6_bitCount_0f7a4_18 : decode cJ6_bitCount_0f7a4 18 = .ok (.ldc_w 266, 3) := by decide +kernel
theorem dJ6_bitCount_0f7a4_21 : decode cJ6_bitCount_0f7a4 21 = .ok (.iand, 1) := by decide +kernel
theorem dJ6_bitCount_0f7a4_22 : decode cJ6_bitCount_0f7a4 22 = .ok (.iadd, 1) := by decide +kernel
theorem dJ6_bitCount_0f7a4_23 : decode cJ6_bitCount_0f7a4 23 = .ok (.istore_n 0, 1) := by decide +kernel
theorem dJ6_bitCount_0f7a4_24 : decode cJ6_bitCount_0f7a4 24 = .ok (.iload_n 0, 1) := by decide +kernel
theorem dJ6_bitCount_0f7a4_25 : decode cJ6_bitCount_0f7a4 25 = .ok (.iload_n 0, 1) := by decide +kernel
theorem dJ6_bitCount_0f7a4_26 : decode cJ6_bitCount_0f7a4 26 = .ok (.iconst 4, 1) := by decide +kernel
theorem dJ6_bitCount_0f7a4_27 : decode cJ6_bitCount_0f7a4 27 = .ok (.iushr, 1) := by decide +kernel
theorem dJ6_bitCount_0f7a4_28 : decode cJ6_bitCount_0f7a4 28 = .ok (.iadd, 1) := by decide +kernel
theorem dJ6_bitCount_0f7a4_29 : decode cJ6_bitCount_0f7a4 29 = .ok (.ldc_w 267, 3) := by decide +kernel
theorem dJ6_bitCount_0f7a4_32 : decode cJ6_bitCount_0f7a4 32 = .ok (.iand, 1) := by decide +kernel
theorem dJ6_bitCount_0f7a4_33 : decode cJ6_bitCount_0f7a4 33 = .ok (.istore_n 0, 1) := by decide +kernel
theorem dJ6_bitCount_0f7a4_34 : decode cJ6_bitCount_0f7a4 34 = .ok (.iload_n 0, 1) := by decide +kernel
theorem dJ6_bitCount_0f7a4_35 : decode cJ6_bitCount_0f7a4 35 = .ok (.iload_n 0, 1) := by decide +kernel
theorem dJ6_bitCount_0f7a4_36 : decode cJ6_bitCount_0f7a4 36 = .ok (.bipush 8, 2) := by decide +kernel
theorem dJ6_bitCount_0f7a4_38 : decode cJ6_bitCount_0f7a4 38 = .ok (.iushr, 1) := by decide +kernel
theorem dJ6_bitCount_0f7a4_39 : decode cJ6_bitCount_0f7a4 39 = .ok (.iadd, 1) := by decide +kernel
theorem dJ6_bitCount_0f7a4_40 : decode cJ6_bitCount_0f7a4 40 = .ok (.istore_n 0, 1) := by decide +kernel
theorem dJ6_bitCount_0f7a4_41 : decode cJ6_bitCount_0f7a4 41 = .ok (.iload_n 0, 1) := by decide +kernel
theorem dJ6_bitCount_0f7a4_42 : decode cJ6_bitCount_0f7a4 42 = .ok (.iload_n 0, 1) := by decide +kernel
theorem dJ6_bitCount_0f7a4_43 : decode cJ6_bitCount_0f7a4 43 = .ok (.bipush 16, 2) := by decide +kernel
theorem dJ6_bitCount_0f7a4_45 : decode cJ6_bitCount_0f7a4 45 = .ok (.iushr, 1) := by decide +kernel
theorem dJ6_bitCount_0f7a4_46 : decode cJ6_bitCount_0f7a4 46 = .ok (.iadd, 1) := by decide +kernel
theorem dJ6_bitCount_0f7a4_47 : decode cJ6_bitCount_0f7a4 47 = .ok (.istore_n 0, 1) := by decide +kernel
theorem dJ6_bitCount_0f7a4_48 : decode cJ6_bitCount_0f7a4 48 = .ok (.iload_n 0, 1) := by decide +kernel
theorem dJ6_bitCount_0f7a4_49 : decode cJ6_bitCount_0f7a4 49 = .ok (.bipush 63, 2) := by decide +kernel
theorem dJ6_bitCount_0f7a4_51 : decode cJ6_bitCount_0f7a4 51 = .ok (.iand, 1) := by decide +kernel
theorem dJ6_bitCount_0f7a4_52 : decode cJ6_bitCount_0f7a4 52 = .ok (.ireturn, 1) := by decide +kernel
theorem dJ13_numberOfTrailingZeros_95d88_0 : decode cJ13_numberOfTrailingZeros_95d88 0 = .ok (.lload_n 0, 1) := by decide +kernel
theorem dJ13_numberOfTrailingZeros_95d88_1 : decode cJ13_numberOfTrailingZeros_95d88 1 = .ok (.l2i, 1) := by decide +kernel
theorem dJ13_numberOfTrailingZeros_95d88_2 : decode cJ13_numberOfTrailingZeros_95d88 2 = .ok (.istore_n 2, 1) := by decide +kernel
theorem dJ13_numberOfTrailingZeros_95d88_3 : decode cJ13_numberOfTrailingZeros_95d88 3 = .ok (.iload_n 2, 1) := by decide +kernel
theorem dJ13_numberOfTrailingZeros_95d88_4 : decode cJ13_numberOfTrailingZeros_95d88 4 = .ok (.ifCond .ne 17, 3) := by decide +kernel
theorem dJ13_numberOfTrailingZeros_95d88_7 : decode cJ13_numberOfTrailingZeros_95d88 7 = .ok (.bipush 32, 2) := by decide +kernel
theorem dJ13_numberOfTrailingZeros_95d88_9 : decode cJ13_numberOfTrailingZeros_95d88 9 = .ok (.lload_n 0, 1) := by decide +kernel
theorem dJ13_numberOfTrailingZeros_95d88_10 : decode cJ13_numberOfTrailingZeros_95d88 10 = .ok (.bipush 32, 2) := by decide +kernel
theorem dJ13_numberOfTrailingZeros_95d88_12 : decode cJ13_numberOfTrailingZeros_95d88 12 = .ok (.lushr, 1) := by decide +kernel
theorem dJ13_numberOfTrailingZeros_95d88_13 : decode cJ13_numberOfTrailingZeros_95d88 13 = .ok (.l2i, 1) := by decide +kernel
theorem dJ13_numberOfTrailingZeros_95d88_14 : decode cJ13_numberOfTrailingZeros_95d88 14 = .ok (.invokestatic 311, 3) := by decide +kernel
theorem dJ13_numberOfTrailingZeros_95d88_17 : decode cJ13_numberOfTrailingZeros_95d88 17 = .ok (.iadd, 1) := by decide +kernel
theorem dJ13_numberOfTrailingZeros_95d88_18 : decode cJ13_numberOfTrailingZeros_95d88 18 = .ok (.goto 7, 3) := by decide +kernel
theorem dJ13_numberOfTrailingZeros_95d88_21 : decode cJ13_numberOfTrailingZeros_95d88 21 = .ok (.iload_n 2, 1) := by decide +kernel
theorem dJ13_numberOfTrailingZeros_95d88_22 : decode cJ13_numberOfTrailingZeros_95d88 22 = .ok (.invokestatic 311, 3) := by decide +kernel
theorem dJ13_numberOfTrailingZeros_95d88_25 : decode cJ13_numberOfTrailingZeros_95d88 25 = .ok (.ireturn, 1) := by decide +kernel
theorem dJ13_bitCount_95d88_0 : decode cJ13_bitCount_95d88 0 = .ok (.lload_n 0, 1) := by decide +kernel
theorem dJ13_bitCount_95d88_1 : decode cJ13_bitCount_95d88 1 = .ok (.lload_n 0, 1) := by decide +kernel
theorem dJ13_bitCount_95d88_2 : decode cJ13_bitCount_95d88 2 = .ok (.iconst 1, 1) := by decide +kernel
theorem dJ13_bitCount_95d88_3 : decode cJ13_bitCount_95d88 3 = .ok (.lushr, 1) := by decide +kernel
theorem dJ13_bitCount_95d88_4 : decode cJ13_bitCount_95d88 4 = .ok (.ldc2_w 314, 3) := by decide +kernel
theorem dJ13_bitCount_95d88_7 : decode cJ13_bitCount_95d88 7 = .ok (.land, 1) := by decide +kernel
theorem dJ13_bitCount_95d88_8 : decode cJ13_bitCount_95d88 8 = .ok (.lsub, 1) := by decide +kernel
theorem dJ13_bitCount_95d88_9 : decode cJ13_bitCount_95d88 9 = .ok (.lstore_n 0, 1) := by decide +kernel
theorem dJ13_bitCount_95d88_10 : decode cJ13_bitCount_95d88 10 = .ok (.lload_n 0, 1) := by decide +kernel
theorem dJ13_bitCount_95d88_11 : decode cJ13_bitCount_95d88 11 = .ok (.ldc2_w 316, 3) := by decide +kernel
theorem dJ13_bitCount_95d88_14 : decode cJ13_bitCount_95d88 14 = .ok (.land, 1) := by decide +kernel
theorem dJ13_bitCount_95d88_15 : decode cJ13_bitCount_95d88 15 = .ok (.lload_n 0, 1) := by decide +kernel
theorem dJ13_bitCount_95d88_16 : decode cJ13_bitCount_95d88 16 = .ok (.iconst 2, 1) := by decide +kernel
theorem dJ13_bitCount_95d88_17 : decode cJ13_bitCount_95d88 17 = .ok (.lushr, 1) := by decide +kernel
theorem dJ13_bitCount_95d88_18 : decode cJ13_bitCount_95d88 18 = .ok (.ldc2_w 316, 3) := by decide +kernel
theorem dJ13_bitCount_95d88_21 : decode cJ13_bitCount_95d88 21 = .ok (.land, 1) := by decide +kernel
theorem dJ13_bitCount_95d88_22 : decode cJ13_bitCount_95d88 22 = .ok (.ladd, 1) := by decide +kernel
theorem dJ13_bitCount_95d88_23 : decode cJ13_bitCount_95d88 23 = .ok (.lstore_n 0, 1) := by decide +kernel
theorem dJ13_bitCount_95d88_24 : decode cJ13_bitCount_95d88 24 = .ok (.lload_n 0, 1) := by decide +kernel
theorem dJ13_bitCount_95d88_25 : decode cJ13_bitCount_95d88 25 = .ok (.lload_n 0, 1) := by decide +kernel
theorem dJ13_bitCount_95d88_26 : decode cJ13_bitCount_95d88 26 = .ok (.iconst 4, 1) := by decide +kernel
theorem dJ13_bitCount_95d88_27 : decode cJ13_bitCount_95d88 27 = .ok (.lushr, 1) := by decide +kernel
theorem dJ13_bitCount_95d88_28 : decode cJ13_bitCount_95d88 28 = .ok (.ladd, 1) := by decide +kernel
theorem dJ13_bitCount_95d88_29 : decode cJ13_bitCount_95d88 29 = .ok (.ldc2_w 318, 3) := by decide +kernel
theorem dJ13_bitCount_95d88_32 : decode cJ13_bitCount_95d88 32 = .ok (.land, 1) := by decide +kernel
theorem dJ13_bitCount_95d88_33 : decode cJ13_bitCount_95d88 33 = .ok (.lstore_n 0, 1) := by decide +kernel
theorem dJ13_bitCount_95d88_34 : decode cJ13_bitCount_95d88 34 = .ok (.lload_n 0, 1) := by decide +kernel
theorem dJ13_bitCount_95d88_35 : decode cJ13_bitCount_95d88 35 = .ok (.lload_n 0, 1) := by decide +kernel
theorem dJ13_bitCount_95d88_36 : decode cJ13_bitCount_95d88 36 = .ok (.bipush 8, 2) := by decide +kernel
theorem dJ13_bitCount_95d88_38 : decode cJ13_bitCount_95d88 38 = .ok (.lushr, 1) := by decide +kernel
theorem dJ13_bitCount_95d88_39 : decode cJ13_bitCount_95d88 39 = .ok (.ladd, 1) := by decide +kernel
theorem dJ13_bitCount_95d88_40 : decode cJ13_bitCount_95d88 40 = .ok (.lstore_n 0, 1) := by decide +kernel
theorem dJ13_bitCount_95d88_41 : decode cJ13_bitCount_95d88 41 = .ok (.lload_n 0, 1) := by decide +kernel
theorem dJ13_bitCount_95d88_42 : decode cJ13_bitCount_95d88 42 = .ok (.lload_n 0, 1) := by decide +kernel
theorem dJ13_bitCount_95d88_43 : decode cJ13_bitCount_95d88 43 = .ok (.bipush 16, 2) := by decide +kernel
theorem dJ13_bitCount_95d88_45 : decode cJ13_bitCount_95d88 45 = .ok (.lushr, 1) := by decide +kernel
theorem dJ13_bitCount_95d88_46 : decode cJ13_bitCount_95d88 46 = .ok (.ladd, 1) := by decide +kernel
theorem dJ13_bitCount_95d88_47 : decode cJ13_bitCount_95d88 47 = .ok (.lstore_n 0, 1) := by decide +kernel
theorem dJ13_bitCount_95d88_48 : decode cJ13_bitCount_95d88 48 = .ok (.lload_n 0, 1) := by decide +kernel
theorem dJ13_bitCount_95d88_49 : decode cJ13_bitCount_95d88 49 = .ok (.lload_n 0, 1) := by decide +kernel
theorem dJ13_bitCount_95d88_50 : decode cJ13_bitCount_95d88 50 = .ok (.bipush 32, 2) := by decide +kernel
theorem dJ13_bitCount_95d88_52 : decode cJ13_bitCount_95d88 52 = .ok (.lushr, 1) := by decide +kernel
theorem dJ13_bitCount_95d88_53 : decode cJ13_bitCount_95d88 53 = .ok (.ladd, 1) := by decide +kernel
theorem dJ13_bitCount_95d88_54 : decode cJ13_bitCount_95d88 54 = .ok (.lstore_n 0, 1) := by decide +kernel
theorem dJ13_bitCount_95d88_55 : decode cJ13_bitCount_95d88 55 = .ok (.lload_n 0, 1) := by decide +kernel
theorem dJ13_bitCount_95d88_56 : decode cJ13_bitCount_95d88 56 = .ok (.l2i, 1) := by decide +kernel
theorem dJ13_bitCount_95d88_57 : decode cJ13_bitCount_95d88 57 = .ok (.bipush 127, 2) := by decide +kernel
theorem dJ13_bitCount_95d88_59 : decode cJ13_bitCount_95d88 59 = .ok (.iand, 1) := by decide +kernel
theorem dJ13_bitCount_95d88_60 : decode cJ13_bitCount_95d88 60 = .ok (.ireturn, 1) := by decide +kernel
theorem dJ9_max_7cf53_0 : decode cJ9_max_7cf53 0 = .ok (.iload_n 0, 1) := by decide +kernel
theorem dJ9_max_7cf53_1 : decode cJ9_max_7cf53 1 = .ok (.iload_n 1, 1) := by decide +kernel
theorem dJ9_max_7cf53_2 : decode cJ9_max_7cf53 2 = .ok (.if_icmp .lt 7, 3) := by decide +kernel
theorem dJ9_max_7cf53_5 : decode cJ9_max_7cf53 5 = .ok (.iload_n 0, 1) := by decide +kernel
theorem dJ9_max_7cf53_6 : decode cJ9_max_7cf53 6 = .ok (.goto 4, 3) := by decide +kernel
theorem dJ9_max_7cf53_9 : decode cJ9_max_7cf53 9 = .ok (.iload_n 1, 1) := by decide +kernel
theorem dJ9_max_7cf53_10 : decode cJ9_max_7cf53 10 = .ok (.ireturn, 1) := by decide +kernel
theorem dJ9_min_7cf53_0 : decode cJ9_min_7cf53 0 = .ok (.iload_n 0, 1) := by decide +kernel
theorem dJ9_min_7cf53_1 : decode cJ9_min_7cf53 1 = .ok (.iload_n 1, 1) := by decide +kernel
theorem dJ9_min_7cf53_2 : decode cJ9_min_7cf53 2 = .ok (.if_icmp .gt 7, 3) := by decide +kernel
theorem dJ9_min_7cf53_5 : decode cJ9_min_7cf53 5 = .ok (.iload_n 0, 1) := by decide +kernel
theorem dJ9_min_7cf53_6 : decode cJ9_min_7cf53 6 = .ok (.goto 4, 3) := by decide +kernel
theorem dJ9_min_7cf53_9 : decode cJ9_min_7cf53 9 = .ok (.iload_n 1, 1) := by decide +kernel
theorem dJ9_min_7cf53_10 : decode cJ9_min_7cf53 10 = .ok (.ireturn, 1) := by decide +kernel
theorem dL_law_0 : decode cL_law 0 = .ok (.new 7, 3) := by decide +kernel
theorem dL_law_3 : decode cL_law 3 = .ok (.dup, 1) := by decide +kernel
theorem dL_law_4 : decode cL_law 4 = .ok (.invokespecial 9, 3) := by decide +kernel
theorem dL_law_7 : decode cL_law 7 = .ok (.astore_n 1, 1) := by decide +kernel
theorem dL_law_8 : decode cL_law 8 = .ok (.new 10, 3) := by decide +kernel
theorem dL_law_11 : decode cL_law 11 = .ok (.dup, 1) := by decide +kernel
theorem dL_law_12 : decode cL_law 12 = .ok (.invokespecial 12, 3) := by decide +kernel
theorem dL_law_15 : decode cL_law 15 = .ok (.astore_n 2, 1) := by decide +kernel
theorem dL_law_16 : decode cL_law 16 = .ok (.iconst 0, 1) := by decide +kernel
theorem dL_law_17 : decode cL_law 17 = .ok (.istore_n 3, 1) := by decide +kernel
theorem dL_law_18 : decode cL_law 18 = .ok (.iload_n 3, 1) := by decide +kernel
theorem dL_law_19 : decode cL_law 19 = .ok (.aload_n 0, 1) := by decide +kernel
theorem dL_law_20 : decode cL_law 20 = .ok (.arraylength, 1) := by decide +kernel
theorem dL_law_21 : decode cL_law 21 = .ok (.iconst 4, 1) := by decide +kernel
theorem dL_law_22 : decode cL_law 22 = .ok (.isub, 1) := by decide +kernel
theorem dL_law_23 : decode cL_law 23 = .ok (.if_icmp .gt 775, 3) := by decide +kernel
theorem dL_law_26 : decode cL_law 26 = .ok (.aload_n 0, 1) := by decide +kernel
theorem dL_law_27 : decode cL_law 27 = .ok (.iload_n 3, 1) := by decide +kernel
theorem dL_law_28 : decode cL_law 28 = .ok (.iaload, 1) := by decide +kernel
theorem dL_law_29 : decode cL_law 29 = .ok (.bipush 31, 2) := by decide +kernel
theorem dL_law_31 : decode cL_law 31 = .ok (.iand, 1) := by decide +kernel
theorem dL_law_32 : decode cL_law 32 = .ok (.tableswitch 760 0 22 #[108, 131, 144, 157, 170, 193, 226, 259, 282, 315, 338, 351, 384, 407, 470, 519, 552, 565, 588, 637, 691, 714, 737], 108) := by decide +kernel
theorem dL_law_140 : decode cL_law 140 = .ok (.aload_n 1, 1) := by decide +kernel
theorem dL_law_141 : decode cL_law 141 = .ok (.aload_n 0, 1) := by decide +kernel
theorem dL_law_142 : decode cL_law 142 = .ok (.iload_n 3, 1) := by decide +kernel
theorem dL_law_143 : decode cL_law 143 = .ok (.iconst 1, 1) := by decide +kernel
theorem dL_law_144 : decode cL_law 144 = .ok (.iadd, 1) := by decide +kernel
theorem dL_law_145 : decode cL_law 145 = .ok (.iaload, 1) := by decide +kernel
theorem dL_law_146 : decode cL_law 146 = .ok (.invokevirtual 13, 3) := by decide +kernel
theorem dL_law_149 : decode cL_law 149 = .ok (.aload_n 2, 1) := by decide +kernel
theorem dL_law_150 : decode cL_law 150 = .ok (.aload_n 0, 1) := by decide +kernel
theorem dL_law_151 : decode cL_law 151 = .ok (.iload_n 3, 1) := by decide +kernel
theorem dL_law_152 : decode cL_law 152 = .ok (.iconst 1, 1) := by decide +kernel
theorem dL_law_153 : decode cL_law 153 = .ok (.iadd, 1) := by decide +kernel
theorem dL_law_154 : decode cL_law 154 = .ok (.iaload, 1) := by decide +kernel
theorem dL_law_155 : decode cL_law 155 = .ok (.invokevirtual 17, 3) := by decide +kernel
theorem dL_law_158 : decode cL_law 158 = .ok (.if_icmp .eq 634, 3) := by decide +kernel
theorem dL_law_161 : decode cL_law 161 = .ok (.iconst 0, 1) := by decide +kernel
theorem dL_law_162 : decode cL_law 162 = .ok (.ireturn, 1) := by decide +kernel
theorem dL_law_163 : decode cL_law 163 = .ok (.aload_n 1, 1) := by decide +kernel
theorem dL_law_164 : decode cL_law 164 = .ok (.invokevirtual 18, 3) := by decide +kernel
theorem dL_law_167 : decode cL_law 167 = .ok (.aload_n 2, 1) := by decide +kernel
theorem dL_law_168 : decode cL_law 168 = .ok (.invokevirtual 22, 3) := by decide +kernel
theorem dL_law_171 : decode cL_law 171 = .ok (.if_icmp .eq 621, 3) := by decide +kernel
theorem dL_law_174 : decode cL_law 174 = .ok (.iconst 0, 1) := by decide +kernel
theorem dL_law_175 : decode cL_law 175 = .ok (.ireturn, 1) := by decide +kernel
theorem dL_law_176 : decode cL_law 176 = .ok (.aload_n 1, 1) := by decide +kernel
theorem dL_law_177 : decode cL_law 177 = .ok (.invokevirtual 23, 3) := by decide +kernel
theorem dL_law_180 : decode cL_law 180 = .ok (.aload_n 2, 1) := by decide +kernel
theorem dL_law_181 : decode cL_law 181 = .ok (.invokevirtual 26, 3) := by decide +kernel
theorem dL_law_184 : decode cL_law 184 = .ok (.if_icmp .eq 608, 3) := by decide +kernel
theorem dL_law_187 : decode cL_law 187 = .ok (.iconst 0, 1) := by decide +kernel
theorem dL_law_188 : decode cL_law 188 = .ok (.ireturn, 1) := by decide +kernel
theorem dL_law_189 : decode cL_law 189 = .ok (.aload_n 1, 1) := by decide +kernel
theorem dL_law_190 : decode cL_law 190 = .ok (.invokevirtual 27, 3) := by decide +kernel
theorem dL_law_193 : decode cL_law 193 = .ok (.aload_n 2, 1) := by decide +kernel
theorem dL_law_194 : decode cL_law 194 = .ok (.invokevirtual 30, 3) := by decide +kernel
theorem dL_law_197 : decode cL_law 197 = .ok (.if_icmp .eq 595, 3) := by decide +kernel
theorem dL_law_200 : decode cL_law 200 = .ok (.iconst 0, 1) := by decide +kernel
theorem dL_law_201 : decode cL_law 201 = .ok (.ireturn, 1) := by decide +kernel
theorem dL_law_202 : decode cL_law 202 = .ok (.aload_n 1, 1) := by decide +kernel
theorem dL_law_203 : decode cL_law 203 = .ok (.aload_n 0, 1) := by decide +kernel
theorem dL_law_204 : decode cL_law 204 = .ok (.iload_n 3, 1) := by decide +kernel
theorem dL_law_205 : decode cL_law 205 = .ok (.iconst 1, 1) := by decide +kernel
theorem dL_law_206 : decode cL_law 206 = .ok (.iadd, 1) := by decide +kernel
theorem dL_law_207 : decode cL_law 207 = .ok (.iaload, 1) := by decide +kernel
theorem dL_law_208 : decode cL_law 208 = .ok (.invokevirtual 31, 3) := by decide +kernel
theorem dL_law_211 : decode cL_law 211 = .ok (.aload_n 2, 1) := by decide +kernel
theorem dL_law_212 : decode cL_law 212 = .ok (.aload_n 0, 1) := by decide +kernel
theorem dL_law_213 : decode cL_law 213 = .ok (.iload_n 3, 1) := by decide +kernel
theorem dL_law_214 : decode cL_law 214 = .ok (.iconst 1, 1) := by decide +kernel
theorem dL_law_215 : decode cL_law 215 = .ok (.iadd, 1) := by decide +kernel
theorem dL_law_216 : decode cL_law 216 = .ok (.iaload, 1) := by decide +kernel
theorem dL_law_217 : decode cL_law 217 = .ok (.invokevirtual 34, 3) := by decide +kernel
theorem dL_law_220 : decode cL_law 220 = .ok (.if_icmp .eq 572, 3) := by decide +kernel
theorem dL_law_223 : decode cL_law 223 = .ok (.iconst 0, 1) := by decide +kernel
theorem dL_law_224 : decode cL_law 224 = .ok (.ireturn, 1) := by decide +kernel
theorem dL_law_225 : decode cL_law 225 = .ok (.aload_n 1, 1) := by decide +kernel
theorem dL_law_226 : decode cL_law 226 = .ok (.aload_n 0, 1) := by decide +kernel
theorem dL_law_227 : decode cL_law 227 = .ok (.iload_n 3, 1) := by decide +kernel
theorem dL_law_228 : decode cL_law 228 = .ok (.iconst 1, 1) := by decide +kernel
theorem dL_law_229 : decode cL_law 229 = .ok (.iadd, 1) := by decide +kernel
theorem dL_law_230 : decode cL_law 230 = .ok (.iaload, 1) := by decide +kernel
theorem dL_law_231 : decode cL_law 231 = .ok (.aload_n 0, 1) := by decide +kernel
theorem dL_law_232 : decode cL_law 232 = .ok (.iload_n 3, 1) := by decide +kernel
theorem dL_law_233 : decode cL_law 233 = .ok (.iconst 2, 1) := by decide +kernel
theorem dL_law_234 : decode cL_law 234 = .ok (.iadd, 1) := by decide +kernel
theorem dL_law_235 : decode cL_law 235 = .ok (.iaload, 1) := by decide +kernel
theorem dL_law_236 : decode cL_law 236 = .ok (.invokevirtual 35, 3) := by decide +kernel
theorem dL_law_239 : decode cL_law 239 = .ok (.aload_n 2, 1) := by decide +kernel
theorem dL_law_240 : decode cL_law 240 = .ok (.aload_n 0, 1) := by decide +kernel
theorem dL_law_241 : decode cL_law 241 = .ok (.iload_n 3, 1) := by decide +kernel
theorem dL_law_242 : decode cL_law 242 = .ok (.iconst 1, 1) := by decide +kernel
theorem dL_law_243 : decode cL_law 243 = .ok (.iadd, 1) := by decide +kernel
theorem dL_law_244 : decode cL_law 244 = .ok (.iaload, 1) := by decide +kernel
theorem dL_law_245 : decode cL_law 245 = .ok (.aload_n 0, 1) := by decide +kernel
theorem dL_law_246 : decode cL_law 246 = .ok (.iload_n 3, 1) := by decide +kernel
theorem dL_law_247 : decode cL_law 247 = .ok (.iconst 2, 1) := by decide +kernel
theorem dL_law_248 : decode cL_law 248 = .ok (.iadd, 1) := by decide +kernel
theorem dL_law_249 : decode cL_law 249 = .ok (.iaload, 1) := by decide +kernel
theorem dL_law_250 : decode cL_law 250 = .ok (.invokevirtual 39, 3) := by decide +kernel
theorem dL_law_253 : decode cL_law 253 = .ok (.if_icmp .eq 539, 3) := by decide +kernel
theorem dL_law_256 : decode cL_law 256 = .ok (.iconst 0, 1) := by decide +kernel
theorem dL_law_257 : decode cL_law 257 = .ok (.ireturn, 1) := by decide +kernel
theorem dL_law_258 : decode cL_law 258 = .ok (.aload_n 1, 1) := by decide +kernel
theorem dL_law_259 : decode cL_law 259 = .ok (.aload_n 0, 1) := by decide +kernel
theorem dL_law_260 : decode cL_law 260 = .ok (.iload_n 3, 1) := by decide +kernel
theorem dL_law_261 : decode cL_law 261 = .ok (.iconst 1, 1) := by decide +kernel
theorem dL_law_262 : decode cL_law 262 = .ok (.iadd, 1) := by decide +kernel
theorem dL_law_263 : decode cL_law 263 = .ok (.iaload, 1) := by decide +kernel
theorem dL_law_264 : decode cL_law 264 = .ok (.aload_n 0, 1) := by decide +kernel
theorem dL_law_265 : decode cL_law 265 = .ok (.iload_n 3, 1) := by decide +kernel
theorem dL_law_266 : decode cL_law 266 = .ok (.iconst 2, 1) := by decide +kernel
theorem dL_law_267 : decode cL_law 267 = .ok (.iadd, 1) := by decide +kernel
theorem dL_law_268 : decode cL_law 268 = .ok (.iaload, 1) := by decide +kernel
theorem dL_law_269 : decode cL_law 269 = .ok (.invokevirtual 40, 3) := by decide +kernel
theorem dL_law_272 : decode cL_law 272 = .ok (.aload_n 2, 1) := by decide +kernel
theorem dL_law_273 : decode cL_law 273 = .ok (.aload_n 0, 1) := by decide +kernel
theorem dL_law_274 : decode cL_law 274 = .ok (.iload_n 3, 1) := by decide +kernel
theorem dL_law_275 : decode cL_law 275 = .ok (.iconst 1, 1) := by decide +kernel
theorem dL_law_276 : decode cL_law 276 = .ok (.iadd, 1) := by decide +kernel
theorem dL_law_277 : decode cL_law 277 = .ok (.iaload, 1) := by decide +kernel
theorem dL_law_278 : decode cL_law 278 = .ok (.aload_n 0, 1) := by decide +kernel
theorem dL_law_279 : decode cL_law 279 = .ok (.iload_n 3, 1) := by decide +kernel
theorem dL_law_280 : decode cL_law 280 = .ok (.iconst 2, 1) := by decide +kernel
theorem dL_law_281 : decode cL_law 281 = .ok (.iadd, 1) := by decide +kernel
theorem dL_law_282 : decode cL_law 282 = .ok (.iaload, 1) := by decide +kernel
theorem dL_law_283 : decode cL_law 283 = .ok (.invokevirtual 43, 3) := by decide +kernel
theorem dL_law_286 : decode cL_law 286 = .ok (.if_icmp .eq 506, 3) := by decide +kernel
theorem dL_law_289 : decode cL_law 289 = .ok (.iconst 0, 1) := by decide +kernel
theorem dL_law_290 : decode cL_law 290 = .ok (.ireturn, 1) := by decide +kernel
theorem dL_law_291 : decode cL_law 291 = .ok (.aload_n 1, 1) := by decide +kernel
theorem dL_law_292 : decode cL_law 292 = .ok (.aload_n 0, 1) := by decide +kernel
theorem dL_law_293 : decode cL_law 293 = .ok (.iload_n 3, 1) := by decide +kernel
theorem dL_law_294 : decode cL_law 294 = .ok (.iconst 1, 1) := by decide +kernel
theorem dL_law_295 : decode cL_law 295 = .ok (.iadd, 1) := by decide +kernel
theorem dL_law_296 : decode cL_law 296 = .ok (.iaload, 1) := by decide +kernel
theorem dL_law_297 : decode cL_law 297 = .ok (.invokevirtual 44, 3) := by decide +kernel
theorem dL_law_300 : decode cL_law 300 = .ok (.aload_n 2, 1) := by decide +kernel
theorem dL_law_301 : decode cL_law 301 = .ok (.aload_n 0, 1) := by decide +kernel
theorem dL_law_302 : decode cL_law 302 = .ok (.iload_n 3, 1) := by decide +kernel
theorem dL_law_303 : decode cL_law 303 = .ok (.iconst 1, 1) := by decide +kernel
theorem dL_law_304 : decode cL_law 304 = .ok (.iadd, 1) := by decide +kernel
theorem dL_law_305 : decode cL_law 305 = .ok (.iaload, 1) := by decide +kernel
theorem dL_law_306 : decode cL_law 306 = .ok (.invokevirtual 47, 3) := by decide +kernel
theorem dL_law_309 : decode cL_law 309 = .ok (.if_icmp .eq 483, 3) := by decide +kernel
theorem dL_law_312 : decode cL_law 312 = .ok (.iconst 0, 1) := by decide +kernel
theorem dL_law_313 : decode cL_law 313 = .ok (.ireturn, 1) := by decide +kernel
theorem dL_law_314 : decode cL_law 314 = .ok (.aload_n 1, 1) := by decide +kernel
theorem dL_law_315 : decode cL_law 315 = .ok (.aload_n 0, 1) := by decide +kernel
theorem dL_law_316 : decode cL_law 316 = .ok (.iload_n 3, 1) := by decide +kernel
theorem dL_law_317 : decode cL_law 317 = .ok (.iconst 1, 1) := by decide +kernel
theorem dL_law_318 : decode cL_law 318 = .ok (.iadd, 1) := by decide +kernel
theorem dL_law_319 : decode cL_law 319 = .ok (.iaload, 1) := by decide +kernel
theorem dL_law_320 : decode cL_law 320 = .ok (.aload_n 0, 1) := by decide +kernel
theorem dL_law_321 : decode cL_law 321 = .ok (.iload_n 3, 1) := by decide +kernel
theorem dL_law_322 : decode cL_law 322 = .ok (.iconst 2, 1) := by decide +kernel
theorem dL_law_323 : decode cL_law 323 = .ok (.iadd, 1) := by decide +kernel
theorem dL_law_324 : decode cL_law 324 = .ok (.iaload, 1) := by decide +kernel
theorem dL_law_325 : decode cL_law 325 = .ok (.invokevirtual 48, 3) := by decide +kernel
theorem dL_law_328 : decode cL_law 328 = .ok (.aload_n 2, 1) := by decide +kernel
theorem dL_law_329 : decode cL_law 329 = .ok (.aload_n 0, 1) := by decide +kernel
theorem dL_law_330 : decode cL_law 330 = .ok (.iload_n 3, 1) := by decide +kernel
theorem dL_law_331 : decode cL_law 331 = .ok (.iconst 1, 1) := by decide +kernel
theorem dL_law_332 : decode cL_law 332 = .ok (.iadd, 1) := by decide +kernel
theorem dL_law_333 : decode cL_law 333 = .ok (.iaload, 1) := by decide +kernel
theorem dL_law_334 : decode cL_law 334 = .ok (.aload_n 0, 1) := by decide +kernel
theorem dL_law_335 : decode cL_law 335 = .ok (.iload_n 3, 1) := by decide +kernel
theorem dL_law_336 : decode cL_law 336 = .ok (.iconst 2, 1) := by decide +kernel
theorem dL_law_337 : decode cL_law 337 = .ok (.iadd, 1) := by decide +kernel
theorem dL_law_338 : decode cL_law 338 = .ok (.iaload, 1) := by decide +kernel
theorem dL_law_339 : decode cL_law 339 = .ok (.invokevirtual 51, 3) := by decide +kernel
theorem dL_law_342 : decode cL_law 342 = .ok (.if_icmp .eq 450, 3) := by decide +kernel
theorem dL_law_345 : decode cL_law 345 = .ok (.iconst 0, 1) := by decide +kernel
theorem dL_law_346 : decode cL_law 346 = .ok (.ireturn, 1) := by decide +kernel
theorem dL_law_347 : decode cL_law 347 = .ok (.aload_n 1, 1) := by decide +kernel
theorem dL_law_348 : decode cL_law 348 = .ok (.aload_n 0, 1) := by decide +kernel
theorem dL_law_349 : decode cL_law 349 = .ok (.iload_n 3, 1) := by decide +kernel
theorem dL_law_350 : decode cL_law 350 = .ok (.iconst 1, 1) := by decide +kernel
theorem dL_law_351 : decode cL_law 351 = .ok (.iadd, 1) := by decide +kernel
theorem dL_law_352 : decode cL_law 352 = .ok (.iaload, 1) := by decide +kernel
theorem dL_law_353 : decode cL_law 353 = .ok (.invokevirtual 52, 3) := by decide +kernel
theorem dL_law_356 : decode cL_law 356 = .ok (.aload_n 2, 1) := by decide +kernel
theorem dL_law_357 : decode cL_law 357 = .ok (.aload_n 0, 1) := by decide +kernel
theorem dL_law_358 : decode cL_law 358 = .ok (.iload_n 3, 1) := by decide +kernel
theorem dL_law_359 : decode cL_law 359 = .ok (.iconst 1, 1) := by decide +kernel
theorem dL_law_360 : decode cL_law 360 = .ok (.iadd, 1) := by decide +kernel
theorem dL_law_361 : decode cL_law 361 = .ok (.iaload, 1) := by decide +kernel
theorem dL_law_362 : decode cL_law 362 = .ok (.invokevirtual 55, 3) := by decide +kernel
theorem dL_law_365 : decode cL_law 365 = .ok (.if_icmp .eq 427, 3) := by decide +kernel
theorem dL_law_368 : decode cL_law 368 = .ok (.iconst 0, 1) := by decide +kernel
theorem dL_law_369 : decode cL_law 369 = .ok (.ireturn, 1) := by decide +kernel
theorem dL_law_370 : decode cL_law 370 = .ok (.aload_n 1, 1) := by decide +kernel
theorem dL_law_371 : decode cL_law 371 = .ok (.invokevirtual 56, 3) := by decide +kernel
theorem dL_law_374 : decode cL_law 374 = .ok (.aload_n 2, 1) := by decide +kernel
theorem dL_law_375 : decode cL_law 375 = .ok (.invokevirtual 59, 3) := by decide +kernel
theorem dL_law_378 : decode cL_law 378 = .ok (.if_icmp .eq 414, 3) := by decide +kernel
theorem dL_law_381 : decode cL_law 381 = .ok (.iconst 0, 1) := by decide +kernel
theorem dL_law_382 : decode cL_law 382 = .ok (.ireturn, 1) := by decide +kernel
theorem dL_law_383 : decode cL_law 383 = .ok (.aload_n 1, 1) := by decide +kernel
theorem dL_law_384 : decode cL_law 384 = .ok (.aload_n 0, 1) := by decide +kernel
theorem dL_law_385 : decode cL_law 385 = .ok (.iload_n 3, 1) := by decide +kernel
theorem dL_law_386 : decode cL_law 386 = .ok (.iconst 1, 1) := by decide +kernel
theorem dL_law_387 : decode cL_law 387 = .ok (.iadd, 1) := by decide +kernel
theorem dL_law_388 : decode cL_law 388 = .ok (.iaload, 1) := by decide +kernel
theorem dL_law_389 : decode cL_law 389 = .ok (.aload_n 0, 1) := by decide +kernel
theorem dL_law_390 : decode cL_law 390 = .ok (.iload_n 3, 1) := by decide +kernel
theorem dL_law_391 : decode cL_law 391 = .ok (.iconst 2, 1) := by decide +kernel
theorem dL_law_392 : decode cL_law 392 = .ok (.iadd, 1) := by decide +kernel
theorem dL_law_393 : decode cL_law 393 = .ok (.iaload, 1) := by decide +kernel
theorem dL_law_394 : decode cL_law 394 = .ok (.invokevirtual 60, 3) := by decide +kernel
theorem dL_law_397 : decode cL_law 397 = .ok (.aload_n 2, 1) := by decide +kernel
theorem dL_law_398 : decode cL_law 398 = .ok (.aload_n 0, 1) := by decide +kernel
theorem dL_law_399 : decode cL_law 399 = .ok (.iload_n 3, 1) := by decide +kernel
theorem dL_law_400 : decode cL_law 400 = .ok (.iconst 1, 1) := by decide +kernel
theorem dL_law_401 : decode cL_law 401 = .ok (.iadd, 1) := by decide +kernel
theorem dL_law_402 : decode cL_law 402 = .ok (.iaload, 1) := by decide +kernel
theorem dL_law_403 : decode cL_law 403 = .ok (.aload_n 0, 1) := by decide +kernel
theorem dL_law_404 : decode cL_law 404 = .ok (.iload_n 3, 1) := by decide +kernel
theorem dL_law_405 : decode cL_law 405 = .ok (.iconst 2, 1) := by decide +kernel
theorem dL_law_406 : decode cL_law 406 = .ok (.iadd, 1) := by decide +kernel
theorem dL_law_407 : decode cL_law 407 = .ok (.iaload, 1) := by decide +kernel
theorem dL_law_408 : decode cL_law 408 = .ok (.invokevirtual 63, 3) := by decide +kernel
theorem dL_law_411 : decode cL_law 411 = .ok (.if_icmp .eq 381, 3) := by decide +kernel
theorem dL_law_414 : decode cL_law 414 = .ok (.iconst 0, 1) := by decide +kernel
theorem dL_law_415 : decode cL_law 415 = .ok (.ireturn, 1) := by decide +kernel
theorem dL_law_416 : decode cL_law 416 = .ok (.aload_n 1, 1) := by decide +kernel
theorem dL_law_417 : decode cL_law 417 = .ok (.aload_n 0, 1) := by decide +kernel
theorem dL_law_418 : decode cL_law 418 = .ok (.iload_n 3, 1) := by decide +kernel
theorem dL_law_419 : decode cL_law 419 = .ok (.iconst 1, 1) := by decide +kernel
theorem dL_law_420 : decode cL_law 420 = .ok (.iadd, 1) := by decide +kernel
theorem dL_law_421 : decode cL_law 421 = .ok (.iaload, 1) := by decide +kernel
theorem dL_law_422 : decode cL_law 422 = .ok (.invokevirtual 64, 3) := by decide +kernel
theorem dL_law_425 : decode cL_law 425 = .ok (.aload_n 2, 1) := by decide +kernel
theorem dL_law_426 : decode cL_law 426 = .ok (.aload_n 0, 1) := by decide +kernel
theorem dL_law_427 : decode cL_law 427 = .ok (.iload_n 3, 1) := by decide +kernel
theorem dL_law_428 : decode cL_law 428 = .ok (.iconst 1, 1) := by decide +kernel
theorem dL_law_429 : decode cL_law 429 = .ok (.iadd, 1) := by decide +kernel
theorem dL_law_430 : decode cL_law 430 = .ok (.iaload, 1) := by decide +kernel
theorem dL_law_431 : decode cL_law 431 = .ok (.invokevirtual 67, 3) := by decide +kernel
theorem dL_law_434 : decode cL_law 434 = .ok (.if_icmp .eq 358, 3) := by decide +kernel
theorem dL_law_437 : decode cL_law 437 = .ok (.iconst 0, 1) := by decide +kernel
theorem dL_law_438 : decode cL_law 438 = .ok (.ireturn, 1) := by decide +kernel
theorem dL_law_439 : decode cL_law 439 = .ok (.aload_n 1, 1) := by decide +kernel
theorem dL_law_440 : decode cL_law 440 = .ok (.aload_n 0, 1) := by decide +kernel
theorem dL_law_441 : decode cL_law 441 = .ok (.iload_n 3, 1) := by decide +kernel
theorem dL_law_442 : decode cL_law 442 = .ok (.iconst 1, 1) := by decide +kernel
theorem dL_law_443 : decode cL_law 443 = .ok (.iadd, 1) := by decide +kernel
theorem dL_law_444 : decode cL_law 444 = .ok (.iaload, 1) := by decide +kernel
theorem dL_law_445 : decode cL_law 445 = .ok (.aload_n 0, 1) := by decide +kernel
theorem dL_law_446 : decode cL_law 446 = .ok (.iload_n 3, 1) := by decide +kernel
theorem dL_law_447 : decode cL_law 447 = .ok (.iconst 2, 1) := by decide +kernel
theorem dL_law_448 : decode cL_law 448 = .ok (.iadd, 1) := by decide +kernel
theorem dL_law_449 : decode cL_law 449 = .ok (.iaload, 1) := by decide +kernel
theorem dL_law_450 : decode cL_law 450 = .ok (.i2l, 1) := by decide +kernel
theorem dL_law_451 : decode cL_law 451 = .ok (.bipush 32, 2) := by decide +kernel
theorem dL_law_453 : decode cL_law 453 = .ok (.lshl, 1) := by decide +kernel
theorem dL_law_454 : decode cL_law 454 = .ok (.aload_n 0, 1) := by decide +kernel
theorem dL_law_455 : decode cL_law 455 = .ok (.iload_n 3, 1) := by decide +kernel
theorem dL_law_456 : decode cL_law 456 = .ok (.iconst 3, 1) := by decide +kernel
theorem dL_law_457 : decode cL_law 457 = .ok (.iadd, 1) := by decide +kernel
theorem dL_law_458 : decode cL_law 458 = .ok (.iaload, 1) := by decide +kernel
theorem dL_law_459 : decode cL_law 459 = .ok (.i2l, 1) := by decide +kernel
theorem dL_law_460 : decode cL_law 460 = .ok (.ldc2_w 68, 3) := by decide +kernel
theorem dL_law_463 : decode cL_law 463 = .ok (.land, 1) := by decide +kernel
theorem dL_law_464 : decode cL_law 464 = .ok (.lor, 1) := by decide +kernel
theorem dL_law_465 : decode cL_law 465 = .ok (.invokevirtual 70, 3) := by decide +kernel
theorem dL_law_468 : decode cL_law 468 = .ok (.aload_n 2, 1) := by decide +kernel
theorem dL_law_469 : decode cL_law 469 = .ok (.aload_n 0, 1) := by decide +kernel
theorem dL_law_470 : decode cL_law 470 = .ok (.iload_n 3, 1) := by decide +kernel
theorem dL_law_471 : decode cL_law 471 = .ok (.iconst 1, 1) := by decide +kernel
theorem dL_law_472 : decode cL_law 472 = .ok (.iadd, 1) := by decide +kernel
theorem dL_law_473 : decode cL_law 473 = .ok (.iaload, 1) := by decide +kernel
theorem dL_law_474 : decode cL_law 474 = .ok (.aload_n 0, 1) := by decide +kernel
theorem dL_law_475 : decode cL_law 475 = .ok (.iload_n 3, 1) := by decide +kernel
theorem dL_law_476 : decode cL_law 476 = .ok (.iconst 2, 1) := by decide +kernel
theorem dL_law_477 : decode cL_law 477 = .ok (.iadd, 1) := by decide +kernel
theorem dL_law_478 : decode cL_law 478 = .ok (.iaload, 1) := by decide +kernel
theorem dL_law_479 : decode cL_law 479 = .ok (.i2l, 1) := by decide +kernel
theorem dL_law_480 : decode cL_law 480 = .ok (.bipush 32, 2) := by decide +kernel
theorem dL_law_482 : decode cL_law 482 = .ok (.lshl, 1) := by decide +kernel
theorem dL_law_483 : decode cL_law 483 = .ok (.aload_n 0, 1) := by decide +kernel
theorem dL_law_484 : decode cL_law 484 = .ok (.iload_n 3, 1) := by decide +kernel
theorem dL_law_485 : decode cL_law 485 = .ok (.iconst 3, 1) := by decide +kernel
theorem dL_law_486 : decode cL_law 486 = .ok (.iadd, 1) := by decide +kernel
theorem dL_law_487 : decode cL_law 487 = .ok (.iaload, 1) := by decide +kernel
theorem dL_law_488 : decode cL_law 488 = .ok (.i2l, 1) := by decide +kernel
theorem dL_law_489 : decode cL_law 489 = .ok (.ldc2_w 68, 3) := by decide +kernel
theorem dL_law_492 : decode cL_law 492 = .ok (.land, 1) := by decide +kernel
theorem dL_law_493 : decode cL_law 493 = .ok (.lor, 1) := by decide +kernel
theorem dL_law_494 : decode cL_law 494 = .ok (.invokevirtual 74, 3) := by decide +kernel
theorem dL_law_497 : decode cL_law 497 = .ok (.if_icmp .eq 295, 3) := by decide +kernel
theorem dL_law_500 : decode cL_law 500 = .ok (.iconst 0, 1) := by decide +kernel
theorem dL_law_501 : decode cL_law 501 = .ok (.ireturn, 1) := by decide +kernel
theorem dL_law_502 : decode cL_law 502 = .ok (.aload_n 1, 1) := by decide +kernel
theorem dL_law_503 : decode cL_law 503 = .ok (.aload_n 0, 1) := by decide +kernel
theorem dL_law_504 : decode cL_law 504 = .ok (.iload_n 3, 1) := by decide +kernel
theorem dL_law_505 : decode cL_law 505 = .ok (.iconst 1, 1) := by decide +kernel
theorem dL_law_506 : decode cL_law 506 = .ok (.iadd, 1) := by decide +kernel
theorem dL_law_507 : decode cL_law 507 = .ok (.iaload, 1) := by decide +kernel
theorem dL_law_508 : decode cL_law 508 = .ok (.aload_n 0, 1) := by decide +kernel
theorem dL_law_509 : decode cL_law 509 = .ok (.iload_n 3, 1) := by decide +kernel
theorem dL_law_510 : decode cL_law 510 = .ok (.iconst 2, 1) := by decide +kernel
theorem dL_law_511 : decode cL_law 511 = .ok (.iadd, 1) := by decide +kernel
theorem dL_law_512 : decode cL_law 512 = .ok (.iaload, 1) := by decide +kernel
theorem dL_law_513 : decode cL_law 513 = .ok (.ifCond .eq 7, 3) := by decide +kernel
theorem dL_law_516 : decode cL_law 516 = .ok (.iconst 1, 1) := by decide +kernel
theorem dL_law_517 : decode cL_law 517 = .ok (.goto 4, 3) := by decide +kernel
theorem dL_law_520 : decode cL_law 520 = .ok (.iconst 0, 1) := by decide +kernel
theorem dL_law_521 : decode cL_law 521 = .ok (.invokevirtual 75, 3) := by decide +kernel
theorem dL_law_524 : decode cL_law 524 = .ok (.aload_n 2, 1) := by decide +kernel
theorem dL_law_525 : decode cL_law 525 = .ok (.aload_n 0, 1) := by decide +kernel
theorem dL_law_526 : decode cL_law 526 = .ok (.iload_n 3, 1) := by decide +kernel
theorem dL_law_527 : decode cL_law 527 = .ok (.iconst 1, 1) := by decide +kernel
theorem dL_law_528 : decode cL_law 528 = .ok (.iadd, 1) := by decide +kernel
theorem dL_law_529 : decode cL_law 529 = .ok (.iaload, 1) := by decide +kernel
theorem dL_law_530 : decode cL_law 530 = .ok (.aload_n 0, 1) := by decide +kernel
theorem dL_law_531 : decode cL_law 531 = .ok (.iload_n 3, 1) := by decide +kernel
theorem dL_law_532 : decode cL_law 532 = .ok (.iconst 2, 1) := by decide +kernel
theorem dL_law_533 : decode cL_law 533 = .ok (.iadd, 1) := by decide +kernel
theorem dL_law_534 : decode cL_law 534 = .ok (.iaload, 1) := by decide +kernel
theorem dL_law_535 : decode cL_law 535 = .ok (.ifCond .eq 7, 3) := by decide +kernel
theorem dL_law_538 : decode cL_law 538 = .ok (.iconst 1, 1) := by decide +kernel
theorem dL_law_539 : decode cL_law 539 = .ok (.goto 4, 3) := by decide +kernel
theorem dL_law_542 : decode cL_law 542 = .ok (.iconst 0, 1) := by decide +kernel
theorem dL_law_543 : decode cL_law 543 = .ok (.invokevirtual 79, 3) := by decide +kernel
theorem dL_law_546 : decode cL_law 546 = .ok (.if_icmp .eq 246, 3) := by decide +kernel
theorem dL_law_549 : decode cL_law 549 = .ok (.iconst 0, 1) := by decide +kernel
theorem dL_law_550 : decode cL_law 550 = .ok (.ireturn, 1) := by decide +kernel
theorem dL_law_551 : decode cL_law 551 = .ok (.aload_n 1, 1) := by decide +kernel
theorem dL_law_552 : decode cL_law 552 = .ok (.aload_n 0, 1) := by decide +kernel
theorem dL_law_553 : decode cL_law 553 = .ok (.iload_n 3, 1) := by decide +kernel
theorem dL_law_554 : decode cL_law 554 = .ok (.iconst 1, 1) := by decide +kernel
theorem dL_law_555 : decode cL_law 555 = .ok (.iadd, 1) := by decide +kernel
theorem dL_law_556 : decode cL_law 556 = .ok (.iaload, 1) := by decide +kernel
theorem dL_law_557 : decode cL_law 557 = .ok (.aload_n 0, 1) := by decide +kernel
theorem dL_law_558 : decode cL_law 558 = .ok (.iload_n 3, 1) := by decide +kernel
theorem dL_law_559 : decode cL_law 559 = .ok (.iconst 2, 1) := by decide +kernel
theorem dL_law_560 : decode cL_law 560 = .ok (.iadd, 1) := by decide +kernel
theorem dL_law_561 : decode cL_law 561 = .ok (.iaload, 1) := by decide +kernel
theorem dL_law_562 : decode cL_law 562 = .ok (.invokevirtual 80, 3) := by decide +kernel
theorem dL_law_565 : decode cL_law 565 = .ok (.aload_n 2, 1) := by decide +kernel
theorem dL_law_566 : decode cL_law 566 = .ok (.aload_n 0, 1) := by decide +kernel
theorem dL_law_567 : decode cL_law 567 = .ok (.iload_n 3, 1) := by decide +kernel
theorem dL_law_568 : decode cL_law 568 = .ok (.iconst 1, 1) := by decide +kernel
theorem dL_law_569 : decode cL_law 569 = .ok (.iadd, 1) := by decide +kernel
theorem dL_law_570 : decode cL_law 570 = .ok (.iaload, 1) := by decide +kernel
theorem dL_law_571 : decode cL_law 571 = .ok (.aload_n 0, 1) := by decide +kernel
theorem dL_law_572 : decode cL_law 572 = .ok (.iload_n 3, 1) := by decide +kernel
theorem dL_law_573 : decode cL_law 573 = .ok (.iconst 2, 1) := by decide +kernel
theorem dL_law_574 : decode cL_law 574 = .ok (.iadd, 1) := by decide +kernel
theorem dL_law_575 : decode cL_law 575 = .ok (.iaload, 1) := by decide +kernel
theorem dL_law_576 : decode cL_law 576 = .ok (.invokevirtual 83, 3) := by decide +kernel
theorem dL_law_579 : decode cL_law 579 = .ok (.if_icmp .eq 213, 3) := by decide +kernel
theorem dL_law_582 : decode cL_law 582 = .ok (.iconst 0, 1) := by decide +kernel
theorem dL_law_583 : decode cL_law 583 = .ok (.ireturn, 1) := by decide +kernel
theorem dL_law_584 : decode cL_law 584 = .ok (.aload_n 1, 1) := by decide +kernel
theorem dL_law_585 : decode cL_law 585 = .ok (.invokevirtual 84, 3) := by decide +kernel
theorem dL_law_588 : decode cL_law 588 = .ok (.aload_n 2, 1) := by decide +kernel
theorem dL_law_589 : decode cL_law 589 = .ok (.invokevirtual 87, 3) := by decide +kernel
theorem dL_law_592 : decode cL_law 592 = .ok (.if_icmp .eq 200, 3) := by decide +kernel
theorem dL_law_595 : decode cL_law 595 = .ok (.iconst 0, 1) := by decide +kernel
theorem dL_law_596 : decode cL_law 596 = .ok (.ireturn, 1) := by decide +kernel
theorem dL_law_597 : decode cL_law 597 = .ok (.aload_n 1, 1) := by decide +kernel
theorem dL_law_598 : decode cL_law 598 = .ok (.aload_n 0, 1) := by decide +kernel
theorem dL_law_599 : decode cL_law 599 = .ok (.iload_n 3, 1) := by decide +kernel
theorem dL_law_600 : decode cL_law 600 = .ok (.iconst 1, 1) := by decide +kernel
theorem dL_law_601 : decode cL_law 601 = .ok (.iadd, 1) := by decide +kernel
theorem dL_law_602 : decode cL_law 602 = .ok (.iaload, 1) := by decide +kernel
theorem dL_law_603 : decode cL_law 603 = .ok (.invokevirtual 88, 3) := by decide +kernel
theorem dL_law_606 : decode cL_law 606 = .ok (.aload_n 2, 1) := by decide +kernel
theorem dL_law_607 : decode cL_law 607 = .ok (.aload_n 0, 1) := by decide +kernel
theorem dL_law_608 : decode cL_law 608 = .ok (.iload_n 3, 1) := by decide +kernel
theorem dL_law_609 : decode cL_law 609 = .ok (.iconst 1, 1) := by decide +kernel
theorem dL_law_610 : decode cL_law 610 = .ok (.iadd, 1) := by decide +kernel
theorem dL_law_611 : decode cL_law 611 = .ok (.iaload, 1) := by decide +kernel
theorem dL_law_612 : decode cL_law 612 = .ok (.invokevirtual 91, 3) := by decide +kernel
theorem dL_law_615 : decode cL_law 615 = .ok (.if_icmp .eq 177, 3) := by decide +kernel
theorem dL_law_618 : decode cL_law 618 = .ok (.iconst 0, 1) := by decide +kernel
theorem dL_law_619 : decode cL_law 619 = .ok (.ireturn, 1) := by decide +kernel
theorem dL_law_620 : decode cL_law 620 = .ok (.aload_n 1, 1) := by decide +kernel
theorem dL_law_621 : decode cL_law 621 = .ok (.aload_n 0, 1) := by decide +kernel
theorem dL_law_622 : decode cL_law 622 = .ok (.iload_n 3, 1) := by decide +kernel
theorem dL_law_623 : decode cL_law 623 = .ok (.iconst 1, 1) := by decide +kernel
theorem dL_law_624 : decode cL_law 624 = .ok (.iadd, 1) := by decide +kernel
theorem dL_law_625 : decode cL_law 625 = .ok (.iaload, 1) := by decide +kernel
theorem dL_law_626 : decode cL_law 626 = .ok (.aload_n 0, 1) := by decide +kernel
theorem dL_law_627 : decode cL_law 627 = .ok (.iload_n 3, 1) := by decide +kernel
theorem dL_law_628 : decode cL_law 628 = .ok (.iconst 2, 1) := by decide +kernel
theorem dL_law_629 : decode cL_law 629 = .ok (.iadd, 1) := by decide +kernel
theorem dL_law_630 : decode cL_law 630 = .ok (.iaload, 1) := by decide +kernel
theorem dL_law_631 : decode cL_law 631 = .ok (.ifCond .eq 7, 3) := by decide +kernel
theorem dL_law_634 : decode cL_law 634 = .ok (.iconst 1, 1) := by decide +kernel
theorem dL_law_635 : decode cL_law 635 = .ok (.goto 4, 3) := by decide +kernel
theorem dL_law_638 : decode cL_law 638 = .ok (.iconst 0, 1) := by decide +kernel
theorem dL_law_639 : decode cL_law 639 = .ok (.invokevirtual 92, 3) := by decide +kernel
theorem dL_law_642 : decode cL_law 642 = .ok (.aload_n 2, 1) := by decide +kernel
theorem dL_law_643 : decode cL_law 643 = .ok (.aload_n 0, 1) := by decide +kernel
theorem dL_law_644 : decode cL_law 644 = .ok (.iload_n 3, 1) := by decide +kernel
theorem dL_law_645 : decode cL_law 645 = .ok (.iconst 1, 1) := by decide +kernel
theorem dL_law_646 : decode cL_law 646 = .ok (.iadd, 1) := by decide +kernel
theorem dL_law_647 : decode cL_law 647 = .ok (.iaload, 1) := by decide +kernel
theorem dL_law_648 : decode cL_law 648 = .ok (.aload_n 0, 1) := by decide +kernel
theorem dL_law_649 : decode cL_law 649 = .ok (.iload_n 3, 1) := by decide +kernel
theorem dL_law_650 : decode cL_law 650 = .ok (.iconst 2, 1) := by decide +kernel
theorem dL_law_651 : decode cL_law 651 = .ok (.iadd, 1) := by decide +kernel
theorem dL_law_652 : decode cL_law 652 = .ok (.iaload, 1) := by decide +kernel
theorem dL_law_653 : decode cL_law 653 = .ok (.ifCond .eq 7, 3) := by decide +kernel
theorem dL_law_656 : decode cL_law 656 = .ok (.iconst 1, 1) := by decide +kernel
theorem dL_law_657 : decode cL_law 657 = .ok (.goto 4, 3) := by decide +kernel
theorem dL_law_660 : decode cL_law 660 = .ok (.iconst 0, 1) := by decide +kernel
theorem dL_law_661 : decode cL_law 661 = .ok (.invokevirtual 95, 3) := by decide +kernel
theorem dL_law_664 : decode cL_law 664 = .ok (.if_icmp .eq 128, 3) := by decide +kernel
theorem dL_law_667 : decode cL_law 667 = .ok (.iconst 0, 1) := by decide +kernel
theorem dL_law_668 : decode cL_law 668 = .ok (.ireturn, 1) := by decide +kernel
theorem dL_law_669 : decode cL_law 669 = .ok (.aload_n 1, 1) := by decide +kernel
theorem dL_law_670 : decode cL_law 670 = .ok (.aload_n 0, 1) := by decide +kernel
theorem dL_law_671 : decode cL_law 671 = .ok (.iload_n 3, 1) := by decide +kernel
theorem dL_law_672 : decode cL_law 672 = .ok (.iconst 1, 1) := by decide +kernel
theorem dL_law_673 : decode cL_law 673 = .ok (.iadd, 1) := by decide +kernel
theorem dL_law_674 : decode cL_law 674 = .ok (.iaload, 1) := by decide +kernel
theorem dL_law_675 : decode cL_law 675 = .ok (.i2l, 1) := by decide +kernel
theorem dL_law_676 : decode cL_law 676 = .ok (.bipush 32, 2) := by decide +kernel
theorem dL_law_678 : decode cL_law 678 = .ok (.lshl, 1) := by decide +kernel
theorem dL_law_679 : decode cL_law 679 = .ok (.aload_n 0, 1) := by decide +kernel
theorem dL_law_680 : decode cL_law 680 = .ok (.iload_n 3, 1) := by decide +kernel
theorem dL_law_681 : decode cL_law 681 = .ok (.iconst 2, 1) := by decide +kernel
theorem dL_law_682 : decode cL_law 682 = .ok (.iadd, 1) := by decide +kernel
theorem dL_law_683 : decode cL_law 683 = .ok (.iaload, 1) := by decide +kernel
theorem dL_law_684 : decode cL_law 684 = .ok (.i2l, 1) := by decide +kernel
theorem dL_law_685 : decode cL_law 685 = .ok (.ldc2_w 68, 3) := by decide +kernel
theorem dL_law_688 : decode cL_law 688 = .ok (.land, 1) := by decide +kernel
theorem dL_law_689 : decode cL_law 689 = .ok (.lor, 1) := by decide +kernel
theorem dL_law_690 : decode cL_law 690 = .ok (.invokevirtual 96, 3) := by decide +kernel
theorem dL_law_693 : decode cL_law 693 = .ok (.aload_n 2, 1) := by decide +kernel
theorem dL_law_694 : decode cL_law 694 = .ok (.aload_n 0, 1) := by decide +kernel
theorem dL_law_695 : decode cL_law 695 = .ok (.iload_n 3, 1) := by decide +kernel
theorem dL_law_696 : decode cL_law 696 = .ok (.iconst 1, 1) := by decide +kernel
theorem dL_law_697 : decode cL_law 697 = .ok (.iadd, 1) := by decide +kernel
theorem dL_law_698 : decode cL_law 698 = .ok (.iaload, 1) := by decide +kernel
theorem dL_law_699 : decode cL_law 699 = .ok (.i2l, 1) := by decide +kernel
theorem dL_law_700 : decode cL_law 700 = .ok (.bipush 32, 2) := by decide +kernel
theorem dL_law_702 : decode cL_law 702 = .ok (.lshl, 1) := by decide +kernel
theorem dL_law_703 : decode cL_law 703 = .ok (.aload_n 0, 1) := by decide +kernel
theorem dL_law_704 : decode cL_law 704 = .ok (.iload_n 3, 1) := by decide +kernel
theorem dL_law_705 : decode cL_law 705 = .ok (.iconst 2, 1) := by decide +kernel
theorem dL_law_706 : decode cL_law 706 = .ok (.iadd, 1) := by decide +kernel
theorem dL_law_707 : decode cL_law 707 = .ok (.iaload, 1) := by decide +kernel
theorem dL_law_708 : decode cL_law 708 = .ok (.i2l, 1) := by decide +kernel
theorem dL_law_709 : decode cL_law 709 = .ok (.ldc2_w 68, 3) := by decide +kernel
theorem dL_law_712 : decode cL_law 712 = .ok (.land, 1) := by decide +kernel
theorem dL_law_713 : decode cL_law 713 = .ok (.lor, 1) := by decide +kernel
theorem dL_law_714 : decode cL_law 714 = .ok (.invokevirtual 100, 3) := by decide +kernel
theorem dL_law_717 : decode cL_law 717 = .ok (.lcmp, 1) := by decide +kernel
theorem dL_law_718 : decode cL_law 718 = .ok (.ifCond .eq 74, 3) := by decide +kernel
theorem dL_law_721 : decode cL_law 721 = .ok (.iconst 0, 1) := by decide +kernel
theorem dL_law_722 : decode cL_law 722 = .ok (.ireturn, 1) := by decide +kernel
theorem dL_law_723 : decode cL_law 723 = .ok (.aload_n 1, 1) := by decide +kernel
theorem dL_law_724 : decode cL_law 724 = .ok (.aload_n 0, 1) := by decide +kernel
theorem dL_law_725 : decode cL_law 725 = .ok (.iload_n 3, 1) := by decide +kernel
theorem dL_law_726 : decode cL_law 726 = .ok (.iconst 1, 1) := by decide +kernel
theorem dL_law_727 : decode cL_law 727 = .ok (.iadd, 1) := by decide +kernel
theorem dL_law_728 : decode cL_law 728 = .ok (.iaload, 1) := by decide +kernel
theorem dL_law_729 : decode cL_law 729 = .ok (.invokevirtual 101, 3) := by decide +kernel
theorem dL_law_732 : decode cL_law 732 = .ok (.aload_n 2, 1) := by decide +kernel
theorem dL_law_733 : decode cL_law 733 = .ok (.aload_n 0, 1) := by decide +kernel
theorem dL_law_734 : decode cL_law 734 = .ok (.iload_n 3, 1) := by decide +kernel
theorem dL_law_735 : decode cL_law 735 = .ok (.iconst 1, 1) := by decide +kernel
theorem dL_law_736 : decode cL_law 736 = .ok (.iadd, 1) := by decide +kernel
theorem dL_law_737 : decode cL_law 737 = .ok (.iaload, 1) := by decide +kernel
theorem dL_law_738 : decode cL_law 738 = .ok (.invokevirtual 104, 3) := by decide +kernel
theorem dL_law_741 : decode cL_law 741 = .ok (.if_icmp .eq 51, 3) := by decide +kernel
theorem dL_law_744 : decode cL_law 744 = .ok (.iconst 0, 1) := by decide +kernel
theorem dL_law_745 : decode cL_law 745 = .ok (.ireturn, 1) := by decide +kernel
theorem dL_law_746 : decode cL_law 746 = .ok (.aload_n 1, 1) := by decide +kernel
theorem dL_law_747 : decode cL_law 747 = .ok (.aload_n 0, 1) := by decide +kernel
theorem dL_law_748 : decode cL_law 748 = .ok (.iload_n 3, 1) := by decide +kernel
theorem dL_law_749 : decode cL_law 749 = .ok (.iconst 1, 1) := by decide +kernel
theorem dL_law_750 : decode cL_law 750 = .ok (.iadd, 1) := by decide +kernel
theorem dL_law_751 : decode cL_law 751 = .ok (.iaload, 1) := by decide +kernel
theorem dL_law_752 : decode cL_law 752 = .ok (.invokevirtual 105, 3) := by decide +kernel
theorem dL_law_755 : decode cL_law 755 = .ok (.aload_n 2, 1) := by decide +kernel
theorem dL_law_756 : decode cL_law 756 = .ok (.aload_n 0, 1) := by decide +kernel
theorem dL_law_757 : decode cL_law 757 = .ok (.iload_n 3, 1) := by decide +kernel
theorem dL_law_758 : decode cL_law 758 = .ok (.iconst 1, 1) := by decide +kernel
theorem dL_law_759 : decode cL_law 759 = .ok (.iadd, 1) := by decide +kernel
theorem dL_law_760 : decode cL_law 760 = .ok (.iaload, 1) := by decide +kernel
theorem dL_law_761 : decode cL_law 761 = .ok (.invokevirtual 108, 3) := by decide +kernel
theorem dL_law_764 : decode cL_law 764 = .ok (.if_icmp .eq 28, 3) := by decide +kernel
theorem dL_law_767 : decode cL_law 767 = .ok (.iconst 0, 1) := by decide +kernel
theorem dL_law_768 : decode cL_law 768 = .ok (.ireturn, 1) := by decide +kernel
theorem dL_law_769 : decode cL_law 769 = .ok (.aload_n 1, 1) := by decide +kernel
theorem dL_law_770 : decode cL_law 770 = .ok (.aload_n 0, 1) := by decide +kernel
theorem dL_law_771 : decode cL_law 771 = .ok (.iload_n 3, 1) := by decide +kernel
theorem dL_law_772 : decode cL_law 772 = .ok (.iconst 1, 1) := by decide +kernel
theorem dL_law_773 : decode cL_law 773 = .ok (.iadd, 1) := by decide +kernel
theorem dL_law_774 : decode cL_law 774 = .ok (.iaload, 1) := by decide +kernel
theorem dL_law_775 : decode cL_law 775 = .ok (.invokevirtual 109, 3) := by decide +kernel
theorem dL_law_778 : decode cL_law 778 = .ok (.aload_n 2, 1) := by decide +kernel
theorem dL_law_779 : decode cL_law 779 = .ok (.aload_n 0, 1) := by decide +kernel
theorem dL_law_780 : decode cL_law 780 = .ok (.iload_n 3, 1) := by decide +kernel
theorem dL_law_781 : decode cL_law 781 = .ok (.iconst 1, 1) := by decide +kernel
theorem dL_law_782 : decode cL_law 782 = .ok (.iadd, 1) := by decide +kernel
theorem dL_law_783 : decode cL_law 783 = .ok (.iaload, 1) := by decide +kernel
theorem dL_law_784 : decode cL_law 784 = .ok (.invokevirtual 112, 3) := by decide +kernel
theorem dL_law_787 : decode cL_law 787 = .ok (.if_icmp .eq 5, 3) := by decide +kernel
theorem dL_law_790 : decode cL_law 790 = .ok (.iconst 0, 1) := by decide +kernel
theorem dL_law_791 : decode cL_law 791 = .ok (.ireturn, 1) := by decide +kernel
theorem dL_law_792 : decode cL_law 792 = .ok (.iinc 3 4, 3) := by decide +kernel
theorem dL_law_795 : decode cL_law 795 = .ok (.goto (-777), 3) := by decide +kernel
theorem dL_law_798 : decode cL_law 798 = .ok (.iconst 1, 1) := by decide +kernel
theorem dL_law_799 : decode cL_law 799 = .ok (.ireturn, 1) := by decide +kernel
end
section
/-! ===== MEMORY: ints, longs and references by address and place; kinds of cells; the heap holds the memory ===== -/
abbrev MM : Type := (Nat → Nat → Int32) × (Nat → Nat → Int64) × (Nat → Nat → Value)
def up2 {α : Type} (f : Nat → Nat → α) (a k : Nat) (v : α) : Nat → Nat → α := fun b j => if b = a ∧ j = k then v else f b j
theorem up2_self {α : Type} (f : Nat → Nat → α) (a k : Nat) (v : α) : up2 f a k v a k = v := by simp [up2]
theorem up2_ne {α : Type} (f : Nat → Nat → α) {a k b j : Nat} (v : α) (h : ¬ (b = a ∧ j = k)) : up2 f a k v b j = f b j := by simp [up2, h]
def sI (M : MM) (a k : Nat) (v : Int32) : MM := (up2 M.1 a k v, M.2.1, M.2.2)
def sL (M : MM) (a k : Nat) (v : Int64) : MM := (M.1, up2 M.2.1 a k v, M.2.2)
def sR (M : MM) (a k : Nat) (v : Value) : MM := (M.1, M.2.1, up2 M.2.2 a k v)
/-- a kind of cell: an object of a class, or an array of a type and a length -/
abbrev KD : Type := Nat ⊕ (FieldType × Nat)
abbrev GG : Type := Nat → Option KD
def vty (ty : FieldType) (M : MM) (a k : Nat) : Value := match ty with
  | .long => .long (M.2.1 a k)
  | .object _ => M.2.2 a k
  | .array _ => M.2.2 a k
  | _ => .int (M.1 a k)
/-- what is fixed for the whole law: the launch, the classes' numbers and slots, the array classes, the heap at the law's entry, the address of the table of factorials -/
abbrev GT : Type := Launch × va_G × (FieldType → ClassId) × Heap × Nat
def HA (Γ : GT) (M : MM) (H : Heap) (a : Nat) (kd : KD) : Prop := match kd with
  | .inl ci => t_OB a (Γ.2.1.1 ci) (cN ci) (Γ.2.1.2 ci) H (fun k => vty (cY ci k) M a k)
  | .inr q => H[a]? = some (arrV (Γ.2.2.1 q.1) q.2 (fun j => vty q.1 M a j))
def HI (Γ : GT) (G : GG) (z : Nat) (M : MM) (H : Heap) : Prop := H.size = z ∧ Γ.2.2.2.1.size ≤ z ∧ (∀ q : Nat, q < Γ.2.2.2.1.size → H[q]? = Γ.2.2.2.1[q]?) ∧ ∀ (a : Nat) (kd : KD), G a = some kd → Γ.2.2.2.1.size ≤ a ∧ HA Γ M H a kd
theorem HA.kept {Γ : GT} {M : MM} {H H1 : Heap} {a : Nat} {kd : KD} (h : HA Γ M H a kd) (hq : H1[a]? = H[a]?) : HA Γ M H1 a kd := by
  cases kd with
  | inl ci => exact t_OB.kept h hq
  | inr q => exact Eq.trans hq h
theorem HA.lt {Γ : GT} {M : MM} {H : Heap} {a : Nat} {kd : KD} (h : HA Γ M H a kd) : a < H.size := by
  cases kd with
  | inl ci => obtain ⟨c, h1, _⟩ := h; exact (Array.getElem?_eq_some_iff.mp h1).1
  | inr q => exact (Array.getElem?_eq_some_iff.mp (show H[a]? = some _ from h)).1
/-- another memory that is the same at this address -/
theorem HA.to {Γ : GT} {M M' : MM} {H : Heap} {a : Nat} {kd : KD} (h : HA Γ M H a kd) (h1 : ∀ k, M.1 a k = M'.1 a k) (h2 : ∀ k, M.2.1 a k = M'.2.1 a k) (h3 : ∀ k, M.2.2 a k = M'.2.2 a k) : HA Γ M' H a kd := by
  have e : ∀ (ty : FieldType) (k : Nat), vty ty M a k = vty ty M' a k := by
    intro ty k
    cases ty <;> simp [vty, h1, h2, h3]
  cases kd with
  | inl ci => exact t_OB.to h (fun k _ => e _ k)
  | inr q =>
    show H[a]? = some (arrV _ _ (fun j => vty q.1 M' a j))
    rw [← funext (fun j => e q.1 j)]
    exact h
/-- the table of factorials -/
def facT (j : Nat) : Int32 := match j with
  | 0 => 1
  | 1 => 1
  | 2 => 2
  | 3 => 6
  | 4 => 24
  | _ => 120
def wOK : Cond → Bool
  | .fieldLinkNest _ _ _ _ _ _ => true
  | .methodLinkNest _ _ _ _ => true
  | .arrayOver (.object _) => true
  | w => goodWord w
theorem wOK_at {w : Cond} (h : wOK w = true) {s U : State} {A a' : Array Value} (hW : s.WarmedH U.vm) (hb : w.before A s = true) : w.before a' U = true := by
  unfold wOK at h
  split at h
  · exact va_Nw.use rfl (va_Nw.warmF hW (va_Nw.of rfl hb))
  · exact va_Nw.use rfl (va_Nw.warmM hW (va_Nw.of rfl hb))
  · exact va_AO.use (va_AO.moved hW.alike (va_AO.of hb))
  · exact word_at hW (good_of_word h) hb
/-- a word of the tables that stays true -/
def KW (w : Cond) : Prop := w ∈ lw_tbl ∧ wOK w = true
theorem KW.by {w : Cond} (i : Nat) (h : tables_1[i]? = some w) (h2 : wOK w = true) : KW w := ⟨List.mem_append_right _ (List.mem_of_getElem? h), h2⟩
theorem KW.sel {w : Cond} (i : Nat) (h : (k2_sels lw_privs)[i]? = some w) (h2 : wOK w = true) : KW w := ⟨List.mem_append_left _ (List.mem_of_getElem? h), h2⟩
/-- what the tables say, at any state of the law -/
def aTys : List FieldType := [.char, .int, .long, .boolean, .object "LoopGuesses$Condition", .object "LoopGuesses$States", .object "LoopGuesses$Step"]
def KS (Γ : GT) (U : State) : Prop := (∀ ci, ci < 13 → u_Kn U (cR ci) (cT ci) (cN ci) (Γ.2.1.1 ci) (Γ.2.1.2 ci)) ∧ (∀ ty ∈ aTys, ArrOfT U (Γ.2.2.1 ty) ty ∧ va_RA U (Γ.2.2.1 ty) ty) ∧ (∀ w, KW w → va_Nw w U) ∧ va_Z "LoopGuesses" "FACTORIALS" "[I" (.ref Γ.2.2.2.2) (fun q => Γ.2.2.2.1.size ≤ q) U Γ.2.2.2.1 ∧ va_T .int Γ.2.2.2.2 6 (fun j => .int (facT j)) (fun q => Γ.2.2.2.1.size ≤ q) U Γ.2.2.2.1

theorem KS.word {Γ : GT} {s U : State} (h : KS Γ s) {w : Cond} (hw : KW w) {a' : Array Value} (hW : s.WarmedH U.vm) : w.before a' U = true := wOK_at hw.2 hW (h.2.2.1 w hw)
theorem KS.at {Γ : GT} {s : State} (h : KS Γ s) {w : Cond} (hw : KW w) {a' : Array Value} : w.before a' s = true := h.word hw (State.WarmedH.refl s)
theorem KS.warm {Γ : GT} {s U : State} (h : KS Γ s) (hW : s.WarmedH U.vm) : KS Γ U :=
  ⟨fun ci hc => u_Kn_moved hW.alike (h.1 ci hc), fun ty ht => ⟨arrOfT_moved hW.alike (h.2.1 ty ht).1, (h.2.1 ty ht).2.moved hW.alike⟩, fun w hw => h.word hw hW, h.2.2.2.1.moved hW.alike, h.2.2.2.2.moved hW.alike⟩
theorem KS.same {Γ : GT} {s U : State} (h : KS Γ s) (e : U.vm = s.vm) : KS Γ U := h.warm (by rw [e]; exact State.WarmedH.refl s)
/-! ===== LOCALS by places ===== -/
def PL (ls : Array Slot) (L : List (Option Value)) : Prop := ls.size = L.length ∧ lv_wf ls ∧ ∀ (i : Nat) (v : Value), L[i]? = some (some v) → ls[i]? = some (.val v)
def prs : Nat → List (Option Value) → List (Nat × Value)
  | _, [] => []
  | i, none :: t => prs (i + 1) t
  | i, some v :: t => (i, v) :: prs (i + 1) t
theorem mem_prs : ∀ (L : List (Option Value)) (i j : Nat) (v : Value), (j, v) ∈ prs i L ↔ i ≤ j ∧ L[j - i]? = some (some v)
  | [], i, j, v => by simp [prs]
  | none :: t, i, j, v => by
    rw [prs, mem_prs t (i + 1) j v]
    constructor
    · rintro ⟨h1, h2⟩
      refine ⟨by omega, ?_⟩
      rw [show j - i = (j - (i + 1)) + 1 by omega]
      simpa using h2
    · rintro ⟨h1, h2⟩
      have h3 : j ≠ i := by rintro rfl; simp at h2
      refine ⟨by omega, ?_⟩
      rw [show j - i = (j - (i + 1)) + 1 by omega] at h2
      simpa using h2
  | some w :: t, i, j, v => by
    rw [prs, List.mem_cons, mem_prs t (i + 1) j v]
    constructor
    · rintro (h | ⟨h1, h2⟩)
      · cases h
        exact ⟨Nat.le_refl _, by simp⟩
      · refine ⟨by omega, ?_⟩
        rw [show j - i = (j - (i + 1)) + 1 by omega]
        simpa using h2
    · rintro ⟨h1, h2⟩
      by_cases h3 : j = i
      · subst h3
        simp at h2
        left
        rw [h2]
      · right
        refine ⟨by omega, ?_⟩
        rw [show j - i = (j - (i + 1)) + 1 by omega] at h2
        simpa using h2
theorem PL.has {ls : Array Slot} {L : List (Option Value)} (h : PL ls L) : lv_has ls L.length (prs 0 L) := by
  refine ⟨h.1, h.2.1, fun q hq => ?_⟩
  obtain ⟨j, v⟩ := q
  have := (mem_prs L 0 j v).mp hq
  exact h.2.2 j v (by simpa using this.2)
def chk1 (L : List (Option Value)) : Nat → Bool
  | 0 => true
  | j + 1 => match L[j]? with
    | some (some w) => w.category == 1
    | _ => true
theorem chk1_ne {L : List (Option Value)} {i j : Nat} {w : Value} (h : chk1 L i = true) (hj : L[j]? = some (some w)) (hji : j + 1 = i) : ¬ w.category = 2 := by
  subst hji
  simp only [chk1, hj] at h
  intro h2
  rw [h2] at h
  cases h
theorem PL.store1 {ls' : Array Slot} {L : List (Option Value)} {i : Nat} {v : Value} (hc : chk1 L i = true) (h : lv_has ls' L.length ((i, v) :: (prs 0 L).filter (fun q => !(q.1 == i) && !(q.1 + 1 == i && q.2.category == 2)))) : PL ls' (L.set i (some v)) := by
  refine ⟨by rw [List.length_set]; exact h.1, h.2.1, fun j w hj => ?_⟩
  by_cases hij : j = i
  · subst hij
    by_cases hl : j < L.length
    · rw [List.getElem?_set_self hl] at hj
      cases hj
      exact h.2.2 (j, v) List.mem_cons_self
    · rw [List.getElem?_eq_none (by rw [List.length_set]; omega)] at hj
      cases hj
  · rw [List.getElem?_set_ne (Ne.symm hij)] at hj
    refine h.2.2 (j, w) (List.mem_cons_of_mem _ (List.mem_filter.mpr ⟨(mem_prs L 0 j w).mpr ⟨Nat.zero_le _, by simpa using hj⟩, ?_⟩))
    have h1 : (j == i) = false := by simp [hij]
    by_cases h2 : j + 1 = i
    · have := chk1_ne hc hj h2
      simp [h1, this]
    · simp [h1, h2]
theorem PL.store2 {ls' : Array Slot} {L : List (Option Value)} {i : Nat} {v : Value} (hc : chk1 L i = true) (h : lv_has ls' L.length ((i, v) :: (prs 0 L).filter (fun q => !(q.1 == i) && (!(q.1 == i + 1) && !(q.1 + 1 == i && q.2.category == 2))))) : PL ls' ((L.set i (some v)).set (i + 1) none) := by
  refine ⟨by rw [List.length_set, List.length_set]; exact h.1, h.2.1, fun j w hj => ?_⟩
  by_cases hi1 : j = i + 1
  · subst hi1
    by_cases hl : i + 1 < L.length
    · rw [List.getElem?_set_self (by rw [List.length_set]; exact hl)] at hj
      cases hj
    · rw [List.getElem?_eq_none (by rw [List.length_set, List.length_set]; omega)] at hj
      cases hj
  · rw [List.getElem?_set_ne (Ne.symm hi1)] at hj
    by_cases hij : j = i
    · subst hij
      by_cases hl : j < L.length
      · rw [List.getElem?_set_self hl] at hj
        cases hj
        exact h.2.2 (j, v) List.mem_cons_self
      · rw [List.getElem?_eq_none (by rw [List.length_set]; omega)] at hj
        cases hj
    · rw [List.getElem?_set_ne (Ne.symm hij)] at hj
      refine h.2.2 (j, w) (List.mem_cons_of_mem _ (List.mem_filter.mpr ⟨(mem_prs L 0 j w).mpr ⟨Nat.zero_le _, by simpa using hj⟩, ?_⟩))
      have h1 : (j == i) = false := by simp [hij]
      have h0 : (j == i + 1) = false := by simp [hi1]
      by_cases h2 : j + 1 = i
      · have := chk1_ne hc hj h2
        simp [h1, h0, this]
      · simp [h1, h0, h2]
/-- the locals at a method's entry -/
def entA : List Value → List (Option Value)
  | [] => []
  | v :: vs => if v.category = 2 then some v :: none :: entA vs else some v :: entA vs
def entL (as : List Value) (n : Nat) : List (Option Value) := entA as ++ List.replicate (n - (entA as).length) none
theorem entA_len : ∀ as : List Value, (entA as).length = (lg_sl as).length
  | [] => rfl
  | v :: vs => by
    have ih := entA_len vs
    by_cases h : v.category = 2 <;> simp [entA, lg_sl, h] at ih ⊢ <;> simpa using ih
theorem entA_args : ∀ (as : List Value) (i j : Nat) (v : Value), (entA as)[j]? = some (some v) → (i + j, v) ∈ lv_args i as
  | [], i, j, v => by simp [entA]
  | w :: vs, i, j, v => by
    intro h
    by_cases hc : w.category = 2
    · simp only [entA, hc, if_true] at h
      simp only [lv_args, hc, if_true]
      match j, h with
      | 0, h => simp at h; simp [h]
      | 1, h => simp at h
      | j + 2, h =>
        simp at h
        have := entA_args vs (i + 2) j v h
        rw [show i + (j + 2) = i + 2 + j by omega]
        exact List.mem_cons_of_mem _ this
    · simp only [entA, hc, if_false] at h
      simp only [lv_args, hc, if_false]
      match j, h with
      | 0, h => simp at h; simp [h]
      | j + 1, h =>
        simp at h
        have := entA_args vs (i + 1) j v h
        rw [show i + (j + 1) = i + 1 + j by omega]
        exact List.mem_cons_of_mem _ this
theorem PL.entry (as : List Value) {n : Nat} (h : (entA as).length ≤ n) : PL ((lg_sl as ++ List.replicate (n - (lg_sl as).length) Slot.unset).toArray) (entL as n) := by
  have hl := lv_entry as (n := n) (by rw [← entA_len]; exact h)
  refine ⟨?_, hl.2.1, fun i v hv => ?_⟩
  · rw [hl.1, entL, List.length_append, List.length_replicate]
    omega
  · have : (entA as)[i]? = some (some v) := by
      rw [entL] at hv
      by_cases hi : i < (entA as).length
      · rwa [List.getElem?_append_left hi] at hv
      · rw [List.getElem?_append_right (by omega)] at hv
        have := List.eq_of_mem_replicate (List.mem_of_getElem? hv)
        cases this
    have h2 := entA_args as 0 i v this
    rw [Nat.zero_add] at h2
    exact hl.2.2 (i, v) h2
end
section
/-! ===== THE JUDGEMENT: the machine at a place of a method, over a memory ===== -/
/-- a method: name, code, locals, result, room -/
abbrev MD : Type := MethodName × ByteArray × Nat × Option FieldType × Room
/-- the machine's fixed things in one method's run -/
abbrev CT : Type := (Program × Env × State × MethodId) × (Array Value × List Frame × Method × Code) × Room × (State → Prop)
def X (Γ : GT) (E : CT) (k n : Nat) (G : GG) (z : Nat) (M : MM) (pc : Nat) (L : List (Option Value)) (st : List Value) : Prop :=
  ∀ (H : Heap) (locs : List Loc) (ls : Array Slot), HI Γ G z M H → (∀ q ∈ locs, Γ.2.2.2.1.size ≤ q.base) → PL ls L → W E.1.1 Γ.1 E.1.2.1 E.2.2.1 E.1.2.2.1 E.1.2.2.2 E.2.1.1 E.2.1.2.1 E.2.1.2.2.1 E.2.1.2.2.2 H locs k n E.2.2.2 (F0 E.1.2.2.2 pc ls st)
def Ok (Γ : GT) (E : CT) (q : MD) : Prop := E.1.1.tables.exec = Jvm.exec ∧ E.2.1.2.2.2.code = q.2.1 ∧ E.2.1.2.2.2.maxLocals = q.2.2.1 ∧ E.2.1.2.2.1.sig.returnType = q.2.2.2.1 ∧ E.2.2.1 = q.2.2.2.2 ∧ E.1.2.2.1.vm.findClass q.1.cls = some E.1.2.2.2.cls ∧ E.2.1.2.2.1.locks = false ∧ E.2.1.2.2.1.name = q.1.name ∧ KS Γ E.1.2.2.1
/-- what a method's end says -/
abbrev PG : Type := Option Value → GG → Nat → MM → Prop
def QcOf (Γ : GT) (P : PG) : Array Value → State → Outcome → State → Prop := fun _ _ o t => ∃ (r : Option Value) (G' : GG) (z' : Nat) (M' : MM), o = .returned r ∧ P r G' z' M' ∧ HI Γ G' z' M' t.heap
def RQ (Γ : GT) (E : CT) (P : PG) (k n : Nat) : Prop := E.2.2.2 = MQ E.2.1.2.1 (QcOf Γ P) E.2.1.1 E.1.2.2.1 k n (fun q => Γ.2.2.2.1.size ≤ q)
/-- a contract: from this memory the method returns, with P -/
def CallsG (Γ : GT) (q : MD) (as : List Value) (G : GG) (z : Nat) (M : MM) (P : PG) (mc ms : Nat) : Prop :=
  Met Γ.1 q.1 [.code q.1 q.2.1 q.2.2.1 q.2.2.2.1] q.2.2.2.2 (fun av U => av = as.toArray ∧ KS Γ U ∧ HI Γ G z M U.heap) (QcOf Γ P) mc ms (fun p => Γ.2.2.2.1.size ≤ p)
/-- a contract of a method that makes no cell -/
def Calls (Γ : GT) (q : MD) (as : List Value) (G : GG) (M : MM) (P : Option Value → MM → Prop) : Prop := ∀ z, CallsG Γ q as G z M (fun r G' z' M' => G' = G ∧ z' = z ∧ P r M') 0 0
theorem CallsG.intro {Γ : GT} {q : MD} {as : List Value} {G : GG} {z : Nat} {M : MM} {P : PG} {mc ms : Nat} (hy : plainName q.1.cls = true) (hl : (entA as).length ≤ q.2.2.1)
    (body : ∀ E : CT, Ok Γ E q → RQ Γ E P mc ms → X Γ E 0 0 G z M 0 (entL as q.2.2.1) []) : CallsG Γ q as G z M P mc ms := by
  refine Met.ofW (cc := q.2.1) (maxL := q.2.2.1) (ret := q.2.2.2.1) hy rfl ?_
  intro p e s m args below meth c s₁ B hml hv
  obtain ⟨rfl, hK, hH⟩ := hv
  have := body ((p, e, s, m), (as.toArray, below, meth, c), q.2.2.2.2, MQ below (QcOf Γ P) as.toArray s mc ms (fun p => Γ.2.2.2.1.size ≤ p)) ⟨B.exec, B.bytes, hml, B.returns, rfl, findClass_of_methodNamed B.named, B.notSynchronized, (name_of_methodNamed B.named B.method).1, hK⟩ rfl
  rw [lg_entry_eq]
  exact this s.heap [] _ hH (fun q h => by cases h) (PL.entry as hl)
theorem Calls.intro {Γ : GT} {q : MD} {as : List Value} {G : GG} {M : MM} {P : Option Value → MM → Prop} (hy : plainName q.1.cls = true) (hl : (entA as).length ≤ q.2.2.1)
    (body : ∀ (z : Nat) (E : CT), Ok Γ E q → RQ Γ E (fun r G' z' M' => G' = G ∧ z' = z ∧ P r M') 0 0 → X Γ E 0 0 G z M 0 (entL as q.2.2.1) []) : Calls Γ q as G M P := fun z => CallsG.intro hy hl (body z)
section ROWS
variable {Γ : GT} {E : CT} {q : MD} {k n : Nat} {G : GG} {z : Nat} {M : MM} {pc : Nat} {L : List (Option Value)} {st : List Value}

theorem x_icm1 (h : Ok Γ E q) (d : decode q.2.1 pc = .ok (.iconst (-1), 1)) (kk : X Γ E k n G z M (pc + 1) L (.int (-1) :: st)) : X Γ E k n G z M pc L st :=
  fun H locs ls hH hF hL => lv_iconst (v := -1) h.1 h.2.1 d (by decide) (kk H locs ls hH hF hL)
theorem x_ic0 (h : Ok Γ E q) (d : decode q.2.1 pc = .ok (.iconst (0), 1)) (kk : X Γ E k n G z M (pc + 1) L (.int (0) :: st)) : X Γ E k n G z M pc L st :=
  fun H locs ls hH hF hL => lv_iconst (v := 0) h.1 h.2.1 d (by decide) (kk H locs ls hH hF hL)
theorem x_ic1 (h : Ok Γ E q) (d : decode q.2.1 pc = .ok (.iconst (1), 1)) (kk : X Γ E k n G z M (pc + 1) L (.int (1) :: st)) : X Γ E k n G z M pc L st :=
  fun H locs ls hH hF hL => lv_iconst (v := 1) h.1 h.2.1 d (by decide) (kk H locs ls hH hF hL)
theorem x_ic2 (h : Ok Γ E q) (d : decode q.2.1 pc = .ok (.iconst (2), 1)) (kk : X Γ E k n G z M (pc + 1) L (.int (2) :: st)) : X Γ E k n G z M pc L st :=
  fun H locs ls hH hF hL => lv_iconst (v := 2) h.1 h.2.1 d (by decide) (kk H locs ls hH hF hL)
theorem x_ic3 (h : Ok Γ E q) (d : decode q.2.1 pc = .ok (.iconst (3), 1)) (kk : X Γ E k n G z M (pc + 1) L (.int (3) :: st)) : X Γ E k n G z M pc L st :=
  fun H locs ls hH hF hL => lv_iconst (v := 3) h.1 h.2.1 d (by decide) (kk H locs ls hH hF hL)
theorem x_ic4 (h : Ok Γ E q) (d : decode q.2.1 pc = .ok (.iconst (4), 1)) (kk : X Γ E k n G z M (pc + 1) L (.int (4) :: st)) : X Γ E k n G z M pc L st :=
  fun H locs ls hH hF hL => lv_iconst (v := 4) h.1 h.2.1 d (by decide) (kk H locs ls hH hF hL)
theorem x_ic5 (h : Ok Γ E q) (d : decode q.2.1 pc = .ok (.iconst (5), 1)) (kk : X Γ E k n G z M (pc + 1) L (.int (5) :: st)) : X Γ E k n G z M pc L st :=
  fun H locs ls hH hF hL => lv_iconst (v := 5) h.1 h.2.1 d (by decide) (kk H locs ls hH hF hL)
theorem x_bipush (h : Ok Γ E q) {c : Int} (v : Int32) (hv : (Int8.ofInt c).toInt32 = v) (d : decode q.2.1 pc = .ok (.bipush c, 2)) (kk : X Γ E k n G z M (pc + 2) L (.int v :: st)) : X Γ E k n G z M pc L st :=
  fun H locs ls hH hF hL => lv_bipush h.1 h.2.1 d hv (kk H locs ls hH hF hL)
theorem x_sipush (h : Ok Γ E q) {c : Int} (v : Int32) (hv : (Int16.ofInt c).toInt32 = v) (d : decode q.2.1 pc = .ok (.sipush c, 3)) (kk : X Γ E k n G z M (pc + 3) L (.int v :: st)) : X Γ E k n G z M pc L st :=
  fun H locs ls hH hF hL => lv_sipush h.1 h.2.1 d hv (kk H locs ls hH hF hL)
theorem x_lc0 (h : Ok Γ E q) (d : decode q.2.1 pc = .ok (.lconst 0, 1)) (kk : X Γ E k n G z M (pc + 1) L (.long 0 :: st)) : X Γ E k n G z M pc L st :=
  fun H locs ls hH hF hL => lv_lconst (v := 0) h.1 h.2.1 d (by decide) (kk H locs ls hH hF hL)
theorem x_lc1 (h : Ok Γ E q) (d : decode q.2.1 pc = .ok (.lconst 1, 1)) (kk : X Γ E k n G z M (pc + 1) L (.long 1 :: st)) : X Γ E k n G z M pc L st :=
  fun H locs ls hH hF hL => lv_lconst (v := 1) h.1 h.2.1 d (by decide) (kk H locs ls hH hF hL)
theorem x_ldc2 (h : Ok Γ E q) {idx : Nat} {v : Int64} (hw : KW (Cond.constantLong q.1.cls idx v)) (d : decode q.2.1 pc = .ok (.ldc2_w idx, 3)) (kk : X Γ E k n G z M (pc + 3) L (.long v :: st)) : X Γ E k n G z M pc L st :=
  fun H locs ls hH hF hL => lv_ldc2 h.1 h.2.1 h.2.2.2.2.2.1 (h.2.2.2.2.2.2.2.2.at hw) d (kk H locs ls hH hF hL)
theorem x_iload_n (h : Ok Γ E q) {i : Fin 4} {x : Int32} (d : decode q.2.1 pc = .ok (.iload_n i, 1)) (hv : L[(i : Nat)]? = some (some (.int x))) (kk : X Γ E k n G z M (pc + 1) L (.int x :: st)) : X Γ E k n G z M pc L st :=
  fun H locs ls hH hF hL => lv_iload_n h.1 h.2.1 d rfl (hL.2.2 _ _ hv) (kk H locs ls hH hF hL)
theorem x_iload (h : Ok Γ E q) {i : Nat} {x : Int32} (d : decode q.2.1 pc = .ok (.iload i, 2)) (hv : L[i]? = some (some (.int x))) (kk : X Γ E k n G z M (pc + 2) L (.int x :: st)) : X Γ E k n G z M pc L st :=
  fun H locs ls hH hF hL => lv_iload h.1 h.2.1 d (hL.2.2 _ _ hv) (kk H locs ls hH hF hL)
theorem x_istore_n (h : Ok Γ E q) {i : Fin 4} {x : Int32} (d : decode q.2.1 pc = .ok (.istore_n i, 1)) (hi : Nat.blt (i : Nat) L.length = true) (hc : chk1 L (i : Nat) = true) (kk : X Γ E k n G z M (pc + 1) (L.set (i : Nat) (some (.int x))) st) : X Γ E k n G z M pc L (.int x :: st) :=
  fun H locs ls hH hF hL => lv_istore_n h.1 h.2.1 d rfl hL.has (Nat.le_of_ble_eq_true hi) rfl (fun ls2 h2 => kk H locs ls2 hH hF (PL.store1 hc h2))
theorem x_istore (h : Ok Γ E q) {i : Nat} {x : Int32} (d : decode q.2.1 pc = .ok (.istore i, 2)) (hi : Nat.blt i L.length = true) (hc : chk1 L i = true) (kk : X Γ E k n G z M (pc + 2) (L.set i (some (.int x))) st) : X Γ E k n G z M pc L (.int x :: st) :=
  fun H locs ls hH hF hL => lv_istore h.1 h.2.1 d hL.has (Nat.le_of_ble_eq_true hi) rfl (fun ls2 h2 => kk H locs ls2 hH hF (PL.store1 hc h2))
theorem x_lload_n (h : Ok Γ E q) {i : Fin 4} {x : Int64} (d : decode q.2.1 pc = .ok (.lload_n i, 1)) (hv : L[(i : Nat)]? = some (some (.long x))) (kk : X Γ E k n G z M (pc + 1) L (.long x :: st)) : X Γ E k n G z M pc L st :=
  fun H locs ls hH hF hL => lv_lload_n h.1 h.2.1 d rfl (hL.2.2 _ _ hv) (kk H locs ls hH hF hL)
theorem x_lload (h : Ok Γ E q) {i : Nat} {x : Int64} (d : decode q.2.1 pc = .ok (.lload i, 2)) (hv : L[i]? = some (some (.long x))) (kk : X Γ E k n G z M (pc + 2) L (.long x :: st)) : X Γ E k n G z M pc L st :=
  fun H locs ls hH hF hL => lv_lload h.1 h.2.1 d (hL.2.2 _ _ hv) (kk H locs ls hH hF hL)
theorem x_lstore_n (h : Ok Γ E q) {i : Fin 4} {x : Int64} (d : decode q.2.1 pc = .ok (.lstore_n i, 1)) (hi : Nat.blt ((i : Nat) + 1) L.length = true) (hc : chk1 L (i : Nat) = true) (kk : X Γ E k n G z M (pc + 1) ((L.set (i : Nat) (some (.long x))).set ((i : Nat) + 1) none) st) : X Γ E k n G z M pc L (.long x :: st) :=
  fun H locs ls hH hF hL => lv_lstore_n h.1 h.2.1 d rfl hL.has (Nat.le_of_ble_eq_true hi) rfl (fun ls2 h2 => kk H locs ls2 hH hF (PL.store2 hc h2))
theorem x_lstore (h : Ok Γ E q) {i : Nat} {x : Int64} (d : decode q.2.1 pc = .ok (.lstore i, 2)) (hi : Nat.blt (i + 1) L.length = true) (hc : chk1 L i = true) (kk : X Γ E k n G z M (pc + 2) ((L.set i (some (.long x))).set (i + 1) none) st) : X Γ E k n G z M pc L (.long x :: st) :=
  fun H locs ls hH hF hL => lv_lstore h.1 h.2.1 d hL.has (Nat.le_of_ble_eq_true hi) rfl (fun ls2 h2 => kk H locs ls2 hH hF (PL.store2 hc h2))
theorem x_aload_n (h : Ok Γ E q) {i : Fin 4} {x : Nat} (d : decode q.2.1 pc = .ok (.aload_n i, 1)) (hv : L[(i : Nat)]? = some (some (.ref x))) (kk : X Γ E k n G z M (pc + 1) L (.ref x :: st)) : X Γ E k n G z M pc L st :=
  fun H locs ls hH hF hL => lv_aload_n h.1 h.2.1 d rfl (hL.2.2 _ _ hv) (kk H locs ls hH hF hL)
theorem x_aload (h : Ok Γ E q) {i : Nat} {x : Nat} (d : decode q.2.1 pc = .ok (.aload i, 2)) (hv : L[i]? = some (some (.ref x))) (kk : X Γ E k n G z M (pc + 2) L (.ref x :: st)) : X Γ E k n G z M pc L st :=
  fun H locs ls hH hF hL => lv_aload h.1 h.2.1 d (hL.2.2 _ _ hv) (kk H locs ls hH hF hL)
theorem x_astore_n (h : Ok Γ E q) {i : Fin 4} {x : Nat} (d : decode q.2.1 pc = .ok (.astore_n i, 1)) (hi : Nat.blt (i : Nat) L.length = true) (hc : chk1 L (i : Nat) = true) (kk : X Γ E k n G z M (pc + 1) (L.set (i : Nat) (some (.ref x))) st) : X Γ E k n G z M pc L (.ref x :: st) :=
  fun H locs ls hH hF hL => lv_astore_n h.1 h.2.1 d rfl hL.has (Nat.le_of_ble_eq_true hi) rfl (fun ls2 h2 => kk H locs ls2 hH hF (PL.store1 hc h2))
theorem x_astore (h : Ok Γ E q) {i : Nat} {x : Nat} (d : decode q.2.1 pc = .ok (.astore i, 2)) (hi : Nat.blt i L.length = true) (hc : chk1 L i = true) (kk : X Γ E k n G z M (pc + 2) (L.set i (some (.ref x))) st) : X Γ E k n G z M pc L (.ref x :: st) :=
  fun H locs ls hH hF hL => lv_astore h.1 h.2.1 d hL.has (Nat.le_of_ble_eq_true hi) rfl (fun ls2 h2 => kk H locs ls2 hH hF (PL.store1 hc h2))
theorem prs_at {L : List (Option Value)} {i : Nat} {v : Value} (h : L[i]? = some (some v)) : ∃ k : Nat, (prs 0 L)[k]? = some (i, v) := List.getElem?_of_mem ((mem_prs L 0 i v).mpr ⟨Nat.zero_le _, by simpa using h⟩)
theorem x_iinc (h : Ok Γ E q) {i : Nat} {c : Int} {x : Int32} (v : Int32) (hv : Int32.ofInt c = v) (d : decode q.2.1 pc = .ok (.iinc i c, 3)) (hx : L[i]? = some (some (.int x))) (hi : Nat.blt i L.length = true) (hc : chk1 L i = true) (kk : X Γ E k n G z M (pc + 3) (L.set i (some (.int (x + v)))) st) : X Γ E k n G z M pc L st := fun H locs ls hH hF hL => by
  obtain ⟨j, hj⟩ := prs_at hx
  exact lv_iinc h.1 h.2.1 d hL.has hj (by rw [hv]) (Nat.le_of_ble_eq_true hi) rfl (fun ls2 h2 => kk H locs ls2 hH hF (PL.store1 hc h2))
theorem x_iadd (h : Ok Γ E q) {x y : Int32} (d : decode q.2.1 pc = .ok (.iadd, 1)) (kk : X Γ E k n G z M (pc + 1) L (.int (x + y) :: st)) : X Γ E k n G z M pc L (.int y :: .int x :: st) :=
  fun H locs ls hH hF hL => lv_iadd h.1 h.2.1 d  (kk H locs ls hH hF hL)
theorem x_isub (h : Ok Γ E q) {x y : Int32} (d : decode q.2.1 pc = .ok (.isub, 1)) (kk : X Γ E k n G z M (pc + 1) L (.int (x - y) :: st)) : X Γ E k n G z M pc L (.int y :: .int x :: st) :=
  fun H locs ls hH hF hL => lv_isub h.1 h.2.1 d  (kk H locs ls hH hF hL)
theorem x_imul (h : Ok Γ E q) {x y : Int32} (d : decode q.2.1 pc = .ok (.imul, 1)) (kk : X Γ E k n G z M (pc + 1) L (.int (x * y) :: st)) : X Γ E k n G z M pc L (.int y :: .int x :: st) :=
  fun H locs ls hH hF hL => lv_imul h.1 h.2.1 d  (kk H locs ls hH hF hL)
theorem x_iand (h : Ok Γ E q) {x y : Int32} (d : decode q.2.1 pc = .ok (.iand, 1)) (kk : X Γ E k n G z M (pc + 1) L (.int (x &&& y) :: st)) : X Γ E k n G z M pc L (.int y :: .int x :: st) :=
  fun H locs ls hH hF hL => lv_iand h.1 h.2.1 d  (kk H locs ls hH hF hL)
theorem x_ior (h : Ok Γ E q) {x y : Int32} (d : decode q.2.1 pc = .ok (.ior, 1)) (kk : X Γ E k n G z M (pc + 1) L (.int (x ||| y) :: st)) : X Γ E k n G z M pc L (.int y :: .int x :: st) :=
  fun H locs ls hH hF hL => lv_ior h.1 h.2.1 d  (kk H locs ls hH hF hL)
theorem x_ixor (h : Ok Γ E q) {x y : Int32} (d : decode q.2.1 pc = .ok (.ixor, 1)) (kk : X Γ E k n G z M (pc + 1) L (.int (x ^^^ y) :: st)) : X Γ E k n G z M pc L (.int y :: .int x :: st) :=
  fun H locs ls hH hF hL => lv_ixor h.1 h.2.1 d  (kk H locs ls hH hF hL)
theorem x_ineg (h : Ok Γ E q) {x : Int32} (d : decode q.2.1 pc = .ok (.ineg, 1)) (kk : X Γ E k n G z M (pc + 1) L (.int (-x) :: st)) : X Γ E k n G z M pc L (.int x :: st) :=
  fun H locs ls hH hF hL => lv_ineg h.1 h.2.1 d  (kk H locs ls hH hF hL)
theorem x_idiv (h : Ok Γ E q) {x y : Int32} (hne : ¬ y = 0) (d : decode q.2.1 pc = .ok (.idiv, 1)) (kk : X Γ E k n G z M (pc + 1) L (.int (x / y) :: st)) : X Γ E k n G z M pc L (.int y :: .int x :: st) :=
  fun H locs ls hH hF hL => lv_idiv h.1 h.2.1 d hne (kk H locs ls hH hF hL)
theorem x_irem (h : Ok Γ E q) {x y : Int32} (hne : ¬ y = 0) (d : decode q.2.1 pc = .ok (.irem, 1)) (kk : X Γ E k n G z M (pc + 1) L (.int (x - x / y * y) :: st)) : X Γ E k n G z M pc L (.int y :: .int x :: st) :=
  fun H locs ls hH hF hL => lv_irem h.1 h.2.1 d hne (kk H locs ls hH hF hL)
theorem x_ldiv (h : Ok Γ E q) {x y : Int64} (hne : ¬ y = 0) (d : decode q.2.1 pc = .ok (.ldiv, 1)) (kk : X Γ E k n G z M (pc + 1) L (.long (x / y) :: st)) : X Γ E k n G z M pc L (.long y :: .long x :: st) :=
  fun H locs ls hH hF hL => lv_ldiv h.1 h.2.1 d hne (kk H locs ls hH hF hL)
theorem x_lrem (h : Ok Γ E q) {x y : Int64} (hne : ¬ y = 0) (d : decode q.2.1 pc = .ok (.lrem, 1)) (kk : X Γ E k n G z M (pc + 1) L (.long (x - x / y * y) :: st)) : X Γ E k n G z M pc L (.long y :: .long x :: st) :=
  fun H locs ls hH hF hL => lv_lrem h.1 h.2.1 d hne (kk H locs ls hH hF hL)
theorem x_ladd (h : Ok Γ E q) {x y : Int64} (d : decode q.2.1 pc = .ok (.ladd, 1)) (kk : X Γ E k n G z M (pc + 1) L (.long (x + y) :: st)) : X Γ E k n G z M pc L (.long y :: .long x :: st) :=
  fun H locs ls hH hF hL => lv_ladd h.1 h.2.1 d  (kk H locs ls hH hF hL)
theorem x_lsub (h : Ok Γ E q) {x y : Int64} (d : decode q.2.1 pc = .ok (.lsub, 1)) (kk : X Γ E k n G z M (pc + 1) L (.long (x - y) :: st)) : X Γ E k n G z M pc L (.long y :: .long x :: st) :=
  fun H locs ls hH hF hL => lv_lsub h.1 h.2.1 d  (kk H locs ls hH hF hL)
theorem x_lmul (h : Ok Γ E q) {x y : Int64} (d : decode q.2.1 pc = .ok (.lmul, 1)) (kk : X Γ E k n G z M (pc + 1) L (.long (x * y) :: st)) : X Γ E k n G z M pc L (.long y :: .long x :: st) :=
  fun H locs ls hH hF hL => lv_lmul h.1 h.2.1 d  (kk H locs ls hH hF hL)
theorem x_land (h : Ok Γ E q) {x y : Int64} (d : decode q.2.1 pc = .ok (.land, 1)) (kk : X Γ E k n G z M (pc + 1) L (.long (x &&& y) :: st)) : X Γ E k n G z M pc L (.long y :: .long x :: st) :=
  fun H locs ls hH hF hL => lv_land h.1 h.2.1 d  (kk H locs ls hH hF hL)
theorem x_lor (h : Ok Γ E q) {x y : Int64} (d : decode q.2.1 pc = .ok (.lor, 1)) (kk : X Γ E k n G z M (pc + 1) L (.long (x ||| y) :: st)) : X Γ E k n G z M pc L (.long y :: .long x :: st) :=
  fun H locs ls hH hF hL => lv_lor h.1 h.2.1 d  (kk H locs ls hH hF hL)
theorem x_lxor (h : Ok Γ E q) {x y : Int64} (d : decode q.2.1 pc = .ok (.lxor, 1)) (kk : X Γ E k n G z M (pc + 1) L (.long (x ^^^ y) :: st)) : X Γ E k n G z M pc L (.long y :: .long x :: st) :=
  fun H locs ls hH hF hL => lv_lxor h.1 h.2.1 d  (kk H locs ls hH hF hL)
theorem x_ishl (h : Ok Γ E q) {x y : Int32} (d : decode q.2.1 pc = .ok (.ishl, 1)) (kk : X Γ E k n G z M (pc + 1) L (.int (x <<< (y &&& 31)) :: st)) : X Γ E k n G z M pc L (.int y :: .int x :: st) :=
  fun H locs ls hH hF hL => lv_ishl h.1 h.2.1 d  (kk H locs ls hH hF hL)
theorem x_ishr (h : Ok Γ E q) {x y : Int32} (d : decode q.2.1 pc = .ok (.ishr, 1)) (kk : X Γ E k n G z M (pc + 1) L (.int (x >>> (y &&& 31)) :: st)) : X Γ E k n G z M pc L (.int y :: .int x :: st) :=
  fun H locs ls hH hF hL => lv_ishr h.1 h.2.1 d  (kk H locs ls hH hF hL)
theorem x_iushr (h : Ok Γ E q) {x y : Int32} (d : decode q.2.1 pc = .ok (.iushr, 1)) (kk : X Γ E k n G z M (pc + 1) L (.int (x.toUInt32 >>> (y.toUInt32 &&& Int32.toUInt32 31)).toInt32 :: st)) : X Γ E k n G z M pc L (.int y :: .int x :: st) :=
  fun H locs ls hH hF hL => lv_iushr h.1 h.2.1 d rfl (kk H locs ls hH hF hL)
theorem x_lshl (h : Ok Γ E q) {x : Int64} {y : Int32} (d : decode q.2.1 pc = .ok (.lshl, 1)) (kk : X Γ E k n G z M (pc + 1) L (.long (x <<< (y.toInt64 &&& 63)) :: st)) : X Γ E k n G z M pc L (.int y :: .long x :: st) :=
  fun H locs ls hH hF hL => lv_lshl h.1 h.2.1 d rfl (kk H locs ls hH hF hL)
theorem x_lshr (h : Ok Γ E q) {x : Int64} {y : Int32} (d : decode q.2.1 pc = .ok (.lshr, 1)) (kk : X Γ E k n G z M (pc + 1) L (.long (x >>> (y.toInt64 &&& 63)) :: st)) : X Γ E k n G z M pc L (.int y :: .long x :: st) :=
  fun H locs ls hH hF hL => lv_lshr h.1 h.2.1 d rfl (kk H locs ls hH hF hL)
theorem x_lushr (h : Ok Γ E q) {x : Int64} {y : Int32} (d : decode q.2.1 pc = .ok (.lushr, 1)) (kk : X Γ E k n G z M (pc + 1) L (.long (x.toUInt64 >>> (y.toInt64.toUInt64 &&& Int64.toUInt64 63)).toInt64 :: st)) : X Γ E k n G z M pc L (.int y :: .long x :: st) :=
  fun H locs ls hH hF hL => lv_lushr h.1 h.2.1 d rfl (kk H locs ls hH hF hL)
theorem x_i2l (h : Ok Γ E q) {x : Int32} (d : decode q.2.1 pc = .ok (.i2l, 1)) (kk : X Γ E k n G z M (pc + 1) L (.long x.toInt64 :: st)) : X Γ E k n G z M pc L (.int x :: st) :=
  fun H locs ls hH hF hL => lv_i2l h.1 h.2.1 d rfl (kk H locs ls hH hF hL)
theorem x_l2i (h : Ok Γ E q) {x : Int64} (d : decode q.2.1 pc = .ok (.l2i, 1)) (kk : X Γ E k n G z M (pc + 1) L (.int x.toInt32 :: st)) : X Γ E k n G z M pc L (.long x :: st) :=
  fun H locs ls hH hF hL => lv_l2i h.1 h.2.1 d rfl (kk H locs ls hH hF hL)
theorem x_i2c (h : Ok Γ E q) {x : Int32} (d : decode q.2.1 pc = .ok (.i2c, 1)) (kk : X Γ E k n G z M (pc + 1) L (.int (x.toUInt32 % 65536).toInt32 :: st)) : X Γ E k n G z M pc L (.int x :: st) :=
  fun H locs ls hH hF hL => lv_i2c h.1 h.2.1 d rfl (kk H locs ls hH hF hL)
theorem x_dup (h : Ok Γ E q) {v : Value} (hc : v.category = 1) (d : decode q.2.1 pc = .ok (.dup, 1)) (kk : X Γ E k n G z M (pc + 1) L (v :: v :: st)) : X Γ E k n G z M pc L (v :: st) :=
  fun H locs ls hH hF hL => lv_dup h.1 h.2.1 d hc (kk H locs ls hH hF hL)
theorem x_pop (h : Ok Γ E q) {v : Value} (hc : v.category = 1) (d : decode q.2.1 pc = .ok (.pop, 1)) (kk : X Γ E k n G z M (pc + 1) L (st)) : X Γ E k n G z M pc L (v :: st) :=
  fun H locs ls hH hF hL => lv_pop h.1 h.2.1 d hc (kk H locs ls hH hF hL)
theorem x_dup2 (h : Ok Γ E q) {v u : Value} (hc : v.category = 1) (hu : u.category = 1) (d : decode q.2.1 pc = .ok (.dup2, 1)) (kk : X Γ E k n G z M (pc + 1) L (v :: u :: v :: u :: st)) : X Γ E k n G z M pc L (v :: u :: st) :=
  fun H locs ls hH hF hL => lv_dup2_11 h.1 h.2.1 d hc hu (kk H locs ls hH hF hL)
theorem x_dup_x1 (h : Ok Γ E q) {v u : Value} (hc : v.category = 1) (hu : u.category = 1) (d : decode q.2.1 pc = .ok (.dup_x1, 1)) (kk : X Γ E k n G z M (pc + 1) L (v :: u :: v :: st)) : X Γ E k n G z M pc L (v :: u :: st) :=
  fun H locs ls hH hF hL => lv_dup_x1 h.1 h.2.1 d hc hu (kk H locs ls hH hF hL)
theorem x_lcmp (h : Ok Γ E q) {x y : Int64} (d : decode q.2.1 pc = .ok (.lcmp, 1)) (kk : X Γ E k n G z M (pc + 1) L (.int (lg_cmp x y) :: st)) : X Γ E k n G z M pc L (.long y :: .long x :: st) := fun H locs ls hH hF hL => W.lcmp h.1 h.2.1 d (kk H locs ls hH hF hL)
theorem x_icmp_eq (h : Ok Γ E q) {x y : Int32} {off : Int} (tgt : Nat) (d : decode q.2.1 pc = .ok (.if_icmp .eq off, 3)) (ht : (pc : Int) + off = (tgt : Int)) (kt : x = y → X Γ E k n G z M tgt L st) (kf : ¬ (x = y) → X Γ E k n G z M (pc + 3) L st) : X Γ E k n G z M pc L (.int y :: .int x :: st) :=
  fun H locs ls hH hF hL => lv_icmp_eq h.1 h.2.1 d ht (fun hc => kt hc H locs ls hH hF hL) (fun hc => kf hc H locs ls hH hF hL)
theorem x_if_eq (h : Ok Γ E q) {x : Int32} {off : Int} (tgt : Nat) (d : decode q.2.1 pc = .ok (.ifCond .eq off, 3)) (ht : (pc : Int) + off = (tgt : Int)) (kt : x = 0 → X Γ E k n G z M tgt L st) (kf : ¬ (x = 0) → X Γ E k n G z M (pc + 3) L st) : X Γ E k n G z M pc L (.int x :: st) :=
  fun H locs ls hH hF hL => lv_if_eq h.1 h.2.1 d ht (fun hc => kt hc H locs ls hH hF hL) (fun hc => kf hc H locs ls hH hF hL)
theorem x_icmp_ne (h : Ok Γ E q) {x y : Int32} {off : Int} (tgt : Nat) (d : decode q.2.1 pc = .ok (.if_icmp .ne off, 3)) (ht : (pc : Int) + off = (tgt : Int)) (kt : ¬ x = y → X Γ E k n G z M tgt L st) (kf : x = y → X Γ E k n G z M (pc + 3) L st) : X Γ E k n G z M pc L (.int y :: .int x :: st) :=
  fun H locs ls hH hF hL => lv_icmp_ne h.1 h.2.1 d ht (fun hc => kt hc H locs ls hH hF hL) (fun hc => kf hc H locs ls hH hF hL)
theorem x_if_ne (h : Ok Γ E q) {x : Int32} {off : Int} (tgt : Nat) (d : decode q.2.1 pc = .ok (.ifCond .ne off, 3)) (ht : (pc : Int) + off = (tgt : Int)) (kt : ¬ x = 0 → X Γ E k n G z M tgt L st) (kf : x = 0 → X Γ E k n G z M (pc + 3) L st) : X Γ E k n G z M pc L (.int x :: st) :=
  fun H locs ls hH hF hL => lv_if_ne h.1 h.2.1 d ht (fun hc => kt hc H locs ls hH hF hL) (fun hc => kf hc H locs ls hH hF hL)
theorem x_icmp_lt (h : Ok Γ E q) {x y : Int32} {off : Int} (tgt : Nat) (d : decode q.2.1 pc = .ok (.if_icmp .lt off, 3)) (ht : (pc : Int) + off = (tgt : Int)) (kt : x < y → X Γ E k n G z M tgt L st) (kf : ¬ (x < y) → X Γ E k n G z M (pc + 3) L st) : X Γ E k n G z M pc L (.int y :: .int x :: st) :=
  fun H locs ls hH hF hL => lv_icmp_lt h.1 h.2.1 d ht (fun hc => kt hc H locs ls hH hF hL) (fun hc => kf hc H locs ls hH hF hL)
theorem x_if_lt (h : Ok Γ E q) {x : Int32} {off : Int} (tgt : Nat) (d : decode q.2.1 pc = .ok (.ifCond .lt off, 3)) (ht : (pc : Int) + off = (tgt : Int)) (kt : x < 0 → X Γ E k n G z M tgt L st) (kf : ¬ (x < 0) → X Γ E k n G z M (pc + 3) L st) : X Γ E k n G z M pc L (.int x :: st) :=
  fun H locs ls hH hF hL => lv_if_lt h.1 h.2.1 d ht (fun hc => kt hc H locs ls hH hF hL) (fun hc => kf hc H locs ls hH hF hL)
theorem x_icmp_ge (h : Ok Γ E q) {x y : Int32} {off : Int} (tgt : Nat) (d : decode q.2.1 pc = .ok (.if_icmp .ge off, 3)) (ht : (pc : Int) + off = (tgt : Int)) (kt : y ≤ x → X Γ E k n G z M tgt L st) (kf : ¬ (y ≤ x) → X Γ E k n G z M (pc + 3) L st) : X Γ E k n G z M pc L (.int y :: .int x :: st) :=
  fun H locs ls hH hF hL => lv_icmp_ge h.1 h.2.1 d ht (fun hc => kt hc H locs ls hH hF hL) (fun hc => kf hc H locs ls hH hF hL)
theorem x_if_ge (h : Ok Γ E q) {x : Int32} {off : Int} (tgt : Nat) (d : decode q.2.1 pc = .ok (.ifCond .ge off, 3)) (ht : (pc : Int) + off = (tgt : Int)) (kt : 0 ≤ x → X Γ E k n G z M tgt L st) (kf : ¬ (0 ≤ x) → X Γ E k n G z M (pc + 3) L st) : X Γ E k n G z M pc L (.int x :: st) :=
  fun H locs ls hH hF hL => lv_if_ge h.1 h.2.1 d ht (fun hc => kt hc H locs ls hH hF hL) (fun hc => kf hc H locs ls hH hF hL)
theorem x_icmp_gt (h : Ok Γ E q) {x y : Int32} {off : Int} (tgt : Nat) (d : decode q.2.1 pc = .ok (.if_icmp .gt off, 3)) (ht : (pc : Int) + off = (tgt : Int)) (kt : y < x → X Γ E k n G z M tgt L st) (kf : ¬ (y < x) → X Γ E k n G z M (pc + 3) L st) : X Γ E k n G z M pc L (.int y :: .int x :: st) :=
  fun H locs ls hH hF hL => lv_icmp_gt h.1 h.2.1 d ht (fun hc => kt hc H locs ls hH hF hL) (fun hc => kf hc H locs ls hH hF hL)
theorem x_if_gt (h : Ok Γ E q) {x : Int32} {off : Int} (tgt : Nat) (d : decode q.2.1 pc = .ok (.ifCond .gt off, 3)) (ht : (pc : Int) + off = (tgt : Int)) (kt : 0 < x → X Γ E k n G z M tgt L st) (kf : ¬ (0 < x) → X Γ E k n G z M (pc + 3) L st) : X Γ E k n G z M pc L (.int x :: st) :=
  fun H locs ls hH hF hL => lv_if_gt h.1 h.2.1 d ht (fun hc => kt hc H locs ls hH hF hL) (fun hc => kf hc H locs ls hH hF hL)
theorem x_icmp_le (h : Ok Γ E q) {x y : Int32} {off : Int} (tgt : Nat) (d : decode q.2.1 pc = .ok (.if_icmp .le off, 3)) (ht : (pc : Int) + off = (tgt : Int)) (kt : x ≤ y → X Γ E k n G z M tgt L st) (kf : ¬ (x ≤ y) → X Γ E k n G z M (pc + 3) L st) : X Γ E k n G z M pc L (.int y :: .int x :: st) :=
  fun H locs ls hH hF hL => lv_icmp_le h.1 h.2.1 d ht (fun hc => kt hc H locs ls hH hF hL) (fun hc => kf hc H locs ls hH hF hL)
theorem x_if_le (h : Ok Γ E q) {x : Int32} {off : Int} (tgt : Nat) (d : decode q.2.1 pc = .ok (.ifCond .le off, 3)) (ht : (pc : Int) + off = (tgt : Int)) (kt : x ≤ 0 → X Γ E k n G z M tgt L st) (kf : ¬ (x ≤ 0) → X Γ E k n G z M (pc + 3) L st) : X Γ E k n G z M pc L (.int x :: st) :=
  fun H locs ls hH hF hL => lv_if_le h.1 h.2.1 d ht (fun hc => kt hc H locs ls hH hF hL) (fun hc => kf hc H locs ls hH hF hL)
theorem x_goto (h : Ok Γ E q) {off : Int} (tgt : Nat) (d : decode q.2.1 pc = .ok (.goto off, 3)) (ht : (pc : Int) + off = (tgt : Int)) (kk : X Γ E k n G z M tgt L st) : X Γ E k n G z M pc L st :=
  fun H locs ls hH hF hL => lv_goto h.1 h.2.1 d ht (kk H locs ls hH hF hL)
theorem x_tin (h : Ok Γ E q) {dflt lo hi : Int} {offs : Array Int} {len : Nat} {x : Int32} {off : Int} (tgt : Nat) (d : decode q.2.1 pc = .ok (.tableswitch dflt lo hi offs, len)) (h1 : ¬ x.toInt < lo) (h2 : ¬ hi < x.toInt) (ho : offs[(x.toInt - lo).toNat]? = some off) (ht : (pc : Int) + off = (tgt : Int)) (kk : X Γ E k n G z M tgt L st) : X Γ E k n G z M pc L (.int x :: st) :=
  fun H locs ls hH hF hL => lv_tableIn h.1 h.2.1 d h1 h2 ho ht (kk H locs ls hH hF hL)
theorem x_tout (h : Ok Γ E q) {dflt lo hi : Int} {offs : Array Int} {len : Nat} {x : Int32} (tgt : Nat) (d : decode q.2.1 pc = .ok (.tableswitch dflt lo hi offs, len)) (h1 : x.toInt < lo ∨ hi < x.toInt) (ht : (pc : Int) + dflt = (tgt : Int)) (kk : X Γ E k n G z M tgt L st) : X Γ E k n G z M pc L (.int x :: st) :=
  fun H locs ls hH hF hL => lv_tableOut h.1 h.2.1 d h1 ht (kk H locs ls hH hF hL)
theorem x_look (h : Ok Γ E q) {dflt : Int} {ps : Array (Int × Int)} {len : Nat} {x : Int32} {off : Int} (tgt : Nat) (d : decode q.2.1 pc = .ok (.lookupswitch dflt ps, len)) (hp : (ps.toList.zip (ps.toList.drop 1)).all (fun (a, next) => a.1 < next.1) = true) (ho : Op.lookupswitch.offset ps.toList dflt x.toInt = off) (ht : (pc : Int) + off = (tgt : Int)) (kk : X Γ E k n G z M tgt L st) : X Γ E k n G z M pc L (.int x :: st) :=
  fun H locs ls hH hF hL => lv_lookup h.1 h.2.1 d hp ho ht (kk H locs ls hH hF hL)
end ROWS
end
section
/-! ===== ROWS OVER THE HEAP: fields, arrays, calls, ends ===== -/
theorem HI.upd {Γ : GT} {G : GG} {z : Nat} {M M' : MM} {H H' : Heap} {a : Nat} {kd : KD} (h : HI Γ G z M H) (hsz : H'.size = H.size) (ho : ∀ q : Nat, q ≠ a → H'[q]? = H[q]?) (hG : G a = some kd) (hA : HA Γ M' H' a kd)
    (hs : ∀ b, b ≠ a → (∀ k, M.1 b k = M'.1 b k) ∧ (∀ k, M.2.1 b k = M'.2.1 b k) ∧ ∀ k, M.2.2 b k = M'.2.2 b k) : HI Γ G z M' H' := by
  obtain ⟨h1, h2, h3, h4⟩ := h
  have ha := (h4 a kd hG).1
  refine ⟨hsz.trans h1, h2, fun q hq => (ho q (by omega)).trans (h3 q hq), fun b kb hb => ⟨(h4 b kb hb).1, ?_⟩⟩
  by_cases hba : b = a
  · subst hba
    rw [hG] at hb
    cases hb
    exact hA
  · obtain ⟨s1, s2, s3⟩ := hs b hba
    exact ((h4 b kb hb).2.kept (ho b hba)).to s1 s2 s3
theorem sI_off (M : MM) (a k : Nat) (v : Int32) : ∀ b, b ≠ a → (∀ j, M.1 b j = (sI M a k v).1 b j) ∧ (∀ j, M.2.1 b j = (sI M a k v).2.1 b j) ∧ ∀ j, M.2.2 b j = (sI M a k v).2.2 b j :=
  fun b hb => ⟨fun j => (up2_ne _ _ (fun q => hb q.1)).symm, fun _ => rfl, fun _ => rfl⟩
theorem sL_off (M : MM) (a k : Nat) (v : Int64) : ∀ b, b ≠ a → (∀ j, M.1 b j = (sL M a k v).1 b j) ∧ (∀ j, M.2.1 b j = (sL M a k v).2.1 b j) ∧ ∀ j, M.2.2 b j = (sL M a k v).2.2 b j :=
  fun b hb => ⟨fun _ => rfl, fun j => (up2_ne _ _ (fun q => hb q.1)).symm, fun _ => rfl⟩
theorem sR_off (M : MM) (a k : Nat) (v : Value) : ∀ b, b ≠ a → (∀ j, M.1 b j = (sR M a k v).1 b j) ∧ (∀ j, M.2.1 b j = (sR M a k v).2.1 b j) ∧ ∀ j, M.2.2 b j = (sR M a k v).2.2 b j :=
  fun b hb => ⟨fun _ => rfl, fun _ => rfl, fun j => (up2_ne _ _ (fun q => hb q.1)).symm⟩
/-- of which part of the memory a type is: 0 ints, 1 longs, 2 references -/
def tk (ty : FieldType) : Nat := match ty with
  | .long => 1
  | .object _ => 2
  | .array _ => 2
  | _ => 0
theorem vty_I {ty : FieldType} (h : tk ty = 0) (M : MM) (a k : Nat) : vty ty M a k = .int (M.1 a k) := by cases ty <;> first | rfl | cases h
theorem vty_L {ty : FieldType} (h : tk ty = 1) (M : MM) (a k : Nat) : vty ty M a k = .long (M.2.1 a k) := by cases ty <;> first | rfl | cases h
theorem vty_R {ty : FieldType} (h : tk ty = 2) (M : MM) (a k : Nat) : vty ty M a k = M.2.2 a k := by cases ty <;> first | rfl | cases h
/-- a field by its number in the class's pool -/
def FL (own : String) (idx ci fi : Nat) : Prop := ci < 13 ∧ fi < cN ci ∧ (KW (Cond.fieldLink own idx (cR ci) (cT ci fi).2.1 (cT ci fi).2.2.1) ∨ ∃ host, KW (Cond.fieldLinkNest own idx (cR ci) (cT ci fi).2.1 (cT ci fi).2.2.1 host))
set_option maxRecDepth 100000 in
theorem cT_own : ∀ ci, ci < 13 → ∀ fi, fi < cN ci → (cT ci fi).1 = cR ci := by decide +kernel
set_option maxRecDepth 100000 in
theorem cY_ok : ∀ ci, ci < 13 → ∀ fi, fi < cN ci → parseFieldDescriptor (cT ci fi).2.2.1 = some (cY ci fi) := by decide +kernel
set_option maxRecDepth 100000 in
theorem cT_nm : ∀ ci, ci < 13 → ∀ a, a < cN ci → ∀ b, b < cN ci → a ≠ b → (cT ci a).2.1 ≠ (cT ci b).2.1 := by decide +kernel
set_option maxRecDepth 100000 in
theorem cT_in : ∀ ci, ci < 13 → ∀ w ∈ u_ws (cR ci) (cT ci) (cN ci), w ∈ lw_tbl ∧ wOK w = true := by decide +kernel
theorem KS.lays {Γ : GT} {s : State} (h : KS Γ s) {ci : Nat} (hc : ci < 13) {a' : Array Value} : ∀ w ∈ u_ws (cR ci) (cT ci) (cN ci), w.before a' s = true := fun w hw => h.at (cT_in ci hc w hw)
theorem KS.apart {Γ : GT} {s : State} (h : KS Γ s) {ci : Nat} (hc : ci < 13) : ∀ x y, x < cN ci → y < cN ci → x ≠ y → (Γ.2.1.2 ci) x ≠ (Γ.2.1.2 ci) y := by
  intro x y hx hy hne
  obtain ⟨hS, -⟩ := h.1 ci hc
  obtain ⟨_, _, _, fa, hia, ea⟩ := hS x hx
  obtain ⟨_, _, _, fb, hib, eb⟩ := hS y hy
  rw [← ea, ← eb]
  refine u_apart (u_lays (args := #[]) (h.lays hc) (fun _ h => h) hx) (u_lays (h.lays hc) (fun _ h => h) hy) hia hib ?_
  rw [(State.fieldFound?_type hia (cY_ok ci hc x hx)).1, (State.fieldFound?_type hib (cY_ok ci hc y hy)).1]
  exact cT_nm ci hc x hx y hy hne
section HROWS
variable {Γ : GT} {E : CT} {q : MD} {k n : Nat} {G : GG} {z : Nat} {M : MM} {pc : Nat} {L : List (Option Value)} {st : List Value}
theorem x_get (h : Ok Γ E q) {a ci fi idx : Nat} {v : Value} (hG : G a = some (.inl ci)) (hf : FL q.1.cls idx ci fi) (hv : vty (cY ci fi) M a fi = v) (d : decode q.2.1 pc = .ok (.getfield idx, 3)) (kk : X Γ E k n G z M (pc + 3) L (v :: st)) : X Γ E k n G z M pc L (.ref a :: st) := fun H locs ls hH hF hL => by
  obtain ⟨hc, hfi, hlk⟩ := hf
  obtain ⟨hx, hb, -, -, -, hown, -, -, hK⟩ := h
  obtain ⟨cell, q1, q2, q3, q4⟩ := (hH.2.2.2 a _ hG).2
  obtain ⟨hS, hfc, kC, hkC, hkind⟩ := hK.1 ci hc
  obtain ⟨cf, kf, fi', f, hi, hsl⟩ := hS fi hfi
  have hfacts := (u_facts hfc hkC (u_lays (args := #[]) (hK.lays hc) (fun _ h => h) hfi) hi).1
  have hval : cell.slots[f.slot]? = some v := by rw [hsl, q4 fi hfi, ← hv]
  rcases hlk with hl | ⟨host, hl⟩
  · exact W.getf hx hb hown (hK.at hl) (cT_own ci hc fi hfi ▸ hi) hfacts q1 (by rw [q3]; exact fun h => by cases h) hval rfl rfl d (kk H locs ls hH hF hL)
  · exact va_Wgetf hx hb hown (hK.at hl) (cT_own ci hc fi hfi ▸ hi) hfacts q1 (by rw [q3]; exact fun h => by cases h) hval rfl rfl d (kk H locs ls hH hF hL)
theorem x_getI (h : Ok Γ E q) {a ci fi idx : Nat} (hG : G a = some (.inl ci)) (hf : FL q.1.cls idx ci fi) (ht : tk (cY ci fi) = 0) (d : decode q.2.1 pc = .ok (.getfield idx, 3)) (kk : X Γ E k n G z M (pc + 3) L (.int (M.1 a fi) :: st)) : X Γ E k n G z M pc L (.ref a :: st) := x_get h hG hf (vty_I ht M a fi) d kk
theorem x_getL (h : Ok Γ E q) {a ci fi idx : Nat} (hG : G a = some (.inl ci)) (hf : FL q.1.cls idx ci fi) (ht : tk (cY ci fi) = 1) (d : decode q.2.1 pc = .ok (.getfield idx, 3)) (kk : X Γ E k n G z M (pc + 3) L (.long (M.2.1 a fi) :: st)) : X Γ E k n G z M pc L (.ref a :: st) := x_get h hG hf (vty_L ht M a fi) d kk
theorem x_getR (h : Ok Γ E q) {a ci fi idx : Nat} (hG : G a = some (.inl ci)) (hf : FL q.1.cls idx ci fi) (ht : tk (cY ci fi) = 2) {v : Value} (hr : M.2.2 a fi = v) (d : decode q.2.1 pc = .ok (.getfield idx, 3)) (kk : X Γ E k n G z M (pc + 3) L (v :: st)) : X Γ E k n G z M pc L (.ref a :: st) := x_get h hG hf ((vty_R ht M a fi).trans hr) d kk
theorem x_put (h : Ok Γ E q) {a ci fi idx : Nat} {v : Value} {M' : MM} (hG : G a = some (.inl ci)) (hf : FL q.1.cls idx ci fi) (hfin : (cT ci fi).2.2.2 = false) (hn : narrow (cY ci fi) v = v) (hfit : fits (cY ci fi) v = true)
    (hM : ∀ j, j < cN ci → updV (fun k => vty (cY ci k) M a k) fi v j = vty (cY ci j) M' a j) (hs : ∀ b, b ≠ a → (∀ k, M.1 b k = M'.1 b k) ∧ (∀ k, M.2.1 b k = M'.2.1 b k) ∧ ∀ k, M.2.2 b k = M'.2.2 b k)
    (d : decode q.2.1 pc = .ok (.putfield idx, 3)) (kk : X Γ E k n G z M' (pc + 3) L st) : X Γ E k n G z M pc L (v :: .ref a :: st) := fun H locs ls hH hF hL => by
  obtain ⟨hc, hfi, hlk⟩ := hf
  obtain ⟨hx, hb, -, -, -, hown, -, -, hK⟩ := h
  have hap := hK.apart hc
  obtain ⟨hga, cell, q1, q2, q3, q4⟩ := hH.2.2.2 a _ hG
  obtain ⟨hS, hfc, kC, hkC, hkind⟩ := hK.1 ci hc
  obtain ⟨cf, kf, fi', f, hi, hsl⟩ := hS fi hfi
  have hlay := hK.lays (a' := #[]) hc _ (u_in_lay hfi)
  unfold u_lay at hlay
  rw [if_neg (by rw [hfin]; decide)] at hlay
  have hst := (u_facts hfc hkC (u_lays (args := #[]) (hK.lays hc) (fun _ h => h) hfi) hi).1
  have h6 := u_store hfc hkC hkind hlay hi (cY_ok ci hc fi hfi) hn hfit
  have go : ∀ H' : Heap, H'[a]? = some (cell.setSlot f.slot v) → H'.size = H.size → (∀ q, q ≠ a → H'[q]? = H[q]?) → HI Γ G z M' H' := by
    intro H' e1 e2 e3
    rw [hsl] at e1
    exact HI.upd hH e2 e3 hG (t_OB.to (V := updV (fun k => vty (cY ci k) M a k) fi v) ⟨_, e1, q2, q3, t_set q4 hap hfi v⟩ hM) hs
  have hF' : ∀ q ∈ locs ++ [(⟨a, f.slot⟩ : Loc)], Γ.2.2.2.1.size ≤ q.base := t_lc hF hga
  rcases hlk with hl | ⟨host, hl⟩
  · exact W.putK hx hb (f := f) ⟨hown, hK.at hl, ⟨_, _, _, cT_own ci hc fi hfi ▸ hi⟩, hst⟩ (by rw [q2]; exact h6) q1 q3 (by rw [hsl]; exact k2_hasslot (q4 fi hfi)) rfl rfl d fun H' e1 e2 e3 => kk H' _ ls (go H' e1 e2 e3) hF' hL
  · exact va_WputK hx hb (f := f) hown (hK.at hl) (cT_own ci hc fi hfi ▸ hi) hst (by rw [q2]; exact h6) q1 q3 (by rw [hsl]; exact k2_hasslot (q4 fi hfi)) rfl rfl d fun H' e1 e2 e3 => kk H' _ ls (go H' e1 e2 e3) hF' hL
theorem updV_I (M : MM) {ci fi : Nat} (ht : tk (cY ci fi) = 0) (a : Nat) (x : Int32) (j : Nat) : updV (fun k => vty (cY ci k) M a k) fi (.int x) j = vty (cY ci j) (sI M a fi x) a j := by
  by_cases hj : j = fi
  · subst hj
    simp [updV, vty_I ht, sI, up2]
  · simp only [updV, if_neg hj]
    cases cY ci j <;> simp [vty, sI, up2, hj]
theorem updV_L (M : MM) {ci fi : Nat} (ht : tk (cY ci fi) = 1) (a : Nat) (x : Int64) (j : Nat) : updV (fun k => vty (cY ci k) M a k) fi (.long x) j = vty (cY ci j) (sL M a fi x) a j := by
  by_cases hj : j = fi
  · subst hj
    simp [updV, vty_L ht, sL, up2]
  · simp only [updV, if_neg hj]
    cases cY ci j <;> simp [vty, sL, up2, hj]
theorem updV_R (M : MM) {ci fi : Nat} (ht : tk (cY ci fi) = 2) (a : Nat) (x : Value) (j : Nat) : updV (fun k => vty (cY ci k) M a k) fi x j = vty (cY ci j) (sR M a fi x) a j := by
  by_cases hj : j = fi
  · subst hj
    simp [updV, vty_R ht, sR, up2]
  · simp only [updV, if_neg hj]
    cases cY ci j <;> simp [vty, sR, up2, hj]
theorem x_putI (h : Ok Γ E q) {a ci fi idx : Nat} {x : Int32} (hG : G a = some (.inl ci)) (hf : FL q.1.cls idx ci fi) (hty : cY ci fi = .int) (hfin : (cT ci fi).2.2.2 = false) (d : decode q.2.1 pc = .ok (.putfield idx, 3)) (kk : X Γ E k n G z (sI M a fi x) (pc + 3) L st) : X Γ E k n G z M pc L (.int x :: .ref a :: st) :=
  x_put h hG hf hfin (by rw [hty]; rfl) (by rw [hty]; rfl) (fun j _ => updV_I M (by rw [hty]; rfl) a x j) (sI_off M a fi x) d kk
theorem x_putZ (h : Ok Γ E q) {a ci fi idx : Nat} {x : Int32} (hG : G a = some (.inl ci)) (hf : FL q.1.cls idx ci fi) (hty : cY ci fi = .boolean) (hfin : (cT ci fi).2.2.2 = false) (hx : x = 0 ∨ x = 1) (d : decode q.2.1 pc = .ok (.putfield idx, 3)) (kk : X Γ E k n G z (sI M a fi x) (pc + 3) L st) : X Γ E k n G z M pc L (.int x :: .ref a :: st) :=
  x_put h hG hf hfin (by rw [hty]; rcases hx with rfl | rfl <;> rfl) (by rw [hty]; rcases hx with rfl | rfl <;> rfl) (fun j _ => updV_I M (by rw [hty]; rfl) a x j) (sI_off M a fi x) d kk
theorem x_putL (h : Ok Γ E q) {a ci fi idx : Nat} {x : Int64} (hG : G a = some (.inl ci)) (hf : FL q.1.cls idx ci fi) (hty : cY ci fi = .long) (hfin : (cT ci fi).2.2.2 = false) (d : decode q.2.1 pc = .ok (.putfield idx, 3)) (kk : X Γ E k n G z (sL M a fi x) (pc + 3) L st) : X Γ E k n G z M pc L (.long x :: .ref a :: st) :=
  x_put h hG hf hfin (by rw [hty]; rfl) (by rw [hty]; rfl) (fun j _ => updV_L M (by rw [hty]; rfl) a x j) (sL_off M a fi x) d kk
theorem x_putR (h : Ok Γ E q) {a ci fi idx : Nat} {v : Nat} (hG : G a = some (.inl ci)) (hf : FL q.1.cls idx ci fi) (hty : tk (cY ci fi) = 2) (hfin : (cT ci fi).2.2.2 = false) (d : decode q.2.1 pc = .ok (.putfield idx, 3)) (kk : X Γ E k n G z (sR M a fi (.ref v)) (pc + 3) L st) : X Γ E k n G z M pc L (.ref v :: .ref a :: st) :=
  x_put h hG hf hfin (by revert hty; cases cY ci fi <;> intro hty <;> first | rfl | cases hty) (by revert hty; cases cY ci fi <;> intro hty <;> first | rfl | cases hty) (fun j _ => updV_R M hty a (.ref v) j) (sR_off M a fi (.ref v)) d kk
end HROWS
end
section
/-! ===== ROWS: arrays, ends of methods, calls, new cells ===== -/
/-- an int that is the place j of a row of n -/
def ix (i : Int32) (j n : Nat) : Prop := ¬ i < 0 ∧ i.toNatClampNeg = j ∧ j < n
theorem ix.ni {j n : Nat} (h : j < n) (hn : n < 2 ^ 31) : ix (nI j) j n := ⟨nI_pos (by omega), nI_clamp (by omega), h⟩
theorem Ok.ks {Γ : GT} {E : CT} {q : MD} (h : Ok Γ E q) : KS Γ E.1.2.2.1 := h.2.2.2.2.2.2.2.2
theorem HI.arr {Γ : GT} {G : GG} {z : Nat} {M : MM} {H : Heap} (h : HI Γ G z M H) {a n : Nat} {ty : FieldType} (hG : G a = some (.inr (ty, n))) : H[a]? = some (arrV (Γ.2.2.1 ty) n (fun j => vty ty M a j)) := (h.2.2.2 a _ hG).2
theorem ix.ok {i : Int32} {j n : Nat} (h : ix i j n) (c : ClassId) (f : Nat → Value) : ¬ (i < 0 ∨ (arrV c n f).slots.size ≤ i.toNatClampNeg) := by
  obtain ⟨h0, h1, h2⟩ := h
  rw [arrV_size, h1]
  rintro (h | h)
  · exact h0 h
  · omega
theorem ix.rd {i : Int32} {j n : Nat} (h : ix i j n) (c : ClassId) (f : Nat → Value) : (arrV c n f).slots[i.toNatClampNeg]? = some (f j) := by
  obtain ⟨h0, h1, h2⟩ := h
  rw [h1, arrV_read _ _ h2]
theorem arr_st_I (c : ClassId) {ty : FieldType} (ht : tk ty = 0) (M : MM) (a n j : Nat) (x : Int32) : (arrV c n (fun j => vty ty M a j)).setSlot j (.int x) = arrV c n (fun j' => vty ty (sI M a j x) a j') := by
  rw [arrV_store]
  congr 1
  funext i
  by_cases hi : i = j
  · subst hi
    simp [updV, vty_I ht, sI, up2]
  · simp [updV, vty_I ht, sI, up2, hi]
theorem arr_st_L (c : ClassId) {ty : FieldType} (ht : tk ty = 1) (M : MM) (a n j : Nat) (x : Int64) : (arrV c n (fun j => vty ty M a j)).setSlot j (.long x) = arrV c n (fun j' => vty ty (sL M a j x) a j') := by
  rw [arrV_store]
  congr 1
  funext i
  by_cases hi : i = j
  · subst hi
    simp [updV, vty_L ht, sL, up2]
  · simp [updV, vty_L ht, sL, up2, hi]
theorem arr_st_R (c : ClassId) {ty : FieldType} (ht : tk ty = 2) (M : MM) (a n j : Nat) (x : Value) : (arrV c n (fun j => vty ty M a j)).setSlot j x = arrV c n (fun j' => vty ty (sR M a j x) a j') := by
  rw [arrV_store]
  congr 1
  funext i
  by_cases hi : i = j
  · subst hi
    simp [updV, vty_R ht, sR, up2]
  · simp [updV, vty_R ht, sR, up2, hi]
section AROWS
variable {Γ : GT} {E : CT} {q : MD} {k n : Nat} {G : GG} {z : Nat} {M : MM} {pc : Nat} {L : List (Option Value)} {st : List Value}
theorem x_alen (h : Ok Γ E q) {a m : Nat} {ty : FieldType} (hG : G a = some (.inr (ty, m))) (hty : ty ∈ aTys) (d : decode q.2.1 pc = .ok (.arraylength, 1)) (kk : X Γ E k n G z M (pc + 1) L (.int (nI m) :: st)) : X Γ E k n G z M pc L (.ref a :: st) := fun H locs ls hH hF hL =>
  W.alen h.1 h.2.1 (hH.arr hG) ((h.ks.2.1 ty hty).1 _ _) (by rw [arrV_size]; rfl) rfl rfl d (kk H locs ls hH hF hL)
theorem x_iald (h : Ok Γ E q) {a m : Nat} {i : Int32} (j : Nat) (hG : G a = some (.inr (.int, m))) (hi : ix i j m) (d : decode q.2.1 pc = .ok (.iaload, 1)) (kk : X Γ E k n G z M (pc + 1) L (.int (M.1 a j) :: st)) : X Γ E k n G z M pc L (.int i :: .ref a :: st) := fun H locs ls hH hF hL =>
  W.iald h.1 h.2.1 (hH.arr hG) ((h.ks.2.1 .int (by decide)).1 _ _) (fun q => by cases q) (hi.ok _ _) (hi.rd _ _) rfl rfl d (kk H locs ls hH hF hL)
theorem x_cald (h : Ok Γ E q) {a m : Nat} {i : Int32} (j : Nat) (hG : G a = some (.inr (.char, m))) (hi : ix i j m) (d : decode q.2.1 pc = .ok (.caload, 1)) (kk : X Γ E k n G z M (pc + 1) L (.int (M.1 a j) :: st)) : X Γ E k n G z M pc L (.int i :: .ref a :: st) := fun H locs ls hH hF hL =>
  W.cald h.1 h.2.1 (hH.arr hG) ((h.ks.2.1 .char (by decide)).1 _ _) (fun q => by cases q) (hi.ok _ _) (hi.rd _ _) rfl rfl d (kk H locs ls hH hF hL)
theorem x_zald (h : Ok Γ E q) {a m : Nat} {i : Int32} (j : Nat) (hG : G a = some (.inr (.boolean, m))) (hi : ix i j m) (d : decode q.2.1 pc = .ok (.baload, 1)) (kk : X Γ E k n G z M (pc + 1) L (.int (M.1 a j) :: st)) : X Γ E k n G z M pc L (.int i :: .ref a :: st) := fun H locs ls hH hF hL =>
  W.zald h.1 h.2.1 (hH.arr hG) ((h.ks.2.1 .boolean (by decide)).1 _ _) (fun q => by cases q) (hi.ok _ _) (hi.rd _ _) rfl rfl d (kk H locs ls hH hF hL)
theorem x_lald (h : Ok Γ E q) {a m : Nat} {i : Int32} (j : Nat) (hG : G a = some (.inr (.long, m))) (hi : ix i j m) (d : decode q.2.1 pc = .ok (.laload, 1)) (kk : X Γ E k n G z M (pc + 1) L (.long (M.2.1 a j) :: st)) : X Γ E k n G z M pc L (.int i :: .ref a :: st) := fun H locs ls hH hF hL =>
  W.lald h.1 h.2.1 (hH.arr hG) ((h.ks.2.1 .long (by decide)).1 _ _) (fun q => by cases q) (hi.ok _ _) (hi.rd _ _) rfl rfl d (kk H locs ls hH hF hL)
theorem x_aald (h : Ok Γ E q) {a m : Nat} {C : String} {i : Int32} (j : Nat) {v : Value} (hG : G a = some (.inr (.object C, m))) (hty : FieldType.object C ∈ aTys) (hi : ix i j m) (hr : M.2.2 a j = v) (d : decode q.2.1 pc = .ok (.aaload, 1)) (kk : X Γ E k n G z M (pc + 1) L (v :: st)) : X Γ E k n G z M pc L (.int i :: .ref a :: st) := fun H locs ls hH hF hL =>
  W.aald h.1 h.2.1 (hH.arr hG) ((h.ks.2.1 _ hty).1 _ _) rfl (fun q => by cases q) (hi.ok _ _) (by rw [hi.rd _ _]; exact congrArg some hr) rfl rfl d (kk H locs ls hH hF hL)
theorem x_iast (h : Ok Γ E q) {a m : Nat} {i x : Int32} (j : Nat) (hG : G a = some (.inr (.int, m))) (hi : ix i j m) (d : decode q.2.1 pc = .ok (.iastore, 1)) (kk : X Γ E k n G z (sI M a j x) (pc + 1) L st) : X Γ E k n G z M pc L (.int x :: .int i :: .ref a :: st) := fun H locs ls hH hF hL =>
  W.iast h.1 h.2.1 (hH.arr hG) ((h.ks.2.1 .int (by decide)).1 _ _) (fun q => by cases q) (hi.ok _ _) rfl rfl d (fun H' e1 e2 e3 => kk H' _ ls (HI.upd hH e2 e3 hG (by rw [hi.2.1, arr_st_I _ rfl] at e1; exact e1) (sI_off M a j x)) (t_lc hF (hH.2.2.2 a _ hG).1) hL)
theorem x_last (h : Ok Γ E q) {a m : Nat} {i : Int32} {x : Int64} (j : Nat) (hG : G a = some (.inr (.long, m))) (hi : ix i j m) (d : decode q.2.1 pc = .ok (.lastore, 1)) (kk : X Γ E k n G z (sL M a j x) (pc + 1) L st) : X Γ E k n G z M pc L (.long x :: .int i :: .ref a :: st) := fun H locs ls hH hF hL =>
  W.last h.1 h.2.1 (hH.arr hG) ((h.ks.2.1 .long (by decide)).1 _ _) (fun q => by cases q) (hi.ok _ _) rfl rfl d (fun H' e1 e2 e3 => kk H' _ ls (HI.upd hH e2 e3 hG (by rw [hi.2.1, arr_st_L _ rfl] at e1; exact e1) (sL_off M a j x)) (t_lc hF (hH.2.2.2 a _ hG).1) hL)
theorem x_cast (h : Ok Γ E q) {a m : Nat} {i x : Int32} (j : Nat) (hG : G a = some (.inr (.char, m))) (hi : ix i j m) (hn : narrow .char (.int x) = .int x) (d : decode q.2.1 pc = .ok (.castore, 1)) (kk : X Γ E k n G z (sI M a j x) (pc + 1) L st) : X Γ E k n G z M pc L (.int x :: .int i :: .ref a :: st) := fun H locs ls hH hF hL =>
  W.cast h.1 h.2.1 (hH.arr hG) ((h.ks.2.1 .char (by decide)).1 _ _) (fun q => by cases q) (hi.ok _ _) rfl rfl d (fun H' e1 e2 e3 => kk H' _ ls (HI.upd hH e2 e3 hG (by rw [hi.2.1, hn, arr_st_I _ rfl] at e1; exact e1) (sI_off M a j x)) (t_lc hF (hH.2.2.2 a _ hG).1) hL)
theorem x_zast (h : Ok Γ E q) {a m : Nat} {i x : Int32} (j : Nat) (hG : G a = some (.inr (.boolean, m))) (hi : ix i j m) (hx : x = 0 ∨ x = 1) (d : decode q.2.1 pc = .ok (.bastore, 1)) (kk : X Γ E k n G z (sI M a j x) (pc + 1) L st) : X Γ E k n G z M pc L (.int x :: .int i :: .ref a :: st) := fun H locs ls hH hF hL =>
  W.zast h.1 h.2.1 (hH.arr hG) ((h.ks.2.1 .boolean (by decide)).1 _ _) (fun q => by cases q) (hi.ok _ _) rfl rfl d (fun H' e1 e2 e3 => kk H' _ ls (HI.upd hH e2 e3 hG (by rw [hi.2.1, show narrow .boolean (.int x) = .int x by rcases hx with rfl | rfl <;> rfl, arr_st_I _ rfl] at e1; exact e1) (sI_off M a j x)) (t_lc hF (hH.2.2.2 a _ hG).1) hL)
theorem x_aast (h : Ok Γ E q) {a m v ci : Nat} {i : Int32} (j : Nat) (hG : G a = some (.inr (.object (cR ci), m))) (hty : FieldType.object (cR ci) ∈ aTys) (hc : ci < 13) (hv : G v = some (.inl ci)) (hi : ix i j m) (d : decode q.2.1 pc = .ok (.aastore, 1)) (kk : X Γ E k n G z (sR M a j (.ref v)) (pc + 1) L st) : X Γ E k n G z M pc L (.ref v :: .int i :: .ref a :: st) := fun H locs ls hH hF hL => by
  obtain ⟨cellV, g1, g2, g3, -⟩ := (hH.2.2.2 v _ hv).2
  have hcls := (h.ks.1 ci hc).2
  obtain ⟨kA, comp, k1, k2, k3, -⟩ := (h.ks.2.1 _ hty).2
  have hcomp : comp = Γ.2.1.1 ci := Option.some.inj (k3.symm.trans hcls.1)
  subst hcomp
  obtain ⟨kC, hkC, -⟩ := hcls.2
  exact W.aast h.1 h.2.1 (hH.arr hG) (fun q h => by cases h) (fun h => by cases h) k1 k2 rfl hkC ⟨hi.1, by rw [arrV_size, hi.2.1]; exact hi.2.2⟩ g1 (fun q h => by rw [g3] at h; cases h) (by rw [g2]; exact hkC) (by rw [g2]; exact va_assign hcls) rfl rfl d (fun H' e1 e2 e3 => kk H' _ ls (HI.upd hH e2 e3 hG (by rw [hi.2.1, arr_st_R _ rfl] at e1; exact e1) (sR_off M a j (.ref v))) (t_lc hF (hH.2.2.2 a _ hG).1) hL)
/-! ends -/
theorem x_iret (h : Ok Γ E q) {P : PG} (hQ : RQ Γ E P k n) {v : Int32} (hr : q.2.2.2.1 = some .int) (d : decode q.2.1 pc = .ok (.ireturn, 1)) (hp : P (some (.int v)) G z M) : X Γ E k n G z M pc L [.int v] := fun H locs ls hH hF hL => by
  rw [hQ]
  exact W.iret h.1 h.2.1 (h.2.2.2.1.trans hr) (fun t ht _ => ⟨_, _, _, _, rfl, hp, by rw [ht]; exact hH⟩) hF d h.2.2.2.2.2.2.1
theorem x_zret (h : Ok Γ E q) {P : PG} (hQ : RQ Γ E P k n) {v : Int32} (hr : q.2.2.2.1 = some .boolean) (hv : v = 0 ∨ v = 1) (d : decode q.2.1 pc = .ok (.ireturn, 1)) (hp : P (some (.int v)) G z M) : X Γ E k n G z M pc L [.int v] := fun H locs ls hH hF hL => by
  rw [hQ]
  exact W.zret h.1 h.2.1 (h.2.2.2.1.trans hr) (by rcases hv with rfl | rfl <;> rfl) (fun t ht _ => ⟨_, _, _, _, rfl, hp, by rw [ht]; exact hH⟩) hF d h.2.2.2.2.2.2.1
theorem x_lret (h : Ok Γ E q) {P : PG} (hQ : RQ Γ E P k n) {v : Int64} (hr : q.2.2.2.1 = some .long) (d : decode q.2.1 pc = .ok (.lreturn, 1)) (hp : P (some (.long v)) G z M) : X Γ E k n G z M pc L [.long v] := fun H locs ls hH hF hL => by
  rw [hQ]
  exact W.lret h.1 h.2.1 (h.2.2.2.1.trans hr) (fun t ht _ => ⟨_, _, _, _, rfl, hp, by rw [ht]; exact hH⟩) hF d h.2.2.2.2.2.2.1
theorem x_vret (h : Ok Γ E q) {P : PG} (hQ : RQ Γ E P k n) (hr : q.2.2.2.1 = none) (d : decode q.2.1 pc = .ok (.return_, 1)) (hp : P none G z M) : X Γ E k n G z M pc L [] := fun H locs ls hH hF hL => by
  rw [hQ]
  exact W.vret h.1 h.2.1 (h.2.2.2.1.trans hr) (fun t ht _ => ⟨_, _, _, _, rfl, hp, by rw [ht]; exact hH⟩) hF d h.2.2.2.2.2.2.1
theorem x_aret (h : Ok Γ E q) {P : PG} (hQ : RQ Γ E P k n) {a : Nat} {rt : FieldType} (hr : q.2.2.2.1 = some rt) (ht : tk rt = 2) (d : decode q.2.1 pc = .ok (.areturn, 1)) (hp : P (some (.ref a)) G z M) : X Γ E k n G z M pc L [.ref a] := fun H locs ls hH hF hL => by
  rw [hQ]
  exact W.aret h.1 h.2.1 (h.2.2.2.1.trans hr) (by revert ht; cases rt <;> intro ht <;> first | exact Or.inl ⟨_, rfl⟩ | exact Or.inr ⟨_, rfl⟩ | cases ht) (Or.inr ⟨a, rfl⟩) (fun t ht _ => ⟨_, _, _, _, rfl, hp, by rw [ht]; exact hH⟩) hF d h.2.2.2.2.2.2.1
end AROWS
/-! ===== calls ===== -/
/-- what the tables say of a callee -/
def CI (q' : MD) (na : Nat) : Prop := KW (.code q'.1 q'.2.1 q'.2.2.1 q'.2.2.2.1) ∧ KW (.initialized q'.1.cls) ∧ (q'.1.cls ≠ "java/lang/invoke/MethodHandle" ∧ q'.1.cls ≠ "java/lang/invoke/VarHandle") ∧ (parseMethodDescriptor q'.1.desc).map (fun d => d.parameters.length) = some na
def IM (q' : MD) : Prop := KW (.instanceMethod q'.1) ∧ KW (.selects q'.1.cls q'.1 q'.1)
def LK (own : String) (idx : Nat) (q' : MD) : Prop := KW (.methodLink own idx q'.1) ∨ ∃ host, KW (.methodLinkNest own idx q'.1 host)
abbrev RM (q q' : MD) : Prop := q'.2.2.2.2.frames + 1 ≤ q.2.2.2.2.frames ∧ 8 + (q'.2.2.1 + 11) + q'.2.2.2.2.locals ≤ q.2.2.2.2.locals
section CROWS
variable {Γ : GT} {E : CT} {q : MD} {k n : Nat} {G : GG} {z : Nat} {M : MM} {pc : Nat} {L : List (Option Value)} {st : List Value}
theorem blind (Γ : GT) (as : List Value) (G : GG) (z : Nat) (M : MM) : FrameBlind (fun av U => av = as.toArray ∧ KS Γ U ∧ HI Γ G z M U.heap) := by
  intro a U g mk h
  exact ⟨h.1, h.2.1.same (U := U.calling g mk a) rfl, h.2.2⟩
/-- what comes behind a call -/
theorem x_behind {q' : MD} {as rest : List Value} {P : PG} {mc ms : Nat} {H : Heap} {locs : List Loc} {ls : Array Slot} (hF : ∀ q ∈ locs, Γ.2.2.2.1.size ≤ q.base) (hL : PL ls L)
    (run : va_Run E.1.1 Γ.1 E.1.2.1 E.2.2.1 E.1.2.2.1 E.1.2.2.2 E.2.1.1 E.2.1.2.1 E.2.1.2.2.1 E.2.1.2.2.2 H locs k n mc ms (F0 E.1.2.2.2 pc ls st) rest (QcOf Γ P as.toArray) (fun p => Γ.2.2.2.1.size ≤ p))
    (kk : ∀ (r : Option Value) (G' : GG) (z' : Nat) (M' : MM), P r G' z' M' → X Γ E (k + mc) (n + ms) G' z' M' (pc + 3) L (r.toList ++ rest)) :
    W E.1.1 Γ.1 E.1.2.1 E.2.2.1 E.1.2.2.1 E.1.2.2.2 E.2.1.1 E.2.1.2.1 E.2.1.2.2.1 E.2.1.2.2.2 H locs k n E.2.2.2 (F0 E.1.2.2.2 pc ls st) := by
  intro T hT Xs
  obtain ⟨v, st₀, t, T', Lc, h0, X', hLc, e1, e2, hq, stp⟩ := run T hT Xs
  obtain ⟨r, G', z', M', hv, hP, hHI⟩ := hq
  cases hv
  obtain ⟨t2, a1, b1⟩ := kk _ G' z' M' hP t.heap (locs ++ Lc) ls hHI (t_lL hF hLc) hL T' e1 X'
  exact ⟨t2, stp t2 a1, b1⟩
theorem callB' (h : Ok Γ E q) {q' : MD} {na mc ms : Nat} (ci : CI q' na) (hR : RM q q') (hrc : q'.2.2.2.2.cells = mc) (hrs : q'.2.2.2.2.slots = ms) :
    (q'.2.2.2.2.cells = mc ∧ q'.2.2.2.2.slots = ms ∧ q'.2.2.2.2.frames + 1 ≤ E.2.2.1.frames ∧ 8 + (q'.2.2.1 + 11) + q'.2.2.2.2.locals ≤ E.2.2.1.locals ∧ (∀ w ∈ [Cond.code q'.1 q'.2.1 q'.2.2.1 q'.2.2.2.1], ∀ (a' : Array Value) (U : State), E.1.2.2.1.WarmedH U.vm → w.before a' U = true) ∧ Cond.code q'.1 q'.2.1 q'.2.2.1 q'.2.2.2.1 ∈ [Cond.code q'.1 q'.2.1 q'.2.2.1 q'.2.2.2.1]) ∧
    (Cond.code q'.1 q'.2.1 q'.2.2.1 q'.2.2.2.1).before E.2.1.1 E.1.2.2.1 = true ∧ (Cond.initialized q'.1.cls).before E.2.1.1 E.1.2.2.1 = true ∧ (q'.1.cls ≠ "java/lang/invoke/MethodHandle" ∧ q'.1.cls ≠ "java/lang/invoke/VarHandle") ∧ (∀ sig, parseMethodDescriptor q'.1.desc = some sig → na = sig.parameters.length) := by
  obtain ⟨c1, c2, c3, c4⟩ := ci
  refine ⟨⟨hrc, hrs, by rw [h.2.2.2.2.1]; exact hR.1, by rw [h.2.2.2.2.1]; exact hR.2, fun w hw a' U hU => ?_, List.mem_singleton_self _⟩, h.ks.at c1, h.ks.at c2, c3, fun sig hs => ?_⟩
  · rw [List.mem_singleton] at hw
    subst hw
    exact h.ks.word c1 hU
  · rw [hs] at c4
    exact (Option.some.inj c4).symm
theorem x_invV (h : Ok Γ E q) {q' : MD} {na idx mc ms b cb : Nat} {As rest : List Value} {P : PG} (ci : CI q' na) (im : IM q') (lk : LK q.1.cls idx q') (hR : RM q q') (hrc : q'.2.2.2.2.cells = mc) (hrs : q'.2.2.2.2.slots = ms) (hk : k + mc ≤ q.2.2.2.2.cells ∧ n + ms ≤ q.2.2.2.2.slots)
    (hc : CallsG Γ q' (.ref b :: As) G z M P mc ms) (hn : As.length = na) (hst : st = As.reverse ++ .ref b :: rest) (hW : Nat.ble ((rest.map fun v => v.category).sum) 8 = true) (hLn : L.length = q.2.2.1) (hb : G b = some (.inl cb)) (hcb : cb < 13) (hcl : cR cb = q'.1.cls)
    (d : decode q.2.1 pc = .ok (.invokevirtual idx, 3)) (kk : ∀ (r : Option Value) (G' : GG) (z' : Nat) (M' : MM), P r G' z' M' → X Γ E (k + mc) (n + ms) G' z' M' (pc + 3) L (r.toList ++ rest)) : X Γ E k n G z M pc L st := fun H locs ls hH hF hL => by
  subst hst
  have hB := callB' h ci hR hrc hrs
  obtain ⟨cellB, g1, g2, g3, -⟩ := (hH.2.2.2 b _ hb).2
  have hpre : PreV E.1.2.2.1 H q'.1.cls b (fun av U => av = (Value.ref b :: As).toArray ∧ KS Γ U ∧ HI Γ G z M U.heap) As :=
    ⟨blind Γ _ G z M, ⟨cellB, g1, by rw [g3]; rfl, by rw [g2, ← hcl]; exact (h.ks.1 cb hcb).2.1⟩, fun U hU hWm => ⟨rfl, h.ks.warm hWm, by rw [hU]; exact hH⟩⟩
  have hS : CallFix E.1.1 E.1.2.2.2 E.2.1.2.2.2 q.2.1 q.2.2.1 E.1.2.2.1 E.2.1.1 [] q.1.cls := ⟨h.1, h.2.1, h.2.2.1, h.2.2.2.2.2.1, fun w hw => by cases hw⟩
  have hk' : k + mc ≤ E.2.2.1.cells ∧ n + ms ≤ E.2.2.1.slots := by rw [h.2.2.2.2.1]; exact hk
  rcases lk with hl | ⟨host, hl⟩
  · exact x_behind (q' := q') (as := Value.ref b :: As) hF hL (va_runV (C := q'.1.cls) hS hc ⟨⟨hB.1.1, hB.1.2.1, hB.1.2.2.1, hB.1.2.2.2.1, hB.1.2.2.2.2.1, hB.1.2.2.2.2.2, hB.2.1, hB.2.2.1, hB.2.2.2.1, hB.2.2.2.2, h.ks.at hl⟩, h.ks.at im.1, h.ks.at im.2⟩ hpre rfl hn (by rw [hL.1]; exact hLn) rfl (lv_room (Nat.le_of_ble_eq_true hW)) d hk') kk
  · exact x_behind (q' := q') (as := Value.ref b :: As) hF hL (va_runVN (C := q'.1.cls) hS hc ⟨⟨hB.1, hB.2.1, hB.2.2.1, hB.2.2.2.1, hB.2.2.2.2, h.ks.at hl⟩, h.ks.at im.1, h.ks.at im.2⟩ hpre rfl hn (by rw [hL.1]; exact hLn) rfl (lv_room (Nat.le_of_ble_eq_true hW)) d hk') kk
theorem x_invS (h : Ok Γ E q) {q' : MD} {na idx mc ms : Nat} {As rest : List Value} {P : PG} (ci : CI q' na) (sm : KW (.static q'.1)) (lk : LK q.1.cls idx q') (hR : RM q q') (hrc : q'.2.2.2.2.cells = mc) (hrs : q'.2.2.2.2.slots = ms) (hk : k + mc ≤ q.2.2.2.2.cells ∧ n + ms ≤ q.2.2.2.2.slots)
    (hc : CallsG Γ q' As G z M P mc ms) (hn : As.length = na) (hst : st = As.reverse ++ rest) (hW : Nat.ble ((rest.map fun v => v.category).sum) 8 = true) (hLn : L.length = q.2.2.1)
    (d : decode q.2.1 pc = .ok (.invokestatic idx, 3)) (kk : ∀ (r : Option Value) (G' : GG) (z' : Nat) (M' : MM), P r G' z' M' → X Γ E (k + mc) (n + ms) G' z' M' (pc + 3) L (r.toList ++ rest)) : X Γ E k n G z M pc L st := fun H locs ls hH hF hL => by
  subst hst
  have hB := callB' h ci hR hrc hrs
  have hpre : PreS E.1.2.2.1 H (fun av U => av = As.toArray ∧ KS Γ U ∧ HI Γ G z M U.heap) As := ⟨blind Γ _ G z M, fun U hU hWm => ⟨rfl, h.ks.warm hWm, by rw [hU]; exact hH⟩⟩
  have hS : CallFix E.1.1 E.1.2.2.2 E.2.1.2.2.2 q.2.1 q.2.2.1 E.1.2.2.1 E.2.1.1 [] q.1.cls := ⟨h.1, h.2.1, h.2.2.1, h.2.2.2.2.2.1, fun w hw => by cases hw⟩
  have hk' : k + mc ≤ E.2.2.1.cells ∧ n + ms ≤ E.2.2.1.slots := by rw [h.2.2.2.2.1]; exact hk
  rcases lk with hl | ⟨host, hl⟩
  · exact x_behind (q' := q') (as := As) hF hL (va_runS hS hc ⟨⟨hB.1.1, hB.1.2.1, hB.1.2.2.1, hB.1.2.2.2.1, hB.1.2.2.2.2.1, hB.1.2.2.2.2.2, hB.2.1, hB.2.2.1, hB.2.2.2.1, hB.2.2.2.2, h.ks.at hl⟩, h.ks.at sm⟩ hpre rfl hn (by rw [hL.1]; exact hLn) rfl (lv_room (Nat.le_of_ble_eq_true hW)) d hk') kk
  · exact x_behind (q' := q') (as := As) hF hL (va_runSN hS hc ⟨⟨hB.1, hB.2.1, hB.2.2.1, hB.2.2.2.1, hB.2.2.2.2, h.ks.at hl⟩, h.ks.at sm, trivial⟩ hpre rfl hn (by rw [hL.1]; exact hLn) rfl (lv_room (Nat.le_of_ble_eq_true hW)) d hk') kk
theorem x_invI (h : Ok Γ E q) {q' : MD} {na idx mc ms b : Nat} {As rest : List Value} {P : PG} (ci : CI q' na) (im : KW (.instanceMethod q'.1)) (hini : q'.1.name = "<init>") (hret : q'.2.2.2.1 = none) (lk : LK q.1.cls idx q') (hR : RM q q') (hrc : q'.2.2.2.2.cells = mc) (hrs : q'.2.2.2.2.slots = ms) (hk : k + mc ≤ q.2.2.2.2.cells ∧ n + ms ≤ q.2.2.2.2.slots)
    (hc : CallsG Γ q' (.ref b :: As) G z M P mc ms) (hn : As.length = na) (hst : st = As.reverse ++ .ref b :: rest) (hW : Nat.ble ((rest.map fun v => v.category).sum) 8 = true) (hLn : L.length = q.2.2.1)
    (d : decode q.2.1 pc = .ok (.invokespecial idx, 3)) (kk : ∀ (r : Option Value) (G' : GG) (z' : Nat) (M' : MM), P r G' z' M' → X Γ E (k + mc) (n + ms) G' z' M' (pc + 3) L (r.toList ++ rest)) : X Γ E k n G z M pc L st := fun H locs ls hH hF hL => by
  subst hst
  obtain ⟨y, cc, mL, ret, rm⟩ := q'
  simp only at hret
  subst hret
  have hB := callB' h ci hR hrc hrs
  have hpre : PreS E.1.2.2.1 H (fun av U => av = (Value.ref b :: As).toArray ∧ KS Γ U ∧ HI Γ G z M U.heap) (.ref b :: As) := ⟨blind Γ _ G z M, fun U hU hWm => ⟨rfl, h.ks.warm hWm, by rw [hU]; exact hH⟩⟩
  have hS : CallFix E.1.1 E.1.2.2.2 E.2.1.2.2.2 q.2.1 q.2.2.1 E.1.2.2.1 E.2.1.1 [] q.1.cls := ⟨h.1, h.2.1, h.2.2.1, h.2.2.2.2.2.1, fun w hw => by cases hw⟩
  have hk' : k + mc ≤ E.2.2.1.cells ∧ n + ms ≤ E.2.2.1.slots := by rw [h.2.2.2.2.1]; exact hk
  rcases lk with hl | ⟨host, hl⟩
  · exact x_behind (q' := (y, cc, mL, none, rm)) (as := Value.ref b :: As) hF hL (va_runI hS hc ⟨⟨hB.1.1, hB.1.2.1, hB.1.2.2.1, hB.1.2.2.2.1, hB.1.2.2.2.2.1, hB.1.2.2.2.2.2, hB.2.1, hB.2.2.1, hB.2.2.2.1, hB.2.2.2.2, h.ks.at hl⟩, hini, h.ks.at im⟩ hpre rfl hn (by rw [hL.1]; exact hLn) rfl (lv_room (Nat.le_of_ble_eq_true hW)) d hk') kk
  · exact x_behind (q' := (y, cc, mL, none, rm)) (as := Value.ref b :: As) hF hL (va_runIN hS hc ⟨⟨hB.1, hB.2.1, hB.2.2.1, hB.2.2.2.1, hB.2.2.2.2, h.ks.at hl⟩, hini, h.ks.at im⟩ hpre rfl hn (by rw [hL.1]; exact hLn) rfl (lv_room (Nat.le_of_ble_eq_true hW)) d hk') kk
end CROWS
end
