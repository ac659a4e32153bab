section
-- ===== PART A: goes FIRST, ahead of the names: the tables' words, and 'selects' of the private methods out of them =====
/-- a private method of a class that the tables say can be made, by its rows of tables_1 -/
def lw_okq (q : MethodName × Nat) : Prop := (q.1.cls ≠ "java/lang/invoke/MethodHandle" ∧ q.1.cls ≠ "java/lang/invoke/VarHandle") ∧ Cond.instantiable q.1.cls q.2 ∈ tables_1 ∧ Cond.privateMethod q.1 ∈ tables_1 ∧ Cond.instanceMethod q.1 ∈ tables_1
theorem lw_p0 : lw_okq (⟨"RenameGraph", "reread", "()V"⟩, 6) := ⟨⟨by decide +kernel, by decide +kernel⟩, List.mem_of_getElem? (i := 13) (by decide +kernel), List.mem_of_getElem? (i := 213) (by decide +kernel), List.mem_of_getElem? (i := 214) (by decide +kernel)⟩
theorem lw_p1 : lw_okq (⟨"RenameGraph$Tree", "begin", "()V"⟩, 16) := ⟨⟨by decide +kernel, by decide +kernel⟩, List.mem_of_getElem? (i := 54) (by decide +kernel), List.mem_of_getElem? (i := 221) (by decide +kernel), List.mem_of_getElem? (i := 222) (by decide +kernel)⟩
theorem lw_p2 : lw_okq (⟨"RenameGraph$Tree", "openText", "()V"⟩, 16) := ⟨⟨by decide +kernel, by decide +kernel⟩, List.mem_of_getElem? (i := 54) (by decide +kernel), List.mem_of_getElem? (i := 225) (by decide +kernel), List.mem_of_getElem? (i := 226) (by decide +kernel)⟩
theorem lw_p3 : lw_okq (⟨"RenameGraph$Tree", "addScope", "(I)V"⟩, 16) := ⟨⟨by decide +kernel, by decide +kernel⟩, List.mem_of_getElem? (i := 54) (by decide +kernel), List.mem_of_getElem? (i := 229) (by decide +kernel), List.mem_of_getElem? (i := 230) (by decide +kernel)⟩
theorem lw_p4 : lw_okq (⟨"RenameGraph$Tree", "goesOn", "(II)Z"⟩, 16) := ⟨⟨by decide +kernel, by decide +kernel⟩, List.mem_of_getElem? (i := 54) (by decide +kernel), List.mem_of_getElem? (i := 233) (by decide +kernel), List.mem_of_getElem? (i := 234) (by decide +kernel)⟩
theorem lw_p5 : lw_okq (⟨"RenameGraph$Tree", "beginsExtension", "(I)Z"⟩, 16) := ⟨⟨by decide +kernel, by decide +kernel⟩, List.mem_of_getElem? (i := 54) (by decide +kernel), List.mem_of_getElem? (i := 237) (by decide +kernel), List.mem_of_getElem? (i := 238) (by decide +kernel)⟩
theorem lw_p6 : lw_okq (⟨"RenameGraph$Tree", "beginsItem", "(II)Z"⟩, 16) := ⟨⟨by decide +kernel, by decide +kernel⟩, List.mem_of_getElem? (i := 54) (by decide +kernel), List.mem_of_getElem? (i := 241) (by decide +kernel), List.mem_of_getElem? (i := 242) (by decide +kernel)⟩
theorem lw_p7 : lw_okq (⟨"RenameGraph$Tree", "open", "()Z"⟩, 16) := ⟨⟨by decide +kernel, by decide +kernel⟩, List.mem_of_getElem? (i := 54) (by decide +kernel), List.mem_of_getElem? (i := 245) (by decide +kernel), List.mem_of_getElem? (i := 246) (by decide +kernel)⟩
theorem lw_p8 : lw_okq (⟨"RenameGraph$Tree", "close", "()Z"⟩, 16) := ⟨⟨by decide +kernel, by decide +kernel⟩, List.mem_of_getElem? (i := 54) (by decide +kernel), List.mem_of_getElem? (i := 249) (by decide +kernel), List.mem_of_getElem? (i := 250) (by decide +kernel)⟩
theorem lw_p9 : lw_okq (⟨"RenameGraph$Tree", "endsUse", "(II)Z"⟩, 16) := ⟨⟨by decide +kernel, by decide +kernel⟩, List.mem_of_getElem? (i := 54) (by decide +kernel), List.mem_of_getElem? (i := 253) (by decide +kernel), List.mem_of_getElem? (i := 254) (by decide +kernel)⟩
theorem lw_p10 : lw_okq (⟨"RenameGraph$Tree", "addNode", "(ZIII)Z"⟩, 16) := ⟨⟨by decide +kernel, by decide +kernel⟩, List.mem_of_getElem? (i := 54) (by decide +kernel), List.mem_of_getElem? (i := 260) (by decide +kernel), List.mem_of_getElem? (i := 261) (by decide +kernel)⟩
theorem lw_p11 : lw_okq (⟨"RenameGraph$Tree", "extend", "(I)Z"⟩, 16) := ⟨⟨by decide +kernel, by decide +kernel⟩, List.mem_of_getElem? (i := 54) (by decide +kernel), List.mem_of_getElem? (i := 264) (by decide +kernel), List.mem_of_getElem? (i := 265) (by decide +kernel)⟩
theorem lw_p12 : lw_okq (⟨"RenameGraph$Tree", "declare", "(II)Z"⟩, 16) := ⟨⟨by decide +kernel, by decide +kernel⟩, List.mem_of_getElem? (i := 54) (by decide +kernel), List.mem_of_getElem? (i := 268) (by decide +kernel), List.mem_of_getElem? (i := 269) (by decide +kernel)⟩
theorem lw_p13 : lw_okq (⟨"RenameGraph$Tree", "goesFartherOut", "(I)Z"⟩, 16) := ⟨⟨by decide +kernel, by decide +kernel⟩, List.mem_of_getElem? (i := 54) (by decide +kernel), List.mem_of_getElem? (i := 272) (by decide +kernel), List.mem_of_getElem? (i := 273) (by decide +kernel)⟩
theorem lw_p14 : lw_okq (⟨"RenameGraph$Names", "inherit", "()V"⟩, 6) := ⟨⟨by decide +kernel, by decide +kernel⟩, List.mem_of_getElem? (i := 131) (by decide +kernel), List.mem_of_getElem? (i := 290) (by decide +kernel), List.mem_of_getElem? (i := 291) (by decide +kernel)⟩
theorem lw_p15 : lw_okq (⟨"RenameGraph$Names", "join", "(J)V"⟩, 6) := ⟨⟨by decide +kernel, by decide +kernel⟩, List.mem_of_getElem? (i := 131) (by decide +kernel), List.mem_of_getElem? (i := 306) (by decide +kernel), List.mem_of_getElem? (i := 307) (by decide +kernel)⟩
def lw_privs_1 : List (MethodName × Nat) := [(⟨"RenameGraph", "reread", "()V"⟩, 6), (⟨"RenameGraph$Tree", "begin", "()V"⟩, 16), (⟨"RenameGraph$Tree", "openText", "()V"⟩, 16), (⟨"RenameGraph$Tree", "addScope", "(I)V"⟩, 16), (⟨"RenameGraph$Tree", "goesOn", "(II)Z"⟩, 16), (⟨"RenameGraph$Tree", "beginsExtension", "(I)Z"⟩, 16), (⟨"RenameGraph$Tree", "beginsItem", "(II)Z"⟩, 16), (⟨"RenameGraph$Tree", "open", "()Z"⟩, 16), (⟨"RenameGraph$Tree", "close", "()Z"⟩, 16), (⟨"RenameGraph$Tree", "endsUse", "(II)Z"⟩, 16), (⟨"RenameGraph$Tree", "addNode", "(ZIII)Z"⟩, 16), (⟨"RenameGraph$Tree", "extend", "(I)Z"⟩, 16), (⟨"RenameGraph$Tree", "declare", "(II)Z"⟩, 16), (⟨"RenameGraph$Tree", "goesFartherOut", "(I)Z"⟩, 16), (⟨"RenameGraph$Names", "inherit", "()V"⟩, 6), (⟨"RenameGraph$Names", "join", "(J)V"⟩, 6)]
theorem lw_r1 : ∀ q ∈ lw_privs_1, lw_okq q := List.forall_mem_cons.mpr ⟨lw_p0, List.forall_mem_cons.mpr ⟨lw_p1, List.forall_mem_cons.mpr ⟨lw_p2, List.forall_mem_cons.mpr ⟨lw_p3, List.forall_mem_cons.mpr ⟨lw_p4, List.forall_mem_cons.mpr ⟨lw_p5, List.forall_mem_cons.mpr ⟨lw_p6, List.forall_mem_cons.mpr ⟨lw_p7, List.forall_mem_cons.mpr ⟨lw_p8, List.forall_mem_cons.mpr ⟨lw_p9, List.forall_mem_cons.mpr ⟨lw_p10, List.forall_mem_cons.mpr ⟨lw_p11, List.forall_mem_cons.mpr ⟨lw_p12, List.forall_mem_cons.mpr ⟨lw_p13, List.forall_mem_cons.mpr ⟨lw_p14, List.forall_mem_cons.mpr ⟨lw_p15, fun _ h => absurd h List.not_mem_nil⟩⟩⟩⟩⟩⟩⟩⟩⟩⟩⟩⟩⟩⟩⟩⟩
theorem lw_p16 : lw_okq (⟨"RenameGraph", "textWasTold", "()V"⟩, 6) := ⟨⟨by decide +kernel, by decide +kernel⟩, List.mem_of_getElem? (i := 13) (by decide +kernel), List.mem_of_getElem? (i := 340) (by decide +kernel), List.mem_of_getElem? (i := 341) (by decide +kernel)⟩
theorem lw_p17 : lw_okq (⟨"RenameGraph", "found", "(I)I"⟩, 6) := ⟨⟨by decide +kernel, by decide +kernel⟩, List.mem_of_getElem? (i := 13) (by decide +kernel), List.mem_of_getElem? (i := 363) (by decide +kernel), List.mem_of_getElem? (i := 364) (by decide +kernel)⟩
theorem lw_p18 : lw_okq (⟨"RenameGraph", "isNode", "(I)Z"⟩, 6) := ⟨⟨by decide +kernel, by decide +kernel⟩, List.mem_of_getElem? (i := 13) (by decide +kernel), List.mem_of_getElem? (i := 383) (by decide +kernel), List.mem_of_getElem? (i := 384) (by decide +kernel)⟩
theorem lw_p19 : lw_okq (⟨"RenameGraph", "isScope", "(I)Z"⟩, 6) := ⟨⟨by decide +kernel, by decide +kernel⟩, List.mem_of_getElem? (i := 13) (by decide +kernel), List.mem_of_getElem? (i := 391) (by decide +kernel), List.mem_of_getElem? (i := 392) (by decide +kernel)⟩
theorem lw_p20 : lw_okq (⟨"RenameGraph", "refusalOfDeclaration", "(I)I"⟩, 6) := ⟨⟨by decide +kernel, by decide +kernel⟩, List.mem_of_getElem? (i := 13) (by decide +kernel), List.mem_of_getElem? (i := 412) (by decide +kernel), List.mem_of_getElem? (i := 413) (by decide +kernel)⟩
theorem lw_p21 : lw_okq (⟨"RenameGraph", "refusalOfChange", "(IIII)I"⟩, 6) := ⟨⟨by decide +kernel, by decide +kernel⟩, List.mem_of_getElem? (i := 13) (by decide +kernel), List.mem_of_getElem? (i := 446) (by decide +kernel), List.mem_of_getElem? (i := 447) (by decide +kernel)⟩
theorem lw_p22 : lw_okq (⟨"RenameGraph$Renamer", "pushAway", "(I)Z"⟩, 4) := ⟨⟨by decide +kernel, by decide +kernel⟩, List.mem_of_getElem? (i := 166) (by decide +kernel), List.mem_of_getElem? (i := 462) (by decide +kernel), List.mem_of_getElem? (i := 463) (by decide +kernel)⟩
theorem lw_p23 : lw_okq (⟨"RenameGraph$Renamer", "spareLetter", "()I"⟩, 4) := ⟨⟨by decide +kernel, by decide +kernel⟩, List.mem_of_getElem? (i := 166) (by decide +kernel), List.mem_of_getElem? (i := 466) (by decide +kernel), List.mem_of_getElem? (i := 467) (by decide +kernel)⟩
theorem lw_p24 : lw_okq (⟨"RenameGraph$Renamer", "giveName", "(II)V"⟩, 4) := ⟨⟨by decide +kernel, by decide +kernel⟩, List.mem_of_getElem? (i := 166) (by decide +kernel), List.mem_of_getElem? (i := 470) (by decide +kernel), List.mem_of_getElem? (i := 471) (by decide +kernel)⟩
theorem lw_p25 : lw_okq (⟨"RenameGraph$Renamer", "repairOuts", "()V"⟩, 4) := ⟨⟨by decide +kernel, by decide +kernel⟩, List.mem_of_getElem? (i := 166) (by decide +kernel), List.mem_of_getElem? (i := 476) (by decide +kernel), List.mem_of_getElem? (i := 477) (by decide +kernel)⟩
theorem lw_p26 : lw_okq (⟨"RenameGraph$Renamer", "leastOuts", "(I)I"⟩, 4) := ⟨⟨by decide +kernel, by decide +kernel⟩, List.mem_of_getElem? (i := 166) (by decide +kernel), List.mem_of_getElem? (i := 480) (by decide +kernel), List.mem_of_getElem? (i := 481) (by decide +kernel)⟩
theorem lw_p27 : lw_okq (⟨"RenameGraph$Renamer", "isWell", "()Z"⟩, 4) := ⟨⟨by decide +kernel, by decide +kernel⟩, List.mem_of_getElem? (i := 166) (by decide +kernel), List.mem_of_getElem? (i := 485) (by decide +kernel), List.mem_of_getElem? (i := 486) (by decide +kernel)⟩
theorem lw_p28 : lw_okq (⟨"RenameGraph$Renamer", "firstRebound", "()I"⟩, 4) := ⟨⟨by decide +kernel, by decide +kernel⟩, List.mem_of_getElem? (i := 166) (by decide +kernel), List.mem_of_getElem? (i := 489) (by decide +kernel), List.mem_of_getElem? (i := 490) (by decide +kernel)⟩
theorem lw_p29 : lw_okq (⟨"RenameGraph$Renamer", "sameFamilies", "()Z"⟩, 4) := ⟨⟨by decide +kernel, by decide +kernel⟩, List.mem_of_getElem? (i := 166) (by decide +kernel), List.mem_of_getElem? (i := 494) (by decide +kernel), List.mem_of_getElem? (i := 495) (by decide +kernel)⟩
theorem lw_p30 : lw_okq (⟨"RenameGraph$Renamer", "outsAdded", "()I"⟩, 4) := ⟨⟨by decide +kernel, by decide +kernel⟩, List.mem_of_getElem? (i := 166) (by decide +kernel), List.mem_of_getElem? (i := 498) (by decide +kernel), List.mem_of_getElem? (i := 499) (by decide +kernel)⟩
theorem lw_p31 : lw_okq (⟨"RenameGraph$Renamer", "editsMade", "()I"⟩, 4) := ⟨⟨by decide +kernel, by decide +kernel⟩, List.mem_of_getElem? (i := 166) (by decide +kernel), List.mem_of_getElem? (i := 502) (by decide +kernel), List.mem_of_getElem? (i := 503) (by decide +kernel)⟩
def lw_privs_2 : List (MethodName × Nat) := [(⟨"RenameGraph", "textWasTold", "()V"⟩, 6), (⟨"RenameGraph", "found", "(I)I"⟩, 6), (⟨"RenameGraph", "isNode", "(I)Z"⟩, 6), (⟨"RenameGraph", "isScope", "(I)Z"⟩, 6), (⟨"RenameGraph", "refusalOfDeclaration", "(I)I"⟩, 6), (⟨"RenameGraph", "refusalOfChange", "(IIII)I"⟩, 6), (⟨"RenameGraph$Renamer", "pushAway", "(I)Z"⟩, 4), (⟨"RenameGraph$Renamer", "spareLetter", "()I"⟩, 4), (⟨"RenameGraph$Renamer", "giveName", "(II)V"⟩, 4), (⟨"RenameGraph$Renamer", "repairOuts", "()V"⟩, 4), (⟨"RenameGraph$Renamer", "leastOuts", "(I)I"⟩, 4), (⟨"RenameGraph$Renamer", "isWell", "()Z"⟩, 4), (⟨"RenameGraph$Renamer", "firstRebound", "()I"⟩, 4), (⟨"RenameGraph$Renamer", "sameFamilies", "()Z"⟩, 4), (⟨"RenameGraph$Renamer", "outsAdded", "()I"⟩, 4), (⟨"RenameGraph$Renamer", "editsMade", "()I"⟩, 4)]
theorem lw_r2 : ∀ q ∈ lw_privs_2, lw_okq q := List.forall_mem_cons.mpr ⟨lw_p16, List.forall_mem_cons.mpr ⟨lw_p17, List.forall_mem_cons.mpr ⟨lw_p18, List.forall_mem_cons.mpr ⟨lw_p19, List.forall_mem_cons.mpr ⟨lw_p20, List.forall_mem_cons.mpr ⟨lw_p21, List.forall_mem_cons.mpr ⟨lw_p22, List.forall_mem_cons.mpr ⟨lw_p23, List.forall_mem_cons.mpr ⟨lw_p24, List.forall_mem_cons.mpr ⟨lw_p25, List.forall_mem_cons.mpr ⟨lw_p26, List.forall_mem_cons.mpr ⟨lw_p27, List.forall_mem_cons.mpr ⟨lw_p28, List.forall_mem_cons.mpr ⟨lw_p29, List.forall_mem_cons.mpr ⟨lw_p30, List.forall_mem_cons.mpr ⟨lw_p31, fun _ h => absurd h List.not_mem_nil⟩⟩⟩⟩⟩⟩⟩⟩⟩⟩⟩⟩⟩⟩⟩⟩
theorem lw_p32 : lw_okq (⟨"RenameGraph$Text", "keep", "()I"⟩, 6) := ⟨⟨by decide +kernel, by decide +kernel⟩, List.mem_of_getElem? (i := 21) (by decide +kernel), List.mem_of_getElem? (i := 538) (by decide +kernel), List.mem_of_getElem? (i := 539) (by decide +kernel)⟩
theorem lw_p33 : lw_okq (⟨"RenameGraph$Text", "spell", "(II)V"⟩, 6) := ⟨⟨by decide +kernel, by decide +kernel⟩, List.mem_of_getElem? (i := 21) (by decide +kernel), List.mem_of_getElem? (i := 545) (by decide +kernel), List.mem_of_getElem? (i := 546) (by decide +kernel)⟩
theorem lw_p34 : lw_okq (⟨"RenameGraph", "refusalOfItem", "(III)I"⟩, 6) := ⟨⟨by decide +kernel, by decide +kernel⟩, List.mem_of_getElem? (i := 13) (by decide +kernel), List.mem_of_getElem? (i := 578) (by decide +kernel), List.mem_of_getElem? (i := 579) (by decide +kernel)⟩
theorem lw_p35 : lw_okq (⟨"RenameGraph", "digestOfNode", "(JI)J"⟩, 6) := ⟨⟨by decide +kernel, by decide +kernel⟩, List.mem_of_getElem? (i := 13) (by decide +kernel), List.mem_of_getElem? (i := 637) (by decide +kernel), List.mem_of_getElem? (i := 638) (by decide +kernel)⟩
theorem lw_p36 : lw_okq (⟨"RenameGraph", "digestOfScope", "(JI)J"⟩, 6) := ⟨⟨by decide +kernel, by decide +kernel⟩, List.mem_of_getElem? (i := 13) (by decide +kernel), List.mem_of_getElem? (i := 651) (by decide +kernel), List.mem_of_getElem? (i := 652) (by decide +kernel)⟩
theorem lw_p37 : lw_okq (⟨"RenameGraphModel", "types", "(I)I"⟩, 30) := ⟨⟨by decide +kernel, by decide +kernel⟩, List.mem_of_getElem? (i := 658) (by decide +kernel), List.mem_of_getElem? (i := 759) (by decide +kernel), List.mem_of_getElem? (i := 760) (by decide +kernel)⟩
theorem lw_p38 : lw_okq (⟨"RenameGraphModel", "meets", "(I)I"⟩, 30) := ⟨⟨by decide +kernel, by decide +kernel⟩, List.mem_of_getElem? (i := 658) (by decide +kernel), List.mem_of_getElem? (i := 781) (by decide +kernel), List.mem_of_getElem? (i := 782) (by decide +kernel)⟩
theorem lw_p39 : lw_okq (⟨"RenameGraphModel", "shownOf", "(I)I"⟩, 30) := ⟨⟨by decide +kernel, by decide +kernel⟩, List.mem_of_getElem? (i := 658) (by decide +kernel), List.mem_of_getElem? (i := 789) (by decide +kernel), List.mem_of_getElem? (i := 790) (by decide +kernel)⟩
theorem lw_p40 : lw_okq (⟨"RenameGraphModel", "faultOf", "()I"⟩, 30) := ⟨⟨by decide +kernel, by decide +kernel⟩, List.mem_of_getElem? (i := 658) (by decide +kernel), List.mem_of_getElem? (i := 797) (by decide +kernel), List.mem_of_getElem? (i := 798) (by decide +kernel)⟩
theorem lw_p41 : lw_okq (⟨"RenameGraphModel", "reads", "()V"⟩, 30) := ⟨⟨by decide +kernel, by decide +kernel⟩, List.mem_of_getElem? (i := 658) (by decide +kernel), List.mem_of_getElem? (i := 801) (by decide +kernel), List.mem_of_getElem? (i := 802) (by decide +kernel)⟩
theorem lw_p42 : lw_okq (⟨"RenameGraphModel", "readsText", "()I"⟩, 30) := ⟨⟨by decide +kernel, by decide +kernel⟩, List.mem_of_getElem? (i := 658) (by decide +kernel), List.mem_of_getElem? (i := 805) (by decide +kernel), List.mem_of_getElem? (i := 806) (by decide +kernel)⟩
theorem lw_p43 : lw_okq (⟨"RenameGraphModel", "opens", "(I)V"⟩, 30) := ⟨⟨by decide +kernel, by decide +kernel⟩, List.mem_of_getElem? (i := 658) (by decide +kernel), List.mem_of_getElem? (i := 809) (by decide +kernel), List.mem_of_getElem? (i := 810) (by decide +kernel)⟩
theorem lw_p44 : lw_okq (⟨"RenameGraphModel", "isTwice", "(II)Z"⟩, 30) := ⟨⟨by decide +kernel, by decide +kernel⟩, List.mem_of_getElem? (i := 658) (by decide +kernel), List.mem_of_getElem? (i := 816) (by decide +kernel), List.mem_of_getElem? (i := 817) (by decide +kernel)⟩
theorem lw_p45 : lw_okq (⟨"RenameGraphModel", "adds", "(IIIII)V"⟩, 30) := ⟨⟨by decide +kernel, by decide +kernel⟩, List.mem_of_getElem? (i := 658) (by decide +kernel), List.mem_of_getElem? (i := 820) (by decide +kernel), List.mem_of_getElem? (i := 821) (by decide +kernel)⟩
theorem lw_p46 : lw_okq (⟨"RenameGraphModel", "asTold", "()V"⟩, 30) := ⟨⟨by decide +kernel, by decide +kernel⟩, List.mem_of_getElem? (i := 658) (by decide +kernel), List.mem_of_getElem? (i := 824) (by decide +kernel), List.mem_of_getElem? (i := 825) (by decide +kernel)⟩
theorem lw_p47 : lw_okq (⟨"RenameGraphModel", "declares", "()V"⟩, 30) := ⟨⟨by decide +kernel, by decide +kernel⟩, List.mem_of_getElem? (i := 658) (by decide +kernel), List.mem_of_getElem? (i := 828) (by decide +kernel), List.mem_of_getElem? (i := 829) (by decide +kernel)⟩
def lw_privs_3 : List (MethodName × Nat) := [(⟨"RenameGraph$Text", "keep", "()I"⟩, 6), (⟨"RenameGraph$Text", "spell", "(II)V"⟩, 6), (⟨"RenameGraph", "refusalOfItem", "(III)I"⟩, 6), (⟨"RenameGraph", "digestOfNode", "(JI)J"⟩, 6), (⟨"RenameGraph", "digestOfScope", "(JI)J"⟩, 6), (⟨"RenameGraphModel", "types", "(I)I"⟩, 30), (⟨"RenameGraphModel", "meets", "(I)I"⟩, 30), (⟨"RenameGraphModel", "shownOf", "(I)I"⟩, 30), (⟨"RenameGraphModel", "faultOf", "()I"⟩, 30), (⟨"RenameGraphModel", "reads", "()V"⟩, 30), (⟨"RenameGraphModel", "readsText", "()I"⟩, 30), (⟨"RenameGraphModel", "opens", "(I)V"⟩, 30), (⟨"RenameGraphModel", "isTwice", "(II)Z"⟩, 30), (⟨"RenameGraphModel", "adds", "(IIIII)V"⟩, 30), (⟨"RenameGraphModel", "asTold", "()V"⟩, 30), (⟨"RenameGraphModel", "declares", "()V"⟩, 30)]
theorem lw_r3 : ∀ q ∈ lw_privs_3, lw_okq q := List.forall_mem_cons.mpr ⟨lw_p32, List.forall_mem_cons.mpr ⟨lw_p33, List.forall_mem_cons.mpr ⟨lw_p34, List.forall_mem_cons.mpr ⟨lw_p35, List.forall_mem_cons.mpr ⟨lw_p36, List.forall_mem_cons.mpr ⟨lw_p37, List.forall_mem_cons.mpr ⟨lw_p38, List.forall_mem_cons.mpr ⟨lw_p39, List.forall_mem_cons.mpr ⟨lw_p40, List.forall_mem_cons.mpr ⟨lw_p41, List.forall_mem_cons.mpr ⟨lw_p42, List.forall_mem_cons.mpr ⟨lw_p43, List.forall_mem_cons.mpr ⟨lw_p44, List.forall_mem_cons.mpr ⟨lw_p45, List.forall_mem_cons.mpr ⟨lw_p46, List.forall_mem_cons.mpr ⟨lw_p47, fun _ h => absurd h List.not_mem_nil⟩⟩⟩⟩⟩⟩⟩⟩⟩⟩⟩⟩⟩⟩⟩⟩
theorem lw_p48 : lw_okq (⟨"RenameGraphModel", "boundNow", "(I)I"⟩, 30) := ⟨⟨by decide +kernel, by decide +kernel⟩, List.mem_of_getElem? (i := 658) (by decide +kernel), List.mem_of_getElem? (i := 832) (by decide +kernel), List.mem_of_getElem? (i := 833) (by decide +kernel)⟩
theorem lw_p49 : lw_okq (⟨"RenameGraphModel", "boundFrom", "(III)I"⟩, 30) := ⟨⟨by decide +kernel, by decide +kernel⟩, List.mem_of_getElem? (i := 658) (by decide +kernel), List.mem_of_getElem? (i := 836) (by decide +kernel), List.mem_of_getElem? (i := 837) (by decide +kernel)⟩
theorem lw_p50 : lw_okq (⟨"RenameGraphModel", "ownNow", "(II)I"⟩, 30) := ⟨⟨by decide +kernel, by decide +kernel⟩, List.mem_of_getElem? (i := 658) (by decide +kernel), List.mem_of_getElem? (i := 840) (by decide +kernel), List.mem_of_getElem? (i := 841) (by decide +kernel)⟩
theorem lw_p51 : lw_okq (⟨"RenameGraphModel", "findsFamilies", "()V"⟩, 30) := ⟨⟨by decide +kernel, by decide +kernel⟩, List.mem_of_getElem? (i := 658) (by decide +kernel), List.mem_of_getElem? (i := 844) (by decide +kernel), List.mem_of_getElem? (i := 845) (by decide +kernel)⟩
theorem lw_p52 : lw_okq (⟨"RenameGraphModel", "standsFor", "(I)I"⟩, 30) := ⟨⟨by decide +kernel, by decide +kernel⟩, List.mem_of_getElem? (i := 658) (by decide +kernel), List.mem_of_getElem? (i := 848) (by decide +kernel), List.mem_of_getElem? (i := 849) (by decide +kernel)⟩
theorem lw_p53 : lw_okq (⟨"RenameGraphModel", "isNode", "(I)Z"⟩, 30) := ⟨⟨by decide +kernel, by decide +kernel⟩, List.mem_of_getElem? (i := 658) (by decide +kernel), List.mem_of_getElem? (i := 856) (by decide +kernel), List.mem_of_getElem? (i := 857) (by decide +kernel)⟩
theorem lw_p54 : lw_okq (⟨"RenameGraphModel", "nodeOf", "(II)I"⟩, 30) := ⟨⟨by decide +kernel, by decide +kernel⟩, List.mem_of_getElem? (i := 658) (by decide +kernel), List.mem_of_getElem? (i := 860) (by decide +kernel), List.mem_of_getElem? (i := 861) (by decide +kernel)⟩
theorem lw_p55 : lw_okq (⟨"RenameGraphModel", "isScope", "(I)Z"⟩, 30) := ⟨⟨by decide +kernel, by decide +kernel⟩, List.mem_of_getElem? (i := 658) (by decide +kernel), List.mem_of_getElem? (i := 868) (by decide +kernel), List.mem_of_getElem? (i := 869) (by decide +kernel)⟩
theorem lw_p56 : lw_okq (⟨"RenameGraphModel", "scopeFor", "(II)I"⟩, 30) := ⟨⟨by decide +kernel, by decide +kernel⟩, List.mem_of_getElem? (i := 658) (by decide +kernel), List.mem_of_getElem? (i := 872) (by decide +kernel), List.mem_of_getElem? (i := 873) (by decide +kernel)⟩
theorem lw_p57 : lw_okq (⟨"RenameGraphModel", "manyIn", "(II)I"⟩, 30) := ⟨⟨by decide +kernel, by decide +kernel⟩, List.mem_of_getElem? (i := 658) (by decide +kernel), List.mem_of_getElem? (i := 876) (by decide +kernel), List.mem_of_getElem? (i := 877) (by decide +kernel)⟩
theorem lw_p58 : lw_okq (⟨"RenameGraphModel", "familyBits", "(I)J"⟩, 30) := ⟨⟨by decide +kernel, by decide +kernel⟩, List.mem_of_getElem? (i := 658) (by decide +kernel), List.mem_of_getElem? (i := 896) (by decide +kernel), List.mem_of_getElem? (i := 897) (by decide +kernel)⟩
theorem lw_p59 : lw_okq (⟨"RenameGraphModel", "usesOf", "(I)J"⟩, 30) := ⟨⟨by decide +kernel, by decide +kernel⟩, List.mem_of_getElem? (i := 658) (by decide +kernel), List.mem_of_getElem? (i := 904) (by decide +kernel), List.mem_of_getElem? (i := 905) (by decide +kernel)⟩
theorem lw_p60 : lw_okq (⟨"RenameGraphModel", "hidesOf", "(I)I"⟩, 30) := ⟨⟨by decide +kernel, by decide +kernel⟩, List.mem_of_getElem? (i := 658) (by decide +kernel), List.mem_of_getElem? (i := 912) (by decide +kernel), List.mem_of_getElem? (i := 913) (by decide +kernel)⟩
theorem lw_p61 : lw_okq (⟨"RenameGraphModel", "idleOf", "()J"⟩, 30) := ⟨⟨by decide +kernel, by decide +kernel⟩, List.mem_of_getElem? (i := 658) (by decide +kernel), List.mem_of_getElem? (i := 920) (by decide +kernel), List.mem_of_getElem? (i := 921) (by decide +kernel)⟩
theorem lw_p62 : lw_okq (⟨"RenameGraphModel", "idleNow", "()J"⟩, 30) := ⟨⟨by decide +kernel, by decide +kernel⟩, List.mem_of_getElem? (i := 658) (by decide +kernel), List.mem_of_getElem? (i := 924) (by decide +kernel), List.mem_of_getElem? (i := 925) (by decide +kernel)⟩
theorem lw_p63 : lw_okq (⟨"RenameGraphModel", "asked", "(IIZ)I"⟩, 30) := ⟨⟨by decide +kernel, by decide +kernel⟩, List.mem_of_getElem? (i := 658) (by decide +kernel), List.mem_of_getElem? (i := 932) (by decide +kernel), List.mem_of_getElem? (i := 933) (by decide +kernel)⟩
def lw_privs_4 : List (MethodName × Nat) := [(⟨"RenameGraphModel", "boundNow", "(I)I"⟩, 30), (⟨"RenameGraphModel", "boundFrom", "(III)I"⟩, 30), (⟨"RenameGraphModel", "ownNow", "(II)I"⟩, 30), (⟨"RenameGraphModel", "findsFamilies", "()V"⟩, 30), (⟨"RenameGraphModel", "standsFor", "(I)I"⟩, 30), (⟨"RenameGraphModel", "isNode", "(I)Z"⟩, 30), (⟨"RenameGraphModel", "nodeOf", "(II)I"⟩, 30), (⟨"RenameGraphModel", "isScope", "(I)Z"⟩, 30), (⟨"RenameGraphModel", "scopeFor", "(II)I"⟩, 30), (⟨"RenameGraphModel", "manyIn", "(II)I"⟩, 30), (⟨"RenameGraphModel", "familyBits", "(I)J"⟩, 30), (⟨"RenameGraphModel", "usesOf", "(I)J"⟩, 30), (⟨"RenameGraphModel", "hidesOf", "(I)I"⟩, 30), (⟨"RenameGraphModel", "idleOf", "()J"⟩, 30), (⟨"RenameGraphModel", "idleNow", "()J"⟩, 30), (⟨"RenameGraphModel", "asked", "(IIZ)I"⟩, 30)]
theorem lw_r4 : ∀ q ∈ lw_privs_4, lw_okq q := List.forall_mem_cons.mpr ⟨lw_p48, List.forall_mem_cons.mpr ⟨lw_p49, List.forall_mem_cons.mpr ⟨lw_p50, List.forall_mem_cons.mpr ⟨lw_p51, List.forall_mem_cons.mpr ⟨lw_p52, List.forall_mem_cons.mpr ⟨lw_p53, List.forall_mem_cons.mpr ⟨lw_p54, List.forall_mem_cons.mpr ⟨lw_p55, List.forall_mem_cons.mpr ⟨lw_p56, List.forall_mem_cons.mpr ⟨lw_p57, List.forall_mem_cons.mpr ⟨lw_p58, List.forall_mem_cons.mpr ⟨lw_p59, List.forall_mem_cons.mpr ⟨lw_p60, List.forall_mem_cons.mpr ⟨lw_p61, List.forall_mem_cons.mpr ⟨lw_p62, List.forall_mem_cons.mpr ⟨lw_p63, fun _ h => absurd h List.not_mem_nil⟩⟩⟩⟩⟩⟩⟩⟩⟩⟩⟩⟩⟩⟩⟩⟩
theorem lw_p64 : lw_okq (⟨"RenameGraphModel", "planOf", "(III)I"⟩, 30) := ⟨⟨by decide +kernel, by decide +kernel⟩, List.mem_of_getElem? (i := 658) (by decide +kernel), List.mem_of_getElem? (i := 936) (by decide +kernel), List.mem_of_getElem? (i := 937) (by decide +kernel)⟩
theorem lw_p65 : lw_okq (⟨"RenameGraphModel", "bestNow", "(II)I"⟩, 30) := ⟨⟨by decide +kernel, by decide +kernel⟩, List.mem_of_getElem? (i := 658) (by decide +kernel), List.mem_of_getElem? (i := 940) (by decide +kernel), List.mem_of_getElem? (i := 941) (by decide +kernel)⟩
theorem lw_p66 : lw_okq (⟨"RenameGraphModel", "editsBy", "(III)I"⟩, 30) := ⟨⟨by decide +kernel, by decide +kernel⟩, List.mem_of_getElem? (i := 658) (by decide +kernel), List.mem_of_getElem? (i := 944) (by decide +kernel), List.mem_of_getElem? (i := 945) (by decide +kernel)⟩
theorem lw_p67 : lw_okq (⟨"RenameGraphModel", "fresh", "()I"⟩, 30) := ⟨⟨by decide +kernel, by decide +kernel⟩, List.mem_of_getElem? (i := 658) (by decide +kernel), List.mem_of_getElem? (i := 948) (by decide +kernel), List.mem_of_getElem? (i := 949) (by decide +kernel)⟩
theorem lw_p68 : lw_okq (⟨"RenameGraphModel", "pushes", "(II)V"⟩, 30) := ⟨⟨by decide +kernel, by decide +kernel⟩, List.mem_of_getElem? (i := 658) (by decide +kernel), List.mem_of_getElem? (i := 955) (by decide +kernel), List.mem_of_getElem? (i := 956) (by decide +kernel)⟩
theorem lw_p69 : lw_okq (⟨"RenameGraphModel", "renames", "(II)V"⟩, 30) := ⟨⟨by decide +kernel, by decide +kernel⟩, List.mem_of_getElem? (i := 658) (by decide +kernel), List.mem_of_getElem? (i := 959) (by decide +kernel), List.mem_of_getElem? (i := 960) (by decide +kernel)⟩
theorem lw_p70 : lw_okq (⟨"RenameGraphModel", "goesOut", "()V"⟩, 30) := ⟨⟨by decide +kernel, by decide +kernel⟩, List.mem_of_getElem? (i := 658) (by decide +kernel), List.mem_of_getElem? (i := 963) (by decide +kernel), List.mem_of_getElem? (i := 964) (by decide +kernel)⟩
theorem lw_p71 : lw_okq (⟨"RenameGraphModel", "isWell", "()Z"⟩, 30) := ⟨⟨by decide +kernel, by decide +kernel⟩, List.mem_of_getElem? (i := 658) (by decide +kernel), List.mem_of_getElem? (i := 967) (by decide +kernel), List.mem_of_getElem? (i := 968) (by decide +kernel)⟩
theorem lw_p72 : lw_okq (⟨"RenameGraphModel", "areOnce", "()Z"⟩, 30) := ⟨⟨by decide +kernel, by decide +kernel⟩, List.mem_of_getElem? (i := 658) (by decide +kernel), List.mem_of_getElem? (i := 971) (by decide +kernel), List.mem_of_getElem? (i := 972) (by decide +kernel)⟩
theorem lw_p73 : lw_okq (⟨"RenameGraphModel", "areFamilies", "()Z"⟩, 30) := ⟨⟨by decide +kernel, by decide +kernel⟩, List.mem_of_getElem? (i := 658) (by decide +kernel), List.mem_of_getElem? (i := 975) (by decide +kernel), List.mem_of_getElem? (i := 976) (by decide +kernel)⟩
theorem lw_p74 : lw_okq (⟨"RenameGraphModel", "areBound", "()Z"⟩, 30) := ⟨⟨by decide +kernel, by decide +kernel⟩, List.mem_of_getElem? (i := 658) (by decide +kernel), List.mem_of_getElem? (i := 979) (by decide +kernel), List.mem_of_getElem? (i := 980) (by decide +kernel)⟩
theorem lw_p75 : lw_okq (⟨"RenameGraphModel", "bytesNow", "()I"⟩, 30) := ⟨⟨by decide +kernel, by decide +kernel⟩, List.mem_of_getElem? (i := 658) (by decide +kernel), List.mem_of_getElem? (i := 983) (by decide +kernel), List.mem_of_getElem? (i := 984) (by decide +kernel)⟩
theorem lw_p76 : lw_okq (⟨"RenameGraphModel", "editsNow", "()I"⟩, 30) := ⟨⟨by decide +kernel, by decide +kernel⟩, List.mem_of_getElem? (i := 658) (by decide +kernel), List.mem_of_getElem? (i := 987) (by decide +kernel), List.mem_of_getElem? (i := 988) (by decide +kernel)⟩
theorem lw_p77 : lw_okq (⟨"RenameGraphModel", "caughtOf", "(III)I"⟩, 30) := ⟨⟨by decide +kernel, by decide +kernel⟩, List.mem_of_getElem? (i := 658) (by decide +kernel), List.mem_of_getElem? (i := 999) (by decide +kernel), List.mem_of_getElem? (i := 1000) (by decide +kernel)⟩
theorem lw_p78 : lw_okq (⟨"RenameGraphModel", "easyOf", "(I)I"⟩, 30) := ⟨⟨by decide +kernel, by decide +kernel⟩, List.mem_of_getElem? (i := 658) (by decide +kernel), List.mem_of_getElem? (i := 1007) (by decide +kernel), List.mem_of_getElem? (i := 1008) (by decide +kernel)⟩
theorem lw_p79 : lw_okq (⟨"RenameGraphModel", "renameOf", "(II)I"⟩, 30) := ⟨⟨by decide +kernel, by decide +kernel⟩, List.mem_of_getElem? (i := 658) (by decide +kernel), List.mem_of_getElem? (i := 1015) (by decide +kernel), List.mem_of_getElem? (i := 1016) (by decide +kernel)⟩
def lw_privs_5 : List (MethodName × Nat) := [(⟨"RenameGraphModel", "planOf", "(III)I"⟩, 30), (⟨"RenameGraphModel", "bestNow", "(II)I"⟩, 30), (⟨"RenameGraphModel", "editsBy", "(III)I"⟩, 30), (⟨"RenameGraphModel", "fresh", "()I"⟩, 30), (⟨"RenameGraphModel", "pushes", "(II)V"⟩, 30), (⟨"RenameGraphModel", "renames", "(II)V"⟩, 30), (⟨"RenameGraphModel", "goesOut", "()V"⟩, 30), (⟨"RenameGraphModel", "isWell", "()Z"⟩, 30), (⟨"RenameGraphModel", "areOnce", "()Z"⟩, 30), (⟨"RenameGraphModel", "areFamilies", "()Z"⟩, 30), (⟨"RenameGraphModel", "areBound", "()Z"⟩, 30), (⟨"RenameGraphModel", "bytesNow", "()I"⟩, 30), (⟨"RenameGraphModel", "editsNow", "()I"⟩, 30), (⟨"RenameGraphModel", "caughtOf", "(III)I"⟩, 30), (⟨"RenameGraphModel", "easyOf", "(I)I"⟩, 30), (⟨"RenameGraphModel", "renameOf", "(II)I"⟩, 30)]
theorem lw_r5 : ∀ q ∈ lw_privs_5, lw_okq q := List.forall_mem_cons.mpr ⟨lw_p64, List.forall_mem_cons.mpr ⟨lw_p65, List.forall_mem_cons.mpr ⟨lw_p66, List.forall_mem_cons.mpr ⟨lw_p67, List.forall_mem_cons.mpr ⟨lw_p68, List.forall_mem_cons.mpr ⟨lw_p69, List.forall_mem_cons.mpr ⟨lw_p70, List.forall_mem_cons.mpr ⟨lw_p71, List.forall_mem_cons.mpr ⟨lw_p72, List.forall_mem_cons.mpr ⟨lw_p73, List.forall_mem_cons.mpr ⟨lw_p74, List.forall_mem_cons.mpr ⟨lw_p75, List.forall_mem_cons.mpr ⟨lw_p76, List.forall_mem_cons.mpr ⟨lw_p77, List.forall_mem_cons.mpr ⟨lw_p78, List.forall_mem_cons.mpr ⟨lw_p79, fun _ h => absurd h List.not_mem_nil⟩⟩⟩⟩⟩⟩⟩⟩⟩⟩⟩⟩⟩⟩⟩⟩
theorem lw_p80 : lw_okq (⟨"RenameGraphModel", "remembers", "()V"⟩, 30) := ⟨⟨by decide +kernel, by decide +kernel⟩, List.mem_of_getElem? (i := 658) (by decide +kernel), List.mem_of_getElem? (i := 1019) (by decide +kernel), List.mem_of_getElem? (i := 1020) (by decide +kernel)⟩
theorem lw_p81 : lw_okq (⟨"RenameGraphModel", "writesText", "()V"⟩, 30) := ⟨⟨by decide +kernel, by decide +kernel⟩, List.mem_of_getElem? (i := 658) (by decide +kernel), List.mem_of_getElem? (i := 1023) (by decide +kernel), List.mem_of_getElem? (i := 1024) (by decide +kernel)⟩
theorem lw_p82 : lw_okq (⟨"RenameGraphModel", "lacks", "(III)I"⟩, 30) := ⟨⟨by decide +kernel, by decide +kernel⟩, List.mem_of_getElem? (i := 658) (by decide +kernel), List.mem_of_getElem? (i := 1043) (by decide +kernel), List.mem_of_getElem? (i := 1044) (by decide +kernel)⟩
theorem lw_p83 : lw_okq (⟨"RenameGraphModel", "keep", "(III)V"⟩, 30) := ⟨⟨by decide +kernel, by decide +kernel⟩, List.mem_of_getElem? (i := 658) (by decide +kernel), List.mem_of_getElem? (i := 1047) (by decide +kernel), List.mem_of_getElem? (i := 1048) (by decide +kernel)⟩
theorem lw_p84 : lw_okq (⟨"RenameGraphModel", "tellOf", "(I)I"⟩, 30) := ⟨⟨by decide +kernel, by decide +kernel⟩, List.mem_of_getElem? (i := 658) (by decide +kernel), List.mem_of_getElem? (i := 1068) (by decide +kernel), List.mem_of_getElem? (i := 1069) (by decide +kernel)⟩
theorem lw_p85 : lw_okq (⟨"RenameGraphModel", "idleMany", "()I"⟩, 30) := ⟨⟨by decide +kernel, by decide +kernel⟩, List.mem_of_getElem? (i := 658) (by decide +kernel), List.mem_of_getElem? (i := 1072) (by decide +kernel), List.mem_of_getElem? (i := 1073) (by decide +kernel)⟩
theorem lw_p86 : lw_okq (⟨"RenameGraphModel", "nodeDigest", "(JI)J"⟩, 30) := ⟨⟨by decide +kernel, by decide +kernel⟩, List.mem_of_getElem? (i := 658) (by decide +kernel), List.mem_of_getElem? (i := 1083) (by decide +kernel), List.mem_of_getElem? (i := 1084) (by decide +kernel)⟩
theorem lw_p87 : lw_okq (⟨"RenameGraphModel", "nameDigest", "(JII)J"⟩, 30) := ⟨⟨by decide +kernel, by decide +kernel⟩, List.mem_of_getElem? (i := 658) (by decide +kernel), List.mem_of_getElem? (i := 1093) (by decide +kernel), List.mem_of_getElem? (i := 1094) (by decide +kernel)⟩
def lw_privs_6 : List (MethodName × Nat) := [(⟨"RenameGraphModel", "remembers", "()V"⟩, 30), (⟨"RenameGraphModel", "writesText", "()V"⟩, 30), (⟨"RenameGraphModel", "lacks", "(III)I"⟩, 30), (⟨"RenameGraphModel", "keep", "(III)V"⟩, 30), (⟨"RenameGraphModel", "tellOf", "(I)I"⟩, 30), (⟨"RenameGraphModel", "idleMany", "()I"⟩, 30), (⟨"RenameGraphModel", "nodeDigest", "(JI)J"⟩, 30), (⟨"RenameGraphModel", "nameDigest", "(JII)J"⟩, 30)]
theorem lw_r6 : ∀ q ∈ lw_privs_6, lw_okq q := List.forall_mem_cons.mpr ⟨lw_p80, List.forall_mem_cons.mpr ⟨lw_p81, List.forall_mem_cons.mpr ⟨lw_p82, List.forall_mem_cons.mpr ⟨lw_p83, List.forall_mem_cons.mpr ⟨lw_p84, List.forall_mem_cons.mpr ⟨lw_p85, List.forall_mem_cons.mpr ⟨lw_p86, List.forall_mem_cons.mpr ⟨lw_p87, fun _ h => absurd h List.not_mem_nil⟩⟩⟩⟩⟩⟩⟩⟩
def lw_privs : List (MethodName × Nat) := lw_privs_1 ++ (lw_privs_2 ++ (lw_privs_3 ++ (lw_privs_4 ++ (lw_privs_5 ++ (lw_privs_6)))))
def lw_tbl : List Cond := k2_sels lw_privs ++ tables_1
theorem lw_privs_ok : ∀ q ∈ lw_privs, lw_okq q := by
  show ∀ q ∈ lw_privs_1 ++ (lw_privs_2 ++ (lw_privs_3 ++ (lw_privs_4 ++ (lw_privs_5 ++ (lw_privs_6))))), lw_okq q
  exact List.forall_mem_append.mpr ⟨lw_r1, List.forall_mem_append.mpr ⟨lw_r2, List.forall_mem_append.mpr ⟨lw_r3, List.forall_mem_append.mpr ⟨lw_r4, List.forall_mem_append.mpr ⟨lw_r5, lw_r6⟩⟩⟩⟩⟩
end
section
def RX0 : String := "RenameGraph$Names"
def TX0 : u_T := fun k => match k with
  | 0 => ("RenameGraph$Names", "tree", "LRenameGraph$Tree;", true)
  | 1 => ("RenameGraph$Names", "name", "[I", true)
  | 2 => ("RenameGraph$Names", "outs", "[I", true)
  | 3 => ("RenameGraph$Names", "target", "[I", true)
  | 4 => ("RenameGraph$Names", "kin", "[J", true)
  | _ => ("RenameGraph$Names", "table", "[I", true)
def tyX0 : Nat → FieldType := fun k => match k with
  | 0 => .object "RenameGraph$Tree"
  | 1 => .array .int
  | 2 => .array .int
  | 3 => .array .int
  | 4 => .array .long
  | _ => .array .int
abbrev wsX00 : List Cond := u_ws RX0 TX0 6
theorem nmX0 : ∀ a, a < 6 → ∀ b, b < 6 → a ≠ b → (TX0 a).2.1 ≠ (TX0 b).2.1 := by decide +kernel
theorem tyX0_ok : ∀ k, k < 6 → parseFieldDescriptor (TX0 k).2.2.1 = some (tyX0 k) := by decide +kernel
abbrev cX0_init : ByteArray := prog_2_method_1_code
def yX0_init : MethodName := ⟨RX0, "<init>", "(LRenameGraph$Tree;)V"⟩
abbrev cX0_takeWritten : ByteArray := prog_2_method_2_code
def yX0_takeWritten : MethodName := ⟨RX0, "takeWritten", "()V"⟩
abbrev cX0_takeSpelling : ByteArray := prog_2_method_3_code
def yX0_takeSpelling : MethodName := ⟨RX0, "takeSpelling", "(LRenameGraph$Names;)V"⟩
abbrev cX0_fillTable : ByteArray := prog_2_method_4_code
def yX0_fillTable : MethodName := ⟨RX0, "fillTable", "()Z"⟩
abbrev cX0_inherit : ByteArray := prog_2_method_5_code
def yX0_inherit : MethodName := ⟨RX0, "inherit", "()V"⟩
abbrev cX0_bindAll : ByteArray := prog_2_method_6_code
def yX0_bindAll : MethodName := ⟨RX0, "bindAll", "()V"⟩
abbrev cX0_lookUp : ByteArray := prog_2_method_7_code
def yX0_lookUp : MethodName := ⟨RX0, "lookUp", "(III)I"⟩
abbrev cX0_joinFamilies : ByteArray := prog_2_method_8_code
def yX0_joinFamilies : MethodName := ⟨RX0, "joinFamilies", "()V"⟩
abbrev cX0_join : ByteArray := prog_2_method_9_code
def yX0_join : MethodName := ⟨RX0, "join", "(J)V"⟩
abbrev cX0_usesOf : ByteArray := prog_2_method_10_code
def yX0_usesOf : MethodName := ⟨RX0, "usesOf", "(I)J"⟩
abbrev cX0_idleOnes : ByteArray := prog_2_method_11_code
def yX0_idleOnes : MethodName := ⟨RX0, "idleOnes", "()J"⟩
abbrev cX0_unboundUses : ByteArray := prog_2_method_12_code
def yX0_unboundUses : MethodName := ⟨RX0, "unboundUses", "()I"⟩
abbrev cX0_families : ByteArray := prog_2_method_13_code
def yX0_families : MethodName := ⟨RX0, "families", "()I"⟩
def RX1 : String := "RenameGraph$Renamer"
def TX1 : u_T := fun k => match k with
  | 0 => ("RenameGraph$Renamer", "tree", "LRenameGraph$Tree;", true)
  | 1 => ("RenameGraph$Renamer", "now", "LRenameGraph$Names;", true)
  | 2 => ("RenameGraph$Renamer", "then", "LRenameGraph$Names;", true)
  | _ => ("RenameGraph$Renamer", "leastEdits", "I", false)
def tyX1 : Nat → FieldType := fun k => match k with
  | 0 => .object "RenameGraph$Tree"
  | 1 => .object "RenameGraph$Names"
  | 2 => .object "RenameGraph$Names"
  | _ => .int
abbrev wsX10 : List Cond := u_ws RX1 TX1 4
theorem nmX1 : ∀ a, a < 4 → ∀ b, b < 4 → a ≠ b → (TX1 a).2.1 ≠ (TX1 b).2.1 := by decide +kernel
theorem tyX1_ok : ∀ k, k < 4 → parseFieldDescriptor (TX1 k).2.2.1 = some (tyX1 k) := by decide +kernel
abbrev cX1_init : ByteArray := prog_3_method_1_code
def yX1_init : MethodName := ⟨RX1, "<init>", "(LRenameGraph$Tree;LRenameGraph$Names;)V"⟩
abbrev cX1_bestPlan : ByteArray := prog_3_method_2_code
def yX1_bestPlan : MethodName := ⟨RX1, "bestPlan", "(II)I"⟩
abbrev cX1_attempt : ByteArray := prog_3_method_3_code
def yX1_attempt : MethodName := ⟨RX1, "attempt", "(III)I"⟩
abbrev cX1_easyLetters : ByteArray := prog_3_method_4_code
def yX1_easyLetters : MethodName := ⟨RX1, "easyLetters", "(I)I"⟩
abbrev cX1_firstCaught : ByteArray := prog_3_method_5_code
def yX1_firstCaught : MethodName := ⟨RX1, "firstCaught", "(II)I"⟩
abbrev cX1_firstRebound : ByteArray := prog_3_method_6_code
def yX1_firstRebound : MethodName := ⟨RX1, "firstRebound", "()I"⟩
abbrev cX1_giveName : ByteArray := prog_3_method_7_code
def yX1_giveName : MethodName := ⟨RX1, "giveName", "(II)V"⟩
abbrev cX1_pushAway : ByteArray := prog_3_method_8_code
def yX1_pushAway : MethodName := ⟨RX1, "pushAway", "(I)Z"⟩
abbrev cX1_spareLetter : ByteArray := prog_3_method_9_code
def yX1_spareLetter : MethodName := ⟨RX1, "spareLetter", "()I"⟩
abbrev cX1_repairOuts : ByteArray := prog_3_method_10_code
def yX1_repairOuts : MethodName := ⟨RX1, "repairOuts", "()V"⟩
abbrev cX1_leastOuts : ByteArray := prog_3_method_11_code
def yX1_leastOuts : MethodName := ⟨RX1, "leastOuts", "(I)I"⟩
abbrev cX1_isWell : ByteArray := prog_3_method_12_code
def yX1_isWell : MethodName := ⟨RX1, "isWell", "()Z"⟩
abbrev cX1_sameFamilies : ByteArray := prog_3_method_13_code
def yX1_sameFamilies : MethodName := ⟨RX1, "sameFamilies", "()Z"⟩
abbrev cX1_outsAdded : ByteArray := prog_3_method_14_code
def yX1_outsAdded : MethodName := ⟨RX1, "outsAdded", "()I"⟩
abbrev cX1_editsMade : ByteArray := prog_3_method_15_code
def yX1_editsMade : MethodName := ⟨RX1, "editsMade", "()I"⟩
def RX2 : String := "RenameGraph$Sheet"
def TX2 : u_T := fun k => match k with
  | 0 => ("RenameGraph$Sheet", "items", "[I", true)
  | 1 => ("RenameGraph$Sheet", "form", "I", false)
  | 2 => ("RenameGraph$Sheet", "size", "I", false)
  | _ => ("RenameGraph$Sheet", "lost", "Z", false)
def tyX2 : Nat → FieldType := fun k => match k with
  | 0 => .array .int
  | 1 => .int
  | 2 => .int
  | _ => .boolean
abbrev wsX20 : List Cond := u_ws RX2 TX2 4
theorem nmX2 : ∀ a, a < 4 → ∀ b, b < 4 → a ≠ b → (TX2 a).2.1 ≠ (TX2 b).2.1 := by decide +kernel
theorem tyX2_ok : ∀ k, k < 4 → parseFieldDescriptor (TX2 k).2.2.1 = some (tyX2 k) := by decide +kernel
abbrev cX2_init : ByteArray := prog_4_method_1_code
def yX2_init : MethodName := ⟨RX2, "<init>", "()V"⟩
abbrev cX2_renew : ByteArray := prog_4_method_2_code
def yX2_renew : MethodName := ⟨RX2, "renew", "(II)V"⟩
abbrev cX2_store : ByteArray := prog_4_method_3_code
def yX2_store : MethodName := ⟨RX2, "store", "(II)V"⟩
abbrev cX2_bytesAtFront : ByteArray := prog_4_method_4_code
def yX2_bytesAtFront : MethodName := ⟨RX2, "bytesAtFront", "()I"⟩
abbrev cX2_hasRun : ByteArray := prog_4_method_5_code
def yX2_hasRun : MethodName := ⟨RX2, "hasRun", "(II)Z"⟩
def RX3 : String := "RenameGraph$Text"
def TX3 : u_T := fun k => match k with
  | 0 => ("RenameGraph$Text", "bytes", "[I", true)
  | 1 => ("RenameGraph$Text", "size", "I", false)
  | 2 => ("RenameGraph$Text", "known", "[[I", true)
  | 3 => ("RenameGraph$Text", "knownSizes", "[I", true)
  | 4 => ("RenameGraph$Text", "knownCount", "I", false)
  | _ => ("RenameGraph$Text", "knownTop", "I", false)
def tyX3 : Nat → FieldType := fun k => match k with
  | 0 => .array .int
  | 1 => .int
  | 2 => .array (.array .int)
  | 3 => .array .int
  | 4 => .int
  | _ => .int
abbrev wsX30 : List Cond := u_ws RX3 TX3 6
theorem nmX3 : ∀ a, a < 6 → ∀ b, b < 6 → a ≠ b → (TX3 a).2.1 ≠ (TX3 b).2.1 := by decide +kernel
theorem tyX3_ok : ∀ k, k < 6 → parseFieldDescriptor (TX3 k).2.2.1 = some (tyX3 k) := by decide +kernel
abbrev cX3_init : ByteArray := prog_5_method_1_code
def yX3_init : MethodName := ⟨RX3, "<init>", "()V"⟩
abbrev cX3_append : ByteArray := prog_5_method_2_code
def yX3_append : MethodName := ⟨RX3, "append", "(I)V"⟩
abbrev cX3_respell : ByteArray := prog_5_method_3_code
def yX3_respell : MethodName := ⟨RX3, "respell", "(LRenameGraph$Names;)V"⟩
abbrev cX3_spell : ByteArray := prog_5_method_4_code
def yX3_spell : MethodName := ⟨RX3, "spell", "(II)V"⟩
abbrev cX3_keep : ByteArray := prog_5_method_5_code
def yX3_keep : MethodName := ⟨RX3, "keep", "()I"⟩
abbrev cX3_takeBack : ByteArray := prog_5_method_6_code
def yX3_takeBack : MethodName := ⟨RX3, "takeBack", "()V"⟩
def RX4 : String := "RenameGraph$Tree"
def TX4 : u_T := fun k => match k with
  | 0 => ("RenameGraph$Tree", "isUse", "[Z", true)
  | 1 => ("RenameGraph$Tree", "name", "[I", true)
  | 2 => ("RenameGraph$Tree", "outs", "[I", true)
  | 3 => ("RenameGraph$Tree", "scopeOf", "[I", true)
  | 4 => ("RenameGraph$Tree", "place", "[I", true)
  | 5 => ("RenameGraph$Tree", "nodes", "I", false)
  | 6 => ("RenameGraph$Tree", "parent", "[I", true)
  | 7 => ("RenameGraph$Tree", "base", "[I", true)
  | 8 => ("RenameGraph$Tree", "declared", "[I", true)
  | 9 => ("RenameGraph$Tree", "ended", "[Z", true)
  | 10 => ("RenameGraph$Tree", "scopes", "I", false)
  | 11 => ("RenameGraph$Tree", "size", "I", false)
  | 12 => ("RenameGraph$Tree", "faultPlace", "I", false)
  | 13 => ("RenameGraph$Tree", "state", "I", false)
  | 14 => ("RenameGraph$Tree", "current", "I", false)
  | _ => ("RenameGraph$Tree", "outsSoFar", "I", false)
def tyX4 : Nat → FieldType := fun k => match k with
  | 0 => .array .boolean
  | 1 => .array .int
  | 2 => .array .int
  | 3 => .array .int
  | 4 => .array .int
  | 5 => .int
  | 6 => .array .int
  | 7 => .array .int
  | 8 => .array .int
  | 9 => .array .boolean
  | 10 => .int
  | 11 => .int
  | 12 => .int
  | 13 => .int
  | 14 => .int
  | _ => .int
abbrev wsX40 : List Cond := u_ws RX4 TX4 16
theorem nmX4 : ∀ a, a < 16 → ∀ b, b < 16 → a ≠ b → (TX4 a).2.1 ≠ (TX4 b).2.1 := by decide +kernel
theorem tyX4_ok : ∀ k, k < 16 → parseFieldDescriptor (TX4 k).2.2.1 = some (tyX4 k) := by decide +kernel
abbrev cX4_init : ByteArray := prog_6_method_1_code
def yX4_init : MethodName := ⟨RX4, "<init>", "()V"⟩
abbrev cX4_readAll : ByteArray := prog_6_method_2_code
def yX4_readAll : MethodName := ⟨RX4, "readAll", "(LRenameGraph$Text;)V"⟩
abbrev cX4_begin : ByteArray := prog_6_method_3_code
def yX4_begin : MethodName := ⟨RX4, "begin", "()V"⟩
abbrev cX4_openText : ByteArray := prog_6_method_4_code
def yX4_openText : MethodName := ⟨RX4, "openText", "()V"⟩
abbrev cX4_addScope : ByteArray := prog_6_method_5_code
def yX4_addScope : MethodName := ⟨RX4, "addScope", "(I)V"⟩
abbrev cX4_goesOn : ByteArray := prog_6_method_6_code
def yX4_goesOn : MethodName := ⟨RX4, "goesOn", "(II)Z"⟩
abbrev cX4_beginsExtension : ByteArray := prog_6_method_7_code
def yX4_beginsExtension : MethodName := ⟨RX4, "beginsExtension", "(I)Z"⟩
abbrev cX4_beginsItem : ByteArray := prog_6_method_8_code
def yX4_beginsItem : MethodName := ⟨RX4, "beginsItem", "(II)Z"⟩
abbrev cX4_open : ByteArray := prog_6_method_9_code
def yX4_open : MethodName := ⟨RX4, "open", "()Z"⟩
abbrev cX4_close : ByteArray := prog_6_method_10_code
def yX4_close : MethodName := ⟨RX4, "close", "()Z"⟩
abbrev cX4_extend : ByteArray := prog_6_method_11_code
def yX4_extend : MethodName := ⟨RX4, "extend", "(I)Z"⟩
abbrev cX4_goesFartherOut : ByteArray := prog_6_method_12_code
def yX4_goesFartherOut : MethodName := ⟨RX4, "goesFartherOut", "(I)Z"⟩
abbrev cX4_endsUse : ByteArray := prog_6_method_13_code
def yX4_endsUse : MethodName := ⟨RX4, "endsUse", "(II)Z"⟩
abbrev cX4_declare : ByteArray := prog_6_method_14_code
def yX4_declare : MethodName := ⟨RX4, "declare", "(II)Z"⟩
abbrev cX4_addNode : ByteArray := prog_6_method_15_code
def yX4_addNode : MethodName := ⟨RX4, "addNode", "(ZIII)Z"⟩
abbrev cX4_declarations : ByteArray := prog_6_method_16_code
def yX4_declarations : MethodName := ⟨RX4, "declarations", "()I"⟩
abbrev cX4_nodesIn : ByteArray := prog_6_method_17_code
def yX4_nodesIn : MethodName := ⟨RX4, "nodesIn", "(IZ)I"⟩
def RX5 : String := "RenameGraph"
def TX5 : u_T := fun k => match k with
  | 0 => ("RenameGraph", "text", "LRenameGraph$Text;", true)
  | 1 => ("RenameGraph", "tree", "LRenameGraph$Tree;", true)
  | 2 => ("RenameGraph", "now", "LRenameGraph$Names;", true)
  | 3 => ("RenameGraph", "renamer", "LRenameGraph$Renamer;", true)
  | 4 => ("RenameGraph", "sheets", "[LRenameGraph$Sheet;", true)
  | _ => ("RenameGraph", "finding", "I", false)
def tyX5 : Nat → FieldType := fun k => match k with
  | 0 => .object "RenameGraph$Text"
  | 1 => .object "RenameGraph$Tree"
  | 2 => .object "RenameGraph$Names"
  | 3 => .object "RenameGraph$Renamer"
  | 4 => .array (.object "RenameGraph$Sheet")
  | _ => .int
abbrev wsX50 : List Cond := u_ws RX5 TX5 6
theorem nmX5 : ∀ a, a < 6 → ∀ b, b < 6 → a ≠ b → (TX5 a).2.1 ≠ (TX5 b).2.1 := by decide +kernel
theorem tyX5_ok : ∀ k, k < 6 → parseFieldDescriptor (TX5 k).2.2.1 = some (tyX5 k) := by decide +kernel
abbrev cX5_init : ByteArray := prog_1_method_1_code
def yX5_init : MethodName := ⟨RX5, "<init>", "()V"⟩
abbrev cX5_type : ByteArray := prog_1_method_2_code
def yX5_type : MethodName := ⟨RX5, "type", "(I)I"⟩
abbrev cX5_wipe : ByteArray := prog_1_method_3_code
def yX5_wipe : MethodName := ⟨RX5, "wipe", "()I"⟩
abbrev cX5_undo : ByteArray := prog_1_method_4_code
def yX5_undo : MethodName := ⟨RX5, "undo", "()I"⟩
abbrev cX5_fault : ByteArray := prog_1_method_5_code
def yX5_fault : MethodName := ⟨RX5, "fault", "()I"⟩
abbrev cX5_read : ByteArray := prog_1_method_6_code
def yX5_read : MethodName := ⟨RX5, "read", "(I)I"⟩
abbrev cX5_shown : ByteArray := prog_1_method_7_code
def yX5_shown : MethodName := ⟨RX5, "shown", "(I)I"⟩
abbrev cX5_node : ByteArray := prog_1_method_8_code
def yX5_node : MethodName := ⟨RX5, "node", "(II)I"⟩
abbrev cX5_scope : ByteArray := prog_1_method_9_code
def yX5_scope : MethodName := ⟨RX5, "scope", "(II)I"⟩
abbrev cX5_bound : ByteArray := prog_1_method_10_code
def yX5_bound : MethodName := ⟨RX5, "bound", "(I)I"⟩
abbrev cX5_own : ByteArray := prog_1_method_11_code
def yX5_own : MethodName := ⟨RX5, "own", "(II)I"⟩
abbrev cX5_family : ByteArray := prog_1_method_12_code
def yX5_family : MethodName := ⟨RX5, "family", "(I)J"⟩
abbrev cX5_uses : ByteArray := prog_1_method_13_code
def yX5_uses : MethodName := ⟨RX5, "uses", "(I)J"⟩
abbrev cX5_hides : ByteArray := prog_1_method_14_code
def yX5_hides : MethodName := ⟨RX5, "hides", "(I)I"⟩
abbrev cX5_idle : ByteArray := prog_1_method_15_code
def yX5_idle : MethodName := ⟨RX5, "idle", "()J"⟩
abbrev cX5_plan : ByteArray := prog_1_method_16_code
def yX5_plan : MethodName := ⟨RX5, "plan", "(III)I"⟩
abbrev cX5_edits : ByteArray := prog_1_method_17_code
def yX5_edits : MethodName := ⟨RX5, "edits", "(III)I"⟩
abbrev cX5_caught : ByteArray := prog_1_method_18_code
def yX5_caught : MethodName := ⟨RX5, "caught", "(III)I"⟩
abbrev cX5_easy : ByteArray := prog_1_method_19_code
def yX5_easy : MethodName := ⟨RX5, "easy", "(I)I"⟩
abbrev cX5_rename : ByteArray := prog_1_method_20_code
def yX5_rename : MethodName := ⟨RX5, "rename", "(II)I"⟩
abbrev cX5_back : ByteArray := prog_1_method_21_code
def yX5_back : MethodName := ⟨RX5, "back", "()I"⟩
abbrev cX5_sheet : ByteArray := prog_1_method_22_code
def yX5_sheet : MethodName := ⟨RX5, "sheet", "(III)I"⟩
abbrev cX5_lose : ByteArray := prog_1_method_23_code
def yX5_lose : MethodName := ⟨RX5, "lose", "(I)I"⟩
abbrev cX5_put : ByteArray := prog_1_method_24_code
def yX5_put : MethodName := ⟨RX5, "put", "(IIII)I"⟩
abbrev cX5_get : ByteArray := prog_1_method_25_code
def yX5_get : MethodName := ⟨RX5, "get", "(III)I"⟩
abbrev cX5_copy : ByteArray := prog_1_method_26_code
def yX5_copy : MethodName := ⟨RX5, "copy", "(IIIII)I"⟩
abbrev cX5_write : ByteArray := prog_1_method_27_code
def yX5_write : MethodName := ⟨RX5, "write", "(I)I"⟩
abbrev cX5_count : ByteArray := prog_1_method_28_code
def yX5_count : MethodName := ⟨RX5, "count", "(I)I"⟩
abbrev cX5_digest : ByteArray := prog_1_method_29_code
def yX5_digest : MethodName := ⟨RX5, "digest", "()J"⟩
abbrev cX5_digestOfNode : ByteArray := prog_1_method_30_code
def yX5_digestOfNode : MethodName := ⟨RX5, "digestOfNode", "(JI)J"⟩
abbrev cX5_digestOfScope : ByteArray := prog_1_method_31_code
def yX5_digestOfScope : MethodName := ⟨RX5, "digestOfScope", "(JI)J"⟩
abbrev cX5_textWasTold : ByteArray := prog_1_method_32_code
def yX5_textWasTold : MethodName := ⟨RX5, "textWasTold", "()V"⟩
abbrev cX5_reread : ByteArray := prog_1_method_33_code
def yX5_reread : MethodName := ⟨RX5, "reread", "()V"⟩
abbrev cX5_found : ByteArray := prog_1_method_34_code
def yX5_found : MethodName := ⟨RX5, "found", "(I)I"⟩
abbrev cX5_asLong : ByteArray := prog_1_method_35_code
def yX5_asLong : MethodName := ⟨RX5, "asLong", "(I)J"⟩
abbrev cX5_isNode : ByteArray := prog_1_method_36_code
def yX5_isNode : MethodName := ⟨RX5, "isNode", "(I)Z"⟩
abbrev cX5_isScope : ByteArray := prog_1_method_37_code
def yX5_isScope : MethodName := ⟨RX5, "isScope", "(I)Z"⟩
abbrev cX5_isByte : ByteArray := prog_1_method_38_code
def yX5_isByte : MethodName := ⟨RX5, "isByte", "(I)Z"⟩
abbrev cX5_isLetter : ByteArray := prog_1_method_39_code
def yX5_isLetter : MethodName := ⟨RX5, "isLetter", "(I)Z"⟩
abbrev cX5_isSheet : ByteArray := prog_1_method_40_code
def yX5_isSheet : MethodName := ⟨RX5, "isSheet", "(I)Z"⟩
abbrev cX5_isForm : ByteArray := prog_1_method_41_code
def yX5_isForm : MethodName := ⟨RX5, "isForm", "(I)Z"⟩
abbrev cX5_refusalOfDeclaration : ByteArray := prog_1_method_42_code
def yX5_refusalOfDeclaration : MethodName := ⟨RX5, "refusalOfDeclaration", "(I)I"⟩
abbrev cX5_refusalOfChange : ByteArray := prog_1_method_43_code
def yX5_refusalOfChange : MethodName := ⟨RX5, "refusalOfChange", "(IIII)I"⟩
abbrev cX5_refusalOfItem : ByteArray := prog_1_method_44_code
def yX5_refusalOfItem : MethodName := ⟨RX5, "refusalOfItem", "(III)I"⟩
def RX6 : String := "RenameGraphModel"
def TX6 : u_T := fun k => match k with
  | 0 => ("RenameGraphModel", "typed", "I", false)
  | 1 => ("RenameGraphModel", "text", "[I", true)
  | 2 => ("RenameGraphModel", "known", "I", false)
  | 3 => ("RenameGraphModel", "knownFrom", "I", false)
  | 4 => ("RenameGraphModel", "oldTyped", "[I", true)
  | 5 => ("RenameGraphModel", "oldText", "[I", true)
  | 6 => ("RenameGraphModel", "faultAt", "I", false)
  | 7 => ("RenameGraphModel", "nodes", "I", false)
  | 8 => ("RenameGraphModel", "isUse", "[I", true)
  | 9 => ("RenameGraphModel", "name", "[I", true)
  | 10 => ("RenameGraphModel", "scopeOf", "[I", true)
  | 11 => ("RenameGraphModel", "outs", "[I", true)
  | 12 => ("RenameGraphModel", "placeOf", "[I", true)
  | 13 => ("RenameGraphModel", "scopes", "I", false)
  | 14 => ("RenameGraphModel", "around", "[I", true)
  | 15 => ("RenameGraphModel", "extended", "[I", true)
  | 16 => ("RenameGraphModel", "isEnded", "[I", true)
  | 17 => ("RenameGraphModel", "nameNow", "[I", true)
  | 18 => ("RenameGraphModel", "outsNow", "[I", true)
  | 19 => ("RenameGraphModel", "declared", "[I", true)
  | 20 => ("RenameGraphModel", "boundTo", "[I", true)
  | 21 => ("RenameGraphModel", "familyOf", "[I", true)
  | 22 => ("RenameGraphModel", "familyNow", "[I", true)
  | 23 => ("RenameGraphModel", "made", "[I", true)
  | 24 => ("RenameGraphModel", "isThere", "[Z", true)
  | 25 => ("RenameGraphModel", "forms", "[I", true)
  | 26 => ("RenameGraphModel", "sizes", "[I", true)
  | 27 => ("RenameGraphModel", "items", "[I", true)
  | 28 => ("RenameGraphModel", "moved", "[I", true)
  | _ => ("RenameGraphModel", "finding", "I", false)
def tyX6 : Nat → FieldType := fun k => match k with
  | 0 => .int
  | 1 => .array .int
  | 2 => .int
  | 3 => .int
  | 4 => .array .int
  | 5 => .array .int
  | 6 => .int
  | 7 => .int
  | 8 => .array .int
  | 9 => .array .int
  | 10 => .array .int
  | 11 => .array .int
  | 12 => .array .int
  | 13 => .int
  | 14 => .array .int
  | 15 => .array .int
  | 16 => .array .int
  | 17 => .array .int
  | 18 => .array .int
  | 19 => .array .int
  | 20 => .array .int
  | 21 => .array .int
  | 22 => .array .int
  | 23 => .array .int
  | 24 => .array .boolean
  | 25 => .array .int
  | 26 => .array .int
  | 27 => .array .int
  | 28 => .array .int
  | _ => .int
abbrev wsX60 : List Cond := u_ws RX6 TX6 30
theorem nmX6 : ∀ a, a < 30 → ∀ b, b < 30 → a ≠ b → (TX6 a).2.1 ≠ (TX6 b).2.1 := by decide +kernel
theorem tyX6_ok : ∀ k, k < 30 → parseFieldDescriptor (TX6 k).2.2.1 = some (tyX6 k) := by decide +kernel
abbrev cX6_init : ByteArray := prog_8_method_1_code
def yX6_init : MethodName := ⟨RX6, "<init>", "()V"⟩
abbrev cX6_in : ByteArray := prog_8_method_3_code
def yX6_in : MethodName := ⟨RX6, "in", "(III)Z"⟩
abbrev cX6_isIn : ByteArray := prog_8_method_4_code
def yX6_isIn : MethodName := ⟨RX6, "isIn", "(JI)Z"⟩
abbrev cX6_no : ByteArray := prog_8_method_5_code
def yX6_no : MethodName := ⟨RX6, "no", "(I)J"⟩
abbrev cX6_isName : ByteArray := prog_8_method_6_code
def yX6_isName : MethodName := ⟨RX6, "isName", "(I)Z"⟩
abbrev cX6_types : ByteArray := prog_8_method_7_code
def yX6_types : MethodName := ⟨RX6, "types", "(I)I"⟩
abbrev cX6_type : ByteArray := prog_8_method_8_code
def yX6_type : MethodName := ⟨RX6, "type", "(I)I"⟩
abbrev cX6_wipe : ByteArray := prog_8_method_9_code
def yX6_wipe : MethodName := ⟨RX6, "wipe", "()I"⟩
abbrev cX6_undo : ByteArray := prog_8_method_10_code
def yX6_undo : MethodName := ⟨RX6, "undo", "()I"⟩
abbrev cX6_read : ByteArray := prog_8_method_11_code
def yX6_read : MethodName := ⟨RX6, "read", "(I)I"⟩
abbrev cX6_shownOf : ByteArray := prog_8_method_12_code
def yX6_shownOf : MethodName := ⟨RX6, "shownOf", "(I)I"⟩
abbrev cX6_shown : ByteArray := prog_8_method_13_code
def yX6_shown : MethodName := ⟨RX6, "shown", "(I)I"⟩
abbrev cX6_isTwice : ByteArray := prog_8_method_14_code
def yX6_isTwice : MethodName := ⟨RX6, "isTwice", "(II)Z"⟩
abbrev cX6_adds : ByteArray := prog_8_method_15_code
def yX6_adds : MethodName := ⟨RX6, "adds", "(IIIII)V"⟩
abbrev cX6_opens : ByteArray := prog_8_method_16_code
def yX6_opens : MethodName := ⟨RX6, "opens", "(I)V"⟩
abbrev cX6_readsText : ByteArray := prog_8_method_17_code
def yX6_readsText : MethodName := ⟨RX6, "readsText", "()I"⟩
abbrev cX6_reads : ByteArray := prog_8_method_18_code
def yX6_reads : MethodName := ⟨RX6, "reads", "()V"⟩
abbrev cX6_asTold : ByteArray := prog_8_method_19_code
def yX6_asTold : MethodName := ⟨RX6, "asTold", "()V"⟩
abbrev cX6_declares : ByteArray := prog_8_method_20_code
def yX6_declares : MethodName := ⟨RX6, "declares", "()V"⟩
abbrev cX6_ownNow : ByteArray := prog_8_method_21_code
def yX6_ownNow : MethodName := ⟨RX6, "ownNow", "(II)I"⟩
abbrev cX6_boundFrom : ByteArray := prog_8_method_22_code
def yX6_boundFrom : MethodName := ⟨RX6, "boundFrom", "(III)I"⟩
abbrev cX6_boundNow : ByteArray := prog_8_method_23_code
def yX6_boundNow : MethodName := ⟨RX6, "boundNow", "(I)I"⟩
abbrev cX6_standsFor : ByteArray := prog_8_method_24_code
def yX6_standsFor : MethodName := ⟨RX6, "standsFor", "(I)I"⟩
abbrev cX6_findsFamilies : ByteArray := prog_8_method_25_code
def yX6_findsFamilies : MethodName := ⟨RX6, "findsFamilies", "()V"⟩
abbrev cX6_faultOf : ByteArray := prog_8_method_26_code
def yX6_faultOf : MethodName := ⟨RX6, "faultOf", "()I"⟩
abbrev cX6_fault : ByteArray := prog_8_method_27_code
def yX6_fault : MethodName := ⟨RX6, "fault", "()I"⟩
abbrev cX6_isNode : ByteArray := prog_8_method_28_code
def yX6_isNode : MethodName := ⟨RX6, "isNode", "(I)Z"⟩
abbrev cX6_nodeOf : ByteArray := prog_8_method_29_code
def yX6_nodeOf : MethodName := ⟨RX6, "nodeOf", "(II)I"⟩
abbrev cX6_node : ByteArray := prog_8_method_30_code
def yX6_node : MethodName := ⟨RX6, "node", "(II)I"⟩
abbrev cX6_isScope : ByteArray := prog_8_method_31_code
def yX6_isScope : MethodName := ⟨RX6, "isScope", "(I)Z"⟩
abbrev cX6_manyIn : ByteArray := prog_8_method_32_code
def yX6_manyIn : MethodName := ⟨RX6, "manyIn", "(II)I"⟩
abbrev cX6_scopeFor : ByteArray := prog_8_method_33_code
def yX6_scopeFor : MethodName := ⟨RX6, "scopeFor", "(II)I"⟩
abbrev cX6_scope : ByteArray := prog_8_method_34_code
def yX6_scope : MethodName := ⟨RX6, "scope", "(II)I"⟩
abbrev cX6_bound : ByteArray := prog_8_method_35_code
def yX6_bound : MethodName := ⟨RX6, "bound", "(I)I"⟩
abbrev cX6_own : ByteArray := prog_8_method_36_code
def yX6_own : MethodName := ⟨RX6, "own", "(II)I"⟩
abbrev cX6_familyBits : ByteArray := prog_8_method_37_code
def yX6_familyBits : MethodName := ⟨RX6, "familyBits", "(I)J"⟩
abbrev cX6_family : ByteArray := prog_8_method_38_code
def yX6_family : MethodName := ⟨RX6, "family", "(I)J"⟩
abbrev cX6_usesOf : ByteArray := prog_8_method_39_code
def yX6_usesOf : MethodName := ⟨RX6, "usesOf", "(I)J"⟩
abbrev cX6_uses : ByteArray := prog_8_method_40_code
def yX6_uses : MethodName := ⟨RX6, "uses", "(I)J"⟩
abbrev cX6_hidesOf : ByteArray := prog_8_method_41_code
def yX6_hidesOf : MethodName := ⟨RX6, "hidesOf", "(I)I"⟩
abbrev cX6_hides : ByteArray := prog_8_method_42_code
def yX6_hides : MethodName := ⟨RX6, "hides", "(I)I"⟩
abbrev cX6_idleNow : ByteArray := prog_8_method_43_code
def yX6_idleNow : MethodName := ⟨RX6, "idleNow", "()J"⟩
abbrev cX6_idleOf : ByteArray := prog_8_method_44_code
def yX6_idleOf : MethodName := ⟨RX6, "idleOf", "()J"⟩
abbrev cX6_idle : ByteArray := prog_8_method_45_code
def yX6_idle : MethodName := ⟨RX6, "idle", "()J"⟩
abbrev cX6_renames : ByteArray := prog_8_method_46_code
def yX6_renames : MethodName := ⟨RX6, "renames", "(II)V"⟩
abbrev cX6_fresh : ByteArray := prog_8_method_47_code
def yX6_fresh : MethodName := ⟨RX6, "fresh", "()I"⟩
abbrev cX6_pushes : ByteArray := prog_8_method_48_code
def yX6_pushes : MethodName := ⟨RX6, "pushes", "(II)V"⟩
abbrev cX6_areOnce : ByteArray := prog_8_method_49_code
def yX6_areOnce : MethodName := ⟨RX6, "areOnce", "()Z"⟩
abbrev cX6_areFamilies : ByteArray := prog_8_method_50_code
def yX6_areFamilies : MethodName := ⟨RX6, "areFamilies", "()Z"⟩
abbrev cX6_areBound : ByteArray := prog_8_method_51_code
def yX6_areBound : MethodName := ⟨RX6, "areBound", "()Z"⟩
abbrev cX6_isWell : ByteArray := prog_8_method_52_code
def yX6_isWell : MethodName := ⟨RX6, "isWell", "()Z"⟩
abbrev cX6_goesOut : ByteArray := prog_8_method_53_code
def yX6_goesOut : MethodName := ⟨RX6, "goesOut", "()V"⟩
abbrev cX6_editsNow : ByteArray := prog_8_method_54_code
def yX6_editsNow : MethodName := ⟨RX6, "editsNow", "()I"⟩
abbrev cX6_bytesNow : ByteArray := prog_8_method_55_code
def yX6_bytesNow : MethodName := ⟨RX6, "bytesNow", "()I"⟩
abbrev cX6_editsBy : ByteArray := prog_8_method_56_code
def yX6_editsBy : MethodName := ⟨RX6, "editsBy", "(III)I"⟩
abbrev cX6_bestNow : ByteArray := prog_8_method_57_code
def yX6_bestNow : MethodName := ⟨RX6, "bestNow", "(II)I"⟩
abbrev cX6_planOf : ByteArray := prog_8_method_58_code
def yX6_planOf : MethodName := ⟨RX6, "planOf", "(III)I"⟩
abbrev cX6_asked : ByteArray := prog_8_method_59_code
def yX6_asked : MethodName := ⟨RX6, "asked", "(IIZ)I"⟩
abbrev cX6_plan : ByteArray := prog_8_method_60_code
def yX6_plan : MethodName := ⟨RX6, "plan", "(III)I"⟩
abbrev cX6_edits : ByteArray := prog_8_method_61_code
def yX6_edits : MethodName := ⟨RX6, "edits", "(III)I"⟩
abbrev cX6_caughtOf : ByteArray := prog_8_method_62_code
def yX6_caughtOf : MethodName := ⟨RX6, "caughtOf", "(III)I"⟩
abbrev cX6_caught : ByteArray := prog_8_method_63_code
def yX6_caught : MethodName := ⟨RX6, "caught", "(III)I"⟩
abbrev cX6_easyOf : ByteArray := prog_8_method_64_code
def yX6_easyOf : MethodName := ⟨RX6, "easyOf", "(I)I"⟩
abbrev cX6_easy : ByteArray := prog_8_method_65_code
def yX6_easy : MethodName := ⟨RX6, "easy", "(I)I"⟩
abbrev cX6_remembers : ByteArray := prog_8_method_66_code
def yX6_remembers : MethodName := ⟨RX6, "remembers", "()V"⟩
abbrev cX6_writesText : ByteArray := prog_8_method_67_code
def yX6_writesText : MethodName := ⟨RX6, "writesText", "()V"⟩
abbrev cX6_renameOf : ByteArray := prog_8_method_68_code
def yX6_renameOf : MethodName := ⟨RX6, "renameOf", "(II)I"⟩
abbrev cX6_rename : ByteArray := prog_8_method_69_code
def yX6_rename : MethodName := ⟨RX6, "rename", "(II)I"⟩
abbrev cX6_back : ByteArray := prog_8_method_70_code
def yX6_back : MethodName := ⟨RX6, "back", "()I"⟩
abbrev cX6_meets : ByteArray := prog_8_method_71_code
def yX6_meets : MethodName := ⟨RX6, "meets", "(I)I"⟩
abbrev cX6_isSheet : ByteArray := prog_8_method_72_code
def yX6_isSheet : MethodName := ⟨RX6, "isSheet", "(I)Z"⟩
abbrev cX6_sheet : ByteArray := prog_8_method_73_code
def yX6_sheet : MethodName := ⟨RX6, "sheet", "(III)I"⟩
abbrev cX6_lose : ByteArray := prog_8_method_74_code
def yX6_lose : MethodName := ⟨RX6, "lose", "(I)I"⟩
abbrev cX6_lacks : ByteArray := prog_8_method_75_code
def yX6_lacks : MethodName := ⟨RX6, "lacks", "(III)I"⟩
abbrev cX6_keep : ByteArray := prog_8_method_76_code
def yX6_keep : MethodName := ⟨RX6, "keep", "(III)V"⟩
abbrev cX6_put : ByteArray := prog_8_method_77_code
def yX6_put : MethodName := ⟨RX6, "put", "(IIII)I"⟩
abbrev cX6_get : ByteArray := prog_8_method_78_code
def yX6_get : MethodName := ⟨RX6, "get", "(III)I"⟩
abbrev cX6_copy : ByteArray := prog_8_method_79_code
def yX6_copy : MethodName := ⟨RX6, "copy", "(IIIII)I"⟩
abbrev cX6_write : ByteArray := prog_8_method_80_code
def yX6_write : MethodName := ⟨RX6, "write", "(I)I"⟩
abbrev cX6_tellOf : ByteArray := prog_8_method_81_code
def yX6_tellOf : MethodName := ⟨RX6, "tellOf", "(I)I"⟩
abbrev cX6_idleMany : ByteArray := prog_8_method_82_code
def yX6_idleMany : MethodName := ⟨RX6, "idleMany", "()I"⟩
abbrev cX6_count : ByteArray := prog_8_method_83_code
def yX6_count : MethodName := ⟨RX6, "count", "(I)I"⟩
abbrev cX6_nameDigest : ByteArray := prog_8_method_84_code
def yX6_nameDigest : MethodName := ⟨RX6, "nameDigest", "(JII)J"⟩
abbrev cX6_nodeDigest : ByteArray := prog_8_method_85_code
def yX6_nodeDigest : MethodName := ⟨RX6, "nodeDigest", "(JI)J"⟩
abbrev cX6_digest : ByteArray := prog_8_method_86_code
def yX6_digest : MethodName := ⟨RX6, "digest", "()J"⟩
def RJ13 : String := "java/lang/Long"
abbrev cJ13_bitCount_95d88 : ByteArray := prog_9_method_50_code
def yJ13_bitCount_95d88 : MethodName := ⟨RJ13, "bitCount", "(J)I"⟩
def RJ9 : String := "java/lang/Math"
abbrev cJ9_abs_0f7a4 : ByteArray := prog_10_method_59_code
def yJ9_abs_0f7a4 : MethodName := ⟨RJ9, "abs", "(I)I"⟩
abbrev cJ9_min_7cf53 : ByteArray := prog_10_method_69_code
def yJ9_min_7cf53 : MethodName := ⟨RJ9, "min", "(II)I"⟩
def RJ10 : String := "java/lang/System"
def RJ7 : String := "java/util/Arrays"
abbrev cJ7_fill_53178 : ByteArray := prog_12_method_103_code
def yJ7_fill_53178 : MethodName := ⟨RJ7, "fill", "([II)V"⟩
def RL : String := "RenameGraphLaw"
abbrev cL_law : ByteArray := code
def yL_law : MethodName := ⟨RL, "law", "([I)Z"⟩
abbrev vwCl : List vw_C := [(RX0, TX0, 6), (RX1, TX1, 4), (RX2, TX2, 4), (RX3, TX3, 6), (RX4, TX4, 16), (RX5, TX5, 6), (RX6, TX6, 30)]
end
section
/-! ===== an abstract machine: ints are whole numbers, references are places in two rows of cells; a step is a condition on what follows ===== -/
def iI (z : Int) : Int32 := Int32.ofInt z
def rg (z : Int) : Prop := -2147483648 ≤ z ∧ z ≤ 2147483647
abbrev AV : Type := Int ⊕ (Int64 ⊕ Option Nat)
abbrev AC : Type := (Nat × Nat × ((Int → Int) ⊕ ((Int → Int64) ⊕ (Int → Option Nat)))) ⊕ (Nat × List AV)
abbrev AH : Type := List AC × List AC
abbrev AE : Type := Instr × Nat × Nat × Nat
abbrev KT : Type := Nat → List AV → List AV → AH → Nat → Nat → Prop
abbrev vI (z : Int) : AV := .inl z
abbrev vL (x : Int64) : AV := .inr (.inl x)
abbrev vR (k : Nat) : AV := .inr (.inr (some k))
abbrev vN : AV := .inr (.inr none)
abbrev cI (n : Nat) (f : Int → Int) : AC := .inl (0, n, .inl f)
abbrev cJ (n : Nat) (f : Int → Int64) : AC := .inl (1, n, .inr (.inl f))
abbrev cZ (n : Nat) (f : Int → Int) : AC := .inl (2, n, .inl f)
abbrev cS (n : Nat) (f : Int → Option Nat) : AC := .inl (3, n, .inr (.inr f))
abbrev cII (n : Nat) (f : Int → Option Nat) : AC := .inl (4, n, .inr (.inr f))
abbrev cO (c : Nat) (fs : List AV) : AC := .inr (c, fs)
def upZ {α : Type} (f : Int → α) (j : Int) (x : α) : Int → α := fun q => if q = j then x else f q
def cpZ (f g : Int → Int) (sp dp n : Int) : Int → Int := fun k => if dp ≤ k ∧ k < dp + n then f (sp + (k - dp)) else g k
def dgF : Int → Int := fun j => if j = 0 then 97 else if j = 1 then 99 else 120
def andZ (x y : Int) : Int := (iI x &&& iI y).toInt
def orZ (x y : Int) : Int := (iI x ||| iI y).toInt
def shlZ (x y : Int) : Int := (iI x <<< (iI y &&& 31)).toInt
def remZ (x y : Int) : Int := (iI x - iI x / iI y * iI y).toInt
def i2bZ (x : Int) : Int := (iI x).toInt8.toInt32.toInt
def i2sZ (x : Int) : Int := (iI x).toInt16.toInt32.toInt
def i2lZ (x : Int) : Int64 := (iI x).toInt64
def l2iZ (x : Int64) : Int := x.toInt32.toInt
def shlL (x : Int64) (y : Int) : Int64 := x <<< ((iI y).toInt64 &&& 63)
def shrL (x : Int64) (y : Int) : Int64 := x >>> ((iI y).toInt64 &&& 63)
def ushrL (x : Int64) (y : Int) : Int64 := (x.toUInt64 >>> ((iI y).toInt64.toUInt64 &&& Int64.toUInt64 63)).toInt64
def lcZ (x y : Int64) : Int := (lg_cmp x y).toInt
def IxOK (j : Int) (n : Nat) : Prop := 0 ≤ j ∧ j < (n : Int)
/-- how many cells the class makes -/
def nA : Nat := 67
def gtK {α : Type} (f : α → Prop) : List α → Nat → Prop
  | [], _ => False
  | a :: _, 0 => f a
  | _ :: l, n + 1 => gtK f l n
def stK {α : Type} (v : α) : List α → Nat → (List α → Prop) → Prop
  | [], _, _ => False
  | _ :: l, 0, k => k (v :: l)
  | a :: l, n + 1, k => stK v l n (fun l' => k (a :: l'))
def hG (f : AC → Prop) : AH → Nat → Prop
  | (a, b), k => cond (Nat.blt k 200) (gtK f a k) (gtK f b (k - 200))
def hS (c : AC) (f : AH → Prop) : AH → Nat → Prop
  | (a, b), k => cond (Nat.blt k 200) (stK c a k (fun l => f (l, b))) (stK c b (k - 200) (fun l => f (a, l)))
def apK {α : Type} (c : α) : List α → (List α → Prop) → Prop
  | [], k => k [c]
  | x :: l, k => apK c l (fun l' => k (x :: l'))
/-- a new cell, in the class's row or in the reference's -/
def hN (c : AC) (f : Nat → AH → Prop) : AH → Nat → Prop
  | (a, []), 0 => ∃ q : Nat, q = a.length ∧ q < 200 ∧ apK c a (fun l => f q (l, []))
  | (_, _ :: _), 0 => False
  | (a, []), _ + 1 => a.length = nA ∧ f 200 (a, [c])
  | (a, y :: b), _ + 1 => ∃ q : Nat, q = 200 + (b.length + 1) ∧ q < 800 ∧ apK c (y :: b) (fun l => f q (a, l))
/-- n new cells of one kind behind each other -/
def hNs (c : AC) : Nat → AH → (AH → Prop) → Prop
  | 0, h, f => f h
  | n + 1, h, f => hN c (fun _ h' => hNs c n h' f) h 0
def pI : List AV → (Int → List AV → Prop) → Prop
  | .inl x :: r, f => f x r
  | _, _ => False
def pL : List AV → (Int64 → List AV → Prop) → Prop
  | .inr (.inl x) :: r, f => f x r
  | _, _ => False
def pR : List AV → (Nat → List AV → Prop) → Prop
  | .inr (.inr (some a)) :: r, f => f a r
  | _, _ => False
def pV : List AV → (AV → List AV → Prop) → Prop
  | v :: r, f => f v r
  | [], _ => False
def pN : Nat → List AV → List AV → (List AV → List AV → Prop) → Prop
  | 0, acc, st, f => f acc st
  | n + 1, acc, v :: st, f => pN n (v :: acc) st f
  | _ + 1, _, [], _ => False
def isI : AV → (Int → Prop) → Prop
  | .inl x, f => f x
  | _, _ => False
def isL : AV → (Int64 → Prop) → Prop
  | .inr (.inl x), f => f x
  | _, _ => False
def isR : AV → (Nat → Prop) → Prop
  | .inr (.inr (some a)), f => f a
  | _, _ => False
def one : AV → Bool
  | .inr (.inl _) => false
  | _ => true
def cats : List AV → Nat
  | [] => 0
  | .inr (.inl _) :: r => cats r + 2
  | _ :: r => cats r + 1
def okS (LL : Nat → Bool) : Nat → Bool
  | 0 => true
  | j + 1 => !(LL j)
def isO (ci : Nat) (f : List AV → Prop) : AC → Prop
  | .inr (c, fs) => cond (Nat.beq c ci) (f fs) False
  | .inl _ => False
/-- an array of whole numbers, of the kind t -/
def isA (t : Nat) (f : Nat → (Int → Int) → Prop) : AC → Prop
  | .inl (t', n, .inl g) => cond (Nat.beq t' t) (cond (Nat.blt n 100000) (f n g) False) False
  | _ => False
def isAL (f : Nat → (Int → Int64) → Prop) : AC → Prop
  | .inl (1, n, .inr (.inl g)) => cond (Nat.blt n 100000) (f n g) False
  | _ => False
def isAR (f : Nat → Nat → (Int → Option Nat) → Prop) : AC → Prop
  | .inl (3, n, .inr (.inr g)) => cond (Nat.blt n 100000) (f 3 n g) False
  | .inl (4, n, .inr (.inr g)) => cond (Nat.blt n 100000) (f 4 n g) False
  | _ => False
def isAny (f : Nat → Prop) : AC → Prop
  | .inl (0, n, .inl _) => f n
  | .inl (1, n, .inr (.inl _)) => f n
  | .inl (2, n, .inl _) => f n
  | _ => False
def fitK (v : AV) (P : Prop) : FieldType → Prop
  | .int => isI v (fun _ => P)
  | .boolean => isI v (fun x => (x = 0 ∨ x = 1) ∧ P)
  | .object _ => isR v (fun _ => P)
  | .array _ => isR v (fun _ => P)
  | _ => False
def cmpK (x y : Int) (A B : Prop) : ClassFile.Cond → Prop
  | .eq => (x = y → A) ∧ (¬ x = y → B)
  | .ne => (¬ x = y → A) ∧ (x = y → B)
  | .lt => (x < y → A) ∧ (¬ x < y → B)
  | .ge => (y ≤ x → A) ∧ (¬ y ≤ x → B)
  | .gt => (y < x → A) ∧ (¬ y < x → B)
  | .le => (x ≤ y → A) ∧ (¬ x ≤ y → B)
def swK (x : Int) (f : Nat → Prop) (d : Nat) : List (Int × Nat) → Prop
  | [] => f d
  | (v, t) :: r => (x = v → f t) ∧ (¬ x = v → swK x f d r)
def tyT : Nat → Nat → FieldType
  | 0, k => tyX0 k
  | 1, k => tyX1 k
  | 2, k => tyX2 k
  | 3, k => tyX3 k
  | 4, k => tyX4 k
  | 5, k => tyX5 k
  | _, k => tyX6 k
def dflt : FieldType → AV
  | .int => vI 0
  | .boolean => vI 0
  | _ => vN
def nF : Nat → Nat
  | 0 => 6
  | 1 => 4
  | 2 => 4
  | 3 => 6
  | 4 => 16
  | 5 => 6
  | _ => 30
def dfs (ci : Nat) : Nat → List AV
  | 0 => []
  | n + 1 => dfs ci n ++ [dflt (tyT ci n)]
def pushV : Option AV → List AV → List AV
  | some v, r => v :: r
  | none, r => r
def segs : Nat → Nat
  | 6 => 1
  | _ => 0
/-- what an instruction asks of what follows. ro: the script; dep: how deep calls may go; RN: a call; LL: the places of longs; mc ms: how many cells and slots may be made; Q: the end -/
def stp (ro : Nat × (Int → Int)) (dep : Nat) (RN : Nat → List AV → AH → (Option AV → AH → Prop) → Prop) (Mmc Mms Mci : Nat → Nat) (SW : Nat → List (Int × Nat)) (LL : Nat → Bool) (mc ms : Nat) (Q : Option AV → AH → Prop) (e : AE) (al st : List AV) (h : AH) (c s : Nat) (k : KT) : Prop :=
  match e with
  | (i, nx, x1, x2) =>
  match i with
  | .aload_n _ => gtK (fun v => isR v fun a => k nx al (vR a :: st) h c s) al x1
  | .aload _ => gtK (fun v => isR v fun a => k nx al (vR a :: st) h c s) al x1
  | .iload_n _ => gtK (fun v => isI v fun a => k nx al (vI a :: st) h c s) al x1
  | .iload _ => gtK (fun v => isI v fun a => k nx al (vI a :: st) h c s) al x1
  | .lload_n _ => gtK (fun v => isL v fun a => k nx al (vL a :: st) h c s) al x1
  | .lload _ => gtK (fun v => isL v fun a => k nx al (vL a :: st) h c s) al x1
  | .astore_n _ => pR st fun a r => cond (okS LL x1) (stK (vR a) al x1 fun al => k nx al r h c s) False
  | .astore _ => pR st fun a r => cond (okS LL x1) (stK (vR a) al x1 fun al => k nx al r h c s) False
  | .istore_n _ => pI st fun a r => cond (okS LL x1) (stK (vI a) al x1 fun al => k nx al r h c s) False
  | .istore _ => pI st fun a r => cond (okS LL x1) (stK (vI a) al x1 fun al => k nx al r h c s) False
  | .lstore_n _ => pL st fun a r => cond (okS LL x1 && LL x1) (stK (vL a) al x1 fun al => k nx al r h c s) False
  | .lstore _ => pL st fun a r => cond (okS LL x1 && LL x1) (stK (vL a) al x1 fun al => k nx al r h c s) False
  | .iinc _ n => gtK (fun v => isI v fun a => cond (okS LL x1) (stK (vI (a + n)) al x1 fun al => k nx al st h c s) False) al x1
  | .iconst n => k nx al (vI n :: st) h c s
  | .bipush n => k nx al (vI n :: st) h c s
  | .sipush n => k nx al (vI n :: st) h c s
  | .lconst _ => k nx al (vL (Int64.ofNat x1) :: st) h c s
  | .ldc _ => k nx al (vI (-2147483648) :: st) h c s
  | .ldc_w _ => k nx al (vI (-2147483648) :: st) h c s
  | .ldc2_w _ => k nx al (vL (Int64.ofNat x1) :: st) h c s
  | .iadd => pI st fun y r => pI r fun x r => k nx al (vI (x + y) :: r) h c s
  | .isub => pI st fun y r => pI r fun x r => k nx al (vI (x - y) :: r) h c s
  | .imul => pI st fun y r => pI r fun x r => k nx al (vI (x * y) :: r) h c s
  | .irem => pI st fun y r => pI r fun x r => (rg y ∧ y ≠ 0) ∧ k nx al (vI (remZ x y) :: r) h c s
  | .iand => pI st fun y r => pI r fun x r => k nx al (vI (andZ x y) :: r) h c s
  | .ior => pI st fun y r => pI r fun x r => k nx al (vI (orZ x y) :: r) h c s
  | .ishl => pI st fun y r => pI r fun x r => k nx al (vI (shlZ x y) :: r) h c s
  | .ineg => pI st fun x r => k nx al (vI (-x) :: r) h c s
  | .i2b => pI st fun x r => k nx al (vI (i2bZ x) :: r) h c s
  | .i2s => pI st fun x r => k nx al (vI (i2sZ x) :: r) h c s
  | .i2l => pI st fun x r => k nx al (vL (i2lZ x) :: r) h c s
  | .l2i => pL st fun x r => k nx al (vI (l2iZ x) :: r) h c s
  | .ladd => pL st fun y r => pL r fun x r => k nx al (vL (x + y) :: r) h c s
  | .lsub => pL st fun y r => pL r fun x r => k nx al (vL (x - y) :: r) h c s
  | .lmul => pL st fun y r => pL r fun x r => k nx al (vL (x * y) :: r) h c s
  | .land => pL st fun y r => pL r fun x r => k nx al (vL (x &&& y) :: r) h c s
  | .lor => pL st fun y r => pL r fun x r => k nx al (vL (x ||| y) :: r) h c s
  | .lxor => pL st fun y r => pL r fun x r => k nx al (vL (x ^^^ y) :: r) h c s
  | .lshl => pI st fun y r => pL r fun x r => k nx al (vL (shlL x y) :: r) h c s
  | .lshr => pI st fun y r => pL r fun x r => k nx al (vL (shrL x y) :: r) h c s
  | .lushr => pI st fun y r => pL r fun x r => k nx al (vL (ushrL x y) :: r) h c s
  | .lcmp => pL st fun y r => pL r fun x r => k nx al (vI (lcZ x y) :: r) h c s
  | .dup => pV st fun v r => cond (one v) (k nx al (v :: v :: r) h c s) False
  | .dup2 => pV st fun v r => pV r fun w r => cond (one v && one w) (k nx al (v :: w :: v :: w :: r) h c s) False
  | .pop => pV st fun v r => cond (one v) (k nx al r h c s) False
  | .goto _ => k x1 al st h c s
  | .if_icmp cd _ => pI st fun y r => pI r fun x r => rg x ∧ rg y ∧ cmpK x y (k x1 al r h c s) (k nx al r h c s) cd
  | .ifCond cd _ => pI st fun x r => rg x ∧ cmpK x 0 (k x1 al r h c s) (k nx al r h c s) cd
  | .tableswitch _ _ _ _ => pI st fun x r => rg x ∧ swK x (fun t => k t al r h c s) x1 (SW x2)
  | .lookupswitch _ _ => pI st fun x r => rg x ∧ swK x (fun t => k t al r h c s) x1 (SW x2)
  | .getfield _ => pR st fun a r => hG (isO x1 fun fs => gtK (fun v => k nx al (v :: r) h c s) fs x2) h a
  | .putfield _ => pV st fun v r => pR r fun a r => hG (isO x1 fun fs => fitK v (stK v fs x2 fun fs' => hS (cO x1 fs') (fun h' => k nx al r h' c s) h a) (tyT x1 x2)) h a
  | .getstatic _ => k nx al (vR 901 :: st) h c s
  | .iaload => pI st fun j r => pR r fun a r => cond (Nat.blt a 900) (hG (isA 0 fun n f => IxOK j n ∧ k nx al (vI (f j) :: r) h c s) h a) (cond (Nat.beq a 900) (IxOK j ro.1 ∧ k nx al (vI (ro.2 j) :: r) h c s) (cond (Nat.beq a 901) (IxOK j 3 ∧ k nx al (vI (dgF j) :: r) h c s) False))
  | .baload => pI st fun j r => pR r fun a r => hG (isA 2 fun n f => IxOK j n ∧ k nx al (vI (f j) :: r) h c s) h a
  | .laload => pI st fun j r => pR r fun a r => hG (isAL fun n f => IxOK j n ∧ k nx al (vL (f j) :: r) h c s) h a
  | .aaload => pI st fun j r => pR r fun a r => hG (isAR fun _ n f => IxOK j n ∧ k nx al (.inr (.inr (f j)) :: r) h c s) h a
  | .iastore => pI st fun x r => pI r fun j r => pR r fun a r => hG (isA 0 fun n f => IxOK j n ∧ hS (cI n (upZ f j x)) (fun h' => k nx al r h' c s) h a) h a
  | .bastore => pI st fun x r => pI r fun j r => pR r fun a r => hG (isA 2 fun n f => (x = 0 ∨ x = 1) ∧ IxOK j n ∧ hS (cZ n (upZ f j x)) (fun h' => k nx al r h' c s) h a) h a
  | .lastore => pL st fun x r => pI r fun j r => pR r fun a r => hG (isAL fun n f => IxOK j n ∧ hS (cJ n (upZ f j x)) (fun h' => k nx al r h' c s) h a) h a
  | .aastore => pR st fun v r => pI r fun j r => pR r fun a r => hG (isO 2 fun _ => hG (isAR fun t n f => t = 3 ∧ IxOK j n ∧ hS (cS n (upZ f j (some v))) (fun h' => k nx al r h' c s) h a) h a) h v
  | .arraylength => pR st fun a r => cond (Nat.blt a 900) (hG (isAny fun n => k nx al (vI n :: r) h c s) h a) (cond (Nat.beq a 900) (k nx al (vI ro.1 :: r) h c s) (cond (Nat.beq a 901) (k nx al (vI 3 :: r) h c s) False))
  | .new _ => cond (Nat.ble (c + 1) mc && Nat.ble (s + nF x1) ms) (hN (cO x1 (dfs x1 (nF x1))) (fun q h' => k nx al (vR q :: st) h' (c + 1) (s + nF x1)) h (segs x1)) False
  | .newarray t => pI st fun n r => cond (Nat.ble (c + 1) mc && Nat.ble (s + n.toNat) ms && Nat.blt n.toNat 100000) (0 ≤ n ∧ hN (match t with | .int => cI n.toNat (fun _ => 0) | .long => cJ n.toNat (fun _ => 0) | _ => cZ n.toNat (fun _ => 0)) (fun q h' => k nx al (vR q :: r) h' (c + 1) (s + n.toNat)) h x2) False
  | .anewarray _ => pI st fun n r => cond (Nat.ble (c + 1) mc && Nat.ble (s + n.toNat) ms && Nat.blt n.toNat 100000) (0 ≤ n ∧ hN (cS n.toNat (fun _ => none)) (fun q h' => k nx al (vR q :: r) h' (c + 1) (s + n.toNat)) h x2) False
  | .multianewarray _ _ => pI st fun n r => pI r fun o r => cond (Nat.ble (c + 1 + o.toNat) mc && Nat.ble (s + o.toNat + o.toNat * n.toNat) ms && Nat.blt n.toNat 1000 && Nat.blt o.toNat 1000) (0 ≤ n ∧ 0 ≤ o ∧ hN (cII o.toNat (fun j => some (h.1.length + 1 + j.toNat))) (fun q h' => hNs (cI n.toNat (fun _ => 0)) o.toNat h' (fun h'' => k nx al (vR q :: r) h'' (c + 1 + o.toNat) (s + o.toNat + o.toNat * n.toNat))) h 0) False
  | .invokevirtual _ => pN x2 [] st fun as r => pR r fun a r => cond (Nat.ble (cats r) 8) (hG (isO (Mci x1) fun _ => RN x1 (vR a :: as) h (fun v h' => k nx al (pushV v r) h' c s)) h a) False
  | .invokespecial _ => cond (Nat.beq x1 999) (pR st fun _ r => cond (Nat.ble (cats r) 8 && Nat.ble 1 dep) (k nx al r h c s) False) (pN x2 [] st fun as r => pR r fun a r => cond (Nat.ble (cats r) 8 && Nat.ble (c + Mmc x1) mc && Nat.ble (s + Mms x1) ms) (RN x1 (vR a :: as) h (fun v h' => k nx al (pushV v r) h' (c + Mmc x1) (s + Mms x1))) False)
  | .invokestatic _ => cond (Nat.blt x1 900) (pN x2 [] st fun as r => cond (Nat.ble (cats r) 8) (RN x1 as h (fun v h' => k nx al (pushV v r) h' c s)) False)
      (cond (Nat.beq x1 996) (pI st fun y r => pI r fun x r => cond (Nat.ble (cats r) 8 && Nat.ble 1 dep) (rg x ∧ rg y ∧ k nx al (vI (if y < x then y else x) :: r) h c s) False)
      (cond (Nat.beq x1 997) (pI st fun x r => cond (Nat.ble (cats r) 8 && Nat.ble 1 dep) (rg x ∧ k nx al (vI (if 0 ≤ x then x else -x) :: r) h c s) False)
      (cond (Nat.beq x1 998) (pI st fun n r => pI r fun dp r => pR r fun b r => pI r fun sp r => pR r fun a r => cond (Nat.ble (cats r) 8 && Nat.ble 1 dep) (hG (isA 0 fun n0 f => hG (isA 0 fun n1 g => (0 ≤ sp ∧ 0 ≤ dp ∧ 0 ≤ n ∧ sp + n ≤ (n0 : Int) ∧ dp + n ≤ (n1 : Int)) ∧ hS (cI n1 (cpZ f g sp dp n)) (fun h' => k nx al r h' c s) h b) h b) h a) False) False)))
  | .ireturn => pI st fun x r => match r with | [] => (x2 = 0 ∨ x = 0 ∨ x = 1) ∧ Q (some (vI x)) h | _ => False
  | .lreturn => pL st fun x r => match r with | [] => Q (some (vL x)) h | _ => False
  | .return_ => match st with | [] => Q none h | _ => False
  | _ => False
end
section
theorem zz_end : True := trivial
end
