section
-- ===== PART A: goes FIRST, ahead of the names: the tables' words, and 'selects' of the private methods out of them =====
/-- a private method of a class that the tables say can be made, by its rows of tables_1 -/
def lw_okq (q : MethodName × Nat) : Prop := (q.1.cls ≠ "java/lang/invoke/MethodHandle" ∧ q.1.cls ≠ "java/lang/invoke/VarHandle") ∧ Cond.instantiable q.1.cls q.2 ∈ tables_1 ∧ Cond.privateMethod q.1 ∈ tables_1 ∧ Cond.instanceMethod q.1 ∈ tables_1
theorem lw_p0 : lw_okq (⟨"SpeckValves", "layDraft", "()V"⟩, 9) := ⟨⟨by decide +kernel, by decide +kernel⟩, List.mem_of_getElem? (i := 15) (by decide +kernel), List.mem_of_getElem? (i := 257) (by decide +kernel), List.mem_of_getElem? (i := 258) (by decide +kernel)⟩
theorem lw_p1 : lw_okq (⟨"SpeckValves", "dropLines", "()V"⟩, 9) := ⟨⟨by decide +kernel, by decide +kernel⟩, List.mem_of_getElem? (i := 15) (by decide +kernel), List.mem_of_getElem? (i := 268) (by decide +kernel), List.mem_of_getElem? (i := 269) (by decide +kernel)⟩
theorem lw_p2 : lw_okq (⟨"SpeckValves", "judge", "()V"⟩, 9) := ⟨⟨by decide +kernel, by decide +kernel⟩, List.mem_of_getElem? (i := 15) (by decide +kernel), List.mem_of_getElem? (i := 279) (by decide +kernel), List.mem_of_getElem? (i := 280) (by decide +kernel)⟩
theorem lw_p3 : lw_okq (⟨"SpeckValves$Verdict", "openFor", "(LSpeckValves$Plan;LSpeckValves$Blob;)V"⟩, 3) := ⟨⟨by decide +kernel, by decide +kernel⟩, List.mem_of_getElem? (i := 157) (by decide +kernel), List.mem_of_getElem? (i := 308) (by decide +kernel), List.mem_of_getElem? (i := 309) (by decide +kernel)⟩
theorem lw_p4 : lw_okq (⟨"SpeckValves$Verdict", "isBlown", "(LSpeckValves$Plan;LSpeckValves$Blob;)Z"⟩, 3) := ⟨⟨by decide +kernel, by decide +kernel⟩, List.mem_of_getElem? (i := 157) (by decide +kernel), List.mem_of_getElem? (i := 339) (by decide +kernel), List.mem_of_getElem? (i := 340) (by decide +kernel)⟩
theorem lw_p5 : lw_okq (⟨"SpeckValves$Text", "readItem", "(LSpeckValves$Plan;)Z"⟩, 4) := ⟨⟨by decide +kernel, by decide +kernel⟩, List.mem_of_getElem? (i := 23) (by decide +kernel), List.mem_of_getElem? (i := 396) (by decide +kernel), List.mem_of_getElem? (i := 397) (by decide +kernel)⟩
theorem lw_p6 : lw_okq (⟨"SpeckValves$Text", "letterHere", "()C"⟩, 4) := ⟨⟨by decide +kernel, by decide +kernel⟩, List.mem_of_getElem? (i := 23) (by decide +kernel), List.mem_of_getElem? (i := 400) (by decide +kernel), List.mem_of_getElem? (i := 401) (by decide +kernel)⟩
theorem lw_p7 : lw_okq (⟨"SpeckValves$Text", "readNumber", "(C)I"⟩, 4) := ⟨⟨by decide +kernel, by decide +kernel⟩, List.mem_of_getElem? (i := 23) (by decide +kernel), List.mem_of_getElem? (i := 407) (by decide +kernel), List.mem_of_getElem? (i := 408) (by decide +kernel)⟩
theorem lw_p8 : lw_okq (⟨"SpeckValves$Plan", "takeGrid", "([I)Z"⟩, 10) := ⟨⟨by decide +kernel, by decide +kernel⟩, List.mem_of_getElem? (i := 198) (by decide +kernel), List.mem_of_getElem? (i := 418) (by decide +kernel), List.mem_of_getElem? (i := 419) (by decide +kernel)⟩
theorem lw_p9 : lw_okq (⟨"SpeckValves$Plan", "takeDark", "(I)Z"⟩, 10) := ⟨⟨by decide +kernel, by decide +kernel⟩, List.mem_of_getElem? (i := 198) (by decide +kernel), List.mem_of_getElem? (i := 423) (by decide +kernel), List.mem_of_getElem? (i := 424) (by decide +kernel)⟩
theorem lw_p10 : lw_okq (⟨"SpeckValves$Plan", "takeRest", "(I)Z"⟩, 10) := ⟨⟨by decide +kernel, by decide +kernel⟩, List.mem_of_getElem? (i := 198) (by decide +kernel), List.mem_of_getElem? (i := 427) (by decide +kernel), List.mem_of_getElem? (i := 428) (by decide +kernel)⟩
theorem lw_p11 : lw_okq (⟨"SpeckValves$Fold", "addCell", "(IIIZ)V"⟩, 5) := ⟨⟨by decide +kernel, by decide +kernel⟩, List.mem_of_getElem? (i := 85) (by decide +kernel), List.mem_of_getElem? (i := 464) (by decide +kernel), List.mem_of_getElem? (i := 465) (by decide +kernel)⟩
theorem lw_p12 : lw_okq (⟨"SpeckValves$Fold", "freeSlot", "()I"⟩, 5) := ⟨⟨by decide +kernel, by decide +kernel⟩, List.mem_of_getElem? (i := 85) (by decide +kernel), List.mem_of_getElem? (i := 471) (by decide +kernel), List.mem_of_getElem? (i := 472) (by decide +kernel)⟩
theorem lw_p13 : lw_okq (⟨"SpeckValves$Blob", "beginAt", "(II)V"⟩, 8) := ⟨⟨by decide +kernel, by decide +kernel⟩, List.mem_of_getElem? (i := 92) (by decide +kernel), List.mem_of_getElem? (i := 479) (by decide +kernel), List.mem_of_getElem? (i := 480) (by decide +kernel)⟩
theorem lw_p14 : lw_okq (⟨"SpeckValves$Fold", "joinTo", "(II)V"⟩, 5) := ⟨⟨by decide +kernel, by decide +kernel⟩, List.mem_of_getElem? (i := 85) (by decide +kernel), List.mem_of_getElem? (i := 485) (by decide +kernel), List.mem_of_getElem? (i := 486) (by decide +kernel)⟩
theorem lw_p15 : lw_okq (⟨"SpeckValves$Fold", "endAllWithout", "(I)I"⟩, 5) := ⟨⟨by decide +kernel, by decide +kernel⟩, List.mem_of_getElem? (i := 85) (by decide +kernel), List.mem_of_getElem? (i := 500) (by decide +kernel), List.mem_of_getElem? (i := 501) (by decide +kernel)⟩
def lw_privs_1 : List (MethodName × Nat) := [(⟨"SpeckValves", "layDraft", "()V"⟩, 9), (⟨"SpeckValves", "dropLines", "()V"⟩, 9), (⟨"SpeckValves", "judge", "()V"⟩, 9), (⟨"SpeckValves$Verdict", "openFor", "(LSpeckValves$Plan;LSpeckValves$Blob;)V"⟩, 3), (⟨"SpeckValves$Verdict", "isBlown", "(LSpeckValves$Plan;LSpeckValves$Blob;)Z"⟩, 3), (⟨"SpeckValves$Text", "readItem", "(LSpeckValves$Plan;)Z"⟩, 4), (⟨"SpeckValves$Text", "letterHere", "()C"⟩, 4), (⟨"SpeckValves$Text", "readNumber", "(C)I"⟩, 4), (⟨"SpeckValves$Plan", "takeGrid", "([I)Z"⟩, 10), (⟨"SpeckValves$Plan", "takeDark", "(I)Z"⟩, 10), (⟨"SpeckValves$Plan", "takeRest", "(I)Z"⟩, 10), (⟨"SpeckValves$Fold", "addCell", "(IIIZ)V"⟩, 5), (⟨"SpeckValves$Fold", "freeSlot", "()I"⟩, 5), (⟨"SpeckValves$Blob", "beginAt", "(II)V"⟩, 8), (⟨"SpeckValves$Fold", "joinTo", "(II)V"⟩, 5), (⟨"SpeckValves$Fold", "endAllWithout", "(I)I"⟩, 5)]
theorem lw_r1 : ∀ q ∈ lw_privs_1, lw_okq q := List.forall_mem_cons.mpr ⟨lw_p0, List.forall_mem_cons.mpr ⟨lw_p1, List.forall_mem_cons.mpr ⟨lw_p2, List.forall_mem_cons.mpr ⟨lw_p3, List.forall_mem_cons.mpr ⟨lw_p4, List.forall_mem_cons.mpr ⟨lw_p5, List.forall_mem_cons.mpr ⟨lw_p6, List.forall_mem_cons.mpr ⟨lw_p7, List.forall_mem_cons.mpr ⟨lw_p8, List.forall_mem_cons.mpr ⟨lw_p9, List.forall_mem_cons.mpr ⟨lw_p10, List.forall_mem_cons.mpr ⟨lw_p11, List.forall_mem_cons.mpr ⟨lw_p12, List.forall_mem_cons.mpr ⟨lw_p13, List.forall_mem_cons.mpr ⟨lw_p14, List.forall_mem_cons.mpr ⟨lw_p15, fun _ h => absurd h List.not_mem_nil⟩⟩⟩⟩⟩⟩⟩⟩⟩⟩⟩⟩⟩⟩⟩⟩
theorem lw_p16 : lw_okq (⟨"SpeckValves$Fold", "earliestWithout", "(I)I"⟩, 5) := ⟨⟨by decide +kernel, by decide +kernel⟩, List.mem_of_getElem? (i := 85) (by decide +kernel), List.mem_of_getElem? (i := 504) (by decide +kernel), List.mem_of_getElem? (i := 505) (by decide +kernel)⟩
theorem lw_p17 : lw_okq (⟨"SpeckValves", "isRule", "(I)Z"⟩, 9) := ⟨⟨by decide +kernel, by decide +kernel⟩, List.mem_of_getElem? (i := 15) (by decide +kernel), List.mem_of_getElem? (i := 517) (by decide +kernel), List.mem_of_getElem? (i := 518) (by decide +kernel)⟩
theorem lw_p18 : lw_okq (⟨"SpeckValves", "foldAll", "()V"⟩, 9) := ⟨⟨by decide +kernel, by decide +kernel⟩, List.mem_of_getElem? (i := 15) (by decide +kernel), List.mem_of_getElem? (i := 533) (by decide +kernel), List.mem_of_getElem? (i := 534) (by decide +kernel)⟩
theorem lw_p19 : lw_okq (⟨"SpeckValves", "isValve", "(I)Z"⟩, 9) := ⟨⟨by decide +kernel, by decide +kernel⟩, List.mem_of_getElem? (i := 15) (by decide +kernel), List.mem_of_getElem? (i := 568) (by decide +kernel), List.mem_of_getElem? (i := 569) (by decide +kernel)⟩
theorem lw_p20 : lw_okq (⟨"SpeckValves", "worthByNumber", "(II)I"⟩, 9) := ⟨⟨by decide +kernel, by decide +kernel⟩, List.mem_of_getElem? (i := 15) (by decide +kernel), List.mem_of_getElem? (i := 596) (by decide +kernel), List.mem_of_getElem? (i := 597) (by decide +kernel)⟩
theorem lw_p21 : lw_okq (⟨"SpeckValves$Verdict", "isOneOf", "(LSpeckValves$Plan;LSpeckValves$Fold;II)Z"⟩, 3) := ⟨⟨by decide +kernel, by decide +kernel⟩, List.mem_of_getElem? (i := 157) (by decide +kernel), List.mem_of_getElem? (i := 613) (by decide +kernel), List.mem_of_getElem? (i := 614) (by decide +kernel)⟩
theorem lw_p22 : lw_okq (⟨"SpeckValvesModel", "faultAt", "()I"⟩, 32) := ⟨⟨by decide +kernel, by decide +kernel⟩, List.mem_of_getElem? (i := 626) (by decide +kernel), List.mem_of_getElem? (i := 751) (by decide +kernel), List.mem_of_getElem? (i := 752) (by decide +kernel)⟩
theorem lw_p23 : lw_okq (⟨"SpeckValvesModel", "isItem", "()Z"⟩, 32) := ⟨⟨by decide +kernel, by decide +kernel⟩, List.mem_of_getElem? (i := 626) (by decide +kernel), List.mem_of_getElem? (i := 755) (by decide +kernel), List.mem_of_getElem? (i := 756) (by decide +kernel)⟩
theorem lw_p24 : lw_okq (⟨"SpeckValvesModel", "passes", "(I)Z"⟩, 32) := ⟨⟨by decide +kernel, by decide +kernel⟩, List.mem_of_getElem? (i := 626) (by decide +kernel), List.mem_of_getElem? (i := 759) (by decide +kernel), List.mem_of_getElem? (i := 760) (by decide +kernel)⟩
theorem lw_p25 : lw_okq (⟨"SpeckValvesModel", "isGate", "()Z"⟩, 32) := ⟨⟨by decide +kernel, by decide +kernel⟩, List.mem_of_getElem? (i := 626) (by decide +kernel), List.mem_of_getElem? (i := 763) (by decide +kernel), List.mem_of_getElem? (i := 764) (by decide +kernel)⟩
theorem lw_p26 : lw_okq (⟨"SpeckValvesModel", "number", "(II)I"⟩, 32) := ⟨⟨by decide +kernel, by decide +kernel⟩, List.mem_of_getElem? (i := 626) (by decide +kernel), List.mem_of_getElem? (i := 767) (by decide +kernel), List.mem_of_getElem? (i := 768) (by decide +kernel)⟩
theorem lw_p27 : lw_okq (⟨"SpeckValvesModel", "isFigure", "()Z"⟩, 32) := ⟨⟨by decide +kernel, by decide +kernel⟩, List.mem_of_getElem? (i := 626) (by decide +kernel), List.mem_of_getElem? (i := 771) (by decide +kernel), List.mem_of_getElem? (i := 772) (by decide +kernel)⟩
theorem lw_p28 : lw_okq (⟨"SpeckValvesModel", "isRule", "()Z"⟩, 32) := ⟨⟨by decide +kernel, by decide +kernel⟩, List.mem_of_getElem? (i := 626) (by decide +kernel), List.mem_of_getElem? (i := 777) (by decide +kernel), List.mem_of_getElem? (i := 778) (by decide +kernel)⟩
theorem lw_p29 : lw_okq (⟨"SpeckValvesModel", "power", "()J"⟩, 32) := ⟨⟨by decide +kernel, by decide +kernel⟩, List.mem_of_getElem? (i := 626) (by decide +kernel), List.mem_of_getElem? (i := 789) (by decide +kernel), List.mem_of_getElem? (i := 790) (by decide +kernel)⟩
theorem lw_p30 : lw_okq (⟨"SpeckValvesModel", "laysBlobs", "()V"⟩, 32) := ⟨⟨by decide +kernel, by decide +kernel⟩, List.mem_of_getElem? (i := 626) (by decide +kernel), List.mem_of_getElem? (i := 794) (by decide +kernel), List.mem_of_getElem? (i := 795) (by decide +kernel)⟩
theorem lw_p31 : lw_okq (⟨"SpeckValvesModel", "laysCells", "()V"⟩, 32) := ⟨⟨by decide +kernel, by decide +kernel⟩, List.mem_of_getElem? (i := 626) (by decide +kernel), List.mem_of_getElem? (i := 798) (by decide +kernel), List.mem_of_getElem? (i := 799) (by decide +kernel)⟩
def lw_privs_2 : List (MethodName × Nat) := [(⟨"SpeckValves$Fold", "earliestWithout", "(I)I"⟩, 5), (⟨"SpeckValves", "isRule", "(I)Z"⟩, 9), (⟨"SpeckValves", "foldAll", "()V"⟩, 9), (⟨"SpeckValves", "isValve", "(I)Z"⟩, 9), (⟨"SpeckValves", "worthByNumber", "(II)I"⟩, 9), (⟨"SpeckValves$Verdict", "isOneOf", "(LSpeckValves$Plan;LSpeckValves$Fold;II)Z"⟩, 3), (⟨"SpeckValvesModel", "faultAt", "()I"⟩, 32), (⟨"SpeckValvesModel", "isItem", "()Z"⟩, 32), (⟨"SpeckValvesModel", "passes", "(I)Z"⟩, 32), (⟨"SpeckValvesModel", "isGate", "()Z"⟩, 32), (⟨"SpeckValvesModel", "number", "(II)I"⟩, 32), (⟨"SpeckValvesModel", "isFigure", "()Z"⟩, 32), (⟨"SpeckValvesModel", "isRule", "()Z"⟩, 32), (⟨"SpeckValvesModel", "power", "()J"⟩, 32), (⟨"SpeckValvesModel", "laysBlobs", "()V"⟩, 32), (⟨"SpeckValvesModel", "laysCells", "()V"⟩, 32)]
theorem lw_r2 : ∀ q ∈ lw_privs_2, lw_okq q := List.forall_mem_cons.mpr ⟨lw_p16, List.forall_mem_cons.mpr ⟨lw_p17, List.forall_mem_cons.mpr ⟨lw_p18, List.forall_mem_cons.mpr ⟨lw_p19, List.forall_mem_cons.mpr ⟨lw_p20, List.forall_mem_cons.mpr ⟨lw_p21, List.forall_mem_cons.mpr ⟨lw_p22, List.forall_mem_cons.mpr ⟨lw_p23, List.forall_mem_cons.mpr ⟨lw_p24, List.forall_mem_cons.mpr ⟨lw_p25, List.forall_mem_cons.mpr ⟨lw_p26, List.forall_mem_cons.mpr ⟨lw_p27, List.forall_mem_cons.mpr ⟨lw_p28, List.forall_mem_cons.mpr ⟨lw_p29, List.forall_mem_cons.mpr ⟨lw_p30, List.forall_mem_cons.mpr ⟨lw_p31, fun _ h => absurd h List.not_mem_nil⟩⟩⟩⟩⟩⟩⟩⟩⟩⟩⟩⟩⟩⟩⟩⟩
theorem lw_p32 : lw_okq (⟨"SpeckValvesModel", "lines", "()I"⟩, 32) := ⟨⟨by decide +kernel, by decide +kernel⟩, List.mem_of_getElem? (i := 626) (by decide +kernel), List.mem_of_getElem? (i := 802) (by decide +kernel), List.mem_of_getElem? (i := 803) (by decide +kernel)⟩
theorem lw_p33 : lw_okq (⟨"SpeckValvesModel", "joinsAround", "(II)V"⟩, 32) := ⟨⟨by decide +kernel, by decide +kernel⟩, List.mem_of_getElem? (i := 626) (by decide +kernel), List.mem_of_getElem? (i := 806) (by decide +kernel), List.mem_of_getElem? (i := 807) (by decide +kernel)⟩
theorem lw_p34 : lw_okq (⟨"SpeckValvesModel", "joins", "(II)V"⟩, 32) := ⟨⟨by decide +kernel, by decide +kernel⟩, List.mem_of_getElem? (i := 626) (by decide +kernel), List.mem_of_getElem? (i := 810) (by decide +kernel), List.mem_of_getElem? (i := 811) (by decide +kernel)⟩
theorem lw_p35 : lw_okq (⟨"SpeckValvesModel", "rootOf", "(I)I"⟩, 32) := ⟨⟨by decide +kernel, by decide +kernel⟩, List.mem_of_getElem? (i := 626) (by decide +kernel), List.mem_of_getElem? (i := 814) (by decide +kernel), List.mem_of_getElem? (i := 815) (by decide +kernel)⟩
theorem lw_p36 : lw_okq (⟨"SpeckValvesModel", "counts", "(II)V"⟩, 32) := ⟨⟨by decide +kernel, by decide +kernel⟩, List.mem_of_getElem? (i := 626) (by decide +kernel), List.mem_of_getElem? (i := 818) (by decide +kernel), List.mem_of_getElem? (i := 819) (by decide +kernel)⟩
theorem lw_p37 : lw_okq (⟨"SpeckValvesModel", "blobOf", "(I)I"⟩, 32) := ⟨⟨by decide +kernel, by decide +kernel⟩, List.mem_of_getElem? (i := 626) (by decide +kernel), List.mem_of_getElem? (i := 822) (by decide +kernel), List.mem_of_getElem? (i := 823) (by decide +kernel)⟩
theorem lw_p38 : lw_okq (⟨"SpeckValvesModel", "begins", "(III)V"⟩, 32) := ⟨⟨by decide +kernel, by decide +kernel⟩, List.mem_of_getElem? (i := 626) (by decide +kernel), List.mem_of_getElem? (i := 826) (by decide +kernel), List.mem_of_getElem? (i := 827) (by decide +kernel)⟩
theorem lw_p39 : lw_okq (⟨"SpeckValvesModel", "numbersEnded", "()V"⟩, 32) := ⟨⟨by decide +kernel, by decide +kernel⟩, List.mem_of_getElem? (i := 626) (by decide +kernel), List.mem_of_getElem? (i := 830) (by decide +kernel), List.mem_of_getElem? (i := 831) (by decide +kernel)⟩
theorem lw_p40 : lw_okq (⟨"SpeckValvesModel", "isAhead", "(II)Z"⟩, 32) := ⟨⟨by decide +kernel, by decide +kernel⟩, List.mem_of_getElem? (i := 626) (by decide +kernel), List.mem_of_getElem? (i := 834) (by decide +kernel), List.mem_of_getElem? (i := 835) (by decide +kernel)⟩
theorem lw_p41 : lw_okq (⟨"SpeckValvesModel", "keeps", "()V"⟩, 32) := ⟨⟨by decide +kernel, by decide +kernel⟩, List.mem_of_getElem? (i := 626) (by decide +kernel), List.mem_of_getElem? (i := 838) (by decide +kernel), List.mem_of_getElem? (i := 839) (by decide +kernel)⟩
theorem lw_p42 : lw_okq (⟨"SpeckValvesModel", "isRuleThere", "(I)Z"⟩, 32) := ⟨⟨by decide +kernel, by decide +kernel⟩, List.mem_of_getElem? (i := 626) (by decide +kernel), List.mem_of_getElem? (i := 846) (by decide +kernel), List.mem_of_getElem? (i := 847) (by decide +kernel)⟩
theorem lw_p43 : lw_okq (⟨"SpeckValvesModel", "judgesNow", "()V"⟩, 32) := ⟨⟨by decide +kernel, by decide +kernel⟩, List.mem_of_getElem? (i := 626) (by decide +kernel), List.mem_of_getElem? (i := 863) (by decide +kernel), List.mem_of_getElem? (i := 864) (by decide +kernel)⟩
theorem lw_p44 : lw_okq (⟨"SpeckValvesModel", "judges", "()V"⟩, 32) := ⟨⟨by decide +kernel, by decide +kernel⟩, List.mem_of_getElem? (i := 626) (by decide +kernel), List.mem_of_getElem? (i := 867) (by decide +kernel), List.mem_of_getElem? (i := 868) (by decide +kernel)⟩
theorem lw_p45 : lw_okq (⟨"SpeckValvesModel", "ruleOf", "(I)I"⟩, 32) := ⟨⟨by decide +kernel, by decide +kernel⟩, List.mem_of_getElem? (i := 626) (by decide +kernel), List.mem_of_getElem? (i := 871) (by decide +kernel), List.mem_of_getElem? (i := 872) (by decide +kernel)⟩
theorem lw_p46 : lw_okq (⟨"SpeckValvesModel", "valueOf", "(II)I"⟩, 32) := ⟨⟨by decide +kernel, by decide +kernel⟩, List.mem_of_getElem? (i := 626) (by decide +kernel), List.mem_of_getElem? (i := 875) (by decide +kernel), List.mem_of_getElem? (i := 876) (by decide +kernel)⟩
theorem lw_p47 : lw_okq (⟨"SpeckValvesModel", "wants", "(I)V"⟩, 32) := ⟨⟨by decide +kernel, by decide +kernel⟩, List.mem_of_getElem? (i := 626) (by decide +kernel), List.mem_of_getElem? (i := 879) (by decide +kernel), List.mem_of_getElem? (i := 880) (by decide +kernel)⟩
def lw_privs_3 : List (MethodName × Nat) := [(⟨"SpeckValvesModel", "lines", "()I"⟩, 32), (⟨"SpeckValvesModel", "joinsAround", "(II)V"⟩, 32), (⟨"SpeckValvesModel", "joins", "(II)V"⟩, 32), (⟨"SpeckValvesModel", "rootOf", "(I)I"⟩, 32), (⟨"SpeckValvesModel", "counts", "(II)V"⟩, 32), (⟨"SpeckValvesModel", "blobOf", "(I)I"⟩, 32), (⟨"SpeckValvesModel", "begins", "(III)V"⟩, 32), (⟨"SpeckValvesModel", "numbersEnded", "()V"⟩, 32), (⟨"SpeckValvesModel", "isAhead", "(II)Z"⟩, 32), (⟨"SpeckValvesModel", "keeps", "()V"⟩, 32), (⟨"SpeckValvesModel", "isRuleThere", "(I)Z"⟩, 32), (⟨"SpeckValvesModel", "judgesNow", "()V"⟩, 32), (⟨"SpeckValvesModel", "judges", "()V"⟩, 32), (⟨"SpeckValvesModel", "ruleOf", "(I)I"⟩, 32), (⟨"SpeckValvesModel", "valueOf", "(II)I"⟩, 32), (⟨"SpeckValvesModel", "wants", "(I)V"⟩, 32)]
theorem lw_r3 : ∀ q ∈ lw_privs_3, lw_okq q := List.forall_mem_cons.mpr ⟨lw_p32, List.forall_mem_cons.mpr ⟨lw_p33, List.forall_mem_cons.mpr ⟨lw_p34, List.forall_mem_cons.mpr ⟨lw_p35, List.forall_mem_cons.mpr ⟨lw_p36, List.forall_mem_cons.mpr ⟨lw_p37, List.forall_mem_cons.mpr ⟨lw_p38, List.forall_mem_cons.mpr ⟨lw_p39, List.forall_mem_cons.mpr ⟨lw_p40, List.forall_mem_cons.mpr ⟨lw_p41, List.forall_mem_cons.mpr ⟨lw_p42, List.forall_mem_cons.mpr ⟨lw_p43, List.forall_mem_cons.mpr ⟨lw_p44, List.forall_mem_cons.mpr ⟨lw_p45, List.forall_mem_cons.mpr ⟨lw_p46, List.forall_mem_cons.mpr ⟨lw_p47, fun _ h => absurd h List.not_mem_nil⟩⟩⟩⟩⟩⟩⟩⟩⟩⟩⟩⟩⟩⟩⟩⟩
theorem lw_p48 : lw_okq (⟨"SpeckValvesModel", "wanted", "(I)I"⟩, 32) := ⟨⟨by decide +kernel, by decide +kernel⟩, List.mem_of_getElem? (i := 626) (by decide +kernel), List.mem_of_getElem? (i := 883) (by decide +kernel), List.mem_of_getElem? (i := 884) (by decide +kernel)⟩
theorem lw_p49 : lw_okq (⟨"SpeckValvesModel", "perValve", "()I"⟩, 32) := ⟨⟨by decide +kernel, by decide +kernel⟩, List.mem_of_getElem? (i := 626) (by decide +kernel), List.mem_of_getElem? (i := 887) (by decide +kernel), List.mem_of_getElem? (i := 888) (by decide +kernel)⟩
theorem lw_p50 : lw_okq (⟨"SpeckValvesModel", "rests", "(I)V"⟩, 32) := ⟨⟨by decide +kernel, by decide +kernel⟩, List.mem_of_getElem? (i := 626) (by decide +kernel), List.mem_of_getElem? (i := 891) (by decide +kernel), List.mem_of_getElem? (i := 892) (by decide +kernel)⟩
theorem lw_p51 : lw_okq (⟨"SpeckValvesModel", "isBlownNow", "(I)Z"⟩, 32) := ⟨⟨by decide +kernel, by decide +kernel⟩, List.mem_of_getElem? (i := 626) (by decide +kernel), List.mem_of_getElem? (i := 895) (by decide +kernel), List.mem_of_getElem? (i := 896) (by decide +kernel)⟩
theorem lw_p52 : lw_okq (⟨"SpeckValvesModel", "tellBlob", "(II)I"⟩, 32) := ⟨⟨by decide +kernel, by decide +kernel⟩, List.mem_of_getElem? (i := 626) (by decide +kernel), List.mem_of_getElem? (i := 900) (by decide +kernel), List.mem_of_getElem? (i := 901) (by decide +kernel)⟩
theorem lw_p53 : lw_okq (⟨"SpeckValvesModel", "isLate", "(I)Z"⟩, 32) := ⟨⟨by decide +kernel, by decide +kernel⟩, List.mem_of_getElem? (i := 626) (by decide +kernel), List.mem_of_getElem? (i := 904) (by decide +kernel), List.mem_of_getElem? (i := 905) (by decide +kernel)⟩
theorem lw_p54 : lw_okq (⟨"SpeckValvesModel", "isValve", "(I)Z"⟩, 32) := ⟨⟨by decide +kernel, by decide +kernel⟩, List.mem_of_getElem? (i := 626) (by decide +kernel), List.mem_of_getElem? (i := 916) (by decide +kernel), List.mem_of_getElem? (i := 917) (by decide +kernel)⟩
theorem lw_p55 : lw_okq (⟨"SpeckValvesModel", "gained", "()I"⟩, 32) := ⟨⟨by decide +kernel, by decide +kernel⟩, List.mem_of_getElem? (i := 626) (by decide +kernel), List.mem_of_getElem? (i := 928) (by decide +kernel), List.mem_of_getElem? (i := 929) (by decide +kernel)⟩
theorem lw_p56 : lw_okq (⟨"SpeckValvesModel", "howMany", "(I)I"⟩, 32) := ⟨⟨by decide +kernel, by decide +kernel⟩, List.mem_of_getElem? (i := 626) (by decide +kernel), List.mem_of_getElem? (i := 940) (by decide +kernel), List.mem_of_getElem? (i := 941) (by decide +kernel)⟩
theorem lw_p57 : lw_okq (⟨"SpeckValvesModel", "endedNow", "()I"⟩, 32) := ⟨⟨by decide +kernel, by decide +kernel⟩, List.mem_of_getElem? (i := 626) (by decide +kernel), List.mem_of_getElem? (i := 944) (by decide +kernel), List.mem_of_getElem? (i := 945) (by decide +kernel)⟩
theorem lw_p58 : lw_okq (⟨"SpeckValvesModel", "judgedBy", "(I)I"⟩, 32) := ⟨⟨by decide +kernel, by decide +kernel⟩, List.mem_of_getElem? (i := 626) (by decide +kernel), List.mem_of_getElem? (i := 952) (by decide +kernel), List.mem_of_getElem? (i := 953) (by decide +kernel)⟩
def lw_privs_4 : List (MethodName × Nat) := [(⟨"SpeckValvesModel", "wanted", "(I)I"⟩, 32), (⟨"SpeckValvesModel", "perValve", "()I"⟩, 32), (⟨"SpeckValvesModel", "rests", "(I)V"⟩, 32), (⟨"SpeckValvesModel", "isBlownNow", "(I)Z"⟩, 32), (⟨"SpeckValvesModel", "tellBlob", "(II)I"⟩, 32), (⟨"SpeckValvesModel", "isLate", "(I)Z"⟩, 32), (⟨"SpeckValvesModel", "isValve", "(I)Z"⟩, 32), (⟨"SpeckValvesModel", "gained", "()I"⟩, 32), (⟨"SpeckValvesModel", "howMany", "(I)I"⟩, 32), (⟨"SpeckValvesModel", "endedNow", "()I"⟩, 32), (⟨"SpeckValvesModel", "judgedBy", "(I)I"⟩, 32)]
theorem lw_r4 : ∀ q ∈ lw_privs_4, lw_okq q := List.forall_mem_cons.mpr ⟨lw_p48, List.forall_mem_cons.mpr ⟨lw_p49, List.forall_mem_cons.mpr ⟨lw_p50, List.forall_mem_cons.mpr ⟨lw_p51, List.forall_mem_cons.mpr ⟨lw_p52, List.forall_mem_cons.mpr ⟨lw_p53, List.forall_mem_cons.mpr ⟨lw_p54, List.forall_mem_cons.mpr ⟨lw_p55, List.forall_mem_cons.mpr ⟨lw_p56, List.forall_mem_cons.mpr ⟨lw_p57, List.forall_mem_cons.mpr ⟨lw_p58, fun _ h => absurd h List.not_mem_nil⟩⟩⟩⟩⟩⟩⟩⟩⟩⟩⟩
def lw_privs : List (MethodName × Nat) := lw_privs_1 ++ (lw_privs_2 ++ (lw_privs_3 ++ (lw_privs_4)))
def lw_tbl : List Cond := k2_sels lw_privs ++ tables_1
theorem lw_privs_ok : ∀ q ∈ lw_privs, lw_okq q := by
  show ∀ q ∈ lw_privs_1 ++ (lw_privs_2 ++ (lw_privs_3 ++ (lw_privs_4))), lw_okq q
  exact List.forall_mem_append.mpr ⟨lw_r1, List.forall_mem_append.mpr ⟨lw_r2, List.forall_mem_append.mpr ⟨lw_r3, lw_r4⟩⟩⟩
end
section
def RX0 : String := "SpeckValves$Blob"
def TX0 : u_T := fun k => match k with
  | 0 => ("SpeckValves$Blob", "first", "I", false)
  | 1 => ("SpeckValves$Blob", "last", "I", false)
  | 2 => ("SpeckValves$Blob", "beganAt", "I", false)
  | 3 => ("SpeckValves$Blob", "left", "I", false)
  | 4 => ("SpeckValves$Blob", "right", "I", false)
  | 5 => ("SpeckValves$Blob", "size", "I", false)
  | 6 => ("SpeckValves$Blob", "colours", "I", false)
  | _ => ("SpeckValves$Blob", "dark", "I", false)
def tyX0 : Nat → FieldType := fun k => match k with
  | 0 => .int
  | 1 => .int
  | 2 => .int
  | 3 => .int
  | 4 => .int
  | 5 => .int
  | 6 => .int
  | _ => .int
abbrev wsX00 : List Cond := u_ws RX0 TX0 8
theorem nmX0 : ∀ a, a < 8 → ∀ b, b < 8 → a ≠ b → (TX0 a).2.1 ≠ (TX0 b).2.1 := by decide +kernel
theorem tyX0_ok : ∀ k, k < 8 → parseFieldDescriptor (TX0 k).2.2.1 = some (tyX0 k) := by decide +kernel
abbrev cX0_init : ByteArray := prog_2_method_1_code
def yX0_init : MethodName := ⟨RX0, "<init>", "()V"⟩
abbrev cX0_addCell : ByteArray := prog_2_method_2_code
def yX0_addCell : MethodName := ⟨RX0, "addCell", "(IIIZ)V"⟩
abbrev cX0_beginAt : ByteArray := prog_2_method_3_code
def yX0_beginAt : MethodName := ⟨RX0, "beginAt", "(II)V"⟩
abbrev cX0_absorb : ByteArray := prog_2_method_4_code
def yX0_absorb : MethodName := ⟨RX0, "absorb", "(LSpeckValves$Blob;)V"⟩
abbrev cX0_copyFrom : ByteArray := prog_2_method_5_code
def yX0_copyFrom : MethodName := ⟨RX0, "copyFrom", "(LSpeckValves$Blob;)V"⟩
abbrev cX0_beganBefore : ByteArray := prog_2_method_6_code
def yX0_beganBefore : MethodName := ⟨RX0, "beganBefore", "(LSpeckValves$Blob;)Z"⟩
abbrev cX0_endTick : ByteArray := prog_2_method_7_code
def yX0_endTick : MethodName := ⟨RX0, "endTick", "()I"⟩
abbrev cX0_mean : ByteArray := prog_2_method_8_code
def yX0_mean : MethodName := ⟨RX0, "mean", "()I"⟩
abbrev cX0_measure : ByteArray := prog_2_method_9_code
def yX0_measure : MethodName := ⟨RX0, "measure", "(I)I"⟩
abbrev cX0_worth : ByteArray := prog_2_method_10_code
def yX0_worth : MethodName := ⟨RX0, "worth", "()I"⟩
def RX1 : String := "SpeckValves$Fold"
def TX1 : u_T := fun k => match k with
  | 0 => ("SpeckValves$Fold", "ended", "[LSpeckValves$Blob;", true)
  | 1 => ("SpeckValves$Fold", "live", "[LSpeckValves$Blob;", true)
  | 2 => ("SpeckValves$Fold", "ownersAhead", "[I", false)
  | 3 => ("SpeckValves$Fold", "ownersNow", "[I", false)
  | _ => ("SpeckValves$Fold", "endedCount", "I", false)
def tyX1 : Nat → FieldType := fun k => match k with
  | 0 => .array (.object "SpeckValves$Blob")
  | 1 => .array (.object "SpeckValves$Blob")
  | 2 => .array .int
  | 3 => .array .int
  | _ => .int
abbrev wsX10 : List Cond := u_ws RX1 TX1 5
theorem nmX1 : ∀ a, a < 5 → ∀ b, b < 5 → a ≠ b → (TX1 a).2.1 ≠ (TX1 b).2.1 := by decide +kernel
theorem tyX1_ok : ∀ k, k < 5 → parseFieldDescriptor (TX1 k).2.2.1 = some (tyX1 k) := by decide +kernel
abbrev cX1_init : ByteArray := prog_3_method_1_code
def yX1_init : MethodName := ⟨RX1, "<init>", "()V"⟩
abbrev cX1_empty : ByteArray := prog_3_method_2_code
def yX1_empty : MethodName := ⟨RX1, "empty", "()V"⟩
abbrev cX1_addLine : ByteArray := prog_3_method_3_code
def yX1_addLine : MethodName := ⟨RX1, "addLine", "(LSpeckValves$Plan;JI)I"⟩
abbrev cX1_addCell : ByteArray := prog_3_method_4_code
def yX1_addCell : MethodName := ⟨RX1, "addCell", "(IIIZ)V"⟩
abbrev cX1_ownerAt : ByteArray := prog_3_method_5_code
def yX1_ownerAt : MethodName := ⟨RX1, "ownerAt", "([II)I"⟩
abbrev cX1_freeSlot : ByteArray := prog_3_method_6_code
def yX1_freeSlot : MethodName := ⟨RX1, "freeSlot", "()I"⟩
abbrev cX1_joinTo : ByteArray := prog_3_method_7_code
def yX1_joinTo : MethodName := ⟨RX1, "joinTo", "(II)V"⟩
abbrev cX1_handOver : ByteArray := prog_3_method_8_code
def yX1_handOver : MethodName := ⟨RX1, "handOver", "([III)V"⟩
abbrev cX1_endAllWithout : ByteArray := prog_3_method_9_code
def yX1_endAllWithout : MethodName := ⟨RX1, "endAllWithout", "(I)I"⟩
abbrev cX1_earliestWithout : ByteArray := prog_3_method_10_code
def yX1_earliestWithout : MethodName := ⟨RX1, "earliestWithout", "(I)I"⟩
abbrev cX1_liveBlobs : ByteArray := prog_3_method_11_code
def yX1_liveBlobs : MethodName := ⟨RX1, "liveBlobs", "()I"⟩
abbrev cX1_liveCells : ByteArray := prog_3_method_12_code
def yX1_liveCells : MethodName := ⟨RX1, "liveCells", "()I"⟩
abbrev cX1_hasEndedWith : ByteArray := prog_3_method_13_code
def yX1_hasEndedWith : MethodName := ⟨RX1, "hasEndedWith", "(II)Z"⟩
def RX2 : String := "SpeckValves$History"
def TX2 : u_T := fun k => match k with
  | 0 => ("SpeckValves$History", "ring", "[LSpeckValves$Stand;", true)
  | 1 => ("SpeckValves$History", "held", "I", false)
  | _ => ("SpeckValves$History", "next", "I", false)
def tyX2 : Nat → FieldType := fun k => match k with
  | 0 => .array (.object "SpeckValves$Stand")
  | 1 => .int
  | _ => .int
abbrev wsX20 : List Cond := u_ws RX2 TX2 3
theorem nmX2 : ∀ a, a < 3 → ∀ b, b < 3 → a ≠ b → (TX2 a).2.1 ≠ (TX2 b).2.1 := by decide +kernel
theorem tyX2_ok : ∀ k, k < 3 → parseFieldDescriptor (TX2 k).2.2.1 = some (tyX2 k) := by decide +kernel
abbrev cX2_init : ByteArray := prog_4_method_1_code
def yX2_init : MethodName := ⟨RX2, "<init>", "()V"⟩
abbrev cX2_keep : ByteArray := prog_4_method_2_code
def yX2_keep : MethodName := ⟨RX2, "keep", "(LSpeckValves$Stand;)V"⟩
abbrev cX2_giveBack : ByteArray := prog_4_method_3_code
def yX2_giveBack : MethodName := ⟨RX2, "giveBack", "(LSpeckValves$Stand;)V"⟩
abbrev cX2_forget : ByteArray := prog_4_method_4_code
def yX2_forget : MethodName := ⟨RX2, "forget", "()V"⟩
def RX3 : String := "SpeckValves$Plan"
def TX3 : u_T := fun k => match k with
  | 0 => ("SpeckValves$Plan", "kinds", "[I", true)
  | 1 => ("SpeckValves$Plan", "numbers", "[I", true)
  | 2 => ("SpeckValves$Plan", "ruleCount", "I", false)
  | 3 => ("SpeckValves$Plan", "width", "I", false)
  | 4 => ("SpeckValves$Plan", "valveCount", "I", false)
  | 5 => ("SpeckValves$Plan", "fall", "I", false)
  | 6 => ("SpeckValves$Plan", "ahead", "I", false)
  | 7 => ("SpeckValves$Plan", "behind", "I", false)
  | 8 => ("SpeckValves$Plan", "darkFrom", "I", false)
  | _ => ("SpeckValves$Plan", "rest", "I", false)
def tyX3 : Nat → FieldType := fun k => match k with
  | 0 => .array .int
  | 1 => .array .int
  | 2 => .int
  | 3 => .int
  | 4 => .int
  | 5 => .int
  | 6 => .int
  | 7 => .int
  | 8 => .int
  | _ => .int
abbrev wsX30 : List Cond := u_ws RX3 TX3 10
theorem nmX3 : ∀ a, a < 10 → ∀ b, b < 10 → a ≠ b → (TX3 a).2.1 ≠ (TX3 b).2.1 := by decide +kernel
theorem tyX3_ok : ∀ k, k < 10 → parseFieldDescriptor (TX3 k).2.2.1 = some (tyX3 k) := by decide +kernel
abbrev cX3_init : ByteArray := prog_5_method_1_code
def yX3_init : MethodName := ⟨RX3, "<init>", "()V"⟩
abbrev cX3_reset : ByteArray := prog_5_method_2_code
def yX3_reset : MethodName := ⟨RX3, "reset", "()V"⟩
abbrev cX3_takeItem : ByteArray := prog_5_method_3_code
def yX3_takeItem : MethodName := ⟨RX3, "takeItem", "(C[I)Z"⟩
abbrev cX3_takeGrid : ByteArray := prog_5_method_4_code
def yX3_takeGrid : MethodName := ⟨RX3, "takeGrid", "([I)Z"⟩
abbrev cX3_addRule : ByteArray := prog_5_method_5_code
def yX3_addRule : MethodName := ⟨RX3, "addRule", "(II)Z"⟩
abbrev cX3_takeDark : ByteArray := prog_5_method_6_code
def yX3_takeDark : MethodName := ⟨RX3, "takeDark", "(I)Z"⟩
abbrev cX3_takeRest : ByteArray := prog_5_method_7_code
def yX3_takeRest : MethodName := ⟨RX3, "takeRest", "(I)Z"⟩
abbrev cX3_isBetween : ByteArray := prog_5_method_8_code
def yX3_isBetween : MethodName := ⟨RX3, "isBetween", "(III)Z"⟩
abbrev cX3_lineBound : ByteArray := prog_5_method_9_code
def yX3_lineBound : MethodName := ⟨RX3, "lineBound", "()J"⟩
abbrev cX3_valveOver : ByteArray := prog_5_method_10_code
def yX3_valveOver : MethodName := ⟨RX3, "valveOver", "(I)I"⟩
abbrev cX3_wantedFrom : ByteArray := prog_5_method_11_code
def yX3_wantedFrom : MethodName := ⟨RX3, "wantedFrom", "(LSpeckValves$Blob;)I"⟩
abbrev cX3_wantedTo : ByteArray := prog_5_method_12_code
def yX3_wantedTo : MethodName := ⟨RX3, "wantedTo", "(LSpeckValves$Blob;)I"⟩
abbrev cX3_isLate : ByteArray := prog_5_method_13_code
def yX3_isLate : MethodName := ⟨RX3, "isLate", "(LSpeckValves$Blob;)Z"⟩
def RX4 : String := "SpeckValves$Stand"
def TX4 : u_T := fun k => match k with
  | 0 => ("SpeckValves$Stand", "lines", "[J", true)
  | 1 => ("SpeckValves$Stand", "numbers", "[I", true)
  | _ => ("SpeckValves$Stand", "lineCount", "I", false)
def tyX4 : Nat → FieldType := fun k => match k with
  | 0 => .array .long
  | 1 => .array .int
  | _ => .int
abbrev wsX40 : List Cond := u_ws RX4 TX4 3
theorem nmX4 : ∀ a, a < 3 → ∀ b, b < 3 → a ≠ b → (TX4 a).2.1 ≠ (TX4 b).2.1 := by decide +kernel
theorem tyX4_ok : ∀ k, k < 3 → parseFieldDescriptor (TX4 k).2.2.1 = some (tyX4 k) := by decide +kernel
abbrev cX4_init : ByteArray := prog_6_method_1_code
def yX4_init : MethodName := ⟨RX4, "<init>", "()V"⟩
abbrev cX4_addLine : ByteArray := prog_6_method_2_code
def yX4_addLine : MethodName := ⟨RX4, "addLine", "(J)V"⟩
abbrev cX4_copyFrom : ByteArray := prog_6_method_3_code
def yX4_copyFrom : MethodName := ⟨RX4, "copyFrom", "(LSpeckValves$Stand;)V"⟩
def RX5 : String := "SpeckValves$Text"
def TX5 : u_T := fun k => match k with
  | 0 => ("SpeckValves$Text", "letters", "[C", true)
  | 1 => ("SpeckValves$Text", "values", "[I", true)
  | 2 => ("SpeckValves$Text", "length", "I", false)
  | _ => ("SpeckValves$Text", "at", "I", false)
def tyX5 : Nat → FieldType := fun k => match k with
  | 0 => .array .char
  | 1 => .array .int
  | 2 => .int
  | _ => .int
abbrev wsX50 : List Cond := u_ws RX5 TX5 4
theorem nmX5 : ∀ a, a < 4 → ∀ b, b < 4 → a ≠ b → (TX5 a).2.1 ≠ (TX5 b).2.1 := by decide +kernel
theorem tyX5_ok : ∀ k, k < 4 → parseFieldDescriptor (TX5 k).2.2.1 = some (tyX5 k) := by decide +kernel
abbrev cX5_init : ByteArray := prog_7_method_1_code
def yX5_init : MethodName := ⟨RX5, "<init>", "()V"⟩
abbrev cX5_append : ByteArray := prog_7_method_2_code
def yX5_append : MethodName := ⟨RX5, "append", "(C)V"⟩
abbrev cX5_readInto : ByteArray := prog_7_method_3_code
def yX5_readInto : MethodName := ⟨RX5, "readInto", "(LSpeckValves$Plan;)I"⟩
abbrev cX5_readItem : ByteArray := prog_7_method_4_code
def yX5_readItem : MethodName := ⟨RX5, "readItem", "(LSpeckValves$Plan;)Z"⟩
abbrev cX5_numbersBehind : ByteArray := prog_7_method_5_code
def yX5_numbersBehind : MethodName := ⟨RX5, "numbersBehind", "(C)I"⟩
abbrev cX5_readNumber : ByteArray := prog_7_method_6_code
def yX5_readNumber : MethodName := ⟨RX5, "readNumber", "(C)I"⟩
abbrev cX5_letterHere : ByteArray := prog_7_method_7_code
def yX5_letterHere : MethodName := ⟨RX5, "letterHere", "()C"⟩
abbrev cX5_isFigure : ByteArray := prog_7_method_8_code
def yX5_isFigure : MethodName := ⟨RX5, "isFigure", "(C)Z"⟩
def RX6 : String := "SpeckValves$Valve"
def TX6 : u_T := fun k => match k with
  | 0 => ("SpeckValves$Valve", "firsts", "[I", true)
  | 1 => ("SpeckValves$Valve", "lasts", "[I", true)
  | _ => ("SpeckValves$Valve", "openings", "I", false)
def tyX6 : Nat → FieldType := fun k => match k with
  | 0 => .array .int
  | 1 => .array .int
  | _ => .int
abbrev wsX60 : List Cond := u_ws RX6 TX6 3
theorem nmX6 : ∀ a, a < 3 → ∀ b, b < 3 → a ≠ b → (TX6 a).2.1 ≠ (TX6 b).2.1 := by decide +kernel
theorem tyX6_ok : ∀ k, k < 3 → parseFieldDescriptor (TX6 k).2.2.1 = some (tyX6 k) := by decide +kernel
abbrev cX6_init : ByteArray := prog_8_method_1_code
def yX6_init : MethodName := ⟨RX6, "<init>", "()V"⟩
abbrev cX6_want : ByteArray := prog_8_method_2_code
def yX6_want : MethodName := ⟨RX6, "want", "(III)V"⟩
abbrev cX6_isNear : ByteArray := prog_8_method_3_code
def yX6_isNear : MethodName := ⟨RX6, "isNear", "(III)Z"⟩
abbrev cX6_isOpenWithin : ByteArray := prog_8_method_4_code
def yX6_isOpenWithin : MethodName := ⟨RX6, "isOpenWithin", "(II)Z"⟩
abbrev cX6_ticksOpen : ByteArray := prog_8_method_5_code
def yX6_ticksOpen : MethodName := ⟨RX6, "ticksOpen", "()I"⟩
def RX7 : String := "SpeckValves$Verdict"
def TX7 : u_T := fun k => match k with
  | 0 => ("SpeckValves$Verdict", "badBy", "[I", true)
  | 1 => ("SpeckValves$Verdict", "blown", "[Z", true)
  | _ => ("SpeckValves$Verdict", "valves", "[LSpeckValves$Valve;", true)
def tyX7 : Nat → FieldType := fun k => match k with
  | 0 => .array .int
  | 1 => .array .boolean
  | _ => .array (.object "SpeckValves$Valve")
abbrev wsX70 : List Cond := u_ws RX7 TX7 3
theorem nmX7 : ∀ a, a < 3 → ∀ b, b < 3 → a ≠ b → (TX7 a).2.1 ≠ (TX7 b).2.1 := by decide +kernel
theorem tyX7_ok : ∀ k, k < 3 → parseFieldDescriptor (TX7 k).2.2.1 = some (tyX7 k) := by decide +kernel
abbrev cX7_init : ByteArray := prog_9_method_1_code
def yX7_init : MethodName := ⟨RX7, "<init>", "()V"⟩
abbrev cX7_judgeAll : ByteArray := prog_9_method_2_code
def yX7_judgeAll : MethodName := ⟨RX7, "judgeAll", "(LSpeckValves$Plan;[ILSpeckValves$Fold;)V"⟩
abbrev cX7_endedOf : ByteArray := prog_9_method_3_code
def yX7_endedOf : MethodName := ⟨RX7, "endedOf", "(LSpeckValves$Fold;)I"⟩
abbrev cX7_firstRuleFor : ByteArray := prog_9_method_4_code
def yX7_firstRuleFor : MethodName := ⟨RX7, "firstRuleFor", "(LSpeckValves$Plan;[ILSpeckValves$Blob;)I"⟩
abbrev cX7_openFor : ByteArray := prog_9_method_5_code
def yX7_openFor : MethodName := ⟨RX7, "openFor", "(LSpeckValves$Plan;LSpeckValves$Blob;)V"⟩
abbrev cX7_isBlown : ByteArray := prog_9_method_6_code
def yX7_isBlown : MethodName := ⟨RX7, "isBlown", "(LSpeckValves$Plan;LSpeckValves$Blob;)Z"⟩
abbrev cX7_isBad : ByteArray := prog_9_method_7_code
def yX7_isBad : MethodName := ⟨RX7, "isBad", "(I)Z"⟩
abbrev cX7_worth : ByteArray := prog_9_method_8_code
def yX7_worth : MethodName := ⟨RX7, "worth", "(LSpeckValves$Fold;)I"⟩
abbrev cX7_howMany : ByteArray := prog_9_method_9_code
def yX7_howMany : MethodName := ⟨RX7, "howMany", "(LSpeckValves$Plan;LSpeckValves$Fold;I)I"⟩
abbrev cX7_isOneOf : ByteArray := prog_9_method_10_code
def yX7_isOneOf : MethodName := ⟨RX7, "isOneOf", "(LSpeckValves$Plan;LSpeckValves$Fold;II)Z"⟩
abbrev cX7_howManyBadBy : ByteArray := prog_9_method_11_code
def yX7_howManyBadBy : MethodName := ⟨RX7, "howManyBadBy", "(LSpeckValves$Fold;I)I"⟩
def RX8 : String := "SpeckValves"
def TX8 : u_T := fun k => match k with
  | 0 => ("SpeckValves", "text", "LSpeckValves$Text;", true)
  | 1 => ("SpeckValves", "stand", "LSpeckValves$Stand;", true)
  | 2 => ("SpeckValves", "history", "LSpeckValves$History;", true)
  | 3 => ("SpeckValves", "fold", "LSpeckValves$Fold;", true)
  | 4 => ("SpeckValves", "verdict", "LSpeckValves$Verdict;", true)
  | 5 => ("SpeckValves", "trial", "LSpeckValves$Verdict;", true)
  | 6 => ("SpeckValves", "trialNumbers", "[I", true)
  | 7 => ("SpeckValves", "laid", "LSpeckValves$Plan;", false)
  | _ => ("SpeckValves", "draft", "LSpeckValves$Plan;", false)
def tyX8 : Nat → FieldType := fun k => match k with
  | 0 => .object "SpeckValves$Text"
  | 1 => .object "SpeckValves$Stand"
  | 2 => .object "SpeckValves$History"
  | 3 => .object "SpeckValves$Fold"
  | 4 => .object "SpeckValves$Verdict"
  | 5 => .object "SpeckValves$Verdict"
  | 6 => .array .int
  | 7 => .object "SpeckValves$Plan"
  | _ => .object "SpeckValves$Plan"
abbrev wsX80 : List Cond := u_ws RX8 TX8 9
theorem nmX8 : ∀ a, a < 9 → ∀ b, b < 9 → a ≠ b → (TX8 a).2.1 ≠ (TX8 b).2.1 := by decide +kernel
theorem tyX8_ok : ∀ k, k < 9 → parseFieldDescriptor (TX8 k).2.2.1 = some (tyX8 k) := by decide +kernel
abbrev cX8_init : ByteArray := prog_1_method_1_code
def yX8_init : MethodName := ⟨RX8, "<init>", "()V"⟩
abbrev cX8_write : ByteArray := prog_1_method_2_code
def yX8_write : MethodName := ⟨RX8, "write", "(I)I"⟩
abbrev cX8_wipe : ByteArray := prog_1_method_3_code
def yX8_wipe : MethodName := ⟨RX8, "wipe", "()I"⟩
abbrev cX8_fault : ByteArray := prog_1_method_4_code
def yX8_fault : MethodName := ⟨RX8, "fault", "()I"⟩
abbrev cX8_lay : ByteArray := prog_1_method_5_code
def yX8_lay : MethodName := ⟨RX8, "lay", "()I"⟩
abbrev cX8_see : ByteArray := prog_1_method_6_code
def yX8_see : MethodName := ⟨RX8, "see", "(J)I"⟩
abbrev cX8_rule : ByteArray := prog_1_method_7_code
def yX8_rule : MethodName := ⟨RX8, "rule", "(II)I"⟩
abbrev cX8_clear : ByteArray := prog_1_method_8_code
def yX8_clear : MethodName := ⟨RX8, "clear", "()I"⟩
abbrev cX8_undo : ByteArray := prog_1_method_9_code
def yX8_undo : MethodName := ⟨RX8, "undo", "()I"⟩
abbrev cX8_blob : ByteArray := prog_1_method_10_code
def yX8_blob : MethodName := ⟨RX8, "blob", "(II)I"⟩
abbrev cX8_open : ByteArray := prog_1_method_11_code
def yX8_open : MethodName := ⟨RX8, "open", "(I)I"⟩
abbrev cX8_opening : ByteArray := prog_1_method_12_code
def yX8_opening : MethodName := ⟨RX8, "opening", "(III)I"⟩
abbrev cX8_air : ByteArray := prog_1_method_13_code
def yX8_air : MethodName := ⟨RX8, "air", "(I)I"⟩
abbrev cX8_gain : ByteArray := prog_1_method_14_code
def yX8_gain : MethodName := ⟨RX8, "gain", "()I"⟩
abbrev cX8_best : ByteArray := prog_1_method_15_code
def yX8_best : MethodName := ⟨RX8, "best", "(II)I"⟩
abbrev cX8_count : ByteArray := prog_1_method_16_code
def yX8_count : MethodName := ⟨RX8, "count", "(I)I"⟩
abbrev cX8_told : ByteArray := prog_1_method_17_code
def yX8_told : MethodName := ⟨RX8, "told", "(II)I"⟩
abbrev cX8_isRule : ByteArray := prog_1_method_18_code
def yX8_isRule : MethodName := ⟨RX8, "isRule", "(I)Z"⟩
abbrev cX8_isValve : ByteArray := prog_1_method_19_code
def yX8_isValve : MethodName := ⟨RX8, "isValve", "(I)Z"⟩
abbrev cX8_asFlag : ByteArray := prog_1_method_20_code
def yX8_asFlag : MethodName := ⟨RX8, "asFlag", "(Z)I"⟩
abbrev cX8_layDraft : ByteArray := prog_1_method_21_code
def yX8_layDraft : MethodName := ⟨RX8, "layDraft", "()V"⟩
abbrev cX8_dropLines : ByteArray := prog_1_method_22_code
def yX8_dropLines : MethodName := ⟨RX8, "dropLines", "()V"⟩
abbrev cX8_foldAll : ByteArray := prog_1_method_23_code
def yX8_foldAll : MethodName := ⟨RX8, "foldAll", "()V"⟩
abbrev cX8_judge : ByteArray := prog_1_method_24_code
def yX8_judge : MethodName := ⟨RX8, "judge", "()V"⟩
abbrev cX8_worthByNumber : ByteArray := prog_1_method_25_code
def yX8_worthByNumber : MethodName := ⟨RX8, "worthByNumber", "(II)I"⟩
def RX9 : String := "SpeckValvesModel"
def TX9 : u_T := fun k => match k with
  | 0 => ("SpeckValvesModel", "plan", "[I", true)
  | 1 => ("SpeckValvesModel", "rules", "I", false)
  | 2 => ("SpeckValvesModel", "kinds", "[I", true)
  | 3 => ("SpeckValvesModel", "now", "[J", true)
  | 4 => ("SpeckValvesModel", "past", "[J", true)
  | 5 => ("SpeckValvesModel", "undos", "I", false)
  | 6 => ("SpeckValvesModel", "text", "[I", true)
  | 7 => ("SpeckValvesModel", "letters", "I", false)
  | 8 => ("SpeckValvesModel", "newPlan", "[I", true)
  | 9 => ("SpeckValvesModel", "newRules", "I", false)
  | 10 => ("SpeckValvesModel", "newKinds", "[I", true)
  | 11 => ("SpeckValvesModel", "newNumbers", "[I", true)
  | 12 => ("SpeckValvesModel", "at", "I", false)
  | 13 => ("SpeckValvesModel", "cells", "[I", true)
  | 14 => ("SpeckValvesModel", "least", "[I", true)
  | 15 => ("SpeckValvesModel", "blobs", "I", false)
  | 16 => ("SpeckValvesModel", "ended", "I", false)
  | 17 => ("SpeckValvesModel", "openCells", "I", false)
  | 18 => ("SpeckValvesModel", "blobAt", "[I", true)
  | 19 => ("SpeckValvesModel", "first", "[I", true)
  | 20 => ("SpeckValvesModel", "last", "[I", true)
  | 21 => ("SpeckValvesModel", "low", "[I", true)
  | 22 => ("SpeckValvesModel", "left", "[I", true)
  | 23 => ("SpeckValvesModel", "right", "[I", true)
  | 24 => ("SpeckValvesModel", "size", "[I", true)
  | 25 => ("SpeckValvesModel", "sum", "[I", true)
  | 26 => ("SpeckValvesModel", "dark", "[I", true)
  | 27 => ("SpeckValvesModel", "numbered", "[I", true)
  | 28 => ("SpeckValvesModel", "limits", "[I", true)
  | 29 => ("SpeckValvesModel", "byRule", "[I", true)
  | 30 => ("SpeckValvesModel", "isOpen", "[Z", true)
  | _ => ("SpeckValvesModel", "isBlown", "[Z", true)
def tyX9 : Nat → FieldType := fun k => match k with
  | 0 => .array .int
  | 1 => .int
  | 2 => .array .int
  | 3 => .array .long
  | 4 => .array .long
  | 5 => .int
  | 6 => .array .int
  | 7 => .int
  | 8 => .array .int
  | 9 => .int
  | 10 => .array .int
  | 11 => .array .int
  | 12 => .int
  | 13 => .array .int
  | 14 => .array .int
  | 15 => .int
  | 16 => .int
  | 17 => .int
  | 18 => .array .int
  | 19 => .array .int
  | 20 => .array .int
  | 21 => .array .int
  | 22 => .array .int
  | 23 => .array .int
  | 24 => .array .int
  | 25 => .array .int
  | 26 => .array .int
  | 27 => .array .int
  | 28 => .array .int
  | 29 => .array .int
  | 30 => .array .boolean
  | _ => .array .boolean
abbrev wsX90 : List Cond := u_ws RX9 TX9 32
theorem nmX9 : ∀ a, a < 32 → ∀ b, b < 32 → a ≠ b → (TX9 a).2.1 ≠ (TX9 b).2.1 := by decide +kernel
theorem tyX9_ok : ∀ k, k < 32 → parseFieldDescriptor (TX9 k).2.2.1 = some (tyX9 k) := by decide +kernel
abbrev cX9_init : ByteArray := prog_11_method_1_code
def yX9_init : MethodName := ⟨RX9, "<init>", "()V"⟩
abbrev cX9_within : ByteArray := prog_11_method_3_code
def yX9_within : MethodName := ⟨RX9, "within", "(JJJ)Z"⟩
abbrev cX9_plans : ByteArray := prog_11_method_4_code
def yX9_plans : MethodName := ⟨RX9, "plans", "([I)V"⟩
abbrev cX9_passes : ByteArray := prog_11_method_5_code
def yX9_passes : MethodName := ⟨RX9, "passes", "(I)Z"⟩
abbrev cX9_isFigure : ByteArray := prog_11_method_6_code
def yX9_isFigure : MethodName := ⟨RX9, "isFigure", "()Z"⟩
abbrev cX9_number : ByteArray := prog_11_method_7_code
def yX9_number : MethodName := ⟨RX9, "number", "(II)I"⟩
abbrev cX9_isGate : ByteArray := prog_11_method_8_code
def yX9_isGate : MethodName := ⟨RX9, "isGate", "()Z"⟩
abbrev cX9_isRule : ByteArray := prog_11_method_9_code
def yX9_isRule : MethodName := ⟨RX9, "isRule", "()Z"⟩
abbrev cX9_isItem : ByteArray := prog_11_method_10_code
def yX9_isItem : MethodName := ⟨RX9, "isItem", "()Z"⟩
abbrev cX9_faultAt : ByteArray := prog_11_method_11_code
def yX9_faultAt : MethodName := ⟨RX9, "faultAt", "()I"⟩
abbrev cX9_write : ByteArray := prog_11_method_12_code
def yX9_write : MethodName := ⟨RX9, "write", "(I)I"⟩
abbrev cX9_wipe : ByteArray := prog_11_method_13_code
def yX9_wipe : MethodName := ⟨RX9, "wipe", "()I"⟩
abbrev cX9_fault : ByteArray := prog_11_method_14_code
def yX9_fault : MethodName := ⟨RX9, "fault", "()I"⟩
abbrev cX9_lay : ByteArray := prog_11_method_15_code
def yX9_lay : MethodName := ⟨RX9, "lay", "()I"⟩
abbrev cX9_keeps : ByteArray := prog_11_method_16_code
def yX9_keeps : MethodName := ⟨RX9, "keeps", "()V"⟩
abbrev cX9_lines : ByteArray := prog_11_method_17_code
def yX9_lines : MethodName := ⟨RX9, "lines", "()I"⟩
abbrev cX9_power : ByteArray := prog_11_method_18_code
def yX9_power : MethodName := ⟨RX9, "power", "()J"⟩
abbrev cX9_see : ByteArray := prog_11_method_19_code
def yX9_see : MethodName := ⟨RX9, "see", "(J)I"⟩
abbrev cX9_isRuleThere : ByteArray := prog_11_method_20_code
def yX9_isRuleThere : MethodName := ⟨RX9, "isRuleThere", "(I)Z"⟩
abbrev cX9_rule : ByteArray := prog_11_method_21_code
def yX9_rule : MethodName := ⟨RX9, "rule", "(II)I"⟩
abbrev cX9_clear : ByteArray := prog_11_method_22_code
def yX9_clear : MethodName := ⟨RX9, "clear", "()I"⟩
abbrev cX9_undo : ByteArray := prog_11_method_23_code
def yX9_undo : MethodName := ⟨RX9, "undo", "()I"⟩
abbrev cX9_laysCells : ByteArray := prog_11_method_24_code
def yX9_laysCells : MethodName := ⟨RX9, "laysCells", "()V"⟩
abbrev cX9_rootOf : ByteArray := prog_11_method_25_code
def yX9_rootOf : MethodName := ⟨RX9, "rootOf", "(I)I"⟩
abbrev cX9_joins : ByteArray := prog_11_method_26_code
def yX9_joins : MethodName := ⟨RX9, "joins", "(II)V"⟩
abbrev cX9_joinsAround : ByteArray := prog_11_method_27_code
def yX9_joinsAround : MethodName := ⟨RX9, "joinsAround", "(II)V"⟩
abbrev cX9_blobOf : ByteArray := prog_11_method_28_code
def yX9_blobOf : MethodName := ⟨RX9, "blobOf", "(I)I"⟩
abbrev cX9_begins : ByteArray := prog_11_method_29_code
def yX9_begins : MethodName := ⟨RX9, "begins", "(III)V"⟩
abbrev cX9_counts : ByteArray := prog_11_method_30_code
def yX9_counts : MethodName := ⟨RX9, "counts", "(II)V"⟩
abbrev cX9_isAhead : ByteArray := prog_11_method_31_code
def yX9_isAhead : MethodName := ⟨RX9, "isAhead", "(II)Z"⟩
abbrev cX9_numbersEnded : ByteArray := prog_11_method_32_code
def yX9_numbersEnded : MethodName := ⟨RX9, "numbersEnded", "()V"⟩
abbrev cX9_laysBlobs : ByteArray := prog_11_method_33_code
def yX9_laysBlobs : MethodName := ⟨RX9, "laysBlobs", "()V"⟩
abbrev cX9_valueOf : ByteArray := prog_11_method_34_code
def yX9_valueOf : MethodName := ⟨RX9, "valueOf", "(II)I"⟩
abbrev cX9_ruleOf : ByteArray := prog_11_method_35_code
def yX9_ruleOf : MethodName := ⟨RX9, "ruleOf", "(I)I"⟩
abbrev cX9_perValve : ByteArray := prog_11_method_36_code
def yX9_perValve : MethodName := ⟨RX9, "perValve", "()I"⟩
abbrev cX9_wanted : ByteArray := prog_11_method_37_code
def yX9_wanted : MethodName := ⟨RX9, "wanted", "(I)I"⟩
abbrev cX9_wants : ByteArray := prog_11_method_38_code
def yX9_wants : MethodName := ⟨RX9, "wants", "(I)V"⟩
abbrev cX9_rests : ByteArray := prog_11_method_39_code
def yX9_rests : MethodName := ⟨RX9, "rests", "(I)V"⟩
abbrev cX9_isBlownNow : ByteArray := prog_11_method_40_code
def yX9_isBlownNow : MethodName := ⟨RX9, "isBlownNow", "(I)Z"⟩
abbrev cX9_judges : ByteArray := prog_11_method_41_code
def yX9_judges : MethodName := ⟨RX9, "judges", "()V"⟩
abbrev cX9_judgesNow : ByteArray := prog_11_method_42_code
def yX9_judgesNow : MethodName := ⟨RX9, "judgesNow", "()V"⟩
abbrev cX9_isLate : ByteArray := prog_11_method_43_code
def yX9_isLate : MethodName := ⟨RX9, "isLate", "(I)Z"⟩
abbrev cX9_tellBlob : ByteArray := prog_11_method_44_code
def yX9_tellBlob : MethodName := ⟨RX9, "tellBlob", "(II)I"⟩
abbrev cX9_blob : ByteArray := prog_11_method_45_code
def yX9_blob : MethodName := ⟨RX9, "blob", "(II)I"⟩
abbrev cX9_open : ByteArray := prog_11_method_46_code
def yX9_open : MethodName := ⟨RX9, "open", "(I)I"⟩
abbrev cX9_isValve : ByteArray := prog_11_method_47_code
def yX9_isValve : MethodName := ⟨RX9, "isValve", "(I)Z"⟩
abbrev cX9_opening : ByteArray := prog_11_method_48_code
def yX9_opening : MethodName := ⟨RX9, "opening", "(III)I"⟩
abbrev cX9_air : ByteArray := prog_11_method_49_code
def yX9_air : MethodName := ⟨RX9, "air", "(I)I"⟩
abbrev cX9_gained : ByteArray := prog_11_method_50_code
def yX9_gained : MethodName := ⟨RX9, "gained", "()I"⟩
abbrev cX9_gain : ByteArray := prog_11_method_51_code
def yX9_gain : MethodName := ⟨RX9, "gain", "()I"⟩
abbrev cX9_best : ByteArray := prog_11_method_52_code
def yX9_best : MethodName := ⟨RX9, "best", "(II)I"⟩
abbrev cX9_howMany : ByteArray := prog_11_method_53_code
def yX9_howMany : MethodName := ⟨RX9, "howMany", "(I)I"⟩
abbrev cX9_endedNow : ByteArray := prog_11_method_54_code
def yX9_endedNow : MethodName := ⟨RX9, "endedNow", "()I"⟩
abbrev cX9_count : ByteArray := prog_11_method_55_code
def yX9_count : MethodName := ⟨RX9, "count", "(I)I"⟩
abbrev cX9_judgedBy : ByteArray := prog_11_method_56_code
def yX9_judgedBy : MethodName := ⟨RX9, "judgedBy", "(I)I"⟩
abbrev cX9_told : ByteArray := prog_11_method_57_code
def yX9_told : MethodName := ⟨RX9, "told", "(II)I"⟩
def RJ9 : String := "java/lang/Math"
def TJ9 : u_T := fun k => match k with
  | _ => ("", "", "", false)
def tyJ9 : Nat → FieldType := fun k => match k with
  | _ => .int
abbrev wsJ90 : List Cond := u_ws RJ9 TJ9 0
theorem nmJ9 : ∀ a, a < 0 → ∀ b, b < 0 → a ≠ b → (TJ9 a).2.1 ≠ (TJ9 b).2.1 := by decide +kernel
theorem tyJ9_ok : ∀ k, k < 0 → parseFieldDescriptor (TJ9 k).2.2.1 = some (tyJ9 k) := by decide +kernel
abbrev cJ9_max_7cf53 : ByteArray := prog_12_method_65_code
def yJ9_max_7cf53 : MethodName := ⟨RJ9, "max", "(II)I"⟩
abbrev cJ9_min_7cf53 : ByteArray := prog_12_method_69_code
def yJ9_min_7cf53 : MethodName := ⟨RJ9, "min", "(II)I"⟩
def RJ10 : String := "java/lang/System"
def TJ10 : u_T := fun k => match k with
  | _ => ("", "", "", false)
def tyJ10 : Nat → FieldType := fun k => match k with
  | _ => .int
abbrev wsJ100 : List Cond := u_ws RJ10 TJ10 0
theorem nmJ10 : ∀ a, a < 0 → ∀ b, b < 0 → a ≠ b → (TJ10 a).2.1 ≠ (TJ10 b).2.1 := by decide +kernel
theorem tyJ10_ok : ∀ k, k < 0 → parseFieldDescriptor (TJ10 k).2.2.1 = some (tyJ10 k) := by decide +kernel
def RJ7 : String := "java/util/Arrays"
def TJ7 : u_T := fun k => match k with
  | _ => ("", "", "", false)
def tyJ7 : Nat → FieldType := fun k => match k with
  | _ => .int
abbrev wsJ70 : List Cond := u_ws RJ7 TJ7 0
theorem nmJ7 : ∀ a, a < 0 → ∀ b, b < 0 → a ≠ b → (TJ7 a).2.1 ≠ (TJ7 b).2.1 := by decide +kernel
theorem tyJ7_ok : ∀ k, k < 0 → parseFieldDescriptor (TJ7 k).2.2.1 = some (tyJ7 k) := by decide +kernel
abbrev cJ7_fill_53178 : ByteArray := prog_14_method_103_code
def yJ7_fill_53178 : MethodName := ⟨RJ7, "fill", "([II)V"⟩
def RL : String := "SpeckValvesLaw"
abbrev cL_law : ByteArray := code
def yL_law : MethodName := ⟨RL, "law", "([I)Z"⟩
abbrev vwCl : List vw_C := [(RX0, TX0, 8), (RX1, TX1, 5), (RX2, TX2, 3), (RX3, TX3, 10), (RX4, TX4, 3), (RX5, TX5, 4), (RX6, TX6, 3), (RX7, TX7, 3), (RX8, TX8, 9), (RX9, TX9, 32)]
end
section
theorem dX0_init_0 : decode cX0_init 0 = .ok (.aload_n 0, 1) := by decide +kernel
theorem dX0_init_1 : decode cX0_init 1 = .ok (.invokespecial 3, 3) := by decide +kernel
theorem dX0_init_4 : decode cX0_init 4 = .ok (.return_, 1) := by decide +kernel
theorem dX0_addCell_0 : decode cX0_addCell 0 = .ok (.aload_n 0, 1) := by decide +kernel
theorem dX0_addCell_1 : decode cX0_addCell 1 = .ok (.getfield 9, 3) := by decide +kernel
theorem dX0_addCell_4 : decode cX0_addCell 4 = .ok (.ifCond .ne 9, 3) := by decide +kernel
theorem dX0_addCell_7 : decode cX0_addCell 7 = .ok (.aload_n 0, 1) := by decide +kernel
theorem dX0_addCell_8 : decode cX0_addCell 8 = .ok (.iload_n 1, 1) := by decide +kernel
theorem dX0_addCell_9 : decode cX0_addCell 9 = .ok (.iload_n 2, 1) := by decide +kernel
theorem dX0_addCell_10 : decode cX0_addCell 10 = .ok (.invokevirtual 15, 3) := by decide +kernel
theorem dX0_addCell_13 : decode cX0_addCell 13 = .ok (.aload_n 0, 1) := by decide +kernel
theorem dX0_addCell_14 : decode cX0_addCell 14 = .ok (.aload_n 0, 1) := by decide +kernel
theorem dX0_addCell_15 : decode cX0_addCell 15 = .ok (.getfield 19, 3) := by decide +kernel
theorem dX0_addCell_18 : decode cX0_addCell 18 = .ok (.iload_n 1, 1) := by decide +kernel
theorem dX0_addCell_19 : decode cX0_addCell 19 = .ok (.invokestatic 22, 3) := by decide +kernel
theorem dX0_addCell_22 : decode cX0_addCell 22 = .ok (.putfield 19, 3) := by decide +kernel
theorem dX0_addCell_25 : decode cX0_addCell 25 = .ok (.aload_n 0, 1) := by decide +kernel
theorem dX0_addCell_26 : decode cX0_addCell 26 = .ok (.aload_n 0, 1) := by decide +kernel
theorem dX0_addCell_27 : decode cX0_addCell 27 = .ok (.getfield 28, 3) := by decide +kernel
theorem dX0_addCell_30 : decode cX0_addCell 30 = .ok (.iload_n 2, 1) := by decide +kernel
theorem dX0_addCell_31 : decode cX0_addCell 31 = .ok (.invokestatic 31, 3) := by decide +kernel
theorem dX0_addCell_34 : decode cX0_addCell 34 = .ok (.putfield 28, 3) := by decide +kernel
theorem dX0_addCell_37 : decode cX0_addCell 37 = .ok (.aload_n 0, 1) := by decide +kernel
theorem dX0_addCell_38 : decode cX0_addCell 38 = .ok (.aload_n 0, 1) := by decide +kernel
theorem dX0_addCell_39 : decode cX0_addCell 39 = .ok (.getfield 34, 3) := by decide +kernel
theorem dX0_addCell_42 : decode cX0_addCell 42 = .ok (.iload_n 2, 1) := by decide +kernel
theorem dX0_addCell_43 : decode cX0_addCell 43 = .ok (.invokestatic 22, 3) := by decide +kernel
theorem dX0_addCell_46 : decode cX0_addCell 46 = .ok (.putfield 34, 3) := by decide +kernel
theorem dX0_addCell_49 : decode cX0_addCell 49 = .ok (.aload_n 0, 1) := by decide +kernel
theorem dX0_addCell_50 : decode cX0_addCell 50 = .ok (.dup, 1) := by decide +kernel
theorem dX0_addCell_51 : decode cX0_addCell 51 = .ok (.getfield 9, 3) := by decide +kernel
theorem dX0_addCell_54 : decode cX0_addCell 54 = .ok (.iconst 1, 1) := by decide +kernel
theorem dX0_addCell_55 : decode cX0_addCell 55 = .ok (.iadd, 1) := by decide +kernel
theorem dX0_addCell_56 : decode cX0_addCell 56 = .ok (.putfield 9, 3) := by decide +kernel
theorem dX0_addCell_59 : decode cX0_addCell 59 = .ok (.aload_n 0, 1) := by decide +kernel
theorem dX0_addCell_60 : decode cX0_addCell 60 = .ok (.dup, 1) := by decide +kernel
theorem dX0_addCell_61 : decode cX0_addCell 61 = .ok (.getfield 37, 3) := by decide +kernel
theorem dX0_addCell_64 : decode cX0_addCell 64 = .ok (.iload_n 3, 1) := by decide +kernel
theorem dX0_addCell_65 : decode cX0_addCell 65 = .ok (.iadd, 1) := by decide +kernel
theorem dX0_addCell_66 : decode cX0_addCell 66 = .ok (.putfield 37, 3) := by decide +kernel
theorem dX0_addCell_69 : decode cX0_addCell 69 = .ok (.aload_n 0, 1) := by decide +kernel
theorem dX0_addCell_70 : decode cX0_addCell 70 = .ok (.dup, 1) := by decide +kernel
theorem dX0_addCell_71 : decode cX0_addCell 71 = .ok (.getfield 40, 3) := by decide +kernel
theorem dX0_addCell_74 : decode cX0_addCell 74 = .ok (.iload 4, 2) := by decide +kernel
theorem dX0_addCell_76 : decode cX0_addCell 76 = .ok (.ifCond .eq 7, 3) := by decide +kernel
theorem dX0_addCell_79 : decode cX0_addCell 79 = .ok (.iconst 1, 1) := by decide +kernel
theorem dX0_addCell_80 : decode cX0_addCell 80 = .ok (.goto 4, 3) := by decide +kernel
theorem dX0_addCell_83 : decode cX0_addCell 83 = .ok (.iconst 0, 1) := by decide +kernel
theorem dX0_addCell_84 : decode cX0_addCell 84 = .ok (.iadd, 1) := by decide +kernel
theorem dX0_addCell_85 : decode cX0_addCell 85 = .ok (.putfield 40, 3) := by decide +kernel
theorem dX0_addCell_88 : decode cX0_addCell 88 = .ok (.return_, 1) := by decide +kernel
theorem dX0_beginAt_0 : decode cX0_beginAt 0 = .ok (.aload_n 0, 1) := by decide +kernel
theorem dX0_beginAt_1 : decode cX0_beginAt 1 = .ok (.iload_n 1, 1) := by decide +kernel
theorem dX0_beginAt_2 : decode cX0_beginAt 2 = .ok (.putfield 43, 3) := by decide +kernel
theorem dX0_beginAt_5 : decode cX0_beginAt 5 = .ok (.aload_n 0, 1) := by decide +kernel
theorem dX0_beginAt_6 : decode cX0_beginAt 6 = .ok (.iload_n 1, 1) := by decide +kernel
theorem dX0_beginAt_7 : decode cX0_beginAt 7 = .ok (.putfield 19, 3) := by decide +kernel
theorem dX0_beginAt_10 : decode cX0_beginAt 10 = .ok (.aload_n 0, 1) := by decide +kernel
theorem dX0_beginAt_11 : decode cX0_beginAt 11 = .ok (.iload_n 2, 1) := by decide +kernel
theorem dX0_beginAt_12 : decode cX0_beginAt 12 = .ok (.putfield 46, 3) := by decide +kernel
theorem dX0_beginAt_15 : decode cX0_beginAt 15 = .ok (.aload_n 0, 1) := by decide +kernel
theorem dX0_beginAt_16 : decode cX0_beginAt 16 = .ok (.iload_n 2, 1) := by decide +kernel
theorem dX0_beginAt_17 : decode cX0_beginAt 17 = .ok (.putfield 28, 3) := by decide +kernel
theorem dX0_beginAt_20 : decode cX0_beginAt 20 = .ok (.aload_n 0, 1) := by decide +kernel
theorem dX0_beginAt_21 : decode cX0_beginAt 21 = .ok (.iload_n 2, 1) := by decide +kernel
theorem dX0_beginAt_22 : decode cX0_beginAt 22 = .ok (.putfield 34, 3) := by decide +kernel
theorem dX0_beginAt_25 : decode cX0_beginAt 25 = .ok (.aload_n 0, 1) := by decide +kernel
theorem dX0_beginAt_26 : decode cX0_beginAt 26 = .ok (.iconst 0, 1) := by decide +kernel
theorem dX0_beginAt_27 : decode cX0_beginAt 27 = .ok (.putfield 37, 3) := by decide +kernel
theorem dX0_beginAt_30 : decode cX0_beginAt 30 = .ok (.aload_n 0, 1) := by decide +kernel
theorem dX0_beginAt_31 : decode cX0_beginAt 31 = .ok (.iconst 0, 1) := by decide +kernel
theorem dX0_beginAt_32 : decode cX0_beginAt 32 = .ok (.putfield 40, 3) := by decide +kernel
theorem dX0_beginAt_35 : decode cX0_beginAt 35 = .ok (.return_, 1) := by decide +kernel
theorem dX0_absorb_0 : decode cX0_absorb 0 = .ok (.aload_n 1, 1) := by decide +kernel
theorem dX0_absorb_1 : decode cX0_absorb 1 = .ok (.aload_n 0, 1) := by decide +kernel
theorem dX0_absorb_2 : decode cX0_absorb 2 = .ok (.invokevirtual 49, 3) := by decide +kernel
theorem dX0_absorb_5 : decode cX0_absorb 5 = .ok (.ifCond .eq 19, 3) := by decide +kernel
theorem dX0_absorb_8 : decode cX0_absorb 8 = .ok (.aload_n 0, 1) := by decide +kernel
theorem dX0_absorb_9 : decode cX0_absorb 9 = .ok (.aload_n 1, 1) := by decide +kernel
theorem dX0_absorb_10 : decode cX0_absorb 10 = .ok (.getfield 43, 3) := by decide +kernel
theorem dX0_absorb_13 : decode cX0_absorb 13 = .ok (.putfield 43, 3) := by decide +kernel
theorem dX0_absorb_16 : decode cX0_absorb 16 = .ok (.aload_n 0, 1) := by decide +kernel
theorem dX0_absorb_17 : decode cX0_absorb 17 = .ok (.aload_n 1, 1) := by decide +kernel
theorem dX0_absorb_18 : decode cX0_absorb 18 = .ok (.getfield 46, 3) := by decide +kernel
theorem dX0_absorb_21 : decode cX0_absorb 21 = .ok (.putfield 46, 3) := by decide +kernel
theorem dX0_absorb_24 : decode cX0_absorb 24 = .ok (.aload_n 0, 1) := by decide +kernel
theorem dX0_absorb_25 : decode cX0_absorb 25 = .ok (.aload_n 0, 1) := by decide +kernel
theorem dX0_absorb_26 : decode cX0_absorb 26 = .ok (.getfield 19, 3) := by decide +kernel
theorem dX0_absorb_29 : decode cX0_absorb 29 = .ok (.aload_n 1, 1) := by decide +kernel
theorem dX0_absorb_30 : decode cX0_absorb 30 = .ok (.getfield 19, 3) := by decide +kernel
theorem dX0_absorb_33 : decode cX0_absorb 33 = .ok (.invokestatic 22, 3) := by decide +kernel
theorem dX0_absorb_36 : decode cX0_absorb 36 = .ok (.putfield 19, 3) := by decide +kernel
theorem dX0_absorb_39 : decode cX0_absorb 39 = .ok (.aload_n 0, 1) := by decide +kernel
theorem dX0_absorb_40 : decode cX0_absorb 40 = .ok (.aload_n 0, 1) := by decide +kernel
theorem dX0_absorb_41 : decode cX0_absorb 41 = .ok (.getfield 28, 3) := by decide +kernel
theorem dX0_absorb_44 : decode cX0_absorb 44 = .ok (.aload_n 1, 1) := by decide +kernel
theorem dX0_absorb_45 : decode cX0_absorb 45 = .ok (.getfield 28, 3) := by decide +kernel
theorem dX0_absorb_48 : decode cX0_absorb 48 = .ok (.invokestatic 31, 3) := by decide +kernel
theorem dX0_absorb_51 : decode cX0_absorb 51 = .ok (.putfield 28, 3) := by decide +kernel
theorem dX0_absorb_54 : decode cX0_absorb 54 = .ok (.aload_n 0, 1) := by decide +kernel
theorem dX0_absorb_55 : decode cX0_absorb 55 = .ok (.aload_n 0, 1) := by decide +kernel
theorem dX0_absorb_56 : decode cX0_absorb 56 = .ok (.getfield 34, 3) := by decide +kernel
theorem dX0_absorb_59 : decode cX0_absorb 59 = .ok (.aload_n 1, 1) := by decide +kernel
theorem dX0_absorb_60 : decode cX0_absorb 60 = .ok (.getfield 34, 3) := by decide +kernel
theorem dX0_absorb_63 : decode cX0_absorb 63 = .ok (.invokestatic 22, 3) := by decide +kernel
theorem dX0_absorb_66 : decode cX0_absorb 66 = .ok (.putfield 34, 3) := by decide +kernel
theorem dX0_absorb_69 : decode cX0_absorb 69 = .ok (.aload_n 0, 1) := by decide +kernel
theorem dX0_absorb_70 : decode cX0_absorb 70 = .ok (.dup, 1) := by decide +kernel
theorem dX0_absorb_71 : decode cX0_absorb 71 = .ok (.getfield 9, 3) := by decide +kernel
theorem dX0_absorb_74 : decode cX0_absorb 74 = .ok (.aload_n 1, 1) := by decide +kernel
theorem dX0_absorb_75 : decode cX0_absorb 75 = .ok (.getfield 9, 3) := by decide +kernel
theorem dX0_absorb_78 : decode cX0_absorb 78 = .ok (.iadd, 1) := by decide +kernel
theorem dX0_absorb_79 : decode cX0_absorb 79 = .ok (.putfield 9, 3) := by decide +kernel
theorem dX0_absorb_82 : decode cX0_absorb 82 = .ok (.aload_n 0, 1) := by decide +kernel
theorem dX0_absorb_83 : decode cX0_absorb 83 = .ok (.dup, 1) := by decide +kernel
theorem dX0_absorb_84 : decode cX0_absorb 84 = .ok (.getfield 37, 3) := by decide +kernel
theorem dX0_absorb_87 : decode cX0_absorb 87 = .ok (.aload_n 1, 1) := by decide +kernel
theorem dX0_absorb_88 : decode cX0_absorb 88 = .ok (.getfield 37, 3) := by decide +kernel
theorem dX0_absorb_91 : decode cX0_absorb 91 = .ok (.iadd, 1) := by decide +kernel
theorem dX0_absorb_92 : decode cX0_absorb 92 = .ok (.putfield 37, 3) := by decide +kernel
theorem dX0_absorb_95 : decode cX0_absorb 95 = .ok (.aload_n 0, 1) := by decide +kernel
theorem dX0_absorb_96 : decode cX0_absorb 96 = .ok (.dup, 1) := by decide +kernel
theorem dX0_absorb_97 : decode cX0_absorb 97 = .ok (.getfield 40, 3) := by decide +kernel
theorem dX0_absorb_100 : decode cX0_absorb 100 = .ok (.aload_n 1, 1) := by decide +kernel
theorem dX0_absorb_101 : decode cX0_absorb 101 = .ok (.getfield 40, 3) := by decide +kernel
theorem dX0_absorb_104 : decode cX0_absorb 104 = .ok (.iadd, 1) := by decide +kernel
theorem dX0_absorb_105 : decode cX0_absorb 105 = .ok (.putfield 40, 3) := by decide +kernel
theorem dX0_absorb_108 : decode cX0_absorb 108 = .ok (.aload_n 1, 1) := by decide +kernel
theorem dX0_absorb_109 : decode cX0_absorb 109 = .ok (.iconst 0, 1) := by decide +kernel
theorem dX0_absorb_110 : decode cX0_absorb 110 = .ok (.putfield 9, 3) := by decide +kernel
theorem dX0_absorb_113 : decode cX0_absorb 113 = .ok (.return_, 1) := by decide +kernel
theorem dX0_copyFrom_0 : decode cX0_copyFrom 0 = .ok (.aload_n 0, 1) := by decide +kernel
theorem dX0_copyFrom_1 : decode cX0_copyFrom 1 = .ok (.aload_n 1, 1) := by decide +kernel
theorem dX0_copyFrom_2 : decode cX0_copyFrom 2 = .ok (.getfield 43, 3) := by decide +kernel
theorem dX0_copyFrom_5 : decode cX0_copyFrom 5 = .ok (.putfield 43, 3) := by decide +kernel
theorem dX0_copyFrom_8 : decode cX0_copyFrom 8 = .ok (.aload_n 0, 1) := by decide +kernel
theorem dX0_copyFrom_9 : decode cX0_copyFrom 9 = .ok (.aload_n 1, 1) := by decide +kernel
theorem dX0_copyFrom_10 : decode cX0_copyFrom 10 = .ok (.getfield 19, 3) := by decide +kernel
theorem dX0_copyFrom_13 : decode cX0_copyFrom 13 = .ok (.putfield 19, 3) := by decide +kernel
theorem dX0_copyFrom_16 : decode cX0_copyFrom 16 = .ok (.aload_n 0, 1) := by decide +kernel
theorem dX0_copyFrom_17 : decode cX0_copyFrom 17 = .ok (.aload_n 1, 1) := by decide +kernel
theorem dX0_copyFrom_18 : decode cX0_copyFrom 18 = .ok (.getfield 46, 3) := by decide +kernel
theorem dX0_copyFrom_21 : decode cX0_copyFrom 21 = .ok (.putfield 46, 3) := by decide +kernel
theorem dX0_copyFrom_24 : decode cX0_copyFrom 24 = .ok (.aload_n 0, 1) := by decide +kernel
theorem dX0_copyFrom_25 : decode cX0_copyFrom 25 = .ok (.aload_n 1, 1) := by decide +kernel
theorem dX0_copyFrom_26 : decode cX0_copyFrom 26 = .ok (.getfield 28, 3) := by decide +kernel
theorem dX0_copyFrom_29 : decode cX0_copyFrom 29 = .ok (.putfield 28, 3) := by decide +kernel
theorem dX0_copyFrom_32 : decode cX0_copyFrom 32 = .ok (.aload_n 0, 1) := by decide +kernel
theorem dX0_copyFrom_33 : decode cX0_copyFrom 33 = .ok (.aload_n 1, 1) := by decide +kernel
theorem dX0_copyFrom_34 : decode cX0_copyFrom 34 = .ok (.getfield 34, 3) := by decide +kernel
theorem dX0_copyFrom_37 : decode cX0_copyFrom 37 = .ok (.putfield 34, 3) := by decide +kernel
theorem dX0_copyFrom_40 : decode cX0_copyFrom 40 = .ok (.aload_n 0, 1) := by decide +kernel
theorem dX0_copyFrom_41 : decode cX0_copyFrom 41 = .ok (.aload_n 1, 1) := by decide +kernel
theorem dX0_copyFrom_42 : decode cX0_copyFrom 42 = .ok (.getfield 9, 3) := by decide +kernel
theorem dX0_copyFrom_45 : decode cX0_copyFrom 45 = .ok (.putfield 9, 3) := by decide +kernel
theorem dX0_copyFrom_48 : decode cX0_copyFrom 48 = .ok (.aload_n 0, 1) := by decide +kernel
theorem dX0_copyFrom_49 : decode cX0_copyFrom 49 = .ok (.aload_n 1, 1) := by decide +kernel
theorem dX0_copyFrom_50 : decode cX0_copyFrom 50 = .ok (.getfield 37, 3) := by decide +kernel
theorem dX0_copyFrom_53 : decode cX0_copyFrom 53 = .ok (.putfield 37, 3) := by decide +kernel
theorem dX0_copyFrom_56 : decode cX0_copyFrom 56 = .ok (.aload_n 0, 1) := by decide +kernel
theorem dX0_copyFrom_57 : decode cX0_copyFrom 57 = .ok (.aload_n 1, 1) := by decide +kernel
theorem dX0_copyFrom_58 : decode cX0_copyFrom 58 = .ok (.getfield 40, 3) := by decide +kernel
theorem dX0_copyFrom_61 : decode cX0_copyFrom 61 = .ok (.putfield 40, 3) := by decide +kernel
theorem dX0_copyFrom_64 : decode cX0_copyFrom 64 = .ok (.return_, 1) := by decide +kernel
theorem dX0_beganBefore_0 : decode cX0_beganBefore 0 = .ok (.aload_n 0, 1) := by decide +kernel
theorem dX0_beganBefore_1 : decode cX0_beganBefore 1 = .ok (.getfield 43, 3) := by decide +kernel
theorem dX0_beganBefore_4 : decode cX0_beganBefore 4 = .ok (.aload_n 1, 1) := by decide +kernel
theorem dX0_beganBefore_5 : decode cX0_beganBefore 5 = .ok (.getfield 43, 3) := by decide +kernel
theorem dX0_beganBefore_8 : decode cX0_beganBefore 8 = .ok (.if_icmp .lt 25, 3) := by decide +kernel
theorem dX0_beganBefore_11 : decode cX0_beganBefore 11 = .ok (.aload_n 0, 1) := by decide +kernel
theorem dX0_beganBefore_12 : decode cX0_beganBefore 12 = .ok (.getfield 43, 3) := by decide +kernel
theorem dX0_beganBefore_15 : decode cX0_beganBefore 15 = .ok (.aload_n 1, 1) := by decide +kernel
theorem dX0_beganBefore_16 : decode cX0_beganBefore 16 = .ok (.getfield 43, 3) := by decide +kernel
theorem dX0_beganBefore_19 : decode cX0_beganBefore 19 = .ok (.if_icmp .ne 18, 3) := by decide +kernel
theorem dX0_beganBefore_22 : decode cX0_beganBefore 22 = .ok (.aload_n 0, 1) := by decide +kernel
theorem dX0_beganBefore_23 : decode cX0_beganBefore 23 = .ok (.getfield 46, 3) := by decide +kernel
theorem dX0_beganBefore_26 : decode cX0_beganBefore 26 = .ok (.aload_n 1, 1) := by decide +kernel
theorem dX0_beganBefore_27 : decode cX0_beganBefore 27 = .ok (.getfield 46, 3) := by decide +kernel
theorem dX0_beganBefore_30 : decode cX0_beganBefore 30 = .ok (.if_icmp .ge 7, 3) := by decide +kernel
theorem dX0_beganBefore_33 : decode cX0_beganBefore 33 = .ok (.iconst 1, 1) := by decide +kernel
theorem dX0_beganBefore_34 : decode cX0_beganBefore 34 = .ok (.goto 4, 3) := by decide +kernel
theorem dX0_beganBefore_37 : decode cX0_beganBefore 37 = .ok (.iconst 0, 1) := by decide +kernel
theorem dX0_beganBefore_38 : decode cX0_beganBefore 38 = .ok (.ireturn, 1) := by decide +kernel
theorem dX0_endTick_0 : decode cX0_endTick 0 = .ok (.aload_n 0, 1) := by decide +kernel
theorem dX0_endTick_1 : decode cX0_endTick 1 = .ok (.getfield 19, 3) := by decide +kernel
theorem dX0_endTick_4 : decode cX0_endTick 4 = .ok (.iconst 1, 1) := by decide +kernel
theorem dX0_endTick_5 : decode cX0_endTick 5 = .ok (.iadd, 1) := by decide +kernel
theorem dX0_endTick_6 : decode cX0_endTick 6 = .ok (.ireturn, 1) := by decide +kernel
theorem dX0_mean_0 : decode cX0_mean 0 = .ok (.aload_n 0, 1) := by decide +kernel
theorem dX0_mean_1 : decode cX0_mean 1 = .ok (.getfield 9, 3) := by decide +kernel
theorem dX0_mean_4 : decode cX0_mean 4 = .ok (.ifCond .le 15, 3) := by decide +kernel
theorem dX0_mean_7 : decode cX0_mean 7 = .ok (.aload_n 0, 1) := by decide +kernel
theorem dX0_mean_8 : decode cX0_mean 8 = .ok (.getfield 37, 3) := by decide +kernel
theorem dX0_mean_11 : decode cX0_mean 11 = .ok (.aload_n 0, 1) := by decide +kernel
theorem dX0_mean_12 : decode cX0_mean 12 = .ok (.getfield 9, 3) := by decide +kernel
theorem dX0_mean_15 : decode cX0_mean 15 = .ok (.idiv, 1) := by decide +kernel
theorem dX0_mean_16 : decode cX0_mean 16 = .ok (.goto 4, 3) := by decide +kernel
theorem dX0_mean_19 : decode cX0_mean 19 = .ok (.iconst 0, 1) := by decide +kernel
theorem dX0_mean_20 : decode cX0_mean 20 = .ok (.ireturn, 1) := by decide +kernel
theorem dX0_measure_0 : decode cX0_measure 0 = .ok (.iload_n 1, 1) := by decide +kernel
theorem dX0_measure_1 : decode cX0_measure 1 = .ok (.tableswitch 42 0 2 #[27, 32, 37], 27) := by decide +kernel
theorem dX0_measure_28 : decode cX0_measure 28 = .ok (.aload_n 0, 1) := by decide +kernel
theorem dX0_measure_29 : decode cX0_measure 29 = .ok (.invokevirtual 53, 3) := by decide +kernel
theorem dX0_measure_32 : decode cX0_measure 32 = .ok (.ireturn, 1) := by decide +kernel
theorem dX0_measure_33 : decode cX0_measure 33 = .ok (.aload_n 0, 1) := by decide +kernel
theorem dX0_measure_34 : decode cX0_measure 34 = .ok (.getfield 40, 3) := by decide +kernel
theorem dX0_measure_37 : decode cX0_measure 37 = .ok (.ireturn, 1) := by decide +kernel
theorem dX0_measure_38 : decode cX0_measure 38 = .ok (.aload_n 0, 1) := by decide +kernel
theorem dX0_measure_39 : decode cX0_measure 39 = .ok (.getfield 9, 3) := by decide +kernel
theorem dX0_measure_42 : decode cX0_measure 42 = .ok (.ireturn, 1) := by decide +kernel
theorem dX0_measure_43 : decode cX0_measure 43 = .ok (.aload_n 0, 1) := by decide +kernel
theorem dX0_measure_44 : decode cX0_measure 44 = .ok (.getfield 19, 3) := by decide +kernel
theorem dX0_measure_47 : decode cX0_measure 47 = .ok (.aload_n 0, 1) := by decide +kernel
theorem dX0_measure_48 : decode cX0_measure 48 = .ok (.getfield 43, 3) := by decide +kernel
theorem dX0_measure_51 : decode cX0_measure 51 = .ok (.isub, 1) := by decide +kernel
theorem dX0_measure_52 : decode cX0_measure 52 = .ok (.iconst 1, 1) := by decide +kernel
theorem dX0_measure_53 : decode cX0_measure 53 = .ok (.iadd, 1) := by decide +kernel
theorem dX0_measure_54 : decode cX0_measure 54 = .ok (.ireturn, 1) := by decide +kernel
theorem dX0_worth_0 : decode cX0_worth 0 = .ok (.aload_n 0, 1) := by decide +kernel
theorem dX0_worth_1 : decode cX0_worth 1 = .ok (.getfield 40, 3) := by decide +kernel
theorem dX0_worth_4 : decode cX0_worth 4 = .ok (.ifCond .ne 10, 3) := by decide +kernel
theorem dX0_worth_7 : decode cX0_worth 7 = .ok (.aload_n 0, 1) := by decide +kernel
theorem dX0_worth_8 : decode cX0_worth 8 = .ok (.getfield 9, 3) := by decide +kernel
theorem dX0_worth_11 : decode cX0_worth 11 = .ok (.goto 10, 3) := by decide +kernel
theorem dX0_worth_14 : decode cX0_worth 14 = .ok (.bipush (-3), 2) := by decide +kernel
theorem dX0_worth_16 : decode cX0_worth 16 = .ok (.aload_n 0, 1) := by decide +kernel
theorem dX0_worth_17 : decode cX0_worth 17 = .ok (.getfield 40, 3) := by decide +kernel
theorem dX0_worth_20 : decode cX0_worth 20 = .ok (.imul, 1) := by decide +kernel
theorem dX0_worth_21 : decode cX0_worth 21 = .ok (.ireturn, 1) := by decide +kernel
theorem dX1_init_0 : decode cX1_init 0 = .ok (.aload_n 0, 1) := by decide +kernel
theorem dX1_init_1 : decode cX1_init 1 = .ok (.invokespecial 3, 3) := by decide +kernel
theorem dX1_init_4 : decode cX1_init 4 = .ok (.aload_n 0, 1) := by decide +kernel
theorem dX1_init_5 : decode cX1_init 5 = .ok (.bipush 31, 2) := by decide +kernel
theorem dX1_init_7 : decode cX1_init 7 = .ok (.anewarray 9, 3) := by decide +kernel
theorem dX1_init_10 : decode cX1_init 10 = .ok (.putfield 11, 3) := by decide +kernel
theorem dX1_init_13 : decode cX1_init 13 = .ok (.aload_n 0, 1) := by decide +kernel
theorem dX1_init_14 : decode cX1_init 14 = .ok (.bipush 16, 2) := by decide +kernel
theorem dX1_init_16 : decode cX1_init 16 = .ok (.anewarray 9, 3) := by decide +kernel
theorem dX1_init_19 : decode cX1_init 19 = .ok (.putfield 17, 3) := by decide +kernel
theorem dX1_init_22 : decode cX1_init 22 = .ok (.aload_n 0, 1) := by decide +kernel
theorem dX1_init_23 : decode cX1_init 23 = .ok (.bipush 16, 2) := by decide +kernel
theorem dX1_init_25 : decode cX1_init 25 = .ok (.newarray .int, 2) := by decide +kernel
theorem dX1_init_27 : decode cX1_init 27 = .ok (.putfield 20, 3) := by decide +kernel
theorem dX1_init_30 : decode cX1_init 30 = .ok (.aload_n 0, 1) := by decide +kernel
theorem dX1_init_31 : decode cX1_init 31 = .ok (.bipush 16, 2) := by decide +kernel
theorem dX1_init_33 : decode cX1_init 33 = .ok (.newarray .int, 2) := by decide +kernel
theorem dX1_init_35 : decode cX1_init 35 = .ok (.putfield 24, 3) := by decide +kernel
theorem dX1_init_38 : decode cX1_init 38 = .ok (.iconst 0, 1) := by decide +kernel
theorem dX1_init_39 : decode cX1_init 39 = .ok (.istore_n 1, 1) := by decide +kernel
theorem dX1_init_40 : decode cX1_init 40 = .ok (.iload_n 1, 1) := by decide +kernel
theorem dX1_init_41 : decode cX1_init 41 = .ok (.aload_n 0, 1) := by decide +kernel
theorem dX1_init_42 : decode cX1_init 42 = .ok (.getfield 11, 3) := by decide +kernel
theorem dX1_init_45 : decode cX1_init 45 = .ok (.arraylength, 1) := by decide +kernel
theorem dX1_init_46 : decode cX1_init 46 = .ok (.if_icmp .ge 22, 3) := by decide +kernel
theorem dX1_init_49 : decode cX1_init 49 = .ok (.aload_n 0, 1) := by decide +kernel
theorem dX1_init_50 : decode cX1_init 50 = .ok (.getfield 11, 3) := by decide +kernel
theorem dX1_init_53 : decode cX1_init 53 = .ok (.iload_n 1, 1) := by decide +kernel
theorem dX1_init_54 : decode cX1_init 54 = .ok (.new 9, 3) := by decide +kernel
theorem dX1_init_57 : decode cX1_init 57 = .ok (.dup, 1) := by decide +kernel
theorem dX1_init_58 : decode cX1_init 58 = .ok (.invokespecial 27, 3) := by decide +kernel
theorem dX1_init_61 : decode cX1_init 61 = .ok (.aastore, 1) := by decide +kernel
theorem dX1_init_62 : decode cX1_init 62 = .ok (.iinc 1 1, 3) := by decide +kernel
theorem dX1_init_65 : decode cX1_init 65 = .ok (.goto (-25), 3) := by decide +kernel
theorem dX1_init_68 : decode cX1_init 68 = .ok (.iconst 0, 1) := by decide +kernel
theorem dX1_init_69 : decode cX1_init 69 = .ok (.istore_n 1, 1) := by decide +kernel
theorem dX1_init_70 : decode cX1_init 70 = .ok (.iload_n 1, 1) := by decide +kernel
theorem dX1_init_71 : decode cX1_init 71 = .ok (.aload_n 0, 1) := by decide +kernel
theorem dX1_init_72 : decode cX1_init 72 = .ok (.getfield 17, 3) := by decide +kernel
theorem dX1_init_75 : decode cX1_init 75 = .ok (.arraylength, 1) := by decide +kernel
theorem dX1_init_76 : decode cX1_init 76 = .ok (.if_icmp .ge 22, 3) := by decide +kernel
theorem dX1_init_79 : decode cX1_init 79 = .ok (.aload_n 0, 1) := by decide +kernel
theorem dX1_init_80 : decode cX1_init 80 = .ok (.getfield 17, 3) := by decide +kernel
theorem dX1_init_83 : decode cX1_init 83 = .ok (.iload_n 1, 1) := by decide +kernel
theorem dX1_init_84 : decode cX1_init 84 = .ok (.new 9, 3) := by decide +kernel
theorem dX1_init_87 : decode cX1_init 87 = .ok (.dup, 1) := by decide +kernel
theorem dX1_init_88 : decode cX1_init 88 = .ok (.invokespecial 27, 3) := by decide +kernel
theorem dX1_init_91 : decode cX1_init 91 = .ok (.aastore, 1) := by decide +kernel
theorem dX1_init_92 : decode cX1_init 92 = .ok (.iinc 1 1, 3) := by decide +kernel
theorem dX1_init_95 : decode cX1_init 95 = .ok (.goto (-25), 3) := by decide +kernel
theorem dX1_init_98 : decode cX1_init 98 = .ok (.return_, 1) := by decide +kernel
theorem dX1_empty_0 : decode cX1_empty 0 = .ok (.aload_n 0, 1) := by decide +kernel
theorem dX1_empty_1 : decode cX1_empty 1 = .ok (.iconst 0, 1) := by decide +kernel
theorem dX1_empty_2 : decode cX1_empty 2 = .ok (.putfield 28, 3) := by decide +kernel
theorem dX1_empty_5 : decode cX1_empty 5 = .ok (.iconst 0, 1) := by decide +kernel
theorem dX1_empty_6 : decode cX1_empty 6 = .ok (.istore_n 1, 1) := by decide +kernel
theorem dX1_empty_7 : decode cX1_empty 7 = .ok (.iload_n 1, 1) := by decide +kernel
theorem dX1_empty_8 : decode cX1_empty 8 = .ok (.aload_n 0, 1) := by decide +kernel
theorem dX1_empty_9 : decode cX1_empty 9 = .ok (.getfield 17, 3) := by decide +kernel
theorem dX1_empty_12 : decode cX1_empty 12 = .ok (.arraylength, 1) := by decide +kernel
theorem dX1_empty_13 : decode cX1_empty 13 = .ok (.if_icmp .ge 19, 3) := by decide +kernel
theorem dX1_empty_16 : decode cX1_empty 16 = .ok (.aload_n 0, 1) := by decide +kernel
theorem dX1_empty_17 : decode cX1_empty 17 = .ok (.getfield 17, 3) := by decide +kernel
theorem dX1_empty_20 : decode cX1_empty 20 = .ok (.iload_n 1, 1) := by decide +kernel
theorem dX1_empty_21 : decode cX1_empty 21 = .ok (.aaload, 1) := by decide +kernel
theorem dX1_empty_22 : decode cX1_empty 22 = .ok (.iconst 0, 1) := by decide +kernel
theorem dX1_empty_23 : decode cX1_empty 23 = .ok (.putfield 32, 3) := by decide +kernel
theorem dX1_empty_26 : decode cX1_empty 26 = .ok (.iinc 1 1, 3) := by decide +kernel
theorem dX1_empty_29 : decode cX1_empty 29 = .ok (.goto (-22), 3) := by decide +kernel
theorem dX1_empty_32 : decode cX1_empty 32 = .ok (.aload_n 0, 1) := by decide +kernel
theorem dX1_empty_33 : decode cX1_empty 33 = .ok (.getfield 20, 3) := by decide +kernel
theorem dX1_empty_36 : decode cX1_empty 36 = .ok (.iconst (-1), 1) := by decide +kernel
theorem dX1_empty_37 : decode cX1_empty 37 = .ok (.invokestatic 35, 3) := by decide +kernel
theorem dX1_empty_40 : decode cX1_empty 40 = .ok (.return_, 1) := by decide +kernel
theorem dX1_addLine_0 : decode cX1_addLine 0 = .ok (.aload_n 0, 1) := by decide +kernel
theorem dX1_addLine_1 : decode cX1_addLine 1 = .ok (.getfield 24, 3) := by decide +kernel
theorem dX1_addLine_4 : decode cX1_addLine 4 = .ok (.iconst (-1), 1) := by decide +kernel
theorem dX1_addLine_5 : decode cX1_addLine 5 = .ok (.invokestatic 35, 3) := by decide +kernel
theorem dX1_addLine_8 : decode cX1_addLine 8 = .ok (.aload_n 1, 1) := by decide +kernel
theorem dX1_addLine_9 : decode cX1_addLine 9 = .ok (.invokevirtual 41, 3) := by decide +kernel
theorem dX1_addLine_12 : decode cX1_addLine 12 = .ok (.lstore 5, 2) := by decide +kernel
theorem dX1_addLine_14 : decode cX1_addLine 14 = .ok (.iconst 0, 1) := by decide +kernel
theorem dX1_addLine_15 : decode cX1_addLine 15 = .ok (.istore 7, 2) := by decide +kernel
theorem dX1_addLine_17 : decode cX1_addLine 17 = .ok (.iload 7, 2) := by decide +kernel
theorem dX1_addLine_19 : decode cX1_addLine 19 = .ok (.aload_n 1, 1) := by decide +kernel
theorem dX1_addLine_20 : decode cX1_addLine 20 = .ok (.getfield 47, 3) := by decide +kernel
theorem dX1_addLine_23 : decode cX1_addLine 23 = .ok (.if_icmp .ge 68, 3) := by decide +kernel
theorem dX1_addLine_26 : decode cX1_addLine 26 = .ok (.lload 5, 2) := by decide +kernel
theorem dX1_addLine_28 : decode cX1_addLine 28 = .ok (.ldc2_w 50, 3) := by decide +kernel
theorem dX1_addLine_31 : decode cX1_addLine 31 = .ok (.ldiv, 1) := by decide +kernel
theorem dX1_addLine_32 : decode cX1_addLine 32 = .ok (.lstore 5, 2) := by decide +kernel
theorem dX1_addLine_34 : decode cX1_addLine 34 = .ok (.lload 5, 2) := by decide +kernel
theorem dX1_addLine_36 : decode cX1_addLine 36 = .ok (.lconst 0, 1) := by decide +kernel
theorem dX1_addLine_37 : decode cX1_addLine 37 = .ok (.lcmp, 1) := by decide +kernel
theorem dX1_addLine_38 : decode cX1_addLine 38 = .ok (.ifCond .le 15, 3) := by decide +kernel
theorem dX1_addLine_41 : decode cX1_addLine 41 = .ok (.lload_n 2, 1) := by decide +kernel
theorem dX1_addLine_42 : decode cX1_addLine 42 = .ok (.lload 5, 2) := by decide +kernel
theorem dX1_addLine_44 : decode cX1_addLine 44 = .ok (.ldiv, 1) := by decide +kernel
theorem dX1_addLine_45 : decode cX1_addLine 45 = .ok (.ldc2_w 50, 3) := by decide +kernel
theorem dX1_addLine_48 : decode cX1_addLine 48 = .ok (.lrem, 1) := by decide +kernel
theorem dX1_addLine_49 : decode cX1_addLine 49 = .ok (.l2i, 1) := by decide +kernel
theorem dX1_addLine_50 : decode cX1_addLine 50 = .ok (.goto 4, 3) := by decide +kernel
theorem dX1_addLine_53 : decode cX1_addLine 53 = .ok (.iconst 0, 1) := by decide +kernel
theorem dX1_addLine_54 : decode cX1_addLine 54 = .ok (.istore 8, 2) := by decide +kernel
theorem dX1_addLine_56 : decode cX1_addLine 56 = .ok (.iload 8, 2) := by decide +kernel
theorem dX1_addLine_58 : decode cX1_addLine 58 = .ok (.ifCond .le 27, 3) := by decide +kernel
theorem dX1_addLine_61 : decode cX1_addLine 61 = .ok (.aload_n 0, 1) := by decide +kernel
theorem dX1_addLine_62 : decode cX1_addLine 62 = .ok (.iload 4, 2) := by decide +kernel
theorem dX1_addLine_64 : decode cX1_addLine 64 = .ok (.iload 7, 2) := by decide +kernel
theorem dX1_addLine_66 : decode cX1_addLine 66 = .ok (.iload 8, 2) := by decide +kernel
theorem dX1_addLine_68 : decode cX1_addLine 68 = .ok (.iload 8, 2) := by decide +kernel
theorem dX1_addLine_70 : decode cX1_addLine 70 = .ok (.aload_n 1, 1) := by decide +kernel
theorem dX1_addLine_71 : decode cX1_addLine 71 = .ok (.getfield 52, 3) := by decide +kernel
theorem dX1_addLine_74 : decode cX1_addLine 74 = .ok (.if_icmp .lt 7, 3) := by decide +kernel
theorem dX1_addLine_77 : decode cX1_addLine 77 = .ok (.iconst 1, 1) := by decide +kernel
theorem dX1_addLine_78 : decode cX1_addLine 78 = .ok (.goto 4, 3) := by decide +kernel
theorem dX1_addLine_81 : decode cX1_addLine 81 = .ok (.iconst 0, 1) := by decide +kernel
theorem dX1_addLine_82 : decode cX1_addLine 82 = .ok (.invokevirtual 55, 3) := by decide +kernel
theorem dX1_addLine_85 : decode cX1_addLine 85 = .ok (.iinc 7 1, 3) := by decide +kernel
theorem dX1_addLine_88 : decode cX1_addLine 88 = .ok (.goto (-71), 3) := by decide +kernel
theorem dX1_addLine_91 : decode cX1_addLine 91 = .ok (.aload_n 0, 1) := by decide +kernel
theorem dX1_addLine_92 : decode cX1_addLine 92 = .ok (.getfield 20, 3) := by decide +kernel
theorem dX1_addLine_95 : decode cX1_addLine 95 = .ok (.astore 7, 2) := by decide +kernel
theorem dX1_addLine_97 : decode cX1_addLine 97 = .ok (.aload_n 0, 1) := by decide +kernel
theorem dX1_addLine_98 : decode cX1_addLine 98 = .ok (.aload_n 0, 1) := by decide +kernel
theorem dX1_addLine_99 : decode cX1_addLine 99 = .ok (.getfield 24, 3) := by decide +kernel
theorem dX1_addLine_102 : decode cX1_addLine 102 = .ok (.putfield 20, 3) := by decide +kernel
theorem dX1_addLine_105 : decode cX1_addLine 105 = .ok (.aload_n 0, 1) := by decide +kernel
theorem dX1_addLine_106 : decode cX1_addLine 106 = .ok (.aload 7, 2) := by decide +kernel
theorem dX1_addLine_108 : decode cX1_addLine 108 = .ok (.putfield 24, 3) := by decide +kernel
theorem dX1_addLine_111 : decode cX1_addLine 111 = .ok (.aload_n 0, 1) := by decide +kernel
theorem dX1_addLine_112 : decode cX1_addLine 112 = .ok (.iload 4, 2) := by decide +kernel
theorem dX1_addLine_114 : decode cX1_addLine 114 = .ok (.invokevirtual 59, 3) := by decide +kernel
theorem dX1_addLine_117 : decode cX1_addLine 117 = .ok (.ireturn, 1) := by decide +kernel
theorem dX1_addCell_0 : decode cX1_addCell 0 = .ok (.aload_n 0, 1) := by decide +kernel
theorem dX1_addCell_1 : decode cX1_addCell 1 = .ok (.getfield 24, 3) := by decide +kernel
theorem dX1_addCell_4 : decode cX1_addCell 4 = .ok (.iload_n 2, 1) := by decide +kernel
theorem dX1_addCell_5 : decode cX1_addCell 5 = .ok (.iconst 1, 1) := by decide +kernel
theorem dX1_addCell_6 : decode cX1_addCell 6 = .ok (.isub, 1) := by decide +kernel
theorem dX1_addCell_7 : decode cX1_addCell 7 = .ok (.invokestatic 63, 3) := by decide +kernel
theorem dX1_addCell_10 : decode cX1_addCell 10 = .ok (.istore 5, 2) := by decide +kernel
theorem dX1_addCell_12 : decode cX1_addCell 12 = .ok (.iload 5, 2) := by decide +kernel
theorem dX1_addCell_14 : decode cX1_addCell 14 = .ok (.iconst (-1), 1) := by decide +kernel
theorem dX1_addCell_15 : decode cX1_addCell 15 = .ok (.if_icmp .ne 9, 3) := by decide +kernel
theorem dX1_addCell_18 : decode cX1_addCell 18 = .ok (.aload_n 0, 1) := by decide +kernel
theorem dX1_addCell_19 : decode cX1_addCell 19 = .ok (.invokevirtual 67, 3) := by decide +kernel
theorem dX1_addCell_22 : decode cX1_addCell 22 = .ok (.istore 5, 2) := by decide +kernel
theorem dX1_addCell_24 : decode cX1_addCell 24 = .ok (.iload 5, 2) := by decide +kernel
theorem dX1_addCell_26 : decode cX1_addCell 26 = .ok (.ifCond .lt 26, 3) := by decide +kernel
theorem dX1_addCell_29 : decode cX1_addCell 29 = .ok (.iload 5, 2) := by decide +kernel
theorem dX1_addCell_31 : decode cX1_addCell 31 = .ok (.aload_n 0, 1) := by decide +kernel
theorem dX1_addCell_32 : decode cX1_addCell 32 = .ok (.getfield 17, 3) := by decide +kernel
theorem dX1_addCell_35 : decode cX1_addCell 35 = .ok (.arraylength, 1) := by decide +kernel
theorem dX1_addCell_36 : decode cX1_addCell 36 = .ok (.if_icmp .ge 16, 3) := by decide +kernel
theorem dX1_addCell_39 : decode cX1_addCell 39 = .ok (.iload_n 2, 1) := by decide +kernel
theorem dX1_addCell_40 : decode cX1_addCell 40 = .ok (.ifCond .lt 12, 3) := by decide +kernel
theorem dX1_addCell_43 : decode cX1_addCell 43 = .ok (.iload_n 2, 1) := by decide +kernel
theorem dX1_addCell_44 : decode cX1_addCell 44 = .ok (.aload_n 0, 1) := by decide +kernel
theorem dX1_addCell_45 : decode cX1_addCell 45 = .ok (.getfield 24, 3) := by decide +kernel
theorem dX1_addCell_48 : decode cX1_addCell 48 = .ok (.arraylength, 1) := by decide +kernel
theorem dX1_addCell_49 : decode cX1_addCell 49 = .ok (.if_icmp .lt 4, 3) := by decide +kernel
theorem dX1_addCell_52 : decode cX1_addCell 52 = .ok (.return_, 1) := by decide +kernel
theorem dX1_addCell_53 : decode cX1_addCell 53 = .ok (.aload_n 0, 1) := by decide +kernel
theorem dX1_addCell_54 : decode cX1_addCell 54 = .ok (.getfield 24, 3) := by decide +kernel
theorem dX1_addCell_57 : decode cX1_addCell 57 = .ok (.iload_n 2, 1) := by decide +kernel
theorem dX1_addCell_58 : decode cX1_addCell 58 = .ok (.iload 5, 2) := by decide +kernel
theorem dX1_addCell_60 : decode cX1_addCell 60 = .ok (.iastore, 1) := by decide +kernel
theorem dX1_addCell_61 : decode cX1_addCell 61 = .ok (.aload_n 0, 1) := by decide +kernel
theorem dX1_addCell_62 : decode cX1_addCell 62 = .ok (.getfield 17, 3) := by decide +kernel
theorem dX1_addCell_65 : decode cX1_addCell 65 = .ok (.iload 5, 2) := by decide +kernel
theorem dX1_addCell_67 : decode cX1_addCell 67 = .ok (.aaload, 1) := by decide +kernel
theorem dX1_addCell_68 : decode cX1_addCell 68 = .ok (.iload_n 1, 1) := by decide +kernel
theorem dX1_addCell_69 : decode cX1_addCell 69 = .ok (.iload_n 2, 1) := by decide +kernel
theorem dX1_addCell_70 : decode cX1_addCell 70 = .ok (.iload_n 3, 1) := by decide +kernel
theorem dX1_addCell_71 : decode cX1_addCell 71 = .ok (.iload 4, 2) := by decide +kernel
theorem dX1_addCell_73 : decode cX1_addCell 73 = .ok (.invokevirtual 71, 3) := by decide +kernel
theorem dX1_addCell_76 : decode cX1_addCell 76 = .ok (.iload_n 2, 1) := by decide +kernel
theorem dX1_addCell_77 : decode cX1_addCell 77 = .ok (.iconst 1, 1) := by decide +kernel
theorem dX1_addCell_78 : decode cX1_addCell 78 = .ok (.isub, 1) := by decide +kernel
theorem dX1_addCell_79 : decode cX1_addCell 79 = .ok (.istore 6, 2) := by decide +kernel
theorem dX1_addCell_81 : decode cX1_addCell 81 = .ok (.iload 6, 2) := by decide +kernel
theorem dX1_addCell_83 : decode cX1_addCell 83 = .ok (.iload_n 2, 1) := by decide +kernel
theorem dX1_addCell_84 : decode cX1_addCell 84 = .ok (.iconst 1, 1) := by decide +kernel
theorem dX1_addCell_85 : decode cX1_addCell 85 = .ok (.iadd, 1) := by decide +kernel
theorem dX1_addCell_86 : decode cX1_addCell 86 = .ok (.if_icmp .gt 24, 3) := by decide +kernel
theorem dX1_addCell_89 : decode cX1_addCell 89 = .ok (.aload_n 0, 1) := by decide +kernel
theorem dX1_addCell_90 : decode cX1_addCell 90 = .ok (.iload 5, 2) := by decide +kernel
theorem dX1_addCell_92 : decode cX1_addCell 92 = .ok (.aload_n 0, 1) := by decide +kernel
theorem dX1_addCell_93 : decode cX1_addCell 93 = .ok (.getfield 20, 3) := by decide +kernel
theorem dX1_addCell_96 : decode cX1_addCell 96 = .ok (.iload 6, 2) := by decide +kernel
theorem dX1_addCell_98 : decode cX1_addCell 98 = .ok (.invokestatic 63, 3) := by decide +kernel
theorem dX1_addCell_101 : decode cX1_addCell 101 = .ok (.invokevirtual 72, 3) := by decide +kernel
theorem dX1_addCell_104 : decode cX1_addCell 104 = .ok (.iinc 6 1, 3) := by decide +kernel
theorem dX1_addCell_107 : decode cX1_addCell 107 = .ok (.goto (-26), 3) := by decide +kernel
theorem dX1_addCell_110 : decode cX1_addCell 110 = .ok (.return_, 1) := by decide +kernel
theorem dX1_ownerAt_0 : decode cX1_ownerAt 0 = .ok (.iload_n 1, 1) := by decide +kernel
theorem dX1_ownerAt_1 : decode cX1_ownerAt 1 = .ok (.ifCond .lt 15, 3) := by decide +kernel
theorem dX1_ownerAt_4 : decode cX1_ownerAt 4 = .ok (.iload_n 1, 1) := by decide +kernel
theorem dX1_ownerAt_5 : decode cX1_ownerAt 5 = .ok (.aload_n 0, 1) := by decide +kernel
theorem dX1_ownerAt_6 : decode cX1_ownerAt 6 = .ok (.arraylength, 1) := by decide +kernel
theorem dX1_ownerAt_7 : decode cX1_ownerAt 7 = .ok (.if_icmp .ge 9, 3) := by decide +kernel
theorem dX1_ownerAt_10 : decode cX1_ownerAt 10 = .ok (.aload_n 0, 1) := by decide +kernel
theorem dX1_ownerAt_11 : decode cX1_ownerAt 11 = .ok (.iload_n 1, 1) := by decide +kernel
theorem dX1_ownerAt_12 : decode cX1_ownerAt 12 = .ok (.iaload, 1) := by decide +kernel
theorem dX1_ownerAt_13 : decode cX1_ownerAt 13 = .ok (.goto 4, 3) := by decide +kernel
theorem dX1_ownerAt_16 : decode cX1_ownerAt 16 = .ok (.iconst (-1), 1) := by decide +kernel
theorem dX1_ownerAt_17 : decode cX1_ownerAt 17 = .ok (.ireturn, 1) := by decide +kernel
theorem dX1_freeSlot_0 : decode cX1_freeSlot 0 = .ok (.iconst 0, 1) := by decide +kernel
theorem dX1_freeSlot_1 : decode cX1_freeSlot 1 = .ok (.istore_n 1, 1) := by decide +kernel
theorem dX1_freeSlot_2 : decode cX1_freeSlot 2 = .ok (.iload_n 1, 1) := by decide +kernel
theorem dX1_freeSlot_3 : decode cX1_freeSlot 3 = .ok (.aload_n 0, 1) := by decide +kernel
theorem dX1_freeSlot_4 : decode cX1_freeSlot 4 = .ok (.getfield 17, 3) := by decide +kernel
theorem dX1_freeSlot_7 : decode cX1_freeSlot 7 = .ok (.arraylength, 1) := by decide +kernel
theorem dX1_freeSlot_8 : decode cX1_freeSlot 8 = .ok (.if_icmp .ge 23, 3) := by decide +kernel
theorem dX1_freeSlot_11 : decode cX1_freeSlot 11 = .ok (.aload_n 0, 1) := by decide +kernel
theorem dX1_freeSlot_12 : decode cX1_freeSlot 12 = .ok (.getfield 17, 3) := by decide +kernel
theorem dX1_freeSlot_15 : decode cX1_freeSlot 15 = .ok (.iload_n 1, 1) := by decide +kernel
theorem dX1_freeSlot_16 : decode cX1_freeSlot 16 = .ok (.aaload, 1) := by decide +kernel
theorem dX1_freeSlot_17 : decode cX1_freeSlot 17 = .ok (.getfield 32, 3) := by decide +kernel
theorem dX1_freeSlot_20 : decode cX1_freeSlot 20 = .ok (.ifCond .ne 5, 3) := by decide +kernel
theorem dX1_freeSlot_23 : decode cX1_freeSlot 23 = .ok (.iload_n 1, 1) := by decide +kernel
theorem dX1_freeSlot_24 : decode cX1_freeSlot 24 = .ok (.ireturn, 1) := by decide +kernel
theorem dX1_freeSlot_25 : decode cX1_freeSlot 25 = .ok (.iinc 1 1, 3) := by decide +kernel
theorem dX1_freeSlot_28 : decode cX1_freeSlot 28 = .ok (.goto (-26), 3) := by decide +kernel
theorem dX1_freeSlot_31 : decode cX1_freeSlot 31 = .ok (.iconst (-1), 1) := by decide +kernel
theorem dX1_freeSlot_32 : decode cX1_freeSlot 32 = .ok (.ireturn, 1) := by decide +kernel
theorem dX1_joinTo_0 : decode cX1_joinTo 0 = .ok (.iload_n 2, 1) := by decide +kernel
theorem dX1_joinTo_1 : decode cX1_joinTo 1 = .ok (.ifCond .lt 30, 3) := by decide +kernel
theorem dX1_joinTo_4 : decode cX1_joinTo 4 = .ok (.iload_n 2, 1) := by decide +kernel
theorem dX1_joinTo_5 : decode cX1_joinTo 5 = .ok (.aload_n 0, 1) := by decide +kernel
theorem dX1_joinTo_6 : decode cX1_joinTo 6 = .ok (.getfield 17, 3) := by decide +kernel
theorem dX1_joinTo_9 : decode cX1_joinTo 9 = .ok (.arraylength, 1) := by decide +kernel
theorem dX1_joinTo_10 : decode cX1_joinTo 10 = .ok (.if_icmp .ge 21, 3) := by decide +kernel
theorem dX1_joinTo_13 : decode cX1_joinTo 13 = .ok (.iload_n 2, 1) := by decide +kernel
theorem dX1_joinTo_14 : decode cX1_joinTo 14 = .ok (.iload_n 1, 1) := by decide +kernel
theorem dX1_joinTo_15 : decode cX1_joinTo 15 = .ok (.if_icmp .eq 16, 3) := by decide +kernel
theorem dX1_joinTo_18 : decode cX1_joinTo 18 = .ok (.iload_n 1, 1) := by decide +kernel
theorem dX1_joinTo_19 : decode cX1_joinTo 19 = .ok (.ifCond .lt 12, 3) := by decide +kernel
theorem dX1_joinTo_22 : decode cX1_joinTo 22 = .ok (.iload_n 1, 1) := by decide +kernel
theorem dX1_joinTo_23 : decode cX1_joinTo 23 = .ok (.aload_n 0, 1) := by decide +kernel
theorem dX1_joinTo_24 : decode cX1_joinTo 24 = .ok (.getfield 17, 3) := by decide +kernel
theorem dX1_joinTo_27 : decode cX1_joinTo 27 = .ok (.arraylength, 1) := by decide +kernel
theorem dX1_joinTo_28 : decode cX1_joinTo 28 = .ok (.if_icmp .lt 4, 3) := by decide +kernel
theorem dX1_joinTo_31 : decode cX1_joinTo 31 = .ok (.return_, 1) := by decide +kernel
theorem dX1_joinTo_32 : decode cX1_joinTo 32 = .ok (.aload_n 0, 1) := by decide +kernel
theorem dX1_joinTo_33 : decode cX1_joinTo 33 = .ok (.getfield 17, 3) := by decide +kernel
theorem dX1_joinTo_36 : decode cX1_joinTo 36 = .ok (.iload_n 1, 1) := by decide +kernel
theorem dX1_joinTo_37 : decode cX1_joinTo 37 = .ok (.aaload, 1) := by decide +kernel
theorem dX1_joinTo_38 : decode cX1_joinTo 38 = .ok (.aload_n 0, 1) := by decide +kernel
theorem dX1_joinTo_39 : decode cX1_joinTo 39 = .ok (.getfield 17, 3) := by decide +kernel
theorem dX1_joinTo_42 : decode cX1_joinTo 42 = .ok (.iload_n 2, 1) := by decide +kernel
theorem dX1_joinTo_43 : decode cX1_joinTo 43 = .ok (.aaload, 1) := by decide +kernel
theorem dX1_joinTo_44 : decode cX1_joinTo 44 = .ok (.invokevirtual 76, 3) := by decide +kernel
theorem dX1_joinTo_47 : decode cX1_joinTo 47 = .ok (.aload_n 0, 1) := by decide +kernel
theorem dX1_joinTo_48 : decode cX1_joinTo 48 = .ok (.getfield 20, 3) := by decide +kernel
theorem dX1_joinTo_51 : decode cX1_joinTo 51 = .ok (.iload_n 2, 1) := by decide +kernel
theorem dX1_joinTo_52 : decode cX1_joinTo 52 = .ok (.iload_n 1, 1) := by decide +kernel
theorem dX1_joinTo_53 : decode cX1_joinTo 53 = .ok (.invokestatic 80, 3) := by decide +kernel
theorem dX1_joinTo_56 : decode cX1_joinTo 56 = .ok (.aload_n 0, 1) := by decide +kernel
theorem dX1_joinTo_57 : decode cX1_joinTo 57 = .ok (.getfield 24, 3) := by decide +kernel
theorem dX1_joinTo_60 : decode cX1_joinTo 60 = .ok (.iload_n 2, 1) := by decide +kernel
theorem dX1_joinTo_61 : decode cX1_joinTo 61 = .ok (.iload_n 1, 1) := by decide +kernel
theorem dX1_joinTo_62 : decode cX1_joinTo 62 = .ok (.invokestatic 80, 3) := by decide +kernel
theorem dX1_joinTo_65 : decode cX1_joinTo 65 = .ok (.return_, 1) := by decide +kernel
theorem dX1_handOver_0 : decode cX1_handOver 0 = .ok (.iconst 0, 1) := by decide +kernel
theorem dX1_handOver_1 : decode cX1_handOver 1 = .ok (.istore_n 3, 1) := by decide +kernel
theorem dX1_handOver_2 : decode cX1_handOver 2 = .ok (.iload_n 3, 1) := by decide +kernel
theorem dX1_handOver_3 : decode cX1_handOver 3 = .ok (.aload_n 0, 1) := by decide +kernel
theorem dX1_handOver_4 : decode cX1_handOver 4 = .ok (.arraylength, 1) := by decide +kernel
theorem dX1_handOver_5 : decode cX1_handOver 5 = .ok (.if_icmp .ge 20, 3) := by decide +kernel
theorem dX1_handOver_8 : decode cX1_handOver 8 = .ok (.aload_n 0, 1) := by decide +kernel
theorem dX1_handOver_9 : decode cX1_handOver 9 = .ok (.iload_n 3, 1) := by decide +kernel
theorem dX1_handOver_10 : decode cX1_handOver 10 = .ok (.iaload, 1) := by decide +kernel
theorem dX1_handOver_11 : decode cX1_handOver 11 = .ok (.iload_n 1, 1) := by decide +kernel
theorem dX1_handOver_12 : decode cX1_handOver 12 = .ok (.if_icmp .ne 7, 3) := by decide +kernel
theorem dX1_handOver_15 : decode cX1_handOver 15 = .ok (.aload_n 0, 1) := by decide +kernel
theorem dX1_handOver_16 : decode cX1_handOver 16 = .ok (.iload_n 3, 1) := by decide +kernel
theorem dX1_handOver_17 : decode cX1_handOver 17 = .ok (.iload_n 2, 1) := by decide +kernel
theorem dX1_handOver_18 : decode cX1_handOver 18 = .ok (.iastore, 1) := by decide +kernel
theorem dX1_handOver_19 : decode cX1_handOver 19 = .ok (.iinc 3 1, 3) := by decide +kernel
theorem dX1_handOver_22 : decode cX1_handOver 22 = .ok (.goto (-20), 3) := by decide +kernel
theorem dX1_handOver_25 : decode cX1_handOver 25 = .ok (.return_, 1) := by decide +kernel
theorem dX1_endAllWithout_0 : decode cX1_endAllWithout 0 = .ok (.aload_n 0, 1) := by decide +kernel
theorem dX1_endAllWithout_1 : decode cX1_endAllWithout 1 = .ok (.getfield 28, 3) := by decide +kernel
theorem dX1_endAllWithout_4 : decode cX1_endAllWithout 4 = .ok (.istore_n 2, 1) := by decide +kernel
theorem dX1_endAllWithout_5 : decode cX1_endAllWithout 5 = .ok (.iconst 0, 1) := by decide +kernel
theorem dX1_endAllWithout_6 : decode cX1_endAllWithout 6 = .ok (.istore_n 3, 1) := by decide +kernel
theorem dX1_endAllWithout_7 : decode cX1_endAllWithout 7 = .ok (.iload_n 3, 1) := by decide +kernel
theorem dX1_endAllWithout_8 : decode cX1_endAllWithout 8 = .ok (.aload_n 0, 1) := by decide +kernel
theorem dX1_endAllWithout_9 : decode cX1_endAllWithout 9 = .ok (.getfield 17, 3) := by decide +kernel
theorem dX1_endAllWithout_12 : decode cX1_endAllWithout 12 = .ok (.arraylength, 1) := by decide +kernel
theorem dX1_endAllWithout_13 : decode cX1_endAllWithout 13 = .ok (.if_icmp .ge 86, 3) := by decide +kernel
theorem dX1_endAllWithout_16 : decode cX1_endAllWithout 16 = .ok (.aload_n 0, 1) := by decide +kernel
theorem dX1_endAllWithout_17 : decode cX1_endAllWithout 17 = .ok (.iload_n 1, 1) := by decide +kernel
theorem dX1_endAllWithout_18 : decode cX1_endAllWithout 18 = .ok (.invokevirtual 84, 3) := by decide +kernel
theorem dX1_endAllWithout_21 : decode cX1_endAllWithout 21 = .ok (.istore 4, 2) := by decide +kernel
theorem dX1_endAllWithout_23 : decode cX1_endAllWithout 23 = .ok (.iload 4, 2) := by decide +kernel
theorem dX1_endAllWithout_25 : decode cX1_endAllWithout 25 = .ok (.ifCond .lt 74, 3) := by decide +kernel
theorem dX1_endAllWithout_28 : decode cX1_endAllWithout 28 = .ok (.iload 4, 2) := by decide +kernel
theorem dX1_endAllWithout_30 : decode cX1_endAllWithout 30 = .ok (.aload_n 0, 1) := by decide +kernel
theorem dX1_endAllWithout_31 : decode cX1_endAllWithout 31 = .ok (.getfield 17, 3) := by decide +kernel
theorem dX1_endAllWithout_34 : decode cX1_endAllWithout 34 = .ok (.arraylength, 1) := by decide +kernel
theorem dX1_endAllWithout_35 : decode cX1_endAllWithout 35 = .ok (.if_icmp .ge 64, 3) := by decide +kernel
theorem dX1_endAllWithout_38 : decode cX1_endAllWithout 38 = .ok (.aload_n 0, 1) := by decide +kernel
theorem dX1_endAllWithout_39 : decode cX1_endAllWithout 39 = .ok (.getfield 28, 3) := by decide +kernel
theorem dX1_endAllWithout_42 : decode cX1_endAllWithout 42 = .ok (.aload_n 0, 1) := by decide +kernel
theorem dX1_endAllWithout_43 : decode cX1_endAllWithout 43 = .ok (.getfield 11, 3) := by decide +kernel
theorem dX1_endAllWithout_46 : decode cX1_endAllWithout 46 = .ok (.arraylength, 1) := by decide +kernel
theorem dX1_endAllWithout_47 : decode cX1_endAllWithout 47 = .ok (.if_icmp .lt 6, 3) := by decide +kernel
theorem dX1_endAllWithout_50 : decode cX1_endAllWithout 50 = .ok (.goto 49, 3) := by decide +kernel
theorem dX1_endAllWithout_53 : decode cX1_endAllWithout 53 = .ok (.aload_n 0, 1) := by decide +kernel
theorem dX1_endAllWithout_54 : decode cX1_endAllWithout 54 = .ok (.getfield 11, 3) := by decide +kernel
theorem dX1_endAllWithout_57 : decode cX1_endAllWithout 57 = .ok (.aload_n 0, 1) := by decide +kernel
theorem dX1_endAllWithout_58 : decode cX1_endAllWithout 58 = .ok (.getfield 28, 3) := by decide +kernel
theorem dX1_endAllWithout_61 : decode cX1_endAllWithout 61 = .ok (.aaload, 1) := by decide +kernel
theorem dX1_endAllWithout_62 : decode cX1_endAllWithout 62 = .ok (.aload_n 0, 1) := by decide +kernel
theorem dX1_endAllWithout_63 : decode cX1_endAllWithout 63 = .ok (.getfield 17, 3) := by decide +kernel
theorem dX1_endAllWithout_66 : decode cX1_endAllWithout 66 = .ok (.iload 4, 2) := by decide +kernel
theorem dX1_endAllWithout_68 : decode cX1_endAllWithout 68 = .ok (.aaload, 1) := by decide +kernel
theorem dX1_endAllWithout_69 : decode cX1_endAllWithout 69 = .ok (.invokevirtual 87, 3) := by decide +kernel
theorem dX1_endAllWithout_72 : decode cX1_endAllWithout 72 = .ok (.aload_n 0, 1) := by decide +kernel
theorem dX1_endAllWithout_73 : decode cX1_endAllWithout 73 = .ok (.dup, 1) := by decide +kernel
theorem dX1_endAllWithout_74 : decode cX1_endAllWithout 74 = .ok (.getfield 28, 3) := by decide +kernel
theorem dX1_endAllWithout_77 : decode cX1_endAllWithout 77 = .ok (.iconst 1, 1) := by decide +kernel
theorem dX1_endAllWithout_78 : decode cX1_endAllWithout 78 = .ok (.iadd, 1) := by decide +kernel
theorem dX1_endAllWithout_79 : decode cX1_endAllWithout 79 = .ok (.putfield 28, 3) := by decide +kernel
theorem dX1_endAllWithout_82 : decode cX1_endAllWithout 82 = .ok (.aload_n 0, 1) := by decide +kernel
theorem dX1_endAllWithout_83 : decode cX1_endAllWithout 83 = .ok (.getfield 17, 3) := by decide +kernel
theorem dX1_endAllWithout_86 : decode cX1_endAllWithout 86 = .ok (.iload 4, 2) := by decide +kernel
theorem dX1_endAllWithout_88 : decode cX1_endAllWithout 88 = .ok (.aaload, 1) := by decide +kernel
theorem dX1_endAllWithout_89 : decode cX1_endAllWithout 89 = .ok (.iconst 0, 1) := by decide +kernel
theorem dX1_endAllWithout_90 : decode cX1_endAllWithout 90 = .ok (.putfield 32, 3) := by decide +kernel
theorem dX1_endAllWithout_93 : decode cX1_endAllWithout 93 = .ok (.iinc 3 1, 3) := by decide +kernel
theorem dX1_endAllWithout_96 : decode cX1_endAllWithout 96 = .ok (.goto (-89), 3) := by decide +kernel
theorem dX1_endAllWithout_99 : decode cX1_endAllWithout 99 = .ok (.aload_n 0, 1) := by decide +kernel
theorem dX1_endAllWithout_100 : decode cX1_endAllWithout 100 = .ok (.getfield 28, 3) := by decide +kernel
theorem dX1_endAllWithout_103 : decode cX1_endAllWithout 103 = .ok (.iload_n 2, 1) := by decide +kernel
theorem dX1_endAllWithout_104 : decode cX1_endAllWithout 104 = .ok (.isub, 1) := by decide +kernel
theorem dX1_endAllWithout_105 : decode cX1_endAllWithout 105 = .ok (.ireturn, 1) := by decide +kernel
theorem dX1_earliestWithout_0 : decode cX1_earliestWithout 0 = .ok (.iconst (-1), 1) := by decide +kernel
theorem dX1_earliestWithout_1 : decode cX1_earliestWithout 1 = .ok (.istore_n 2, 1) := by decide +kernel
theorem dX1_earliestWithout_2 : decode cX1_earliestWithout 2 = .ok (.iconst 0, 1) := by decide +kernel
theorem dX1_earliestWithout_3 : decode cX1_earliestWithout 3 = .ok (.istore_n 3, 1) := by decide +kernel
theorem dX1_earliestWithout_4 : decode cX1_earliestWithout 4 = .ok (.iload_n 3, 1) := by decide +kernel
theorem dX1_earliestWithout_5 : decode cX1_earliestWithout 5 = .ok (.aload_n 0, 1) := by decide +kernel
theorem dX1_earliestWithout_6 : decode cX1_earliestWithout 6 = .ok (.getfield 17, 3) := by decide +kernel
theorem dX1_earliestWithout_9 : decode cX1_earliestWithout 9 = .ok (.arraylength, 1) := by decide +kernel
theorem dX1_earliestWithout_10 : decode cX1_earliestWithout 10 = .ok (.if_icmp .ge 71, 3) := by decide +kernel
theorem dX1_earliestWithout_13 : decode cX1_earliestWithout 13 = .ok (.aload_n 0, 1) := by decide +kernel
theorem dX1_earliestWithout_14 : decode cX1_earliestWithout 14 = .ok (.getfield 17, 3) := by decide +kernel
theorem dX1_earliestWithout_17 : decode cX1_earliestWithout 17 = .ok (.iload_n 3, 1) := by decide +kernel
theorem dX1_earliestWithout_18 : decode cX1_earliestWithout 18 = .ok (.aaload, 1) := by decide +kernel
theorem dX1_earliestWithout_19 : decode cX1_earliestWithout 19 = .ok (.getfield 32, 3) := by decide +kernel
theorem dX1_earliestWithout_22 : decode cX1_earliestWithout 22 = .ok (.ifCond .le 20, 3) := by decide +kernel
theorem dX1_earliestWithout_25 : decode cX1_earliestWithout 25 = .ok (.aload_n 0, 1) := by decide +kernel
theorem dX1_earliestWithout_26 : decode cX1_earliestWithout 26 = .ok (.getfield 17, 3) := by decide +kernel
theorem dX1_earliestWithout_29 : decode cX1_earliestWithout 29 = .ok (.iload_n 3, 1) := by decide +kernel
theorem dX1_earliestWithout_30 : decode cX1_earliestWithout 30 = .ok (.aaload, 1) := by decide +kernel
theorem dX1_earliestWithout_31 : decode cX1_earliestWithout 31 = .ok (.getfield 90, 3) := by decide +kernel
theorem dX1_earliestWithout_34 : decode cX1_earliestWithout 34 = .ok (.iload_n 1, 1) := by decide +kernel
theorem dX1_earliestWithout_35 : decode cX1_earliestWithout 35 = .ok (.if_icmp .ge 7, 3) := by decide +kernel
theorem dX1_earliestWithout_38 : decode cX1_earliestWithout 38 = .ok (.iconst 1, 1) := by decide +kernel
theorem dX1_earliestWithout_39 : decode cX1_earliestWithout 39 = .ok (.goto 4, 3) := by decide +kernel
theorem dX1_earliestWithout_42 : decode cX1_earliestWithout 42 = .ok (.iconst 0, 1) := by decide +kernel
theorem dX1_earliestWithout_43 : decode cX1_earliestWithout 43 = .ok (.istore 4, 2) := by decide +kernel
theorem dX1_earliestWithout_45 : decode cX1_earliestWithout 45 = .ok (.iload 4, 2) := by decide +kernel
theorem dX1_earliestWithout_47 : decode cX1_earliestWithout 47 = .ok (.ifCond .eq 28, 3) := by decide +kernel
theorem dX1_earliestWithout_50 : decode cX1_earliestWithout 50 = .ok (.iload_n 2, 1) := by decide +kernel
theorem dX1_earliestWithout_51 : decode cX1_earliestWithout 51 = .ok (.iconst (-1), 1) := by decide +kernel
theorem dX1_earliestWithout_52 : decode cX1_earliestWithout 52 = .ok (.if_icmp .eq 21, 3) := by decide +kernel
theorem dX1_earliestWithout_55 : decode cX1_earliestWithout 55 = .ok (.aload_n 0, 1) := by decide +kernel
theorem dX1_earliestWithout_56 : decode cX1_earliestWithout 56 = .ok (.getfield 17, 3) := by decide +kernel
theorem dX1_earliestWithout_59 : decode cX1_earliestWithout 59 = .ok (.iload_n 3, 1) := by decide +kernel
theorem dX1_earliestWithout_60 : decode cX1_earliestWithout 60 = .ok (.aaload, 1) := by decide +kernel
theorem dX1_earliestWithout_61 : decode cX1_earliestWithout 61 = .ok (.aload_n 0, 1) := by decide +kernel
theorem dX1_earliestWithout_62 : decode cX1_earliestWithout 62 = .ok (.getfield 17, 3) := by decide +kernel
theorem dX1_earliestWithout_65 : decode cX1_earliestWithout 65 = .ok (.iload_n 2, 1) := by decide +kernel
theorem dX1_earliestWithout_66 : decode cX1_earliestWithout 66 = .ok (.aaload, 1) := by decide +kernel
theorem dX1_earliestWithout_67 : decode cX1_earliestWithout 67 = .ok (.invokevirtual 93, 3) := by decide +kernel
theorem dX1_earliestWithout_70 : decode cX1_earliestWithout 70 = .ok (.ifCond .eq 5, 3) := by decide +kernel
theorem dX1_earliestWithout_73 : decode cX1_earliestWithout 73 = .ok (.iload_n 3, 1) := by decide +kernel
theorem dX1_earliestWithout_74 : decode cX1_earliestWithout 74 = .ok (.istore_n 2, 1) := by decide +kernel
theorem dX1_earliestWithout_75 : decode cX1_earliestWithout 75 = .ok (.iinc 3 1, 3) := by decide +kernel
theorem dX1_earliestWithout_78 : decode cX1_earliestWithout 78 = .ok (.goto (-74), 3) := by decide +kernel
theorem dX1_earliestWithout_81 : decode cX1_earliestWithout 81 = .ok (.iload_n 2, 1) := by decide +kernel
theorem dX1_earliestWithout_82 : decode cX1_earliestWithout 82 = .ok (.ireturn, 1) := by decide +kernel
theorem dX1_liveBlobs_0 : decode cX1_liveBlobs 0 = .ok (.iconst 0, 1) := by decide +kernel
theorem dX1_liveBlobs_1 : decode cX1_liveBlobs 1 = .ok (.istore_n 1, 1) := by decide +kernel
theorem dX1_liveBlobs_2 : decode cX1_liveBlobs 2 = .ok (.iconst 0, 1) := by decide +kernel
theorem dX1_liveBlobs_3 : decode cX1_liveBlobs 3 = .ok (.istore_n 2, 1) := by decide +kernel
theorem dX1_liveBlobs_4 : decode cX1_liveBlobs 4 = .ok (.iload_n 2, 1) := by decide +kernel
theorem dX1_liveBlobs_5 : decode cX1_liveBlobs 5 = .ok (.aload_n 0, 1) := by decide +kernel
theorem dX1_liveBlobs_6 : decode cX1_liveBlobs 6 = .ok (.getfield 17, 3) := by decide +kernel
theorem dX1_liveBlobs_9 : decode cX1_liveBlobs 9 = .ok (.arraylength, 1) := by decide +kernel
theorem dX1_liveBlobs_10 : decode cX1_liveBlobs 10 = .ok (.if_icmp .ge 29, 3) := by decide +kernel
theorem dX1_liveBlobs_13 : decode cX1_liveBlobs 13 = .ok (.iload_n 1, 1) := by decide +kernel
theorem dX1_liveBlobs_14 : decode cX1_liveBlobs 14 = .ok (.aload_n 0, 1) := by decide +kernel
theorem dX1_liveBlobs_15 : decode cX1_liveBlobs 15 = .ok (.getfield 17, 3) := by decide +kernel
theorem dX1_liveBlobs_18 : decode cX1_liveBlobs 18 = .ok (.iload_n 2, 1) := by decide +kernel
theorem dX1_liveBlobs_19 : decode cX1_liveBlobs 19 = .ok (.aaload, 1) := by decide +kernel
theorem dX1_liveBlobs_20 : decode cX1_liveBlobs 20 = .ok (.getfield 32, 3) := by decide +kernel
theorem dX1_liveBlobs_23 : decode cX1_liveBlobs 23 = .ok (.ifCond .le 7, 3) := by decide +kernel
theorem dX1_liveBlobs_26 : decode cX1_liveBlobs 26 = .ok (.iconst 1, 1) := by decide +kernel
theorem dX1_liveBlobs_27 : decode cX1_liveBlobs 27 = .ok (.goto 4, 3) := by decide +kernel
theorem dX1_liveBlobs_30 : decode cX1_liveBlobs 30 = .ok (.iconst 0, 1) := by decide +kernel
theorem dX1_liveBlobs_31 : decode cX1_liveBlobs 31 = .ok (.iadd, 1) := by decide +kernel
theorem dX1_liveBlobs_32 : decode cX1_liveBlobs 32 = .ok (.istore_n 1, 1) := by decide +kernel
theorem dX1_liveBlobs_33 : decode cX1_liveBlobs 33 = .ok (.iinc 2 1, 3) := by decide +kernel
theorem dX1_liveBlobs_36 : decode cX1_liveBlobs 36 = .ok (.goto (-32), 3) := by decide +kernel
theorem dX1_liveBlobs_39 : decode cX1_liveBlobs 39 = .ok (.iload_n 1, 1) := by decide +kernel
theorem dX1_liveBlobs_40 : decode cX1_liveBlobs 40 = .ok (.ireturn, 1) := by decide +kernel
theorem dX1_liveCells_0 : decode cX1_liveCells 0 = .ok (.iconst 0, 1) := by decide +kernel
theorem dX1_liveCells_1 : decode cX1_liveCells 1 = .ok (.istore_n 1, 1) := by decide +kernel
theorem dX1_liveCells_2 : decode cX1_liveCells 2 = .ok (.iconst 0, 1) := by decide +kernel
theorem dX1_liveCells_3 : decode cX1_liveCells 3 = .ok (.istore_n 2, 1) := by decide +kernel
theorem dX1_liveCells_4 : decode cX1_liveCells 4 = .ok (.iload_n 2, 1) := by decide +kernel
theorem dX1_liveCells_5 : decode cX1_liveCells 5 = .ok (.aload_n 0, 1) := by decide +kernel
theorem dX1_liveCells_6 : decode cX1_liveCells 6 = .ok (.getfield 17, 3) := by decide +kernel
theorem dX1_liveCells_9 : decode cX1_liveCells 9 = .ok (.arraylength, 1) := by decide +kernel
theorem dX1_liveCells_10 : decode cX1_liveCells 10 = .ok (.if_icmp .ge 21, 3) := by decide +kernel
theorem dX1_liveCells_13 : decode cX1_liveCells 13 = .ok (.iload_n 1, 1) := by decide +kernel
theorem dX1_liveCells_14 : decode cX1_liveCells 14 = .ok (.aload_n 0, 1) := by decide +kernel
theorem dX1_liveCells_15 : decode cX1_liveCells 15 = .ok (.getfield 17, 3) := by decide +kernel
theorem dX1_liveCells_18 : decode cX1_liveCells 18 = .ok (.iload_n 2, 1) := by decide +kernel
theorem dX1_liveCells_19 : decode cX1_liveCells 19 = .ok (.aaload, 1) := by decide +kernel
theorem dX1_liveCells_20 : decode cX1_liveCells 20 = .ok (.getfield 32, 3) := by decide +kernel
theorem dX1_liveCells_23 : decode cX1_liveCells 23 = .ok (.iadd, 1) := by decide +kernel
theorem dX1_liveCells_24 : decode cX1_liveCells 24 = .ok (.istore_n 1, 1) := by decide +kernel
theorem dX1_liveCells_25 : decode cX1_liveCells 25 = .ok (.iinc 2 1, 3) := by decide +kernel
theorem dX1_liveCells_28 : decode cX1_liveCells 28 = .ok (.goto (-24), 3) := by decide +kernel
theorem dX1_liveCells_31 : decode cX1_liveCells 31 = .ok (.iload_n 1, 1) := by decide +kernel
theorem dX1_liveCells_32 : decode cX1_liveCells 32 = .ok (.ireturn, 1) := by decide +kernel
theorem dX1_hasEndedWith_0 : decode cX1_hasEndedWith 0 = .ok (.iconst 0, 1) := by decide +kernel
theorem dX1_hasEndedWith_1 : decode cX1_hasEndedWith 1 = .ok (.istore_n 3, 1) := by decide +kernel
theorem dX1_hasEndedWith_2 : decode cX1_hasEndedWith 2 = .ok (.iload_n 3, 1) := by decide +kernel
theorem dX1_hasEndedWith_3 : decode cX1_hasEndedWith 3 = .ok (.aload_n 0, 1) := by decide +kernel
theorem dX1_hasEndedWith_4 : decode cX1_hasEndedWith 4 = .ok (.getfield 28, 3) := by decide +kernel
theorem dX1_hasEndedWith_7 : decode cX1_hasEndedWith 7 = .ok (.if_icmp .ge 34, 3) := by decide +kernel
theorem dX1_hasEndedWith_10 : decode cX1_hasEndedWith 10 = .ok (.iload_n 3, 1) := by decide +kernel
theorem dX1_hasEndedWith_11 : decode cX1_hasEndedWith 11 = .ok (.aload_n 0, 1) := by decide +kernel
theorem dX1_hasEndedWith_12 : decode cX1_hasEndedWith 12 = .ok (.getfield 11, 3) := by decide +kernel
theorem dX1_hasEndedWith_15 : decode cX1_hasEndedWith 15 = .ok (.arraylength, 1) := by decide +kernel
theorem dX1_hasEndedWith_16 : decode cX1_hasEndedWith 16 = .ok (.if_icmp .ge 25, 3) := by decide +kernel
theorem dX1_hasEndedWith_19 : decode cX1_hasEndedWith 19 = .ok (.aload_n 0, 1) := by decide +kernel
theorem dX1_hasEndedWith_20 : decode cX1_hasEndedWith 20 = .ok (.getfield 11, 3) := by decide +kernel
theorem dX1_hasEndedWith_23 : decode cX1_hasEndedWith 23 = .ok (.iload_n 3, 1) := by decide +kernel
theorem dX1_hasEndedWith_24 : decode cX1_hasEndedWith 24 = .ok (.aaload, 1) := by decide +kernel
theorem dX1_hasEndedWith_25 : decode cX1_hasEndedWith 25 = .ok (.iload_n 1, 1) := by decide +kernel
theorem dX1_hasEndedWith_26 : decode cX1_hasEndedWith 26 = .ok (.invokevirtual 97, 3) := by decide +kernel
theorem dX1_hasEndedWith_29 : decode cX1_hasEndedWith 29 = .ok (.iload_n 2, 1) := by decide +kernel
theorem dX1_hasEndedWith_30 : decode cX1_hasEndedWith 30 = .ok (.if_icmp .ne 5, 3) := by decide +kernel
theorem dX1_hasEndedWith_33 : decode cX1_hasEndedWith 33 = .ok (.iconst 1, 1) := by decide +kernel
theorem dX1_hasEndedWith_34 : decode cX1_hasEndedWith 34 = .ok (.ireturn, 1) := by decide +kernel
theorem dX1_hasEndedWith_35 : decode cX1_hasEndedWith 35 = .ok (.iinc 3 1, 3) := by decide +kernel
theorem dX1_hasEndedWith_38 : decode cX1_hasEndedWith 38 = .ok (.goto (-36), 3) := by decide +kernel
theorem dX1_hasEndedWith_41 : decode cX1_hasEndedWith 41 = .ok (.iconst 0, 1) := by decide +kernel
theorem dX1_hasEndedWith_42 : decode cX1_hasEndedWith 42 = .ok (.ireturn, 1) := by decide +kernel
theorem dX2_init_0 : decode cX2_init 0 = .ok (.aload_n 0, 1) := by decide +kernel
theorem dX2_init_1 : decode cX2_init 1 = .ok (.invokespecial 3, 3) := by decide +kernel
theorem dX2_init_4 : decode cX2_init 4 = .ok (.aload_n 0, 1) := by decide +kernel
theorem dX2_init_5 : decode cX2_init 5 = .ok (.bipush 6, 2) := by decide +kernel
theorem dX2_init_7 : decode cX2_init 7 = .ok (.anewarray 9, 3) := by decide +kernel
theorem dX2_init_10 : decode cX2_init 10 = .ok (.putfield 11, 3) := by decide +kernel
theorem dX2_init_13 : decode cX2_init 13 = .ok (.iconst 0, 1) := by decide +kernel
theorem dX2_init_14 : decode cX2_init 14 = .ok (.istore_n 1, 1) := by decide +kernel
theorem dX2_init_15 : decode cX2_init 15 = .ok (.iload_n 1, 1) := by decide +kernel
theorem dX2_init_16 : decode cX2_init 16 = .ok (.aload_n 0, 1) := by decide +kernel
theorem dX2_init_17 : decode cX2_init 17 = .ok (.getfield 11, 3) := by decide +kernel
theorem dX2_init_20 : decode cX2_init 20 = .ok (.arraylength, 1) := by decide +kernel
theorem dX2_init_21 : decode cX2_init 21 = .ok (.if_icmp .ge 22, 3) := by decide +kernel
theorem dX2_init_24 : decode cX2_init 24 = .ok (.aload_n 0, 1) := by decide +kernel
theorem dX2_init_25 : decode cX2_init 25 = .ok (.getfield 11, 3) := by decide +kernel
theorem dX2_init_28 : decode cX2_init 28 = .ok (.iload_n 1, 1) := by decide +kernel
theorem dX2_init_29 : decode cX2_init 29 = .ok (.new 9, 3) := by decide +kernel
theorem dX2_init_32 : decode cX2_init 32 = .ok (.dup, 1) := by decide +kernel
theorem dX2_init_33 : decode cX2_init 33 = .ok (.invokespecial 17, 3) := by decide +kernel
theorem dX2_init_36 : decode cX2_init 36 = .ok (.aastore, 1) := by decide +kernel
theorem dX2_init_37 : decode cX2_init 37 = .ok (.iinc 1 1, 3) := by decide +kernel
theorem dX2_init_40 : decode cX2_init 40 = .ok (.goto (-25), 3) := by decide +kernel
theorem dX2_init_43 : decode cX2_init 43 = .ok (.return_, 1) := by decide +kernel
theorem dX2_keep_0 : decode cX2_keep 0 = .ok (.aload_n 0, 1) := by decide +kernel
theorem dX2_keep_1 : decode cX2_keep 1 = .ok (.getfield 18, 3) := by decide +kernel
theorem dX2_keep_4 : decode cX2_keep 4 = .ok (.ifCond .lt 15, 3) := by decide +kernel
theorem dX2_keep_7 : decode cX2_keep 7 = .ok (.aload_n 0, 1) := by decide +kernel
theorem dX2_keep_8 : decode cX2_keep 8 = .ok (.getfield 18, 3) := by decide +kernel
theorem dX2_keep_11 : decode cX2_keep 11 = .ok (.aload_n 0, 1) := by decide +kernel
theorem dX2_keep_12 : decode cX2_keep 12 = .ok (.getfield 11, 3) := by decide +kernel
theorem dX2_keep_15 : decode cX2_keep 15 = .ok (.arraylength, 1) := by decide +kernel
theorem dX2_keep_16 : decode cX2_keep 16 = .ok (.if_icmp .lt 4, 3) := by decide +kernel
theorem dX2_keep_19 : decode cX2_keep 19 = .ok (.return_, 1) := by decide +kernel
theorem dX2_keep_20 : decode cX2_keep 20 = .ok (.aload_n 0, 1) := by decide +kernel
theorem dX2_keep_21 : decode cX2_keep 21 = .ok (.getfield 11, 3) := by decide +kernel
theorem dX2_keep_24 : decode cX2_keep 24 = .ok (.aload_n 0, 1) := by decide +kernel
theorem dX2_keep_25 : decode cX2_keep 25 = .ok (.getfield 18, 3) := by decide +kernel
theorem dX2_keep_28 : decode cX2_keep 28 = .ok (.aaload, 1) := by decide +kernel
theorem dX2_keep_29 : decode cX2_keep 29 = .ok (.aload_n 1, 1) := by decide +kernel
theorem dX2_keep_30 : decode cX2_keep 30 = .ok (.invokevirtual 22, 3) := by decide +kernel
theorem dX2_keep_33 : decode cX2_keep 33 = .ok (.aload_n 0, 1) := by decide +kernel
theorem dX2_keep_34 : decode cX2_keep 34 = .ok (.aload_n 0, 1) := by decide +kernel
theorem dX2_keep_35 : decode cX2_keep 35 = .ok (.getfield 18, 3) := by decide +kernel
theorem dX2_keep_38 : decode cX2_keep 38 = .ok (.iconst 1, 1) := by decide +kernel
theorem dX2_keep_39 : decode cX2_keep 39 = .ok (.iadd, 1) := by decide +kernel
theorem dX2_keep_40 : decode cX2_keep 40 = .ok (.bipush 6, 2) := by decide +kernel
theorem dX2_keep_42 : decode cX2_keep 42 = .ok (.if_icmp .ge 12, 3) := by decide +kernel
theorem dX2_keep_45 : decode cX2_keep 45 = .ok (.aload_n 0, 1) := by decide +kernel
theorem dX2_keep_46 : decode cX2_keep 46 = .ok (.getfield 18, 3) := by decide +kernel
theorem dX2_keep_49 : decode cX2_keep 49 = .ok (.iconst 1, 1) := by decide +kernel
theorem dX2_keep_50 : decode cX2_keep 50 = .ok (.iadd, 1) := by decide +kernel
theorem dX2_keep_51 : decode cX2_keep 51 = .ok (.goto 4, 3) := by decide +kernel
theorem dX2_keep_54 : decode cX2_keep 54 = .ok (.iconst 0, 1) := by decide +kernel
theorem dX2_keep_55 : decode cX2_keep 55 = .ok (.putfield 18, 3) := by decide +kernel
theorem dX2_keep_58 : decode cX2_keep 58 = .ok (.aload_n 0, 1) := by decide +kernel
theorem dX2_keep_59 : decode cX2_keep 59 = .ok (.aload_n 0, 1) := by decide +kernel
theorem dX2_keep_60 : decode cX2_keep 60 = .ok (.getfield 26, 3) := by decide +kernel
theorem dX2_keep_63 : decode cX2_keep 63 = .ok (.iconst 1, 1) := by decide +kernel
theorem dX2_keep_64 : decode cX2_keep 64 = .ok (.iadd, 1) := by decide +kernel
theorem dX2_keep_65 : decode cX2_keep 65 = .ok (.bipush 6, 2) := by decide +kernel
theorem dX2_keep_67 : decode cX2_keep 67 = .ok (.invokestatic 29, 3) := by decide +kernel
theorem dX2_keep_70 : decode cX2_keep 70 = .ok (.putfield 26, 3) := by decide +kernel
theorem dX2_keep_73 : decode cX2_keep 73 = .ok (.return_, 1) := by decide +kernel
theorem dX2_giveBack_0 : decode cX2_giveBack 0 = .ok (.aload_n 0, 1) := by decide +kernel
theorem dX2_giveBack_1 : decode cX2_giveBack 1 = .ok (.getfield 18, 3) := by decide +kernel
theorem dX2_giveBack_4 : decode cX2_giveBack 4 = .ok (.ifCond .le 12, 3) := by decide +kernel
theorem dX2_giveBack_7 : decode cX2_giveBack 7 = .ok (.aload_n 0, 1) := by decide +kernel
theorem dX2_giveBack_8 : decode cX2_giveBack 8 = .ok (.getfield 18, 3) := by decide +kernel
theorem dX2_giveBack_11 : decode cX2_giveBack 11 = .ok (.iconst 1, 1) := by decide +kernel
theorem dX2_giveBack_12 : decode cX2_giveBack 12 = .ok (.isub, 1) := by decide +kernel
theorem dX2_giveBack_13 : decode cX2_giveBack 13 = .ok (.goto 4, 3) := by decide +kernel
theorem dX2_giveBack_16 : decode cX2_giveBack 16 = .ok (.iconst 5, 1) := by decide +kernel
theorem dX2_giveBack_17 : decode cX2_giveBack 17 = .ok (.istore_n 2, 1) := by decide +kernel
theorem dX2_giveBack_18 : decode cX2_giveBack 18 = .ok (.aload_n 0, 1) := by decide +kernel
theorem dX2_giveBack_19 : decode cX2_giveBack 19 = .ok (.getfield 26, 3) := by decide +kernel
theorem dX2_giveBack_22 : decode cX2_giveBack 22 = .ok (.ifCond .eq 12, 3) := by decide +kernel
theorem dX2_giveBack_25 : decode cX2_giveBack 25 = .ok (.iload_n 2, 1) := by decide +kernel
theorem dX2_giveBack_26 : decode cX2_giveBack 26 = .ok (.aload_n 0, 1) := by decide +kernel
theorem dX2_giveBack_27 : decode cX2_giveBack 27 = .ok (.getfield 11, 3) := by decide +kernel
theorem dX2_giveBack_30 : decode cX2_giveBack 30 = .ok (.arraylength, 1) := by decide +kernel
theorem dX2_giveBack_31 : decode cX2_giveBack 31 = .ok (.if_icmp .lt 4, 3) := by decide +kernel
theorem dX2_giveBack_34 : decode cX2_giveBack 34 = .ok (.return_, 1) := by decide +kernel
theorem dX2_giveBack_35 : decode cX2_giveBack 35 = .ok (.aload_n 1, 1) := by decide +kernel
theorem dX2_giveBack_36 : decode cX2_giveBack 36 = .ok (.aload_n 0, 1) := by decide +kernel
theorem dX2_giveBack_37 : decode cX2_giveBack 37 = .ok (.getfield 11, 3) := by decide +kernel
theorem dX2_giveBack_40 : decode cX2_giveBack 40 = .ok (.iload_n 2, 1) := by decide +kernel
theorem dX2_giveBack_41 : decode cX2_giveBack 41 = .ok (.aaload, 1) := by decide +kernel
theorem dX2_giveBack_42 : decode cX2_giveBack 42 = .ok (.invokevirtual 22, 3) := by decide +kernel
theorem dX2_giveBack_45 : decode cX2_giveBack 45 = .ok (.aload_n 0, 1) := by decide +kernel
theorem dX2_giveBack_46 : decode cX2_giveBack 46 = .ok (.iload_n 2, 1) := by decide +kernel
theorem dX2_giveBack_47 : decode cX2_giveBack 47 = .ok (.putfield 18, 3) := by decide +kernel
theorem dX2_giveBack_50 : decode cX2_giveBack 50 = .ok (.aload_n 0, 1) := by decide +kernel
theorem dX2_giveBack_51 : decode cX2_giveBack 51 = .ok (.dup, 1) := by decide +kernel
theorem dX2_giveBack_52 : decode cX2_giveBack 52 = .ok (.getfield 26, 3) := by decide +kernel
theorem dX2_giveBack_55 : decode cX2_giveBack 55 = .ok (.iconst 1, 1) := by decide +kernel
theorem dX2_giveBack_56 : decode cX2_giveBack 56 = .ok (.isub, 1) := by decide +kernel
theorem dX2_giveBack_57 : decode cX2_giveBack 57 = .ok (.putfield 26, 3) := by decide +kernel
theorem dX2_giveBack_60 : decode cX2_giveBack 60 = .ok (.return_, 1) := by decide +kernel
theorem dX2_forget_0 : decode cX2_forget 0 = .ok (.aload_n 0, 1) := by decide +kernel
theorem dX2_forget_1 : decode cX2_forget 1 = .ok (.iconst 0, 1) := by decide +kernel
theorem dX2_forget_2 : decode cX2_forget 2 = .ok (.putfield 26, 3) := by decide +kernel
theorem dX2_forget_5 : decode cX2_forget 5 = .ok (.return_, 1) := by decide +kernel
theorem dX3_init_0 : decode cX3_init 0 = .ok (.aload_n 0, 1) := by decide +kernel
theorem dX3_init_1 : decode cX3_init 1 = .ok (.invokespecial 3, 3) := by decide +kernel
theorem dX3_init_4 : decode cX3_init 4 = .ok (.aload_n 0, 1) := by decide +kernel
theorem dX3_init_5 : decode cX3_init 5 = .ok (.iconst 4, 1) := by decide +kernel
theorem dX3_init_6 : decode cX3_init 6 = .ok (.newarray .int, 2) := by decide +kernel
theorem dX3_init_8 : decode cX3_init 8 = .ok (.putfield 9, 3) := by decide +kernel
theorem dX3_init_11 : decode cX3_init 11 = .ok (.aload_n 0, 1) := by decide +kernel
theorem dX3_init_12 : decode cX3_init 12 = .ok (.iconst 4, 1) := by decide +kernel
theorem dX3_init_13 : decode cX3_init 13 = .ok (.newarray .int, 2) := by decide +kernel
theorem dX3_init_15 : decode cX3_init 15 = .ok (.putfield 15, 3) := by decide +kernel
theorem dX3_init_18 : decode cX3_init 18 = .ok (.aload_n 0, 1) := by decide +kernel
theorem dX3_init_19 : decode cX3_init 19 = .ok (.invokevirtual 18, 3) := by decide +kernel
theorem dX3_init_22 : decode cX3_init 22 = .ok (.return_, 1) := by decide +kernel
theorem dX3_reset_0 : decode cX3_reset 0 = .ok (.aload_n 0, 1) := by decide +kernel
theorem dX3_reset_1 : decode cX3_reset 1 = .ok (.iconst 0, 1) := by decide +kernel
theorem dX3_reset_2 : decode cX3_reset 2 = .ok (.putfield 21, 3) := by decide +kernel
theorem dX3_reset_5 : decode cX3_reset 5 = .ok (.aload_n 0, 1) := by decide +kernel
theorem dX3_reset_6 : decode cX3_reset 6 = .ok (.bipush 8, 2) := by decide +kernel
theorem dX3_reset_8 : decode cX3_reset 8 = .ok (.putfield 25, 3) := by decide +kernel
theorem dX3_reset_11 : decode cX3_reset 11 = .ok (.aload_n 0, 1) := by decide +kernel
theorem dX3_reset_12 : decode cX3_reset 12 = .ok (.iconst 4, 1) := by decide +kernel
theorem dX3_reset_13 : decode cX3_reset 13 = .ok (.putfield 28, 3) := by decide +kernel
theorem dX3_reset_16 : decode cX3_reset 16 = .ok (.aload_n 0, 1) := by decide +kernel
theorem dX3_reset_17 : decode cX3_reset 17 = .ok (.bipush 6, 2) := by decide +kernel
theorem dX3_reset_19 : decode cX3_reset 19 = .ok (.putfield 31, 3) := by decide +kernel
theorem dX3_reset_22 : decode cX3_reset 22 = .ok (.aload_n 0, 1) := by decide +kernel
theorem dX3_reset_23 : decode cX3_reset 23 = .ok (.iconst 1, 1) := by decide +kernel
theorem dX3_reset_24 : decode cX3_reset 24 = .ok (.putfield 34, 3) := by decide +kernel
theorem dX3_reset_27 : decode cX3_reset 27 = .ok (.aload_n 0, 1) := by decide +kernel
theorem dX3_reset_28 : decode cX3_reset 28 = .ok (.iconst 1, 1) := by decide +kernel
theorem dX3_reset_29 : decode cX3_reset 29 = .ok (.putfield 37, 3) := by decide +kernel
theorem dX3_reset_32 : decode cX3_reset 32 = .ok (.aload_n 0, 1) := by decide +kernel
theorem dX3_reset_33 : decode cX3_reset 33 = .ok (.bipush 7, 2) := by decide +kernel
theorem dX3_reset_35 : decode cX3_reset 35 = .ok (.putfield 40, 3) := by decide +kernel
theorem dX3_reset_38 : decode cX3_reset 38 = .ok (.aload_n 0, 1) := by decide +kernel
theorem dX3_reset_39 : decode cX3_reset 39 = .ok (.iconst 2, 1) := by decide +kernel
theorem dX3_reset_40 : decode cX3_reset 40 = .ok (.putfield 43, 3) := by decide +kernel
theorem dX3_reset_43 : decode cX3_reset 43 = .ok (.return_, 1) := by decide +kernel
theorem dX3_takeItem_0 : decode cX3_takeItem 0 = .ok (.aload_n 2, 1) := by decide +kernel
theorem dX3_takeItem_1 : decode cX3_takeItem 1 = .ok (.arraylength, 1) := by decide +kernel
theorem dX3_takeItem_2 : decode cX3_takeItem 2 = .ok (.iconst 5, 1) := by decide +kernel
theorem dX3_takeItem_3 : decode cX3_takeItem 3 = .ok (.if_icmp .ge 5, 3) := by decide +kernel
theorem dX3_takeItem_6 : decode cX3_takeItem 6 = .ok (.iconst 0, 1) := by decide +kernel
theorem dX3_takeItem_7 : decode cX3_takeItem 7 = .ok (.ireturn, 1) := by decide +kernel
theorem dX3_takeItem_8 : decode cX3_takeItem 8 = .ok (.iload_n 1, 1) := by decide +kernel
theorem dX3_takeItem_9 : decode cX3_takeItem 9 = .ok (.lookupswitch 76 #[(100, 60), (103, 43), (113, 68), (114, 49)], 43) := by decide +kernel
theorem dX3_takeItem_52 : decode cX3_takeItem 52 = .ok (.aload_n 0, 1) := by decide +kernel
theorem dX3_takeItem_53 : decode cX3_takeItem 53 = .ok (.aload_n 2, 1) := by decide +kernel
theorem dX3_takeItem_54 : decode cX3_takeItem 54 = .ok (.invokevirtual 46, 3) := by decide +kernel
theorem dX3_takeItem_57 : decode cX3_takeItem 57 = .ok (.ireturn, 1) := by decide +kernel
theorem dX3_takeItem_58 : decode cX3_takeItem 58 = .ok (.aload_n 0, 1) := by decide +kernel
theorem dX3_takeItem_59 : decode cX3_takeItem 59 = .ok (.aload_n 2, 1) := by decide +kernel
theorem dX3_takeItem_60 : decode cX3_takeItem 60 = .ok (.iconst 0, 1) := by decide +kernel
theorem dX3_takeItem_61 : decode cX3_takeItem 61 = .ok (.iaload, 1) := by decide +kernel
theorem dX3_takeItem_62 : decode cX3_takeItem 62 = .ok (.aload_n 2, 1) := by decide +kernel
theorem dX3_takeItem_63 : decode cX3_takeItem 63 = .ok (.iconst 1, 1) := by decide +kernel
theorem dX3_takeItem_64 : decode cX3_takeItem 64 = .ok (.iaload, 1) := by decide +kernel
theorem dX3_takeItem_65 : decode cX3_takeItem 65 = .ok (.invokevirtual 50, 3) := by decide +kernel
theorem dX3_takeItem_68 : decode cX3_takeItem 68 = .ok (.ireturn, 1) := by decide +kernel
theorem dX3_takeItem_69 : decode cX3_takeItem 69 = .ok (.aload_n 0, 1) := by decide +kernel
theorem dX3_takeItem_70 : decode cX3_takeItem 70 = .ok (.aload_n 2, 1) := by decide +kernel
theorem dX3_takeItem_71 : decode cX3_takeItem 71 = .ok (.iconst 0, 1) := by decide +kernel
theorem dX3_takeItem_72 : decode cX3_takeItem 72 = .ok (.iaload, 1) := by decide +kernel
theorem dX3_takeItem_73 : decode cX3_takeItem 73 = .ok (.invokevirtual 54, 3) := by decide +kernel
theorem dX3_takeItem_76 : decode cX3_takeItem 76 = .ok (.ireturn, 1) := by decide +kernel
theorem dX3_takeItem_77 : decode cX3_takeItem 77 = .ok (.aload_n 0, 1) := by decide +kernel
theorem dX3_takeItem_78 : decode cX3_takeItem 78 = .ok (.aload_n 2, 1) := by decide +kernel
theorem dX3_takeItem_79 : decode cX3_takeItem 79 = .ok (.iconst 0, 1) := by decide +kernel
theorem dX3_takeItem_80 : decode cX3_takeItem 80 = .ok (.iaload, 1) := by decide +kernel
theorem dX3_takeItem_81 : decode cX3_takeItem 81 = .ok (.invokevirtual 58, 3) := by decide +kernel
theorem dX3_takeItem_84 : decode cX3_takeItem 84 = .ok (.ireturn, 1) := by decide +kernel
theorem dX3_takeItem_85 : decode cX3_takeItem 85 = .ok (.iconst 0, 1) := by decide +kernel
theorem dX3_takeItem_86 : decode cX3_takeItem 86 = .ok (.ireturn, 1) := by decide +kernel
theorem dX3_takeGrid_0 : decode cX3_takeGrid 0 = .ok (.aload_n 1, 1) := by decide +kernel
theorem dX3_takeGrid_1 : decode cX3_takeGrid 1 = .ok (.arraylength, 1) := by decide +kernel
theorem dX3_takeGrid_2 : decode cX3_takeGrid 2 = .ok (.iconst 5, 1) := by decide +kernel
theorem dX3_takeGrid_3 : decode cX3_takeGrid 3 = .ok (.if_icmp .lt 15, 3) := by decide +kernel
theorem dX3_takeGrid_6 : decode cX3_takeGrid 6 = .ok (.aload_n 1, 1) := by decide +kernel
theorem dX3_takeGrid_7 : decode cX3_takeGrid 7 = .ok (.iconst 0, 1) := by decide +kernel
theorem dX3_takeGrid_8 : decode cX3_takeGrid 8 = .ok (.iaload, 1) := by decide +kernel
theorem dX3_takeGrid_9 : decode cX3_takeGrid 9 = .ok (.iconst 4, 1) := by decide +kernel
theorem dX3_takeGrid_10 : decode cX3_takeGrid 10 = .ok (.bipush 16, 2) := by decide +kernel
theorem dX3_takeGrid_12 : decode cX3_takeGrid 12 = .ok (.invokestatic 61, 3) := by decide +kernel
theorem dX3_takeGrid_15 : decode cX3_takeGrid 15 = .ok (.ifCond .ne 5, 3) := by decide +kernel
theorem dX3_takeGrid_18 : decode cX3_takeGrid 18 = .ok (.iconst 0, 1) := by decide +kernel
theorem dX3_takeGrid_19 : decode cX3_takeGrid 19 = .ok (.ireturn, 1) := by decide +kernel
theorem dX3_takeGrid_20 : decode cX3_takeGrid 20 = .ok (.aload_n 1, 1) := by decide +kernel
theorem dX3_takeGrid_21 : decode cX3_takeGrid 21 = .ok (.iconst 1, 1) := by decide +kernel
theorem dX3_takeGrid_22 : decode cX3_takeGrid 22 = .ok (.iaload, 1) := by decide +kernel
theorem dX3_takeGrid_23 : decode cX3_takeGrid 23 = .ok (.iconst 1, 1) := by decide +kernel
theorem dX3_takeGrid_24 : decode cX3_takeGrid 24 = .ok (.if_icmp .lt 13, 3) := by decide +kernel
theorem dX3_takeGrid_27 : decode cX3_takeGrid 27 = .ok (.aload_n 1, 1) := by decide +kernel
theorem dX3_takeGrid_28 : decode cX3_takeGrid 28 = .ok (.iconst 0, 1) := by decide +kernel
theorem dX3_takeGrid_29 : decode cX3_takeGrid 29 = .ok (.iaload, 1) := by decide +kernel
theorem dX3_takeGrid_30 : decode cX3_takeGrid 30 = .ok (.aload_n 1, 1) := by decide +kernel
theorem dX3_takeGrid_31 : decode cX3_takeGrid 31 = .ok (.iconst 1, 1) := by decide +kernel
theorem dX3_takeGrid_32 : decode cX3_takeGrid 32 = .ok (.iaload, 1) := by decide +kernel
theorem dX3_takeGrid_33 : decode cX3_takeGrid 33 = .ok (.irem, 1) := by decide +kernel
theorem dX3_takeGrid_34 : decode cX3_takeGrid 34 = .ok (.ifCond .eq 5, 3) := by decide +kernel
theorem dX3_takeGrid_37 : decode cX3_takeGrid 37 = .ok (.iconst 0, 1) := by decide +kernel
theorem dX3_takeGrid_38 : decode cX3_takeGrid 38 = .ok (.ireturn, 1) := by decide +kernel
theorem dX3_takeGrid_39 : decode cX3_takeGrid 39 = .ok (.aload_n 1, 1) := by decide +kernel
theorem dX3_takeGrid_40 : decode cX3_takeGrid 40 = .ok (.iconst 2, 1) := by decide +kernel
theorem dX3_takeGrid_41 : decode cX3_takeGrid 41 = .ok (.iaload, 1) := by decide +kernel
theorem dX3_takeGrid_42 : decode cX3_takeGrid 42 = .ok (.iconst 0, 1) := by decide +kernel
theorem dX3_takeGrid_43 : decode cX3_takeGrid 43 = .ok (.bipush 20, 2) := by decide +kernel
theorem dX3_takeGrid_45 : decode cX3_takeGrid 45 = .ok (.invokestatic 61, 3) := by decide +kernel
theorem dX3_takeGrid_48 : decode cX3_takeGrid 48 = .ok (.ifCond .eq 25, 3) := by decide +kernel
theorem dX3_takeGrid_51 : decode cX3_takeGrid 51 = .ok (.aload_n 1, 1) := by decide +kernel
theorem dX3_takeGrid_52 : decode cX3_takeGrid 52 = .ok (.iconst 3, 1) := by decide +kernel
theorem dX3_takeGrid_53 : decode cX3_takeGrid 53 = .ok (.iaload, 1) := by decide +kernel
theorem dX3_takeGrid_54 : decode cX3_takeGrid 54 = .ok (.iconst 0, 1) := by decide +kernel
theorem dX3_takeGrid_55 : decode cX3_takeGrid 55 = .ok (.iconst 5, 1) := by decide +kernel
theorem dX3_takeGrid_56 : decode cX3_takeGrid 56 = .ok (.invokestatic 61, 3) := by decide +kernel
theorem dX3_takeGrid_59 : decode cX3_takeGrid 59 = .ok (.ifCond .eq 14, 3) := by decide +kernel
theorem dX3_takeGrid_62 : decode cX3_takeGrid 62 = .ok (.aload_n 1, 1) := by decide +kernel
theorem dX3_takeGrid_63 : decode cX3_takeGrid 63 = .ok (.iconst 4, 1) := by decide +kernel
theorem dX3_takeGrid_64 : decode cX3_takeGrid 64 = .ok (.iaload, 1) := by decide +kernel
theorem dX3_takeGrid_65 : decode cX3_takeGrid 65 = .ok (.iconst 0, 1) := by decide +kernel
theorem dX3_takeGrid_66 : decode cX3_takeGrid 66 = .ok (.iconst 5, 1) := by decide +kernel
theorem dX3_takeGrid_67 : decode cX3_takeGrid 67 = .ok (.invokestatic 61, 3) := by decide +kernel
theorem dX3_takeGrid_70 : decode cX3_takeGrid 70 = .ok (.ifCond .ne 5, 3) := by decide +kernel
theorem dX3_takeGrid_73 : decode cX3_takeGrid 73 = .ok (.iconst 0, 1) := by decide +kernel
theorem dX3_takeGrid_74 : decode cX3_takeGrid 74 = .ok (.ireturn, 1) := by decide +kernel
theorem dX3_takeGrid_75 : decode cX3_takeGrid 75 = .ok (.aload_n 0, 1) := by decide +kernel
theorem dX3_takeGrid_76 : decode cX3_takeGrid 76 = .ok (.aload_n 1, 1) := by decide +kernel
theorem dX3_takeGrid_77 : decode cX3_takeGrid 77 = .ok (.iconst 0, 1) := by decide +kernel
theorem dX3_takeGrid_78 : decode cX3_takeGrid 78 = .ok (.iaload, 1) := by decide +kernel
theorem dX3_takeGrid_79 : decode cX3_takeGrid 79 = .ok (.putfield 25, 3) := by decide +kernel
theorem dX3_takeGrid_82 : decode cX3_takeGrid 82 = .ok (.aload_n 0, 1) := by decide +kernel
theorem dX3_takeGrid_83 : decode cX3_takeGrid 83 = .ok (.aload_n 1, 1) := by decide +kernel
theorem dX3_takeGrid_84 : decode cX3_takeGrid 84 = .ok (.iconst 1, 1) := by decide +kernel
theorem dX3_takeGrid_85 : decode cX3_takeGrid 85 = .ok (.iaload, 1) := by decide +kernel
theorem dX3_takeGrid_86 : decode cX3_takeGrid 86 = .ok (.putfield 28, 3) := by decide +kernel
theorem dX3_takeGrid_89 : decode cX3_takeGrid 89 = .ok (.aload_n 0, 1) := by decide +kernel
theorem dX3_takeGrid_90 : decode cX3_takeGrid 90 = .ok (.aload_n 1, 1) := by decide +kernel
theorem dX3_takeGrid_91 : decode cX3_takeGrid 91 = .ok (.iconst 2, 1) := by decide +kernel
theorem dX3_takeGrid_92 : decode cX3_takeGrid 92 = .ok (.iaload, 1) := by decide +kernel
theorem dX3_takeGrid_93 : decode cX3_takeGrid 93 = .ok (.putfield 31, 3) := by decide +kernel
theorem dX3_takeGrid_96 : decode cX3_takeGrid 96 = .ok (.aload_n 0, 1) := by decide +kernel
theorem dX3_takeGrid_97 : decode cX3_takeGrid 97 = .ok (.aload_n 1, 1) := by decide +kernel
theorem dX3_takeGrid_98 : decode cX3_takeGrid 98 = .ok (.iconst 3, 1) := by decide +kernel
theorem dX3_takeGrid_99 : decode cX3_takeGrid 99 = .ok (.iaload, 1) := by decide +kernel
theorem dX3_takeGrid_100 : decode cX3_takeGrid 100 = .ok (.putfield 34, 3) := by decide +kernel
theorem dX3_takeGrid_103 : decode cX3_takeGrid 103 = .ok (.aload_n 0, 1) := by decide +kernel
theorem dX3_takeGrid_104 : decode cX3_takeGrid 104 = .ok (.aload_n 1, 1) := by decide +kernel
theorem dX3_takeGrid_105 : decode cX3_takeGrid 105 = .ok (.iconst 4, 1) := by decide +kernel
theorem dX3_takeGrid_106 : decode cX3_takeGrid 106 = .ok (.iaload, 1) := by decide +kernel
theorem dX3_takeGrid_107 : decode cX3_takeGrid 107 = .ok (.putfield 37, 3) := by decide +kernel
theorem dX3_takeGrid_110 : decode cX3_takeGrid 110 = .ok (.iconst 1, 1) := by decide +kernel
theorem dX3_takeGrid_111 : decode cX3_takeGrid 111 = .ok (.ireturn, 1) := by decide +kernel
theorem dX3_addRule_0 : decode cX3_addRule 0 = .ok (.aload_n 0, 1) := by decide +kernel
theorem dX3_addRule_1 : decode cX3_addRule 1 = .ok (.getfield 21, 3) := by decide +kernel
theorem dX3_addRule_4 : decode cX3_addRule 4 = .ok (.iconst 4, 1) := by decide +kernel
theorem dX3_addRule_5 : decode cX3_addRule 5 = .ok (.if_icmp .ge 22, 3) := by decide +kernel
theorem dX3_addRule_8 : decode cX3_addRule 8 = .ok (.iload_n 1, 1) := by decide +kernel
theorem dX3_addRule_9 : decode cX3_addRule 9 = .ok (.iconst 0, 1) := by decide +kernel
theorem dX3_addRule_10 : decode cX3_addRule 10 = .ok (.iconst 3, 1) := by decide +kernel
theorem dX3_addRule_11 : decode cX3_addRule 11 = .ok (.invokestatic 61, 3) := by decide +kernel
theorem dX3_addRule_14 : decode cX3_addRule 14 = .ok (.ifCond .eq 13, 3) := by decide +kernel
theorem dX3_addRule_17 : decode cX3_addRule 17 = .ok (.iload_n 2, 1) := by decide +kernel
theorem dX3_addRule_18 : decode cX3_addRule 18 = .ok (.iconst 1, 1) := by decide +kernel
theorem dX3_addRule_19 : decode cX3_addRule 19 = .ok (.bipush 99, 2) := by decide +kernel
theorem dX3_addRule_21 : decode cX3_addRule 21 = .ok (.invokestatic 61, 3) := by decide +kernel
theorem dX3_addRule_24 : decode cX3_addRule 24 = .ok (.ifCond .ne 5, 3) := by decide +kernel
theorem dX3_addRule_27 : decode cX3_addRule 27 = .ok (.iconst 0, 1) := by decide +kernel
theorem dX3_addRule_28 : decode cX3_addRule 28 = .ok (.ireturn, 1) := by decide +kernel
theorem dX3_addRule_29 : decode cX3_addRule 29 = .ok (.aload_n 0, 1) := by decide +kernel
theorem dX3_addRule_30 : decode cX3_addRule 30 = .ok (.getfield 9, 3) := by decide +kernel
theorem dX3_addRule_33 : decode cX3_addRule 33 = .ok (.aload_n 0, 1) := by decide +kernel
theorem dX3_addRule_34 : decode cX3_addRule 34 = .ok (.getfield 21, 3) := by decide +kernel
theorem dX3_addRule_37 : decode cX3_addRule 37 = .ok (.iload_n 1, 1) := by decide +kernel
theorem dX3_addRule_38 : decode cX3_addRule 38 = .ok (.iastore, 1) := by decide +kernel
theorem dX3_addRule_39 : decode cX3_addRule 39 = .ok (.aload_n 0, 1) := by decide +kernel
theorem dX3_addRule_40 : decode cX3_addRule 40 = .ok (.getfield 15, 3) := by decide +kernel
theorem dX3_addRule_43 : decode cX3_addRule 43 = .ok (.aload_n 0, 1) := by decide +kernel
theorem dX3_addRule_44 : decode cX3_addRule 44 = .ok (.getfield 21, 3) := by decide +kernel
theorem dX3_addRule_47 : decode cX3_addRule 47 = .ok (.iload_n 2, 1) := by decide +kernel
theorem dX3_addRule_48 : decode cX3_addRule 48 = .ok (.iastore, 1) := by decide +kernel
theorem dX3_addRule_49 : decode cX3_addRule 49 = .ok (.aload_n 0, 1) := by decide +kernel
theorem dX3_addRule_50 : decode cX3_addRule 50 = .ok (.dup, 1) := by decide +kernel
theorem dX3_addRule_51 : decode cX3_addRule 51 = .ok (.getfield 21, 3) := by decide +kernel
theorem dX3_addRule_54 : decode cX3_addRule 54 = .ok (.iconst 1, 1) := by decide +kernel
theorem dX3_addRule_55 : decode cX3_addRule 55 = .ok (.iadd, 1) := by decide +kernel
theorem dX3_addRule_56 : decode cX3_addRule 56 = .ok (.putfield 21, 3) := by decide +kernel
theorem dX3_addRule_59 : decode cX3_addRule 59 = .ok (.iconst 1, 1) := by decide +kernel
theorem dX3_addRule_60 : decode cX3_addRule 60 = .ok (.ireturn, 1) := by decide +kernel
theorem dX3_takeDark_0 : decode cX3_takeDark 0 = .ok (.iload_n 1, 1) := by decide +kernel
theorem dX3_takeDark_1 : decode cX3_takeDark 1 = .ok (.iconst 1, 1) := by decide +kernel
theorem dX3_takeDark_2 : decode cX3_takeDark 2 = .ok (.bipush 9, 2) := by decide +kernel
theorem dX3_takeDark_4 : decode cX3_takeDark 4 = .ok (.invokestatic 61, 3) := by decide +kernel
theorem dX3_takeDark_7 : decode cX3_takeDark 7 = .ok (.ifCond .ne 5, 3) := by decide +kernel
theorem dX3_takeDark_10 : decode cX3_takeDark 10 = .ok (.iconst 0, 1) := by decide +kernel
theorem dX3_takeDark_11 : decode cX3_takeDark 11 = .ok (.ireturn, 1) := by decide +kernel
theorem dX3_takeDark_12 : decode cX3_takeDark 12 = .ok (.aload_n 0, 1) := by decide +kernel
theorem dX3_takeDark_13 : decode cX3_takeDark 13 = .ok (.iload_n 1, 1) := by decide +kernel
theorem dX3_takeDark_14 : decode cX3_takeDark 14 = .ok (.putfield 40, 3) := by decide +kernel
theorem dX3_takeDark_17 : decode cX3_takeDark 17 = .ok (.iconst 1, 1) := by decide +kernel
theorem dX3_takeDark_18 : decode cX3_takeDark 18 = .ok (.ireturn, 1) := by decide +kernel
theorem dX3_takeRest_0 : decode cX3_takeRest 0 = .ok (.iload_n 1, 1) := by decide +kernel
theorem dX3_takeRest_1 : decode cX3_takeRest 1 = .ok (.iconst 0, 1) := by decide +kernel
theorem dX3_takeRest_2 : decode cX3_takeRest 2 = .ok (.bipush 9, 2) := by decide +kernel
theorem dX3_takeRest_4 : decode cX3_takeRest 4 = .ok (.invokestatic 61, 3) := by decide +kernel
theorem dX3_takeRest_7 : decode cX3_takeRest 7 = .ok (.ifCond .ne 5, 3) := by decide +kernel
theorem dX3_takeRest_10 : decode cX3_takeRest 10 = .ok (.iconst 0, 1) := by decide +kernel
theorem dX3_takeRest_11 : decode cX3_takeRest 11 = .ok (.ireturn, 1) := by decide +kernel
theorem dX3_takeRest_12 : decode cX3_takeRest 12 = .ok (.aload_n 0, 1) := by decide +kernel
theorem dX3_takeRest_13 : decode cX3_takeRest 13 = .ok (.iload_n 1, 1) := by decide +kernel
theorem dX3_takeRest_14 : decode cX3_takeRest 14 = .ok (.putfield 43, 3) := by decide +kernel
theorem dX3_takeRest_17 : decode cX3_takeRest 17 = .ok (.iconst 1, 1) := by decide +kernel
theorem dX3_takeRest_18 : decode cX3_takeRest 18 = .ok (.ireturn, 1) := by decide +kernel
theorem dX3_isBetween_0 : decode cX3_isBetween 0 = .ok (.iload_n 0, 1) := by decide +kernel
theorem dX3_isBetween_1 : decode cX3_isBetween 1 = .ok (.iload_n 1, 1) := by decide +kernel
theorem dX3_isBetween_2 : decode cX3_isBetween 2 = .ok (.if_icmp .lt 12, 3) := by decide +kernel
theorem dX3_isBetween_5 : decode cX3_isBetween 5 = .ok (.iload_n 0, 1) := by decide +kernel
theorem dX3_isBetween_6 : decode cX3_isBetween 6 = .ok (.iload_n 2, 1) := by decide +kernel
theorem dX3_isBetween_7 : decode cX3_isBetween 7 = .ok (.if_icmp .gt 7, 3) := by decide +kernel
theorem dX3_isBetween_10 : decode cX3_isBetween 10 = .ok (.iconst 1, 1) := by decide +kernel
theorem dX3_isBetween_11 : decode cX3_isBetween 11 = .ok (.goto 4, 3) := by decide +kernel
theorem dX3_isBetween_14 : decode cX3_isBetween 14 = .ok (.iconst 0, 1) := by decide +kernel
theorem dX3_isBetween_15 : decode cX3_isBetween 15 = .ok (.ireturn, 1) := by decide +kernel
theorem dX3_lineBound_0 : decode cX3_lineBound 0 = .ok (.lconst 1, 1) := by decide +kernel
theorem dX3_lineBound_1 : decode cX3_lineBound 1 = .ok (.lstore_n 1, 1) := by decide +kernel
theorem dX3_lineBound_2 : decode cX3_lineBound 2 = .ok (.iconst 0, 1) := by decide +kernel
theorem dX3_lineBound_3 : decode cX3_lineBound 3 = .ok (.istore_n 3, 1) := by decide +kernel
theorem dX3_lineBound_4 : decode cX3_lineBound 4 = .ok (.iload_n 3, 1) := by decide +kernel
theorem dX3_lineBound_5 : decode cX3_lineBound 5 = .ok (.aload_n 0, 1) := by decide +kernel
theorem dX3_lineBound_6 : decode cX3_lineBound 6 = .ok (.getfield 25, 3) := by decide +kernel
theorem dX3_lineBound_9 : decode cX3_lineBound 9 = .ok (.if_icmp .ge 15, 3) := by decide +kernel
theorem dX3_lineBound_12 : decode cX3_lineBound 12 = .ok (.lload_n 1, 1) := by decide +kernel
theorem dX3_lineBound_13 : decode cX3_lineBound 13 = .ok (.ldc2_w 65, 3) := by decide +kernel
theorem dX3_lineBound_16 : decode cX3_lineBound 16 = .ok (.lmul, 1) := by decide +kernel
theorem dX3_lineBound_17 : decode cX3_lineBound 17 = .ok (.lstore_n 1, 1) := by decide +kernel
theorem dX3_lineBound_18 : decode cX3_lineBound 18 = .ok (.iinc 3 1, 3) := by decide +kernel
theorem dX3_lineBound_21 : decode cX3_lineBound 21 = .ok (.goto (-17), 3) := by decide +kernel
theorem dX3_lineBound_24 : decode cX3_lineBound 24 = .ok (.lload_n 1, 1) := by decide +kernel
theorem dX3_lineBound_25 : decode cX3_lineBound 25 = .ok (.lreturn, 1) := by decide +kernel
theorem dX3_valveOver_0 : decode cX3_valveOver 0 = .ok (.aload_n 0, 1) := by decide +kernel
theorem dX3_valveOver_1 : decode cX3_valveOver 1 = .ok (.getfield 28, 3) := by decide +kernel
theorem dX3_valveOver_4 : decode cX3_valveOver 4 = .ok (.ifCond .le 15, 3) := by decide +kernel
theorem dX3_valveOver_7 : decode cX3_valveOver 7 = .ok (.aload_n 0, 1) := by decide +kernel
theorem dX3_valveOver_8 : decode cX3_valveOver 8 = .ok (.getfield 25, 3) := by decide +kernel
theorem dX3_valveOver_11 : decode cX3_valveOver 11 = .ok (.aload_n 0, 1) := by decide +kernel
theorem dX3_valveOver_12 : decode cX3_valveOver 12 = .ok (.getfield 28, 3) := by decide +kernel
theorem dX3_valveOver_15 : decode cX3_valveOver 15 = .ok (.idiv, 1) := by decide +kernel
theorem dX3_valveOver_16 : decode cX3_valveOver 16 = .ok (.goto 4, 3) := by decide +kernel
theorem dX3_valveOver_19 : decode cX3_valveOver 19 = .ok (.iconst 0, 1) := by decide +kernel
theorem dX3_valveOver_20 : decode cX3_valveOver 20 = .ok (.istore_n 2, 1) := by decide +kernel
theorem dX3_valveOver_21 : decode cX3_valveOver 21 = .ok (.iload_n 2, 1) := by decide +kernel
theorem dX3_valveOver_22 : decode cX3_valveOver 22 = .ok (.ifCond .le 9, 3) := by decide +kernel
theorem dX3_valveOver_25 : decode cX3_valveOver 25 = .ok (.iload_n 1, 1) := by decide +kernel
theorem dX3_valveOver_26 : decode cX3_valveOver 26 = .ok (.iload_n 2, 1) := by decide +kernel
theorem dX3_valveOver_27 : decode cX3_valveOver 27 = .ok (.idiv, 1) := by decide +kernel
theorem dX3_valveOver_28 : decode cX3_valveOver 28 = .ok (.goto 4, 3) := by decide +kernel
theorem dX3_valveOver_31 : decode cX3_valveOver 31 = .ok (.iconst 0, 1) := by decide +kernel
theorem dX3_valveOver_32 : decode cX3_valveOver 32 = .ok (.ireturn, 1) := by decide +kernel
theorem dX3_wantedFrom_0 : decode cX3_wantedFrom 0 = .ok (.aload_n 1, 1) := by decide +kernel
theorem dX3_wantedFrom_1 : decode cX3_wantedFrom 1 = .ok (.getfield 67, 3) := by decide +kernel
theorem dX3_wantedFrom_4 : decode cX3_wantedFrom 4 = .ok (.aload_n 0, 1) := by decide +kernel
theorem dX3_wantedFrom_5 : decode cX3_wantedFrom 5 = .ok (.getfield 31, 3) := by decide +kernel
theorem dX3_wantedFrom_8 : decode cX3_wantedFrom 8 = .ok (.iadd, 1) := by decide +kernel
theorem dX3_wantedFrom_9 : decode cX3_wantedFrom 9 = .ok (.aload_n 0, 1) := by decide +kernel
theorem dX3_wantedFrom_10 : decode cX3_wantedFrom 10 = .ok (.getfield 34, 3) := by decide +kernel
theorem dX3_wantedFrom_13 : decode cX3_wantedFrom 13 = .ok (.isub, 1) := by decide +kernel
theorem dX3_wantedFrom_14 : decode cX3_wantedFrom 14 = .ok (.ireturn, 1) := by decide +kernel
theorem dX3_wantedTo_0 : decode cX3_wantedTo 0 = .ok (.aload_n 1, 1) := by decide +kernel
theorem dX3_wantedTo_1 : decode cX3_wantedTo 1 = .ok (.getfield 72, 3) := by decide +kernel
theorem dX3_wantedTo_4 : decode cX3_wantedTo 4 = .ok (.aload_n 0, 1) := by decide +kernel
theorem dX3_wantedTo_5 : decode cX3_wantedTo 5 = .ok (.getfield 31, 3) := by decide +kernel
theorem dX3_wantedTo_8 : decode cX3_wantedTo 8 = .ok (.iadd, 1) := by decide +kernel
theorem dX3_wantedTo_9 : decode cX3_wantedTo 9 = .ok (.aload_n 0, 1) := by decide +kernel
theorem dX3_wantedTo_10 : decode cX3_wantedTo 10 = .ok (.getfield 37, 3) := by decide +kernel
theorem dX3_wantedTo_13 : decode cX3_wantedTo 13 = .ok (.iadd, 1) := by decide +kernel
theorem dX3_wantedTo_14 : decode cX3_wantedTo 14 = .ok (.ireturn, 1) := by decide +kernel
theorem dX3_isLate_0 : decode cX3_isLate 0 = .ok (.aload_n 0, 1) := by decide +kernel
theorem dX3_isLate_1 : decode cX3_isLate 1 = .ok (.aload_n 1, 1) := by decide +kernel
theorem dX3_isLate_2 : decode cX3_isLate 2 = .ok (.invokevirtual 75, 3) := by decide +kernel
theorem dX3_isLate_5 : decode cX3_isLate 5 = .ok (.aload_n 1, 1) := by decide +kernel
theorem dX3_isLate_6 : decode cX3_isLate 6 = .ok (.invokevirtual 79, 3) := by decide +kernel
theorem dX3_isLate_9 : decode cX3_isLate 9 = .ok (.if_icmp .ge 7, 3) := by decide +kernel
theorem dX3_isLate_12 : decode cX3_isLate 12 = .ok (.iconst 1, 1) := by decide +kernel
theorem dX3_isLate_13 : decode cX3_isLate 13 = .ok (.goto 4, 3) := by decide +kernel
theorem dX3_isLate_16 : decode cX3_isLate 16 = .ok (.iconst 0, 1) := by decide +kernel
theorem dX3_isLate_17 : decode cX3_isLate 17 = .ok (.ireturn, 1) := by decide +kernel
theorem dX4_init_0 : decode cX4_init 0 = .ok (.aload_n 0, 1) := by decide +kernel
theorem dX4_init_1 : decode cX4_init 1 = .ok (.invokespecial 3, 3) := by decide +kernel
theorem dX4_init_4 : decode cX4_init 4 = .ok (.aload_n 0, 1) := by decide +kernel
theorem dX4_init_5 : decode cX4_init 5 = .ok (.bipush 60, 2) := by decide +kernel
theorem dX4_init_7 : decode cX4_init 7 = .ok (.newarray .long, 2) := by decide +kernel
theorem dX4_init_9 : decode cX4_init 9 = .ok (.putfield 9, 3) := by decide +kernel
theorem dX4_init_12 : decode cX4_init 12 = .ok (.aload_n 0, 1) := by decide +kernel
theorem dX4_init_13 : decode cX4_init 13 = .ok (.iconst 4, 1) := by decide +kernel
theorem dX4_init_14 : decode cX4_init 14 = .ok (.newarray .int, 2) := by decide +kernel
theorem dX4_init_16 : decode cX4_init 16 = .ok (.putfield 15, 3) := by decide +kernel
theorem dX4_init_19 : decode cX4_init 19 = .ok (.return_, 1) := by decide +kernel
theorem dX4_addLine_0 : decode cX4_addLine 0 = .ok (.aload_n 0, 1) := by decide +kernel
theorem dX4_addLine_1 : decode cX4_addLine 1 = .ok (.getfield 19, 3) := by decide +kernel
theorem dX4_addLine_4 : decode cX4_addLine 4 = .ok (.ifCond .lt 35, 3) := by decide +kernel
theorem dX4_addLine_7 : decode cX4_addLine 7 = .ok (.aload_n 0, 1) := by decide +kernel
theorem dX4_addLine_8 : decode cX4_addLine 8 = .ok (.getfield 19, 3) := by decide +kernel
theorem dX4_addLine_11 : decode cX4_addLine 11 = .ok (.aload_n 0, 1) := by decide +kernel
theorem dX4_addLine_12 : decode cX4_addLine 12 = .ok (.getfield 9, 3) := by decide +kernel
theorem dX4_addLine_15 : decode cX4_addLine 15 = .ok (.arraylength, 1) := by decide +kernel
theorem dX4_addLine_16 : decode cX4_addLine 16 = .ok (.if_icmp .ge 23, 3) := by decide +kernel
theorem dX4_addLine_19 : decode cX4_addLine 19 = .ok (.aload_n 0, 1) := by decide +kernel
theorem dX4_addLine_20 : decode cX4_addLine 20 = .ok (.getfield 9, 3) := by decide +kernel
theorem dX4_addLine_23 : decode cX4_addLine 23 = .ok (.aload_n 0, 1) := by decide +kernel
theorem dX4_addLine_24 : decode cX4_addLine 24 = .ok (.getfield 19, 3) := by decide +kernel
theorem dX4_addLine_27 : decode cX4_addLine 27 = .ok (.lload_n 1, 1) := by decide +kernel
theorem dX4_addLine_28 : decode cX4_addLine 28 = .ok (.lastore, 1) := by decide +kernel
theorem dX4_addLine_29 : decode cX4_addLine 29 = .ok (.aload_n 0, 1) := by decide +kernel
theorem dX4_addLine_30 : decode cX4_addLine 30 = .ok (.dup, 1) := by decide +kernel
theorem dX4_addLine_31 : decode cX4_addLine 31 = .ok (.getfield 19, 3) := by decide +kernel
theorem dX4_addLine_34 : decode cX4_addLine 34 = .ok (.iconst 1, 1) := by decide +kernel
theorem dX4_addLine_35 : decode cX4_addLine 35 = .ok (.iadd, 1) := by decide +kernel
theorem dX4_addLine_36 : decode cX4_addLine 36 = .ok (.putfield 19, 3) := by decide +kernel
theorem dX4_addLine_39 : decode cX4_addLine 39 = .ok (.return_, 1) := by decide +kernel
theorem dX4_copyFrom_0 : decode cX4_copyFrom 0 = .ok (.aload_n 1, 1) := by decide +kernel
theorem dX4_copyFrom_1 : decode cX4_copyFrom 1 = .ok (.getfield 9, 3) := by decide +kernel
theorem dX4_copyFrom_4 : decode cX4_copyFrom 4 = .ok (.iconst 0, 1) := by decide +kernel
theorem dX4_copyFrom_5 : decode cX4_copyFrom 5 = .ok (.aload_n 0, 1) := by decide +kernel
theorem dX4_copyFrom_6 : decode cX4_copyFrom 6 = .ok (.getfield 9, 3) := by decide +kernel
theorem dX4_copyFrom_9 : decode cX4_copyFrom 9 = .ok (.iconst 0, 1) := by decide +kernel
theorem dX4_copyFrom_10 : decode cX4_copyFrom 10 = .ok (.bipush 60, 2) := by decide +kernel
theorem dX4_copyFrom_12 : decode cX4_copyFrom 12 = .ok (.invokestatic 23, 3) := by decide +kernel
theorem dX4_copyFrom_15 : decode cX4_copyFrom 15 = .ok (.aload_n 1, 1) := by decide +kernel
theorem dX4_copyFrom_16 : decode cX4_copyFrom 16 = .ok (.getfield 15, 3) := by decide +kernel
theorem dX4_copyFrom_19 : decode cX4_copyFrom 19 = .ok (.iconst 0, 1) := by decide +kernel
theorem dX4_copyFrom_20 : decode cX4_copyFrom 20 = .ok (.aload_n 0, 1) := by decide +kernel
theorem dX4_copyFrom_21 : decode cX4_copyFrom 21 = .ok (.getfield 15, 3) := by decide +kernel
theorem dX4_copyFrom_24 : decode cX4_copyFrom 24 = .ok (.iconst 0, 1) := by decide +kernel
theorem dX4_copyFrom_25 : decode cX4_copyFrom 25 = .ok (.iconst 4, 1) := by decide +kernel
theorem dX4_copyFrom_26 : decode cX4_copyFrom 26 = .ok (.invokestatic 23, 3) := by decide +kernel
theorem dX4_copyFrom_29 : decode cX4_copyFrom 29 = .ok (.aload_n 0, 1) := by decide +kernel
theorem dX4_copyFrom_30 : decode cX4_copyFrom 30 = .ok (.aload_n 1, 1) := by decide +kernel
theorem dX4_copyFrom_31 : decode cX4_copyFrom 31 = .ok (.getfield 19, 3) := by decide +kernel
theorem dX4_copyFrom_34 : decode cX4_copyFrom 34 = .ok (.putfield 19, 3) := by decide +kernel
theorem dX4_copyFrom_37 : decode cX4_copyFrom 37 = .ok (.return_, 1) := by decide +kernel
theorem dX5_init_0 : decode cX5_init 0 = .ok (.aload_n 0, 1) := by decide +kernel
theorem dX5_init_1 : decode cX5_init 1 = .ok (.invokespecial 3, 3) := by decide +kernel
theorem dX5_init_4 : decode cX5_init 4 = .ok (.aload_n 0, 1) := by decide +kernel
theorem dX5_init_5 : decode cX5_init 5 = .ok (.sipush 200, 3) := by decide +kernel
theorem dX5_init_8 : decode cX5_init 8 = .ok (.newarray .char, 2) := by decide +kernel
theorem dX5_init_10 : decode cX5_init 10 = .ok (.putfield 9, 3) := by decide +kernel
theorem dX5_init_13 : decode cX5_init 13 = .ok (.aload_n 0, 1) := by decide +kernel
theorem dX5_init_14 : decode cX5_init 14 = .ok (.iconst 5, 1) := by decide +kernel
theorem dX5_init_15 : decode cX5_init 15 = .ok (.newarray .int, 2) := by decide +kernel
theorem dX5_init_17 : decode cX5_init 17 = .ok (.putfield 15, 3) := by decide +kernel
theorem dX5_init_20 : decode cX5_init 20 = .ok (.return_, 1) := by decide +kernel
theorem dX5_append_0 : decode cX5_append 0 = .ok (.aload_n 0, 1) := by decide +kernel
theorem dX5_append_1 : decode cX5_append 1 = .ok (.getfield 19, 3) := by decide +kernel
theorem dX5_append_4 : decode cX5_append 4 = .ok (.aload_n 0, 1) := by decide +kernel
theorem dX5_append_5 : decode cX5_append 5 = .ok (.getfield 9, 3) := by decide +kernel
theorem dX5_append_8 : decode cX5_append 8 = .ok (.arraylength, 1) := by decide +kernel
theorem dX5_append_9 : decode cX5_append 9 = .ok (.if_icmp .ge 23, 3) := by decide +kernel
theorem dX5_append_12 : decode cX5_append 12 = .ok (.aload_n 0, 1) := by decide +kernel
theorem dX5_append_13 : decode cX5_append 13 = .ok (.getfield 9, 3) := by decide +kernel
theorem dX5_append_16 : decode cX5_append 16 = .ok (.aload_n 0, 1) := by decide +kernel
theorem dX5_append_17 : decode cX5_append 17 = .ok (.getfield 19, 3) := by decide +kernel
theorem dX5_append_20 : decode cX5_append 20 = .ok (.iload_n 1, 1) := by decide +kernel
theorem dX5_append_21 : decode cX5_append 21 = .ok (.castore, 1) := by decide +kernel
theorem dX5_append_22 : decode cX5_append 22 = .ok (.aload_n 0, 1) := by decide +kernel
theorem dX5_append_23 : decode cX5_append 23 = .ok (.dup, 1) := by decide +kernel
theorem dX5_append_24 : decode cX5_append 24 = .ok (.getfield 19, 3) := by decide +kernel
theorem dX5_append_27 : decode cX5_append 27 = .ok (.iconst 1, 1) := by decide +kernel
theorem dX5_append_28 : decode cX5_append 28 = .ok (.iadd, 1) := by decide +kernel
theorem dX5_append_29 : decode cX5_append 29 = .ok (.putfield 19, 3) := by decide +kernel
theorem dX5_append_32 : decode cX5_append 32 = .ok (.return_, 1) := by decide +kernel
theorem dX5_readInto_0 : decode cX5_readInto 0 = .ok (.aload_n 1, 1) := by decide +kernel
theorem dX5_readInto_1 : decode cX5_readInto 1 = .ok (.invokevirtual 23, 3) := by decide +kernel
theorem dX5_readInto_4 : decode cX5_readInto 4 = .ok (.aload_n 0, 1) := by decide +kernel
theorem dX5_readInto_5 : decode cX5_readInto 5 = .ok (.iconst 0, 1) := by decide +kernel
theorem dX5_readInto_6 : decode cX5_readInto 6 = .ok (.putfield 28, 3) := by decide +kernel
theorem dX5_readInto_9 : decode cX5_readInto 9 = .ok (.iconst 0, 1) := by decide +kernel
theorem dX5_readInto_10 : decode cX5_readInto 10 = .ok (.istore_n 2, 1) := by decide +kernel
theorem dX5_readInto_11 : decode cX5_readInto 11 = .ok (.iload_n 2, 1) := by decide +kernel
theorem dX5_readInto_12 : decode cX5_readInto 12 = .ok (.sipush 200, 3) := by decide +kernel
theorem dX5_readInto_15 : decode cX5_readInto 15 = .ok (.if_icmp .ge 35, 3) := by decide +kernel
theorem dX5_readInto_18 : decode cX5_readInto 18 = .ok (.aload_n 0, 1) := by decide +kernel
theorem dX5_readInto_19 : decode cX5_readInto 19 = .ok (.getfield 28, 3) := by decide +kernel
theorem dX5_readInto_22 : decode cX5_readInto 22 = .ok (.aload_n 0, 1) := by decide +kernel
theorem dX5_readInto_23 : decode cX5_readInto 23 = .ok (.getfield 19, 3) := by decide +kernel
theorem dX5_readInto_26 : decode cX5_readInto 26 = .ok (.if_icmp .ge 24, 3) := by decide +kernel
theorem dX5_readInto_29 : decode cX5_readInto 29 = .ok (.aload_n 0, 1) := by decide +kernel
theorem dX5_readInto_30 : decode cX5_readInto 30 = .ok (.getfield 28, 3) := by decide +kernel
theorem dX5_readInto_33 : decode cX5_readInto 33 = .ok (.istore_n 3, 1) := by decide +kernel
theorem dX5_readInto_34 : decode cX5_readInto 34 = .ok (.aload_n 0, 1) := by decide +kernel
theorem dX5_readInto_35 : decode cX5_readInto 35 = .ok (.aload_n 1, 1) := by decide +kernel
theorem dX5_readInto_36 : decode cX5_readInto 36 = .ok (.invokevirtual 31, 3) := by decide +kernel
theorem dX5_readInto_39 : decode cX5_readInto 39 = .ok (.ifCond .ne 5, 3) := by decide +kernel
theorem dX5_readInto_42 : decode cX5_readInto 42 = .ok (.iload_n 3, 1) := by decide +kernel
theorem dX5_readInto_43 : decode cX5_readInto 43 = .ok (.ireturn, 1) := by decide +kernel
theorem dX5_readInto_44 : decode cX5_readInto 44 = .ok (.iinc 2 1, 3) := by decide +kernel
theorem dX5_readInto_47 : decode cX5_readInto 47 = .ok (.goto (-36), 3) := by decide +kernel
theorem dX5_readInto_50 : decode cX5_readInto 50 = .ok (.bipush (-4), 2) := by decide +kernel
theorem dX5_readInto_52 : decode cX5_readInto 52 = .ok (.ireturn, 1) := by decide +kernel
theorem dX5_readItem_0 : decode cX5_readItem 0 = .ok (.aload_n 0, 1) := by decide +kernel
theorem dX5_readItem_1 : decode cX5_readItem 1 = .ok (.invokevirtual 35, 3) := by decide +kernel
theorem dX5_readItem_4 : decode cX5_readItem 4 = .ok (.istore_n 2, 1) := by decide +kernel
theorem dX5_readItem_5 : decode cX5_readItem 5 = .ok (.aload_n 0, 1) := by decide +kernel
theorem dX5_readItem_6 : decode cX5_readItem 6 = .ok (.dup, 1) := by decide +kernel
theorem dX5_readItem_7 : decode cX5_readItem 7 = .ok (.getfield 28, 3) := by decide +kernel
theorem dX5_readItem_10 : decode cX5_readItem 10 = .ok (.iconst 1, 1) := by decide +kernel
theorem dX5_readItem_11 : decode cX5_readItem 11 = .ok (.iadd, 1) := by decide +kernel
theorem dX5_readItem_12 : decode cX5_readItem 12 = .ok (.putfield 28, 3) := by decide +kernel
theorem dX5_readItem_15 : decode cX5_readItem 15 = .ok (.iload_n 2, 1) := by decide +kernel
theorem dX5_readItem_16 : decode cX5_readItem 16 = .ok (.invokestatic 39, 3) := by decide +kernel
theorem dX5_readItem_19 : decode cX5_readItem 19 = .ok (.istore_n 3, 1) := by decide +kernel
theorem dX5_readItem_20 : decode cX5_readItem 20 = .ok (.iload_n 3, 1) := by decide +kernel
theorem dX5_readItem_21 : decode cX5_readItem 21 = .ok (.ifCond .ne 5, 3) := by decide +kernel
theorem dX5_readItem_24 : decode cX5_readItem 24 = .ok (.iconst 0, 1) := by decide +kernel
theorem dX5_readItem_25 : decode cX5_readItem 25 = .ok (.ireturn, 1) := by decide +kernel
theorem dX5_readItem_26 : decode cX5_readItem 26 = .ok (.iconst 0, 1) := by decide +kernel
theorem dX5_readItem_27 : decode cX5_readItem 27 = .ok (.istore 4, 2) := by decide +kernel
theorem dX5_readItem_29 : decode cX5_readItem 29 = .ok (.iload 4, 2) := by decide +kernel
theorem dX5_readItem_31 : decode cX5_readItem 31 = .ok (.iload_n 3, 1) := by decide +kernel
theorem dX5_readItem_32 : decode cX5_readItem 32 = .ok (.if_icmp .ge 57, 3) := by decide +kernel
theorem dX5_readItem_35 : decode cX5_readItem 35 = .ok (.iload 4, 2) := by decide +kernel
theorem dX5_readItem_37 : decode cX5_readItem 37 = .ok (.aload_n 0, 1) := by decide +kernel
theorem dX5_readItem_38 : decode cX5_readItem 38 = .ok (.getfield 15, 3) := by decide +kernel
theorem dX5_readItem_41 : decode cX5_readItem 41 = .ok (.arraylength, 1) := by decide +kernel
theorem dX5_readItem_42 : decode cX5_readItem 42 = .ok (.if_icmp .ge 47, 3) := by decide +kernel
theorem dX5_readItem_45 : decode cX5_readItem 45 = .ok (.aload_n 0, 1) := by decide +kernel
theorem dX5_readItem_46 : decode cX5_readItem 46 = .ok (.getfield 15, 3) := by decide +kernel
theorem dX5_readItem_49 : decode cX5_readItem 49 = .ok (.iload 4, 2) := by decide +kernel
theorem dX5_readItem_51 : decode cX5_readItem 51 = .ok (.aload_n 0, 1) := by decide +kernel
theorem dX5_readItem_52 : decode cX5_readItem 52 = .ok (.iload 4, 2) := by decide +kernel
theorem dX5_readItem_54 : decode cX5_readItem 54 = .ok (.iconst 1, 1) := by decide +kernel
theorem dX5_readItem_55 : decode cX5_readItem 55 = .ok (.iadd, 1) := by decide +kernel
theorem dX5_readItem_56 : decode cX5_readItem 56 = .ok (.iload_n 3, 1) := by decide +kernel
theorem dX5_readItem_57 : decode cX5_readItem 57 = .ok (.if_icmp .ge 8, 3) := by decide +kernel
theorem dX5_readItem_60 : decode cX5_readItem 60 = .ok (.bipush 44, 2) := by decide +kernel
theorem dX5_readItem_62 : decode cX5_readItem 62 = .ok (.goto 5, 3) := by decide +kernel
theorem dX5_readItem_65 : decode cX5_readItem 65 = .ok (.bipush 59, 2) := by decide +kernel
theorem dX5_readItem_67 : decode cX5_readItem 67 = .ok (.invokevirtual 43, 3) := by decide +kernel
theorem dX5_readItem_70 : decode cX5_readItem 70 = .ok (.iastore, 1) := by decide +kernel
theorem dX5_readItem_71 : decode cX5_readItem 71 = .ok (.aload_n 0, 1) := by decide +kernel
theorem dX5_readItem_72 : decode cX5_readItem 72 = .ok (.getfield 15, 3) := by decide +kernel
theorem dX5_readItem_75 : decode cX5_readItem 75 = .ok (.iload 4, 2) := by decide +kernel
theorem dX5_readItem_77 : decode cX5_readItem 77 = .ok (.iaload, 1) := by decide +kernel
theorem dX5_readItem_78 : decode cX5_readItem 78 = .ok (.ifCond .ge 5, 3) := by decide +kernel
theorem dX5_readItem_81 : decode cX5_readItem 81 = .ok (.iconst 0, 1) := by decide +kernel
theorem dX5_readItem_82 : decode cX5_readItem 82 = .ok (.ireturn, 1) := by decide +kernel
theorem dX5_readItem_83 : decode cX5_readItem 83 = .ok (.iinc 4 1, 3) := by decide +kernel
theorem dX5_readItem_86 : decode cX5_readItem 86 = .ok (.goto (-57), 3) := by decide +kernel
theorem dX5_readItem_89 : decode cX5_readItem 89 = .ok (.aload_n 1, 1) := by decide +kernel
theorem dX5_readItem_90 : decode cX5_readItem 90 = .ok (.iload_n 2, 1) := by decide +kernel
theorem dX5_readItem_91 : decode cX5_readItem 91 = .ok (.aload_n 0, 1) := by decide +kernel
theorem dX5_readItem_92 : decode cX5_readItem 92 = .ok (.getfield 15, 3) := by decide +kernel
theorem dX5_readItem_95 : decode cX5_readItem 95 = .ok (.invokevirtual 46, 3) := by decide +kernel
theorem dX5_readItem_98 : decode cX5_readItem 98 = .ok (.ireturn, 1) := by decide +kernel
theorem dX5_numbersBehind_0 : decode cX5_numbersBehind 0 = .ok (.iload_n 0, 1) := by decide +kernel
theorem dX5_numbersBehind_1 : decode cX5_numbersBehind 1 = .ok (.lookupswitch 49 #[(100, 47), (103, 43), (113, 47), (114, 45)], 43) := by decide +kernel
theorem dX5_numbersBehind_44 : decode cX5_numbersBehind 44 = .ok (.iconst 5, 1) := by decide +kernel
theorem dX5_numbersBehind_45 : decode cX5_numbersBehind 45 = .ok (.ireturn, 1) := by decide +kernel
theorem dX5_numbersBehind_46 : decode cX5_numbersBehind 46 = .ok (.iconst 2, 1) := by decide +kernel
theorem dX5_numbersBehind_47 : decode cX5_numbersBehind 47 = .ok (.ireturn, 1) := by decide +kernel
theorem dX5_numbersBehind_48 : decode cX5_numbersBehind 48 = .ok (.iconst 1, 1) := by decide +kernel
theorem dX5_numbersBehind_49 : decode cX5_numbersBehind 49 = .ok (.ireturn, 1) := by decide +kernel
theorem dX5_numbersBehind_50 : decode cX5_numbersBehind 50 = .ok (.iconst 0, 1) := by decide +kernel
theorem dX5_numbersBehind_51 : decode cX5_numbersBehind 51 = .ok (.ireturn, 1) := by decide +kernel
theorem dX5_readNumber_0 : decode cX5_readNumber 0 = .ok (.iconst 0, 1) := by decide +kernel
theorem dX5_readNumber_1 : decode cX5_readNumber 1 = .ok (.istore_n 2, 1) := by decide +kernel
theorem dX5_readNumber_2 : decode cX5_readNumber 2 = .ok (.iconst 0, 1) := by decide +kernel
theorem dX5_readNumber_3 : decode cX5_readNumber 3 = .ok (.istore_n 3, 1) := by decide +kernel
theorem dX5_readNumber_4 : decode cX5_readNumber 4 = .ok (.iload_n 3, 1) := by decide +kernel
theorem dX5_readNumber_5 : decode cX5_readNumber 5 = .ok (.iconst 2, 1) := by decide +kernel
theorem dX5_readNumber_6 : decode cX5_readNumber 6 = .ok (.if_icmp .ge 42, 3) := by decide +kernel
theorem dX5_readNumber_9 : decode cX5_readNumber 9 = .ok (.aload_n 0, 1) := by decide +kernel
theorem dX5_readNumber_10 : decode cX5_readNumber 10 = .ok (.invokevirtual 35, 3) := by decide +kernel
theorem dX5_readNumber_13 : decode cX5_readNumber 13 = .ok (.invokestatic 50, 3) := by decide +kernel
theorem dX5_readNumber_16 : decode cX5_readNumber 16 = .ok (.ifCond .eq 32, 3) := by decide +kernel
theorem dX5_readNumber_19 : decode cX5_readNumber 19 = .ok (.iload_n 2, 1) := by decide +kernel
theorem dX5_readNumber_20 : decode cX5_readNumber 20 = .ok (.bipush 10, 2) := by decide +kernel
theorem dX5_readNumber_22 : decode cX5_readNumber 22 = .ok (.imul, 1) := by decide +kernel
theorem dX5_readNumber_23 : decode cX5_readNumber 23 = .ok (.aload_n 0, 1) := by decide +kernel
theorem dX5_readNumber_24 : decode cX5_readNumber 24 = .ok (.invokevirtual 35, 3) := by decide +kernel
theorem dX5_readNumber_27 : decode cX5_readNumber 27 = .ok (.bipush 48, 2) := by decide +kernel
theorem dX5_readNumber_29 : decode cX5_readNumber 29 = .ok (.isub, 1) := by decide +kernel
theorem dX5_readNumber_30 : decode cX5_readNumber 30 = .ok (.iadd, 1) := by decide +kernel
theorem dX5_readNumber_31 : decode cX5_readNumber 31 = .ok (.istore_n 2, 1) := by decide +kernel
theorem dX5_readNumber_32 : decode cX5_readNumber 32 = .ok (.aload_n 0, 1) := by decide +kernel
theorem dX5_readNumber_33 : decode cX5_readNumber 33 = .ok (.dup, 1) := by decide +kernel
theorem dX5_readNumber_34 : decode cX5_readNumber 34 = .ok (.getfield 28, 3) := by decide +kernel
theorem dX5_readNumber_37 : decode cX5_readNumber 37 = .ok (.iconst 1, 1) := by decide +kernel
theorem dX5_readNumber_38 : decode cX5_readNumber 38 = .ok (.iadd, 1) := by decide +kernel
theorem dX5_readNumber_39 : decode cX5_readNumber 39 = .ok (.putfield 28, 3) := by decide +kernel
theorem dX5_readNumber_42 : decode cX5_readNumber 42 = .ok (.iinc 3 1, 3) := by decide +kernel
theorem dX5_readNumber_45 : decode cX5_readNumber 45 = .ok (.goto (-41), 3) := by decide +kernel
theorem dX5_readNumber_48 : decode cX5_readNumber 48 = .ok (.iload_n 3, 1) := by decide +kernel
theorem dX5_readNumber_49 : decode cX5_readNumber 49 = .ok (.ifCond .eq 11, 3) := by decide +kernel
theorem dX5_readNumber_52 : decode cX5_readNumber 52 = .ok (.aload_n 0, 1) := by decide +kernel
theorem dX5_readNumber_53 : decode cX5_readNumber 53 = .ok (.invokevirtual 35, 3) := by decide +kernel
theorem dX5_readNumber_56 : decode cX5_readNumber 56 = .ok (.iload_n 1, 1) := by decide +kernel
theorem dX5_readNumber_57 : decode cX5_readNumber 57 = .ok (.if_icmp .eq 5, 3) := by decide +kernel
theorem dX5_readNumber_60 : decode cX5_readNumber 60 = .ok (.iconst (-1), 1) := by decide +kernel
theorem dX5_readNumber_61 : decode cX5_readNumber 61 = .ok (.ireturn, 1) := by decide +kernel
theorem dX5_readNumber_62 : decode cX5_readNumber 62 = .ok (.aload_n 0, 1) := by decide +kernel
theorem dX5_readNumber_63 : decode cX5_readNumber 63 = .ok (.dup, 1) := by decide +kernel
theorem dX5_readNumber_64 : decode cX5_readNumber 64 = .ok (.getfield 28, 3) := by decide +kernel
theorem dX5_readNumber_67 : decode cX5_readNumber 67 = .ok (.iconst 1, 1) := by decide +kernel
theorem dX5_readNumber_68 : decode cX5_readNumber 68 = .ok (.iadd, 1) := by decide +kernel
theorem dX5_readNumber_69 : decode cX5_readNumber 69 = .ok (.putfield 28, 3) := by decide +kernel
theorem dX5_readNumber_72 : decode cX5_readNumber 72 = .ok (.iload_n 2, 1) := by decide +kernel
theorem dX5_readNumber_73 : decode cX5_readNumber 73 = .ok (.ireturn, 1) := by decide +kernel
theorem dX5_letterHere_0 : decode cX5_letterHere 0 = .ok (.aload_n 0, 1) := by decide +kernel
theorem dX5_letterHere_1 : decode cX5_letterHere 1 = .ok (.getfield 28, 3) := by decide +kernel
theorem dX5_letterHere_4 : decode cX5_letterHere 4 = .ok (.ifCond .lt 38, 3) := by decide +kernel
theorem dX5_letterHere_7 : decode cX5_letterHere 7 = .ok (.aload_n 0, 1) := by decide +kernel
theorem dX5_letterHere_8 : decode cX5_letterHere 8 = .ok (.getfield 28, 3) := by decide +kernel
theorem dX5_letterHere_11 : decode cX5_letterHere 11 = .ok (.aload_n 0, 1) := by decide +kernel
theorem dX5_letterHere_12 : decode cX5_letterHere 12 = .ok (.getfield 19, 3) := by decide +kernel
theorem dX5_letterHere_15 : decode cX5_letterHere 15 = .ok (.if_icmp .ge 27, 3) := by decide +kernel
theorem dX5_letterHere_18 : decode cX5_letterHere 18 = .ok (.aload_n 0, 1) := by decide +kernel
theorem dX5_letterHere_19 : decode cX5_letterHere 19 = .ok (.getfield 28, 3) := by decide +kernel
theorem dX5_letterHere_22 : decode cX5_letterHere 22 = .ok (.aload_n 0, 1) := by decide +kernel
theorem dX5_letterHere_23 : decode cX5_letterHere 23 = .ok (.getfield 9, 3) := by decide +kernel
theorem dX5_letterHere_26 : decode cX5_letterHere 26 = .ok (.arraylength, 1) := by decide +kernel
theorem dX5_letterHere_27 : decode cX5_letterHere 27 = .ok (.if_icmp .ge 15, 3) := by decide +kernel
theorem dX5_letterHere_30 : decode cX5_letterHere 30 = .ok (.aload_n 0, 1) := by decide +kernel
theorem dX5_letterHere_31 : decode cX5_letterHere 31 = .ok (.getfield 9, 3) := by decide +kernel
theorem dX5_letterHere_34 : decode cX5_letterHere 34 = .ok (.aload_n 0, 1) := by decide +kernel
theorem dX5_letterHere_35 : decode cX5_letterHere 35 = .ok (.getfield 28, 3) := by decide +kernel
theorem dX5_letterHere_38 : decode cX5_letterHere 38 = .ok (.caload, 1) := by decide +kernel
theorem dX5_letterHere_39 : decode cX5_letterHere 39 = .ok (.goto 4, 3) := by decide +kernel
theorem dX5_letterHere_42 : decode cX5_letterHere 42 = .ok (.iconst 0, 1) := by decide +kernel
theorem dX5_letterHere_43 : decode cX5_letterHere 43 = .ok (.ireturn, 1) := by decide +kernel
theorem dX5_isFigure_0 : decode cX5_isFigure 0 = .ok (.iload_n 0, 1) := by decide +kernel
theorem dX5_isFigure_1 : decode cX5_isFigure 1 = .ok (.bipush 48, 2) := by decide +kernel
theorem dX5_isFigure_3 : decode cX5_isFigure 3 = .ok (.if_icmp .lt 13, 3) := by decide +kernel
theorem dX5_isFigure_6 : decode cX5_isFigure 6 = .ok (.iload_n 0, 1) := by decide +kernel
theorem dX5_isFigure_7 : decode cX5_isFigure 7 = .ok (.bipush 57, 2) := by decide +kernel
theorem dX5_isFigure_9 : decode cX5_isFigure 9 = .ok (.if_icmp .gt 7, 3) := by decide +kernel
theorem dX5_isFigure_12 : decode cX5_isFigure 12 = .ok (.iconst 1, 1) := by decide +kernel
theorem dX5_isFigure_13 : decode cX5_isFigure 13 = .ok (.goto 4, 3) := by decide +kernel
theorem dX5_isFigure_16 : decode cX5_isFigure 16 = .ok (.iconst 0, 1) := by decide +kernel
theorem dX5_isFigure_17 : decode cX5_isFigure 17 = .ok (.ireturn, 1) := by decide +kernel
theorem dX6_init_0 : decode cX6_init 0 = .ok (.aload_n 0, 1) := by decide +kernel
theorem dX6_init_1 : decode cX6_init 1 = .ok (.invokespecial 3, 3) := by decide +kernel
theorem dX6_init_4 : decode cX6_init 4 = .ok (.aload_n 0, 1) := by decide +kernel
theorem dX6_init_5 : decode cX6_init 5 = .ok (.bipush 31, 2) := by decide +kernel
theorem dX6_init_7 : decode cX6_init 7 = .ok (.newarray .int, 2) := by decide +kernel
theorem dX6_init_9 : decode cX6_init 9 = .ok (.putfield 9, 3) := by decide +kernel
theorem dX6_init_12 : decode cX6_init 12 = .ok (.aload_n 0, 1) := by decide +kernel
theorem dX6_init_13 : decode cX6_init 13 = .ok (.bipush 31, 2) := by decide +kernel
theorem dX6_init_15 : decode cX6_init 15 = .ok (.newarray .int, 2) := by decide +kernel
theorem dX6_init_17 : decode cX6_init 17 = .ok (.putfield 15, 3) := by decide +kernel
theorem dX6_init_20 : decode cX6_init 20 = .ok (.return_, 1) := by decide +kernel
theorem dX6_want_0 : decode cX6_want 0 = .ok (.iload_n 1, 1) := by decide +kernel
theorem dX6_want_1 : decode cX6_want 1 = .ok (.istore 4, 2) := by decide +kernel
theorem dX6_want_3 : decode cX6_want 3 = .ok (.aload_n 0, 1) := by decide +kernel
theorem dX6_want_4 : decode cX6_want 4 = .ok (.getfield 18, 3) := by decide +kernel
theorem dX6_want_7 : decode cX6_want 7 = .ok (.ifCond .le 64, 3) := by decide +kernel
theorem dX6_want_10 : decode cX6_want 10 = .ok (.aload_n 0, 1) := by decide +kernel
theorem dX6_want_11 : decode cX6_want 11 = .ok (.getfield 18, 3) := by decide +kernel
theorem dX6_want_14 : decode cX6_want 14 = .ok (.aload_n 0, 1) := by decide +kernel
theorem dX6_want_15 : decode cX6_want 15 = .ok (.getfield 15, 3) := by decide +kernel
theorem dX6_want_18 : decode cX6_want 18 = .ok (.arraylength, 1) := by decide +kernel
theorem dX6_want_19 : decode cX6_want 19 = .ok (.if_icmp .gt 52, 3) := by decide +kernel
theorem dX6_want_22 : decode cX6_want 22 = .ok (.aload_n 0, 1) := by decide +kernel
theorem dX6_want_23 : decode cX6_want 23 = .ok (.getfield 15, 3) := by decide +kernel
theorem dX6_want_26 : decode cX6_want 26 = .ok (.aload_n 0, 1) := by decide +kernel
theorem dX6_want_27 : decode cX6_want 27 = .ok (.getfield 18, 3) := by decide +kernel
theorem dX6_want_30 : decode cX6_want 30 = .ok (.iconst 1, 1) := by decide +kernel
theorem dX6_want_31 : decode cX6_want 31 = .ok (.isub, 1) := by decide +kernel
theorem dX6_want_32 : decode cX6_want 32 = .ok (.iaload, 1) := by decide +kernel
theorem dX6_want_33 : decode cX6_want 33 = .ok (.iload 4, 2) := by decide +kernel
theorem dX6_want_35 : decode cX6_want 35 = .ok (.iload_n 3, 1) := by decide +kernel
theorem dX6_want_36 : decode cX6_want 36 = .ok (.invokestatic 22, 3) := by decide +kernel
theorem dX6_want_39 : decode cX6_want 39 = .ok (.ifCond .eq 32, 3) := by decide +kernel
theorem dX6_want_42 : decode cX6_want 42 = .ok (.aload_n 0, 1) := by decide +kernel
theorem dX6_want_43 : decode cX6_want 43 = .ok (.dup, 1) := by decide +kernel
theorem dX6_want_44 : decode cX6_want 44 = .ok (.getfield 18, 3) := by decide +kernel
theorem dX6_want_47 : decode cX6_want 47 = .ok (.iconst 1, 1) := by decide +kernel
theorem dX6_want_48 : decode cX6_want 48 = .ok (.isub, 1) := by decide +kernel
theorem dX6_want_49 : decode cX6_want 49 = .ok (.putfield 18, 3) := by decide +kernel
theorem dX6_want_52 : decode cX6_want 52 = .ok (.iload 4, 2) := by decide +kernel
theorem dX6_want_54 : decode cX6_want 54 = .ok (.aload_n 0, 1) := by decide +kernel
theorem dX6_want_55 : decode cX6_want 55 = .ok (.getfield 9, 3) := by decide +kernel
theorem dX6_want_58 : decode cX6_want 58 = .ok (.aload_n 0, 1) := by decide +kernel
theorem dX6_want_59 : decode cX6_want 59 = .ok (.getfield 18, 3) := by decide +kernel
theorem dX6_want_62 : decode cX6_want 62 = .ok (.iaload, 1) := by decide +kernel
theorem dX6_want_63 : decode cX6_want 63 = .ok (.invokestatic 26, 3) := by decide +kernel
theorem dX6_want_66 : decode cX6_want 66 = .ok (.istore 4, 2) := by decide +kernel
theorem dX6_want_68 : decode cX6_want 68 = .ok (.goto (-65), 3) := by decide +kernel
theorem dX6_want_71 : decode cX6_want 71 = .ok (.aload_n 0, 1) := by decide +kernel
theorem dX6_want_72 : decode cX6_want 72 = .ok (.getfield 18, 3) := by decide +kernel
theorem dX6_want_75 : decode cX6_want 75 = .ok (.ifCond .lt 46, 3) := by decide +kernel
theorem dX6_want_78 : decode cX6_want 78 = .ok (.aload_n 0, 1) := by decide +kernel
theorem dX6_want_79 : decode cX6_want 79 = .ok (.getfield 18, 3) := by decide +kernel
theorem dX6_want_82 : decode cX6_want 82 = .ok (.aload_n 0, 1) := by decide +kernel
theorem dX6_want_83 : decode cX6_want 83 = .ok (.getfield 9, 3) := by decide +kernel
theorem dX6_want_86 : decode cX6_want 86 = .ok (.arraylength, 1) := by decide +kernel
theorem dX6_want_87 : decode cX6_want 87 = .ok (.if_icmp .ge 34, 3) := by decide +kernel
theorem dX6_want_90 : decode cX6_want 90 = .ok (.aload_n 0, 1) := by decide +kernel
theorem dX6_want_91 : decode cX6_want 91 = .ok (.getfield 9, 3) := by decide +kernel
theorem dX6_want_94 : decode cX6_want 94 = .ok (.aload_n 0, 1) := by decide +kernel
theorem dX6_want_95 : decode cX6_want 95 = .ok (.getfield 18, 3) := by decide +kernel
theorem dX6_want_98 : decode cX6_want 98 = .ok (.iload 4, 2) := by decide +kernel
theorem dX6_want_100 : decode cX6_want 100 = .ok (.iastore, 1) := by decide +kernel
theorem dX6_want_101 : decode cX6_want 101 = .ok (.aload_n 0, 1) := by decide +kernel
theorem dX6_want_102 : decode cX6_want 102 = .ok (.getfield 15, 3) := by decide +kernel
theorem dX6_want_105 : decode cX6_want 105 = .ok (.aload_n 0, 1) := by decide +kernel
theorem dX6_want_106 : decode cX6_want 106 = .ok (.getfield 18, 3) := by decide +kernel
theorem dX6_want_109 : decode cX6_want 109 = .ok (.iload_n 2, 1) := by decide +kernel
theorem dX6_want_110 : decode cX6_want 110 = .ok (.iastore, 1) := by decide +kernel
theorem dX6_want_111 : decode cX6_want 111 = .ok (.aload_n 0, 1) := by decide +kernel
theorem dX6_want_112 : decode cX6_want 112 = .ok (.dup, 1) := by decide +kernel
theorem dX6_want_113 : decode cX6_want 113 = .ok (.getfield 18, 3) := by decide +kernel
theorem dX6_want_116 : decode cX6_want 116 = .ok (.iconst 1, 1) := by decide +kernel
theorem dX6_want_117 : decode cX6_want 117 = .ok (.iadd, 1) := by decide +kernel
theorem dX6_want_118 : decode cX6_want 118 = .ok (.putfield 18, 3) := by decide +kernel
theorem dX6_want_121 : decode cX6_want 121 = .ok (.return_, 1) := by decide +kernel
theorem dX6_isNear_0 : decode cX6_isNear 0 = .ok (.iload_n 1, 1) := by decide +kernel
theorem dX6_isNear_1 : decode cX6_isNear 1 = .ok (.iload_n 0, 1) := by decide +kernel
theorem dX6_isNear_2 : decode cX6_isNear 2 = .ok (.isub, 1) := by decide +kernel
theorem dX6_isNear_3 : decode cX6_isNear 3 = .ok (.iconst 1, 1) := by decide +kernel
theorem dX6_isNear_4 : decode cX6_isNear 4 = .ok (.isub, 1) := by decide +kernel
theorem dX6_isNear_5 : decode cX6_isNear 5 = .ok (.istore_n 3, 1) := by decide +kernel
theorem dX6_isNear_6 : decode cX6_isNear 6 = .ok (.iload_n 3, 1) := by decide +kernel
theorem dX6_isNear_7 : decode cX6_isNear 7 = .ok (.ifCond .le 8, 3) := by decide +kernel
theorem dX6_isNear_10 : decode cX6_isNear 10 = .ok (.iload_n 3, 1) := by decide +kernel
theorem dX6_isNear_11 : decode cX6_isNear 11 = .ok (.iload_n 2, 1) := by decide +kernel
theorem dX6_isNear_12 : decode cX6_isNear 12 = .ok (.if_icmp .ge 7, 3) := by decide +kernel
theorem dX6_isNear_15 : decode cX6_isNear 15 = .ok (.iconst 1, 1) := by decide +kernel
theorem dX6_isNear_16 : decode cX6_isNear 16 = .ok (.goto 4, 3) := by decide +kernel
theorem dX6_isNear_19 : decode cX6_isNear 19 = .ok (.iconst 0, 1) := by decide +kernel
theorem dX6_isNear_20 : decode cX6_isNear 20 = .ok (.ireturn, 1) := by decide +kernel
theorem dX6_isOpenWithin_0 : decode cX6_isOpenWithin 0 = .ok (.iconst 0, 1) := by decide +kernel
theorem dX6_isOpenWithin_1 : decode cX6_isOpenWithin 1 = .ok (.istore_n 3, 1) := by decide +kernel
theorem dX6_isOpenWithin_2 : decode cX6_isOpenWithin 2 = .ok (.iload_n 3, 1) := by decide +kernel
theorem dX6_isOpenWithin_3 : decode cX6_isOpenWithin 3 = .ok (.aload_n 0, 1) := by decide +kernel
theorem dX6_isOpenWithin_4 : decode cX6_isOpenWithin 4 = .ok (.getfield 18, 3) := by decide +kernel
theorem dX6_isOpenWithin_7 : decode cX6_isOpenWithin 7 = .ok (.if_icmp .ge 40, 3) := by decide +kernel
theorem dX6_isOpenWithin_10 : decode cX6_isOpenWithin 10 = .ok (.iload_n 3, 1) := by decide +kernel
theorem dX6_isOpenWithin_11 : decode cX6_isOpenWithin 11 = .ok (.aload_n 0, 1) := by decide +kernel
theorem dX6_isOpenWithin_12 : decode cX6_isOpenWithin 12 = .ok (.getfield 9, 3) := by decide +kernel
theorem dX6_isOpenWithin_15 : decode cX6_isOpenWithin 15 = .ok (.arraylength, 1) := by decide +kernel
theorem dX6_isOpenWithin_16 : decode cX6_isOpenWithin 16 = .ok (.if_icmp .ge 31, 3) := by decide +kernel
theorem dX6_isOpenWithin_19 : decode cX6_isOpenWithin 19 = .ok (.aload_n 0, 1) := by decide +kernel
theorem dX6_isOpenWithin_20 : decode cX6_isOpenWithin 20 = .ok (.getfield 9, 3) := by decide +kernel
theorem dX6_isOpenWithin_23 : decode cX6_isOpenWithin 23 = .ok (.iload_n 3, 1) := by decide +kernel
theorem dX6_isOpenWithin_24 : decode cX6_isOpenWithin 24 = .ok (.iaload, 1) := by decide +kernel
theorem dX6_isOpenWithin_25 : decode cX6_isOpenWithin 25 = .ok (.iload_n 2, 1) := by decide +kernel
theorem dX6_isOpenWithin_26 : decode cX6_isOpenWithin 26 = .ok (.if_icmp .gt 15, 3) := by decide +kernel
theorem dX6_isOpenWithin_29 : decode cX6_isOpenWithin 29 = .ok (.aload_n 0, 1) := by decide +kernel
theorem dX6_isOpenWithin_30 : decode cX6_isOpenWithin 30 = .ok (.getfield 15, 3) := by decide +kernel
theorem dX6_isOpenWithin_33 : decode cX6_isOpenWithin 33 = .ok (.iload_n 3, 1) := by decide +kernel
theorem dX6_isOpenWithin_34 : decode cX6_isOpenWithin 34 = .ok (.iaload, 1) := by decide +kernel
theorem dX6_isOpenWithin_35 : decode cX6_isOpenWithin 35 = .ok (.iload_n 1, 1) := by decide +kernel
theorem dX6_isOpenWithin_36 : decode cX6_isOpenWithin 36 = .ok (.if_icmp .lt 5, 3) := by decide +kernel
theorem dX6_isOpenWithin_39 : decode cX6_isOpenWithin 39 = .ok (.iconst 1, 1) := by decide +kernel
theorem dX6_isOpenWithin_40 : decode cX6_isOpenWithin 40 = .ok (.ireturn, 1) := by decide +kernel
theorem dX6_isOpenWithin_41 : decode cX6_isOpenWithin 41 = .ok (.iinc 3 1, 3) := by decide +kernel
theorem dX6_isOpenWithin_44 : decode cX6_isOpenWithin 44 = .ok (.goto (-42), 3) := by decide +kernel
theorem dX6_isOpenWithin_47 : decode cX6_isOpenWithin 47 = .ok (.iconst 0, 1) := by decide +kernel
theorem dX6_isOpenWithin_48 : decode cX6_isOpenWithin 48 = .ok (.ireturn, 1) := by decide +kernel
theorem dX6_ticksOpen_0 : decode cX6_ticksOpen 0 = .ok (.iconst 0, 1) := by decide +kernel
theorem dX6_ticksOpen_1 : decode cX6_ticksOpen 1 = .ok (.istore_n 1, 1) := by decide +kernel
theorem dX6_ticksOpen_2 : decode cX6_ticksOpen 2 = .ok (.iconst 0, 1) := by decide +kernel
theorem dX6_ticksOpen_3 : decode cX6_ticksOpen 3 = .ok (.istore_n 2, 1) := by decide +kernel
theorem dX6_ticksOpen_4 : decode cX6_ticksOpen 4 = .ok (.iload_n 2, 1) := by decide +kernel
theorem dX6_ticksOpen_5 : decode cX6_ticksOpen 5 = .ok (.aload_n 0, 1) := by decide +kernel
theorem dX6_ticksOpen_6 : decode cX6_ticksOpen 6 = .ok (.getfield 18, 3) := by decide +kernel
theorem dX6_ticksOpen_9 : decode cX6_ticksOpen 9 = .ok (.if_icmp .ge 36, 3) := by decide +kernel
theorem dX6_ticksOpen_12 : decode cX6_ticksOpen 12 = .ok (.iload_n 2, 1) := by decide +kernel
theorem dX6_ticksOpen_13 : decode cX6_ticksOpen 13 = .ok (.aload_n 0, 1) := by decide +kernel
theorem dX6_ticksOpen_14 : decode cX6_ticksOpen 14 = .ok (.getfield 9, 3) := by decide +kernel
theorem dX6_ticksOpen_17 : decode cX6_ticksOpen 17 = .ok (.arraylength, 1) := by decide +kernel
theorem dX6_ticksOpen_18 : decode cX6_ticksOpen 18 = .ok (.if_icmp .ge 27, 3) := by decide +kernel
theorem dX6_ticksOpen_21 : decode cX6_ticksOpen 21 = .ok (.iload_n 1, 1) := by decide +kernel
theorem dX6_ticksOpen_22 : decode cX6_ticksOpen 22 = .ok (.aload_n 0, 1) := by decide +kernel
theorem dX6_ticksOpen_23 : decode cX6_ticksOpen 23 = .ok (.getfield 15, 3) := by decide +kernel
theorem dX6_ticksOpen_26 : decode cX6_ticksOpen 26 = .ok (.iload_n 2, 1) := by decide +kernel
theorem dX6_ticksOpen_27 : decode cX6_ticksOpen 27 = .ok (.iaload, 1) := by decide +kernel
theorem dX6_ticksOpen_28 : decode cX6_ticksOpen 28 = .ok (.aload_n 0, 1) := by decide +kernel
theorem dX6_ticksOpen_29 : decode cX6_ticksOpen 29 = .ok (.getfield 9, 3) := by decide +kernel
theorem dX6_ticksOpen_32 : decode cX6_ticksOpen 32 = .ok (.iload_n 2, 1) := by decide +kernel
theorem dX6_ticksOpen_33 : decode cX6_ticksOpen 33 = .ok (.iaload, 1) := by decide +kernel
theorem dX6_ticksOpen_34 : decode cX6_ticksOpen 34 = .ok (.isub, 1) := by decide +kernel
theorem dX6_ticksOpen_35 : decode cX6_ticksOpen 35 = .ok (.iconst 1, 1) := by decide +kernel
theorem dX6_ticksOpen_36 : decode cX6_ticksOpen 36 = .ok (.iadd, 1) := by decide +kernel
theorem dX6_ticksOpen_37 : decode cX6_ticksOpen 37 = .ok (.iadd, 1) := by decide +kernel
theorem dX6_ticksOpen_38 : decode cX6_ticksOpen 38 = .ok (.istore_n 1, 1) := by decide +kernel
theorem dX6_ticksOpen_39 : decode cX6_ticksOpen 39 = .ok (.iinc 2 1, 3) := by decide +kernel
theorem dX6_ticksOpen_42 : decode cX6_ticksOpen 42 = .ok (.goto (-38), 3) := by decide +kernel
theorem dX6_ticksOpen_45 : decode cX6_ticksOpen 45 = .ok (.iload_n 1, 1) := by decide +kernel
theorem dX6_ticksOpen_46 : decode cX6_ticksOpen 46 = .ok (.ireturn, 1) := by decide +kernel
theorem dX7_init_0 : decode cX7_init 0 = .ok (.aload_n 0, 1) := by decide +kernel
theorem dX7_init_1 : decode cX7_init 1 = .ok (.invokespecial 3, 3) := by decide +kernel
theorem dX7_init_4 : decode cX7_init 4 = .ok (.aload_n 0, 1) := by decide +kernel
theorem dX7_init_5 : decode cX7_init 5 = .ok (.bipush 31, 2) := by decide +kernel
theorem dX7_init_7 : decode cX7_init 7 = .ok (.newarray .int, 2) := by decide +kernel
theorem dX7_init_9 : decode cX7_init 9 = .ok (.putfield 9, 3) := by decide +kernel
theorem dX7_init_12 : decode cX7_init 12 = .ok (.aload_n 0, 1) := by decide +kernel
theorem dX7_init_13 : decode cX7_init 13 = .ok (.bipush 31, 2) := by decide +kernel
theorem dX7_init_15 : decode cX7_init 15 = .ok (.newarray .boolean, 2) := by decide +kernel
theorem dX7_init_17 : decode cX7_init 17 = .ok (.putfield 15, 3) := by decide +kernel
theorem dX7_init_20 : decode cX7_init 20 = .ok (.aload_n 0, 1) := by decide +kernel
theorem dX7_init_21 : decode cX7_init 21 = .ok (.bipush 16, 2) := by decide +kernel
theorem dX7_init_23 : decode cX7_init 23 = .ok (.anewarray 19, 3) := by decide +kernel
theorem dX7_init_26 : decode cX7_init 26 = .ok (.putfield 21, 3) := by decide +kernel
theorem dX7_init_29 : decode cX7_init 29 = .ok (.iconst 0, 1) := by decide +kernel
theorem dX7_init_30 : decode cX7_init 30 = .ok (.istore_n 1, 1) := by decide +kernel
theorem dX7_init_31 : decode cX7_init 31 = .ok (.iload_n 1, 1) := by decide +kernel
theorem dX7_init_32 : decode cX7_init 32 = .ok (.aload_n 0, 1) := by decide +kernel
theorem dX7_init_33 : decode cX7_init 33 = .ok (.getfield 21, 3) := by decide +kernel
theorem dX7_init_36 : decode cX7_init 36 = .ok (.arraylength, 1) := by decide +kernel
theorem dX7_init_37 : decode cX7_init 37 = .ok (.if_icmp .ge 22, 3) := by decide +kernel
theorem dX7_init_40 : decode cX7_init 40 = .ok (.aload_n 0, 1) := by decide +kernel
theorem dX7_init_41 : decode cX7_init 41 = .ok (.getfield 21, 3) := by decide +kernel
theorem dX7_init_44 : decode cX7_init 44 = .ok (.iload_n 1, 1) := by decide +kernel
theorem dX7_init_45 : decode cX7_init 45 = .ok (.new 19, 3) := by decide +kernel
theorem dX7_init_48 : decode cX7_init 48 = .ok (.dup, 1) := by decide +kernel
theorem dX7_init_49 : decode cX7_init 49 = .ok (.invokespecial 25, 3) := by decide +kernel
theorem dX7_init_52 : decode cX7_init 52 = .ok (.aastore, 1) := by decide +kernel
theorem dX7_init_53 : decode cX7_init 53 = .ok (.iinc 1 1, 3) := by decide +kernel
theorem dX7_init_56 : decode cX7_init 56 = .ok (.goto (-25), 3) := by decide +kernel
theorem dX7_init_59 : decode cX7_init 59 = .ok (.return_, 1) := by decide +kernel
theorem dX7_judgeAll_0 : decode cX7_judgeAll 0 = .ok (.iconst 0, 1) := by decide +kernel
theorem dX7_judgeAll_1 : decode cX7_judgeAll 1 = .ok (.istore 4, 2) := by decide +kernel
theorem dX7_judgeAll_3 : decode cX7_judgeAll 3 = .ok (.iload 4, 2) := by decide +kernel
theorem dX7_judgeAll_5 : decode cX7_judgeAll 5 = .ok (.aload_n 0, 1) := by decide +kernel
theorem dX7_judgeAll_6 : decode cX7_judgeAll 6 = .ok (.getfield 21, 3) := by decide +kernel
theorem dX7_judgeAll_9 : decode cX7_judgeAll 9 = .ok (.arraylength, 1) := by decide +kernel
theorem dX7_judgeAll_10 : decode cX7_judgeAll 10 = .ok (.if_icmp .ge 20, 3) := by decide +kernel
theorem dX7_judgeAll_13 : decode cX7_judgeAll 13 = .ok (.aload_n 0, 1) := by decide +kernel
theorem dX7_judgeAll_14 : decode cX7_judgeAll 14 = .ok (.getfield 21, 3) := by decide +kernel
theorem dX7_judgeAll_17 : decode cX7_judgeAll 17 = .ok (.iload 4, 2) := by decide +kernel
theorem dX7_judgeAll_19 : decode cX7_judgeAll 19 = .ok (.aaload, 1) := by decide +kernel
theorem dX7_judgeAll_20 : decode cX7_judgeAll 20 = .ok (.iconst 0, 1) := by decide +kernel
theorem dX7_judgeAll_21 : decode cX7_judgeAll 21 = .ok (.putfield 26, 3) := by decide +kernel
theorem dX7_judgeAll_24 : decode cX7_judgeAll 24 = .ok (.iinc 4 1, 3) := by decide +kernel
theorem dX7_judgeAll_27 : decode cX7_judgeAll 27 = .ok (.goto (-24), 3) := by decide +kernel
theorem dX7_judgeAll_30 : decode cX7_judgeAll 30 = .ok (.iconst 0, 1) := by decide +kernel
theorem dX7_judgeAll_31 : decode cX7_judgeAll 31 = .ok (.istore 4, 2) := by decide +kernel
theorem dX7_judgeAll_33 : decode cX7_judgeAll 33 = .ok (.iload 4, 2) := by decide +kernel
theorem dX7_judgeAll_35 : decode cX7_judgeAll 35 = .ok (.aload_n 3, 1) := by decide +kernel
theorem dX7_judgeAll_36 : decode cX7_judgeAll 36 = .ok (.invokestatic 30, 3) := by decide +kernel
theorem dX7_judgeAll_39 : decode cX7_judgeAll 39 = .ok (.if_icmp .ge 49, 3) := by decide +kernel
theorem dX7_judgeAll_42 : decode cX7_judgeAll 42 = .ok (.aload_n 0, 1) := by decide +kernel
theorem dX7_judgeAll_43 : decode cX7_judgeAll 43 = .ok (.getfield 9, 3) := by decide +kernel
theorem dX7_judgeAll_46 : decode cX7_judgeAll 46 = .ok (.iload 4, 2) := by decide +kernel
theorem dX7_judgeAll_48 : decode cX7_judgeAll 48 = .ok (.aload_n 1, 1) := by decide +kernel
theorem dX7_judgeAll_49 : decode cX7_judgeAll 49 = .ok (.aload_n 2, 1) := by decide +kernel
theorem dX7_judgeAll_50 : decode cX7_judgeAll 50 = .ok (.aload_n 3, 1) := by decide +kernel
theorem dX7_judgeAll_51 : decode cX7_judgeAll 51 = .ok (.getfield 34, 3) := by decide +kernel
theorem dX7_judgeAll_54 : decode cX7_judgeAll 54 = .ok (.iload 4, 2) := by decide +kernel
theorem dX7_judgeAll_56 : decode cX7_judgeAll 56 = .ok (.aaload, 1) := by decide +kernel
theorem dX7_judgeAll_57 : decode cX7_judgeAll 57 = .ok (.invokestatic 40, 3) := by decide +kernel
theorem dX7_judgeAll_60 : decode cX7_judgeAll 60 = .ok (.iastore, 1) := by decide +kernel
theorem dX7_judgeAll_61 : decode cX7_judgeAll 61 = .ok (.aload_n 0, 1) := by decide +kernel
theorem dX7_judgeAll_62 : decode cX7_judgeAll 62 = .ok (.iload 4, 2) := by decide +kernel
theorem dX7_judgeAll_64 : decode cX7_judgeAll 64 = .ok (.invokevirtual 44, 3) := by decide +kernel
theorem dX7_judgeAll_67 : decode cX7_judgeAll 67 = .ok (.ifCond .eq 15, 3) := by decide +kernel
theorem dX7_judgeAll_70 : decode cX7_judgeAll 70 = .ok (.aload_n 0, 1) := by decide +kernel
theorem dX7_judgeAll_71 : decode cX7_judgeAll 71 = .ok (.aload_n 1, 1) := by decide +kernel
theorem dX7_judgeAll_72 : decode cX7_judgeAll 72 = .ok (.aload_n 3, 1) := by decide +kernel
theorem dX7_judgeAll_73 : decode cX7_judgeAll 73 = .ok (.getfield 34, 3) := by decide +kernel
theorem dX7_judgeAll_76 : decode cX7_judgeAll 76 = .ok (.iload 4, 2) := by decide +kernel
theorem dX7_judgeAll_78 : decode cX7_judgeAll 78 = .ok (.aaload, 1) := by decide +kernel
theorem dX7_judgeAll_79 : decode cX7_judgeAll 79 = .ok (.invokevirtual 48, 3) := by decide +kernel
theorem dX7_judgeAll_82 : decode cX7_judgeAll 82 = .ok (.iinc 4 1, 3) := by decide +kernel
theorem dX7_judgeAll_85 : decode cX7_judgeAll 85 = .ok (.goto (-52), 3) := by decide +kernel
theorem dX7_judgeAll_88 : decode cX7_judgeAll 88 = .ok (.iconst 0, 1) := by decide +kernel
theorem dX7_judgeAll_89 : decode cX7_judgeAll 89 = .ok (.istore 4, 2) := by decide +kernel
theorem dX7_judgeAll_91 : decode cX7_judgeAll 91 = .ok (.iload 4, 2) := by decide +kernel
theorem dX7_judgeAll_93 : decode cX7_judgeAll 93 = .ok (.aload_n 3, 1) := by decide +kernel
theorem dX7_judgeAll_94 : decode cX7_judgeAll 94 = .ok (.invokestatic 30, 3) := by decide +kernel
theorem dX7_judgeAll_97 : decode cX7_judgeAll 97 = .ok (.if_icmp .ge 28, 3) := by decide +kernel
theorem dX7_judgeAll_100 : decode cX7_judgeAll 100 = .ok (.aload_n 0, 1) := by decide +kernel
theorem dX7_judgeAll_101 : decode cX7_judgeAll 101 = .ok (.getfield 15, 3) := by decide +kernel
theorem dX7_judgeAll_104 : decode cX7_judgeAll 104 = .ok (.iload 4, 2) := by decide +kernel
theorem dX7_judgeAll_106 : decode cX7_judgeAll 106 = .ok (.aload_n 0, 1) := by decide +kernel
theorem dX7_judgeAll_107 : decode cX7_judgeAll 107 = .ok (.aload_n 1, 1) := by decide +kernel
theorem dX7_judgeAll_108 : decode cX7_judgeAll 108 = .ok (.aload_n 3, 1) := by decide +kernel
theorem dX7_judgeAll_109 : decode cX7_judgeAll 109 = .ok (.getfield 34, 3) := by decide +kernel
theorem dX7_judgeAll_112 : decode cX7_judgeAll 112 = .ok (.iload 4, 2) := by decide +kernel
theorem dX7_judgeAll_114 : decode cX7_judgeAll 114 = .ok (.aaload, 1) := by decide +kernel
theorem dX7_judgeAll_115 : decode cX7_judgeAll 115 = .ok (.invokevirtual 52, 3) := by decide +kernel
theorem dX7_judgeAll_118 : decode cX7_judgeAll 118 = .ok (.bastore, 1) := by decide +kernel
theorem dX7_judgeAll_119 : decode cX7_judgeAll 119 = .ok (.iinc 4 1, 3) := by decide +kernel
theorem dX7_judgeAll_122 : decode cX7_judgeAll 122 = .ok (.goto (-31), 3) := by decide +kernel
theorem dX7_judgeAll_125 : decode cX7_judgeAll 125 = .ok (.return_, 1) := by decide +kernel
theorem dX7_endedOf_0 : decode cX7_endedOf 0 = .ok (.aload_n 0, 1) := by decide +kernel
theorem dX7_endedOf_1 : decode cX7_endedOf 1 = .ok (.getfield 56, 3) := by decide +kernel
theorem dX7_endedOf_4 : decode cX7_endedOf 4 = .ok (.bipush 31, 2) := by decide +kernel
theorem dX7_endedOf_6 : decode cX7_endedOf 6 = .ok (.invokestatic 59, 3) := by decide +kernel
theorem dX7_endedOf_9 : decode cX7_endedOf 9 = .ok (.ireturn, 1) := by decide +kernel
theorem dX7_firstRuleFor_0 : decode cX7_firstRuleFor 0 = .ok (.iconst 0, 1) := by decide +kernel
theorem dX7_firstRuleFor_1 : decode cX7_firstRuleFor 1 = .ok (.istore_n 3, 1) := by decide +kernel
theorem dX7_firstRuleFor_2 : decode cX7_firstRuleFor 2 = .ok (.iload_n 3, 1) := by decide +kernel
theorem dX7_firstRuleFor_3 : decode cX7_firstRuleFor 3 = .ok (.aload_n 0, 1) := by decide +kernel
theorem dX7_firstRuleFor_4 : decode cX7_firstRuleFor 4 = .ok (.getfield 65, 3) := by decide +kernel
theorem dX7_firstRuleFor_7 : decode cX7_firstRuleFor 7 = .ok (.if_icmp .ge 42, 3) := by decide +kernel
theorem dX7_firstRuleFor_10 : decode cX7_firstRuleFor 10 = .ok (.iload_n 3, 1) := by decide +kernel
theorem dX7_firstRuleFor_11 : decode cX7_firstRuleFor 11 = .ok (.aload_n 1, 1) := by decide +kernel
theorem dX7_firstRuleFor_12 : decode cX7_firstRuleFor 12 = .ok (.arraylength, 1) := by decide +kernel
theorem dX7_firstRuleFor_13 : decode cX7_firstRuleFor 13 = .ok (.if_icmp .ge 36, 3) := by decide +kernel
theorem dX7_firstRuleFor_16 : decode cX7_firstRuleFor 16 = .ok (.iload_n 3, 1) := by decide +kernel
theorem dX7_firstRuleFor_17 : decode cX7_firstRuleFor 17 = .ok (.aload_n 0, 1) := by decide +kernel
theorem dX7_firstRuleFor_18 : decode cX7_firstRuleFor 18 = .ok (.getfield 70, 3) := by decide +kernel
theorem dX7_firstRuleFor_21 : decode cX7_firstRuleFor 21 = .ok (.arraylength, 1) := by decide +kernel
theorem dX7_firstRuleFor_22 : decode cX7_firstRuleFor 22 = .ok (.if_icmp .ge 27, 3) := by decide +kernel
theorem dX7_firstRuleFor_25 : decode cX7_firstRuleFor 25 = .ok (.aload_n 2, 1) := by decide +kernel
theorem dX7_firstRuleFor_26 : decode cX7_firstRuleFor 26 = .ok (.aload_n 0, 1) := by decide +kernel
theorem dX7_firstRuleFor_27 : decode cX7_firstRuleFor 27 = .ok (.getfield 70, 3) := by decide +kernel
theorem dX7_firstRuleFor_30 : decode cX7_firstRuleFor 30 = .ok (.iload_n 3, 1) := by decide +kernel
theorem dX7_firstRuleFor_31 : decode cX7_firstRuleFor 31 = .ok (.iaload, 1) := by decide +kernel
theorem dX7_firstRuleFor_32 : decode cX7_firstRuleFor 32 = .ok (.invokevirtual 73, 3) := by decide +kernel
theorem dX7_firstRuleFor_35 : decode cX7_firstRuleFor 35 = .ok (.aload_n 1, 1) := by decide +kernel
theorem dX7_firstRuleFor_36 : decode cX7_firstRuleFor 36 = .ok (.iload_n 3, 1) := by decide +kernel
theorem dX7_firstRuleFor_37 : decode cX7_firstRuleFor 37 = .ok (.iaload, 1) := by decide +kernel
theorem dX7_firstRuleFor_38 : decode cX7_firstRuleFor 38 = .ok (.if_icmp .lt 5, 3) := by decide +kernel
theorem dX7_firstRuleFor_41 : decode cX7_firstRuleFor 41 = .ok (.iload_n 3, 1) := by decide +kernel
theorem dX7_firstRuleFor_42 : decode cX7_firstRuleFor 42 = .ok (.ireturn, 1) := by decide +kernel
theorem dX7_firstRuleFor_43 : decode cX7_firstRuleFor 43 = .ok (.iinc 3 1, 3) := by decide +kernel
theorem dX7_firstRuleFor_46 : decode cX7_firstRuleFor 46 = .ok (.goto (-44), 3) := by decide +kernel
theorem dX7_firstRuleFor_49 : decode cX7_firstRuleFor 49 = .ok (.bipush (-4), 2) := by decide +kernel
theorem dX7_firstRuleFor_51 : decode cX7_firstRuleFor 51 = .ok (.ireturn, 1) := by decide +kernel
theorem dX7_openFor_0 : decode cX7_openFor 0 = .ok (.aload_n 1, 1) := by decide +kernel
theorem dX7_openFor_1 : decode cX7_openFor 1 = .ok (.aload_n 2, 1) := by decide +kernel
theorem dX7_openFor_2 : decode cX7_openFor 2 = .ok (.invokevirtual 79, 3) := by decide +kernel
theorem dX7_openFor_5 : decode cX7_openFor 5 = .ok (.istore_n 3, 1) := by decide +kernel
theorem dX7_openFor_6 : decode cX7_openFor 6 = .ok (.iload_n 3, 1) := by decide +kernel
theorem dX7_openFor_7 : decode cX7_openFor 7 = .ok (.aload_n 2, 1) := by decide +kernel
theorem dX7_openFor_8 : decode cX7_openFor 8 = .ok (.invokevirtual 83, 3) := by decide +kernel
theorem dX7_openFor_11 : decode cX7_openFor 11 = .ok (.if_icmp .ge 4, 3) := by decide +kernel
theorem dX7_openFor_14 : decode cX7_openFor 14 = .ok (.return_, 1) := by decide +kernel
theorem dX7_openFor_15 : decode cX7_openFor 15 = .ok (.aload_n 1, 1) := by decide +kernel
theorem dX7_openFor_16 : decode cX7_openFor 16 = .ok (.aload_n 2, 1) := by decide +kernel
theorem dX7_openFor_17 : decode cX7_openFor 17 = .ok (.invokevirtual 87, 3) := by decide +kernel
theorem dX7_openFor_20 : decode cX7_openFor 20 = .ok (.aload_n 2, 1) := by decide +kernel
theorem dX7_openFor_21 : decode cX7_openFor 21 = .ok (.invokevirtual 83, 3) := by decide +kernel
theorem dX7_openFor_24 : decode cX7_openFor 24 = .ok (.invokestatic 90, 3) := by decide +kernel
theorem dX7_openFor_27 : decode cX7_openFor 27 = .ok (.istore 4, 2) := by decide +kernel
theorem dX7_openFor_29 : decode cX7_openFor 29 = .ok (.aload_n 1, 1) := by decide +kernel
theorem dX7_openFor_30 : decode cX7_openFor 30 = .ok (.aload_n 2, 1) := by decide +kernel
theorem dX7_openFor_31 : decode cX7_openFor 31 = .ok (.getfield 93, 3) := by decide +kernel
theorem dX7_openFor_34 : decode cX7_openFor 34 = .ok (.invokevirtual 96, 3) := by decide +kernel
theorem dX7_openFor_37 : decode cX7_openFor 37 = .ok (.bipush 15, 2) := by decide +kernel
theorem dX7_openFor_39 : decode cX7_openFor 39 = .ok (.invokestatic 59, 3) := by decide +kernel
theorem dX7_openFor_42 : decode cX7_openFor 42 = .ok (.istore 5, 2) := by decide +kernel
theorem dX7_openFor_44 : decode cX7_openFor 44 = .ok (.aload_n 1, 1) := by decide +kernel
theorem dX7_openFor_45 : decode cX7_openFor 45 = .ok (.aload_n 2, 1) := by decide +kernel
theorem dX7_openFor_46 : decode cX7_openFor 46 = .ok (.getfield 99, 3) := by decide +kernel
theorem dX7_openFor_49 : decode cX7_openFor 49 = .ok (.invokevirtual 96, 3) := by decide +kernel
theorem dX7_openFor_52 : decode cX7_openFor 52 = .ok (.iconst 0, 1) := by decide +kernel
theorem dX7_openFor_53 : decode cX7_openFor 53 = .ok (.invokestatic 90, 3) := by decide +kernel
theorem dX7_openFor_56 : decode cX7_openFor 56 = .ok (.istore 6, 2) := by decide +kernel
theorem dX7_openFor_58 : decode cX7_openFor 58 = .ok (.iload 6, 2) := by decide +kernel
theorem dX7_openFor_60 : decode cX7_openFor 60 = .ok (.iload 5, 2) := by decide +kernel
theorem dX7_openFor_62 : decode cX7_openFor 62 = .ok (.if_icmp .gt 26, 3) := by decide +kernel
theorem dX7_openFor_65 : decode cX7_openFor 65 = .ok (.aload_n 0, 1) := by decide +kernel
theorem dX7_openFor_66 : decode cX7_openFor 66 = .ok (.getfield 21, 3) := by decide +kernel
theorem dX7_openFor_69 : decode cX7_openFor 69 = .ok (.iload 6, 2) := by decide +kernel
theorem dX7_openFor_71 : decode cX7_openFor 71 = .ok (.aaload, 1) := by decide +kernel
theorem dX7_openFor_72 : decode cX7_openFor 72 = .ok (.iload 4, 2) := by decide +kernel
theorem dX7_openFor_74 : decode cX7_openFor 74 = .ok (.iload_n 3, 1) := by decide +kernel
theorem dX7_openFor_75 : decode cX7_openFor 75 = .ok (.aload_n 1, 1) := by decide +kernel
theorem dX7_openFor_76 : decode cX7_openFor 76 = .ok (.getfield 102, 3) := by decide +kernel
theorem dX7_openFor_79 : decode cX7_openFor 79 = .ok (.invokevirtual 105, 3) := by decide +kernel
theorem dX7_openFor_82 : decode cX7_openFor 82 = .ok (.iinc 6 1, 3) := by decide +kernel
theorem dX7_openFor_85 : decode cX7_openFor 85 = .ok (.goto (-27), 3) := by decide +kernel
theorem dX7_openFor_88 : decode cX7_openFor 88 = .ok (.return_, 1) := by decide +kernel
theorem dX7_isBlown_0 : decode cX7_isBlown 0 = .ok (.aload_n 1, 1) := by decide +kernel
theorem dX7_isBlown_1 : decode cX7_isBlown 1 = .ok (.aload_n 2, 1) := by decide +kernel
theorem dX7_isBlown_2 : decode cX7_isBlown 2 = .ok (.getfield 93, 3) := by decide +kernel
theorem dX7_isBlown_5 : decode cX7_isBlown 5 = .ok (.invokevirtual 96, 3) := by decide +kernel
theorem dX7_isBlown_8 : decode cX7_isBlown 8 = .ok (.bipush 15, 2) := by decide +kernel
theorem dX7_isBlown_10 : decode cX7_isBlown 10 = .ok (.invokestatic 59, 3) := by decide +kernel
theorem dX7_isBlown_13 : decode cX7_isBlown 13 = .ok (.istore_n 3, 1) := by decide +kernel
theorem dX7_isBlown_14 : decode cX7_isBlown 14 = .ok (.aload_n 1, 1) := by decide +kernel
theorem dX7_isBlown_15 : decode cX7_isBlown 15 = .ok (.aload_n 2, 1) := by decide +kernel
theorem dX7_isBlown_16 : decode cX7_isBlown 16 = .ok (.getfield 99, 3) := by decide +kernel
theorem dX7_isBlown_19 : decode cX7_isBlown 19 = .ok (.invokevirtual 96, 3) := by decide +kernel
theorem dX7_isBlown_22 : decode cX7_isBlown 22 = .ok (.iconst 0, 1) := by decide +kernel
theorem dX7_isBlown_23 : decode cX7_isBlown 23 = .ok (.invokestatic 90, 3) := by decide +kernel
theorem dX7_isBlown_26 : decode cX7_isBlown 26 = .ok (.istore 4, 2) := by decide +kernel
theorem dX7_isBlown_28 : decode cX7_isBlown 28 = .ok (.iload 4, 2) := by decide +kernel
theorem dX7_isBlown_30 : decode cX7_isBlown 30 = .ok (.iload_n 3, 1) := by decide +kernel
theorem dX7_isBlown_31 : decode cX7_isBlown 31 = .ok (.if_icmp .gt 42, 3) := by decide +kernel
theorem dX7_isBlown_34 : decode cX7_isBlown 34 = .ok (.aload_n 0, 1) := by decide +kernel
theorem dX7_isBlown_35 : decode cX7_isBlown 35 = .ok (.getfield 21, 3) := by decide +kernel
theorem dX7_isBlown_38 : decode cX7_isBlown 38 = .ok (.iload 4, 2) := by decide +kernel
theorem dX7_isBlown_40 : decode cX7_isBlown 40 = .ok (.aaload, 1) := by decide +kernel
theorem dX7_isBlown_41 : decode cX7_isBlown 41 = .ok (.aload_n 2, 1) := by decide +kernel
theorem dX7_isBlown_42 : decode cX7_isBlown 42 = .ok (.getfield 109, 3) := by decide +kernel
theorem dX7_isBlown_45 : decode cX7_isBlown 45 = .ok (.aload_n 1, 1) := by decide +kernel
theorem dX7_isBlown_46 : decode cX7_isBlown 46 = .ok (.getfield 112, 3) := by decide +kernel
theorem dX7_isBlown_49 : decode cX7_isBlown 49 = .ok (.iadd, 1) := by decide +kernel
theorem dX7_isBlown_50 : decode cX7_isBlown 50 = .ok (.aload_n 2, 1) := by decide +kernel
theorem dX7_isBlown_51 : decode cX7_isBlown 51 = .ok (.getfield 115, 3) := by decide +kernel
theorem dX7_isBlown_54 : decode cX7_isBlown 54 = .ok (.aload_n 1, 1) := by decide +kernel
theorem dX7_isBlown_55 : decode cX7_isBlown 55 = .ok (.getfield 112, 3) := by decide +kernel
theorem dX7_isBlown_58 : decode cX7_isBlown 58 = .ok (.iadd, 1) := by decide +kernel
theorem dX7_isBlown_59 : decode cX7_isBlown 59 = .ok (.invokevirtual 118, 3) := by decide +kernel
theorem dX7_isBlown_62 : decode cX7_isBlown 62 = .ok (.ifCond .eq 5, 3) := by decide +kernel
theorem dX7_isBlown_65 : decode cX7_isBlown 65 = .ok (.iconst 1, 1) := by decide +kernel
theorem dX7_isBlown_66 : decode cX7_isBlown 66 = .ok (.ireturn, 1) := by decide +kernel
theorem dX7_isBlown_67 : decode cX7_isBlown 67 = .ok (.iinc 4 1, 3) := by decide +kernel
theorem dX7_isBlown_70 : decode cX7_isBlown 70 = .ok (.goto (-42), 3) := by decide +kernel
theorem dX7_isBlown_73 : decode cX7_isBlown 73 = .ok (.iconst 0, 1) := by decide +kernel
theorem dX7_isBlown_74 : decode cX7_isBlown 74 = .ok (.ireturn, 1) := by decide +kernel
theorem dX7_isBad_0 : decode cX7_isBad 0 = .ok (.iload_n 1, 1) := by decide +kernel
theorem dX7_isBad_1 : decode cX7_isBad 1 = .ok (.ifCond .lt 27, 3) := by decide +kernel
theorem dX7_isBad_4 : decode cX7_isBad 4 = .ok (.iload_n 1, 1) := by decide +kernel
theorem dX7_isBad_5 : decode cX7_isBad 5 = .ok (.aload_n 0, 1) := by decide +kernel
theorem dX7_isBad_6 : decode cX7_isBad 6 = .ok (.getfield 9, 3) := by decide +kernel
theorem dX7_isBad_9 : decode cX7_isBad 9 = .ok (.arraylength, 1) := by decide +kernel
theorem dX7_isBad_10 : decode cX7_isBad 10 = .ok (.if_icmp .ge 18, 3) := by decide +kernel
theorem dX7_isBad_13 : decode cX7_isBad 13 = .ok (.aload_n 0, 1) := by decide +kernel
theorem dX7_isBad_14 : decode cX7_isBad 14 = .ok (.getfield 9, 3) := by decide +kernel
theorem dX7_isBad_17 : decode cX7_isBad 17 = .ok (.iload_n 1, 1) := by decide +kernel
theorem dX7_isBad_18 : decode cX7_isBad 18 = .ok (.iaload, 1) := by decide +kernel
theorem dX7_isBad_19 : decode cX7_isBad 19 = .ok (.bipush (-4), 2) := by decide +kernel
theorem dX7_isBad_21 : decode cX7_isBad 21 = .ok (.if_icmp .eq 7, 3) := by decide +kernel
theorem dX7_isBad_24 : decode cX7_isBad 24 = .ok (.iconst 1, 1) := by decide +kernel
theorem dX7_isBad_25 : decode cX7_isBad 25 = .ok (.goto 4, 3) := by decide +kernel
theorem dX7_isBad_28 : decode cX7_isBad 28 = .ok (.iconst 0, 1) := by decide +kernel
theorem dX7_isBad_29 : decode cX7_isBad 29 = .ok (.ireturn, 1) := by decide +kernel
theorem dX7_worth_0 : decode cX7_worth 0 = .ok (.iconst 0, 1) := by decide +kernel
theorem dX7_worth_1 : decode cX7_worth 1 = .ok (.istore_n 2, 1) := by decide +kernel
theorem dX7_worth_2 : decode cX7_worth 2 = .ok (.iconst 0, 1) := by decide +kernel
theorem dX7_worth_3 : decode cX7_worth 3 = .ok (.istore_n 3, 1) := by decide +kernel
theorem dX7_worth_4 : decode cX7_worth 4 = .ok (.iload_n 3, 1) := by decide +kernel
theorem dX7_worth_5 : decode cX7_worth 5 = .ok (.aload_n 1, 1) := by decide +kernel
theorem dX7_worth_6 : decode cX7_worth 6 = .ok (.invokestatic 30, 3) := by decide +kernel
theorem dX7_worth_9 : decode cX7_worth 9 = .ok (.if_icmp .ge 34, 3) := by decide +kernel
theorem dX7_worth_12 : decode cX7_worth 12 = .ok (.iload_n 2, 1) := by decide +kernel
theorem dX7_worth_13 : decode cX7_worth 13 = .ok (.aload_n 0, 1) := by decide +kernel
theorem dX7_worth_14 : decode cX7_worth 14 = .ok (.getfield 15, 3) := by decide +kernel
theorem dX7_worth_17 : decode cX7_worth 17 = .ok (.iload_n 3, 1) := by decide +kernel
theorem dX7_worth_18 : decode cX7_worth 18 = .ok (.baload, 1) := by decide +kernel
theorem dX7_worth_19 : decode cX7_worth 19 = .ok (.ifCond .eq 7, 3) := by decide +kernel
theorem dX7_worth_22 : decode cX7_worth 22 = .ok (.iconst 0, 1) := by decide +kernel
theorem dX7_worth_23 : decode cX7_worth 23 = .ok (.goto 12, 3) := by decide +kernel
theorem dX7_worth_26 : decode cX7_worth 26 = .ok (.aload_n 1, 1) := by decide +kernel
theorem dX7_worth_27 : decode cX7_worth 27 = .ok (.getfield 34, 3) := by decide +kernel
theorem dX7_worth_30 : decode cX7_worth 30 = .ok (.iload_n 3, 1) := by decide +kernel
theorem dX7_worth_31 : decode cX7_worth 31 = .ok (.aaload, 1) := by decide +kernel
theorem dX7_worth_32 : decode cX7_worth 32 = .ok (.invokevirtual 122, 3) := by decide +kernel
theorem dX7_worth_35 : decode cX7_worth 35 = .ok (.iadd, 1) := by decide +kernel
theorem dX7_worth_36 : decode cX7_worth 36 = .ok (.istore_n 2, 1) := by decide +kernel
theorem dX7_worth_37 : decode cX7_worth 37 = .ok (.iinc 3 1, 3) := by decide +kernel
theorem dX7_worth_40 : decode cX7_worth 40 = .ok (.goto (-36), 3) := by decide +kernel
theorem dX7_worth_43 : decode cX7_worth 43 = .ok (.iload_n 2, 1) := by decide +kernel
theorem dX7_worth_44 : decode cX7_worth 44 = .ok (.ireturn, 1) := by decide +kernel
theorem dX7_howMany_0 : decode cX7_howMany 0 = .ok (.iconst 0, 1) := by decide +kernel
theorem dX7_howMany_1 : decode cX7_howMany 1 = .ok (.istore 4, 2) := by decide +kernel
theorem dX7_howMany_3 : decode cX7_howMany 3 = .ok (.iconst 0, 1) := by decide +kernel
theorem dX7_howMany_4 : decode cX7_howMany 4 = .ok (.istore 5, 2) := by decide +kernel
theorem dX7_howMany_6 : decode cX7_howMany 6 = .ok (.iload 5, 2) := by decide +kernel
theorem dX7_howMany_8 : decode cX7_howMany 8 = .ok (.aload_n 2, 1) := by decide +kernel
theorem dX7_howMany_9 : decode cX7_howMany 9 = .ok (.invokestatic 30, 3) := by decide +kernel
theorem dX7_howMany_12 : decode cX7_howMany 12 = .ok (.if_icmp .ge 31, 3) := by decide +kernel
theorem dX7_howMany_15 : decode cX7_howMany 15 = .ok (.iload 4, 2) := by decide +kernel
theorem dX7_howMany_17 : decode cX7_howMany 17 = .ok (.aload_n 0, 1) := by decide +kernel
theorem dX7_howMany_18 : decode cX7_howMany 18 = .ok (.aload_n 1, 1) := by decide +kernel
theorem dX7_howMany_19 : decode cX7_howMany 19 = .ok (.aload_n 2, 1) := by decide +kernel
theorem dX7_howMany_20 : decode cX7_howMany 20 = .ok (.iload 5, 2) := by decide +kernel
theorem dX7_howMany_22 : decode cX7_howMany 22 = .ok (.iload_n 3, 1) := by decide +kernel
theorem dX7_howMany_23 : decode cX7_howMany 23 = .ok (.invokevirtual 125, 3) := by decide +kernel
theorem dX7_howMany_26 : decode cX7_howMany 26 = .ok (.ifCond .eq 7, 3) := by decide +kernel
theorem dX7_howMany_29 : decode cX7_howMany 29 = .ok (.iconst 1, 1) := by decide +kernel
theorem dX7_howMany_30 : decode cX7_howMany 30 = .ok (.goto 4, 3) := by decide +kernel
theorem dX7_howMany_33 : decode cX7_howMany 33 = .ok (.iconst 0, 1) := by decide +kernel
theorem dX7_howMany_34 : decode cX7_howMany 34 = .ok (.iadd, 1) := by decide +kernel
theorem dX7_howMany_35 : decode cX7_howMany 35 = .ok (.istore 4, 2) := by decide +kernel
theorem dX7_howMany_37 : decode cX7_howMany 37 = .ok (.iinc 5 1, 3) := by decide +kernel
theorem dX7_howMany_40 : decode cX7_howMany 40 = .ok (.goto (-34), 3) := by decide +kernel
theorem dX7_howMany_43 : decode cX7_howMany 43 = .ok (.iload 4, 2) := by decide +kernel
theorem dX7_howMany_45 : decode cX7_howMany 45 = .ok (.ireturn, 1) := by decide +kernel
theorem dX7_isOneOf_0 : decode cX7_isOneOf 0 = .ok (.iload_n 3, 1) := by decide +kernel
theorem dX7_isOneOf_1 : decode cX7_isOneOf 1 = .ok (.ifCond .lt 9, 3) := by decide +kernel
theorem dX7_isOneOf_4 : decode cX7_isOneOf 4 = .ok (.iload_n 3, 1) := by decide +kernel
theorem dX7_isOneOf_5 : decode cX7_isOneOf 5 = .ok (.bipush 31, 2) := by decide +kernel
theorem dX7_isOneOf_7 : decode cX7_isOneOf 7 = .ok (.if_icmp .lt 5, 3) := by decide +kernel
theorem dX7_isOneOf_10 : decode cX7_isOneOf 10 = .ok (.iconst 0, 1) := by decide +kernel
theorem dX7_isOneOf_11 : decode cX7_isOneOf 11 = .ok (.ireturn, 1) := by decide +kernel
theorem dX7_isOneOf_12 : decode cX7_isOneOf 12 = .ok (.iload 4, 2) := by decide +kernel
theorem dX7_isOneOf_14 : decode cX7_isOneOf 14 = .ok (.tableswitch 120 5 9 #[34, 40, 67, 74, 97], 34) := by decide +kernel
theorem dX7_isOneOf_48 : decode cX7_isOneOf 48 = .ok (.aload_n 0, 1) := by decide +kernel
theorem dX7_isOneOf_49 : decode cX7_isOneOf 49 = .ok (.iload_n 3, 1) := by decide +kernel
theorem dX7_isOneOf_50 : decode cX7_isOneOf 50 = .ok (.invokevirtual 44, 3) := by decide +kernel
theorem dX7_isOneOf_53 : decode cX7_isOneOf 53 = .ok (.ireturn, 1) := by decide +kernel
theorem dX7_isOneOf_54 : decode cX7_isOneOf 54 = .ok (.aload_n 0, 1) := by decide +kernel
theorem dX7_isOneOf_55 : decode cX7_isOneOf 55 = .ok (.iload_n 3, 1) := by decide +kernel
theorem dX7_isOneOf_56 : decode cX7_isOneOf 56 = .ok (.invokevirtual 44, 3) := by decide +kernel
theorem dX7_isOneOf_59 : decode cX7_isOneOf 59 = .ok (.ifCond .eq 20, 3) := by decide +kernel
theorem dX7_isOneOf_62 : decode cX7_isOneOf 62 = .ok (.aload_n 1, 1) := by decide +kernel
theorem dX7_isOneOf_63 : decode cX7_isOneOf 63 = .ok (.aload_n 2, 1) := by decide +kernel
theorem dX7_isOneOf_64 : decode cX7_isOneOf 64 = .ok (.getfield 34, 3) := by decide +kernel
theorem dX7_isOneOf_67 : decode cX7_isOneOf 67 = .ok (.iload_n 3, 1) := by decide +kernel
theorem dX7_isOneOf_68 : decode cX7_isOneOf 68 = .ok (.aaload, 1) := by decide +kernel
theorem dX7_isOneOf_69 : decode cX7_isOneOf 69 = .ok (.invokevirtual 129, 3) := by decide +kernel
theorem dX7_isOneOf_72 : decode cX7_isOneOf 72 = .ok (.ifCond .eq 7, 3) := by decide +kernel
theorem dX7_isOneOf_75 : decode cX7_isOneOf 75 = .ok (.iconst 1, 1) := by decide +kernel
theorem dX7_isOneOf_76 : decode cX7_isOneOf 76 = .ok (.goto 4, 3) := by decide +kernel
theorem dX7_isOneOf_79 : decode cX7_isOneOf 79 = .ok (.iconst 0, 1) := by decide +kernel
theorem dX7_isOneOf_80 : decode cX7_isOneOf 80 = .ok (.ireturn, 1) := by decide +kernel
theorem dX7_isOneOf_81 : decode cX7_isOneOf 81 = .ok (.aload_n 0, 1) := by decide +kernel
theorem dX7_isOneOf_82 : decode cX7_isOneOf 82 = .ok (.getfield 15, 3) := by decide +kernel
theorem dX7_isOneOf_85 : decode cX7_isOneOf 85 = .ok (.iload_n 3, 1) := by decide +kernel
theorem dX7_isOneOf_86 : decode cX7_isOneOf 86 = .ok (.baload, 1) := by decide +kernel
theorem dX7_isOneOf_87 : decode cX7_isOneOf 87 = .ok (.ireturn, 1) := by decide +kernel
theorem dX7_isOneOf_88 : decode cX7_isOneOf 88 = .ok (.aload_n 0, 1) := by decide +kernel
theorem dX7_isOneOf_89 : decode cX7_isOneOf 89 = .ok (.iload_n 3, 1) := by decide +kernel
theorem dX7_isOneOf_90 : decode cX7_isOneOf 90 = .ok (.invokevirtual 44, 3) := by decide +kernel
theorem dX7_isOneOf_93 : decode cX7_isOneOf 93 = .ok (.ifCond .eq 16, 3) := by decide +kernel
theorem dX7_isOneOf_96 : decode cX7_isOneOf 96 = .ok (.aload_n 0, 1) := by decide +kernel
theorem dX7_isOneOf_97 : decode cX7_isOneOf 97 = .ok (.getfield 15, 3) := by decide +kernel
theorem dX7_isOneOf_100 : decode cX7_isOneOf 100 = .ok (.iload_n 3, 1) := by decide +kernel
theorem dX7_isOneOf_101 : decode cX7_isOneOf 101 = .ok (.baload, 1) := by decide +kernel
theorem dX7_isOneOf_102 : decode cX7_isOneOf 102 = .ok (.ifCond .ne 7, 3) := by decide +kernel
theorem dX7_isOneOf_105 : decode cX7_isOneOf 105 = .ok (.iconst 1, 1) := by decide +kernel
theorem dX7_isOneOf_106 : decode cX7_isOneOf 106 = .ok (.goto 4, 3) := by decide +kernel
theorem dX7_isOneOf_109 : decode cX7_isOneOf 109 = .ok (.iconst 0, 1) := by decide +kernel
theorem dX7_isOneOf_110 : decode cX7_isOneOf 110 = .ok (.ireturn, 1) := by decide +kernel
theorem dX7_isOneOf_111 : decode cX7_isOneOf 111 = .ok (.aload_n 0, 1) := by decide +kernel
theorem dX7_isOneOf_112 : decode cX7_isOneOf 112 = .ok (.iload_n 3, 1) := by decide +kernel
theorem dX7_isOneOf_113 : decode cX7_isOneOf 113 = .ok (.invokevirtual 44, 3) := by decide +kernel
theorem dX7_isOneOf_116 : decode cX7_isOneOf 116 = .ok (.ifCond .ne 16, 3) := by decide +kernel
theorem dX7_isOneOf_119 : decode cX7_isOneOf 119 = .ok (.aload_n 0, 1) := by decide +kernel
theorem dX7_isOneOf_120 : decode cX7_isOneOf 120 = .ok (.getfield 15, 3) := by decide +kernel
theorem dX7_isOneOf_123 : decode cX7_isOneOf 123 = .ok (.iload_n 3, 1) := by decide +kernel
theorem dX7_isOneOf_124 : decode cX7_isOneOf 124 = .ok (.baload, 1) := by decide +kernel
theorem dX7_isOneOf_125 : decode cX7_isOneOf 125 = .ok (.ifCond .eq 7, 3) := by decide +kernel
theorem dX7_isOneOf_128 : decode cX7_isOneOf 128 = .ok (.iconst 1, 1) := by decide +kernel
theorem dX7_isOneOf_129 : decode cX7_isOneOf 129 = .ok (.goto 4, 3) := by decide +kernel
theorem dX7_isOneOf_132 : decode cX7_isOneOf 132 = .ok (.iconst 0, 1) := by decide +kernel
theorem dX7_isOneOf_133 : decode cX7_isOneOf 133 = .ok (.ireturn, 1) := by decide +kernel
theorem dX7_isOneOf_134 : decode cX7_isOneOf 134 = .ok (.iconst 0, 1) := by decide +kernel
theorem dX7_isOneOf_135 : decode cX7_isOneOf 135 = .ok (.ireturn, 1) := by decide +kernel
theorem dX7_howManyBadBy_0 : decode cX7_howManyBadBy 0 = .ok (.iconst 0, 1) := by decide +kernel
theorem dX7_howManyBadBy_1 : decode cX7_howManyBadBy 1 = .ok (.istore_n 3, 1) := by decide +kernel
theorem dX7_howManyBadBy_2 : decode cX7_howManyBadBy 2 = .ok (.iconst 0, 1) := by decide +kernel
theorem dX7_howManyBadBy_3 : decode cX7_howManyBadBy 3 = .ok (.istore 4, 2) := by decide +kernel
theorem dX7_howManyBadBy_5 : decode cX7_howManyBadBy 5 = .ok (.iload 4, 2) := by decide +kernel
theorem dX7_howManyBadBy_7 : decode cX7_howManyBadBy 7 = .ok (.aload_n 1, 1) := by decide +kernel
theorem dX7_howManyBadBy_8 : decode cX7_howManyBadBy 8 = .ok (.invokestatic 30, 3) := by decide +kernel
theorem dX7_howManyBadBy_11 : decode cX7_howManyBadBy 11 = .ok (.if_icmp .ge 28, 3) := by decide +kernel
theorem dX7_howManyBadBy_14 : decode cX7_howManyBadBy 14 = .ok (.iload_n 3, 1) := by decide +kernel
theorem dX7_howManyBadBy_15 : decode cX7_howManyBadBy 15 = .ok (.aload_n 0, 1) := by decide +kernel
theorem dX7_howManyBadBy_16 : decode cX7_howManyBadBy 16 = .ok (.getfield 9, 3) := by decide +kernel
theorem dX7_howManyBadBy_19 : decode cX7_howManyBadBy 19 = .ok (.iload 4, 2) := by decide +kernel
theorem dX7_howManyBadBy_21 : decode cX7_howManyBadBy 21 = .ok (.iaload, 1) := by decide +kernel
theorem dX7_howManyBadBy_22 : decode cX7_howManyBadBy 22 = .ok (.iload_n 2, 1) := by decide +kernel
theorem dX7_howManyBadBy_23 : decode cX7_howManyBadBy 23 = .ok (.if_icmp .ne 7, 3) := by decide +kernel
theorem dX7_howManyBadBy_26 : decode cX7_howManyBadBy 26 = .ok (.iconst 1, 1) := by decide +kernel
theorem dX7_howManyBadBy_27 : decode cX7_howManyBadBy 27 = .ok (.goto 4, 3) := by decide +kernel
theorem dX7_howManyBadBy_30 : decode cX7_howManyBadBy 30 = .ok (.iconst 0, 1) := by decide +kernel
theorem dX7_howManyBadBy_31 : decode cX7_howManyBadBy 31 = .ok (.iadd, 1) := by decide +kernel
theorem dX7_howManyBadBy_32 : decode cX7_howManyBadBy 32 = .ok (.istore_n 3, 1) := by decide +kernel
theorem dX7_howManyBadBy_33 : decode cX7_howManyBadBy 33 = .ok (.iinc 4 1, 3) := by decide +kernel
theorem dX7_howManyBadBy_36 : decode cX7_howManyBadBy 36 = .ok (.goto (-31), 3) := by decide +kernel
theorem dX7_howManyBadBy_39 : decode cX7_howManyBadBy 39 = .ok (.iload_n 3, 1) := by decide +kernel
theorem dX7_howManyBadBy_40 : decode cX7_howManyBadBy 40 = .ok (.ireturn, 1) := by decide +kernel
theorem dX8_init_0 : decode cX8_init 0 = .ok (.aload_n 0, 1) := by decide +kernel
theorem dX8_init_1 : decode cX8_init 1 = .ok (.invokespecial 3, 3) := by decide +kernel
theorem dX8_init_4 : decode cX8_init 4 = .ok (.aload_n 0, 1) := by decide +kernel
theorem dX8_init_5 : decode cX8_init 5 = .ok (.new 9, 3) := by decide +kernel
theorem dX8_init_8 : decode cX8_init 8 = .ok (.dup, 1) := by decide +kernel
theorem dX8_init_9 : decode cX8_init 9 = .ok (.invokespecial 11, 3) := by decide +kernel
theorem dX8_init_12 : decode cX8_init 12 = .ok (.putfield 12, 3) := by decide +kernel
theorem dX8_init_15 : decode cX8_init 15 = .ok (.aload_n 0, 1) := by decide +kernel
theorem dX8_init_16 : decode cX8_init 16 = .ok (.new 16, 3) := by decide +kernel
theorem dX8_init_19 : decode cX8_init 19 = .ok (.dup, 1) := by decide +kernel
theorem dX8_init_20 : decode cX8_init 20 = .ok (.invokespecial 18, 3) := by decide +kernel
theorem dX8_init_23 : decode cX8_init 23 = .ok (.putfield 19, 3) := by decide +kernel
theorem dX8_init_26 : decode cX8_init 26 = .ok (.aload_n 0, 1) := by decide +kernel
theorem dX8_init_27 : decode cX8_init 27 = .ok (.new 23, 3) := by decide +kernel
theorem dX8_init_30 : decode cX8_init 30 = .ok (.dup, 1) := by decide +kernel
theorem dX8_init_31 : decode cX8_init 31 = .ok (.invokespecial 25, 3) := by decide +kernel
theorem dX8_init_34 : decode cX8_init 34 = .ok (.putfield 26, 3) := by decide +kernel
theorem dX8_init_37 : decode cX8_init 37 = .ok (.aload_n 0, 1) := by decide +kernel
theorem dX8_init_38 : decode cX8_init 38 = .ok (.new 30, 3) := by decide +kernel
theorem dX8_init_41 : decode cX8_init 41 = .ok (.dup, 1) := by decide +kernel
theorem dX8_init_42 : decode cX8_init 42 = .ok (.invokespecial 32, 3) := by decide +kernel
theorem dX8_init_45 : decode cX8_init 45 = .ok (.putfield 33, 3) := by decide +kernel
theorem dX8_init_48 : decode cX8_init 48 = .ok (.aload_n 0, 1) := by decide +kernel
theorem dX8_init_49 : decode cX8_init 49 = .ok (.new 37, 3) := by decide +kernel
theorem dX8_init_52 : decode cX8_init 52 = .ok (.dup, 1) := by decide +kernel
theorem dX8_init_53 : decode cX8_init 53 = .ok (.invokespecial 39, 3) := by decide +kernel
theorem dX8_init_56 : decode cX8_init 56 = .ok (.putfield 40, 3) := by decide +kernel
theorem dX8_init_59 : decode cX8_init 59 = .ok (.aload_n 0, 1) := by decide +kernel
theorem dX8_init_60 : decode cX8_init 60 = .ok (.new 37, 3) := by decide +kernel
theorem dX8_init_63 : decode cX8_init 63 = .ok (.dup, 1) := by decide +kernel
theorem dX8_init_64 : decode cX8_init 64 = .ok (.invokespecial 39, 3) := by decide +kernel
theorem dX8_init_67 : decode cX8_init 67 = .ok (.putfield 44, 3) := by decide +kernel
theorem dX8_init_70 : decode cX8_init 70 = .ok (.aload_n 0, 1) := by decide +kernel
theorem dX8_init_71 : decode cX8_init 71 = .ok (.iconst 4, 1) := by decide +kernel
theorem dX8_init_72 : decode cX8_init 72 = .ok (.newarray .int, 2) := by decide +kernel
theorem dX8_init_74 : decode cX8_init 74 = .ok (.putfield 47, 3) := by decide +kernel
theorem dX8_init_77 : decode cX8_init 77 = .ok (.aload_n 0, 1) := by decide +kernel
theorem dX8_init_78 : decode cX8_init 78 = .ok (.new 51, 3) := by decide +kernel
theorem dX8_init_81 : decode cX8_init 81 = .ok (.dup, 1) := by decide +kernel
theorem dX8_init_82 : decode cX8_init 82 = .ok (.invokespecial 53, 3) := by decide +kernel
theorem dX8_init_85 : decode cX8_init 85 = .ok (.putfield 54, 3) := by decide +kernel
theorem dX8_init_88 : decode cX8_init 88 = .ok (.aload_n 0, 1) := by decide +kernel
theorem dX8_init_89 : decode cX8_init 89 = .ok (.new 51, 3) := by decide +kernel
theorem dX8_init_92 : decode cX8_init 92 = .ok (.dup, 1) := by decide +kernel
theorem dX8_init_93 : decode cX8_init 93 = .ok (.invokespecial 53, 3) := by decide +kernel
theorem dX8_init_96 : decode cX8_init 96 = .ok (.putfield 58, 3) := by decide +kernel
theorem dX8_init_99 : decode cX8_init 99 = .ok (.aload_n 0, 1) := by decide +kernel
theorem dX8_init_100 : decode cX8_init 100 = .ok (.getfield 58, 3) := by decide +kernel
theorem dX8_init_103 : decode cX8_init 103 = .ok (.iconst 0, 1) := by decide +kernel
theorem dX8_init_104 : decode cX8_init 104 = .ok (.iconst 5, 1) := by decide +kernel
theorem dX8_init_105 : decode cX8_init 105 = .ok (.invokevirtual 61, 3) := by decide +kernel
theorem dX8_init_108 : decode cX8_init 108 = .ok (.pop, 1) := by decide +kernel
theorem dX8_init_109 : decode cX8_init 109 = .ok (.aload_n 0, 1) := by decide +kernel
theorem dX8_init_110 : decode cX8_init 110 = .ok (.getfield 58, 3) := by decide +kernel
theorem dX8_init_113 : decode cX8_init 113 = .ok (.iconst 1, 1) := by decide +kernel
theorem dX8_init_114 : decode cX8_init 114 = .ok (.iconst 2, 1) := by decide +kernel
theorem dX8_init_115 : decode cX8_init 115 = .ok (.invokevirtual 61, 3) := by decide +kernel
theorem dX8_init_118 : decode cX8_init 118 = .ok (.pop, 1) := by decide +kernel
theorem dX8_init_119 : decode cX8_init 119 = .ok (.aload_n 0, 1) := by decide +kernel
theorem dX8_init_120 : decode cX8_init 120 = .ok (.invokevirtual 65, 3) := by decide +kernel
theorem dX8_init_123 : decode cX8_init 123 = .ok (.return_, 1) := by decide +kernel
theorem dX8_write_0 : decode cX8_write 0 = .ok (.iload_n 1, 1) := by decide +kernel
theorem dX8_write_1 : decode cX8_write 1 = .ok (.bipush 32, 2) := by decide +kernel
theorem dX8_write_3 : decode cX8_write 3 = .ok (.if_icmp .lt 9, 3) := by decide +kernel
theorem dX8_write_6 : decode cX8_write 6 = .ok (.iload_n 1, 1) := by decide +kernel
theorem dX8_write_7 : decode cX8_write 7 = .ok (.bipush 126, 2) := by decide +kernel
theorem dX8_write_9 : decode cX8_write 9 = .ok (.if_icmp .le 5, 3) := by decide +kernel
theorem dX8_write_12 : decode cX8_write 12 = .ok (.iconst (-1), 1) := by decide +kernel
theorem dX8_write_13 : decode cX8_write 13 = .ok (.ireturn, 1) := by decide +kernel
theorem dX8_write_14 : decode cX8_write 14 = .ok (.aload_n 0, 1) := by decide +kernel
theorem dX8_write_15 : decode cX8_write 15 = .ok (.getfield 12, 3) := by decide +kernel
theorem dX8_write_18 : decode cX8_write 18 = .ok (.getfield 68, 3) := by decide +kernel
theorem dX8_write_21 : decode cX8_write 21 = .ok (.sipush 200, 3) := by decide +kernel
theorem dX8_write_24 : decode cX8_write 24 = .ok (.if_icmp .lt 6, 3) := by decide +kernel
theorem dX8_write_27 : decode cX8_write 27 = .ok (.bipush (-3), 2) := by decide +kernel
theorem dX8_write_29 : decode cX8_write 29 = .ok (.ireturn, 1) := by decide +kernel
theorem dX8_write_30 : decode cX8_write 30 = .ok (.aload_n 0, 1) := by decide +kernel
theorem dX8_write_31 : decode cX8_write 31 = .ok (.getfield 12, 3) := by decide +kernel
theorem dX8_write_34 : decode cX8_write 34 = .ok (.iload_n 1, 1) := by decide +kernel
theorem dX8_write_35 : decode cX8_write 35 = .ok (.i2c, 1) := by decide +kernel
theorem dX8_write_36 : decode cX8_write 36 = .ok (.invokevirtual 72, 3) := by decide +kernel
theorem dX8_write_39 : decode cX8_write 39 = .ok (.aload_n 0, 1) := by decide +kernel
theorem dX8_write_40 : decode cX8_write 40 = .ok (.getfield 12, 3) := by decide +kernel
theorem dX8_write_43 : decode cX8_write 43 = .ok (.getfield 68, 3) := by decide +kernel
theorem dX8_write_46 : decode cX8_write 46 = .ok (.ireturn, 1) := by decide +kernel
theorem dX8_wipe_0 : decode cX8_wipe 0 = .ok (.aload_n 0, 1) := by decide +kernel
theorem dX8_wipe_1 : decode cX8_wipe 1 = .ok (.getfield 12, 3) := by decide +kernel
theorem dX8_wipe_4 : decode cX8_wipe 4 = .ok (.getfield 68, 3) := by decide +kernel
theorem dX8_wipe_7 : decode cX8_wipe 7 = .ok (.istore_n 1, 1) := by decide +kernel
theorem dX8_wipe_8 : decode cX8_wipe 8 = .ok (.aload_n 0, 1) := by decide +kernel
theorem dX8_wipe_9 : decode cX8_wipe 9 = .ok (.getfield 12, 3) := by decide +kernel
theorem dX8_wipe_12 : decode cX8_wipe 12 = .ok (.iconst 0, 1) := by decide +kernel
theorem dX8_wipe_13 : decode cX8_wipe 13 = .ok (.putfield 68, 3) := by decide +kernel
theorem dX8_wipe_16 : decode cX8_wipe 16 = .ok (.iload_n 1, 1) := by decide +kernel
theorem dX8_wipe_17 : decode cX8_wipe 17 = .ok (.ireturn, 1) := by decide +kernel
theorem dX8_fault_0 : decode cX8_fault 0 = .ok (.aload_n 0, 1) := by decide +kernel
theorem dX8_fault_1 : decode cX8_fault 1 = .ok (.getfield 12, 3) := by decide +kernel
theorem dX8_fault_4 : decode cX8_fault 4 = .ok (.aload_n 0, 1) := by decide +kernel
theorem dX8_fault_5 : decode cX8_fault 5 = .ok (.getfield 58, 3) := by decide +kernel
theorem dX8_fault_8 : decode cX8_fault 8 = .ok (.invokevirtual 76, 3) := by decide +kernel
theorem dX8_fault_11 : decode cX8_fault 11 = .ok (.ireturn, 1) := by decide +kernel
theorem dX8_lay_0 : decode cX8_lay 0 = .ok (.aload_n 0, 1) := by decide +kernel
theorem dX8_lay_1 : decode cX8_lay 1 = .ok (.getfield 12, 3) := by decide +kernel
theorem dX8_lay_4 : decode cX8_lay 4 = .ok (.aload_n 0, 1) := by decide +kernel
theorem dX8_lay_5 : decode cX8_lay 5 = .ok (.getfield 58, 3) := by decide +kernel
theorem dX8_lay_8 : decode cX8_lay 8 = .ok (.invokevirtual 76, 3) := by decide +kernel
theorem dX8_lay_11 : decode cX8_lay 11 = .ok (.bipush (-4), 2) := by decide +kernel
theorem dX8_lay_13 : decode cX8_lay 13 = .ok (.if_icmp .ne 13, 3) := by decide +kernel
theorem dX8_lay_16 : decode cX8_lay 16 = .ok (.aload_n 0, 1) := by decide +kernel
theorem dX8_lay_17 : decode cX8_lay 17 = .ok (.getfield 58, 3) := by decide +kernel
theorem dX8_lay_20 : decode cX8_lay 20 = .ok (.getfield 80, 3) := by decide +kernel
theorem dX8_lay_23 : decode cX8_lay 23 = .ok (.ifCond .ne 6, 3) := by decide +kernel
theorem dX8_lay_26 : decode cX8_lay 26 = .ok (.bipush (-2), 2) := by decide +kernel
theorem dX8_lay_28 : decode cX8_lay 28 = .ok (.ireturn, 1) := by decide +kernel
theorem dX8_lay_29 : decode cX8_lay 29 = .ok (.aload_n 0, 1) := by decide +kernel
theorem dX8_lay_30 : decode cX8_lay 30 = .ok (.invokevirtual 65, 3) := by decide +kernel
theorem dX8_lay_33 : decode cX8_lay 33 = .ok (.aload_n 0, 1) := by decide +kernel
theorem dX8_lay_34 : decode cX8_lay 34 = .ok (.getfield 54, 3) := by decide +kernel
theorem dX8_lay_37 : decode cX8_lay 37 = .ok (.getfield 83, 3) := by decide +kernel
theorem dX8_lay_40 : decode cX8_lay 40 = .ok (.ireturn, 1) := by decide +kernel
theorem dX8_see_0 : decode cX8_see 0 = .ok (.lload_n 1, 1) := by decide +kernel
theorem dX8_see_1 : decode cX8_see 1 = .ok (.lconst 0, 1) := by decide +kernel
theorem dX8_see_2 : decode cX8_see 2 = .ok (.lcmp, 1) := by decide +kernel
theorem dX8_see_3 : decode cX8_see 3 = .ok (.ifCond .lt 15, 3) := by decide +kernel
theorem dX8_see_6 : decode cX8_see 6 = .ok (.lload_n 1, 1) := by decide +kernel
theorem dX8_see_7 : decode cX8_see 7 = .ok (.aload_n 0, 1) := by decide +kernel
theorem dX8_see_8 : decode cX8_see 8 = .ok (.getfield 54, 3) := by decide +kernel
theorem dX8_see_11 : decode cX8_see 11 = .ok (.invokevirtual 86, 3) := by decide +kernel
theorem dX8_see_14 : decode cX8_see 14 = .ok (.lcmp, 1) := by decide +kernel
theorem dX8_see_15 : decode cX8_see 15 = .ok (.ifCond .lt 5, 3) := by decide +kernel
theorem dX8_see_18 : decode cX8_see 18 = .ok (.iconst (-1), 1) := by decide +kernel
theorem dX8_see_19 : decode cX8_see 19 = .ok (.ireturn, 1) := by decide +kernel
theorem dX8_see_20 : decode cX8_see 20 = .ok (.aload_n 0, 1) := by decide +kernel
theorem dX8_see_21 : decode cX8_see 21 = .ok (.getfield 19, 3) := by decide +kernel
theorem dX8_see_24 : decode cX8_see 24 = .ok (.getfield 90, 3) := by decide +kernel
theorem dX8_see_27 : decode cX8_see 27 = .ok (.bipush 60, 2) := by decide +kernel
theorem dX8_see_29 : decode cX8_see 29 = .ok (.if_icmp .ge 15, 3) := by decide +kernel
theorem dX8_see_32 : decode cX8_see 32 = .ok (.aload_n 0, 1) := by decide +kernel
theorem dX8_see_33 : decode cX8_see 33 = .ok (.getfield 33, 3) := by decide +kernel
theorem dX8_see_36 : decode cX8_see 36 = .ok (.getfield 93, 3) := by decide +kernel
theorem dX8_see_39 : decode cX8_see 39 = .ok (.bipush 24, 2) := by decide +kernel
theorem dX8_see_41 : decode cX8_see 41 = .ok (.if_icmp .lt 6, 3) := by decide +kernel
theorem dX8_see_44 : decode cX8_see 44 = .ok (.bipush (-3), 2) := by decide +kernel
theorem dX8_see_46 : decode cX8_see 46 = .ok (.ireturn, 1) := by decide +kernel
theorem dX8_see_47 : decode cX8_see 47 = .ok (.aload_n 0, 1) := by decide +kernel
theorem dX8_see_48 : decode cX8_see 48 = .ok (.getfield 26, 3) := by decide +kernel
theorem dX8_see_51 : decode cX8_see 51 = .ok (.aload_n 0, 1) := by decide +kernel
theorem dX8_see_52 : decode cX8_see 52 = .ok (.getfield 19, 3) := by decide +kernel
theorem dX8_see_55 : decode cX8_see 55 = .ok (.invokevirtual 96, 3) := by decide +kernel
theorem dX8_see_58 : decode cX8_see 58 = .ok (.aload_n 0, 1) := by decide +kernel
theorem dX8_see_59 : decode cX8_see 59 = .ok (.getfield 19, 3) := by decide +kernel
theorem dX8_see_62 : decode cX8_see 62 = .ok (.getfield 90, 3) := by decide +kernel
theorem dX8_see_65 : decode cX8_see 65 = .ok (.istore_n 3, 1) := by decide +kernel
theorem dX8_see_66 : decode cX8_see 66 = .ok (.aload_n 0, 1) := by decide +kernel
theorem dX8_see_67 : decode cX8_see 67 = .ok (.getfield 19, 3) := by decide +kernel
theorem dX8_see_70 : decode cX8_see 70 = .ok (.lload_n 1, 1) := by decide +kernel
theorem dX8_see_71 : decode cX8_see 71 = .ok (.invokevirtual 100, 3) := by decide +kernel
theorem dX8_see_74 : decode cX8_see 74 = .ok (.aload_n 0, 1) := by decide +kernel
theorem dX8_see_75 : decode cX8_see 75 = .ok (.getfield 33, 3) := by decide +kernel
theorem dX8_see_78 : decode cX8_see 78 = .ok (.aload_n 0, 1) := by decide +kernel
theorem dX8_see_79 : decode cX8_see 79 = .ok (.getfield 54, 3) := by decide +kernel
theorem dX8_see_82 : decode cX8_see 82 = .ok (.lload_n 1, 1) := by decide +kernel
theorem dX8_see_83 : decode cX8_see 83 = .ok (.iload_n 3, 1) := by decide +kernel
theorem dX8_see_84 : decode cX8_see 84 = .ok (.invokevirtual 104, 3) := by decide +kernel
theorem dX8_see_87 : decode cX8_see 87 = .ok (.istore 4, 2) := by decide +kernel
theorem dX8_see_89 : decode cX8_see 89 = .ok (.aload_n 0, 1) := by decide +kernel
theorem dX8_see_90 : decode cX8_see 90 = .ok (.invokevirtual 107, 3) := by decide +kernel
theorem dX8_see_93 : decode cX8_see 93 = .ok (.iload 4, 2) := by decide +kernel
theorem dX8_see_95 : decode cX8_see 95 = .ok (.ireturn, 1) := by decide +kernel
theorem dX8_rule_0 : decode cX8_rule 0 = .ok (.aload_n 0, 1) := by decide +kernel
theorem dX8_rule_1 : decode cX8_rule 1 = .ok (.iload_n 1, 1) := by decide +kernel
theorem dX8_rule_2 : decode cX8_rule 2 = .ok (.invokevirtual 110, 3) := by decide +kernel
theorem dX8_rule_5 : decode cX8_rule 5 = .ok (.ifCond .eq 14, 3) := by decide +kernel
theorem dX8_rule_8 : decode cX8_rule 8 = .ok (.iload_n 2, 1) := by decide +kernel
theorem dX8_rule_9 : decode cX8_rule 9 = .ok (.iconst 1, 1) := by decide +kernel
theorem dX8_rule_10 : decode cX8_rule 10 = .ok (.if_icmp .lt 9, 3) := by decide +kernel
theorem dX8_rule_13 : decode cX8_rule 13 = .ok (.iload_n 2, 1) := by decide +kernel
theorem dX8_rule_14 : decode cX8_rule 14 = .ok (.bipush 99, 2) := by decide +kernel
theorem dX8_rule_16 : decode cX8_rule 16 = .ok (.if_icmp .le 5, 3) := by decide +kernel
theorem dX8_rule_19 : decode cX8_rule 19 = .ok (.iconst (-1), 1) := by decide +kernel
theorem dX8_rule_20 : decode cX8_rule 20 = .ok (.ireturn, 1) := by decide +kernel
theorem dX8_rule_21 : decode cX8_rule 21 = .ok (.aload_n 0, 1) := by decide +kernel
theorem dX8_rule_22 : decode cX8_rule 22 = .ok (.getfield 19, 3) := by decide +kernel
theorem dX8_rule_25 : decode cX8_rule 25 = .ok (.getfield 114, 3) := by decide +kernel
theorem dX8_rule_28 : decode cX8_rule 28 = .ok (.iload_n 1, 1) := by decide +kernel
theorem dX8_rule_29 : decode cX8_rule 29 = .ok (.iaload, 1) := by decide +kernel
theorem dX8_rule_30 : decode cX8_rule 30 = .ok (.istore_n 3, 1) := by decide +kernel
theorem dX8_rule_31 : decode cX8_rule 31 = .ok (.iload_n 3, 1) := by decide +kernel
theorem dX8_rule_32 : decode cX8_rule 32 = .ok (.iload_n 2, 1) := by decide +kernel
theorem dX8_rule_33 : decode cX8_rule 33 = .ok (.if_icmp .ne 6, 3) := by decide +kernel
theorem dX8_rule_36 : decode cX8_rule 36 = .ok (.bipush (-2), 2) := by decide +kernel
theorem dX8_rule_38 : decode cX8_rule 38 = .ok (.ireturn, 1) := by decide +kernel
theorem dX8_rule_39 : decode cX8_rule 39 = .ok (.aload_n 0, 1) := by decide +kernel
theorem dX8_rule_40 : decode cX8_rule 40 = .ok (.getfield 26, 3) := by decide +kernel
theorem dX8_rule_43 : decode cX8_rule 43 = .ok (.aload_n 0, 1) := by decide +kernel
theorem dX8_rule_44 : decode cX8_rule 44 = .ok (.getfield 19, 3) := by decide +kernel
theorem dX8_rule_47 : decode cX8_rule 47 = .ok (.invokevirtual 96, 3) := by decide +kernel
theorem dX8_rule_50 : decode cX8_rule 50 = .ok (.aload_n 0, 1) := by decide +kernel
theorem dX8_rule_51 : decode cX8_rule 51 = .ok (.getfield 19, 3) := by decide +kernel
theorem dX8_rule_54 : decode cX8_rule 54 = .ok (.getfield 114, 3) := by decide +kernel
theorem dX8_rule_57 : decode cX8_rule 57 = .ok (.iload_n 1, 1) := by decide +kernel
theorem dX8_rule_58 : decode cX8_rule 58 = .ok (.iload_n 2, 1) := by decide +kernel
theorem dX8_rule_59 : decode cX8_rule 59 = .ok (.iastore, 1) := by decide +kernel
theorem dX8_rule_60 : decode cX8_rule 60 = .ok (.aload_n 0, 1) := by decide +kernel
theorem dX8_rule_61 : decode cX8_rule 61 = .ok (.invokevirtual 107, 3) := by decide +kernel
theorem dX8_rule_64 : decode cX8_rule 64 = .ok (.iload_n 3, 1) := by decide +kernel
theorem dX8_rule_65 : decode cX8_rule 65 = .ok (.ireturn, 1) := by decide +kernel
theorem dX8_clear_0 : decode cX8_clear 0 = .ok (.aload_n 0, 1) := by decide +kernel
theorem dX8_clear_1 : decode cX8_clear 1 = .ok (.getfield 19, 3) := by decide +kernel
theorem dX8_clear_4 : decode cX8_clear 4 = .ok (.getfield 90, 3) := by decide +kernel
theorem dX8_clear_7 : decode cX8_clear 7 = .ok (.ifCond .ne 6, 3) := by decide +kernel
theorem dX8_clear_10 : decode cX8_clear 10 = .ok (.bipush (-2), 2) := by decide +kernel
theorem dX8_clear_12 : decode cX8_clear 12 = .ok (.ireturn, 1) := by decide +kernel
theorem dX8_clear_13 : decode cX8_clear 13 = .ok (.aload_n 0, 1) := by decide +kernel
theorem dX8_clear_14 : decode cX8_clear 14 = .ok (.getfield 19, 3) := by decide +kernel
theorem dX8_clear_17 : decode cX8_clear 17 = .ok (.getfield 90, 3) := by decide +kernel
theorem dX8_clear_20 : decode cX8_clear 20 = .ok (.istore_n 1, 1) := by decide +kernel
theorem dX8_clear_21 : decode cX8_clear 21 = .ok (.aload_n 0, 1) := by decide +kernel
theorem dX8_clear_22 : decode cX8_clear 22 = .ok (.getfield 26, 3) := by decide +kernel
theorem dX8_clear_25 : decode cX8_clear 25 = .ok (.aload_n 0, 1) := by decide +kernel
theorem dX8_clear_26 : decode cX8_clear 26 = .ok (.getfield 19, 3) := by decide +kernel
theorem dX8_clear_29 : decode cX8_clear 29 = .ok (.invokevirtual 96, 3) := by decide +kernel
theorem dX8_clear_32 : decode cX8_clear 32 = .ok (.aload_n 0, 1) := by decide +kernel
theorem dX8_clear_33 : decode cX8_clear 33 = .ok (.invokevirtual 117, 3) := by decide +kernel
theorem dX8_clear_36 : decode cX8_clear 36 = .ok (.iload_n 1, 1) := by decide +kernel
theorem dX8_clear_37 : decode cX8_clear 37 = .ok (.ireturn, 1) := by decide +kernel
theorem dX8_undo_0 : decode cX8_undo 0 = .ok (.aload_n 0, 1) := by decide +kernel
theorem dX8_undo_1 : decode cX8_undo 1 = .ok (.getfield 26, 3) := by decide +kernel
theorem dX8_undo_4 : decode cX8_undo 4 = .ok (.getfield 120, 3) := by decide +kernel
theorem dX8_undo_7 : decode cX8_undo 7 = .ok (.ifCond .ne 6, 3) := by decide +kernel
theorem dX8_undo_10 : decode cX8_undo 10 = .ok (.bipush (-2), 2) := by decide +kernel
theorem dX8_undo_12 : decode cX8_undo 12 = .ok (.ireturn, 1) := by decide +kernel
theorem dX8_undo_13 : decode cX8_undo 13 = .ok (.aload_n 0, 1) := by decide +kernel
theorem dX8_undo_14 : decode cX8_undo 14 = .ok (.getfield 26, 3) := by decide +kernel
theorem dX8_undo_17 : decode cX8_undo 17 = .ok (.aload_n 0, 1) := by decide +kernel
theorem dX8_undo_18 : decode cX8_undo 18 = .ok (.getfield 19, 3) := by decide +kernel
theorem dX8_undo_21 : decode cX8_undo 21 = .ok (.invokevirtual 123, 3) := by decide +kernel
theorem dX8_undo_24 : decode cX8_undo 24 = .ok (.aload_n 0, 1) := by decide +kernel
theorem dX8_undo_25 : decode cX8_undo 25 = .ok (.invokevirtual 126, 3) := by decide +kernel
theorem dX8_undo_28 : decode cX8_undo 28 = .ok (.aload_n 0, 1) := by decide +kernel
theorem dX8_undo_29 : decode cX8_undo 29 = .ok (.getfield 26, 3) := by decide +kernel
theorem dX8_undo_32 : decode cX8_undo 32 = .ok (.getfield 120, 3) := by decide +kernel
theorem dX8_undo_35 : decode cX8_undo 35 = .ok (.ireturn, 1) := by decide +kernel
theorem dX8_blob_0 : decode cX8_blob 0 = .ok (.iload_n 1, 1) := by decide +kernel
theorem dX8_blob_1 : decode cX8_blob 1 = .ok (.ifCond .lt 26, 3) := by decide +kernel
theorem dX8_blob_4 : decode cX8_blob 4 = .ok (.iload_n 1, 1) := by decide +kernel
theorem dX8_blob_5 : decode cX8_blob 5 = .ok (.aload_n 0, 1) := by decide +kernel
theorem dX8_blob_6 : decode cX8_blob 6 = .ok (.getfield 33, 3) := by decide +kernel
theorem dX8_blob_9 : decode cX8_blob 9 = .ok (.getfield 93, 3) := by decide +kernel
theorem dX8_blob_12 : decode cX8_blob 12 = .ok (.if_icmp .ge 15, 3) := by decide +kernel
theorem dX8_blob_15 : decode cX8_blob 15 = .ok (.iload_n 1, 1) := by decide +kernel
theorem dX8_blob_16 : decode cX8_blob 16 = .ok (.aload_n 0, 1) := by decide +kernel
theorem dX8_blob_17 : decode cX8_blob 17 = .ok (.getfield 33, 3) := by decide +kernel
theorem dX8_blob_20 : decode cX8_blob 20 = .ok (.getfield 129, 3) := by decide +kernel
theorem dX8_blob_23 : decode cX8_blob 23 = .ok (.arraylength, 1) := by decide +kernel
theorem dX8_blob_24 : decode cX8_blob 24 = .ok (.if_icmp .lt 5, 3) := by decide +kernel
theorem dX8_blob_27 : decode cX8_blob 27 = .ok (.iconst (-1), 1) := by decide +kernel
theorem dX8_blob_28 : decode cX8_blob 28 = .ok (.ireturn, 1) := by decide +kernel
theorem dX8_blob_29 : decode cX8_blob 29 = .ok (.aload_n 0, 1) := by decide +kernel
theorem dX8_blob_30 : decode cX8_blob 30 = .ok (.getfield 33, 3) := by decide +kernel
theorem dX8_blob_33 : decode cX8_blob 33 = .ok (.getfield 129, 3) := by decide +kernel
theorem dX8_blob_36 : decode cX8_blob 36 = .ok (.iload_n 1, 1) := by decide +kernel
theorem dX8_blob_37 : decode cX8_blob 37 = .ok (.aaload, 1) := by decide +kernel
theorem dX8_blob_38 : decode cX8_blob 38 = .ok (.astore_n 3, 1) := by decide +kernel
theorem dX8_blob_39 : decode cX8_blob 39 = .ok (.iload_n 2, 1) := by decide +kernel
theorem dX8_blob_40 : decode cX8_blob 40 = .ok (.tableswitch 145 0 9 #[56, 61, 66, 71, 76, 81, 86, 91, 101, 132], 56) := by decide +kernel
theorem dX8_blob_96 : decode cX8_blob 96 = .ok (.aload_n 3, 1) := by decide +kernel
theorem dX8_blob_97 : decode cX8_blob 97 = .ok (.getfield 133, 3) := by decide +kernel
theorem dX8_blob_100 : decode cX8_blob 100 = .ok (.ireturn, 1) := by decide +kernel
theorem dX8_blob_101 : decode cX8_blob 101 = .ok (.aload_n 3, 1) := by decide +kernel
theorem dX8_blob_102 : decode cX8_blob 102 = .ok (.getfield 138, 3) := by decide +kernel
theorem dX8_blob_105 : decode cX8_blob 105 = .ok (.ireturn, 1) := by decide +kernel
theorem dX8_blob_106 : decode cX8_blob 106 = .ok (.aload_n 3, 1) := by decide +kernel
theorem dX8_blob_107 : decode cX8_blob 107 = .ok (.getfield 141, 3) := by decide +kernel
theorem dX8_blob_110 : decode cX8_blob 110 = .ok (.ireturn, 1) := by decide +kernel
theorem dX8_blob_111 : decode cX8_blob 111 = .ok (.aload_n 3, 1) := by decide +kernel
theorem dX8_blob_112 : decode cX8_blob 112 = .ok (.getfield 144, 3) := by decide +kernel
theorem dX8_blob_115 : decode cX8_blob 115 = .ok (.ireturn, 1) := by decide +kernel
theorem dX8_blob_116 : decode cX8_blob 116 = .ok (.aload_n 3, 1) := by decide +kernel
theorem dX8_blob_117 : decode cX8_blob 117 = .ok (.getfield 147, 3) := by decide +kernel
theorem dX8_blob_120 : decode cX8_blob 120 = .ok (.ireturn, 1) := by decide +kernel
theorem dX8_blob_121 : decode cX8_blob 121 = .ok (.aload_n 3, 1) := by decide +kernel
theorem dX8_blob_122 : decode cX8_blob 122 = .ok (.invokevirtual 150, 3) := by decide +kernel
theorem dX8_blob_125 : decode cX8_blob 125 = .ok (.ireturn, 1) := by decide +kernel
theorem dX8_blob_126 : decode cX8_blob 126 = .ok (.aload_n 3, 1) := by decide +kernel
theorem dX8_blob_127 : decode cX8_blob 127 = .ok (.getfield 154, 3) := by decide +kernel
theorem dX8_blob_130 : decode cX8_blob 130 = .ok (.ireturn, 1) := by decide +kernel
theorem dX8_blob_131 : decode cX8_blob 131 = .ok (.aload_n 0, 1) := by decide +kernel
theorem dX8_blob_132 : decode cX8_blob 132 = .ok (.getfield 40, 3) := by decide +kernel
theorem dX8_blob_135 : decode cX8_blob 135 = .ok (.getfield 157, 3) := by decide +kernel
theorem dX8_blob_138 : decode cX8_blob 138 = .ok (.iload_n 1, 1) := by decide +kernel
theorem dX8_blob_139 : decode cX8_blob 139 = .ok (.iaload, 1) := by decide +kernel
theorem dX8_blob_140 : decode cX8_blob 140 = .ok (.ireturn, 1) := by decide +kernel
theorem dX8_blob_141 : decode cX8_blob 141 = .ok (.aload_n 0, 1) := by decide +kernel
theorem dX8_blob_142 : decode cX8_blob 142 = .ok (.getfield 40, 3) := by decide +kernel
theorem dX8_blob_145 : decode cX8_blob 145 = .ok (.iload_n 1, 1) := by decide +kernel
theorem dX8_blob_146 : decode cX8_blob 146 = .ok (.invokevirtual 160, 3) := by decide +kernel
theorem dX8_blob_149 : decode cX8_blob 149 = .ok (.ifCond .eq 18, 3) := by decide +kernel
theorem dX8_blob_152 : decode cX8_blob 152 = .ok (.aload_n 0, 1) := by decide +kernel
theorem dX8_blob_153 : decode cX8_blob 153 = .ok (.getfield 54, 3) := by decide +kernel
theorem dX8_blob_156 : decode cX8_blob 156 = .ok (.aload_n 3, 1) := by decide +kernel
theorem dX8_blob_157 : decode cX8_blob 157 = .ok (.invokevirtual 163, 3) := by decide +kernel
theorem dX8_blob_160 : decode cX8_blob 160 = .ok (.ifCond .eq 7, 3) := by decide +kernel
theorem dX8_blob_163 : decode cX8_blob 163 = .ok (.iconst 1, 1) := by decide +kernel
theorem dX8_blob_164 : decode cX8_blob 164 = .ok (.goto 4, 3) := by decide +kernel
theorem dX8_blob_167 : decode cX8_blob 167 = .ok (.iconst 0, 1) := by decide +kernel
theorem dX8_blob_168 : decode cX8_blob 168 = .ok (.invokestatic 167, 3) := by decide +kernel
theorem dX8_blob_171 : decode cX8_blob 171 = .ok (.ireturn, 1) := by decide +kernel
theorem dX8_blob_172 : decode cX8_blob 172 = .ok (.aload_n 0, 1) := by decide +kernel
theorem dX8_blob_173 : decode cX8_blob 173 = .ok (.getfield 40, 3) := by decide +kernel
theorem dX8_blob_176 : decode cX8_blob 176 = .ok (.getfield 171, 3) := by decide +kernel
theorem dX8_blob_179 : decode cX8_blob 179 = .ok (.iload_n 1, 1) := by decide +kernel
theorem dX8_blob_180 : decode cX8_blob 180 = .ok (.baload, 1) := by decide +kernel
theorem dX8_blob_181 : decode cX8_blob 181 = .ok (.invokestatic 167, 3) := by decide +kernel
theorem dX8_blob_184 : decode cX8_blob 184 = .ok (.ireturn, 1) := by decide +kernel
theorem dX8_blob_185 : decode cX8_blob 185 = .ok (.iconst (-1), 1) := by decide +kernel
theorem dX8_blob_186 : decode cX8_blob 186 = .ok (.ireturn, 1) := by decide +kernel
theorem dX8_open_0 : decode cX8_open 0 = .ok (.iload_n 1, 1) := by decide +kernel
theorem dX8_open_1 : decode cX8_open 1 = .ok (.lookupswitch 43 #[(0, 27), (1, 35)], 27) := by decide +kernel
theorem dX8_open_28 : decode cX8_open 28 = .ok (.aload_n 0, 1) := by decide +kernel
theorem dX8_open_29 : decode cX8_open 29 = .ok (.getfield 33, 3) := by decide +kernel
theorem dX8_open_32 : decode cX8_open 32 = .ok (.invokevirtual 175, 3) := by decide +kernel
theorem dX8_open_35 : decode cX8_open 35 = .ok (.ireturn, 1) := by decide +kernel
theorem dX8_open_36 : decode cX8_open 36 = .ok (.aload_n 0, 1) := by decide +kernel
theorem dX8_open_37 : decode cX8_open 37 = .ok (.getfield 33, 3) := by decide +kernel
theorem dX8_open_40 : decode cX8_open 40 = .ok (.invokevirtual 178, 3) := by decide +kernel
theorem dX8_open_43 : decode cX8_open 43 = .ok (.ireturn, 1) := by decide +kernel
theorem dX8_open_44 : decode cX8_open 44 = .ok (.iconst (-1), 1) := by decide +kernel
theorem dX8_open_45 : decode cX8_open 45 = .ok (.ireturn, 1) := by decide +kernel
theorem dX8_opening_0 : decode cX8_opening 0 = .ok (.aload_n 0, 1) := by decide +kernel
theorem dX8_opening_1 : decode cX8_opening 1 = .ok (.iload_n 1, 1) := by decide +kernel
theorem dX8_opening_2 : decode cX8_opening 2 = .ok (.invokevirtual 181, 3) := by decide +kernel
theorem dX8_opening_5 : decode cX8_opening 5 = .ok (.ifCond .eq 17, 3) := by decide +kernel
theorem dX8_opening_8 : decode cX8_opening 8 = .ok (.iload_n 2, 1) := by decide +kernel
theorem dX8_opening_9 : decode cX8_opening 9 = .ok (.iconst (-1), 1) := by decide +kernel
theorem dX8_opening_10 : decode cX8_opening 10 = .ok (.if_icmp .lt 12, 3) := by decide +kernel
theorem dX8_opening_13 : decode cX8_opening 13 = .ok (.iload_n 3, 1) := by decide +kernel
theorem dX8_opening_14 : decode cX8_opening 14 = .ok (.ifCond .lt 8, 3) := by decide +kernel
theorem dX8_opening_17 : decode cX8_opening 17 = .ok (.iload_n 3, 1) := by decide +kernel
theorem dX8_opening_18 : decode cX8_opening 18 = .ok (.iconst 1, 1) := by decide +kernel
theorem dX8_opening_19 : decode cX8_opening 19 = .ok (.if_icmp .le 5, 3) := by decide +kernel
theorem dX8_opening_22 : decode cX8_opening 22 = .ok (.iconst (-1), 1) := by decide +kernel
theorem dX8_opening_23 : decode cX8_opening 23 = .ok (.ireturn, 1) := by decide +kernel
theorem dX8_opening_24 : decode cX8_opening 24 = .ok (.aload_n 0, 1) := by decide +kernel
theorem dX8_opening_25 : decode cX8_opening 25 = .ok (.getfield 40, 3) := by decide +kernel
theorem dX8_opening_28 : decode cX8_opening 28 = .ok (.getfield 184, 3) := by decide +kernel
theorem dX8_opening_31 : decode cX8_opening 31 = .ok (.iload_n 1, 1) := by decide +kernel
theorem dX8_opening_32 : decode cX8_opening 32 = .ok (.aaload, 1) := by decide +kernel
theorem dX8_opening_33 : decode cX8_opening 33 = .ok (.astore 4, 2) := by decide +kernel
theorem dX8_opening_35 : decode cX8_opening 35 = .ok (.iload_n 2, 1) := by decide +kernel
theorem dX8_opening_36 : decode cX8_opening 36 = .ok (.iconst (-1), 1) := by decide +kernel
theorem dX8_opening_37 : decode cX8_opening 37 = .ok (.if_icmp .ne 9, 3) := by decide +kernel
theorem dX8_opening_40 : decode cX8_opening 40 = .ok (.aload 4, 2) := by decide +kernel
theorem dX8_opening_42 : decode cX8_opening 42 = .ok (.getfield 188, 3) := by decide +kernel
theorem dX8_opening_45 : decode cX8_opening 45 = .ok (.ireturn, 1) := by decide +kernel
theorem dX8_opening_46 : decode cX8_opening 46 = .ok (.iload_n 2, 1) := by decide +kernel
theorem dX8_opening_47 : decode cX8_opening 47 = .ok (.aload 4, 2) := by decide +kernel
theorem dX8_opening_49 : decode cX8_opening 49 = .ok (.getfield 188, 3) := by decide +kernel
theorem dX8_opening_52 : decode cX8_opening 52 = .ok (.if_icmp .ge 13, 3) := by decide +kernel
theorem dX8_opening_55 : decode cX8_opening 55 = .ok (.iload_n 2, 1) := by decide +kernel
theorem dX8_opening_56 : decode cX8_opening 56 = .ok (.aload 4, 2) := by decide +kernel
theorem dX8_opening_58 : decode cX8_opening 58 = .ok (.getfield 193, 3) := by decide +kernel
theorem dX8_opening_61 : decode cX8_opening 61 = .ok (.arraylength, 1) := by decide +kernel
theorem dX8_opening_62 : decode cX8_opening 62 = .ok (.if_icmp .lt 6, 3) := by decide +kernel
theorem dX8_opening_65 : decode cX8_opening 65 = .ok (.bipush (-4), 2) := by decide +kernel
theorem dX8_opening_67 : decode cX8_opening 67 = .ok (.ireturn, 1) := by decide +kernel
theorem dX8_opening_68 : decode cX8_opening 68 = .ok (.iload_n 3, 1) := by decide +kernel
theorem dX8_opening_69 : decode cX8_opening 69 = .ok (.ifCond .ne 13, 3) := by decide +kernel
theorem dX8_opening_72 : decode cX8_opening 72 = .ok (.aload 4, 2) := by decide +kernel
theorem dX8_opening_74 : decode cX8_opening 74 = .ok (.getfield 193, 3) := by decide +kernel
theorem dX8_opening_77 : decode cX8_opening 77 = .ok (.iload_n 2, 1) := by decide +kernel
theorem dX8_opening_78 : decode cX8_opening 78 = .ok (.iaload, 1) := by decide +kernel
theorem dX8_opening_79 : decode cX8_opening 79 = .ok (.goto 10, 3) := by decide +kernel
theorem dX8_opening_82 : decode cX8_opening 82 = .ok (.aload 4, 2) := by decide +kernel
theorem dX8_opening_84 : decode cX8_opening 84 = .ok (.getfield 196, 3) := by decide +kernel
theorem dX8_opening_87 : decode cX8_opening 87 = .ok (.iload_n 2, 1) := by decide +kernel
theorem dX8_opening_88 : decode cX8_opening 88 = .ok (.iaload, 1) := by decide +kernel
theorem dX8_opening_89 : decode cX8_opening 89 = .ok (.ireturn, 1) := by decide +kernel
theorem dX8_air_0 : decode cX8_air 0 = .ok (.aload_n 0, 1) := by decide +kernel
theorem dX8_air_1 : decode cX8_air 1 = .ok (.iload_n 1, 1) := by decide +kernel
theorem dX8_air_2 : decode cX8_air 2 = .ok (.invokevirtual 181, 3) := by decide +kernel
theorem dX8_air_5 : decode cX8_air 5 = .ok (.ifCond .eq 18, 3) := by decide +kernel
theorem dX8_air_8 : decode cX8_air 8 = .ok (.aload_n 0, 1) := by decide +kernel
theorem dX8_air_9 : decode cX8_air 9 = .ok (.getfield 40, 3) := by decide +kernel
theorem dX8_air_12 : decode cX8_air 12 = .ok (.getfield 184, 3) := by decide +kernel
theorem dX8_air_15 : decode cX8_air 15 = .ok (.iload_n 1, 1) := by decide +kernel
theorem dX8_air_16 : decode cX8_air 16 = .ok (.aaload, 1) := by decide +kernel
theorem dX8_air_17 : decode cX8_air 17 = .ok (.invokevirtual 199, 3) := by decide +kernel
theorem dX8_air_20 : decode cX8_air 20 = .ok (.goto 4, 3) := by decide +kernel
theorem dX8_air_23 : decode cX8_air 23 = .ok (.iconst (-1), 1) := by decide +kernel
theorem dX8_air_24 : decode cX8_air 24 = .ok (.ireturn, 1) := by decide +kernel
theorem dX8_gain_0 : decode cX8_gain 0 = .ok (.aload_n 0, 1) := by decide +kernel
theorem dX8_gain_1 : decode cX8_gain 1 = .ok (.getfield 40, 3) := by decide +kernel
theorem dX8_gain_4 : decode cX8_gain 4 = .ok (.aload_n 0, 1) := by decide +kernel
theorem dX8_gain_5 : decode cX8_gain 5 = .ok (.getfield 33, 3) := by decide +kernel
theorem dX8_gain_8 : decode cX8_gain 8 = .ok (.invokevirtual 202, 3) := by decide +kernel
theorem dX8_gain_11 : decode cX8_gain 11 = .ok (.sipush 10000, 3) := by decide +kernel
theorem dX8_gain_14 : decode cX8_gain 14 = .ok (.iadd, 1) := by decide +kernel
theorem dX8_gain_15 : decode cX8_gain 15 = .ok (.ireturn, 1) := by decide +kernel
theorem dX8_best_0 : decode cX8_best 0 = .ok (.aload_n 0, 1) := by decide +kernel
theorem dX8_best_1 : decode cX8_best 1 = .ok (.iload_n 1, 1) := by decide +kernel
theorem dX8_best_2 : decode cX8_best 2 = .ok (.invokevirtual 110, 3) := by decide +kernel
theorem dX8_best_5 : decode cX8_best 5 = .ok (.ifCond .eq 12, 3) := by decide +kernel
theorem dX8_best_8 : decode cX8_best 8 = .ok (.iload_n 2, 1) := by decide +kernel
theorem dX8_best_9 : decode cX8_best 9 = .ok (.ifCond .lt 8, 3) := by decide +kernel
theorem dX8_best_12 : decode cX8_best 12 = .ok (.iload_n 2, 1) := by decide +kernel
theorem dX8_best_13 : decode cX8_best 13 = .ok (.iconst 1, 1) := by decide +kernel
theorem dX8_best_14 : decode cX8_best 14 = .ok (.if_icmp .le 5, 3) := by decide +kernel
theorem dX8_best_17 : decode cX8_best 17 = .ok (.iconst (-1), 1) := by decide +kernel
theorem dX8_best_18 : decode cX8_best 18 = .ok (.ireturn, 1) := by decide +kernel
theorem dX8_best_19 : decode cX8_best 19 = .ok (.aload_n 0, 1) := by decide +kernel
theorem dX8_best_20 : decode cX8_best 20 = .ok (.getfield 19, 3) := by decide +kernel
theorem dX8_best_23 : decode cX8_best 23 = .ok (.getfield 114, 3) := by decide +kernel
theorem dX8_best_26 : decode cX8_best 26 = .ok (.iconst 0, 1) := by decide +kernel
theorem dX8_best_27 : decode cX8_best 27 = .ok (.aload_n 0, 1) := by decide +kernel
theorem dX8_best_28 : decode cX8_best 28 = .ok (.getfield 47, 3) := by decide +kernel
theorem dX8_best_31 : decode cX8_best 31 = .ok (.iconst 0, 1) := by decide +kernel
theorem dX8_best_32 : decode cX8_best 32 = .ok (.iconst 4, 1) := by decide +kernel
theorem dX8_best_33 : decode cX8_best 33 = .ok (.invokestatic 206, 3) := by decide +kernel
theorem dX8_best_36 : decode cX8_best 36 = .ok (.iconst 1, 1) := by decide +kernel
theorem dX8_best_37 : decode cX8_best 37 = .ok (.istore_n 3, 1) := by decide +kernel
theorem dX8_best_38 : decode cX8_best 38 = .ok (.aload_n 0, 1) := by decide +kernel
theorem dX8_best_39 : decode cX8_best 39 = .ok (.iload_n 1, 1) := by decide +kernel
theorem dX8_best_40 : decode cX8_best 40 = .ok (.iconst 1, 1) := by decide +kernel
theorem dX8_best_41 : decode cX8_best 41 = .ok (.invokevirtual 212, 3) := by decide +kernel
theorem dX8_best_44 : decode cX8_best 44 = .ok (.istore 4, 2) := by decide +kernel
theorem dX8_best_46 : decode cX8_best 46 = .ok (.iconst 2, 1) := by decide +kernel
theorem dX8_best_47 : decode cX8_best 47 = .ok (.istore 5, 2) := by decide +kernel
theorem dX8_best_49 : decode cX8_best 49 = .ok (.iload 5, 2) := by decide +kernel
theorem dX8_best_51 : decode cX8_best 51 = .ok (.bipush 99, 2) := by decide +kernel
theorem dX8_best_53 : decode cX8_best 53 = .ok (.if_icmp .gt 55, 3) := by decide +kernel
theorem dX8_best_56 : decode cX8_best 56 = .ok (.aload_n 0, 1) := by decide +kernel
theorem dX8_best_57 : decode cX8_best 57 = .ok (.getfield 33, 3) := by decide +kernel
theorem dX8_best_60 : decode cX8_best 60 = .ok (.aload_n 0, 1) := by decide +kernel
theorem dX8_best_61 : decode cX8_best 61 = .ok (.getfield 54, 3) := by decide +kernel
theorem dX8_best_64 : decode cX8_best 64 = .ok (.getfield 216, 3) := by decide +kernel
theorem dX8_best_67 : decode cX8_best 67 = .ok (.iload_n 1, 1) := by decide +kernel
theorem dX8_best_68 : decode cX8_best 68 = .ok (.iaload, 1) := by decide +kernel
theorem dX8_best_69 : decode cX8_best 69 = .ok (.iload 5, 2) := by decide +kernel
theorem dX8_best_71 : decode cX8_best 71 = .ok (.iconst 1, 1) := by decide +kernel
theorem dX8_best_72 : decode cX8_best 72 = .ok (.isub, 1) := by decide +kernel
theorem dX8_best_73 : decode cX8_best 73 = .ok (.invokevirtual 219, 3) := by decide +kernel
theorem dX8_best_76 : decode cX8_best 76 = .ok (.ifCond .eq 26, 3) := by decide +kernel
theorem dX8_best_79 : decode cX8_best 79 = .ok (.aload_n 0, 1) := by decide +kernel
theorem dX8_best_80 : decode cX8_best 80 = .ok (.iload_n 1, 1) := by decide +kernel
theorem dX8_best_81 : decode cX8_best 81 = .ok (.iload 5, 2) := by decide +kernel
theorem dX8_best_83 : decode cX8_best 83 = .ok (.invokevirtual 212, 3) := by decide +kernel
theorem dX8_best_86 : decode cX8_best 86 = .ok (.istore 6, 2) := by decide +kernel
theorem dX8_best_88 : decode cX8_best 88 = .ok (.iload 6, 2) := by decide +kernel
theorem dX8_best_90 : decode cX8_best 90 = .ok (.iload 4, 2) := by decide +kernel
theorem dX8_best_92 : decode cX8_best 92 = .ok (.if_icmp .le 10, 3) := by decide +kernel
theorem dX8_best_95 : decode cX8_best 95 = .ok (.iload 6, 2) := by decide +kernel
theorem dX8_best_97 : decode cX8_best 97 = .ok (.istore 4, 2) := by decide +kernel
theorem dX8_best_99 : decode cX8_best 99 = .ok (.iload 5, 2) := by decide +kernel
theorem dX8_best_101 : decode cX8_best 101 = .ok (.istore_n 3, 1) := by decide +kernel
theorem dX8_best_102 : decode cX8_best 102 = .ok (.iinc 5 1, 3) := by decide +kernel
theorem dX8_best_105 : decode cX8_best 105 = .ok (.goto (-56), 3) := by decide +kernel
theorem dX8_best_108 : decode cX8_best 108 = .ok (.iload_n 2, 1) := by decide +kernel
theorem dX8_best_109 : decode cX8_best 109 = .ok (.ifCond .ne 7, 3) := by decide +kernel
theorem dX8_best_112 : decode cX8_best 112 = .ok (.iload_n 3, 1) := by decide +kernel
theorem dX8_best_113 : decode cX8_best 113 = .ok (.goto 9, 3) := by decide +kernel
theorem dX8_best_116 : decode cX8_best 116 = .ok (.iload 4, 2) := by decide +kernel
theorem dX8_best_118 : decode cX8_best 118 = .ok (.sipush 10000, 3) := by decide +kernel
theorem dX8_best_121 : decode cX8_best 121 = .ok (.iadd, 1) := by decide +kernel
theorem dX8_best_122 : decode cX8_best 122 = .ok (.ireturn, 1) := by decide +kernel
theorem dX8_count_0 : decode cX8_count 0 = .ok (.iload_n 1, 1) := by decide +kernel
theorem dX8_count_1 : decode cX8_count 1 = .ok (.tableswitch 136 0 11 #[63, 71, 79, 87, 95, 103, 103, 103, 103, 103, 120, 128], 63) := by decide +kernel
theorem dX8_count_64 : decode cX8_count 64 = .ok (.aload_n 0, 1) := by decide +kernel
theorem dX8_count_65 : decode cX8_count 65 = .ok (.getfield 54, 3) := by decide +kernel
theorem dX8_count_68 : decode cX8_count 68 = .ok (.getfield 83, 3) := by decide +kernel
theorem dX8_count_71 : decode cX8_count 71 = .ok (.ireturn, 1) := by decide +kernel
theorem dX8_count_72 : decode cX8_count 72 = .ok (.aload_n 0, 1) := by decide +kernel
theorem dX8_count_73 : decode cX8_count 73 = .ok (.getfield 54, 3) := by decide +kernel
theorem dX8_count_76 : decode cX8_count 76 = .ok (.getfield 222, 3) := by decide +kernel
theorem dX8_count_79 : decode cX8_count 79 = .ok (.ireturn, 1) := by decide +kernel
theorem dX8_count_80 : decode cX8_count 80 = .ok (.aload_n 0, 1) := by decide +kernel
theorem dX8_count_81 : decode cX8_count 81 = .ok (.getfield 54, 3) := by decide +kernel
theorem dX8_count_84 : decode cX8_count 84 = .ok (.getfield 80, 3) := by decide +kernel
theorem dX8_count_87 : decode cX8_count 87 = .ok (.ireturn, 1) := by decide +kernel
theorem dX8_count_88 : decode cX8_count 88 = .ok (.aload_n 0, 1) := by decide +kernel
theorem dX8_count_89 : decode cX8_count 89 = .ok (.getfield 19, 3) := by decide +kernel
theorem dX8_count_92 : decode cX8_count 92 = .ok (.getfield 90, 3) := by decide +kernel
theorem dX8_count_95 : decode cX8_count 95 = .ok (.ireturn, 1) := by decide +kernel
theorem dX8_count_96 : decode cX8_count 96 = .ok (.aload_n 0, 1) := by decide +kernel
theorem dX8_count_97 : decode cX8_count 97 = .ok (.getfield 33, 3) := by decide +kernel
theorem dX8_count_100 : decode cX8_count 100 = .ok (.getfield 93, 3) := by decide +kernel
theorem dX8_count_103 : decode cX8_count 103 = .ok (.ireturn, 1) := by decide +kernel
theorem dX8_count_104 : decode cX8_count 104 = .ok (.aload_n 0, 1) := by decide +kernel
theorem dX8_count_105 : decode cX8_count 105 = .ok (.getfield 40, 3) := by decide +kernel
theorem dX8_count_108 : decode cX8_count 108 = .ok (.aload_n 0, 1) := by decide +kernel
theorem dX8_count_109 : decode cX8_count 109 = .ok (.getfield 54, 3) := by decide +kernel
theorem dX8_count_112 : decode cX8_count 112 = .ok (.aload_n 0, 1) := by decide +kernel
theorem dX8_count_113 : decode cX8_count 113 = .ok (.getfield 33, 3) := by decide +kernel
theorem dX8_count_116 : decode cX8_count 116 = .ok (.iload_n 1, 1) := by decide +kernel
theorem dX8_count_117 : decode cX8_count 117 = .ok (.invokevirtual 225, 3) := by decide +kernel
theorem dX8_count_120 : decode cX8_count 120 = .ok (.ireturn, 1) := by decide +kernel
theorem dX8_count_121 : decode cX8_count 121 = .ok (.aload_n 0, 1) := by decide +kernel
theorem dX8_count_122 : decode cX8_count 122 = .ok (.getfield 26, 3) := by decide +kernel
theorem dX8_count_125 : decode cX8_count 125 = .ok (.getfield 120, 3) := by decide +kernel
theorem dX8_count_128 : decode cX8_count 128 = .ok (.ireturn, 1) := by decide +kernel
theorem dX8_count_129 : decode cX8_count 129 = .ok (.aload_n 0, 1) := by decide +kernel
theorem dX8_count_130 : decode cX8_count 130 = .ok (.getfield 12, 3) := by decide +kernel
theorem dX8_count_133 : decode cX8_count 133 = .ok (.getfield 68, 3) := by decide +kernel
theorem dX8_count_136 : decode cX8_count 136 = .ok (.ireturn, 1) := by decide +kernel
theorem dX8_count_137 : decode cX8_count 137 = .ok (.iconst (-1), 1) := by decide +kernel
theorem dX8_count_138 : decode cX8_count 138 = .ok (.ireturn, 1) := by decide +kernel
theorem dX8_told_0 : decode cX8_told 0 = .ok (.aload_n 0, 1) := by decide +kernel
theorem dX8_told_1 : decode cX8_told 1 = .ok (.iload_n 1, 1) := by decide +kernel
theorem dX8_told_2 : decode cX8_told 2 = .ok (.invokevirtual 110, 3) := by decide +kernel
theorem dX8_told_5 : decode cX8_told 5 = .ok (.ifCond .ne 5, 3) := by decide +kernel
theorem dX8_told_8 : decode cX8_told 8 = .ok (.iconst (-1), 1) := by decide +kernel
theorem dX8_told_9 : decode cX8_told 9 = .ok (.ireturn, 1) := by decide +kernel
theorem dX8_told_10 : decode cX8_told 10 = .ok (.iload_n 2, 1) := by decide +kernel
theorem dX8_told_11 : decode cX8_told 11 = .ok (.tableswitch 58 0 2 #[25, 35, 45], 25) := by decide +kernel
theorem dX8_told_36 : decode cX8_told 36 = .ok (.aload_n 0, 1) := by decide +kernel
theorem dX8_told_37 : decode cX8_told 37 = .ok (.getfield 54, 3) := by decide +kernel
theorem dX8_told_40 : decode cX8_told 40 = .ok (.getfield 216, 3) := by decide +kernel
theorem dX8_told_43 : decode cX8_told 43 = .ok (.iload_n 1, 1) := by decide +kernel
theorem dX8_told_44 : decode cX8_told 44 = .ok (.iaload, 1) := by decide +kernel
theorem dX8_told_45 : decode cX8_told 45 = .ok (.ireturn, 1) := by decide +kernel
theorem dX8_told_46 : decode cX8_told 46 = .ok (.aload_n 0, 1) := by decide +kernel
theorem dX8_told_47 : decode cX8_told 47 = .ok (.getfield 19, 3) := by decide +kernel
theorem dX8_told_50 : decode cX8_told 50 = .ok (.getfield 114, 3) := by decide +kernel
theorem dX8_told_53 : decode cX8_told 53 = .ok (.iload_n 1, 1) := by decide +kernel
theorem dX8_told_54 : decode cX8_told 54 = .ok (.iaload, 1) := by decide +kernel
theorem dX8_told_55 : decode cX8_told 55 = .ok (.ireturn, 1) := by decide +kernel
theorem dX8_told_56 : decode cX8_told 56 = .ok (.aload_n 0, 1) := by decide +kernel
theorem dX8_told_57 : decode cX8_told 57 = .ok (.getfield 40, 3) := by decide +kernel
theorem dX8_told_60 : decode cX8_told 60 = .ok (.aload_n 0, 1) := by decide +kernel
theorem dX8_told_61 : decode cX8_told 61 = .ok (.getfield 33, 3) := by decide +kernel
theorem dX8_told_64 : decode cX8_told 64 = .ok (.iload_n 1, 1) := by decide +kernel
theorem dX8_told_65 : decode cX8_told 65 = .ok (.invokevirtual 229, 3) := by decide +kernel
theorem dX8_told_68 : decode cX8_told 68 = .ok (.ireturn, 1) := by decide +kernel
theorem dX8_told_69 : decode cX8_told 69 = .ok (.iconst (-1), 1) := by decide +kernel
theorem dX8_told_70 : decode cX8_told 70 = .ok (.ireturn, 1) := by decide +kernel
theorem dX8_isRule_0 : decode cX8_isRule 0 = .ok (.iload_n 1, 1) := by decide +kernel
theorem dX8_isRule_1 : decode cX8_isRule 1 = .ok (.ifCond .lt 23, 3) := by decide +kernel
theorem dX8_isRule_4 : decode cX8_isRule 4 = .ok (.iload_n 1, 1) := by decide +kernel
theorem dX8_isRule_5 : decode cX8_isRule 5 = .ok (.aload_n 0, 1) := by decide +kernel
theorem dX8_isRule_6 : decode cX8_isRule 6 = .ok (.getfield 54, 3) := by decide +kernel
theorem dX8_isRule_9 : decode cX8_isRule 9 = .ok (.getfield 80, 3) := by decide +kernel
theorem dX8_isRule_12 : decode cX8_isRule 12 = .ok (.if_icmp .ge 12, 3) := by decide +kernel
theorem dX8_isRule_15 : decode cX8_isRule 15 = .ok (.iload_n 1, 1) := by decide +kernel
theorem dX8_isRule_16 : decode cX8_isRule 16 = .ok (.iconst 4, 1) := by decide +kernel
theorem dX8_isRule_17 : decode cX8_isRule 17 = .ok (.if_icmp .ge 7, 3) := by decide +kernel
theorem dX8_isRule_20 : decode cX8_isRule 20 = .ok (.iconst 1, 1) := by decide +kernel
theorem dX8_isRule_21 : decode cX8_isRule 21 = .ok (.goto 4, 3) := by decide +kernel
theorem dX8_isRule_24 : decode cX8_isRule 24 = .ok (.iconst 0, 1) := by decide +kernel
theorem dX8_isRule_25 : decode cX8_isRule 25 = .ok (.ireturn, 1) := by decide +kernel
theorem dX8_isValve_0 : decode cX8_isValve 0 = .ok (.iload_n 1, 1) := by decide +kernel
theorem dX8_isValve_1 : decode cX8_isValve 1 = .ok (.ifCond .lt 24, 3) := by decide +kernel
theorem dX8_isValve_4 : decode cX8_isValve 4 = .ok (.iload_n 1, 1) := by decide +kernel
theorem dX8_isValve_5 : decode cX8_isValve 5 = .ok (.aload_n 0, 1) := by decide +kernel
theorem dX8_isValve_6 : decode cX8_isValve 6 = .ok (.getfield 54, 3) := by decide +kernel
theorem dX8_isValve_9 : decode cX8_isValve 9 = .ok (.getfield 222, 3) := by decide +kernel
theorem dX8_isValve_12 : decode cX8_isValve 12 = .ok (.if_icmp .ge 13, 3) := by decide +kernel
theorem dX8_isValve_15 : decode cX8_isValve 15 = .ok (.iload_n 1, 1) := by decide +kernel
theorem dX8_isValve_16 : decode cX8_isValve 16 = .ok (.bipush 16, 2) := by decide +kernel
theorem dX8_isValve_18 : decode cX8_isValve 18 = .ok (.if_icmp .ge 7, 3) := by decide +kernel
theorem dX8_isValve_21 : decode cX8_isValve 21 = .ok (.iconst 1, 1) := by decide +kernel
theorem dX8_isValve_22 : decode cX8_isValve 22 = .ok (.goto 4, 3) := by decide +kernel
theorem dX8_isValve_25 : decode cX8_isValve 25 = .ok (.iconst 0, 1) := by decide +kernel
theorem dX8_isValve_26 : decode cX8_isValve 26 = .ok (.ireturn, 1) := by decide +kernel
theorem dX8_asFlag_0 : decode cX8_asFlag 0 = .ok (.iload_n 0, 1) := by decide +kernel
theorem dX8_asFlag_1 : decode cX8_asFlag 1 = .ok (.ifCond .eq 7, 3) := by decide +kernel
theorem dX8_asFlag_4 : decode cX8_asFlag 4 = .ok (.iconst 1, 1) := by decide +kernel
theorem dX8_asFlag_5 : decode cX8_asFlag 5 = .ok (.goto 4, 3) := by decide +kernel
theorem dX8_asFlag_8 : decode cX8_asFlag 8 = .ok (.iconst 0, 1) := by decide +kernel
theorem dX8_asFlag_9 : decode cX8_asFlag 9 = .ok (.ireturn, 1) := by decide +kernel
theorem dX8_layDraft_0 : decode cX8_layDraft 0 = .ok (.aload_n 0, 1) := by decide +kernel
theorem dX8_layDraft_1 : decode cX8_layDraft 1 = .ok (.getfield 54, 3) := by decide +kernel
theorem dX8_layDraft_4 : decode cX8_layDraft 4 = .ok (.astore_n 1, 1) := by decide +kernel
theorem dX8_layDraft_5 : decode cX8_layDraft 5 = .ok (.aload_n 0, 1) := by decide +kernel
theorem dX8_layDraft_6 : decode cX8_layDraft 6 = .ok (.aload_n 0, 1) := by decide +kernel
theorem dX8_layDraft_7 : decode cX8_layDraft 7 = .ok (.getfield 58, 3) := by decide +kernel
theorem dX8_layDraft_10 : decode cX8_layDraft 10 = .ok (.putfield 54, 3) := by decide +kernel
theorem dX8_layDraft_13 : decode cX8_layDraft 13 = .ok (.aload_n 0, 1) := by decide +kernel
theorem dX8_layDraft_14 : decode cX8_layDraft 14 = .ok (.aload_n 1, 1) := by decide +kernel
theorem dX8_layDraft_15 : decode cX8_layDraft 15 = .ok (.putfield 58, 3) := by decide +kernel
theorem dX8_layDraft_18 : decode cX8_layDraft 18 = .ok (.aload_n 0, 1) := by decide +kernel
theorem dX8_layDraft_19 : decode cX8_layDraft 19 = .ok (.getfield 54, 3) := by decide +kernel
theorem dX8_layDraft_22 : decode cX8_layDraft 22 = .ok (.getfield 233, 3) := by decide +kernel
theorem dX8_layDraft_25 : decode cX8_layDraft 25 = .ok (.iconst 0, 1) := by decide +kernel
theorem dX8_layDraft_26 : decode cX8_layDraft 26 = .ok (.aload_n 0, 1) := by decide +kernel
theorem dX8_layDraft_27 : decode cX8_layDraft 27 = .ok (.getfield 19, 3) := by decide +kernel
theorem dX8_layDraft_30 : decode cX8_layDraft 30 = .ok (.getfield 114, 3) := by decide +kernel
theorem dX8_layDraft_33 : decode cX8_layDraft 33 = .ok (.iconst 0, 1) := by decide +kernel
theorem dX8_layDraft_34 : decode cX8_layDraft 34 = .ok (.iconst 4, 1) := by decide +kernel
theorem dX8_layDraft_35 : decode cX8_layDraft 35 = .ok (.invokestatic 206, 3) := by decide +kernel
theorem dX8_layDraft_38 : decode cX8_layDraft 38 = .ok (.aload_n 0, 1) := by decide +kernel
theorem dX8_layDraft_39 : decode cX8_layDraft 39 = .ok (.getfield 26, 3) := by decide +kernel
theorem dX8_layDraft_42 : decode cX8_layDraft 42 = .ok (.invokevirtual 234, 3) := by decide +kernel
theorem dX8_layDraft_45 : decode cX8_layDraft 45 = .ok (.aload_n 0, 1) := by decide +kernel
theorem dX8_layDraft_46 : decode cX8_layDraft 46 = .ok (.invokevirtual 117, 3) := by decide +kernel
theorem dX8_layDraft_49 : decode cX8_layDraft 49 = .ok (.return_, 1) := by decide +kernel
theorem dX8_dropLines_0 : decode cX8_dropLines 0 = .ok (.aload_n 0, 1) := by decide +kernel
theorem dX8_dropLines_1 : decode cX8_dropLines 1 = .ok (.getfield 19, 3) := by decide +kernel
theorem dX8_dropLines_4 : decode cX8_dropLines 4 = .ok (.iconst 0, 1) := by decide +kernel
theorem dX8_dropLines_5 : decode cX8_dropLines 5 = .ok (.putfield 90, 3) := by decide +kernel
theorem dX8_dropLines_8 : decode cX8_dropLines 8 = .ok (.aload_n 0, 1) := by decide +kernel
theorem dX8_dropLines_9 : decode cX8_dropLines 9 = .ok (.getfield 33, 3) := by decide +kernel
theorem dX8_dropLines_12 : decode cX8_dropLines 12 = .ok (.invokevirtual 237, 3) := by decide +kernel
theorem dX8_dropLines_15 : decode cX8_dropLines 15 = .ok (.aload_n 0, 1) := by decide +kernel
theorem dX8_dropLines_16 : decode cX8_dropLines 16 = .ok (.invokevirtual 107, 3) := by decide +kernel
theorem dX8_dropLines_19 : decode cX8_dropLines 19 = .ok (.return_, 1) := by decide +kernel
theorem dX8_foldAll_0 : decode cX8_foldAll 0 = .ok (.aload_n 0, 1) := by decide +kernel
theorem dX8_foldAll_1 : decode cX8_foldAll 1 = .ok (.getfield 33, 3) := by decide +kernel
theorem dX8_foldAll_4 : decode cX8_foldAll 4 = .ok (.invokevirtual 237, 3) := by decide +kernel
theorem dX8_foldAll_7 : decode cX8_foldAll 7 = .ok (.iconst 0, 1) := by decide +kernel
theorem dX8_foldAll_8 : decode cX8_foldAll 8 = .ok (.istore_n 1, 1) := by decide +kernel
theorem dX8_foldAll_9 : decode cX8_foldAll 9 = .ok (.iload_n 1, 1) := by decide +kernel
theorem dX8_foldAll_10 : decode cX8_foldAll 10 = .ok (.aload_n 0, 1) := by decide +kernel
theorem dX8_foldAll_11 : decode cX8_foldAll 11 = .ok (.getfield 19, 3) := by decide +kernel
theorem dX8_foldAll_14 : decode cX8_foldAll 14 = .ok (.getfield 90, 3) := by decide +kernel
theorem dX8_foldAll_17 : decode cX8_foldAll 17 = .ok (.if_icmp .ge 37, 3) := by decide +kernel
theorem dX8_foldAll_20 : decode cX8_foldAll 20 = .ok (.iload_n 1, 1) := by decide +kernel
theorem dX8_foldAll_21 : decode cX8_foldAll 21 = .ok (.bipush 60, 2) := by decide +kernel
theorem dX8_foldAll_23 : decode cX8_foldAll 23 = .ok (.if_icmp .ge 31, 3) := by decide +kernel
theorem dX8_foldAll_26 : decode cX8_foldAll 26 = .ok (.aload_n 0, 1) := by decide +kernel
theorem dX8_foldAll_27 : decode cX8_foldAll 27 = .ok (.getfield 33, 3) := by decide +kernel
theorem dX8_foldAll_30 : decode cX8_foldAll 30 = .ok (.aload_n 0, 1) := by decide +kernel
theorem dX8_foldAll_31 : decode cX8_foldAll 31 = .ok (.getfield 54, 3) := by decide +kernel
theorem dX8_foldAll_34 : decode cX8_foldAll 34 = .ok (.aload_n 0, 1) := by decide +kernel
theorem dX8_foldAll_35 : decode cX8_foldAll 35 = .ok (.getfield 19, 3) := by decide +kernel
theorem dX8_foldAll_38 : decode cX8_foldAll 38 = .ok (.getfield 240, 3) := by decide +kernel
theorem dX8_foldAll_41 : decode cX8_foldAll 41 = .ok (.iload_n 1, 1) := by decide +kernel
theorem dX8_foldAll_42 : decode cX8_foldAll 42 = .ok (.laload, 1) := by decide +kernel
theorem dX8_foldAll_43 : decode cX8_foldAll 43 = .ok (.iload_n 1, 1) := by decide +kernel
theorem dX8_foldAll_44 : decode cX8_foldAll 44 = .ok (.invokevirtual 104, 3) := by decide +kernel
theorem dX8_foldAll_47 : decode cX8_foldAll 47 = .ok (.pop, 1) := by decide +kernel
theorem dX8_foldAll_48 : decode cX8_foldAll 48 = .ok (.iinc 1 1, 3) := by decide +kernel
theorem dX8_foldAll_51 : decode cX8_foldAll 51 = .ok (.goto (-42), 3) := by decide +kernel
theorem dX8_foldAll_54 : decode cX8_foldAll 54 = .ok (.aload_n 0, 1) := by decide +kernel
theorem dX8_foldAll_55 : decode cX8_foldAll 55 = .ok (.invokevirtual 107, 3) := by decide +kernel
theorem dX8_foldAll_58 : decode cX8_foldAll 58 = .ok (.return_, 1) := by decide +kernel
theorem dX8_judge_0 : decode cX8_judge 0 = .ok (.aload_n 0, 1) := by decide +kernel
theorem dX8_judge_1 : decode cX8_judge 1 = .ok (.getfield 40, 3) := by decide +kernel
theorem dX8_judge_4 : decode cX8_judge 4 = .ok (.aload_n 0, 1) := by decide +kernel
theorem dX8_judge_5 : decode cX8_judge 5 = .ok (.getfield 54, 3) := by decide +kernel
theorem dX8_judge_8 : decode cX8_judge 8 = .ok (.aload_n 0, 1) := by decide +kernel
theorem dX8_judge_9 : decode cX8_judge 9 = .ok (.getfield 19, 3) := by decide +kernel
theorem dX8_judge_12 : decode cX8_judge 12 = .ok (.getfield 114, 3) := by decide +kernel
theorem dX8_judge_15 : decode cX8_judge 15 = .ok (.aload_n 0, 1) := by decide +kernel
theorem dX8_judge_16 : decode cX8_judge 16 = .ok (.getfield 33, 3) := by decide +kernel
theorem dX8_judge_19 : decode cX8_judge 19 = .ok (.invokevirtual 244, 3) := by decide +kernel
theorem dX8_judge_22 : decode cX8_judge 22 = .ok (.return_, 1) := by decide +kernel
theorem dX8_worthByNumber_0 : decode cX8_worthByNumber 0 = .ok (.iload_n 1, 1) := by decide +kernel
theorem dX8_worthByNumber_1 : decode cX8_worthByNumber 1 = .ok (.ifCond .lt 8, 3) := by decide +kernel
theorem dX8_worthByNumber_4 : decode cX8_worthByNumber 4 = .ok (.iload_n 1, 1) := by decide +kernel
theorem dX8_worthByNumber_5 : decode cX8_worthByNumber 5 = .ok (.iconst 4, 1) := by decide +kernel
theorem dX8_worthByNumber_6 : decode cX8_worthByNumber 6 = .ok (.if_icmp .lt 5, 3) := by decide +kernel
theorem dX8_worthByNumber_9 : decode cX8_worthByNumber 9 = .ok (.iconst 0, 1) := by decide +kernel
theorem dX8_worthByNumber_10 : decode cX8_worthByNumber 10 = .ok (.ireturn, 1) := by decide +kernel
theorem dX8_worthByNumber_11 : decode cX8_worthByNumber 11 = .ok (.aload_n 0, 1) := by decide +kernel
theorem dX8_worthByNumber_12 : decode cX8_worthByNumber 12 = .ok (.getfield 47, 3) := by decide +kernel
theorem dX8_worthByNumber_15 : decode cX8_worthByNumber 15 = .ok (.iload_n 1, 1) := by decide +kernel
theorem dX8_worthByNumber_16 : decode cX8_worthByNumber 16 = .ok (.iload_n 2, 1) := by decide +kernel
theorem dX8_worthByNumber_17 : decode cX8_worthByNumber 17 = .ok (.iastore, 1) := by decide +kernel
theorem dX8_worthByNumber_18 : decode cX8_worthByNumber 18 = .ok (.aload_n 0, 1) := by decide +kernel
theorem dX8_worthByNumber_19 : decode cX8_worthByNumber 19 = .ok (.getfield 44, 3) := by decide +kernel
theorem dX8_worthByNumber_22 : decode cX8_worthByNumber 22 = .ok (.aload_n 0, 1) := by decide +kernel
theorem dX8_worthByNumber_23 : decode cX8_worthByNumber 23 = .ok (.getfield 54, 3) := by decide +kernel
theorem dX8_worthByNumber_26 : decode cX8_worthByNumber 26 = .ok (.aload_n 0, 1) := by decide +kernel
theorem dX8_worthByNumber_27 : decode cX8_worthByNumber 27 = .ok (.getfield 47, 3) := by decide +kernel
theorem dX8_worthByNumber_30 : decode cX8_worthByNumber 30 = .ok (.aload_n 0, 1) := by decide +kernel
theorem dX8_worthByNumber_31 : decode cX8_worthByNumber 31 = .ok (.getfield 33, 3) := by decide +kernel
theorem dX8_worthByNumber_34 : decode cX8_worthByNumber 34 = .ok (.invokevirtual 244, 3) := by decide +kernel
theorem dX8_worthByNumber_37 : decode cX8_worthByNumber 37 = .ok (.aload_n 0, 1) := by decide +kernel
theorem dX8_worthByNumber_38 : decode cX8_worthByNumber 38 = .ok (.getfield 44, 3) := by decide +kernel
theorem dX8_worthByNumber_41 : decode cX8_worthByNumber 41 = .ok (.aload_n 0, 1) := by decide +kernel
theorem dX8_worthByNumber_42 : decode cX8_worthByNumber 42 = .ok (.getfield 33, 3) := by decide +kernel
theorem dX8_worthByNumber_45 : decode cX8_worthByNumber 45 = .ok (.invokevirtual 202, 3) := by decide +kernel
theorem dX8_worthByNumber_48 : decode cX8_worthByNumber 48 = .ok (.ireturn, 1) := by decide +kernel
theorem dJ7_fill_53178_0 : decode cJ7_fill_53178 0 = .ok (.iconst 0, 1) := by decide +kernel
theorem dJ7_fill_53178_1 : decode cJ7_fill_53178 1 = .ok (.istore_n 2, 1) := by decide +kernel
theorem dJ7_fill_53178_2 : decode cJ7_fill_53178 2 = .ok (.aload_n 0, 1) := by decide +kernel
theorem dJ7_fill_53178_3 : decode cJ7_fill_53178 3 = .ok (.arraylength, 1) := by decide +kernel
theorem dJ7_fill_53178_4 : decode cJ7_fill_53178 4 = .ok (.istore_n 3, 1) := by decide +kernel
theorem dJ7_fill_53178_5 : decode cJ7_fill_53178 5 = .ok (.iload_n 2, 1) := by decide +kernel
theorem dJ7_fill_53178_6 : decode cJ7_fill_53178 6 = .ok (.iload_n 3, 1) := by decide +kernel
theorem dJ7_fill_53178_7 : decode cJ7_fill_53178 7 = .ok (.if_icmp .ge 13, 3) := by decide +kernel
theorem dJ7_fill_53178_10 : decode cJ7_fill_53178 10 = .ok (.aload_n 0, 1) := by decide +kernel
theorem dJ7_fill_53178_11 : decode cJ7_fill_53178 11 = .ok (.iload_n 2, 1) := by decide +kernel
theorem dJ7_fill_53178_12 : decode cJ7_fill_53178 12 = .ok (.iload_n 1, 1) := by decide +kernel
theorem dJ7_fill_53178_13 : decode cJ7_fill_53178 13 = .ok (.iastore, 1) := by decide +kernel
theorem dJ7_fill_53178_14 : decode cJ7_fill_53178 14 = .ok (.iinc 2 1, 3) := by decide +kernel
theorem dJ7_fill_53178_17 : decode cJ7_fill_53178 17 = .ok (.goto (-12), 3) := by decide +kernel
theorem dJ7_fill_53178_20 : decode cJ7_fill_53178 20 = .ok (.return_, 1) := by decide +kernel
theorem dL_law_0 : decode cL_law 0 = .ok (.new 7, 3) := by decide +kernel
theorem dL_law_3 : decode cL_law 3 = .ok (.dup, 1) := by decide +kernel
theorem dL_law_4 : decode cL_law 4 = .ok (.invokespecial 9, 3) := by decide +kernel
theorem dL_law_7 : decode cL_law 7 = .ok (.astore_n 1, 1) := by decide +kernel
theorem dL_law_8 : decode cL_law 8 = .ok (.new 10, 3) := by decide +kernel
theorem dL_law_11 : decode cL_law 11 = .ok (.dup, 1) := by decide +kernel
theorem dL_law_12 : decode cL_law 12 = .ok (.invokespecial 12, 3) := by decide +kernel
theorem dL_law_15 : decode cL_law 15 = .ok (.astore_n 2, 1) := by decide +kernel
theorem dL_law_16 : decode cL_law 16 = .ok (.iconst 0, 1) := by decide +kernel
theorem dL_law_17 : decode cL_law 17 = .ok (.istore_n 3, 1) := by decide +kernel
theorem dL_law_18 : decode cL_law 18 = .ok (.iload_n 3, 1) := by decide +kernel
theorem dL_law_19 : decode cL_law 19 = .ok (.aload_n 0, 1) := by decide +kernel
theorem dL_law_20 : decode cL_law 20 = .ok (.arraylength, 1) := by decide +kernel
theorem dL_law_21 : decode cL_law 21 = .ok (.iconst 4, 1) := by decide +kernel
theorem dL_law_22 : decode cL_law 22 = .ok (.isub, 1) := by decide +kernel
theorem dL_law_23 : decode cL_law 23 = .ok (.if_icmp .gt 493, 3) := by decide +kernel
theorem dL_law_26 : decode cL_law 26 = .ok (.aload_n 0, 1) := by decide +kernel
theorem dL_law_27 : decode cL_law 27 = .ok (.iload_n 3, 1) := by decide +kernel
theorem dL_law_28 : decode cL_law 28 = .ok (.iaload, 1) := by decide +kernel
theorem dL_law_29 : decode cL_law 29 = .ok (.bipush 15, 2) := by decide +kernel
theorem dL_law_31 : decode cL_law 31 = .ok (.iand, 1) := by decide +kernel
theorem dL_law_32 : decode cL_law 32 = .ok (.tableswitch 478 0 15 #[80, 103, 116, 129, 142, 195, 228, 241, 254, 287, 310, 353, 376, 389, 422, 445], 80) := by decide +kernel
theorem dL_law_112 : decode cL_law 112 = .ok (.aload_n 1, 1) := by decide +kernel
theorem dL_law_113 : decode cL_law 113 = .ok (.aload_n 0, 1) := by decide +kernel
theorem dL_law_114 : decode cL_law 114 = .ok (.iload_n 3, 1) := by decide +kernel
theorem dL_law_115 : decode cL_law 115 = .ok (.iconst 1, 1) := by decide +kernel
theorem dL_law_116 : decode cL_law 116 = .ok (.iadd, 1) := by decide +kernel
theorem dL_law_117 : decode cL_law 117 = .ok (.iaload, 1) := by decide +kernel
theorem dL_law_118 : decode cL_law 118 = .ok (.invokevirtual 13, 3) := by decide +kernel
theorem dL_law_121 : decode cL_law 121 = .ok (.aload_n 2, 1) := by decide +kernel
theorem dL_law_122 : decode cL_law 122 = .ok (.aload_n 0, 1) := by decide +kernel
theorem dL_law_123 : decode cL_law 123 = .ok (.iload_n 3, 1) := by decide +kernel
theorem dL_law_124 : decode cL_law 124 = .ok (.iconst 1, 1) := by decide +kernel
theorem dL_law_125 : decode cL_law 125 = .ok (.iadd, 1) := by decide +kernel
theorem dL_law_126 : decode cL_law 126 = .ok (.iaload, 1) := by decide +kernel
theorem dL_law_127 : decode cL_law 127 = .ok (.invokevirtual 17, 3) := by decide +kernel
theorem dL_law_130 : decode cL_law 130 = .ok (.if_icmp .eq 380, 3) := by decide +kernel
theorem dL_law_133 : decode cL_law 133 = .ok (.iconst 0, 1) := by decide +kernel
theorem dL_law_134 : decode cL_law 134 = .ok (.ireturn, 1) := by decide +kernel
theorem dL_law_135 : decode cL_law 135 = .ok (.aload_n 1, 1) := by decide +kernel
theorem dL_law_136 : decode cL_law 136 = .ok (.invokevirtual 18, 3) := by decide +kernel
theorem dL_law_139 : decode cL_law 139 = .ok (.aload_n 2, 1) := by decide +kernel
theorem dL_law_140 : decode cL_law 140 = .ok (.invokevirtual 22, 3) := by decide +kernel
theorem dL_law_143 : decode cL_law 143 = .ok (.if_icmp .eq 367, 3) := by decide +kernel
theorem dL_law_146 : decode cL_law 146 = .ok (.iconst 0, 1) := by decide +kernel
theorem dL_law_147 : decode cL_law 147 = .ok (.ireturn, 1) := by decide +kernel
theorem dL_law_148 : decode cL_law 148 = .ok (.aload_n 1, 1) := by decide +kernel
theorem dL_law_149 : decode cL_law 149 = .ok (.invokevirtual 23, 3) := by decide +kernel
theorem dL_law_152 : decode cL_law 152 = .ok (.aload_n 2, 1) := by decide +kernel
theorem dL_law_153 : decode cL_law 153 = .ok (.invokevirtual 26, 3) := by decide +kernel
theorem dL_law_156 : decode cL_law 156 = .ok (.if_icmp .eq 354, 3) := by decide +kernel
theorem dL_law_159 : decode cL_law 159 = .ok (.iconst 0, 1) := by decide +kernel
theorem dL_law_160 : decode cL_law 160 = .ok (.ireturn, 1) := by decide +kernel
theorem dL_law_161 : decode cL_law 161 = .ok (.aload_n 1, 1) := by decide +kernel
theorem dL_law_162 : decode cL_law 162 = .ok (.invokevirtual 27, 3) := by decide +kernel
theorem dL_law_165 : decode cL_law 165 = .ok (.aload_n 2, 1) := by decide +kernel
theorem dL_law_166 : decode cL_law 166 = .ok (.invokevirtual 30, 3) := by decide +kernel
theorem dL_law_169 : decode cL_law 169 = .ok (.if_icmp .eq 341, 3) := by decide +kernel
theorem dL_law_172 : decode cL_law 172 = .ok (.iconst 0, 1) := by decide +kernel
theorem dL_law_173 : decode cL_law 173 = .ok (.ireturn, 1) := by decide +kernel
theorem dL_law_174 : decode cL_law 174 = .ok (.aload_n 1, 1) := by decide +kernel
theorem dL_law_175 : decode cL_law 175 = .ok (.aload_n 0, 1) := by decide +kernel
theorem dL_law_176 : decode cL_law 176 = .ok (.iload_n 3, 1) := by decide +kernel
theorem dL_law_177 : decode cL_law 177 = .ok (.iconst 1, 1) := by decide +kernel
theorem dL_law_178 : decode cL_law 178 = .ok (.iadd, 1) := by decide +kernel
theorem dL_law_179 : decode cL_law 179 = .ok (.iaload, 1) := by decide +kernel
theorem dL_law_180 : decode cL_law 180 = .ok (.i2l, 1) := by decide +kernel
theorem dL_law_181 : decode cL_law 181 = .ok (.bipush 32, 2) := by decide +kernel
theorem dL_law_183 : decode cL_law 183 = .ok (.lshl, 1) := by decide +kernel
theorem dL_law_184 : decode cL_law 184 = .ok (.aload_n 0, 1) := by decide +kernel
theorem dL_law_185 : decode cL_law 185 = .ok (.iload_n 3, 1) := by decide +kernel
theorem dL_law_186 : decode cL_law 186 = .ok (.iconst 2, 1) := by decide +kernel
theorem dL_law_187 : decode cL_law 187 = .ok (.iadd, 1) := by decide +kernel
theorem dL_law_188 : decode cL_law 188 = .ok (.iaload, 1) := by decide +kernel
theorem dL_law_189 : decode cL_law 189 = .ok (.i2l, 1) := by decide +kernel
theorem dL_law_190 : decode cL_law 190 = .ok (.ldc2_w 31, 3) := by decide +kernel
theorem dL_law_193 : decode cL_law 193 = .ok (.land, 1) := by decide +kernel
theorem dL_law_194 : decode cL_law 194 = .ok (.lor, 1) := by decide +kernel
theorem dL_law_195 : decode cL_law 195 = .ok (.invokevirtual 33, 3) := by decide +kernel
theorem dL_law_198 : decode cL_law 198 = .ok (.aload_n 2, 1) := by decide +kernel
theorem dL_law_199 : decode cL_law 199 = .ok (.aload_n 0, 1) := by decide +kernel
theorem dL_law_200 : decode cL_law 200 = .ok (.iload_n 3, 1) := by decide +kernel
theorem dL_law_201 : decode cL_law 201 = .ok (.iconst 1, 1) := by decide +kernel
theorem dL_law_202 : decode cL_law 202 = .ok (.iadd, 1) := by decide +kernel
theorem dL_law_203 : decode cL_law 203 = .ok (.iaload, 1) := by decide +kernel
theorem dL_law_204 : decode cL_law 204 = .ok (.i2l, 1) := by decide +kernel
theorem dL_law_205 : decode cL_law 205 = .ok (.bipush 32, 2) := by decide +kernel
theorem dL_law_207 : decode cL_law 207 = .ok (.lshl, 1) := by decide +kernel
theorem dL_law_208 : decode cL_law 208 = .ok (.aload_n 0, 1) := by decide +kernel
theorem dL_law_209 : decode cL_law 209 = .ok (.iload_n 3, 1) := by decide +kernel
theorem dL_law_210 : decode cL_law 210 = .ok (.iconst 2, 1) := by decide +kernel
theorem dL_law_211 : decode cL_law 211 = .ok (.iadd, 1) := by decide +kernel
theorem dL_law_212 : decode cL_law 212 = .ok (.iaload, 1) := by decide +kernel
theorem dL_law_213 : decode cL_law 213 = .ok (.i2l, 1) := by decide +kernel
theorem dL_law_214 : decode cL_law 214 = .ok (.ldc2_w 31, 3) := by decide +kernel
theorem dL_law_217 : decode cL_law 217 = .ok (.land, 1) := by decide +kernel
theorem dL_law_218 : decode cL_law 218 = .ok (.lor, 1) := by decide +kernel
theorem dL_law_219 : decode cL_law 219 = .ok (.invokevirtual 37, 3) := by decide +kernel
theorem dL_law_222 : decode cL_law 222 = .ok (.if_icmp .eq 288, 3) := by decide +kernel
theorem dL_law_225 : decode cL_law 225 = .ok (.iconst 0, 1) := by decide +kernel
theorem dL_law_226 : decode cL_law 226 = .ok (.ireturn, 1) := by decide +kernel
theorem dL_law_227 : decode cL_law 227 = .ok (.aload_n 1, 1) := by decide +kernel
theorem dL_law_228 : decode cL_law 228 = .ok (.aload_n 0, 1) := by decide +kernel
theorem dL_law_229 : decode cL_law 229 = .ok (.iload_n 3, 1) := by decide +kernel
theorem dL_law_230 : decode cL_law 230 = .ok (.iconst 1, 1) := by decide +kernel
theorem dL_law_231 : decode cL_law 231 = .ok (.iadd, 1) := by decide +kernel
theorem dL_law_232 : decode cL_law 232 = .ok (.iaload, 1) := by decide +kernel
theorem dL_law_233 : decode cL_law 233 = .ok (.aload_n 0, 1) := by decide +kernel
theorem dL_law_234 : decode cL_law 234 = .ok (.iload_n 3, 1) := by decide +kernel
theorem dL_law_235 : decode cL_law 235 = .ok (.iconst 2, 1) := by decide +kernel
theorem dL_law_236 : decode cL_law 236 = .ok (.iadd, 1) := by decide +kernel
theorem dL_law_237 : decode cL_law 237 = .ok (.iaload, 1) := by decide +kernel
theorem dL_law_238 : decode cL_law 238 = .ok (.invokevirtual 38, 3) := by decide +kernel
theorem dL_law_241 : decode cL_law 241 = .ok (.aload_n 2, 1) := by decide +kernel
theorem dL_law_242 : decode cL_law 242 = .ok (.aload_n 0, 1) := by decide +kernel
theorem dL_law_243 : decode cL_law 243 = .ok (.iload_n 3, 1) := by decide +kernel
theorem dL_law_244 : decode cL_law 244 = .ok (.iconst 1, 1) := by decide +kernel
theorem dL_law_245 : decode cL_law 245 = .ok (.iadd, 1) := by decide +kernel
theorem dL_law_246 : decode cL_law 246 = .ok (.iaload, 1) := by decide +kernel
theorem dL_law_247 : decode cL_law 247 = .ok (.aload_n 0, 1) := by decide +kernel
theorem dL_law_248 : decode cL_law 248 = .ok (.iload_n 3, 1) := by decide +kernel
theorem dL_law_249 : decode cL_law 249 = .ok (.iconst 2, 1) := by decide +kernel
theorem dL_law_250 : decode cL_law 250 = .ok (.iadd, 1) := by decide +kernel
theorem dL_law_251 : decode cL_law 251 = .ok (.iaload, 1) := by decide +kernel
theorem dL_law_252 : decode cL_law 252 = .ok (.invokevirtual 42, 3) := by decide +kernel
theorem dL_law_255 : decode cL_law 255 = .ok (.if_icmp .eq 255, 3) := by decide +kernel
theorem dL_law_258 : decode cL_law 258 = .ok (.iconst 0, 1) := by decide +kernel
theorem dL_law_259 : decode cL_law 259 = .ok (.ireturn, 1) := by decide +kernel
theorem dL_law_260 : decode cL_law 260 = .ok (.aload_n 1, 1) := by decide +kernel
theorem dL_law_261 : decode cL_law 261 = .ok (.invokevirtual 43, 3) := by decide +kernel
theorem dL_law_264 : decode cL_law 264 = .ok (.aload_n 2, 1) := by decide +kernel
theorem dL_law_265 : decode cL_law 265 = .ok (.invokevirtual 46, 3) := by decide +kernel
theorem dL_law_268 : decode cL_law 268 = .ok (.if_icmp .eq 242, 3) := by decide +kernel
theorem dL_law_271 : decode cL_law 271 = .ok (.iconst 0, 1) := by decide +kernel
theorem dL_law_272 : decode cL_law 272 = .ok (.ireturn, 1) := by decide +kernel
theorem dL_law_273 : decode cL_law 273 = .ok (.aload_n 1, 1) := by decide +kernel
theorem dL_law_274 : decode cL_law 274 = .ok (.invokevirtual 47, 3) := by decide +kernel
theorem dL_law_277 : decode cL_law 277 = .ok (.aload_n 2, 1) := by decide +kernel
theorem dL_law_278 : decode cL_law 278 = .ok (.invokevirtual 50, 3) := by decide +kernel
theorem dL_law_281 : decode cL_law 281 = .ok (.if_icmp .eq 229, 3) := by decide +kernel
theorem dL_law_284 : decode cL_law 284 = .ok (.iconst 0, 1) := by decide +kernel
theorem dL_law_285 : decode cL_law 285 = .ok (.ireturn, 1) := by decide +kernel
theorem dL_law_286 : decode cL_law 286 = .ok (.aload_n 1, 1) := by decide +kernel
theorem dL_law_287 : decode cL_law 287 = .ok (.aload_n 0, 1) := by decide +kernel
theorem dL_law_288 : decode cL_law 288 = .ok (.iload_n 3, 1) := by decide +kernel
theorem dL_law_289 : decode cL_law 289 = .ok (.iconst 1, 1) := by decide +kernel
theorem dL_law_290 : decode cL_law 290 = .ok (.iadd, 1) := by decide +kernel
theorem dL_law_291 : decode cL_law 291 = .ok (.iaload, 1) := by decide +kernel
theorem dL_law_292 : decode cL_law 292 = .ok (.aload_n 0, 1) := by decide +kernel
theorem dL_law_293 : decode cL_law 293 = .ok (.iload_n 3, 1) := by decide +kernel
theorem dL_law_294 : decode cL_law 294 = .ok (.iconst 2, 1) := by decide +kernel
theorem dL_law_295 : decode cL_law 295 = .ok (.iadd, 1) := by decide +kernel
theorem dL_law_296 : decode cL_law 296 = .ok (.iaload, 1) := by decide +kernel
theorem dL_law_297 : decode cL_law 297 = .ok (.invokevirtual 51, 3) := by decide +kernel
theorem dL_law_300 : decode cL_law 300 = .ok (.aload_n 2, 1) := by decide +kernel
theorem dL_law_301 : decode cL_law 301 = .ok (.aload_n 0, 1) := by decide +kernel
theorem dL_law_302 : decode cL_law 302 = .ok (.iload_n 3, 1) := by decide +kernel
theorem dL_law_303 : decode cL_law 303 = .ok (.iconst 1, 1) := by decide +kernel
theorem dL_law_304 : decode cL_law 304 = .ok (.iadd, 1) := by decide +kernel
theorem dL_law_305 : decode cL_law 305 = .ok (.iaload, 1) := by decide +kernel
theorem dL_law_306 : decode cL_law 306 = .ok (.aload_n 0, 1) := by decide +kernel
theorem dL_law_307 : decode cL_law 307 = .ok (.iload_n 3, 1) := by decide +kernel
theorem dL_law_308 : decode cL_law 308 = .ok (.iconst 2, 1) := by decide +kernel
theorem dL_law_309 : decode cL_law 309 = .ok (.iadd, 1) := by decide +kernel
theorem dL_law_310 : decode cL_law 310 = .ok (.iaload, 1) := by decide +kernel
theorem dL_law_311 : decode cL_law 311 = .ok (.invokevirtual 54, 3) := by decide +kernel
theorem dL_law_314 : decode cL_law 314 = .ok (.if_icmp .eq 196, 3) := by decide +kernel
theorem dL_law_317 : decode cL_law 317 = .ok (.iconst 0, 1) := by decide +kernel
theorem dL_law_318 : decode cL_law 318 = .ok (.ireturn, 1) := by decide +kernel
theorem dL_law_319 : decode cL_law 319 = .ok (.aload_n 1, 1) := by decide +kernel
theorem dL_law_320 : decode cL_law 320 = .ok (.aload_n 0, 1) := by decide +kernel
theorem dL_law_321 : decode cL_law 321 = .ok (.iload_n 3, 1) := by decide +kernel
theorem dL_law_322 : decode cL_law 322 = .ok (.iconst 1, 1) := by decide +kernel
theorem dL_law_323 : decode cL_law 323 = .ok (.iadd, 1) := by decide +kernel
theorem dL_law_324 : decode cL_law 324 = .ok (.iaload, 1) := by decide +kernel
theorem dL_law_325 : decode cL_law 325 = .ok (.invokevirtual 55, 3) := by decide +kernel
theorem dL_law_328 : decode cL_law 328 = .ok (.aload_n 2, 1) := by decide +kernel
theorem dL_law_329 : decode cL_law 329 = .ok (.aload_n 0, 1) := by decide +kernel
theorem dL_law_330 : decode cL_law 330 = .ok (.iload_n 3, 1) := by decide +kernel
theorem dL_law_331 : decode cL_law 331 = .ok (.iconst 1, 1) := by decide +kernel
theorem dL_law_332 : decode cL_law 332 = .ok (.iadd, 1) := by decide +kernel
theorem dL_law_333 : decode cL_law 333 = .ok (.iaload, 1) := by decide +kernel
theorem dL_law_334 : decode cL_law 334 = .ok (.invokevirtual 58, 3) := by decide +kernel
theorem dL_law_337 : decode cL_law 337 = .ok (.if_icmp .eq 173, 3) := by decide +kernel
theorem dL_law_340 : decode cL_law 340 = .ok (.iconst 0, 1) := by decide +kernel
theorem dL_law_341 : decode cL_law 341 = .ok (.ireturn, 1) := by decide +kernel
theorem dL_law_342 : decode cL_law 342 = .ok (.aload_n 1, 1) := by decide +kernel
theorem dL_law_343 : decode cL_law 343 = .ok (.aload_n 0, 1) := by decide +kernel
theorem dL_law_344 : decode cL_law 344 = .ok (.iload_n 3, 1) := by decide +kernel
theorem dL_law_345 : decode cL_law 345 = .ok (.iconst 1, 1) := by decide +kernel
theorem dL_law_346 : decode cL_law 346 = .ok (.iadd, 1) := by decide +kernel
theorem dL_law_347 : decode cL_law 347 = .ok (.iaload, 1) := by decide +kernel
theorem dL_law_348 : decode cL_law 348 = .ok (.aload_n 0, 1) := by decide +kernel
theorem dL_law_349 : decode cL_law 349 = .ok (.iload_n 3, 1) := by decide +kernel
theorem dL_law_350 : decode cL_law 350 = .ok (.iconst 2, 1) := by decide +kernel
theorem dL_law_351 : decode cL_law 351 = .ok (.iadd, 1) := by decide +kernel
theorem dL_law_352 : decode cL_law 352 = .ok (.iaload, 1) := by decide +kernel
theorem dL_law_353 : decode cL_law 353 = .ok (.aload_n 0, 1) := by decide +kernel
theorem dL_law_354 : decode cL_law 354 = .ok (.iload_n 3, 1) := by decide +kernel
theorem dL_law_355 : decode cL_law 355 = .ok (.iconst 3, 1) := by decide +kernel
theorem dL_law_356 : decode cL_law 356 = .ok (.iadd, 1) := by decide +kernel
theorem dL_law_357 : decode cL_law 357 = .ok (.iaload, 1) := by decide +kernel
theorem dL_law_358 : decode cL_law 358 = .ok (.invokevirtual 59, 3) := by decide +kernel
theorem dL_law_361 : decode cL_law 361 = .ok (.aload_n 2, 1) := by decide +kernel
theorem dL_law_362 : decode cL_law 362 = .ok (.aload_n 0, 1) := by decide +kernel
theorem dL_law_363 : decode cL_law 363 = .ok (.iload_n 3, 1) := by decide +kernel
theorem dL_law_364 : decode cL_law 364 = .ok (.iconst 1, 1) := by decide +kernel
theorem dL_law_365 : decode cL_law 365 = .ok (.iadd, 1) := by decide +kernel
theorem dL_law_366 : decode cL_law 366 = .ok (.iaload, 1) := by decide +kernel
theorem dL_law_367 : decode cL_law 367 = .ok (.aload_n 0, 1) := by decide +kernel
theorem dL_law_368 : decode cL_law 368 = .ok (.iload_n 3, 1) := by decide +kernel
theorem dL_law_369 : decode cL_law 369 = .ok (.iconst 2, 1) := by decide +kernel
theorem dL_law_370 : decode cL_law 370 = .ok (.iadd, 1) := by decide +kernel
theorem dL_law_371 : decode cL_law 371 = .ok (.iaload, 1) := by decide +kernel
theorem dL_law_372 : decode cL_law 372 = .ok (.aload_n 0, 1) := by decide +kernel
theorem dL_law_373 : decode cL_law 373 = .ok (.iload_n 3, 1) := by decide +kernel
theorem dL_law_374 : decode cL_law 374 = .ok (.iconst 3, 1) := by decide +kernel
theorem dL_law_375 : decode cL_law 375 = .ok (.iadd, 1) := by decide +kernel
theorem dL_law_376 : decode cL_law 376 = .ok (.iaload, 1) := by decide +kernel
theorem dL_law_377 : decode cL_law 377 = .ok (.invokevirtual 63, 3) := by decide +kernel
theorem dL_law_380 : decode cL_law 380 = .ok (.if_icmp .eq 130, 3) := by decide +kernel
theorem dL_law_383 : decode cL_law 383 = .ok (.iconst 0, 1) := by decide +kernel
theorem dL_law_384 : decode cL_law 384 = .ok (.ireturn, 1) := by decide +kernel
theorem dL_law_385 : decode cL_law 385 = .ok (.aload_n 1, 1) := by decide +kernel
theorem dL_law_386 : decode cL_law 386 = .ok (.aload_n 0, 1) := by decide +kernel
theorem dL_law_387 : decode cL_law 387 = .ok (.iload_n 3, 1) := by decide +kernel
theorem dL_law_388 : decode cL_law 388 = .ok (.iconst 1, 1) := by decide +kernel
theorem dL_law_389 : decode cL_law 389 = .ok (.iadd, 1) := by decide +kernel
theorem dL_law_390 : decode cL_law 390 = .ok (.iaload, 1) := by decide +kernel
theorem dL_law_391 : decode cL_law 391 = .ok (.invokevirtual 64, 3) := by decide +kernel
theorem dL_law_394 : decode cL_law 394 = .ok (.aload_n 2, 1) := by decide +kernel
theorem dL_law_395 : decode cL_law 395 = .ok (.aload_n 0, 1) := by decide +kernel
theorem dL_law_396 : decode cL_law 396 = .ok (.iload_n 3, 1) := by decide +kernel
theorem dL_law_397 : decode cL_law 397 = .ok (.iconst 1, 1) := by decide +kernel
theorem dL_law_398 : decode cL_law 398 = .ok (.iadd, 1) := by decide +kernel
theorem dL_law_399 : decode cL_law 399 = .ok (.iaload, 1) := by decide +kernel
theorem dL_law_400 : decode cL_law 400 = .ok (.invokevirtual 67, 3) := by decide +kernel
theorem dL_law_403 : decode cL_law 403 = .ok (.if_icmp .eq 107, 3) := by decide +kernel
theorem dL_law_406 : decode cL_law 406 = .ok (.iconst 0, 1) := by decide +kernel
theorem dL_law_407 : decode cL_law 407 = .ok (.ireturn, 1) := by decide +kernel
theorem dL_law_408 : decode cL_law 408 = .ok (.aload_n 1, 1) := by decide +kernel
theorem dL_law_409 : decode cL_law 409 = .ok (.invokevirtual 68, 3) := by decide +kernel
theorem dL_law_412 : decode cL_law 412 = .ok (.aload_n 2, 1) := by decide +kernel
theorem dL_law_413 : decode cL_law 413 = .ok (.invokevirtual 71, 3) := by decide +kernel
theorem dL_law_416 : decode cL_law 416 = .ok (.if_icmp .eq 94, 3) := by decide +kernel
theorem dL_law_419 : decode cL_law 419 = .ok (.iconst 0, 1) := by decide +kernel
theorem dL_law_420 : decode cL_law 420 = .ok (.ireturn, 1) := by decide +kernel
theorem dL_law_421 : decode cL_law 421 = .ok (.aload_n 1, 1) := by decide +kernel
theorem dL_law_422 : decode cL_law 422 = .ok (.aload_n 0, 1) := by decide +kernel
theorem dL_law_423 : decode cL_law 423 = .ok (.iload_n 3, 1) := by decide +kernel
theorem dL_law_424 : decode cL_law 424 = .ok (.iconst 1, 1) := by decide +kernel
theorem dL_law_425 : decode cL_law 425 = .ok (.iadd, 1) := by decide +kernel
theorem dL_law_426 : decode cL_law 426 = .ok (.iaload, 1) := by decide +kernel
theorem dL_law_427 : decode cL_law 427 = .ok (.aload_n 0, 1) := by decide +kernel
theorem dL_law_428 : decode cL_law 428 = .ok (.iload_n 3, 1) := by decide +kernel
theorem dL_law_429 : decode cL_law 429 = .ok (.iconst 2, 1) := by decide +kernel
theorem dL_law_430 : decode cL_law 430 = .ok (.iadd, 1) := by decide +kernel
theorem dL_law_431 : decode cL_law 431 = .ok (.iaload, 1) := by decide +kernel
theorem dL_law_432 : decode cL_law 432 = .ok (.invokevirtual 72, 3) := by decide +kernel
theorem dL_law_435 : decode cL_law 435 = .ok (.aload_n 2, 1) := by decide +kernel
theorem dL_law_436 : decode cL_law 436 = .ok (.aload_n 0, 1) := by decide +kernel
theorem dL_law_437 : decode cL_law 437 = .ok (.iload_n 3, 1) := by decide +kernel
theorem dL_law_438 : decode cL_law 438 = .ok (.iconst 1, 1) := by decide +kernel
theorem dL_law_439 : decode cL_law 439 = .ok (.iadd, 1) := by decide +kernel
theorem dL_law_440 : decode cL_law 440 = .ok (.iaload, 1) := by decide +kernel
theorem dL_law_441 : decode cL_law 441 = .ok (.aload_n 0, 1) := by decide +kernel
theorem dL_law_442 : decode cL_law 442 = .ok (.iload_n 3, 1) := by decide +kernel
theorem dL_law_443 : decode cL_law 443 = .ok (.iconst 2, 1) := by decide +kernel
theorem dL_law_444 : decode cL_law 444 = .ok (.iadd, 1) := by decide +kernel
theorem dL_law_445 : decode cL_law 445 = .ok (.iaload, 1) := by decide +kernel
theorem dL_law_446 : decode cL_law 446 = .ok (.invokevirtual 75, 3) := by decide +kernel
theorem dL_law_449 : decode cL_law 449 = .ok (.if_icmp .eq 61, 3) := by decide +kernel
theorem dL_law_452 : decode cL_law 452 = .ok (.iconst 0, 1) := by decide +kernel
theorem dL_law_453 : decode cL_law 453 = .ok (.ireturn, 1) := by decide +kernel
theorem dL_law_454 : decode cL_law 454 = .ok (.aload_n 1, 1) := by decide +kernel
theorem dL_law_455 : decode cL_law 455 = .ok (.aload_n 0, 1) := by decide +kernel
theorem dL_law_456 : decode cL_law 456 = .ok (.iload_n 3, 1) := by decide +kernel
theorem dL_law_457 : decode cL_law 457 = .ok (.iconst 1, 1) := by decide +kernel
theorem dL_law_458 : decode cL_law 458 = .ok (.iadd, 1) := by decide +kernel
theorem dL_law_459 : decode cL_law 459 = .ok (.iaload, 1) := by decide +kernel
theorem dL_law_460 : decode cL_law 460 = .ok (.invokevirtual 76, 3) := by decide +kernel
theorem dL_law_463 : decode cL_law 463 = .ok (.aload_n 2, 1) := by decide +kernel
theorem dL_law_464 : decode cL_law 464 = .ok (.aload_n 0, 1) := by decide +kernel
theorem dL_law_465 : decode cL_law 465 = .ok (.iload_n 3, 1) := by decide +kernel
theorem dL_law_466 : decode cL_law 466 = .ok (.iconst 1, 1) := by decide +kernel
theorem dL_law_467 : decode cL_law 467 = .ok (.iadd, 1) := by decide +kernel
theorem dL_law_468 : decode cL_law 468 = .ok (.iaload, 1) := by decide +kernel
theorem dL_law_469 : decode cL_law 469 = .ok (.invokevirtual 79, 3) := by decide +kernel
theorem dL_law_472 : decode cL_law 472 = .ok (.if_icmp .eq 38, 3) := by decide +kernel
theorem dL_law_475 : decode cL_law 475 = .ok (.iconst 0, 1) := by decide +kernel
theorem dL_law_476 : decode cL_law 476 = .ok (.ireturn, 1) := by decide +kernel
theorem dL_law_477 : decode cL_law 477 = .ok (.aload_n 1, 1) := by decide +kernel
theorem dL_law_478 : decode cL_law 478 = .ok (.aload_n 0, 1) := by decide +kernel
theorem dL_law_479 : decode cL_law 479 = .ok (.iload_n 3, 1) := by decide +kernel
theorem dL_law_480 : decode cL_law 480 = .ok (.iconst 1, 1) := by decide +kernel
theorem dL_law_481 : decode cL_law 481 = .ok (.iadd, 1) := by decide +kernel
theorem dL_law_482 : decode cL_law 482 = .ok (.iaload, 1) := by decide +kernel
theorem dL_law_483 : decode cL_law 483 = .ok (.aload_n 0, 1) := by decide +kernel
theorem dL_law_484 : decode cL_law 484 = .ok (.iload_n 3, 1) := by decide +kernel
theorem dL_law_485 : decode cL_law 485 = .ok (.iconst 2, 1) := by decide +kernel
theorem dL_law_486 : decode cL_law 486 = .ok (.iadd, 1) := by decide +kernel
theorem dL_law_487 : decode cL_law 487 = .ok (.iaload, 1) := by decide +kernel
theorem dL_law_488 : decode cL_law 488 = .ok (.invokevirtual 80, 3) := by decide +kernel
theorem dL_law_491 : decode cL_law 491 = .ok (.aload_n 2, 1) := by decide +kernel
theorem dL_law_492 : decode cL_law 492 = .ok (.aload_n 0, 1) := by decide +kernel
theorem dL_law_493 : decode cL_law 493 = .ok (.iload_n 3, 1) := by decide +kernel
theorem dL_law_494 : decode cL_law 494 = .ok (.iconst 1, 1) := by decide +kernel
theorem dL_law_495 : decode cL_law 495 = .ok (.iadd, 1) := by decide +kernel
theorem dL_law_496 : decode cL_law 496 = .ok (.iaload, 1) := by decide +kernel
theorem dL_law_497 : decode cL_law 497 = .ok (.aload_n 0, 1) := by decide +kernel
theorem dL_law_498 : decode cL_law 498 = .ok (.iload_n 3, 1) := by decide +kernel
theorem dL_law_499 : decode cL_law 499 = .ok (.iconst 2, 1) := by decide +kernel
theorem dL_law_500 : decode cL_law 500 = .ok (.iadd, 1) := by decide +kernel
theorem dL_law_501 : decode cL_law 501 = .ok (.iaload, 1) := by decide +kernel
theorem dL_law_502 : decode cL_law 502 = .ok (.invokevirtual 83, 3) := by decide +kernel
theorem dL_law_505 : decode cL_law 505 = .ok (.if_icmp .eq 5, 3) := by decide +kernel
theorem dL_law_508 : decode cL_law 508 = .ok (.iconst 0, 1) := by decide +kernel
theorem dL_law_509 : decode cL_law 509 = .ok (.ireturn, 1) := by decide +kernel
theorem dL_law_510 : decode cL_law 510 = .ok (.iinc 3 4, 3) := by decide +kernel
theorem dL_law_513 : decode cL_law 513 = .ok (.goto (-495), 3) := by decide +kernel
theorem dL_law_516 : decode cL_law 516 = .ok (.iconst 1, 1) := by decide +kernel
theorem dL_law_517 : decode cL_law 517 = .ok (.ireturn, 1) := by decide +kernel
end
section
theorem dX9_init_0 : decode cX9_init 0 = .ok (.aload_n 0, 1) := by decide +kernel
theorem dX9_init_1 : decode cX9_init 1 = .ok (.invokespecial 1, 3) := by decide +kernel
theorem dX9_init_4 : decode cX9_init 4 = .ok (.aload_n 0, 1) := by decide +kernel
theorem dX9_init_5 : decode cX9_init 5 = .ok (.bipush 7, 2) := by decide +kernel
theorem dX9_init_7 : decode cX9_init 7 = .ok (.newarray .int, 2) := by decide +kernel
theorem dX9_init_9 : decode cX9_init 9 = .ok (.putfield 7, 3) := by decide +kernel
theorem dX9_init_12 : decode cX9_init 12 = .ok (.aload_n 0, 1) := by decide +kernel
theorem dX9_init_13 : decode cX9_init 13 = .ok (.iconst 4, 1) := by decide +kernel
theorem dX9_init_14 : decode cX9_init 14 = .ok (.newarray .int, 2) := by decide +kernel
theorem dX9_init_16 : decode cX9_init 16 = .ok (.putfield 13, 3) := by decide +kernel
theorem dX9_init_19 : decode cX9_init 19 = .ok (.aload_n 0, 1) := by decide +kernel
theorem dX9_init_20 : decode cX9_init 20 = .ok (.bipush 65, 2) := by decide +kernel
theorem dX9_init_22 : decode cX9_init 22 = .ok (.newarray .long, 2) := by decide +kernel
theorem dX9_init_24 : decode cX9_init 24 = .ok (.putfield 16, 3) := by decide +kernel
theorem dX9_init_27 : decode cX9_init 27 = .ok (.aload_n 0, 1) := by decide +kernel
theorem dX9_init_28 : decode cX9_init 28 = .ok (.sipush 390, 3) := by decide +kernel
theorem dX9_init_31 : decode cX9_init 31 = .ok (.newarray .long, 2) := by decide +kernel
theorem dX9_init_33 : decode cX9_init 33 = .ok (.putfield 20, 3) := by decide +kernel
theorem dX9_init_36 : decode cX9_init 36 = .ok (.aload_n 0, 1) := by decide +kernel
theorem dX9_init_37 : decode cX9_init 37 = .ok (.sipush 200, 3) := by decide +kernel
theorem dX9_init_40 : decode cX9_init 40 = .ok (.newarray .int, 2) := by decide +kernel
theorem dX9_init_42 : decode cX9_init 42 = .ok (.putfield 23, 3) := by decide +kernel
theorem dX9_init_45 : decode cX9_init 45 = .ok (.aload_n 0, 1) := by decide +kernel
theorem dX9_init_46 : decode cX9_init 46 = .ok (.bipush 7, 2) := by decide +kernel
theorem dX9_init_48 : decode cX9_init 48 = .ok (.newarray .int, 2) := by decide +kernel
theorem dX9_init_50 : decode cX9_init 50 = .ok (.putfield 26, 3) := by decide +kernel
theorem dX9_init_53 : decode cX9_init 53 = .ok (.aload_n 0, 1) := by decide +kernel
theorem dX9_init_54 : decode cX9_init 54 = .ok (.iconst 4, 1) := by decide +kernel
theorem dX9_init_55 : decode cX9_init 55 = .ok (.newarray .int, 2) := by decide +kernel
theorem dX9_init_57 : decode cX9_init 57 = .ok (.putfield 29, 3) := by decide +kernel
theorem dX9_init_60 : decode cX9_init 60 = .ok (.aload_n 0, 1) := by decide +kernel
theorem dX9_init_61 : decode cX9_init 61 = .ok (.iconst 4, 1) := by decide +kernel
theorem dX9_init_62 : decode cX9_init 62 = .ok (.newarray .int, 2) := by decide +kernel
theorem dX9_init_64 : decode cX9_init 64 = .ok (.putfield 32, 3) := by decide +kernel
theorem dX9_init_67 : decode cX9_init 67 = .ok (.aload_n 0, 1) := by decide +kernel
theorem dX9_init_68 : decode cX9_init 68 = .ok (.sipush 960, 3) := by decide +kernel
theorem dX9_init_71 : decode cX9_init 71 = .ok (.newarray .int, 2) := by decide +kernel
theorem dX9_init_73 : decode cX9_init 73 = .ok (.putfield 35, 3) := by decide +kernel
theorem dX9_init_76 : decode cX9_init 76 = .ok (.aload_n 0, 1) := by decide +kernel
theorem dX9_init_77 : decode cX9_init 77 = .ok (.sipush 960, 3) := by decide +kernel
theorem dX9_init_80 : decode cX9_init 80 = .ok (.newarray .int, 2) := by decide +kernel
theorem dX9_init_82 : decode cX9_init 82 = .ok (.putfield 38, 3) := by decide +kernel
theorem dX9_init_85 : decode cX9_init 85 = .ok (.aload_n 0, 1) := by decide +kernel
theorem dX9_init_86 : decode cX9_init 86 = .ok (.bipush 48, 2) := by decide +kernel
theorem dX9_init_88 : decode cX9_init 88 = .ok (.newarray .int, 2) := by decide +kernel
theorem dX9_init_90 : decode cX9_init 90 = .ok (.putfield 41, 3) := by decide +kernel
theorem dX9_init_93 : decode cX9_init 93 = .ok (.aload_n 0, 1) := by decide +kernel
theorem dX9_init_94 : decode cX9_init 94 = .ok (.bipush 48, 2) := by decide +kernel
theorem dX9_init_96 : decode cX9_init 96 = .ok (.newarray .int, 2) := by decide +kernel
theorem dX9_init_98 : decode cX9_init 98 = .ok (.putfield 44, 3) := by decide +kernel
theorem dX9_init_101 : decode cX9_init 101 = .ok (.aload_n 0, 1) := by decide +kernel
theorem dX9_init_102 : decode cX9_init 102 = .ok (.bipush 48, 2) := by decide +kernel
theorem dX9_init_104 : decode cX9_init 104 = .ok (.newarray .int, 2) := by decide +kernel
theorem dX9_init_106 : decode cX9_init 106 = .ok (.putfield 47, 3) := by decide +kernel
theorem dX9_init_109 : decode cX9_init 109 = .ok (.aload_n 0, 1) := by decide +kernel
theorem dX9_init_110 : decode cX9_init 110 = .ok (.bipush 48, 2) := by decide +kernel
theorem dX9_init_112 : decode cX9_init 112 = .ok (.newarray .int, 2) := by decide +kernel
theorem dX9_init_114 : decode cX9_init 114 = .ok (.putfield 50, 3) := by decide +kernel
theorem dX9_init_117 : decode cX9_init 117 = .ok (.aload_n 0, 1) := by decide +kernel
theorem dX9_init_118 : decode cX9_init 118 = .ok (.bipush 48, 2) := by decide +kernel
theorem dX9_init_120 : decode cX9_init 120 = .ok (.newarray .int, 2) := by decide +kernel
theorem dX9_init_122 : decode cX9_init 122 = .ok (.putfield 53, 3) := by decide +kernel
theorem dX9_init_125 : decode cX9_init 125 = .ok (.aload_n 0, 1) := by decide +kernel
theorem dX9_init_126 : decode cX9_init 126 = .ok (.bipush 48, 2) := by decide +kernel
theorem dX9_init_128 : decode cX9_init 128 = .ok (.newarray .int, 2) := by decide +kernel
theorem dX9_init_130 : decode cX9_init 130 = .ok (.putfield 56, 3) := by decide +kernel
theorem dX9_init_133 : decode cX9_init 133 = .ok (.aload_n 0, 1) := by decide +kernel
theorem dX9_init_134 : decode cX9_init 134 = .ok (.bipush 48, 2) := by decide +kernel
theorem dX9_init_136 : decode cX9_init 136 = .ok (.newarray .int, 2) := by decide +kernel
theorem dX9_init_138 : decode cX9_init 138 = .ok (.putfield 59, 3) := by decide +kernel
theorem dX9_init_141 : decode cX9_init 141 = .ok (.aload_n 0, 1) := by decide +kernel
theorem dX9_init_142 : decode cX9_init 142 = .ok (.bipush 48, 2) := by decide +kernel
theorem dX9_init_144 : decode cX9_init 144 = .ok (.newarray .int, 2) := by decide +kernel
theorem dX9_init_146 : decode cX9_init 146 = .ok (.putfield 62, 3) := by decide +kernel
theorem dX9_init_149 : decode cX9_init 149 = .ok (.aload_n 0, 1) := by decide +kernel
theorem dX9_init_150 : decode cX9_init 150 = .ok (.bipush 48, 2) := by decide +kernel
theorem dX9_init_152 : decode cX9_init 152 = .ok (.newarray .int, 2) := by decide +kernel
theorem dX9_init_154 : decode cX9_init 154 = .ok (.putfield 65, 3) := by decide +kernel
theorem dX9_init_157 : decode cX9_init 157 = .ok (.aload_n 0, 1) := by decide +kernel
theorem dX9_init_158 : decode cX9_init 158 = .ok (.bipush 48, 2) := by decide +kernel
theorem dX9_init_160 : decode cX9_init 160 = .ok (.newarray .int, 2) := by decide +kernel
theorem dX9_init_162 : decode cX9_init 162 = .ok (.putfield 68, 3) := by decide +kernel
theorem dX9_init_165 : decode cX9_init 165 = .ok (.aload_n 0, 1) := by decide +kernel
theorem dX9_init_166 : decode cX9_init 166 = .ok (.iconst 4, 1) := by decide +kernel
theorem dX9_init_167 : decode cX9_init 167 = .ok (.newarray .int, 2) := by decide +kernel
theorem dX9_init_169 : decode cX9_init 169 = .ok (.putfield 71, 3) := by decide +kernel
theorem dX9_init_172 : decode cX9_init 172 = .ok (.aload_n 0, 1) := by decide +kernel
theorem dX9_init_173 : decode cX9_init 173 = .ok (.bipush 48, 2) := by decide +kernel
theorem dX9_init_175 : decode cX9_init 175 = .ok (.newarray .int, 2) := by decide +kernel
theorem dX9_init_177 : decode cX9_init 177 = .ok (.putfield 74, 3) := by decide +kernel
theorem dX9_init_180 : decode cX9_init 180 = .ok (.aload_n 0, 1) := by decide +kernel
theorem dX9_init_181 : decode cX9_init 181 = .ok (.sipush 1536, 3) := by decide +kernel
theorem dX9_init_184 : decode cX9_init 184 = .ok (.newarray .boolean, 2) := by decide +kernel
theorem dX9_init_186 : decode cX9_init 186 = .ok (.putfield 77, 3) := by decide +kernel
theorem dX9_init_189 : decode cX9_init 189 = .ok (.aload_n 0, 1) := by decide +kernel
theorem dX9_init_190 : decode cX9_init 190 = .ok (.bipush 48, 2) := by decide +kernel
theorem dX9_init_192 : decode cX9_init 192 = .ok (.newarray .boolean, 2) := by decide +kernel
theorem dX9_init_194 : decode cX9_init 194 = .ok (.putfield 81, 3) := by decide +kernel
theorem dX9_init_197 : decode cX9_init 197 = .ok (.aload_n 0, 1) := by decide +kernel
theorem dX9_init_198 : decode cX9_init 198 = .ok (.getfield 26, 3) := by decide +kernel
theorem dX9_init_201 : decode cX9_init 201 = .ok (.invokestatic 84, 3) := by decide +kernel
theorem dX9_init_204 : decode cX9_init 204 = .ok (.aload_n 0, 1) := by decide +kernel
theorem dX9_init_205 : decode cX9_init 205 = .ok (.getfield 7, 3) := by decide +kernel
theorem dX9_init_208 : decode cX9_init 208 = .ok (.invokestatic 84, 3) := by decide +kernel
theorem dX9_init_211 : decode cX9_init 211 = .ok (.aload_n 0, 1) := by decide +kernel
theorem dX9_init_212 : decode cX9_init 212 = .ok (.iconst 2, 1) := by decide +kernel
theorem dX9_init_213 : decode cX9_init 213 = .ok (.putfield 88, 3) := by decide +kernel
theorem dX9_init_216 : decode cX9_init 216 = .ok (.aload_n 0, 1) := by decide +kernel
theorem dX9_init_217 : decode cX9_init 217 = .ok (.getfield 13, 3) := by decide +kernel
theorem dX9_init_220 : decode cX9_init 220 = .ok (.iconst 1, 1) := by decide +kernel
theorem dX9_init_221 : decode cX9_init 221 = .ok (.iconst 1, 1) := by decide +kernel
theorem dX9_init_222 : decode cX9_init 222 = .ok (.iastore, 1) := by decide +kernel
theorem dX9_init_223 : decode cX9_init 223 = .ok (.aload_n 0, 1) := by decide +kernel
theorem dX9_init_224 : decode cX9_init 224 = .ok (.getfield 16, 3) := by decide +kernel
theorem dX9_init_227 : decode cX9_init 227 = .ok (.bipush 61, 2) := by decide +kernel
theorem dX9_init_229 : decode cX9_init 229 = .ok (.ldc2_w 92, 3) := by decide +kernel
theorem dX9_init_232 : decode cX9_init 232 = .ok (.lastore, 1) := by decide +kernel
theorem dX9_init_233 : decode cX9_init 233 = .ok (.aload_n 0, 1) := by decide +kernel
theorem dX9_init_234 : decode cX9_init 234 = .ok (.getfield 16, 3) := by decide +kernel
theorem dX9_init_237 : decode cX9_init 237 = .ok (.bipush 62, 2) := by decide +kernel
theorem dX9_init_239 : decode cX9_init 239 = .ok (.ldc2_w 94, 3) := by decide +kernel
theorem dX9_init_242 : decode cX9_init 242 = .ok (.lastore, 1) := by decide +kernel
theorem dX9_init_243 : decode cX9_init 243 = .ok (.return_, 1) := by decide +kernel
theorem dX9_within_0 : decode cX9_within 0 = .ok (.lload_n 0, 1) := by decide +kernel
theorem dX9_within_1 : decode cX9_within 1 = .ok (.lload_n 2, 1) := by decide +kernel
theorem dX9_within_2 : decode cX9_within 2 = .ok (.lcmp, 1) := by decide +kernel
theorem dX9_within_3 : decode cX9_within 3 = .ok (.ifCond .lt 14, 3) := by decide +kernel
theorem dX9_within_6 : decode cX9_within 6 = .ok (.lload_n 0, 1) := by decide +kernel
theorem dX9_within_7 : decode cX9_within 7 = .ok (.lload 4, 2) := by decide +kernel
theorem dX9_within_9 : decode cX9_within 9 = .ok (.lcmp, 1) := by decide +kernel
theorem dX9_within_10 : decode cX9_within 10 = .ok (.ifCond .gt 7, 3) := by decide +kernel
theorem dX9_within_13 : decode cX9_within 13 = .ok (.iconst 1, 1) := by decide +kernel
theorem dX9_within_14 : decode cX9_within 14 = .ok (.goto 4, 3) := by decide +kernel
theorem dX9_within_17 : decode cX9_within 17 = .ok (.iconst 0, 1) := by decide +kernel
theorem dX9_within_18 : decode cX9_within 18 = .ok (.ireturn, 1) := by decide +kernel
theorem dX9_plans_0 : decode cX9_plans 0 = .ok (.aload_n 0, 1) := by decide +kernel
theorem dX9_plans_1 : decode cX9_plans 1 = .ok (.iconst 0, 1) := by decide +kernel
theorem dX9_plans_2 : decode cX9_plans 2 = .ok (.bipush 8, 2) := by decide +kernel
theorem dX9_plans_4 : decode cX9_plans 4 = .ok (.iastore, 1) := by decide +kernel
theorem dX9_plans_5 : decode cX9_plans 5 = .ok (.aload_n 0, 1) := by decide +kernel
theorem dX9_plans_6 : decode cX9_plans 6 = .ok (.iconst 1, 1) := by decide +kernel
theorem dX9_plans_7 : decode cX9_plans 7 = .ok (.iconst 4, 1) := by decide +kernel
theorem dX9_plans_8 : decode cX9_plans 8 = .ok (.iastore, 1) := by decide +kernel
theorem dX9_plans_9 : decode cX9_plans 9 = .ok (.aload_n 0, 1) := by decide +kernel
theorem dX9_plans_10 : decode cX9_plans 10 = .ok (.iconst 2, 1) := by decide +kernel
theorem dX9_plans_11 : decode cX9_plans 11 = .ok (.bipush 6, 2) := by decide +kernel
theorem dX9_plans_13 : decode cX9_plans 13 = .ok (.iastore, 1) := by decide +kernel
theorem dX9_plans_14 : decode cX9_plans 14 = .ok (.aload_n 0, 1) := by decide +kernel
theorem dX9_plans_15 : decode cX9_plans 15 = .ok (.iconst 3, 1) := by decide +kernel
theorem dX9_plans_16 : decode cX9_plans 16 = .ok (.iconst 1, 1) := by decide +kernel
theorem dX9_plans_17 : decode cX9_plans 17 = .ok (.iastore, 1) := by decide +kernel
theorem dX9_plans_18 : decode cX9_plans 18 = .ok (.aload_n 0, 1) := by decide +kernel
theorem dX9_plans_19 : decode cX9_plans 19 = .ok (.iconst 4, 1) := by decide +kernel
theorem dX9_plans_20 : decode cX9_plans 20 = .ok (.iconst 1, 1) := by decide +kernel
theorem dX9_plans_21 : decode cX9_plans 21 = .ok (.iastore, 1) := by decide +kernel
theorem dX9_plans_22 : decode cX9_plans 22 = .ok (.aload_n 0, 1) := by decide +kernel
theorem dX9_plans_23 : decode cX9_plans 23 = .ok (.iconst 5, 1) := by decide +kernel
theorem dX9_plans_24 : decode cX9_plans 24 = .ok (.bipush 7, 2) := by decide +kernel
theorem dX9_plans_26 : decode cX9_plans 26 = .ok (.iastore, 1) := by decide +kernel
theorem dX9_plans_27 : decode cX9_plans 27 = .ok (.aload_n 0, 1) := by decide +kernel
theorem dX9_plans_28 : decode cX9_plans 28 = .ok (.bipush 6, 2) := by decide +kernel
theorem dX9_plans_30 : decode cX9_plans 30 = .ok (.iconst 2, 1) := by decide +kernel
theorem dX9_plans_31 : decode cX9_plans 31 = .ok (.iastore, 1) := by decide +kernel
theorem dX9_plans_32 : decode cX9_plans 32 = .ok (.return_, 1) := by decide +kernel
theorem dX9_passes_0 : decode cX9_passes 0 = .ok (.aload_n 0, 1) := by decide +kernel
theorem dX9_passes_1 : decode cX9_passes 1 = .ok (.getfield 96, 3) := by decide +kernel
theorem dX9_passes_4 : decode cX9_passes 4 = .ok (.aload_n 0, 1) := by decide +kernel
theorem dX9_passes_5 : decode cX9_passes 5 = .ok (.getfield 99, 3) := by decide +kernel
theorem dX9_passes_8 : decode cX9_passes 8 = .ok (.if_icmp .ge 20, 3) := by decide +kernel
theorem dX9_passes_11 : decode cX9_passes 11 = .ok (.aload_n 0, 1) := by decide +kernel
theorem dX9_passes_12 : decode cX9_passes 12 = .ok (.getfield 23, 3) := by decide +kernel
theorem dX9_passes_15 : decode cX9_passes 15 = .ok (.aload_n 0, 1) := by decide +kernel
theorem dX9_passes_16 : decode cX9_passes 16 = .ok (.getfield 96, 3) := by decide +kernel
theorem dX9_passes_19 : decode cX9_passes 19 = .ok (.iaload, 1) := by decide +kernel
theorem dX9_passes_20 : decode cX9_passes 20 = .ok (.iload_n 1, 1) := by decide +kernel
theorem dX9_passes_21 : decode cX9_passes 21 = .ok (.if_icmp .ne 7, 3) := by decide +kernel
theorem dX9_passes_24 : decode cX9_passes 24 = .ok (.iconst 1, 1) := by decide +kernel
theorem dX9_passes_25 : decode cX9_passes 25 = .ok (.goto 4, 3) := by decide +kernel
theorem dX9_passes_28 : decode cX9_passes 28 = .ok (.iconst 0, 1) := by decide +kernel
theorem dX9_passes_29 : decode cX9_passes 29 = .ok (.istore_n 2, 1) := by decide +kernel
theorem dX9_passes_30 : decode cX9_passes 30 = .ok (.aload_n 0, 1) := by decide +kernel
theorem dX9_passes_31 : decode cX9_passes 31 = .ok (.dup, 1) := by decide +kernel
theorem dX9_passes_32 : decode cX9_passes 32 = .ok (.getfield 96, 3) := by decide +kernel
theorem dX9_passes_35 : decode cX9_passes 35 = .ok (.iload_n 2, 1) := by decide +kernel
theorem dX9_passes_36 : decode cX9_passes 36 = .ok (.ifCond .eq 7, 3) := by decide +kernel
theorem dX9_passes_39 : decode cX9_passes 39 = .ok (.iconst 1, 1) := by decide +kernel
theorem dX9_passes_40 : decode cX9_passes 40 = .ok (.goto 4, 3) := by decide +kernel
theorem dX9_passes_43 : decode cX9_passes 43 = .ok (.iconst 0, 1) := by decide +kernel
theorem dX9_passes_44 : decode cX9_passes 44 = .ok (.iadd, 1) := by decide +kernel
theorem dX9_passes_45 : decode cX9_passes 45 = .ok (.putfield 96, 3) := by decide +kernel
theorem dX9_passes_48 : decode cX9_passes 48 = .ok (.iload_n 2, 1) := by decide +kernel
theorem dX9_passes_49 : decode cX9_passes 49 = .ok (.ireturn, 1) := by decide +kernel
theorem dX9_isFigure_0 : decode cX9_isFigure 0 = .ok (.aload_n 0, 1) := by decide +kernel
theorem dX9_isFigure_1 : decode cX9_isFigure 1 = .ok (.getfield 96, 3) := by decide +kernel
theorem dX9_isFigure_4 : decode cX9_isFigure 4 = .ok (.aload_n 0, 1) := by decide +kernel
theorem dX9_isFigure_5 : decode cX9_isFigure 5 = .ok (.getfield 99, 3) := by decide +kernel
theorem dX9_isFigure_8 : decode cX9_isFigure 8 = .ok (.if_icmp .ge 29, 3) := by decide +kernel
theorem dX9_isFigure_11 : decode cX9_isFigure 11 = .ok (.aload_n 0, 1) := by decide +kernel
theorem dX9_isFigure_12 : decode cX9_isFigure 12 = .ok (.getfield 23, 3) := by decide +kernel
theorem dX9_isFigure_15 : decode cX9_isFigure 15 = .ok (.aload_n 0, 1) := by decide +kernel
theorem dX9_isFigure_16 : decode cX9_isFigure 16 = .ok (.getfield 96, 3) := by decide +kernel
theorem dX9_isFigure_19 : decode cX9_isFigure 19 = .ok (.iaload, 1) := by decide +kernel
theorem dX9_isFigure_20 : decode cX9_isFigure 20 = .ok (.i2l, 1) := by decide +kernel
theorem dX9_isFigure_21 : decode cX9_isFigure 21 = .ok (.ldc2_w 102, 3) := by decide +kernel
theorem dX9_isFigure_24 : decode cX9_isFigure 24 = .ok (.ldc2_w 104, 3) := by decide +kernel
theorem dX9_isFigure_27 : decode cX9_isFigure 27 = .ok (.invokestatic 106, 3) := by decide +kernel
theorem dX9_isFigure_30 : decode cX9_isFigure 30 = .ok (.ifCond .eq 7, 3) := by decide +kernel
theorem dX9_isFigure_33 : decode cX9_isFigure 33 = .ok (.iconst 1, 1) := by decide +kernel
theorem dX9_isFigure_34 : decode cX9_isFigure 34 = .ok (.goto 4, 3) := by decide +kernel
theorem dX9_isFigure_37 : decode cX9_isFigure 37 = .ok (.iconst 0, 1) := by decide +kernel
theorem dX9_isFigure_38 : decode cX9_isFigure 38 = .ok (.ireturn, 1) := by decide +kernel
theorem dX9_number_0 : decode cX9_number 0 = .ok (.aload_n 0, 1) := by decide +kernel
theorem dX9_number_1 : decode cX9_number 1 = .ok (.invokevirtual 110, 3) := by decide +kernel
theorem dX9_number_4 : decode cX9_number 4 = .ok (.ifCond .ne 5, 3) := by decide +kernel
theorem dX9_number_7 : decode cX9_number 7 = .ok (.iconst (-1), 1) := by decide +kernel
theorem dX9_number_8 : decode cX9_number 8 = .ok (.ireturn, 1) := by decide +kernel
theorem dX9_number_9 : decode cX9_number 9 = .ok (.aload_n 0, 1) := by decide +kernel
theorem dX9_number_10 : decode cX9_number 10 = .ok (.getfield 23, 3) := by decide +kernel
theorem dX9_number_13 : decode cX9_number 13 = .ok (.aload_n 0, 1) := by decide +kernel
theorem dX9_number_14 : decode cX9_number 14 = .ok (.getfield 96, 3) := by decide +kernel
theorem dX9_number_17 : decode cX9_number 17 = .ok (.iaload, 1) := by decide +kernel
theorem dX9_number_18 : decode cX9_number 18 = .ok (.bipush 48, 2) := by decide +kernel
theorem dX9_number_20 : decode cX9_number 20 = .ok (.isub, 1) := by decide +kernel
theorem dX9_number_21 : decode cX9_number 21 = .ok (.istore_n 3, 1) := by decide +kernel
theorem dX9_number_22 : decode cX9_number 22 = .ok (.aload_n 0, 1) := by decide +kernel
theorem dX9_number_23 : decode cX9_number 23 = .ok (.dup, 1) := by decide +kernel
theorem dX9_number_24 : decode cX9_number 24 = .ok (.getfield 96, 3) := by decide +kernel
theorem dX9_number_27 : decode cX9_number 27 = .ok (.iconst 1, 1) := by decide +kernel
theorem dX9_number_28 : decode cX9_number 28 = .ok (.iadd, 1) := by decide +kernel
theorem dX9_number_29 : decode cX9_number 29 = .ok (.putfield 96, 3) := by decide +kernel
theorem dX9_number_32 : decode cX9_number 32 = .ok (.aload_n 0, 1) := by decide +kernel
theorem dX9_number_33 : decode cX9_number 33 = .ok (.invokevirtual 110, 3) := by decide +kernel
theorem dX9_number_36 : decode cX9_number 36 = .ok (.ifCond .eq 31, 3) := by decide +kernel
theorem dX9_number_39 : decode cX9_number 39 = .ok (.bipush 10, 2) := by decide +kernel
theorem dX9_number_41 : decode cX9_number 41 = .ok (.iload_n 3, 1) := by decide +kernel
theorem dX9_number_42 : decode cX9_number 42 = .ok (.imul, 1) := by decide +kernel
theorem dX9_number_43 : decode cX9_number 43 = .ok (.aload_n 0, 1) := by decide +kernel
theorem dX9_number_44 : decode cX9_number 44 = .ok (.getfield 23, 3) := by decide +kernel
theorem dX9_number_47 : decode cX9_number 47 = .ok (.aload_n 0, 1) := by decide +kernel
theorem dX9_number_48 : decode cX9_number 48 = .ok (.getfield 96, 3) := by decide +kernel
theorem dX9_number_51 : decode cX9_number 51 = .ok (.iaload, 1) := by decide +kernel
theorem dX9_number_52 : decode cX9_number 52 = .ok (.iadd, 1) := by decide +kernel
theorem dX9_number_53 : decode cX9_number 53 = .ok (.bipush 48, 2) := by decide +kernel
theorem dX9_number_55 : decode cX9_number 55 = .ok (.isub, 1) := by decide +kernel
theorem dX9_number_56 : decode cX9_number 56 = .ok (.istore_n 3, 1) := by decide +kernel
theorem dX9_number_57 : decode cX9_number 57 = .ok (.aload_n 0, 1) := by decide +kernel
theorem dX9_number_58 : decode cX9_number 58 = .ok (.dup, 1) := by decide +kernel
theorem dX9_number_59 : decode cX9_number 59 = .ok (.getfield 96, 3) := by decide +kernel
theorem dX9_number_62 : decode cX9_number 62 = .ok (.iconst 1, 1) := by decide +kernel
theorem dX9_number_63 : decode cX9_number 63 = .ok (.iadd, 1) := by decide +kernel
theorem dX9_number_64 : decode cX9_number 64 = .ok (.putfield 96, 3) := by decide +kernel
theorem dX9_number_67 : decode cX9_number 67 = .ok (.iload_n 3, 1) := by decide +kernel
theorem dX9_number_68 : decode cX9_number 68 = .ok (.i2l, 1) := by decide +kernel
theorem dX9_number_69 : decode cX9_number 69 = .ok (.iload_n 1, 1) := by decide +kernel
theorem dX9_number_70 : decode cX9_number 70 = .ok (.i2l, 1) := by decide +kernel
theorem dX9_number_71 : decode cX9_number 71 = .ok (.iload_n 2, 1) := by decide +kernel
theorem dX9_number_72 : decode cX9_number 72 = .ok (.i2l, 1) := by decide +kernel
theorem dX9_number_73 : decode cX9_number 73 = .ok (.invokestatic 106, 3) := by decide +kernel
theorem dX9_number_76 : decode cX9_number 76 = .ok (.ifCond .eq 7, 3) := by decide +kernel
theorem dX9_number_79 : decode cX9_number 79 = .ok (.iload_n 3, 1) := by decide +kernel
theorem dX9_number_80 : decode cX9_number 80 = .ok (.goto 4, 3) := by decide +kernel
theorem dX9_number_83 : decode cX9_number 83 = .ok (.iconst (-1), 1) := by decide +kernel
theorem dX9_number_84 : decode cX9_number 84 = .ok (.ireturn, 1) := by decide +kernel
theorem dX9_isGate_0 : decode cX9_isGate 0 = .ok (.aload_n 0, 1) := by decide +kernel
theorem dX9_isGate_1 : decode cX9_isGate 1 = .ok (.iconst 4, 1) := by decide +kernel
theorem dX9_isGate_2 : decode cX9_isGate 2 = .ok (.bipush 16, 2) := by decide +kernel
theorem dX9_isGate_4 : decode cX9_isGate 4 = .ok (.invokevirtual 114, 3) := by decide +kernel
theorem dX9_isGate_7 : decode cX9_isGate 7 = .ok (.istore_n 1, 1) := by decide +kernel
theorem dX9_isGate_8 : decode cX9_isGate 8 = .ok (.iload_n 1, 1) := by decide +kernel
theorem dX9_isGate_9 : decode cX9_isGate 9 = .ok (.ifCond .le 21, 3) := by decide +kernel
theorem dX9_isGate_12 : decode cX9_isGate 12 = .ok (.aload_n 0, 1) := by decide +kernel
theorem dX9_isGate_13 : decode cX9_isGate 13 = .ok (.bipush 44, 2) := by decide +kernel
theorem dX9_isGate_15 : decode cX9_isGate 15 = .ok (.invokevirtual 118, 3) := by decide +kernel
theorem dX9_isGate_18 : decode cX9_isGate 18 = .ok (.ifCond .eq 12, 3) := by decide +kernel
theorem dX9_isGate_21 : decode cX9_isGate 21 = .ok (.aload_n 0, 1) := by decide +kernel
theorem dX9_isGate_22 : decode cX9_isGate 22 = .ok (.iconst 1, 1) := by decide +kernel
theorem dX9_isGate_23 : decode cX9_isGate 23 = .ok (.iload_n 1, 1) := by decide +kernel
theorem dX9_isGate_24 : decode cX9_isGate 24 = .ok (.invokevirtual 114, 3) := by decide +kernel
theorem dX9_isGate_27 : decode cX9_isGate 27 = .ok (.goto 4, 3) := by decide +kernel
theorem dX9_isGate_30 : decode cX9_isGate 30 = .ok (.iconst (-1), 1) := by decide +kernel
theorem dX9_isGate_31 : decode cX9_isGate 31 = .ok (.istore_n 2, 1) := by decide +kernel
theorem dX9_isGate_32 : decode cX9_isGate 32 = .ok (.iload_n 2, 1) := by decide +kernel
theorem dX9_isGate_33 : decode cX9_isGate 33 = .ok (.ifCond .le 28, 3) := by decide +kernel
theorem dX9_isGate_36 : decode cX9_isGate 36 = .ok (.iload_n 1, 1) := by decide +kernel
theorem dX9_isGate_37 : decode cX9_isGate 37 = .ok (.iload_n 2, 1) := by decide +kernel
theorem dX9_isGate_38 : decode cX9_isGate 38 = .ok (.irem, 1) := by decide +kernel
theorem dX9_isGate_39 : decode cX9_isGate 39 = .ok (.ifCond .ne 22, 3) := by decide +kernel
theorem dX9_isGate_42 : decode cX9_isGate 42 = .ok (.aload_n 0, 1) := by decide +kernel
theorem dX9_isGate_43 : decode cX9_isGate 43 = .ok (.bipush 44, 2) := by decide +kernel
theorem dX9_isGate_45 : decode cX9_isGate 45 = .ok (.invokevirtual 118, 3) := by decide +kernel
theorem dX9_isGate_48 : decode cX9_isGate 48 = .ok (.ifCond .eq 13, 3) := by decide +kernel
theorem dX9_isGate_51 : decode cX9_isGate 51 = .ok (.aload_n 0, 1) := by decide +kernel
theorem dX9_isGate_52 : decode cX9_isGate 52 = .ok (.iconst 0, 1) := by decide +kernel
theorem dX9_isGate_53 : decode cX9_isGate 53 = .ok (.bipush 20, 2) := by decide +kernel
theorem dX9_isGate_55 : decode cX9_isGate 55 = .ok (.invokevirtual 114, 3) := by decide +kernel
theorem dX9_isGate_58 : decode cX9_isGate 58 = .ok (.goto 4, 3) := by decide +kernel
theorem dX9_isGate_61 : decode cX9_isGate 61 = .ok (.iconst (-1), 1) := by decide +kernel
theorem dX9_isGate_62 : decode cX9_isGate 62 = .ok (.istore_n 3, 1) := by decide +kernel
theorem dX9_isGate_63 : decode cX9_isGate 63 = .ok (.iload_n 3, 1) := by decide +kernel
theorem dX9_isGate_64 : decode cX9_isGate 64 = .ok (.ifCond .lt 21, 3) := by decide +kernel
theorem dX9_isGate_67 : decode cX9_isGate 67 = .ok (.aload_n 0, 1) := by decide +kernel
theorem dX9_isGate_68 : decode cX9_isGate 68 = .ok (.bipush 44, 2) := by decide +kernel
theorem dX9_isGate_70 : decode cX9_isGate 70 = .ok (.invokevirtual 118, 3) := by decide +kernel
theorem dX9_isGate_73 : decode cX9_isGate 73 = .ok (.ifCond .eq 12, 3) := by decide +kernel
theorem dX9_isGate_76 : decode cX9_isGate 76 = .ok (.aload_n 0, 1) := by decide +kernel
theorem dX9_isGate_77 : decode cX9_isGate 77 = .ok (.iconst 0, 1) := by decide +kernel
theorem dX9_isGate_78 : decode cX9_isGate 78 = .ok (.iconst 5, 1) := by decide +kernel
theorem dX9_isGate_79 : decode cX9_isGate 79 = .ok (.invokevirtual 114, 3) := by decide +kernel
theorem dX9_isGate_82 : decode cX9_isGate 82 = .ok (.goto 4, 3) := by decide +kernel
theorem dX9_isGate_85 : decode cX9_isGate 85 = .ok (.iconst (-1), 1) := by decide +kernel
theorem dX9_isGate_86 : decode cX9_isGate 86 = .ok (.istore 4, 2) := by decide +kernel
theorem dX9_isGate_88 : decode cX9_isGate 88 = .ok (.iload 4, 2) := by decide +kernel
theorem dX9_isGate_90 : decode cX9_isGate 90 = .ok (.ifCond .lt 21, 3) := by decide +kernel
theorem dX9_isGate_93 : decode cX9_isGate 93 = .ok (.aload_n 0, 1) := by decide +kernel
theorem dX9_isGate_94 : decode cX9_isGate 94 = .ok (.bipush 44, 2) := by decide +kernel
theorem dX9_isGate_96 : decode cX9_isGate 96 = .ok (.invokevirtual 118, 3) := by decide +kernel
theorem dX9_isGate_99 : decode cX9_isGate 99 = .ok (.ifCond .eq 12, 3) := by decide +kernel
theorem dX9_isGate_102 : decode cX9_isGate 102 = .ok (.aload_n 0, 1) := by decide +kernel
theorem dX9_isGate_103 : decode cX9_isGate 103 = .ok (.iconst 0, 1) := by decide +kernel
theorem dX9_isGate_104 : decode cX9_isGate 104 = .ok (.iconst 5, 1) := by decide +kernel
theorem dX9_isGate_105 : decode cX9_isGate 105 = .ok (.invokevirtual 114, 3) := by decide +kernel
theorem dX9_isGate_108 : decode cX9_isGate 108 = .ok (.goto 4, 3) := by decide +kernel
theorem dX9_isGate_111 : decode cX9_isGate 111 = .ok (.iconst (-1), 1) := by decide +kernel
theorem dX9_isGate_112 : decode cX9_isGate 112 = .ok (.istore 5, 2) := by decide +kernel
theorem dX9_isGate_114 : decode cX9_isGate 114 = .ok (.aload_n 0, 1) := by decide +kernel
theorem dX9_isGate_115 : decode cX9_isGate 115 = .ok (.getfield 26, 3) := by decide +kernel
theorem dX9_isGate_118 : decode cX9_isGate 118 = .ok (.iconst 0, 1) := by decide +kernel
theorem dX9_isGate_119 : decode cX9_isGate 119 = .ok (.iload_n 1, 1) := by decide +kernel
theorem dX9_isGate_120 : decode cX9_isGate 120 = .ok (.iastore, 1) := by decide +kernel
theorem dX9_isGate_121 : decode cX9_isGate 121 = .ok (.aload_n 0, 1) := by decide +kernel
theorem dX9_isGate_122 : decode cX9_isGate 122 = .ok (.getfield 26, 3) := by decide +kernel
theorem dX9_isGate_125 : decode cX9_isGate 125 = .ok (.iconst 1, 1) := by decide +kernel
theorem dX9_isGate_126 : decode cX9_isGate 126 = .ok (.iload_n 2, 1) := by decide +kernel
theorem dX9_isGate_127 : decode cX9_isGate 127 = .ok (.iastore, 1) := by decide +kernel
theorem dX9_isGate_128 : decode cX9_isGate 128 = .ok (.aload_n 0, 1) := by decide +kernel
theorem dX9_isGate_129 : decode cX9_isGate 129 = .ok (.getfield 26, 3) := by decide +kernel
theorem dX9_isGate_132 : decode cX9_isGate 132 = .ok (.iconst 2, 1) := by decide +kernel
theorem dX9_isGate_133 : decode cX9_isGate 133 = .ok (.iload_n 3, 1) := by decide +kernel
theorem dX9_isGate_134 : decode cX9_isGate 134 = .ok (.iastore, 1) := by decide +kernel
theorem dX9_isGate_135 : decode cX9_isGate 135 = .ok (.aload_n 0, 1) := by decide +kernel
theorem dX9_isGate_136 : decode cX9_isGate 136 = .ok (.getfield 26, 3) := by decide +kernel
theorem dX9_isGate_139 : decode cX9_isGate 139 = .ok (.iconst 3, 1) := by decide +kernel
theorem dX9_isGate_140 : decode cX9_isGate 140 = .ok (.iload 4, 2) := by decide +kernel
theorem dX9_isGate_142 : decode cX9_isGate 142 = .ok (.iastore, 1) := by decide +kernel
theorem dX9_isGate_143 : decode cX9_isGate 143 = .ok (.aload_n 0, 1) := by decide +kernel
theorem dX9_isGate_144 : decode cX9_isGate 144 = .ok (.getfield 26, 3) := by decide +kernel
theorem dX9_isGate_147 : decode cX9_isGate 147 = .ok (.iconst 4, 1) := by decide +kernel
theorem dX9_isGate_148 : decode cX9_isGate 148 = .ok (.iload 5, 2) := by decide +kernel
theorem dX9_isGate_150 : decode cX9_isGate 150 = .ok (.iastore, 1) := by decide +kernel
theorem dX9_isGate_151 : decode cX9_isGate 151 = .ok (.iload 5, 2) := by decide +kernel
theorem dX9_isGate_153 : decode cX9_isGate 153 = .ok (.ifCond .lt 7, 3) := by decide +kernel
theorem dX9_isGate_156 : decode cX9_isGate 156 = .ok (.iconst 1, 1) := by decide +kernel
theorem dX9_isGate_157 : decode cX9_isGate 157 = .ok (.goto 4, 3) := by decide +kernel
theorem dX9_isGate_160 : decode cX9_isGate 160 = .ok (.iconst 0, 1) := by decide +kernel
theorem dX9_isGate_161 : decode cX9_isGate 161 = .ok (.ireturn, 1) := by decide +kernel
theorem dX9_isRule_0 : decode cX9_isRule 0 = .ok (.aload_n 0, 1) := by decide +kernel
theorem dX9_isRule_1 : decode cX9_isRule 1 = .ok (.getfield 122, 3) := by decide +kernel
theorem dX9_isRule_4 : decode cX9_isRule 4 = .ok (.iconst 4, 1) := by decide +kernel
theorem dX9_isRule_5 : decode cX9_isRule 5 = .ok (.if_icmp .ne 5, 3) := by decide +kernel
theorem dX9_isRule_8 : decode cX9_isRule 8 = .ok (.iconst 0, 1) := by decide +kernel
theorem dX9_isRule_9 : decode cX9_isRule 9 = .ok (.ireturn, 1) := by decide +kernel
theorem dX9_isRule_10 : decode cX9_isRule 10 = .ok (.aload_n 0, 1) := by decide +kernel
theorem dX9_isRule_11 : decode cX9_isRule 11 = .ok (.getfield 29, 3) := by decide +kernel
theorem dX9_isRule_14 : decode cX9_isRule 14 = .ok (.aload_n 0, 1) := by decide +kernel
theorem dX9_isRule_15 : decode cX9_isRule 15 = .ok (.getfield 122, 3) := by decide +kernel
theorem dX9_isRule_18 : decode cX9_isRule 18 = .ok (.aload_n 0, 1) := by decide +kernel
theorem dX9_isRule_19 : decode cX9_isRule 19 = .ok (.iconst 0, 1) := by decide +kernel
theorem dX9_isRule_20 : decode cX9_isRule 20 = .ok (.iconst 3, 1) := by decide +kernel
theorem dX9_isRule_21 : decode cX9_isRule 21 = .ok (.invokevirtual 114, 3) := by decide +kernel
theorem dX9_isRule_24 : decode cX9_isRule 24 = .ok (.iastore, 1) := by decide +kernel
theorem dX9_isRule_25 : decode cX9_isRule 25 = .ok (.aload_n 0, 1) := by decide +kernel
theorem dX9_isRule_26 : decode cX9_isRule 26 = .ok (.getfield 32, 3) := by decide +kernel
theorem dX9_isRule_29 : decode cX9_isRule 29 = .ok (.aload_n 0, 1) := by decide +kernel
theorem dX9_isRule_30 : decode cX9_isRule 30 = .ok (.getfield 122, 3) := by decide +kernel
theorem dX9_isRule_33 : decode cX9_isRule 33 = .ok (.aload_n 0, 1) := by decide +kernel
theorem dX9_isRule_34 : decode cX9_isRule 34 = .ok (.getfield 29, 3) := by decide +kernel
theorem dX9_isRule_37 : decode cX9_isRule 37 = .ok (.aload_n 0, 1) := by decide +kernel
theorem dX9_isRule_38 : decode cX9_isRule 38 = .ok (.getfield 122, 3) := by decide +kernel
theorem dX9_isRule_41 : decode cX9_isRule 41 = .ok (.iaload, 1) := by decide +kernel
theorem dX9_isRule_42 : decode cX9_isRule 42 = .ok (.ifCond .lt 22, 3) := by decide +kernel
theorem dX9_isRule_45 : decode cX9_isRule 45 = .ok (.aload_n 0, 1) := by decide +kernel
theorem dX9_isRule_46 : decode cX9_isRule 46 = .ok (.bipush 44, 2) := by decide +kernel
theorem dX9_isRule_48 : decode cX9_isRule 48 = .ok (.invokevirtual 118, 3) := by decide +kernel
theorem dX9_isRule_51 : decode cX9_isRule 51 = .ok (.ifCond .eq 13, 3) := by decide +kernel
theorem dX9_isRule_54 : decode cX9_isRule 54 = .ok (.aload_n 0, 1) := by decide +kernel
theorem dX9_isRule_55 : decode cX9_isRule 55 = .ok (.iconst 1, 1) := by decide +kernel
theorem dX9_isRule_56 : decode cX9_isRule 56 = .ok (.bipush 99, 2) := by decide +kernel
theorem dX9_isRule_58 : decode cX9_isRule 58 = .ok (.invokevirtual 114, 3) := by decide +kernel
theorem dX9_isRule_61 : decode cX9_isRule 61 = .ok (.goto 4, 3) := by decide +kernel
theorem dX9_isRule_64 : decode cX9_isRule 64 = .ok (.iconst (-1), 1) := by decide +kernel
theorem dX9_isRule_65 : decode cX9_isRule 65 = .ok (.iastore, 1) := by decide +kernel
theorem dX9_isRule_66 : decode cX9_isRule 66 = .ok (.aload_n 0, 1) := by decide +kernel
theorem dX9_isRule_67 : decode cX9_isRule 67 = .ok (.dup, 1) := by decide +kernel
theorem dX9_isRule_68 : decode cX9_isRule 68 = .ok (.getfield 122, 3) := by decide +kernel
theorem dX9_isRule_71 : decode cX9_isRule 71 = .ok (.iconst 1, 1) := by decide +kernel
theorem dX9_isRule_72 : decode cX9_isRule 72 = .ok (.iadd, 1) := by decide +kernel
theorem dX9_isRule_73 : decode cX9_isRule 73 = .ok (.putfield 122, 3) := by decide +kernel
theorem dX9_isRule_76 : decode cX9_isRule 76 = .ok (.aload_n 0, 1) := by decide +kernel
theorem dX9_isRule_77 : decode cX9_isRule 77 = .ok (.getfield 32, 3) := by decide +kernel
theorem dX9_isRule_80 : decode cX9_isRule 80 = .ok (.aload_n 0, 1) := by decide +kernel
theorem dX9_isRule_81 : decode cX9_isRule 81 = .ok (.getfield 122, 3) := by decide +kernel
theorem dX9_isRule_84 : decode cX9_isRule 84 = .ok (.iconst 1, 1) := by decide +kernel
theorem dX9_isRule_85 : decode cX9_isRule 85 = .ok (.isub, 1) := by decide +kernel
theorem dX9_isRule_86 : decode cX9_isRule 86 = .ok (.iaload, 1) := by decide +kernel
theorem dX9_isRule_87 : decode cX9_isRule 87 = .ok (.ifCond .le 7, 3) := by decide +kernel
theorem dX9_isRule_90 : decode cX9_isRule 90 = .ok (.iconst 1, 1) := by decide +kernel
theorem dX9_isRule_91 : decode cX9_isRule 91 = .ok (.goto 4, 3) := by decide +kernel
theorem dX9_isRule_94 : decode cX9_isRule 94 = .ok (.iconst 0, 1) := by decide +kernel
theorem dX9_isRule_95 : decode cX9_isRule 95 = .ok (.ireturn, 1) := by decide +kernel
theorem dX9_isItem_0 : decode cX9_isItem 0 = .ok (.aload_n 0, 1) := by decide +kernel
theorem dX9_isItem_1 : decode cX9_isItem 1 = .ok (.bipush 103, 2) := by decide +kernel
theorem dX9_isItem_3 : decode cX9_isItem 3 = .ok (.invokevirtual 118, 3) := by decide +kernel
theorem dX9_isItem_6 : decode cX9_isItem 6 = .ok (.ifCond .eq 25, 3) := by decide +kernel
theorem dX9_isItem_9 : decode cX9_isItem 9 = .ok (.aload_n 0, 1) := by decide +kernel
theorem dX9_isItem_10 : decode cX9_isItem 10 = .ok (.invokevirtual 125, 3) := by decide +kernel
theorem dX9_isItem_13 : decode cX9_isItem 13 = .ok (.ifCond .eq 16, 3) := by decide +kernel
theorem dX9_isItem_16 : decode cX9_isItem 16 = .ok (.aload_n 0, 1) := by decide +kernel
theorem dX9_isItem_17 : decode cX9_isItem 17 = .ok (.bipush 59, 2) := by decide +kernel
theorem dX9_isItem_19 : decode cX9_isItem 19 = .ok (.invokevirtual 118, 3) := by decide +kernel
theorem dX9_isItem_22 : decode cX9_isItem 22 = .ok (.ifCond .eq 7, 3) := by decide +kernel
theorem dX9_isItem_25 : decode cX9_isItem 25 = .ok (.iconst 1, 1) := by decide +kernel
theorem dX9_isItem_26 : decode cX9_isItem 26 = .ok (.goto 4, 3) := by decide +kernel
theorem dX9_isItem_29 : decode cX9_isItem 29 = .ok (.iconst 0, 1) := by decide +kernel
theorem dX9_isItem_30 : decode cX9_isItem 30 = .ok (.ireturn, 1) := by decide +kernel
theorem dX9_isItem_31 : decode cX9_isItem 31 = .ok (.aload_n 0, 1) := by decide +kernel
theorem dX9_isItem_32 : decode cX9_isItem 32 = .ok (.bipush 114, 2) := by decide +kernel
theorem dX9_isItem_34 : decode cX9_isItem 34 = .ok (.invokevirtual 118, 3) := by decide +kernel
theorem dX9_isItem_37 : decode cX9_isItem 37 = .ok (.ifCond .eq 25, 3) := by decide +kernel
theorem dX9_isItem_40 : decode cX9_isItem 40 = .ok (.aload_n 0, 1) := by decide +kernel
theorem dX9_isItem_41 : decode cX9_isItem 41 = .ok (.invokevirtual 128, 3) := by decide +kernel
theorem dX9_isItem_44 : decode cX9_isItem 44 = .ok (.ifCond .eq 16, 3) := by decide +kernel
theorem dX9_isItem_47 : decode cX9_isItem 47 = .ok (.aload_n 0, 1) := by decide +kernel
theorem dX9_isItem_48 : decode cX9_isItem 48 = .ok (.bipush 59, 2) := by decide +kernel
theorem dX9_isItem_50 : decode cX9_isItem 50 = .ok (.invokevirtual 118, 3) := by decide +kernel
theorem dX9_isItem_53 : decode cX9_isItem 53 = .ok (.ifCond .eq 7, 3) := by decide +kernel
theorem dX9_isItem_56 : decode cX9_isItem 56 = .ok (.iconst 1, 1) := by decide +kernel
theorem dX9_isItem_57 : decode cX9_isItem 57 = .ok (.goto 4, 3) := by decide +kernel
theorem dX9_isItem_60 : decode cX9_isItem 60 = .ok (.iconst 0, 1) := by decide +kernel
theorem dX9_isItem_61 : decode cX9_isItem 61 = .ok (.ireturn, 1) := by decide +kernel
theorem dX9_isItem_62 : decode cX9_isItem 62 = .ok (.aload_n 0, 1) := by decide +kernel
theorem dX9_isItem_63 : decode cX9_isItem 63 = .ok (.bipush 100, 2) := by decide +kernel
theorem dX9_isItem_65 : decode cX9_isItem 65 = .ok (.invokevirtual 118, 3) := by decide +kernel
theorem dX9_isItem_68 : decode cX9_isItem 68 = .ok (.ifCond .eq 7, 3) := by decide +kernel
theorem dX9_isItem_71 : decode cX9_isItem 71 = .ok (.iconst 5, 1) := by decide +kernel
theorem dX9_isItem_72 : decode cX9_isItem 72 = .ok (.goto 18, 3) := by decide +kernel
theorem dX9_isItem_75 : decode cX9_isItem 75 = .ok (.aload_n 0, 1) := by decide +kernel
theorem dX9_isItem_76 : decode cX9_isItem 76 = .ok (.bipush 113, 2) := by decide +kernel
theorem dX9_isItem_78 : decode cX9_isItem 78 = .ok (.invokevirtual 118, 3) := by decide +kernel
theorem dX9_isItem_81 : decode cX9_isItem 81 = .ok (.ifCond .eq 8, 3) := by decide +kernel
theorem dX9_isItem_84 : decode cX9_isItem 84 = .ok (.bipush 6, 2) := by decide +kernel
theorem dX9_isItem_86 : decode cX9_isItem 86 = .ok (.goto 4, 3) := by decide +kernel
theorem dX9_isItem_89 : decode cX9_isItem 89 = .ok (.iconst (-1), 1) := by decide +kernel
theorem dX9_isItem_90 : decode cX9_isItem 90 = .ok (.istore_n 1, 1) := by decide +kernel
theorem dX9_isItem_91 : decode cX9_isItem 91 = .ok (.iload_n 1, 1) := by decide +kernel
theorem dX9_isItem_92 : decode cX9_isItem 92 = .ok (.ifCond .ge 5, 3) := by decide +kernel
theorem dX9_isItem_95 : decode cX9_isItem 95 = .ok (.iconst 0, 1) := by decide +kernel
theorem dX9_isItem_96 : decode cX9_isItem 96 = .ok (.ireturn, 1) := by decide +kernel
theorem dX9_isItem_97 : decode cX9_isItem 97 = .ok (.aload_n 0, 1) := by decide +kernel
theorem dX9_isItem_98 : decode cX9_isItem 98 = .ok (.getfield 26, 3) := by decide +kernel
theorem dX9_isItem_101 : decode cX9_isItem 101 = .ok (.iload_n 1, 1) := by decide +kernel
theorem dX9_isItem_102 : decode cX9_isItem 102 = .ok (.aload_n 0, 1) := by decide +kernel
theorem dX9_isItem_103 : decode cX9_isItem 103 = .ok (.iload_n 1, 1) := by decide +kernel
theorem dX9_isItem_104 : decode cX9_isItem 104 = .ok (.iconst 5, 1) := by decide +kernel
theorem dX9_isItem_105 : decode cX9_isItem 105 = .ok (.if_icmp .ne 7, 3) := by decide +kernel
theorem dX9_isItem_108 : decode cX9_isItem 108 = .ok (.iconst 1, 1) := by decide +kernel
theorem dX9_isItem_109 : decode cX9_isItem 109 = .ok (.goto 4, 3) := by decide +kernel
theorem dX9_isItem_112 : decode cX9_isItem 112 = .ok (.iconst 0, 1) := by decide +kernel
theorem dX9_isItem_113 : decode cX9_isItem 113 = .ok (.bipush 9, 2) := by decide +kernel
theorem dX9_isItem_115 : decode cX9_isItem 115 = .ok (.invokevirtual 114, 3) := by decide +kernel
theorem dX9_isItem_118 : decode cX9_isItem 118 = .ok (.iastore, 1) := by decide +kernel
theorem dX9_isItem_119 : decode cX9_isItem 119 = .ok (.aload_n 0, 1) := by decide +kernel
theorem dX9_isItem_120 : decode cX9_isItem 120 = .ok (.getfield 26, 3) := by decide +kernel
theorem dX9_isItem_123 : decode cX9_isItem 123 = .ok (.iload_n 1, 1) := by decide +kernel
theorem dX9_isItem_124 : decode cX9_isItem 124 = .ok (.iaload, 1) := by decide +kernel
theorem dX9_isItem_125 : decode cX9_isItem 125 = .ok (.ifCond .lt 16, 3) := by decide +kernel
theorem dX9_isItem_128 : decode cX9_isItem 128 = .ok (.aload_n 0, 1) := by decide +kernel
theorem dX9_isItem_129 : decode cX9_isItem 129 = .ok (.bipush 59, 2) := by decide +kernel
theorem dX9_isItem_131 : decode cX9_isItem 131 = .ok (.invokevirtual 118, 3) := by decide +kernel
theorem dX9_isItem_134 : decode cX9_isItem 134 = .ok (.ifCond .eq 7, 3) := by decide +kernel
theorem dX9_isItem_137 : decode cX9_isItem 137 = .ok (.iconst 1, 1) := by decide +kernel
theorem dX9_isItem_138 : decode cX9_isItem 138 = .ok (.goto 4, 3) := by decide +kernel
theorem dX9_isItem_141 : decode cX9_isItem 141 = .ok (.iconst 0, 1) := by decide +kernel
theorem dX9_isItem_142 : decode cX9_isItem 142 = .ok (.ireturn, 1) := by decide +kernel
theorem dX9_faultAt_0 : decode cX9_faultAt 0 = .ok (.aload_n 0, 1) := by decide +kernel
theorem dX9_faultAt_1 : decode cX9_faultAt 1 = .ok (.getfield 26, 3) := by decide +kernel
theorem dX9_faultAt_4 : decode cX9_faultAt 4 = .ok (.invokestatic 84, 3) := by decide +kernel
theorem dX9_faultAt_7 : decode cX9_faultAt 7 = .ok (.aload_n 0, 1) := by decide +kernel
theorem dX9_faultAt_8 : decode cX9_faultAt 8 = .ok (.iconst 0, 1) := by decide +kernel
theorem dX9_faultAt_9 : decode cX9_faultAt 9 = .ok (.putfield 122, 3) := by decide +kernel
theorem dX9_faultAt_12 : decode cX9_faultAt 12 = .ok (.aload_n 0, 1) := by decide +kernel
theorem dX9_faultAt_13 : decode cX9_faultAt 13 = .ok (.iconst 0, 1) := by decide +kernel
theorem dX9_faultAt_14 : decode cX9_faultAt 14 = .ok (.putfield 96, 3) := by decide +kernel
theorem dX9_faultAt_17 : decode cX9_faultAt 17 = .ok (.aload_n 0, 1) := by decide +kernel
theorem dX9_faultAt_18 : decode cX9_faultAt 18 = .ok (.getfield 96, 3) := by decide +kernel
theorem dX9_faultAt_21 : decode cX9_faultAt 21 = .ok (.aload_n 0, 1) := by decide +kernel
theorem dX9_faultAt_22 : decode cX9_faultAt 22 = .ok (.getfield 99, 3) := by decide +kernel
theorem dX9_faultAt_25 : decode cX9_faultAt 25 = .ok (.if_icmp .ge 20, 3) := by decide +kernel
theorem dX9_faultAt_28 : decode cX9_faultAt 28 = .ok (.aload_n 0, 1) := by decide +kernel
theorem dX9_faultAt_29 : decode cX9_faultAt 29 = .ok (.getfield 96, 3) := by decide +kernel
theorem dX9_faultAt_32 : decode cX9_faultAt 32 = .ok (.istore_n 1, 1) := by decide +kernel
theorem dX9_faultAt_33 : decode cX9_faultAt 33 = .ok (.aload_n 0, 1) := by decide +kernel
theorem dX9_faultAt_34 : decode cX9_faultAt 34 = .ok (.invokevirtual 131, 3) := by decide +kernel
theorem dX9_faultAt_37 : decode cX9_faultAt 37 = .ok (.ifCond .ne 5, 3) := by decide +kernel
theorem dX9_faultAt_40 : decode cX9_faultAt 40 = .ok (.iload_n 1, 1) := by decide +kernel
theorem dX9_faultAt_41 : decode cX9_faultAt 41 = .ok (.ireturn, 1) := by decide +kernel
theorem dX9_faultAt_42 : decode cX9_faultAt 42 = .ok (.goto (-25), 3) := by decide +kernel
theorem dX9_faultAt_45 : decode cX9_faultAt 45 = .ok (.bipush (-4), 2) := by decide +kernel
theorem dX9_faultAt_47 : decode cX9_faultAt 47 = .ok (.ireturn, 1) := by decide +kernel
theorem dX9_write_0 : decode cX9_write 0 = .ok (.iload_n 1, 1) := by decide +kernel
theorem dX9_write_1 : decode cX9_write 1 = .ok (.i2l, 1) := by decide +kernel
theorem dX9_write_2 : decode cX9_write 2 = .ok (.ldc2_w 134, 3) := by decide +kernel
theorem dX9_write_5 : decode cX9_write 5 = .ok (.ldc2_w 136, 3) := by decide +kernel
theorem dX9_write_8 : decode cX9_write 8 = .ok (.invokestatic 106, 3) := by decide +kernel
theorem dX9_write_11 : decode cX9_write 11 = .ok (.ifCond .ne 5, 3) := by decide +kernel
theorem dX9_write_14 : decode cX9_write 14 = .ok (.iconst (-1), 1) := by decide +kernel
theorem dX9_write_15 : decode cX9_write 15 = .ok (.ireturn, 1) := by decide +kernel
theorem dX9_write_16 : decode cX9_write 16 = .ok (.aload_n 0, 1) := by decide +kernel
theorem dX9_write_17 : decode cX9_write 17 = .ok (.getfield 99, 3) := by decide +kernel
theorem dX9_write_20 : decode cX9_write 20 = .ok (.sipush 200, 3) := by decide +kernel
theorem dX9_write_23 : decode cX9_write 23 = .ok (.if_icmp .ne 6, 3) := by decide +kernel
theorem dX9_write_26 : decode cX9_write 26 = .ok (.bipush (-3), 2) := by decide +kernel
theorem dX9_write_28 : decode cX9_write 28 = .ok (.ireturn, 1) := by decide +kernel
theorem dX9_write_29 : decode cX9_write 29 = .ok (.aload_n 0, 1) := by decide +kernel
theorem dX9_write_30 : decode cX9_write 30 = .ok (.getfield 23, 3) := by decide +kernel
theorem dX9_write_33 : decode cX9_write 33 = .ok (.aload_n 0, 1) := by decide +kernel
theorem dX9_write_34 : decode cX9_write 34 = .ok (.getfield 99, 3) := by decide +kernel
theorem dX9_write_37 : decode cX9_write 37 = .ok (.iload_n 1, 1) := by decide +kernel
theorem dX9_write_38 : decode cX9_write 38 = .ok (.iastore, 1) := by decide +kernel
theorem dX9_write_39 : decode cX9_write 39 = .ok (.aload_n 0, 1) := by decide +kernel
theorem dX9_write_40 : decode cX9_write 40 = .ok (.dup, 1) := by decide +kernel
theorem dX9_write_41 : decode cX9_write 41 = .ok (.getfield 99, 3) := by decide +kernel
theorem dX9_write_44 : decode cX9_write 44 = .ok (.iconst 1, 1) := by decide +kernel
theorem dX9_write_45 : decode cX9_write 45 = .ok (.iadd, 1) := by decide +kernel
theorem dX9_write_46 : decode cX9_write 46 = .ok (.putfield 99, 3) := by decide +kernel
theorem dX9_write_49 : decode cX9_write 49 = .ok (.aload_n 0, 1) := by decide +kernel
theorem dX9_write_50 : decode cX9_write 50 = .ok (.getfield 99, 3) := by decide +kernel
theorem dX9_write_53 : decode cX9_write 53 = .ok (.ireturn, 1) := by decide +kernel
theorem dX9_wipe_0 : decode cX9_wipe 0 = .ok (.aload_n 0, 1) := by decide +kernel
theorem dX9_wipe_1 : decode cX9_wipe 1 = .ok (.getfield 99, 3) := by decide +kernel
theorem dX9_wipe_4 : decode cX9_wipe 4 = .ok (.istore_n 1, 1) := by decide +kernel
theorem dX9_wipe_5 : decode cX9_wipe 5 = .ok (.aload_n 0, 1) := by decide +kernel
theorem dX9_wipe_6 : decode cX9_wipe 6 = .ok (.iconst 0, 1) := by decide +kernel
theorem dX9_wipe_7 : decode cX9_wipe 7 = .ok (.putfield 99, 3) := by decide +kernel
theorem dX9_wipe_10 : decode cX9_wipe 10 = .ok (.iload_n 1, 1) := by decide +kernel
theorem dX9_wipe_11 : decode cX9_wipe 11 = .ok (.ireturn, 1) := by decide +kernel
theorem dX9_fault_0 : decode cX9_fault 0 = .ok (.aload_n 0, 1) := by decide +kernel
theorem dX9_fault_1 : decode cX9_fault 1 = .ok (.invokevirtual 138, 3) := by decide +kernel
theorem dX9_fault_4 : decode cX9_fault 4 = .ok (.ireturn, 1) := by decide +kernel
theorem dX9_lay_0 : decode cX9_lay 0 = .ok (.aload_n 0, 1) := by decide +kernel
theorem dX9_lay_1 : decode cX9_lay 1 = .ok (.invokevirtual 138, 3) := by decide +kernel
theorem dX9_lay_4 : decode cX9_lay 4 = .ok (.bipush (-4), 2) := by decide +kernel
theorem dX9_lay_6 : decode cX9_lay 6 = .ok (.if_icmp .ne 10, 3) := by decide +kernel
theorem dX9_lay_9 : decode cX9_lay 9 = .ok (.aload_n 0, 1) := by decide +kernel
theorem dX9_lay_10 : decode cX9_lay 10 = .ok (.getfield 122, 3) := by decide +kernel
theorem dX9_lay_13 : decode cX9_lay 13 = .ok (.ifCond .ne 6, 3) := by decide +kernel
theorem dX9_lay_16 : decode cX9_lay 16 = .ok (.bipush (-2), 2) := by decide +kernel
theorem dX9_lay_18 : decode cX9_lay 18 = .ok (.ireturn, 1) := by decide +kernel
theorem dX9_lay_19 : decode cX9_lay 19 = .ok (.iconst 0, 1) := by decide +kernel
theorem dX9_lay_20 : decode cX9_lay 20 = .ok (.istore_n 1, 1) := by decide +kernel
theorem dX9_lay_21 : decode cX9_lay 21 = .ok (.iload_n 1, 1) := by decide +kernel
theorem dX9_lay_22 : decode cX9_lay 22 = .ok (.bipush 7, 2) := by decide +kernel
theorem dX9_lay_24 : decode cX9_lay 24 = .ok (.if_icmp .ge 21, 3) := by decide +kernel
theorem dX9_lay_27 : decode cX9_lay 27 = .ok (.aload_n 0, 1) := by decide +kernel
theorem dX9_lay_28 : decode cX9_lay 28 = .ok (.getfield 7, 3) := by decide +kernel
theorem dX9_lay_31 : decode cX9_lay 31 = .ok (.iload_n 1, 1) := by decide +kernel
theorem dX9_lay_32 : decode cX9_lay 32 = .ok (.aload_n 0, 1) := by decide +kernel
theorem dX9_lay_33 : decode cX9_lay 33 = .ok (.getfield 26, 3) := by decide +kernel
theorem dX9_lay_36 : decode cX9_lay 36 = .ok (.iload_n 1, 1) := by decide +kernel
theorem dX9_lay_37 : decode cX9_lay 37 = .ok (.iaload, 1) := by decide +kernel
theorem dX9_lay_38 : decode cX9_lay 38 = .ok (.iastore, 1) := by decide +kernel
theorem dX9_lay_39 : decode cX9_lay 39 = .ok (.iinc 1 1, 3) := by decide +kernel
theorem dX9_lay_42 : decode cX9_lay 42 = .ok (.goto (-21), 3) := by decide +kernel
theorem dX9_lay_45 : decode cX9_lay 45 = .ok (.aload_n 0, 1) := by decide +kernel
theorem dX9_lay_46 : decode cX9_lay 46 = .ok (.aload_n 0, 1) := by decide +kernel
theorem dX9_lay_47 : decode cX9_lay 47 = .ok (.getfield 122, 3) := by decide +kernel
theorem dX9_lay_50 : decode cX9_lay 50 = .ok (.putfield 88, 3) := by decide +kernel
theorem dX9_lay_53 : decode cX9_lay 53 = .ok (.aload_n 0, 1) := by decide +kernel
theorem dX9_lay_54 : decode cX9_lay 54 = .ok (.getfield 16, 3) := by decide +kernel
theorem dX9_lay_57 : decode cX9_lay 57 = .ok (.iconst 0, 1) := by decide +kernel
theorem dX9_lay_58 : decode cX9_lay 58 = .ok (.lconst 0, 1) := by decide +kernel
theorem dX9_lay_59 : decode cX9_lay 59 = .ok (.lastore, 1) := by decide +kernel
theorem dX9_lay_60 : decode cX9_lay 60 = .ok (.iconst 0, 1) := by decide +kernel
theorem dX9_lay_61 : decode cX9_lay 61 = .ok (.istore_n 1, 1) := by decide +kernel
theorem dX9_lay_62 : decode cX9_lay 62 = .ok (.iload_n 1, 1) := by decide +kernel
theorem dX9_lay_63 : decode cX9_lay 63 = .ok (.aload_n 0, 1) := by decide +kernel
theorem dX9_lay_64 : decode cX9_lay 64 = .ok (.getfield 88, 3) := by decide +kernel
theorem dX9_lay_67 : decode cX9_lay 67 = .ok (.if_icmp .ge 37, 3) := by decide +kernel
theorem dX9_lay_70 : decode cX9_lay 70 = .ok (.aload_n 0, 1) := by decide +kernel
theorem dX9_lay_71 : decode cX9_lay 71 = .ok (.getfield 13, 3) := by decide +kernel
theorem dX9_lay_74 : decode cX9_lay 74 = .ok (.iload_n 1, 1) := by decide +kernel
theorem dX9_lay_75 : decode cX9_lay 75 = .ok (.aload_n 0, 1) := by decide +kernel
theorem dX9_lay_76 : decode cX9_lay 76 = .ok (.getfield 29, 3) := by decide +kernel
theorem dX9_lay_79 : decode cX9_lay 79 = .ok (.iload_n 1, 1) := by decide +kernel
theorem dX9_lay_80 : decode cX9_lay 80 = .ok (.iaload, 1) := by decide +kernel
theorem dX9_lay_81 : decode cX9_lay 81 = .ok (.iastore, 1) := by decide +kernel
theorem dX9_lay_82 : decode cX9_lay 82 = .ok (.aload_n 0, 1) := by decide +kernel
theorem dX9_lay_83 : decode cX9_lay 83 = .ok (.getfield 16, 3) := by decide +kernel
theorem dX9_lay_86 : decode cX9_lay 86 = .ok (.bipush 61, 2) := by decide +kernel
theorem dX9_lay_88 : decode cX9_lay 88 = .ok (.iload_n 1, 1) := by decide +kernel
theorem dX9_lay_89 : decode cX9_lay 89 = .ok (.iadd, 1) := by decide +kernel
theorem dX9_lay_90 : decode cX9_lay 90 = .ok (.aload_n 0, 1) := by decide +kernel
theorem dX9_lay_91 : decode cX9_lay 91 = .ok (.getfield 32, 3) := by decide +kernel
theorem dX9_lay_94 : decode cX9_lay 94 = .ok (.iload_n 1, 1) := by decide +kernel
theorem dX9_lay_95 : decode cX9_lay 95 = .ok (.iaload, 1) := by decide +kernel
theorem dX9_lay_96 : decode cX9_lay 96 = .ok (.i2l, 1) := by decide +kernel
theorem dX9_lay_97 : decode cX9_lay 97 = .ok (.lastore, 1) := by decide +kernel
theorem dX9_lay_98 : decode cX9_lay 98 = .ok (.iinc 1 1, 3) := by decide +kernel
theorem dX9_lay_101 : decode cX9_lay 101 = .ok (.goto (-39), 3) := by decide +kernel
theorem dX9_lay_104 : decode cX9_lay 104 = .ok (.aload_n 0, 1) := by decide +kernel
theorem dX9_lay_105 : decode cX9_lay 105 = .ok (.iconst 0, 1) := by decide +kernel
theorem dX9_lay_106 : decode cX9_lay 106 = .ok (.putfield 142, 3) := by decide +kernel
theorem dX9_lay_109 : decode cX9_lay 109 = .ok (.aload_n 0, 1) := by decide +kernel
theorem dX9_lay_110 : decode cX9_lay 110 = .ok (.getfield 7, 3) := by decide +kernel
theorem dX9_lay_113 : decode cX9_lay 113 = .ok (.iconst 0, 1) := by decide +kernel
theorem dX9_lay_114 : decode cX9_lay 114 = .ok (.iaload, 1) := by decide +kernel
theorem dX9_lay_115 : decode cX9_lay 115 = .ok (.ireturn, 1) := by decide +kernel
theorem dX9_keeps_0 : decode cX9_keeps 0 = .ok (.aload_n 0, 1) := by decide +kernel
theorem dX9_keeps_1 : decode cX9_keeps 1 = .ok (.getfield 142, 3) := by decide +kernel
theorem dX9_keeps_4 : decode cX9_keeps 4 = .ok (.bipush 6, 2) := by decide +kernel
theorem dX9_keeps_6 : decode cX9_keeps 6 = .ok (.if_icmp .ne 43, 3) := by decide +kernel
theorem dX9_keeps_9 : decode cX9_keeps 9 = .ok (.iconst 0, 1) := by decide +kernel
theorem dX9_keeps_10 : decode cX9_keeps 10 = .ok (.istore_n 1, 1) := by decide +kernel
theorem dX9_keeps_11 : decode cX9_keeps 11 = .ok (.iload_n 1, 1) := by decide +kernel
theorem dX9_keeps_12 : decode cX9_keeps 12 = .ok (.sipush 325, 3) := by decide +kernel
theorem dX9_keeps_15 : decode cX9_keeps 15 = .ok (.if_icmp .ge 24, 3) := by decide +kernel
theorem dX9_keeps_18 : decode cX9_keeps 18 = .ok (.aload_n 0, 1) := by decide +kernel
theorem dX9_keeps_19 : decode cX9_keeps 19 = .ok (.getfield 20, 3) := by decide +kernel
theorem dX9_keeps_22 : decode cX9_keeps 22 = .ok (.iload_n 1, 1) := by decide +kernel
theorem dX9_keeps_23 : decode cX9_keeps 23 = .ok (.aload_n 0, 1) := by decide +kernel
theorem dX9_keeps_24 : decode cX9_keeps 24 = .ok (.getfield 20, 3) := by decide +kernel
theorem dX9_keeps_27 : decode cX9_keeps 27 = .ok (.iload_n 1, 1) := by decide +kernel
theorem dX9_keeps_28 : decode cX9_keeps 28 = .ok (.bipush 65, 2) := by decide +kernel
theorem dX9_keeps_30 : decode cX9_keeps 30 = .ok (.iadd, 1) := by decide +kernel
theorem dX9_keeps_31 : decode cX9_keeps 31 = .ok (.laload, 1) := by decide +kernel
theorem dX9_keeps_32 : decode cX9_keeps 32 = .ok (.lastore, 1) := by decide +kernel
theorem dX9_keeps_33 : decode cX9_keeps 33 = .ok (.iinc 1 1, 3) := by decide +kernel
theorem dX9_keeps_36 : decode cX9_keeps 36 = .ok (.goto (-25), 3) := by decide +kernel
theorem dX9_keeps_39 : decode cX9_keeps 39 = .ok (.aload_n 0, 1) := by decide +kernel
theorem dX9_keeps_40 : decode cX9_keeps 40 = .ok (.dup, 1) := by decide +kernel
theorem dX9_keeps_41 : decode cX9_keeps 41 = .ok (.getfield 142, 3) := by decide +kernel
theorem dX9_keeps_44 : decode cX9_keeps 44 = .ok (.iconst 1, 1) := by decide +kernel
theorem dX9_keeps_45 : decode cX9_keeps 45 = .ok (.isub, 1) := by decide +kernel
theorem dX9_keeps_46 : decode cX9_keeps 46 = .ok (.putfield 142, 3) := by decide +kernel
theorem dX9_keeps_49 : decode cX9_keeps 49 = .ok (.iconst 0, 1) := by decide +kernel
theorem dX9_keeps_50 : decode cX9_keeps 50 = .ok (.istore_n 1, 1) := by decide +kernel
theorem dX9_keeps_51 : decode cX9_keeps 51 = .ok (.iload_n 1, 1) := by decide +kernel
theorem dX9_keeps_52 : decode cX9_keeps 52 = .ok (.bipush 65, 2) := by decide +kernel
theorem dX9_keeps_54 : decode cX9_keeps 54 = .ok (.if_icmp .ge 29, 3) := by decide +kernel
theorem dX9_keeps_57 : decode cX9_keeps 57 = .ok (.aload_n 0, 1) := by decide +kernel
theorem dX9_keeps_58 : decode cX9_keeps 58 = .ok (.getfield 20, 3) := by decide +kernel
theorem dX9_keeps_61 : decode cX9_keeps 61 = .ok (.bipush 65, 2) := by decide +kernel
theorem dX9_keeps_63 : decode cX9_keeps 63 = .ok (.aload_n 0, 1) := by decide +kernel
theorem dX9_keeps_64 : decode cX9_keeps 64 = .ok (.getfield 142, 3) := by decide +kernel
theorem dX9_keeps_67 : decode cX9_keeps 67 = .ok (.imul, 1) := by decide +kernel
theorem dX9_keeps_68 : decode cX9_keeps 68 = .ok (.iload_n 1, 1) := by decide +kernel
theorem dX9_keeps_69 : decode cX9_keeps 69 = .ok (.iadd, 1) := by decide +kernel
theorem dX9_keeps_70 : decode cX9_keeps 70 = .ok (.aload_n 0, 1) := by decide +kernel
theorem dX9_keeps_71 : decode cX9_keeps 71 = .ok (.getfield 16, 3) := by decide +kernel
theorem dX9_keeps_74 : decode cX9_keeps 74 = .ok (.iload_n 1, 1) := by decide +kernel
theorem dX9_keeps_75 : decode cX9_keeps 75 = .ok (.laload, 1) := by decide +kernel
theorem dX9_keeps_76 : decode cX9_keeps 76 = .ok (.lastore, 1) := by decide +kernel
theorem dX9_keeps_77 : decode cX9_keeps 77 = .ok (.iinc 1 1, 3) := by decide +kernel
theorem dX9_keeps_80 : decode cX9_keeps 80 = .ok (.goto (-29), 3) := by decide +kernel
theorem dX9_keeps_83 : decode cX9_keeps 83 = .ok (.aload_n 0, 1) := by decide +kernel
theorem dX9_keeps_84 : decode cX9_keeps 84 = .ok (.dup, 1) := by decide +kernel
theorem dX9_keeps_85 : decode cX9_keeps 85 = .ok (.getfield 142, 3) := by decide +kernel
theorem dX9_keeps_88 : decode cX9_keeps 88 = .ok (.iconst 1, 1) := by decide +kernel
theorem dX9_keeps_89 : decode cX9_keeps 89 = .ok (.iadd, 1) := by decide +kernel
theorem dX9_keeps_90 : decode cX9_keeps 90 = .ok (.putfield 142, 3) := by decide +kernel
theorem dX9_keeps_93 : decode cX9_keeps 93 = .ok (.return_, 1) := by decide +kernel
theorem dX9_lines_0 : decode cX9_lines 0 = .ok (.aload_n 0, 1) := by decide +kernel
theorem dX9_lines_1 : decode cX9_lines 1 = .ok (.getfield 16, 3) := by decide +kernel
theorem dX9_lines_4 : decode cX9_lines 4 = .ok (.iconst 0, 1) := by decide +kernel
theorem dX9_lines_5 : decode cX9_lines 5 = .ok (.laload, 1) := by decide +kernel
theorem dX9_lines_6 : decode cX9_lines 6 = .ok (.l2i, 1) := by decide +kernel
theorem dX9_lines_7 : decode cX9_lines 7 = .ok (.ireturn, 1) := by decide +kernel
theorem dX9_power_0 : decode cX9_power 0 = .ok (.lconst 1, 1) := by decide +kernel
theorem dX9_power_1 : decode cX9_power 1 = .ok (.lstore_n 1, 1) := by decide +kernel
theorem dX9_power_2 : decode cX9_power 2 = .ok (.iconst 0, 1) := by decide +kernel
theorem dX9_power_3 : decode cX9_power 3 = .ok (.istore_n 3, 1) := by decide +kernel
theorem dX9_power_4 : decode cX9_power 4 = .ok (.iload_n 3, 1) := by decide +kernel
theorem dX9_power_5 : decode cX9_power 5 = .ok (.aload_n 0, 1) := by decide +kernel
theorem dX9_power_6 : decode cX9_power 6 = .ok (.getfield 7, 3) := by decide +kernel
theorem dX9_power_9 : decode cX9_power 9 = .ok (.iconst 0, 1) := by decide +kernel
theorem dX9_power_10 : decode cX9_power 10 = .ok (.iaload, 1) := by decide +kernel
theorem dX9_power_11 : decode cX9_power 11 = .ok (.if_icmp .ge 15, 3) := by decide +kernel
theorem dX9_power_14 : decode cX9_power 14 = .ok (.lload_n 1, 1) := by decide +kernel
theorem dX9_power_15 : decode cX9_power 15 = .ok (.ldc2_w 145, 3) := by decide +kernel
theorem dX9_power_18 : decode cX9_power 18 = .ok (.lmul, 1) := by decide +kernel
theorem dX9_power_19 : decode cX9_power 19 = .ok (.lstore_n 1, 1) := by decide +kernel
theorem dX9_power_20 : decode cX9_power 20 = .ok (.iinc 3 1, 3) := by decide +kernel
theorem dX9_power_23 : decode cX9_power 23 = .ok (.goto (-19), 3) := by decide +kernel
theorem dX9_power_26 : decode cX9_power 26 = .ok (.lload_n 1, 1) := by decide +kernel
theorem dX9_power_27 : decode cX9_power 27 = .ok (.lreturn, 1) := by decide +kernel
theorem dX9_see_0 : decode cX9_see 0 = .ok (.lload_n 1, 1) := by decide +kernel
theorem dX9_see_1 : decode cX9_see 1 = .ok (.lconst 0, 1) := by decide +kernel
theorem dX9_see_2 : decode cX9_see 2 = .ok (.aload_n 0, 1) := by decide +kernel
theorem dX9_see_3 : decode cX9_see 3 = .ok (.invokevirtual 147, 3) := by decide +kernel
theorem dX9_see_6 : decode cX9_see 6 = .ok (.lconst 1, 1) := by decide +kernel
theorem dX9_see_7 : decode cX9_see 7 = .ok (.lsub, 1) := by decide +kernel
theorem dX9_see_8 : decode cX9_see 8 = .ok (.invokestatic 106, 3) := by decide +kernel
theorem dX9_see_11 : decode cX9_see 11 = .ok (.ifCond .ne 5, 3) := by decide +kernel
theorem dX9_see_14 : decode cX9_see 14 = .ok (.iconst (-1), 1) := by decide +kernel
theorem dX9_see_15 : decode cX9_see 15 = .ok (.ireturn, 1) := by decide +kernel
theorem dX9_see_16 : decode cX9_see 16 = .ok (.aload_n 0, 1) := by decide +kernel
theorem dX9_see_17 : decode cX9_see 17 = .ok (.invokevirtual 151, 3) := by decide +kernel
theorem dX9_see_20 : decode cX9_see 20 = .ok (.aload_n 0, 1) := by decide +kernel
theorem dX9_see_21 : decode cX9_see 21 = .ok (.invokevirtual 154, 3) := by decide +kernel
theorem dX9_see_24 : decode cX9_see 24 = .ok (.bipush 60, 2) := by decide +kernel
theorem dX9_see_26 : decode cX9_see 26 = .ok (.if_icmp .eq 12, 3) := by decide +kernel
theorem dX9_see_29 : decode cX9_see 29 = .ok (.aload_n 0, 1) := by decide +kernel
theorem dX9_see_30 : decode cX9_see 30 = .ok (.getfield 157, 3) := by decide +kernel
theorem dX9_see_33 : decode cX9_see 33 = .ok (.bipush 24, 2) := by decide +kernel
theorem dX9_see_35 : decode cX9_see 35 = .ok (.if_icmp .lt 6, 3) := by decide +kernel
theorem dX9_see_38 : decode cX9_see 38 = .ok (.bipush (-3), 2) := by decide +kernel
theorem dX9_see_40 : decode cX9_see 40 = .ok (.ireturn, 1) := by decide +kernel
theorem dX9_see_41 : decode cX9_see 41 = .ok (.aload_n 0, 1) := by decide +kernel
theorem dX9_see_42 : decode cX9_see 42 = .ok (.getfield 157, 3) := by decide +kernel
theorem dX9_see_45 : decode cX9_see 45 = .ok (.istore_n 3, 1) := by decide +kernel
theorem dX9_see_46 : decode cX9_see 46 = .ok (.aload_n 0, 1) := by decide +kernel
theorem dX9_see_47 : decode cX9_see 47 = .ok (.invokevirtual 160, 3) := by decide +kernel
theorem dX9_see_50 : decode cX9_see 50 = .ok (.aload_n 0, 1) := by decide +kernel
theorem dX9_see_51 : decode cX9_see 51 = .ok (.getfield 16, 3) := by decide +kernel
theorem dX9_see_54 : decode cX9_see 54 = .ok (.iconst 1, 1) := by decide +kernel
theorem dX9_see_55 : decode cX9_see 55 = .ok (.aload_n 0, 1) := by decide +kernel
theorem dX9_see_56 : decode cX9_see 56 = .ok (.invokevirtual 154, 3) := by decide +kernel
theorem dX9_see_59 : decode cX9_see 59 = .ok (.iadd, 1) := by decide +kernel
theorem dX9_see_60 : decode cX9_see 60 = .ok (.lload_n 1, 1) := by decide +kernel
theorem dX9_see_61 : decode cX9_see 61 = .ok (.lastore, 1) := by decide +kernel
theorem dX9_see_62 : decode cX9_see 62 = .ok (.aload_n 0, 1) := by decide +kernel
theorem dX9_see_63 : decode cX9_see 63 = .ok (.getfield 16, 3) := by decide +kernel
theorem dX9_see_66 : decode cX9_see 66 = .ok (.iconst 0, 1) := by decide +kernel
theorem dX9_see_67 : decode cX9_see 67 = .ok (.dup2, 1) := by decide +kernel
theorem dX9_see_68 : decode cX9_see 68 = .ok (.laload, 1) := by decide +kernel
theorem dX9_see_69 : decode cX9_see 69 = .ok (.lconst 1, 1) := by decide +kernel
theorem dX9_see_70 : decode cX9_see 70 = .ok (.ladd, 1) := by decide +kernel
theorem dX9_see_71 : decode cX9_see 71 = .ok (.lastore, 1) := by decide +kernel
theorem dX9_see_72 : decode cX9_see 72 = .ok (.aload_n 0, 1) := by decide +kernel
theorem dX9_see_73 : decode cX9_see 73 = .ok (.invokevirtual 151, 3) := by decide +kernel
theorem dX9_see_76 : decode cX9_see 76 = .ok (.aload_n 0, 1) := by decide +kernel
theorem dX9_see_77 : decode cX9_see 77 = .ok (.getfield 157, 3) := by decide +kernel
theorem dX9_see_80 : decode cX9_see 80 = .ok (.iload_n 3, 1) := by decide +kernel
theorem dX9_see_81 : decode cX9_see 81 = .ok (.isub, 1) := by decide +kernel
theorem dX9_see_82 : decode cX9_see 82 = .ok (.ireturn, 1) := by decide +kernel
theorem dX9_isRuleThere_0 : decode cX9_isRuleThere 0 = .ok (.iload_n 1, 1) := by decide +kernel
theorem dX9_isRuleThere_1 : decode cX9_isRuleThere 1 = .ok (.i2l, 1) := by decide +kernel
theorem dX9_isRuleThere_2 : decode cX9_isRuleThere 2 = .ok (.lconst 0, 1) := by decide +kernel
theorem dX9_isRuleThere_3 : decode cX9_isRuleThere 3 = .ok (.aload_n 0, 1) := by decide +kernel
theorem dX9_isRuleThere_4 : decode cX9_isRuleThere 4 = .ok (.getfield 88, 3) := by decide +kernel
theorem dX9_isRuleThere_7 : decode cX9_isRuleThere 7 = .ok (.iconst 1, 1) := by decide +kernel
theorem dX9_isRuleThere_8 : decode cX9_isRuleThere 8 = .ok (.isub, 1) := by decide +kernel
theorem dX9_isRuleThere_9 : decode cX9_isRuleThere 9 = .ok (.i2l, 1) := by decide +kernel
theorem dX9_isRuleThere_10 : decode cX9_isRuleThere 10 = .ok (.invokestatic 106, 3) := by decide +kernel
theorem dX9_isRuleThere_13 : decode cX9_isRuleThere 13 = .ok (.ireturn, 1) := by decide +kernel
theorem dX9_rule_0 : decode cX9_rule 0 = .ok (.aload_n 0, 1) := by decide +kernel
theorem dX9_rule_1 : decode cX9_rule 1 = .ok (.iload_n 1, 1) := by decide +kernel
theorem dX9_rule_2 : decode cX9_rule 2 = .ok (.invokevirtual 163, 3) := by decide +kernel
theorem dX9_rule_5 : decode cX9_rule 5 = .ok (.ifCond .eq 15, 3) := by decide +kernel
theorem dX9_rule_8 : decode cX9_rule 8 = .ok (.iload_n 2, 1) := by decide +kernel
theorem dX9_rule_9 : decode cX9_rule 9 = .ok (.i2l, 1) := by decide +kernel
theorem dX9_rule_10 : decode cX9_rule 10 = .ok (.lconst 1, 1) := by decide +kernel
theorem dX9_rule_11 : decode cX9_rule 11 = .ok (.ldc2_w 166, 3) := by decide +kernel
theorem dX9_rule_14 : decode cX9_rule 14 = .ok (.invokestatic 106, 3) := by decide +kernel
theorem dX9_rule_17 : decode cX9_rule 17 = .ok (.ifCond .ne 5, 3) := by decide +kernel
theorem dX9_rule_20 : decode cX9_rule 20 = .ok (.iconst (-1), 1) := by decide +kernel
theorem dX9_rule_21 : decode cX9_rule 21 = .ok (.ireturn, 1) := by decide +kernel
theorem dX9_rule_22 : decode cX9_rule 22 = .ok (.aload_n 0, 1) := by decide +kernel
theorem dX9_rule_23 : decode cX9_rule 23 = .ok (.getfield 16, 3) := by decide +kernel
theorem dX9_rule_26 : decode cX9_rule 26 = .ok (.bipush 61, 2) := by decide +kernel
theorem dX9_rule_28 : decode cX9_rule 28 = .ok (.iload_n 1, 1) := by decide +kernel
theorem dX9_rule_29 : decode cX9_rule 29 = .ok (.iadd, 1) := by decide +kernel
theorem dX9_rule_30 : decode cX9_rule 30 = .ok (.laload, 1) := by decide +kernel
theorem dX9_rule_31 : decode cX9_rule 31 = .ok (.l2i, 1) := by decide +kernel
theorem dX9_rule_32 : decode cX9_rule 32 = .ok (.istore_n 3, 1) := by decide +kernel
theorem dX9_rule_33 : decode cX9_rule 33 = .ok (.iload_n 3, 1) := by decide +kernel
theorem dX9_rule_34 : decode cX9_rule 34 = .ok (.iload_n 2, 1) := by decide +kernel
theorem dX9_rule_35 : decode cX9_rule 35 = .ok (.if_icmp .ne 6, 3) := by decide +kernel
theorem dX9_rule_38 : decode cX9_rule 38 = .ok (.bipush (-2), 2) := by decide +kernel
theorem dX9_rule_40 : decode cX9_rule 40 = .ok (.ireturn, 1) := by decide +kernel
theorem dX9_rule_41 : decode cX9_rule 41 = .ok (.aload_n 0, 1) := by decide +kernel
theorem dX9_rule_42 : decode cX9_rule 42 = .ok (.invokevirtual 160, 3) := by decide +kernel
theorem dX9_rule_45 : decode cX9_rule 45 = .ok (.aload_n 0, 1) := by decide +kernel
theorem dX9_rule_46 : decode cX9_rule 46 = .ok (.getfield 16, 3) := by decide +kernel
theorem dX9_rule_49 : decode cX9_rule 49 = .ok (.bipush 61, 2) := by decide +kernel
theorem dX9_rule_51 : decode cX9_rule 51 = .ok (.iload_n 1, 1) := by decide +kernel
theorem dX9_rule_52 : decode cX9_rule 52 = .ok (.iadd, 1) := by decide +kernel
theorem dX9_rule_53 : decode cX9_rule 53 = .ok (.iload_n 2, 1) := by decide +kernel
theorem dX9_rule_54 : decode cX9_rule 54 = .ok (.i2l, 1) := by decide +kernel
theorem dX9_rule_55 : decode cX9_rule 55 = .ok (.lastore, 1) := by decide +kernel
theorem dX9_rule_56 : decode cX9_rule 56 = .ok (.iload_n 3, 1) := by decide +kernel
theorem dX9_rule_57 : decode cX9_rule 57 = .ok (.ireturn, 1) := by decide +kernel
theorem dX9_clear_0 : decode cX9_clear 0 = .ok (.aload_n 0, 1) := by decide +kernel
theorem dX9_clear_1 : decode cX9_clear 1 = .ok (.invokevirtual 154, 3) := by decide +kernel
theorem dX9_clear_4 : decode cX9_clear 4 = .ok (.istore_n 1, 1) := by decide +kernel
theorem dX9_clear_5 : decode cX9_clear 5 = .ok (.iload_n 1, 1) := by decide +kernel
theorem dX9_clear_6 : decode cX9_clear 6 = .ok (.ifCond .ne 6, 3) := by decide +kernel
theorem dX9_clear_9 : decode cX9_clear 9 = .ok (.bipush (-2), 2) := by decide +kernel
theorem dX9_clear_11 : decode cX9_clear 11 = .ok (.ireturn, 1) := by decide +kernel
theorem dX9_clear_12 : decode cX9_clear 12 = .ok (.aload_n 0, 1) := by decide +kernel
theorem dX9_clear_13 : decode cX9_clear 13 = .ok (.invokevirtual 160, 3) := by decide +kernel
theorem dX9_clear_16 : decode cX9_clear 16 = .ok (.aload_n 0, 1) := by decide +kernel
theorem dX9_clear_17 : decode cX9_clear 17 = .ok (.getfield 16, 3) := by decide +kernel
theorem dX9_clear_20 : decode cX9_clear 20 = .ok (.iconst 0, 1) := by decide +kernel
theorem dX9_clear_21 : decode cX9_clear 21 = .ok (.lconst 0, 1) := by decide +kernel
theorem dX9_clear_22 : decode cX9_clear 22 = .ok (.lastore, 1) := by decide +kernel
theorem dX9_clear_23 : decode cX9_clear 23 = .ok (.iload_n 1, 1) := by decide +kernel
theorem dX9_clear_24 : decode cX9_clear 24 = .ok (.ireturn, 1) := by decide +kernel
theorem dX9_undo_0 : decode cX9_undo 0 = .ok (.aload_n 0, 1) := by decide +kernel
theorem dX9_undo_1 : decode cX9_undo 1 = .ok (.getfield 142, 3) := by decide +kernel
theorem dX9_undo_4 : decode cX9_undo 4 = .ok (.ifCond .ne 6, 3) := by decide +kernel
theorem dX9_undo_7 : decode cX9_undo 7 = .ok (.bipush (-2), 2) := by decide +kernel
theorem dX9_undo_9 : decode cX9_undo 9 = .ok (.ireturn, 1) := by decide +kernel
theorem dX9_undo_10 : decode cX9_undo 10 = .ok (.aload_n 0, 1) := by decide +kernel
theorem dX9_undo_11 : decode cX9_undo 11 = .ok (.dup, 1) := by decide +kernel
theorem dX9_undo_12 : decode cX9_undo 12 = .ok (.getfield 142, 3) := by decide +kernel
theorem dX9_undo_15 : decode cX9_undo 15 = .ok (.iconst 1, 1) := by decide +kernel
theorem dX9_undo_16 : decode cX9_undo 16 = .ok (.isub, 1) := by decide +kernel
theorem dX9_undo_17 : decode cX9_undo 17 = .ok (.putfield 142, 3) := by decide +kernel
theorem dX9_undo_20 : decode cX9_undo 20 = .ok (.iconst 0, 1) := by decide +kernel
theorem dX9_undo_21 : decode cX9_undo 21 = .ok (.istore_n 1, 1) := by decide +kernel
theorem dX9_undo_22 : decode cX9_undo 22 = .ok (.iload_n 1, 1) := by decide +kernel
theorem dX9_undo_23 : decode cX9_undo 23 = .ok (.bipush 65, 2) := by decide +kernel
theorem dX9_undo_25 : decode cX9_undo 25 = .ok (.if_icmp .ge 29, 3) := by decide +kernel
theorem dX9_undo_28 : decode cX9_undo 28 = .ok (.aload_n 0, 1) := by decide +kernel
theorem dX9_undo_29 : decode cX9_undo 29 = .ok (.getfield 16, 3) := by decide +kernel
theorem dX9_undo_32 : decode cX9_undo 32 = .ok (.iload_n 1, 1) := by decide +kernel
theorem dX9_undo_33 : decode cX9_undo 33 = .ok (.aload_n 0, 1) := by decide +kernel
theorem dX9_undo_34 : decode cX9_undo 34 = .ok (.getfield 20, 3) := by decide +kernel
theorem dX9_undo_37 : decode cX9_undo 37 = .ok (.bipush 65, 2) := by decide +kernel
theorem dX9_undo_39 : decode cX9_undo 39 = .ok (.aload_n 0, 1) := by decide +kernel
theorem dX9_undo_40 : decode cX9_undo 40 = .ok (.getfield 142, 3) := by decide +kernel
theorem dX9_undo_43 : decode cX9_undo 43 = .ok (.imul, 1) := by decide +kernel
theorem dX9_undo_44 : decode cX9_undo 44 = .ok (.iload_n 1, 1) := by decide +kernel
theorem dX9_undo_45 : decode cX9_undo 45 = .ok (.iadd, 1) := by decide +kernel
theorem dX9_undo_46 : decode cX9_undo 46 = .ok (.laload, 1) := by decide +kernel
theorem dX9_undo_47 : decode cX9_undo 47 = .ok (.lastore, 1) := by decide +kernel
theorem dX9_undo_48 : decode cX9_undo 48 = .ok (.iinc 1 1, 3) := by decide +kernel
theorem dX9_undo_51 : decode cX9_undo 51 = .ok (.goto (-29), 3) := by decide +kernel
theorem dX9_undo_54 : decode cX9_undo 54 = .ok (.aload_n 0, 1) := by decide +kernel
theorem dX9_undo_55 : decode cX9_undo 55 = .ok (.getfield 142, 3) := by decide +kernel
theorem dX9_undo_58 : decode cX9_undo 58 = .ok (.ireturn, 1) := by decide +kernel
theorem dX9_laysCells_0 : decode cX9_laysCells 0 = .ok (.iconst 0, 1) := by decide +kernel
theorem dX9_laysCells_1 : decode cX9_laysCells 1 = .ok (.istore_n 1, 1) := by decide +kernel
theorem dX9_laysCells_2 : decode cX9_laysCells 2 = .ok (.iload_n 1, 1) := by decide +kernel
theorem dX9_laysCells_3 : decode cX9_laysCells 3 = .ok (.aload_n 0, 1) := by decide +kernel
theorem dX9_laysCells_4 : decode cX9_laysCells 4 = .ok (.invokevirtual 154, 3) := by decide +kernel
theorem dX9_laysCells_7 : decode cX9_laysCells 7 = .ok (.if_icmp .ge 82, 3) := by decide +kernel
theorem dX9_laysCells_10 : decode cX9_laysCells 10 = .ok (.aload_n 0, 1) := by decide +kernel
theorem dX9_laysCells_11 : decode cX9_laysCells 11 = .ok (.getfield 16, 3) := by decide +kernel
theorem dX9_laysCells_14 : decode cX9_laysCells 14 = .ok (.iconst 1, 1) := by decide +kernel
theorem dX9_laysCells_15 : decode cX9_laysCells 15 = .ok (.iload_n 1, 1) := by decide +kernel
theorem dX9_laysCells_16 : decode cX9_laysCells 16 = .ok (.iadd, 1) := by decide +kernel
theorem dX9_laysCells_17 : decode cX9_laysCells 17 = .ok (.laload, 1) := by decide +kernel
theorem dX9_laysCells_18 : decode cX9_laysCells 18 = .ok (.lstore_n 2, 1) := by decide +kernel
theorem dX9_laysCells_19 : decode cX9_laysCells 19 = .ok (.aload_n 0, 1) := by decide +kernel
theorem dX9_laysCells_20 : decode cX9_laysCells 20 = .ok (.getfield 7, 3) := by decide +kernel
theorem dX9_laysCells_23 : decode cX9_laysCells 23 = .ok (.iconst 0, 1) := by decide +kernel
theorem dX9_laysCells_24 : decode cX9_laysCells 24 = .ok (.iaload, 1) := by decide +kernel
theorem dX9_laysCells_25 : decode cX9_laysCells 25 = .ok (.iconst 1, 1) := by decide +kernel
theorem dX9_laysCells_26 : decode cX9_laysCells 26 = .ok (.isub, 1) := by decide +kernel
theorem dX9_laysCells_27 : decode cX9_laysCells 27 = .ok (.istore 4, 2) := by decide +kernel
theorem dX9_laysCells_29 : decode cX9_laysCells 29 = .ok (.iload 4, 2) := by decide +kernel
theorem dX9_laysCells_31 : decode cX9_laysCells 31 = .ok (.ifCond .lt 52, 3) := by decide +kernel
theorem dX9_laysCells_34 : decode cX9_laysCells 34 = .ok (.aload_n 0, 1) := by decide +kernel
theorem dX9_laysCells_35 : decode cX9_laysCells 35 = .ok (.getfield 35, 3) := by decide +kernel
theorem dX9_laysCells_38 : decode cX9_laysCells 38 = .ok (.bipush 16, 2) := by decide +kernel
theorem dX9_laysCells_40 : decode cX9_laysCells 40 = .ok (.iload_n 1, 1) := by decide +kernel
theorem dX9_laysCells_41 : decode cX9_laysCells 41 = .ok (.imul, 1) := by decide +kernel
theorem dX9_laysCells_42 : decode cX9_laysCells 42 = .ok (.iload 4, 2) := by decide +kernel
theorem dX9_laysCells_44 : decode cX9_laysCells 44 = .ok (.iadd, 1) := by decide +kernel
theorem dX9_laysCells_45 : decode cX9_laysCells 45 = .ok (.lload_n 2, 1) := by decide +kernel
theorem dX9_laysCells_46 : decode cX9_laysCells 46 = .ok (.ldc2_w 145, 3) := by decide +kernel
theorem dX9_laysCells_49 : decode cX9_laysCells 49 = .ok (.lrem, 1) := by decide +kernel
theorem dX9_laysCells_50 : decode cX9_laysCells 50 = .ok (.l2i, 1) := by decide +kernel
theorem dX9_laysCells_51 : decode cX9_laysCells 51 = .ok (.iastore, 1) := by decide +kernel
theorem dX9_laysCells_52 : decode cX9_laysCells 52 = .ok (.aload_n 0, 1) := by decide +kernel
theorem dX9_laysCells_53 : decode cX9_laysCells 53 = .ok (.getfield 38, 3) := by decide +kernel
theorem dX9_laysCells_56 : decode cX9_laysCells 56 = .ok (.bipush 16, 2) := by decide +kernel
theorem dX9_laysCells_58 : decode cX9_laysCells 58 = .ok (.iload_n 1, 1) := by decide +kernel
theorem dX9_laysCells_59 : decode cX9_laysCells 59 = .ok (.imul, 1) := by decide +kernel
theorem dX9_laysCells_60 : decode cX9_laysCells 60 = .ok (.iload 4, 2) := by decide +kernel
theorem dX9_laysCells_62 : decode cX9_laysCells 62 = .ok (.iadd, 1) := by decide +kernel
theorem dX9_laysCells_63 : decode cX9_laysCells 63 = .ok (.bipush 16, 2) := by decide +kernel
theorem dX9_laysCells_65 : decode cX9_laysCells 65 = .ok (.iload_n 1, 1) := by decide +kernel
theorem dX9_laysCells_66 : decode cX9_laysCells 66 = .ok (.imul, 1) := by decide +kernel
theorem dX9_laysCells_67 : decode cX9_laysCells 67 = .ok (.iload 4, 2) := by decide +kernel
theorem dX9_laysCells_69 : decode cX9_laysCells 69 = .ok (.iadd, 1) := by decide +kernel
theorem dX9_laysCells_70 : decode cX9_laysCells 70 = .ok (.iastore, 1) := by decide +kernel
theorem dX9_laysCells_71 : decode cX9_laysCells 71 = .ok (.lload_n 2, 1) := by decide +kernel
theorem dX9_laysCells_72 : decode cX9_laysCells 72 = .ok (.ldc2_w 145, 3) := by decide +kernel
theorem dX9_laysCells_75 : decode cX9_laysCells 75 = .ok (.ldiv, 1) := by decide +kernel
theorem dX9_laysCells_76 : decode cX9_laysCells 76 = .ok (.lstore_n 2, 1) := by decide +kernel
theorem dX9_laysCells_77 : decode cX9_laysCells 77 = .ok (.iinc 4 (-1), 3) := by decide +kernel
theorem dX9_laysCells_80 : decode cX9_laysCells 80 = .ok (.goto (-51), 3) := by decide +kernel
theorem dX9_laysCells_83 : decode cX9_laysCells 83 = .ok (.iinc 1 1, 3) := by decide +kernel
theorem dX9_laysCells_86 : decode cX9_laysCells 86 = .ok (.goto (-84), 3) := by decide +kernel
theorem dX9_laysCells_89 : decode cX9_laysCells 89 = .ok (.return_, 1) := by decide +kernel
theorem dX9_rootOf_0 : decode cX9_rootOf 0 = .ok (.iload_n 1, 1) := by decide +kernel
theorem dX9_rootOf_1 : decode cX9_rootOf 1 = .ok (.istore_n 2, 1) := by decide +kernel
theorem dX9_rootOf_2 : decode cX9_rootOf 2 = .ok (.aload_n 0, 1) := by decide +kernel
theorem dX9_rootOf_3 : decode cX9_rootOf 3 = .ok (.getfield 38, 3) := by decide +kernel
theorem dX9_rootOf_6 : decode cX9_rootOf 6 = .ok (.iload_n 2, 1) := by decide +kernel
theorem dX9_rootOf_7 : decode cX9_rootOf 7 = .ok (.iaload, 1) := by decide +kernel
theorem dX9_rootOf_8 : decode cX9_rootOf 8 = .ok (.iload_n 2, 1) := by decide +kernel
theorem dX9_rootOf_9 : decode cX9_rootOf 9 = .ok (.if_icmp .eq 13, 3) := by decide +kernel
theorem dX9_rootOf_12 : decode cX9_rootOf 12 = .ok (.aload_n 0, 1) := by decide +kernel
theorem dX9_rootOf_13 : decode cX9_rootOf 13 = .ok (.getfield 38, 3) := by decide +kernel
theorem dX9_rootOf_16 : decode cX9_rootOf 16 = .ok (.iload_n 2, 1) := by decide +kernel
theorem dX9_rootOf_17 : decode cX9_rootOf 17 = .ok (.iaload, 1) := by decide +kernel
theorem dX9_rootOf_18 : decode cX9_rootOf 18 = .ok (.istore_n 2, 1) := by decide +kernel
theorem dX9_rootOf_19 : decode cX9_rootOf 19 = .ok (.goto (-17), 3) := by decide +kernel
theorem dX9_rootOf_22 : decode cX9_rootOf 22 = .ok (.iload_n 2, 1) := by decide +kernel
theorem dX9_rootOf_23 : decode cX9_rootOf 23 = .ok (.ireturn, 1) := by decide +kernel
theorem dX9_joins_0 : decode cX9_joins 0 = .ok (.aload_n 0, 1) := by decide +kernel
theorem dX9_joins_1 : decode cX9_joins 1 = .ok (.iload_n 1, 1) := by decide +kernel
theorem dX9_joins_2 : decode cX9_joins 2 = .ok (.invokevirtual 168, 3) := by decide +kernel
theorem dX9_joins_5 : decode cX9_joins 5 = .ok (.istore_n 3, 1) := by decide +kernel
theorem dX9_joins_6 : decode cX9_joins 6 = .ok (.aload_n 0, 1) := by decide +kernel
theorem dX9_joins_7 : decode cX9_joins 7 = .ok (.iload_n 2, 1) := by decide +kernel
theorem dX9_joins_8 : decode cX9_joins 8 = .ok (.invokevirtual 168, 3) := by decide +kernel
theorem dX9_joins_11 : decode cX9_joins 11 = .ok (.istore 4, 2) := by decide +kernel
theorem dX9_joins_13 : decode cX9_joins 13 = .ok (.aload_n 0, 1) := by decide +kernel
theorem dX9_joins_14 : decode cX9_joins 14 = .ok (.getfield 38, 3) := by decide +kernel
theorem dX9_joins_17 : decode cX9_joins 17 = .ok (.iload_n 3, 1) := by decide +kernel
theorem dX9_joins_18 : decode cX9_joins 18 = .ok (.iload 4, 2) := by decide +kernel
theorem dX9_joins_20 : decode cX9_joins 20 = .ok (.if_icmp .ge 8, 3) := by decide +kernel
theorem dX9_joins_23 : decode cX9_joins 23 = .ok (.iload 4, 2) := by decide +kernel
theorem dX9_joins_25 : decode cX9_joins 25 = .ok (.goto 4, 3) := by decide +kernel
theorem dX9_joins_28 : decode cX9_joins 28 = .ok (.iload_n 3, 1) := by decide +kernel
theorem dX9_joins_29 : decode cX9_joins 29 = .ok (.iload_n 3, 1) := by decide +kernel
theorem dX9_joins_30 : decode cX9_joins 30 = .ok (.iload 4, 2) := by decide +kernel
theorem dX9_joins_32 : decode cX9_joins 32 = .ok (.if_icmp .ge 7, 3) := by decide +kernel
theorem dX9_joins_35 : decode cX9_joins 35 = .ok (.iload_n 3, 1) := by decide +kernel
theorem dX9_joins_36 : decode cX9_joins 36 = .ok (.goto 5, 3) := by decide +kernel
theorem dX9_joins_39 : decode cX9_joins 39 = .ok (.iload 4, 2) := by decide +kernel
theorem dX9_joins_41 : decode cX9_joins 41 = .ok (.iastore, 1) := by decide +kernel
theorem dX9_joins_42 : decode cX9_joins 42 = .ok (.return_, 1) := by decide +kernel
theorem dX9_joinsAround_0 : decode cX9_joinsAround 0 = .ok (.bipush 16, 2) := by decide +kernel
theorem dX9_joinsAround_2 : decode cX9_joinsAround 2 = .ok (.iload_n 1, 1) := by decide +kernel
theorem dX9_joinsAround_3 : decode cX9_joinsAround 3 = .ok (.imul, 1) := by decide +kernel
theorem dX9_joinsAround_4 : decode cX9_joinsAround 4 = .ok (.iload_n 2, 1) := by decide +kernel
theorem dX9_joinsAround_5 : decode cX9_joinsAround 5 = .ok (.iadd, 1) := by decide +kernel
theorem dX9_joinsAround_6 : decode cX9_joinsAround 6 = .ok (.istore_n 3, 1) := by decide +kernel
theorem dX9_joinsAround_7 : decode cX9_joinsAround 7 = .ok (.aload_n 0, 1) := by decide +kernel
theorem dX9_joinsAround_8 : decode cX9_joinsAround 8 = .ok (.getfield 35, 3) := by decide +kernel
theorem dX9_joinsAround_11 : decode cX9_joinsAround 11 = .ok (.iload_n 3, 1) := by decide +kernel
theorem dX9_joinsAround_12 : decode cX9_joinsAround 12 = .ok (.iaload, 1) := by decide +kernel
theorem dX9_joinsAround_13 : decode cX9_joinsAround 13 = .ok (.ifCond .ne 4, 3) := by decide +kernel
theorem dX9_joinsAround_16 : decode cX9_joinsAround 16 = .ok (.return_, 1) := by decide +kernel
theorem dX9_joinsAround_17 : decode cX9_joinsAround 17 = .ok (.iload_n 2, 1) := by decide +kernel
theorem dX9_joinsAround_18 : decode cX9_joinsAround 18 = .ok (.ifCond .le 22, 3) := by decide +kernel
theorem dX9_joinsAround_21 : decode cX9_joinsAround 21 = .ok (.aload_n 0, 1) := by decide +kernel
theorem dX9_joinsAround_22 : decode cX9_joinsAround 22 = .ok (.getfield 35, 3) := by decide +kernel
theorem dX9_joinsAround_25 : decode cX9_joinsAround 25 = .ok (.iload_n 3, 1) := by decide +kernel
theorem dX9_joinsAround_26 : decode cX9_joinsAround 26 = .ok (.iconst 1, 1) := by decide +kernel
theorem dX9_joinsAround_27 : decode cX9_joinsAround 27 = .ok (.isub, 1) := by decide +kernel
theorem dX9_joinsAround_28 : decode cX9_joinsAround 28 = .ok (.iaload, 1) := by decide +kernel
theorem dX9_joinsAround_29 : decode cX9_joinsAround 29 = .ok (.ifCond .le 11, 3) := by decide +kernel
theorem dX9_joinsAround_32 : decode cX9_joinsAround 32 = .ok (.aload_n 0, 1) := by decide +kernel
theorem dX9_joinsAround_33 : decode cX9_joinsAround 33 = .ok (.iload_n 3, 1) := by decide +kernel
theorem dX9_joinsAround_34 : decode cX9_joinsAround 34 = .ok (.iload_n 3, 1) := by decide +kernel
theorem dX9_joinsAround_35 : decode cX9_joinsAround 35 = .ok (.iconst 1, 1) := by decide +kernel
theorem dX9_joinsAround_36 : decode cX9_joinsAround 36 = .ok (.isub, 1) := by decide +kernel
theorem dX9_joinsAround_37 : decode cX9_joinsAround 37 = .ok (.invokevirtual 172, 3) := by decide +kernel
theorem dX9_joinsAround_40 : decode cX9_joinsAround 40 = .ok (.iload_n 2, 1) := by decide +kernel
theorem dX9_joinsAround_41 : decode cX9_joinsAround 41 = .ok (.ifCond .le 7, 3) := by decide +kernel
theorem dX9_joinsAround_44 : decode cX9_joinsAround 44 = .ok (.iconst (-1), 1) := by decide +kernel
theorem dX9_joinsAround_45 : decode cX9_joinsAround 45 = .ok (.goto 4, 3) := by decide +kernel
theorem dX9_joinsAround_48 : decode cX9_joinsAround 48 = .ok (.iconst 0, 1) := by decide +kernel
theorem dX9_joinsAround_49 : decode cX9_joinsAround 49 = .ok (.istore 4, 2) := by decide +kernel
theorem dX9_joinsAround_51 : decode cX9_joinsAround 51 = .ok (.iload 4, 2) := by decide +kernel
theorem dX9_joinsAround_53 : decode cX9_joinsAround 53 = .ok (.iconst 2, 1) := by decide +kernel
theorem dX9_joinsAround_54 : decode cX9_joinsAround 54 = .ok (.if_icmp .ge 53, 3) := by decide +kernel
theorem dX9_joinsAround_57 : decode cX9_joinsAround 57 = .ok (.iload_n 1, 1) := by decide +kernel
theorem dX9_joinsAround_58 : decode cX9_joinsAround 58 = .ok (.ifCond .le 49, 3) := by decide +kernel
theorem dX9_joinsAround_61 : decode cX9_joinsAround 61 = .ok (.iload_n 2, 1) := by decide +kernel
theorem dX9_joinsAround_62 : decode cX9_joinsAround 62 = .ok (.iload 4, 2) := by decide +kernel
theorem dX9_joinsAround_64 : decode cX9_joinsAround 64 = .ok (.iadd, 1) := by decide +kernel
theorem dX9_joinsAround_65 : decode cX9_joinsAround 65 = .ok (.aload_n 0, 1) := by decide +kernel
theorem dX9_joinsAround_66 : decode cX9_joinsAround 66 = .ok (.getfield 7, 3) := by decide +kernel
theorem dX9_joinsAround_69 : decode cX9_joinsAround 69 = .ok (.iconst 0, 1) := by decide +kernel
theorem dX9_joinsAround_70 : decode cX9_joinsAround 70 = .ok (.iaload, 1) := by decide +kernel
theorem dX9_joinsAround_71 : decode cX9_joinsAround 71 = .ok (.if_icmp .ge 30, 3) := by decide +kernel
theorem dX9_joinsAround_74 : decode cX9_joinsAround 74 = .ok (.aload_n 0, 1) := by decide +kernel
theorem dX9_joinsAround_75 : decode cX9_joinsAround 75 = .ok (.getfield 35, 3) := by decide +kernel
theorem dX9_joinsAround_78 : decode cX9_joinsAround 78 = .ok (.iload_n 3, 1) := by decide +kernel
theorem dX9_joinsAround_79 : decode cX9_joinsAround 79 = .ok (.bipush 16, 2) := by decide +kernel
theorem dX9_joinsAround_81 : decode cX9_joinsAround 81 = .ok (.isub, 1) := by decide +kernel
theorem dX9_joinsAround_82 : decode cX9_joinsAround 82 = .ok (.iload 4, 2) := by decide +kernel
theorem dX9_joinsAround_84 : decode cX9_joinsAround 84 = .ok (.iadd, 1) := by decide +kernel
theorem dX9_joinsAround_85 : decode cX9_joinsAround 85 = .ok (.iaload, 1) := by decide +kernel
theorem dX9_joinsAround_86 : decode cX9_joinsAround 86 = .ok (.ifCond .le 15, 3) := by decide +kernel
theorem dX9_joinsAround_89 : decode cX9_joinsAround 89 = .ok (.aload_n 0, 1) := by decide +kernel
theorem dX9_joinsAround_90 : decode cX9_joinsAround 90 = .ok (.iload_n 3, 1) := by decide +kernel
theorem dX9_joinsAround_91 : decode cX9_joinsAround 91 = .ok (.iload_n 3, 1) := by decide +kernel
theorem dX9_joinsAround_92 : decode cX9_joinsAround 92 = .ok (.bipush 16, 2) := by decide +kernel
theorem dX9_joinsAround_94 : decode cX9_joinsAround 94 = .ok (.isub, 1) := by decide +kernel
theorem dX9_joinsAround_95 : decode cX9_joinsAround 95 = .ok (.iload 4, 2) := by decide +kernel
theorem dX9_joinsAround_97 : decode cX9_joinsAround 97 = .ok (.iadd, 1) := by decide +kernel
theorem dX9_joinsAround_98 : decode cX9_joinsAround 98 = .ok (.invokevirtual 172, 3) := by decide +kernel
theorem dX9_joinsAround_101 : decode cX9_joinsAround 101 = .ok (.iinc 4 1, 3) := by decide +kernel
theorem dX9_joinsAround_104 : decode cX9_joinsAround 104 = .ok (.goto (-53), 3) := by decide +kernel
theorem dX9_joinsAround_107 : decode cX9_joinsAround 107 = .ok (.return_, 1) := by decide +kernel
theorem dX9_blobOf_0 : decode cX9_blobOf 0 = .ok (.bipush (-4), 2) := by decide +kernel
theorem dX9_blobOf_2 : decode cX9_blobOf 2 = .ok (.istore_n 2, 1) := by decide +kernel
theorem dX9_blobOf_3 : decode cX9_blobOf 3 = .ok (.iconst 0, 1) := by decide +kernel
theorem dX9_blobOf_4 : decode cX9_blobOf 4 = .ok (.istore_n 3, 1) := by decide +kernel
theorem dX9_blobOf_5 : decode cX9_blobOf 5 = .ok (.iload_n 3, 1) := by decide +kernel
theorem dX9_blobOf_6 : decode cX9_blobOf 6 = .ok (.aload_n 0, 1) := by decide +kernel
theorem dX9_blobOf_7 : decode cX9_blobOf 7 = .ok (.getfield 176, 3) := by decide +kernel
theorem dX9_blobOf_10 : decode cX9_blobOf 10 = .ok (.if_icmp .ge 25, 3) := by decide +kernel
theorem dX9_blobOf_13 : decode cX9_blobOf 13 = .ok (.aload_n 0, 1) := by decide +kernel
theorem dX9_blobOf_14 : decode cX9_blobOf 14 = .ok (.getfield 41, 3) := by decide +kernel
theorem dX9_blobOf_17 : decode cX9_blobOf 17 = .ok (.iload_n 3, 1) := by decide +kernel
theorem dX9_blobOf_18 : decode cX9_blobOf 18 = .ok (.iaload, 1) := by decide +kernel
theorem dX9_blobOf_19 : decode cX9_blobOf 19 = .ok (.iload_n 1, 1) := by decide +kernel
theorem dX9_blobOf_20 : decode cX9_blobOf 20 = .ok (.if_icmp .ne 7, 3) := by decide +kernel
theorem dX9_blobOf_23 : decode cX9_blobOf 23 = .ok (.iload_n 3, 1) := by decide +kernel
theorem dX9_blobOf_24 : decode cX9_blobOf 24 = .ok (.goto 4, 3) := by decide +kernel
theorem dX9_blobOf_27 : decode cX9_blobOf 27 = .ok (.iload_n 2, 1) := by decide +kernel
theorem dX9_blobOf_28 : decode cX9_blobOf 28 = .ok (.istore_n 2, 1) := by decide +kernel
theorem dX9_blobOf_29 : decode cX9_blobOf 29 = .ok (.iinc 3 1, 3) := by decide +kernel
theorem dX9_blobOf_32 : decode cX9_blobOf 32 = .ok (.goto (-27), 3) := by decide +kernel
theorem dX9_blobOf_35 : decode cX9_blobOf 35 = .ok (.iload_n 2, 1) := by decide +kernel
theorem dX9_blobOf_36 : decode cX9_blobOf 36 = .ok (.ireturn, 1) := by decide +kernel
theorem dX9_begins_0 : decode cX9_begins 0 = .ok (.aload_n 0, 1) := by decide +kernel
theorem dX9_begins_1 : decode cX9_begins 1 = .ok (.getfield 41, 3) := by decide +kernel
theorem dX9_begins_4 : decode cX9_begins 4 = .ok (.aload_n 0, 1) := by decide +kernel
theorem dX9_begins_5 : decode cX9_begins 5 = .ok (.getfield 176, 3) := by decide +kernel
theorem dX9_begins_8 : decode cX9_begins 8 = .ok (.iload_n 1, 1) := by decide +kernel
theorem dX9_begins_9 : decode cX9_begins 9 = .ok (.iastore, 1) := by decide +kernel
theorem dX9_begins_10 : decode cX9_begins 10 = .ok (.aload_n 0, 1) := by decide +kernel
theorem dX9_begins_11 : decode cX9_begins 11 = .ok (.getfield 44, 3) := by decide +kernel
theorem dX9_begins_14 : decode cX9_begins 14 = .ok (.aload_n 0, 1) := by decide +kernel
theorem dX9_begins_15 : decode cX9_begins 15 = .ok (.getfield 176, 3) := by decide +kernel
theorem dX9_begins_18 : decode cX9_begins 18 = .ok (.iload_n 2, 1) := by decide +kernel
theorem dX9_begins_19 : decode cX9_begins 19 = .ok (.iastore, 1) := by decide +kernel
theorem dX9_begins_20 : decode cX9_begins 20 = .ok (.aload_n 0, 1) := by decide +kernel
theorem dX9_begins_21 : decode cX9_begins 21 = .ok (.getfield 50, 3) := by decide +kernel
theorem dX9_begins_24 : decode cX9_begins 24 = .ok (.aload_n 0, 1) := by decide +kernel
theorem dX9_begins_25 : decode cX9_begins 25 = .ok (.getfield 176, 3) := by decide +kernel
theorem dX9_begins_28 : decode cX9_begins 28 = .ok (.iload_n 3, 1) := by decide +kernel
theorem dX9_begins_29 : decode cX9_begins 29 = .ok (.iastore, 1) := by decide +kernel
theorem dX9_begins_30 : decode cX9_begins 30 = .ok (.aload_n 0, 1) := by decide +kernel
theorem dX9_begins_31 : decode cX9_begins 31 = .ok (.getfield 53, 3) := by decide +kernel
theorem dX9_begins_34 : decode cX9_begins 34 = .ok (.aload_n 0, 1) := by decide +kernel
theorem dX9_begins_35 : decode cX9_begins 35 = .ok (.getfield 176, 3) := by decide +kernel
theorem dX9_begins_38 : decode cX9_begins 38 = .ok (.iload_n 3, 1) := by decide +kernel
theorem dX9_begins_39 : decode cX9_begins 39 = .ok (.iastore, 1) := by decide +kernel
theorem dX9_begins_40 : decode cX9_begins 40 = .ok (.aload_n 0, 1) := by decide +kernel
theorem dX9_begins_41 : decode cX9_begins 41 = .ok (.getfield 56, 3) := by decide +kernel
theorem dX9_begins_44 : decode cX9_begins 44 = .ok (.aload_n 0, 1) := by decide +kernel
theorem dX9_begins_45 : decode cX9_begins 45 = .ok (.getfield 176, 3) := by decide +kernel
theorem dX9_begins_48 : decode cX9_begins 48 = .ok (.iload_n 3, 1) := by decide +kernel
theorem dX9_begins_49 : decode cX9_begins 49 = .ok (.iastore, 1) := by decide +kernel
theorem dX9_begins_50 : decode cX9_begins 50 = .ok (.aload_n 0, 1) := by decide +kernel
theorem dX9_begins_51 : decode cX9_begins 51 = .ok (.getfield 59, 3) := by decide +kernel
theorem dX9_begins_54 : decode cX9_begins 54 = .ok (.aload_n 0, 1) := by decide +kernel
theorem dX9_begins_55 : decode cX9_begins 55 = .ok (.getfield 176, 3) := by decide +kernel
theorem dX9_begins_58 : decode cX9_begins 58 = .ok (.iconst 0, 1) := by decide +kernel
theorem dX9_begins_59 : decode cX9_begins 59 = .ok (.iastore, 1) := by decide +kernel
theorem dX9_begins_60 : decode cX9_begins 60 = .ok (.aload_n 0, 1) := by decide +kernel
theorem dX9_begins_61 : decode cX9_begins 61 = .ok (.getfield 62, 3) := by decide +kernel
theorem dX9_begins_64 : decode cX9_begins 64 = .ok (.aload_n 0, 1) := by decide +kernel
theorem dX9_begins_65 : decode cX9_begins 65 = .ok (.getfield 176, 3) := by decide +kernel
theorem dX9_begins_68 : decode cX9_begins 68 = .ok (.iconst 0, 1) := by decide +kernel
theorem dX9_begins_69 : decode cX9_begins 69 = .ok (.iastore, 1) := by decide +kernel
theorem dX9_begins_70 : decode cX9_begins 70 = .ok (.aload_n 0, 1) := by decide +kernel
theorem dX9_begins_71 : decode cX9_begins 71 = .ok (.getfield 65, 3) := by decide +kernel
theorem dX9_begins_74 : decode cX9_begins 74 = .ok (.aload_n 0, 1) := by decide +kernel
theorem dX9_begins_75 : decode cX9_begins 75 = .ok (.getfield 176, 3) := by decide +kernel
theorem dX9_begins_78 : decode cX9_begins 78 = .ok (.iconst 0, 1) := by decide +kernel
theorem dX9_begins_79 : decode cX9_begins 79 = .ok (.iastore, 1) := by decide +kernel
theorem dX9_begins_80 : decode cX9_begins 80 = .ok (.aload_n 0, 1) := by decide +kernel
theorem dX9_begins_81 : decode cX9_begins 81 = .ok (.dup, 1) := by decide +kernel
theorem dX9_begins_82 : decode cX9_begins 82 = .ok (.getfield 176, 3) := by decide +kernel
theorem dX9_begins_85 : decode cX9_begins 85 = .ok (.iconst 1, 1) := by decide +kernel
theorem dX9_begins_86 : decode cX9_begins 86 = .ok (.iadd, 1) := by decide +kernel
theorem dX9_begins_87 : decode cX9_begins 87 = .ok (.putfield 176, 3) := by decide +kernel
theorem dX9_begins_90 : decode cX9_begins 90 = .ok (.return_, 1) := by decide +kernel
theorem dX9_counts_0 : decode cX9_counts 0 = .ok (.aload_n 0, 1) := by decide +kernel
theorem dX9_counts_1 : decode cX9_counts 1 = .ok (.bipush 16, 2) := by decide +kernel
theorem dX9_counts_3 : decode cX9_counts 3 = .ok (.iload_n 1, 1) := by decide +kernel
theorem dX9_counts_4 : decode cX9_counts 4 = .ok (.imul, 1) := by decide +kernel
theorem dX9_counts_5 : decode cX9_counts 5 = .ok (.iload_n 2, 1) := by decide +kernel
theorem dX9_counts_6 : decode cX9_counts 6 = .ok (.iadd, 1) := by decide +kernel
theorem dX9_counts_7 : decode cX9_counts 7 = .ok (.invokevirtual 168, 3) := by decide +kernel
theorem dX9_counts_10 : decode cX9_counts 10 = .ok (.istore_n 3, 1) := by decide +kernel
theorem dX9_counts_11 : decode cX9_counts 11 = .ok (.aload_n 0, 1) := by decide +kernel
theorem dX9_counts_12 : decode cX9_counts 12 = .ok (.iload_n 3, 1) := by decide +kernel
theorem dX9_counts_13 : decode cX9_counts 13 = .ok (.invokevirtual 179, 3) := by decide +kernel
theorem dX9_counts_16 : decode cX9_counts 16 = .ok (.bipush (-4), 2) := by decide +kernel
theorem dX9_counts_18 : decode cX9_counts 18 = .ok (.if_icmp .ne 10, 3) := by decide +kernel
theorem dX9_counts_21 : decode cX9_counts 21 = .ok (.aload_n 0, 1) := by decide +kernel
theorem dX9_counts_22 : decode cX9_counts 22 = .ok (.iload_n 3, 1) := by decide +kernel
theorem dX9_counts_23 : decode cX9_counts 23 = .ok (.iload_n 1, 1) := by decide +kernel
theorem dX9_counts_24 : decode cX9_counts 24 = .ok (.iload_n 2, 1) := by decide +kernel
theorem dX9_counts_25 : decode cX9_counts 25 = .ok (.invokevirtual 182, 3) := by decide +kernel
theorem dX9_counts_28 : decode cX9_counts 28 = .ok (.aload_n 0, 1) := by decide +kernel
theorem dX9_counts_29 : decode cX9_counts 29 = .ok (.iload_n 3, 1) := by decide +kernel
theorem dX9_counts_30 : decode cX9_counts 30 = .ok (.invokevirtual 179, 3) := by decide +kernel
theorem dX9_counts_33 : decode cX9_counts 33 = .ok (.istore 4, 2) := by decide +kernel
theorem dX9_counts_35 : decode cX9_counts 35 = .ok (.aload_n 0, 1) := by decide +kernel
theorem dX9_counts_36 : decode cX9_counts 36 = .ok (.getfield 35, 3) := by decide +kernel
theorem dX9_counts_39 : decode cX9_counts 39 = .ok (.bipush 16, 2) := by decide +kernel
theorem dX9_counts_41 : decode cX9_counts 41 = .ok (.iload_n 1, 1) := by decide +kernel
theorem dX9_counts_42 : decode cX9_counts 42 = .ok (.imul, 1) := by decide +kernel
theorem dX9_counts_43 : decode cX9_counts 43 = .ok (.iload_n 2, 1) := by decide +kernel
theorem dX9_counts_44 : decode cX9_counts 44 = .ok (.iadd, 1) := by decide +kernel
theorem dX9_counts_45 : decode cX9_counts 45 = .ok (.iaload, 1) := by decide +kernel
theorem dX9_counts_46 : decode cX9_counts 46 = .ok (.istore 5, 2) := by decide +kernel
theorem dX9_counts_48 : decode cX9_counts 48 = .ok (.aload_n 0, 1) := by decide +kernel
theorem dX9_counts_49 : decode cX9_counts 49 = .ok (.getfield 47, 3) := by decide +kernel
theorem dX9_counts_52 : decode cX9_counts 52 = .ok (.iload 4, 2) := by decide +kernel
theorem dX9_counts_54 : decode cX9_counts 54 = .ok (.iload_n 1, 1) := by decide +kernel
theorem dX9_counts_55 : decode cX9_counts 55 = .ok (.iastore, 1) := by decide +kernel
theorem dX9_counts_56 : decode cX9_counts 56 = .ok (.aload_n 0, 1) := by decide +kernel
theorem dX9_counts_57 : decode cX9_counts 57 = .ok (.getfield 53, 3) := by decide +kernel
theorem dX9_counts_60 : decode cX9_counts 60 = .ok (.iload 4, 2) := by decide +kernel
theorem dX9_counts_62 : decode cX9_counts 62 = .ok (.iload_n 2, 1) := by decide +kernel
theorem dX9_counts_63 : decode cX9_counts 63 = .ok (.aload_n 0, 1) := by decide +kernel
theorem dX9_counts_64 : decode cX9_counts 64 = .ok (.getfield 53, 3) := by decide +kernel
theorem dX9_counts_67 : decode cX9_counts 67 = .ok (.iload 4, 2) := by decide +kernel
theorem dX9_counts_69 : decode cX9_counts 69 = .ok (.iaload, 1) := by decide +kernel
theorem dX9_counts_70 : decode cX9_counts 70 = .ok (.if_icmp .ge 7, 3) := by decide +kernel
theorem dX9_counts_73 : decode cX9_counts 73 = .ok (.iload_n 2, 1) := by decide +kernel
theorem dX9_counts_74 : decode cX9_counts 74 = .ok (.goto 10, 3) := by decide +kernel
theorem dX9_counts_77 : decode cX9_counts 77 = .ok (.aload_n 0, 1) := by decide +kernel
theorem dX9_counts_78 : decode cX9_counts 78 = .ok (.getfield 53, 3) := by decide +kernel
theorem dX9_counts_81 : decode cX9_counts 81 = .ok (.iload 4, 2) := by decide +kernel
theorem dX9_counts_83 : decode cX9_counts 83 = .ok (.iaload, 1) := by decide +kernel
theorem dX9_counts_84 : decode cX9_counts 84 = .ok (.iastore, 1) := by decide +kernel
theorem dX9_counts_85 : decode cX9_counts 85 = .ok (.aload_n 0, 1) := by decide +kernel
theorem dX9_counts_86 : decode cX9_counts 86 = .ok (.getfield 56, 3) := by decide +kernel
theorem dX9_counts_89 : decode cX9_counts 89 = .ok (.iload 4, 2) := by decide +kernel
theorem dX9_counts_91 : decode cX9_counts 91 = .ok (.iload_n 2, 1) := by decide +kernel
theorem dX9_counts_92 : decode cX9_counts 92 = .ok (.aload_n 0, 1) := by decide +kernel
theorem dX9_counts_93 : decode cX9_counts 93 = .ok (.getfield 56, 3) := by decide +kernel
theorem dX9_counts_96 : decode cX9_counts 96 = .ok (.iload 4, 2) := by decide +kernel
theorem dX9_counts_98 : decode cX9_counts 98 = .ok (.iaload, 1) := by decide +kernel
theorem dX9_counts_99 : decode cX9_counts 99 = .ok (.if_icmp .le 7, 3) := by decide +kernel
theorem dX9_counts_102 : decode cX9_counts 102 = .ok (.iload_n 2, 1) := by decide +kernel
theorem dX9_counts_103 : decode cX9_counts 103 = .ok (.goto 10, 3) := by decide +kernel
theorem dX9_counts_106 : decode cX9_counts 106 = .ok (.aload_n 0, 1) := by decide +kernel
theorem dX9_counts_107 : decode cX9_counts 107 = .ok (.getfield 56, 3) := by decide +kernel
theorem dX9_counts_110 : decode cX9_counts 110 = .ok (.iload 4, 2) := by decide +kernel
theorem dX9_counts_112 : decode cX9_counts 112 = .ok (.iaload, 1) := by decide +kernel
theorem dX9_counts_113 : decode cX9_counts 113 = .ok (.iastore, 1) := by decide +kernel
theorem dX9_counts_114 : decode cX9_counts 114 = .ok (.aload_n 0, 1) := by decide +kernel
theorem dX9_counts_115 : decode cX9_counts 115 = .ok (.getfield 59, 3) := by decide +kernel
theorem dX9_counts_118 : decode cX9_counts 118 = .ok (.iload 4, 2) := by decide +kernel
theorem dX9_counts_120 : decode cX9_counts 120 = .ok (.dup2, 1) := by decide +kernel
theorem dX9_counts_121 : decode cX9_counts 121 = .ok (.iaload, 1) := by decide +kernel
theorem dX9_counts_122 : decode cX9_counts 122 = .ok (.iconst 1, 1) := by decide +kernel
theorem dX9_counts_123 : decode cX9_counts 123 = .ok (.iadd, 1) := by decide +kernel
theorem dX9_counts_124 : decode cX9_counts 124 = .ok (.iastore, 1) := by decide +kernel
theorem dX9_counts_125 : decode cX9_counts 125 = .ok (.aload_n 0, 1) := by decide +kernel
theorem dX9_counts_126 : decode cX9_counts 126 = .ok (.getfield 62, 3) := by decide +kernel
theorem dX9_counts_129 : decode cX9_counts 129 = .ok (.iload 4, 2) := by decide +kernel
theorem dX9_counts_131 : decode cX9_counts 131 = .ok (.dup2, 1) := by decide +kernel
theorem dX9_counts_132 : decode cX9_counts 132 = .ok (.iaload, 1) := by decide +kernel
theorem dX9_counts_133 : decode cX9_counts 133 = .ok (.iload 5, 2) := by decide +kernel
theorem dX9_counts_135 : decode cX9_counts 135 = .ok (.iadd, 1) := by decide +kernel
theorem dX9_counts_136 : decode cX9_counts 136 = .ok (.iastore, 1) := by decide +kernel
theorem dX9_counts_137 : decode cX9_counts 137 = .ok (.aload_n 0, 1) := by decide +kernel
theorem dX9_counts_138 : decode cX9_counts 138 = .ok (.getfield 65, 3) := by decide +kernel
theorem dX9_counts_141 : decode cX9_counts 141 = .ok (.iload 4, 2) := by decide +kernel
theorem dX9_counts_143 : decode cX9_counts 143 = .ok (.dup2, 1) := by decide +kernel
theorem dX9_counts_144 : decode cX9_counts 144 = .ok (.iaload, 1) := by decide +kernel
theorem dX9_counts_145 : decode cX9_counts 145 = .ok (.iload 5, 2) := by decide +kernel
theorem dX9_counts_147 : decode cX9_counts 147 = .ok (.aload_n 0, 1) := by decide +kernel
theorem dX9_counts_148 : decode cX9_counts 148 = .ok (.getfield 7, 3) := by decide +kernel
theorem dX9_counts_151 : decode cX9_counts 151 = .ok (.iconst 5, 1) := by decide +kernel
theorem dX9_counts_152 : decode cX9_counts 152 = .ok (.iaload, 1) := by decide +kernel
theorem dX9_counts_153 : decode cX9_counts 153 = .ok (.if_icmp .lt 7, 3) := by decide +kernel
theorem dX9_counts_156 : decode cX9_counts 156 = .ok (.iconst 1, 1) := by decide +kernel
theorem dX9_counts_157 : decode cX9_counts 157 = .ok (.goto 4, 3) := by decide +kernel
theorem dX9_counts_160 : decode cX9_counts 160 = .ok (.iconst 0, 1) := by decide +kernel
theorem dX9_counts_161 : decode cX9_counts 161 = .ok (.iadd, 1) := by decide +kernel
theorem dX9_counts_162 : decode cX9_counts 162 = .ok (.iastore, 1) := by decide +kernel
theorem dX9_counts_163 : decode cX9_counts 163 = .ok (.return_, 1) := by decide +kernel
theorem dX9_isAhead_0 : decode cX9_isAhead 0 = .ok (.aload_n 0, 1) := by decide +kernel
theorem dX9_isAhead_1 : decode cX9_isAhead 1 = .ok (.getfield 47, 3) := by decide +kernel
theorem dX9_isAhead_4 : decode cX9_isAhead 4 = .ok (.iload_n 1, 1) := by decide +kernel
theorem dX9_isAhead_5 : decode cX9_isAhead 5 = .ok (.iaload, 1) := by decide +kernel
theorem dX9_isAhead_6 : decode cX9_isAhead 6 = .ok (.aload_n 0, 1) := by decide +kernel
theorem dX9_isAhead_7 : decode cX9_isAhead 7 = .ok (.getfield 47, 3) := by decide +kernel
theorem dX9_isAhead_10 : decode cX9_isAhead 10 = .ok (.iload_n 2, 1) := by decide +kernel
theorem dX9_isAhead_11 : decode cX9_isAhead 11 = .ok (.iaload, 1) := by decide +kernel
theorem dX9_isAhead_12 : decode cX9_isAhead 12 = .ok (.if_icmp .eq 24, 3) := by decide +kernel
theorem dX9_isAhead_15 : decode cX9_isAhead 15 = .ok (.aload_n 0, 1) := by decide +kernel
theorem dX9_isAhead_16 : decode cX9_isAhead 16 = .ok (.getfield 47, 3) := by decide +kernel
theorem dX9_isAhead_19 : decode cX9_isAhead 19 = .ok (.iload_n 1, 1) := by decide +kernel
theorem dX9_isAhead_20 : decode cX9_isAhead 20 = .ok (.iaload, 1) := by decide +kernel
theorem dX9_isAhead_21 : decode cX9_isAhead 21 = .ok (.aload_n 0, 1) := by decide +kernel
theorem dX9_isAhead_22 : decode cX9_isAhead 22 = .ok (.getfield 47, 3) := by decide +kernel
theorem dX9_isAhead_25 : decode cX9_isAhead 25 = .ok (.iload_n 2, 1) := by decide +kernel
theorem dX9_isAhead_26 : decode cX9_isAhead 26 = .ok (.iaload, 1) := by decide +kernel
theorem dX9_isAhead_27 : decode cX9_isAhead 27 = .ok (.if_icmp .ge 7, 3) := by decide +kernel
theorem dX9_isAhead_30 : decode cX9_isAhead 30 = .ok (.iconst 1, 1) := by decide +kernel
theorem dX9_isAhead_31 : decode cX9_isAhead 31 = .ok (.goto 4, 3) := by decide +kernel
theorem dX9_isAhead_34 : decode cX9_isAhead 34 = .ok (.iconst 0, 1) := by decide +kernel
theorem dX9_isAhead_35 : decode cX9_isAhead 35 = .ok (.ireturn, 1) := by decide +kernel
theorem dX9_isAhead_36 : decode cX9_isAhead 36 = .ok (.aload_n 0, 1) := by decide +kernel
theorem dX9_isAhead_37 : decode cX9_isAhead 37 = .ok (.getfield 44, 3) := by decide +kernel
theorem dX9_isAhead_40 : decode cX9_isAhead 40 = .ok (.iload_n 1, 1) := by decide +kernel
theorem dX9_isAhead_41 : decode cX9_isAhead 41 = .ok (.iaload, 1) := by decide +kernel
theorem dX9_isAhead_42 : decode cX9_isAhead 42 = .ok (.aload_n 0, 1) := by decide +kernel
theorem dX9_isAhead_43 : decode cX9_isAhead 43 = .ok (.getfield 44, 3) := by decide +kernel
theorem dX9_isAhead_46 : decode cX9_isAhead 46 = .ok (.iload_n 2, 1) := by decide +kernel
theorem dX9_isAhead_47 : decode cX9_isAhead 47 = .ok (.iaload, 1) := by decide +kernel
theorem dX9_isAhead_48 : decode cX9_isAhead 48 = .ok (.if_icmp .lt 33, 3) := by decide +kernel
theorem dX9_isAhead_51 : decode cX9_isAhead 51 = .ok (.aload_n 0, 1) := by decide +kernel
theorem dX9_isAhead_52 : decode cX9_isAhead 52 = .ok (.getfield 44, 3) := by decide +kernel
theorem dX9_isAhead_55 : decode cX9_isAhead 55 = .ok (.iload_n 1, 1) := by decide +kernel
theorem dX9_isAhead_56 : decode cX9_isAhead 56 = .ok (.iaload, 1) := by decide +kernel
theorem dX9_isAhead_57 : decode cX9_isAhead 57 = .ok (.aload_n 0, 1) := by decide +kernel
theorem dX9_isAhead_58 : decode cX9_isAhead 58 = .ok (.getfield 44, 3) := by decide +kernel
theorem dX9_isAhead_61 : decode cX9_isAhead 61 = .ok (.iload_n 2, 1) := by decide +kernel
theorem dX9_isAhead_62 : decode cX9_isAhead 62 = .ok (.iaload, 1) := by decide +kernel
theorem dX9_isAhead_63 : decode cX9_isAhead 63 = .ok (.if_icmp .ne 22, 3) := by decide +kernel
theorem dX9_isAhead_66 : decode cX9_isAhead 66 = .ok (.aload_n 0, 1) := by decide +kernel
theorem dX9_isAhead_67 : decode cX9_isAhead 67 = .ok (.getfield 50, 3) := by decide +kernel
theorem dX9_isAhead_70 : decode cX9_isAhead 70 = .ok (.iload_n 1, 1) := by decide +kernel
theorem dX9_isAhead_71 : decode cX9_isAhead 71 = .ok (.iaload, 1) := by decide +kernel
theorem dX9_isAhead_72 : decode cX9_isAhead 72 = .ok (.aload_n 0, 1) := by decide +kernel
theorem dX9_isAhead_73 : decode cX9_isAhead 73 = .ok (.getfield 50, 3) := by decide +kernel
theorem dX9_isAhead_76 : decode cX9_isAhead 76 = .ok (.iload_n 2, 1) := by decide +kernel
theorem dX9_isAhead_77 : decode cX9_isAhead 77 = .ok (.iaload, 1) := by decide +kernel
theorem dX9_isAhead_78 : decode cX9_isAhead 78 = .ok (.if_icmp .ge 7, 3) := by decide +kernel
theorem dX9_isAhead_81 : decode cX9_isAhead 81 = .ok (.iconst 1, 1) := by decide +kernel
theorem dX9_isAhead_82 : decode cX9_isAhead 82 = .ok (.goto 4, 3) := by decide +kernel
theorem dX9_isAhead_85 : decode cX9_isAhead 85 = .ok (.iconst 0, 1) := by decide +kernel
theorem dX9_isAhead_86 : decode cX9_isAhead 86 = .ok (.ireturn, 1) := by decide +kernel
theorem dX9_numbersEnded_0 : decode cX9_numbersEnded 0 = .ok (.aload_n 0, 1) := by decide +kernel
theorem dX9_numbersEnded_1 : decode cX9_numbersEnded 1 = .ok (.iconst 0, 1) := by decide +kernel
theorem dX9_numbersEnded_2 : decode cX9_numbersEnded 2 = .ok (.putfield 157, 3) := by decide +kernel
theorem dX9_numbersEnded_5 : decode cX9_numbersEnded 5 = .ok (.aload_n 0, 1) := by decide +kernel
theorem dX9_numbersEnded_6 : decode cX9_numbersEnded 6 = .ok (.iconst 0, 1) := by decide +kernel
theorem dX9_numbersEnded_7 : decode cX9_numbersEnded 7 = .ok (.putfield 186, 3) := by decide +kernel
theorem dX9_numbersEnded_10 : decode cX9_numbersEnded 10 = .ok (.iconst 0, 1) := by decide +kernel
theorem dX9_numbersEnded_11 : decode cX9_numbersEnded 11 = .ok (.istore_n 1, 1) := by decide +kernel
theorem dX9_numbersEnded_12 : decode cX9_numbersEnded 12 = .ok (.iload_n 1, 1) := by decide +kernel
theorem dX9_numbersEnded_13 : decode cX9_numbersEnded 13 = .ok (.aload_n 0, 1) := by decide +kernel
theorem dX9_numbersEnded_14 : decode cX9_numbersEnded 14 = .ok (.getfield 176, 3) := by decide +kernel
theorem dX9_numbersEnded_17 : decode cX9_numbersEnded 17 = .ok (.if_icmp .ge 104, 3) := by decide +kernel
theorem dX9_numbersEnded_20 : decode cX9_numbersEnded 20 = .ok (.aload_n 0, 1) := by decide +kernel
theorem dX9_numbersEnded_21 : decode cX9_numbersEnded 21 = .ok (.getfield 47, 3) := by decide +kernel
theorem dX9_numbersEnded_24 : decode cX9_numbersEnded 24 = .ok (.iload_n 1, 1) := by decide +kernel
theorem dX9_numbersEnded_25 : decode cX9_numbersEnded 25 = .ok (.iaload, 1) := by decide +kernel
theorem dX9_numbersEnded_26 : decode cX9_numbersEnded 26 = .ok (.aload_n 0, 1) := by decide +kernel
theorem dX9_numbersEnded_27 : decode cX9_numbersEnded 27 = .ok (.invokevirtual 154, 3) := by decide +kernel
theorem dX9_numbersEnded_30 : decode cX9_numbersEnded 30 = .ok (.iconst 1, 1) := by decide +kernel
theorem dX9_numbersEnded_31 : decode cX9_numbersEnded 31 = .ok (.isub, 1) := by decide +kernel
theorem dX9_numbersEnded_32 : decode cX9_numbersEnded 32 = .ok (.if_icmp .ge 68, 3) := by decide +kernel
theorem dX9_numbersEnded_35 : decode cX9_numbersEnded 35 = .ok (.aload_n 0, 1) := by decide +kernel
theorem dX9_numbersEnded_36 : decode cX9_numbersEnded 36 = .ok (.getfield 157, 3) := by decide +kernel
theorem dX9_numbersEnded_39 : decode cX9_numbersEnded 39 = .ok (.istore_n 2, 1) := by decide +kernel
theorem dX9_numbersEnded_40 : decode cX9_numbersEnded 40 = .ok (.iload_n 2, 1) := by decide +kernel
theorem dX9_numbersEnded_41 : decode cX9_numbersEnded 41 = .ok (.ifCond .le 39, 3) := by decide +kernel
theorem dX9_numbersEnded_44 : decode cX9_numbersEnded 44 = .ok (.aload_n 0, 1) := by decide +kernel
theorem dX9_numbersEnded_45 : decode cX9_numbersEnded 45 = .ok (.iload_n 1, 1) := by decide +kernel
theorem dX9_numbersEnded_46 : decode cX9_numbersEnded 46 = .ok (.aload_n 0, 1) := by decide +kernel
theorem dX9_numbersEnded_47 : decode cX9_numbersEnded 47 = .ok (.getfield 68, 3) := by decide +kernel
theorem dX9_numbersEnded_50 : decode cX9_numbersEnded 50 = .ok (.iload_n 2, 1) := by decide +kernel
theorem dX9_numbersEnded_51 : decode cX9_numbersEnded 51 = .ok (.iconst 1, 1) := by decide +kernel
theorem dX9_numbersEnded_52 : decode cX9_numbersEnded 52 = .ok (.isub, 1) := by decide +kernel
theorem dX9_numbersEnded_53 : decode cX9_numbersEnded 53 = .ok (.iaload, 1) := by decide +kernel
theorem dX9_numbersEnded_54 : decode cX9_numbersEnded 54 = .ok (.invokevirtual 189, 3) := by decide +kernel
theorem dX9_numbersEnded_57 : decode cX9_numbersEnded 57 = .ok (.ifCond .eq 23, 3) := by decide +kernel
theorem dX9_numbersEnded_60 : decode cX9_numbersEnded 60 = .ok (.aload_n 0, 1) := by decide +kernel
theorem dX9_numbersEnded_61 : decode cX9_numbersEnded 61 = .ok (.getfield 68, 3) := by decide +kernel
theorem dX9_numbersEnded_64 : decode cX9_numbersEnded 64 = .ok (.iload_n 2, 1) := by decide +kernel
theorem dX9_numbersEnded_65 : decode cX9_numbersEnded 65 = .ok (.aload_n 0, 1) := by decide +kernel
theorem dX9_numbersEnded_66 : decode cX9_numbersEnded 66 = .ok (.getfield 68, 3) := by decide +kernel
theorem dX9_numbersEnded_69 : decode cX9_numbersEnded 69 = .ok (.iload_n 2, 1) := by decide +kernel
theorem dX9_numbersEnded_70 : decode cX9_numbersEnded 70 = .ok (.iconst 1, 1) := by decide +kernel
theorem dX9_numbersEnded_71 : decode cX9_numbersEnded 71 = .ok (.isub, 1) := by decide +kernel
theorem dX9_numbersEnded_72 : decode cX9_numbersEnded 72 = .ok (.iaload, 1) := by decide +kernel
theorem dX9_numbersEnded_73 : decode cX9_numbersEnded 73 = .ok (.iastore, 1) := by decide +kernel
theorem dX9_numbersEnded_74 : decode cX9_numbersEnded 74 = .ok (.iinc 2 (-1), 3) := by decide +kernel
theorem dX9_numbersEnded_77 : decode cX9_numbersEnded 77 = .ok (.goto (-37), 3) := by decide +kernel
theorem dX9_numbersEnded_80 : decode cX9_numbersEnded 80 = .ok (.aload_n 0, 1) := by decide +kernel
theorem dX9_numbersEnded_81 : decode cX9_numbersEnded 81 = .ok (.getfield 68, 3) := by decide +kernel
theorem dX9_numbersEnded_84 : decode cX9_numbersEnded 84 = .ok (.iload_n 2, 1) := by decide +kernel
theorem dX9_numbersEnded_85 : decode cX9_numbersEnded 85 = .ok (.iload_n 1, 1) := by decide +kernel
theorem dX9_numbersEnded_86 : decode cX9_numbersEnded 86 = .ok (.iastore, 1) := by decide +kernel
theorem dX9_numbersEnded_87 : decode cX9_numbersEnded 87 = .ok (.aload_n 0, 1) := by decide +kernel
theorem dX9_numbersEnded_88 : decode cX9_numbersEnded 88 = .ok (.dup, 1) := by decide +kernel
theorem dX9_numbersEnded_89 : decode cX9_numbersEnded 89 = .ok (.getfield 157, 3) := by decide +kernel
theorem dX9_numbersEnded_92 : decode cX9_numbersEnded 92 = .ok (.iconst 1, 1) := by decide +kernel
theorem dX9_numbersEnded_93 : decode cX9_numbersEnded 93 = .ok (.iadd, 1) := by decide +kernel
theorem dX9_numbersEnded_94 : decode cX9_numbersEnded 94 = .ok (.putfield 157, 3) := by decide +kernel
theorem dX9_numbersEnded_97 : decode cX9_numbersEnded 97 = .ok (.goto 18, 3) := by decide +kernel
theorem dX9_numbersEnded_100 : decode cX9_numbersEnded 100 = .ok (.aload_n 0, 1) := by decide +kernel
theorem dX9_numbersEnded_101 : decode cX9_numbersEnded 101 = .ok (.dup, 1) := by decide +kernel
theorem dX9_numbersEnded_102 : decode cX9_numbersEnded 102 = .ok (.getfield 186, 3) := by decide +kernel
theorem dX9_numbersEnded_105 : decode cX9_numbersEnded 105 = .ok (.aload_n 0, 1) := by decide +kernel
theorem dX9_numbersEnded_106 : decode cX9_numbersEnded 106 = .ok (.getfield 59, 3) := by decide +kernel
theorem dX9_numbersEnded_109 : decode cX9_numbersEnded 109 = .ok (.iload_n 1, 1) := by decide +kernel
theorem dX9_numbersEnded_110 : decode cX9_numbersEnded 110 = .ok (.iaload, 1) := by decide +kernel
theorem dX9_numbersEnded_111 : decode cX9_numbersEnded 111 = .ok (.iadd, 1) := by decide +kernel
theorem dX9_numbersEnded_112 : decode cX9_numbersEnded 112 = .ok (.putfield 186, 3) := by decide +kernel
theorem dX9_numbersEnded_115 : decode cX9_numbersEnded 115 = .ok (.iinc 1 1, 3) := by decide +kernel
theorem dX9_numbersEnded_118 : decode cX9_numbersEnded 118 = .ok (.goto (-106), 3) := by decide +kernel
theorem dX9_numbersEnded_121 : decode cX9_numbersEnded 121 = .ok (.return_, 1) := by decide +kernel
theorem dX9_laysBlobs_0 : decode cX9_laysBlobs 0 = .ok (.aload_n 0, 1) := by decide +kernel
theorem dX9_laysBlobs_1 : decode cX9_laysBlobs 1 = .ok (.invokevirtual 193, 3) := by decide +kernel
theorem dX9_laysBlobs_4 : decode cX9_laysBlobs 4 = .ok (.aload_n 0, 1) := by decide +kernel
theorem dX9_laysBlobs_5 : decode cX9_laysBlobs 5 = .ok (.iconst 0, 1) := by decide +kernel
theorem dX9_laysBlobs_6 : decode cX9_laysBlobs 6 = .ok (.putfield 176, 3) := by decide +kernel
theorem dX9_laysBlobs_9 : decode cX9_laysBlobs 9 = .ok (.iconst 0, 1) := by decide +kernel
theorem dX9_laysBlobs_10 : decode cX9_laysBlobs 10 = .ok (.istore_n 1, 1) := by decide +kernel
theorem dX9_laysBlobs_11 : decode cX9_laysBlobs 11 = .ok (.iload_n 1, 1) := by decide +kernel
theorem dX9_laysBlobs_12 : decode cX9_laysBlobs 12 = .ok (.aload_n 0, 1) := by decide +kernel
theorem dX9_laysBlobs_13 : decode cX9_laysBlobs 13 = .ok (.invokevirtual 154, 3) := by decide +kernel
theorem dX9_laysBlobs_16 : decode cX9_laysBlobs 16 = .ok (.if_icmp .ge 33, 3) := by decide +kernel
theorem dX9_laysBlobs_19 : decode cX9_laysBlobs 19 = .ok (.iconst 0, 1) := by decide +kernel
theorem dX9_laysBlobs_20 : decode cX9_laysBlobs 20 = .ok (.istore_n 2, 1) := by decide +kernel
theorem dX9_laysBlobs_21 : decode cX9_laysBlobs 21 = .ok (.iload_n 2, 1) := by decide +kernel
theorem dX9_laysBlobs_22 : decode cX9_laysBlobs 22 = .ok (.aload_n 0, 1) := by decide +kernel
theorem dX9_laysBlobs_23 : decode cX9_laysBlobs 23 = .ok (.getfield 7, 3) := by decide +kernel
theorem dX9_laysBlobs_26 : decode cX9_laysBlobs 26 = .ok (.iconst 0, 1) := by decide +kernel
theorem dX9_laysBlobs_27 : decode cX9_laysBlobs 27 = .ok (.iaload, 1) := by decide +kernel
theorem dX9_laysBlobs_28 : decode cX9_laysBlobs 28 = .ok (.if_icmp .ge 15, 3) := by decide +kernel
theorem dX9_laysBlobs_31 : decode cX9_laysBlobs 31 = .ok (.aload_n 0, 1) := by decide +kernel
theorem dX9_laysBlobs_32 : decode cX9_laysBlobs 32 = .ok (.iload_n 1, 1) := by decide +kernel
theorem dX9_laysBlobs_33 : decode cX9_laysBlobs 33 = .ok (.iload_n 2, 1) := by decide +kernel
theorem dX9_laysBlobs_34 : decode cX9_laysBlobs 34 = .ok (.invokevirtual 196, 3) := by decide +kernel
theorem dX9_laysBlobs_37 : decode cX9_laysBlobs 37 = .ok (.iinc 2 1, 3) := by decide +kernel
theorem dX9_laysBlobs_40 : decode cX9_laysBlobs 40 = .ok (.goto (-19), 3) := by decide +kernel
theorem dX9_laysBlobs_43 : decode cX9_laysBlobs 43 = .ok (.iinc 1 1, 3) := by decide +kernel
theorem dX9_laysBlobs_46 : decode cX9_laysBlobs 46 = .ok (.goto (-35), 3) := by decide +kernel
theorem dX9_laysBlobs_49 : decode cX9_laysBlobs 49 = .ok (.iconst 0, 1) := by decide +kernel
theorem dX9_laysBlobs_50 : decode cX9_laysBlobs 50 = .ok (.istore_n 1, 1) := by decide +kernel
theorem dX9_laysBlobs_51 : decode cX9_laysBlobs 51 = .ok (.iload_n 1, 1) := by decide +kernel
theorem dX9_laysBlobs_52 : decode cX9_laysBlobs 52 = .ok (.aload_n 0, 1) := by decide +kernel
theorem dX9_laysBlobs_53 : decode cX9_laysBlobs 53 = .ok (.invokevirtual 154, 3) := by decide +kernel
theorem dX9_laysBlobs_56 : decode cX9_laysBlobs 56 = .ok (.if_icmp .ge 47, 3) := by decide +kernel
theorem dX9_laysBlobs_59 : decode cX9_laysBlobs 59 = .ok (.iconst 0, 1) := by decide +kernel
theorem dX9_laysBlobs_60 : decode cX9_laysBlobs 60 = .ok (.istore_n 2, 1) := by decide +kernel
theorem dX9_laysBlobs_61 : decode cX9_laysBlobs 61 = .ok (.iload_n 2, 1) := by decide +kernel
theorem dX9_laysBlobs_62 : decode cX9_laysBlobs 62 = .ok (.aload_n 0, 1) := by decide +kernel
theorem dX9_laysBlobs_63 : decode cX9_laysBlobs 63 = .ok (.getfield 7, 3) := by decide +kernel
theorem dX9_laysBlobs_66 : decode cX9_laysBlobs 66 = .ok (.iconst 0, 1) := by decide +kernel
theorem dX9_laysBlobs_67 : decode cX9_laysBlobs 67 = .ok (.iaload, 1) := by decide +kernel
theorem dX9_laysBlobs_68 : decode cX9_laysBlobs 68 = .ok (.if_icmp .ge 29, 3) := by decide +kernel
theorem dX9_laysBlobs_71 : decode cX9_laysBlobs 71 = .ok (.aload_n 0, 1) := by decide +kernel
theorem dX9_laysBlobs_72 : decode cX9_laysBlobs 72 = .ok (.getfield 35, 3) := by decide +kernel
theorem dX9_laysBlobs_75 : decode cX9_laysBlobs 75 = .ok (.bipush 16, 2) := by decide +kernel
theorem dX9_laysBlobs_77 : decode cX9_laysBlobs 77 = .ok (.iload_n 1, 1) := by decide +kernel
theorem dX9_laysBlobs_78 : decode cX9_laysBlobs 78 = .ok (.imul, 1) := by decide +kernel
theorem dX9_laysBlobs_79 : decode cX9_laysBlobs 79 = .ok (.iload_n 2, 1) := by decide +kernel
theorem dX9_laysBlobs_80 : decode cX9_laysBlobs 80 = .ok (.iadd, 1) := by decide +kernel
theorem dX9_laysBlobs_81 : decode cX9_laysBlobs 81 = .ok (.iaload, 1) := by decide +kernel
theorem dX9_laysBlobs_82 : decode cX9_laysBlobs 82 = .ok (.ifCond .le 9, 3) := by decide +kernel
theorem dX9_laysBlobs_85 : decode cX9_laysBlobs 85 = .ok (.aload_n 0, 1) := by decide +kernel
theorem dX9_laysBlobs_86 : decode cX9_laysBlobs 86 = .ok (.iload_n 1, 1) := by decide +kernel
theorem dX9_laysBlobs_87 : decode cX9_laysBlobs 87 = .ok (.iload_n 2, 1) := by decide +kernel
theorem dX9_laysBlobs_88 : decode cX9_laysBlobs 88 = .ok (.invokevirtual 199, 3) := by decide +kernel
theorem dX9_laysBlobs_91 : decode cX9_laysBlobs 91 = .ok (.iinc 2 1, 3) := by decide +kernel
theorem dX9_laysBlobs_94 : decode cX9_laysBlobs 94 = .ok (.goto (-33), 3) := by decide +kernel
theorem dX9_laysBlobs_97 : decode cX9_laysBlobs 97 = .ok (.iinc 1 1, 3) := by decide +kernel
theorem dX9_laysBlobs_100 : decode cX9_laysBlobs 100 = .ok (.goto (-49), 3) := by decide +kernel
theorem dX9_laysBlobs_103 : decode cX9_laysBlobs 103 = .ok (.aload_n 0, 1) := by decide +kernel
theorem dX9_laysBlobs_104 : decode cX9_laysBlobs 104 = .ok (.invokevirtual 202, 3) := by decide +kernel
theorem dX9_laysBlobs_107 : decode cX9_laysBlobs 107 = .ok (.return_, 1) := by decide +kernel
theorem dX9_valueOf_0 : decode cX9_valueOf 0 = .ok (.iload_n 2, 1) := by decide +kernel
theorem dX9_valueOf_1 : decode cX9_valueOf 1 = .ok (.ifCond .ne 19, 3) := by decide +kernel
theorem dX9_valueOf_4 : decode cX9_valueOf 4 = .ok (.aload_n 0, 1) := by decide +kernel
theorem dX9_valueOf_5 : decode cX9_valueOf 5 = .ok (.getfield 62, 3) := by decide +kernel
theorem dX9_valueOf_8 : decode cX9_valueOf 8 = .ok (.iload_n 1, 1) := by decide +kernel
theorem dX9_valueOf_9 : decode cX9_valueOf 9 = .ok (.iaload, 1) := by decide +kernel
theorem dX9_valueOf_10 : decode cX9_valueOf 10 = .ok (.aload_n 0, 1) := by decide +kernel
theorem dX9_valueOf_11 : decode cX9_valueOf 11 = .ok (.getfield 59, 3) := by decide +kernel
theorem dX9_valueOf_14 : decode cX9_valueOf 14 = .ok (.iload_n 1, 1) := by decide +kernel
theorem dX9_valueOf_15 : decode cX9_valueOf 15 = .ok (.iaload, 1) := by decide +kernel
theorem dX9_valueOf_16 : decode cX9_valueOf 16 = .ok (.idiv, 1) := by decide +kernel
theorem dX9_valueOf_17 : decode cX9_valueOf 17 = .ok (.goto 46, 3) := by decide +kernel
theorem dX9_valueOf_20 : decode cX9_valueOf 20 = .ok (.iload_n 2, 1) := by decide +kernel
theorem dX9_valueOf_21 : decode cX9_valueOf 21 = .ok (.iconst 1, 1) := by decide +kernel
theorem dX9_valueOf_22 : decode cX9_valueOf 22 = .ok (.if_icmp .ne 12, 3) := by decide +kernel
theorem dX9_valueOf_25 : decode cX9_valueOf 25 = .ok (.aload_n 0, 1) := by decide +kernel
theorem dX9_valueOf_26 : decode cX9_valueOf 26 = .ok (.getfield 65, 3) := by decide +kernel
theorem dX9_valueOf_29 : decode cX9_valueOf 29 = .ok (.iload_n 1, 1) := by decide +kernel
theorem dX9_valueOf_30 : decode cX9_valueOf 30 = .ok (.iaload, 1) := by decide +kernel
theorem dX9_valueOf_31 : decode cX9_valueOf 31 = .ok (.goto 32, 3) := by decide +kernel
theorem dX9_valueOf_34 : decode cX9_valueOf 34 = .ok (.iload_n 2, 1) := by decide +kernel
theorem dX9_valueOf_35 : decode cX9_valueOf 35 = .ok (.iconst 2, 1) := by decide +kernel
theorem dX9_valueOf_36 : decode cX9_valueOf 36 = .ok (.if_icmp .ne 12, 3) := by decide +kernel
theorem dX9_valueOf_39 : decode cX9_valueOf 39 = .ok (.aload_n 0, 1) := by decide +kernel
theorem dX9_valueOf_40 : decode cX9_valueOf 40 = .ok (.getfield 59, 3) := by decide +kernel
theorem dX9_valueOf_43 : decode cX9_valueOf 43 = .ok (.iload_n 1, 1) := by decide +kernel
theorem dX9_valueOf_44 : decode cX9_valueOf 44 = .ok (.iaload, 1) := by decide +kernel
theorem dX9_valueOf_45 : decode cX9_valueOf 45 = .ok (.goto 18, 3) := by decide +kernel
theorem dX9_valueOf_48 : decode cX9_valueOf 48 = .ok (.aload_n 0, 1) := by decide +kernel
theorem dX9_valueOf_49 : decode cX9_valueOf 49 = .ok (.getfield 47, 3) := by decide +kernel
theorem dX9_valueOf_52 : decode cX9_valueOf 52 = .ok (.iload_n 1, 1) := by decide +kernel
theorem dX9_valueOf_53 : decode cX9_valueOf 53 = .ok (.iaload, 1) := by decide +kernel
theorem dX9_valueOf_54 : decode cX9_valueOf 54 = .ok (.aload_n 0, 1) := by decide +kernel
theorem dX9_valueOf_55 : decode cX9_valueOf 55 = .ok (.getfield 44, 3) := by decide +kernel
theorem dX9_valueOf_58 : decode cX9_valueOf 58 = .ok (.iload_n 1, 1) := by decide +kernel
theorem dX9_valueOf_59 : decode cX9_valueOf 59 = .ok (.iaload, 1) := by decide +kernel
theorem dX9_valueOf_60 : decode cX9_valueOf 60 = .ok (.isub, 1) := by decide +kernel
theorem dX9_valueOf_61 : decode cX9_valueOf 61 = .ok (.iconst 1, 1) := by decide +kernel
theorem dX9_valueOf_62 : decode cX9_valueOf 62 = .ok (.iadd, 1) := by decide +kernel
theorem dX9_valueOf_63 : decode cX9_valueOf 63 = .ok (.ireturn, 1) := by decide +kernel
theorem dX9_ruleOf_0 : decode cX9_ruleOf 0 = .ok (.iconst 0, 1) := by decide +kernel
theorem dX9_ruleOf_1 : decode cX9_ruleOf 1 = .ok (.istore_n 2, 1) := by decide +kernel
theorem dX9_ruleOf_2 : decode cX9_ruleOf 2 = .ok (.iload_n 2, 1) := by decide +kernel
theorem dX9_ruleOf_3 : decode cX9_ruleOf 3 = .ok (.aload_n 0, 1) := by decide +kernel
theorem dX9_ruleOf_4 : decode cX9_ruleOf 4 = .ok (.getfield 88, 3) := by decide +kernel
theorem dX9_ruleOf_7 : decode cX9_ruleOf 7 = .ok (.if_icmp .ge 31, 3) := by decide +kernel
theorem dX9_ruleOf_10 : decode cX9_ruleOf 10 = .ok (.aload_n 0, 1) := by decide +kernel
theorem dX9_ruleOf_11 : decode cX9_ruleOf 11 = .ok (.iload_n 1, 1) := by decide +kernel
theorem dX9_ruleOf_12 : decode cX9_ruleOf 12 = .ok (.aload_n 0, 1) := by decide +kernel
theorem dX9_ruleOf_13 : decode cX9_ruleOf 13 = .ok (.getfield 13, 3) := by decide +kernel
theorem dX9_ruleOf_16 : decode cX9_ruleOf 16 = .ok (.iload_n 2, 1) := by decide +kernel
theorem dX9_ruleOf_17 : decode cX9_ruleOf 17 = .ok (.iaload, 1) := by decide +kernel
theorem dX9_ruleOf_18 : decode cX9_ruleOf 18 = .ok (.invokevirtual 205, 3) := by decide +kernel
theorem dX9_ruleOf_21 : decode cX9_ruleOf 21 = .ok (.aload_n 0, 1) := by decide +kernel
theorem dX9_ruleOf_22 : decode cX9_ruleOf 22 = .ok (.getfield 71, 3) := by decide +kernel
theorem dX9_ruleOf_25 : decode cX9_ruleOf 25 = .ok (.iload_n 2, 1) := by decide +kernel
theorem dX9_ruleOf_26 : decode cX9_ruleOf 26 = .ok (.iaload, 1) := by decide +kernel
theorem dX9_ruleOf_27 : decode cX9_ruleOf 27 = .ok (.if_icmp .lt 5, 3) := by decide +kernel
theorem dX9_ruleOf_30 : decode cX9_ruleOf 30 = .ok (.iload_n 2, 1) := by decide +kernel
theorem dX9_ruleOf_31 : decode cX9_ruleOf 31 = .ok (.ireturn, 1) := by decide +kernel
theorem dX9_ruleOf_32 : decode cX9_ruleOf 32 = .ok (.iinc 2 1, 3) := by decide +kernel
theorem dX9_ruleOf_35 : decode cX9_ruleOf 35 = .ok (.goto (-33), 3) := by decide +kernel
theorem dX9_ruleOf_38 : decode cX9_ruleOf 38 = .ok (.bipush (-4), 2) := by decide +kernel
theorem dX9_ruleOf_40 : decode cX9_ruleOf 40 = .ok (.ireturn, 1) := by decide +kernel
theorem dX9_perValve_0 : decode cX9_perValve 0 = .ok (.aload_n 0, 1) := by decide +kernel
theorem dX9_perValve_1 : decode cX9_perValve 1 = .ok (.getfield 7, 3) := by decide +kernel
theorem dX9_perValve_4 : decode cX9_perValve 4 = .ok (.iconst 0, 1) := by decide +kernel
theorem dX9_perValve_5 : decode cX9_perValve 5 = .ok (.iaload, 1) := by decide +kernel
theorem dX9_perValve_6 : decode cX9_perValve 6 = .ok (.aload_n 0, 1) := by decide +kernel
theorem dX9_perValve_7 : decode cX9_perValve 7 = .ok (.getfield 7, 3) := by decide +kernel
theorem dX9_perValve_10 : decode cX9_perValve 10 = .ok (.iconst 1, 1) := by decide +kernel
theorem dX9_perValve_11 : decode cX9_perValve 11 = .ok (.iaload, 1) := by decide +kernel
theorem dX9_perValve_12 : decode cX9_perValve 12 = .ok (.idiv, 1) := by decide +kernel
theorem dX9_perValve_13 : decode cX9_perValve 13 = .ok (.ireturn, 1) := by decide +kernel
theorem dX9_wanted_0 : decode cX9_wanted 0 = .ok (.aload_n 0, 1) := by decide +kernel
theorem dX9_wanted_1 : decode cX9_wanted 1 = .ok (.getfield 44, 3) := by decide +kernel
theorem dX9_wanted_4 : decode cX9_wanted 4 = .ok (.iload_n 1, 1) := by decide +kernel
theorem dX9_wanted_5 : decode cX9_wanted 5 = .ok (.iaload, 1) := by decide +kernel
theorem dX9_wanted_6 : decode cX9_wanted 6 = .ok (.aload_n 0, 1) := by decide +kernel
theorem dX9_wanted_7 : decode cX9_wanted 7 = .ok (.getfield 7, 3) := by decide +kernel
theorem dX9_wanted_10 : decode cX9_wanted 10 = .ok (.iconst 2, 1) := by decide +kernel
theorem dX9_wanted_11 : decode cX9_wanted 11 = .ok (.iaload, 1) := by decide +kernel
theorem dX9_wanted_12 : decode cX9_wanted 12 = .ok (.iadd, 1) := by decide +kernel
theorem dX9_wanted_13 : decode cX9_wanted 13 = .ok (.aload_n 0, 1) := by decide +kernel
theorem dX9_wanted_14 : decode cX9_wanted 14 = .ok (.getfield 7, 3) := by decide +kernel
theorem dX9_wanted_17 : decode cX9_wanted 17 = .ok (.iconst 3, 1) := by decide +kernel
theorem dX9_wanted_18 : decode cX9_wanted 18 = .ok (.iaload, 1) := by decide +kernel
theorem dX9_wanted_19 : decode cX9_wanted 19 = .ok (.isub, 1) := by decide +kernel
theorem dX9_wanted_20 : decode cX9_wanted 20 = .ok (.ireturn, 1) := by decide +kernel
theorem dX9_wants_0 : decode cX9_wants 0 = .ok (.aload_n 0, 1) := by decide +kernel
theorem dX9_wants_1 : decode cX9_wants 1 = .ok (.getfield 47, 3) := by decide +kernel
theorem dX9_wants_4 : decode cX9_wants 4 = .ok (.iload_n 1, 1) := by decide +kernel
theorem dX9_wants_5 : decode cX9_wants 5 = .ok (.iaload, 1) := by decide +kernel
theorem dX9_wants_6 : decode cX9_wants 6 = .ok (.iconst 1, 1) := by decide +kernel
theorem dX9_wants_7 : decode cX9_wants 7 = .ok (.iadd, 1) := by decide +kernel
theorem dX9_wants_8 : decode cX9_wants 8 = .ok (.istore_n 2, 1) := by decide +kernel
theorem dX9_wants_9 : decode cX9_wants 9 = .ok (.aload_n 0, 1) := by decide +kernel
theorem dX9_wants_10 : decode cX9_wants 10 = .ok (.iload_n 1, 1) := by decide +kernel
theorem dX9_wants_11 : decode cX9_wants 11 = .ok (.invokevirtual 208, 3) := by decide +kernel
theorem dX9_wants_14 : decode cX9_wants 14 = .ok (.iload_n 2, 1) := by decide +kernel
theorem dX9_wants_15 : decode cX9_wants 15 = .ok (.if_icmp .ge 7, 3) := by decide +kernel
theorem dX9_wants_18 : decode cX9_wants 18 = .ok (.iload_n 2, 1) := by decide +kernel
theorem dX9_wants_19 : decode cX9_wants 19 = .ok (.goto 8, 3) := by decide +kernel
theorem dX9_wants_22 : decode cX9_wants 22 = .ok (.aload_n 0, 1) := by decide +kernel
theorem dX9_wants_23 : decode cX9_wants 23 = .ok (.iload_n 1, 1) := by decide +kernel
theorem dX9_wants_24 : decode cX9_wants 24 = .ok (.invokevirtual 208, 3) := by decide +kernel
theorem dX9_wants_27 : decode cX9_wants 27 = .ok (.istore_n 3, 1) := by decide +kernel
theorem dX9_wants_28 : decode cX9_wants 28 = .ok (.aload_n 0, 1) := by decide +kernel
theorem dX9_wants_29 : decode cX9_wants 29 = .ok (.getfield 53, 3) := by decide +kernel
theorem dX9_wants_32 : decode cX9_wants 32 = .ok (.iload_n 1, 1) := by decide +kernel
theorem dX9_wants_33 : decode cX9_wants 33 = .ok (.iaload, 1) := by decide +kernel
theorem dX9_wants_34 : decode cX9_wants 34 = .ok (.aload_n 0, 1) := by decide +kernel
theorem dX9_wants_35 : decode cX9_wants 35 = .ok (.invokevirtual 211, 3) := by decide +kernel
theorem dX9_wants_38 : decode cX9_wants 38 = .ok (.idiv, 1) := by decide +kernel
theorem dX9_wants_39 : decode cX9_wants 39 = .ok (.istore 4, 2) := by decide +kernel
theorem dX9_wants_41 : decode cX9_wants 41 = .ok (.iload 4, 2) := by decide +kernel
theorem dX9_wants_43 : decode cX9_wants 43 = .ok (.aload_n 0, 1) := by decide +kernel
theorem dX9_wants_44 : decode cX9_wants 44 = .ok (.getfield 56, 3) := by decide +kernel
theorem dX9_wants_47 : decode cX9_wants 47 = .ok (.iload_n 1, 1) := by decide +kernel
theorem dX9_wants_48 : decode cX9_wants 48 = .ok (.iaload, 1) := by decide +kernel
theorem dX9_wants_49 : decode cX9_wants 49 = .ok (.aload_n 0, 1) := by decide +kernel
theorem dX9_wants_50 : decode cX9_wants 50 = .ok (.invokevirtual 211, 3) := by decide +kernel
theorem dX9_wants_53 : decode cX9_wants 53 = .ok (.idiv, 1) := by decide +kernel
theorem dX9_wants_54 : decode cX9_wants 54 = .ok (.if_icmp .gt 57, 3) := by decide +kernel
theorem dX9_wants_57 : decode cX9_wants 57 = .ok (.iload_n 3, 1) := by decide +kernel
theorem dX9_wants_58 : decode cX9_wants 58 = .ok (.istore 5, 2) := by decide +kernel
theorem dX9_wants_60 : decode cX9_wants 60 = .ok (.iload 5, 2) := by decide +kernel
theorem dX9_wants_62 : decode cX9_wants 62 = .ok (.aload_n 0, 1) := by decide +kernel
theorem dX9_wants_63 : decode cX9_wants 63 = .ok (.getfield 47, 3) := by decide +kernel
theorem dX9_wants_66 : decode cX9_wants 66 = .ok (.iload_n 1, 1) := by decide +kernel
theorem dX9_wants_67 : decode cX9_wants 67 = .ok (.iaload, 1) := by decide +kernel
theorem dX9_wants_68 : decode cX9_wants 68 = .ok (.aload_n 0, 1) := by decide +kernel
theorem dX9_wants_69 : decode cX9_wants 69 = .ok (.getfield 7, 3) := by decide +kernel
theorem dX9_wants_72 : decode cX9_wants 72 = .ok (.iconst 2, 1) := by decide +kernel
theorem dX9_wants_73 : decode cX9_wants 73 = .ok (.iaload, 1) := by decide +kernel
theorem dX9_wants_74 : decode cX9_wants 74 = .ok (.iadd, 1) := by decide +kernel
theorem dX9_wants_75 : decode cX9_wants 75 = .ok (.aload_n 0, 1) := by decide +kernel
theorem dX9_wants_76 : decode cX9_wants 76 = .ok (.getfield 7, 3) := by decide +kernel
theorem dX9_wants_79 : decode cX9_wants 79 = .ok (.iconst 4, 1) := by decide +kernel
theorem dX9_wants_80 : decode cX9_wants 80 = .ok (.iaload, 1) := by decide +kernel
theorem dX9_wants_81 : decode cX9_wants 81 = .ok (.iadd, 1) := by decide +kernel
theorem dX9_wants_82 : decode cX9_wants 82 = .ok (.if_icmp .gt 23, 3) := by decide +kernel
theorem dX9_wants_85 : decode cX9_wants 85 = .ok (.aload_n 0, 1) := by decide +kernel
theorem dX9_wants_86 : decode cX9_wants 86 = .ok (.getfield 77, 3) := by decide +kernel
theorem dX9_wants_89 : decode cX9_wants 89 = .ok (.bipush 96, 2) := by decide +kernel
theorem dX9_wants_91 : decode cX9_wants 91 = .ok (.iload 4, 2) := by decide +kernel
theorem dX9_wants_93 : decode cX9_wants 93 = .ok (.imul, 1) := by decide +kernel
theorem dX9_wants_94 : decode cX9_wants 94 = .ok (.iload 5, 2) := by decide +kernel
theorem dX9_wants_96 : decode cX9_wants 96 = .ok (.iadd, 1) := by decide +kernel
theorem dX9_wants_97 : decode cX9_wants 97 = .ok (.iconst 1, 1) := by decide +kernel
theorem dX9_wants_98 : decode cX9_wants 98 = .ok (.bastore, 1) := by decide +kernel
theorem dX9_wants_99 : decode cX9_wants 99 = .ok (.iinc 5 1, 3) := by decide +kernel
theorem dX9_wants_102 : decode cX9_wants 102 = .ok (.goto (-42), 3) := by decide +kernel
theorem dX9_wants_105 : decode cX9_wants 105 = .ok (.iinc 4 1, 3) := by decide +kernel
theorem dX9_wants_108 : decode cX9_wants 108 = .ok (.goto (-67), 3) := by decide +kernel
theorem dX9_wants_111 : decode cX9_wants 111 = .ok (.return_, 1) := by decide +kernel
theorem dX9_rests_0 : decode cX9_rests 0 = .ok (.bipush (-4), 2) := by decide +kernel
theorem dX9_rests_2 : decode cX9_rests 2 = .ok (.istore_n 2, 1) := by decide +kernel
theorem dX9_rests_3 : decode cX9_rests 3 = .ok (.iconst 0, 1) := by decide +kernel
theorem dX9_rests_4 : decode cX9_rests 4 = .ok (.istore_n 3, 1) := by decide +kernel
theorem dX9_rests_5 : decode cX9_rests 5 = .ok (.iload_n 3, 1) := by decide +kernel
theorem dX9_rests_6 : decode cX9_rests 6 = .ok (.bipush 96, 2) := by decide +kernel
theorem dX9_rests_8 : decode cX9_rests 8 = .ok (.if_icmp .ge 74, 3) := by decide +kernel
theorem dX9_rests_11 : decode cX9_rests 11 = .ok (.aload_n 0, 1) := by decide +kernel
theorem dX9_rests_12 : decode cX9_rests 12 = .ok (.getfield 77, 3) := by decide +kernel
theorem dX9_rests_15 : decode cX9_rests 15 = .ok (.bipush 96, 2) := by decide +kernel
theorem dX9_rests_17 : decode cX9_rests 17 = .ok (.iload_n 1, 1) := by decide +kernel
theorem dX9_rests_18 : decode cX9_rests 18 = .ok (.imul, 1) := by decide +kernel
theorem dX9_rests_19 : decode cX9_rests 19 = .ok (.iload_n 3, 1) := by decide +kernel
theorem dX9_rests_20 : decode cX9_rests 20 = .ok (.iadd, 1) := by decide +kernel
theorem dX9_rests_21 : decode cX9_rests 21 = .ok (.baload, 1) := by decide +kernel
theorem dX9_rests_22 : decode cX9_rests 22 = .ok (.ifCond .eq 54, 3) := by decide +kernel
theorem dX9_rests_25 : decode cX9_rests 25 = .ok (.iload_n 2, 1) := by decide +kernel
theorem dX9_rests_26 : decode cX9_rests 26 = .ok (.iconst 1, 1) := by decide +kernel
theorem dX9_rests_27 : decode cX9_rests 27 = .ok (.iadd, 1) := by decide +kernel
theorem dX9_rests_28 : decode cX9_rests 28 = .ok (.istore 4, 2) := by decide +kernel
theorem dX9_rests_30 : decode cX9_rests 30 = .ok (.iload_n 2, 1) := by decide +kernel
theorem dX9_rests_31 : decode cX9_rests 31 = .ok (.ifCond .lt 43, 3) := by decide +kernel
theorem dX9_rests_34 : decode cX9_rests 34 = .ok (.iload_n 3, 1) := by decide +kernel
theorem dX9_rests_35 : decode cX9_rests 35 = .ok (.iload_n 2, 1) := by decide +kernel
theorem dX9_rests_36 : decode cX9_rests 36 = .ok (.isub, 1) := by decide +kernel
theorem dX9_rests_37 : decode cX9_rests 37 = .ok (.iconst 1, 1) := by decide +kernel
theorem dX9_rests_38 : decode cX9_rests 38 = .ok (.isub, 1) := by decide +kernel
theorem dX9_rests_39 : decode cX9_rests 39 = .ok (.aload_n 0, 1) := by decide +kernel
theorem dX9_rests_40 : decode cX9_rests 40 = .ok (.getfield 7, 3) := by decide +kernel
theorem dX9_rests_43 : decode cX9_rests 43 = .ok (.bipush 6, 2) := by decide +kernel
theorem dX9_rests_45 : decode cX9_rests 45 = .ok (.iaload, 1) := by decide +kernel
theorem dX9_rests_46 : decode cX9_rests 46 = .ok (.if_icmp .ge 28, 3) := by decide +kernel
theorem dX9_rests_49 : decode cX9_rests 49 = .ok (.iload 4, 2) := by decide +kernel
theorem dX9_rests_51 : decode cX9_rests 51 = .ok (.iload_n 3, 1) := by decide +kernel
theorem dX9_rests_52 : decode cX9_rests 52 = .ok (.if_icmp .ge 22, 3) := by decide +kernel
theorem dX9_rests_55 : decode cX9_rests 55 = .ok (.aload_n 0, 1) := by decide +kernel
theorem dX9_rests_56 : decode cX9_rests 56 = .ok (.getfield 77, 3) := by decide +kernel
theorem dX9_rests_59 : decode cX9_rests 59 = .ok (.bipush 96, 2) := by decide +kernel
theorem dX9_rests_61 : decode cX9_rests 61 = .ok (.iload_n 1, 1) := by decide +kernel
theorem dX9_rests_62 : decode cX9_rests 62 = .ok (.imul, 1) := by decide +kernel
theorem dX9_rests_63 : decode cX9_rests 63 = .ok (.iload 4, 2) := by decide +kernel
theorem dX9_rests_65 : decode cX9_rests 65 = .ok (.iadd, 1) := by decide +kernel
theorem dX9_rests_66 : decode cX9_rests 66 = .ok (.iconst 1, 1) := by decide +kernel
theorem dX9_rests_67 : decode cX9_rests 67 = .ok (.bastore, 1) := by decide +kernel
theorem dX9_rests_68 : decode cX9_rests 68 = .ok (.iinc 4 1, 3) := by decide +kernel
theorem dX9_rests_71 : decode cX9_rests 71 = .ok (.goto (-41), 3) := by decide +kernel
theorem dX9_rests_74 : decode cX9_rests 74 = .ok (.iload_n 3, 1) := by decide +kernel
theorem dX9_rests_75 : decode cX9_rests 75 = .ok (.istore_n 2, 1) := by decide +kernel
theorem dX9_rests_76 : decode cX9_rests 76 = .ok (.iinc 3 1, 3) := by decide +kernel
theorem dX9_rests_79 : decode cX9_rests 79 = .ok (.goto (-74), 3) := by decide +kernel
theorem dX9_rests_82 : decode cX9_rests 82 = .ok (.return_, 1) := by decide +kernel
theorem dX9_isBlownNow_0 : decode cX9_isBlownNow 0 = .ok (.iconst 0, 1) := by decide +kernel
theorem dX9_isBlownNow_1 : decode cX9_isBlownNow 1 = .ok (.istore_n 2, 1) := by decide +kernel
theorem dX9_isBlownNow_2 : decode cX9_isBlownNow 2 = .ok (.aload_n 0, 1) := by decide +kernel
theorem dX9_isBlownNow_3 : decode cX9_isBlownNow 3 = .ok (.getfield 53, 3) := by decide +kernel
theorem dX9_isBlownNow_6 : decode cX9_isBlownNow 6 = .ok (.iload_n 1, 1) := by decide +kernel
theorem dX9_isBlownNow_7 : decode cX9_isBlownNow 7 = .ok (.iaload, 1) := by decide +kernel
theorem dX9_isBlownNow_8 : decode cX9_isBlownNow 8 = .ok (.aload_n 0, 1) := by decide +kernel
theorem dX9_isBlownNow_9 : decode cX9_isBlownNow 9 = .ok (.invokevirtual 211, 3) := by decide +kernel
theorem dX9_isBlownNow_12 : decode cX9_isBlownNow 12 = .ok (.idiv, 1) := by decide +kernel
theorem dX9_isBlownNow_13 : decode cX9_isBlownNow 13 = .ok (.istore_n 3, 1) := by decide +kernel
theorem dX9_isBlownNow_14 : decode cX9_isBlownNow 14 = .ok (.iload_n 3, 1) := by decide +kernel
theorem dX9_isBlownNow_15 : decode cX9_isBlownNow 15 = .ok (.aload_n 0, 1) := by decide +kernel
theorem dX9_isBlownNow_16 : decode cX9_isBlownNow 16 = .ok (.getfield 56, 3) := by decide +kernel
theorem dX9_isBlownNow_19 : decode cX9_isBlownNow 19 = .ok (.iload_n 1, 1) := by decide +kernel
theorem dX9_isBlownNow_20 : decode cX9_isBlownNow 20 = .ok (.iaload, 1) := by decide +kernel
theorem dX9_isBlownNow_21 : decode cX9_isBlownNow 21 = .ok (.aload_n 0, 1) := by decide +kernel
theorem dX9_isBlownNow_22 : decode cX9_isBlownNow 22 = .ok (.invokevirtual 211, 3) := by decide +kernel
theorem dX9_isBlownNow_25 : decode cX9_isBlownNow 25 = .ok (.idiv, 1) := by decide +kernel
theorem dX9_isBlownNow_26 : decode cX9_isBlownNow 26 = .ok (.if_icmp .gt 73, 3) := by decide +kernel
theorem dX9_isBlownNow_29 : decode cX9_isBlownNow 29 = .ok (.aload_n 0, 1) := by decide +kernel
theorem dX9_isBlownNow_30 : decode cX9_isBlownNow 30 = .ok (.getfield 44, 3) := by decide +kernel
theorem dX9_isBlownNow_33 : decode cX9_isBlownNow 33 = .ok (.iload_n 1, 1) := by decide +kernel
theorem dX9_isBlownNow_34 : decode cX9_isBlownNow 34 = .ok (.iaload, 1) := by decide +kernel
theorem dX9_isBlownNow_35 : decode cX9_isBlownNow 35 = .ok (.aload_n 0, 1) := by decide +kernel
theorem dX9_isBlownNow_36 : decode cX9_isBlownNow 36 = .ok (.getfield 7, 3) := by decide +kernel
theorem dX9_isBlownNow_39 : decode cX9_isBlownNow 39 = .ok (.iconst 2, 1) := by decide +kernel
theorem dX9_isBlownNow_40 : decode cX9_isBlownNow 40 = .ok (.iaload, 1) := by decide +kernel
theorem dX9_isBlownNow_41 : decode cX9_isBlownNow 41 = .ok (.iadd, 1) := by decide +kernel
theorem dX9_isBlownNow_42 : decode cX9_isBlownNow 42 = .ok (.istore 4, 2) := by decide +kernel
theorem dX9_isBlownNow_44 : decode cX9_isBlownNow 44 = .ok (.iload 4, 2) := by decide +kernel
theorem dX9_isBlownNow_46 : decode cX9_isBlownNow 46 = .ok (.aload_n 0, 1) := by decide +kernel
theorem dX9_isBlownNow_47 : decode cX9_isBlownNow 47 = .ok (.getfield 47, 3) := by decide +kernel
theorem dX9_isBlownNow_50 : decode cX9_isBlownNow 50 = .ok (.iload_n 1, 1) := by decide +kernel
theorem dX9_isBlownNow_51 : decode cX9_isBlownNow 51 = .ok (.iaload, 1) := by decide +kernel
theorem dX9_isBlownNow_52 : decode cX9_isBlownNow 52 = .ok (.aload_n 0, 1) := by decide +kernel
theorem dX9_isBlownNow_53 : decode cX9_isBlownNow 53 = .ok (.getfield 7, 3) := by decide +kernel
theorem dX9_isBlownNow_56 : decode cX9_isBlownNow 56 = .ok (.iconst 2, 1) := by decide +kernel
theorem dX9_isBlownNow_57 : decode cX9_isBlownNow 57 = .ok (.iaload, 1) := by decide +kernel
theorem dX9_isBlownNow_58 : decode cX9_isBlownNow 58 = .ok (.iadd, 1) := by decide +kernel
theorem dX9_isBlownNow_59 : decode cX9_isBlownNow 59 = .ok (.if_icmp .gt 34, 3) := by decide +kernel
theorem dX9_isBlownNow_62 : decode cX9_isBlownNow 62 = .ok (.iload_n 2, 1) := by decide +kernel
theorem dX9_isBlownNow_63 : decode cX9_isBlownNow 63 = .ok (.ifCond .ne 18, 3) := by decide +kernel
theorem dX9_isBlownNow_66 : decode cX9_isBlownNow 66 = .ok (.aload_n 0, 1) := by decide +kernel
theorem dX9_isBlownNow_67 : decode cX9_isBlownNow 67 = .ok (.getfield 77, 3) := by decide +kernel
theorem dX9_isBlownNow_70 : decode cX9_isBlownNow 70 = .ok (.bipush 96, 2) := by decide +kernel
theorem dX9_isBlownNow_72 : decode cX9_isBlownNow 72 = .ok (.iload_n 3, 1) := by decide +kernel
theorem dX9_isBlownNow_73 : decode cX9_isBlownNow 73 = .ok (.imul, 1) := by decide +kernel
theorem dX9_isBlownNow_74 : decode cX9_isBlownNow 74 = .ok (.iload 4, 2) := by decide +kernel
theorem dX9_isBlownNow_76 : decode cX9_isBlownNow 76 = .ok (.iadd, 1) := by decide +kernel
theorem dX9_isBlownNow_77 : decode cX9_isBlownNow 77 = .ok (.baload, 1) := by decide +kernel
theorem dX9_isBlownNow_78 : decode cX9_isBlownNow 78 = .ok (.ifCond .eq 7, 3) := by decide +kernel
theorem dX9_isBlownNow_81 : decode cX9_isBlownNow 81 = .ok (.iconst 1, 1) := by decide +kernel
theorem dX9_isBlownNow_82 : decode cX9_isBlownNow 82 = .ok (.goto 4, 3) := by decide +kernel
theorem dX9_isBlownNow_85 : decode cX9_isBlownNow 85 = .ok (.iconst 0, 1) := by decide +kernel
theorem dX9_isBlownNow_86 : decode cX9_isBlownNow 86 = .ok (.istore_n 2, 1) := by decide +kernel
theorem dX9_isBlownNow_87 : decode cX9_isBlownNow 87 = .ok (.iinc 4 1, 3) := by decide +kernel
theorem dX9_isBlownNow_90 : decode cX9_isBlownNow 90 = .ok (.goto (-46), 3) := by decide +kernel
theorem dX9_isBlownNow_93 : decode cX9_isBlownNow 93 = .ok (.iinc 3 1, 3) := by decide +kernel
theorem dX9_isBlownNow_96 : decode cX9_isBlownNow 96 = .ok (.goto (-82), 3) := by decide +kernel
theorem dX9_isBlownNow_99 : decode cX9_isBlownNow 99 = .ok (.iload_n 2, 1) := by decide +kernel
theorem dX9_isBlownNow_100 : decode cX9_isBlownNow 100 = .ok (.ireturn, 1) := by decide +kernel
theorem dX9_judges_0 : decode cX9_judges 0 = .ok (.iconst 0, 1) := by decide +kernel
theorem dX9_judges_1 : decode cX9_judges 1 = .ok (.istore_n 1, 1) := by decide +kernel
theorem dX9_judges_2 : decode cX9_judges 2 = .ok (.iload_n 1, 1) := by decide +kernel
theorem dX9_judges_3 : decode cX9_judges 3 = .ok (.bipush 96, 2) := by decide +kernel
theorem dX9_judges_5 : decode cX9_judges 5 = .ok (.aload_n 0, 1) := by decide +kernel
theorem dX9_judges_6 : decode cX9_judges 6 = .ok (.getfield 7, 3) := by decide +kernel
theorem dX9_judges_9 : decode cX9_judges 9 = .ok (.iconst 1, 1) := by decide +kernel
theorem dX9_judges_10 : decode cX9_judges 10 = .ok (.iaload, 1) := by decide +kernel
theorem dX9_judges_11 : decode cX9_judges 11 = .ok (.imul, 1) := by decide +kernel
theorem dX9_judges_12 : decode cX9_judges 12 = .ok (.if_icmp .ge 16, 3) := by decide +kernel
theorem dX9_judges_15 : decode cX9_judges 15 = .ok (.aload_n 0, 1) := by decide +kernel
theorem dX9_judges_16 : decode cX9_judges 16 = .ok (.getfield 77, 3) := by decide +kernel
theorem dX9_judges_19 : decode cX9_judges 19 = .ok (.iload_n 1, 1) := by decide +kernel
theorem dX9_judges_20 : decode cX9_judges 20 = .ok (.iconst 0, 1) := by decide +kernel
theorem dX9_judges_21 : decode cX9_judges 21 = .ok (.bastore, 1) := by decide +kernel
theorem dX9_judges_22 : decode cX9_judges 22 = .ok (.iinc 1 1, 3) := by decide +kernel
theorem dX9_judges_25 : decode cX9_judges 25 = .ok (.goto (-23), 3) := by decide +kernel
theorem dX9_judges_28 : decode cX9_judges 28 = .ok (.iconst 0, 1) := by decide +kernel
theorem dX9_judges_29 : decode cX9_judges 29 = .ok (.istore_n 1, 1) := by decide +kernel
theorem dX9_judges_30 : decode cX9_judges 30 = .ok (.iload_n 1, 1) := by decide +kernel
theorem dX9_judges_31 : decode cX9_judges 31 = .ok (.aload_n 0, 1) := by decide +kernel
theorem dX9_judges_32 : decode cX9_judges 32 = .ok (.getfield 157, 3) := by decide +kernel
theorem dX9_judges_35 : decode cX9_judges 35 = .ok (.if_icmp .ge 43, 3) := by decide +kernel
theorem dX9_judges_38 : decode cX9_judges 38 = .ok (.aload_n 0, 1) := by decide +kernel
theorem dX9_judges_39 : decode cX9_judges 39 = .ok (.getfield 68, 3) := by decide +kernel
theorem dX9_judges_42 : decode cX9_judges 42 = .ok (.iload_n 1, 1) := by decide +kernel
theorem dX9_judges_43 : decode cX9_judges 43 = .ok (.iaload, 1) := by decide +kernel
theorem dX9_judges_44 : decode cX9_judges 44 = .ok (.istore_n 2, 1) := by decide +kernel
theorem dX9_judges_45 : decode cX9_judges 45 = .ok (.aload_n 0, 1) := by decide +kernel
theorem dX9_judges_46 : decode cX9_judges 46 = .ok (.getfield 74, 3) := by decide +kernel
theorem dX9_judges_49 : decode cX9_judges 49 = .ok (.iload_n 2, 1) := by decide +kernel
theorem dX9_judges_50 : decode cX9_judges 50 = .ok (.aload_n 0, 1) := by decide +kernel
theorem dX9_judges_51 : decode cX9_judges 51 = .ok (.iload_n 2, 1) := by decide +kernel
theorem dX9_judges_52 : decode cX9_judges 52 = .ok (.invokevirtual 214, 3) := by decide +kernel
theorem dX9_judges_55 : decode cX9_judges 55 = .ok (.iastore, 1) := by decide +kernel
theorem dX9_judges_56 : decode cX9_judges 56 = .ok (.aload_n 0, 1) := by decide +kernel
theorem dX9_judges_57 : decode cX9_judges 57 = .ok (.getfield 74, 3) := by decide +kernel
theorem dX9_judges_60 : decode cX9_judges 60 = .ok (.iload_n 2, 1) := by decide +kernel
theorem dX9_judges_61 : decode cX9_judges 61 = .ok (.iaload, 1) := by decide +kernel
theorem dX9_judges_62 : decode cX9_judges 62 = .ok (.bipush (-4), 2) := by decide +kernel
theorem dX9_judges_64 : decode cX9_judges 64 = .ok (.if_icmp .eq 8, 3) := by decide +kernel
theorem dX9_judges_67 : decode cX9_judges 67 = .ok (.aload_n 0, 1) := by decide +kernel
theorem dX9_judges_68 : decode cX9_judges 68 = .ok (.iload_n 2, 1) := by decide +kernel
theorem dX9_judges_69 : decode cX9_judges 69 = .ok (.invokevirtual 217, 3) := by decide +kernel
theorem dX9_judges_72 : decode cX9_judges 72 = .ok (.iinc 1 1, 3) := by decide +kernel
theorem dX9_judges_75 : decode cX9_judges 75 = .ok (.goto (-45), 3) := by decide +kernel
theorem dX9_judges_78 : decode cX9_judges 78 = .ok (.iconst 0, 1) := by decide +kernel
theorem dX9_judges_79 : decode cX9_judges 79 = .ok (.istore_n 1, 1) := by decide +kernel
theorem dX9_judges_80 : decode cX9_judges 80 = .ok (.iload_n 1, 1) := by decide +kernel
theorem dX9_judges_81 : decode cX9_judges 81 = .ok (.aload_n 0, 1) := by decide +kernel
theorem dX9_judges_82 : decode cX9_judges 82 = .ok (.getfield 7, 3) := by decide +kernel
theorem dX9_judges_85 : decode cX9_judges 85 = .ok (.iconst 1, 1) := by decide +kernel
theorem dX9_judges_86 : decode cX9_judges 86 = .ok (.iaload, 1) := by decide +kernel
theorem dX9_judges_87 : decode cX9_judges 87 = .ok (.if_icmp .ge 14, 3) := by decide +kernel
theorem dX9_judges_90 : decode cX9_judges 90 = .ok (.aload_n 0, 1) := by decide +kernel
theorem dX9_judges_91 : decode cX9_judges 91 = .ok (.iload_n 1, 1) := by decide +kernel
theorem dX9_judges_92 : decode cX9_judges 92 = .ok (.invokevirtual 221, 3) := by decide +kernel
theorem dX9_judges_95 : decode cX9_judges 95 = .ok (.iinc 1 1, 3) := by decide +kernel
theorem dX9_judges_98 : decode cX9_judges 98 = .ok (.goto (-18), 3) := by decide +kernel
theorem dX9_judges_101 : decode cX9_judges 101 = .ok (.iconst 0, 1) := by decide +kernel
theorem dX9_judges_102 : decode cX9_judges 102 = .ok (.istore_n 1, 1) := by decide +kernel
theorem dX9_judges_103 : decode cX9_judges 103 = .ok (.iload_n 1, 1) := by decide +kernel
theorem dX9_judges_104 : decode cX9_judges 104 = .ok (.aload_n 0, 1) := by decide +kernel
theorem dX9_judges_105 : decode cX9_judges 105 = .ok (.getfield 157, 3) := by decide +kernel
theorem dX9_judges_108 : decode cX9_judges 108 = .ok (.if_icmp .ge 30, 3) := by decide +kernel
theorem dX9_judges_111 : decode cX9_judges 111 = .ok (.aload_n 0, 1) := by decide +kernel
theorem dX9_judges_112 : decode cX9_judges 112 = .ok (.getfield 81, 3) := by decide +kernel
theorem dX9_judges_115 : decode cX9_judges 115 = .ok (.aload_n 0, 1) := by decide +kernel
theorem dX9_judges_116 : decode cX9_judges 116 = .ok (.getfield 68, 3) := by decide +kernel
theorem dX9_judges_119 : decode cX9_judges 119 = .ok (.iload_n 1, 1) := by decide +kernel
theorem dX9_judges_120 : decode cX9_judges 120 = .ok (.iaload, 1) := by decide +kernel
theorem dX9_judges_121 : decode cX9_judges 121 = .ok (.aload_n 0, 1) := by decide +kernel
theorem dX9_judges_122 : decode cX9_judges 122 = .ok (.aload_n 0, 1) := by decide +kernel
theorem dX9_judges_123 : decode cX9_judges 123 = .ok (.getfield 68, 3) := by decide +kernel
theorem dX9_judges_126 : decode cX9_judges 126 = .ok (.iload_n 1, 1) := by decide +kernel
theorem dX9_judges_127 : decode cX9_judges 127 = .ok (.iaload, 1) := by decide +kernel
theorem dX9_judges_128 : decode cX9_judges 128 = .ok (.invokevirtual 224, 3) := by decide +kernel
theorem dX9_judges_131 : decode cX9_judges 131 = .ok (.bastore, 1) := by decide +kernel
theorem dX9_judges_132 : decode cX9_judges 132 = .ok (.iinc 1 1, 3) := by decide +kernel
theorem dX9_judges_135 : decode cX9_judges 135 = .ok (.goto (-32), 3) := by decide +kernel
theorem dX9_judges_138 : decode cX9_judges 138 = .ok (.return_, 1) := by decide +kernel
theorem dX9_judgesNow_0 : decode cX9_judgesNow 0 = .ok (.aload_n 0, 1) := by decide +kernel
theorem dX9_judgesNow_1 : decode cX9_judgesNow 1 = .ok (.invokevirtual 151, 3) := by decide +kernel
theorem dX9_judgesNow_4 : decode cX9_judgesNow 4 = .ok (.iconst 0, 1) := by decide +kernel
theorem dX9_judgesNow_5 : decode cX9_judgesNow 5 = .ok (.istore_n 1, 1) := by decide +kernel
theorem dX9_judgesNow_6 : decode cX9_judgesNow 6 = .ok (.iload_n 1, 1) := by decide +kernel
theorem dX9_judgesNow_7 : decode cX9_judgesNow 7 = .ok (.aload_n 0, 1) := by decide +kernel
theorem dX9_judgesNow_8 : decode cX9_judgesNow 8 = .ok (.getfield 88, 3) := by decide +kernel
theorem dX9_judgesNow_11 : decode cX9_judgesNow 11 = .ok (.if_icmp .ge 25, 3) := by decide +kernel
theorem dX9_judgesNow_14 : decode cX9_judgesNow 14 = .ok (.aload_n 0, 1) := by decide +kernel
theorem dX9_judgesNow_15 : decode cX9_judgesNow 15 = .ok (.getfield 71, 3) := by decide +kernel
theorem dX9_judgesNow_18 : decode cX9_judgesNow 18 = .ok (.iload_n 1, 1) := by decide +kernel
theorem dX9_judgesNow_19 : decode cX9_judgesNow 19 = .ok (.aload_n 0, 1) := by decide +kernel
theorem dX9_judgesNow_20 : decode cX9_judgesNow 20 = .ok (.getfield 16, 3) := by decide +kernel
theorem dX9_judgesNow_23 : decode cX9_judgesNow 23 = .ok (.bipush 61, 2) := by decide +kernel
theorem dX9_judgesNow_25 : decode cX9_judgesNow 25 = .ok (.iload_n 1, 1) := by decide +kernel
theorem dX9_judgesNow_26 : decode cX9_judgesNow 26 = .ok (.iadd, 1) := by decide +kernel
theorem dX9_judgesNow_27 : decode cX9_judgesNow 27 = .ok (.laload, 1) := by decide +kernel
theorem dX9_judgesNow_28 : decode cX9_judgesNow 28 = .ok (.l2i, 1) := by decide +kernel
theorem dX9_judgesNow_29 : decode cX9_judgesNow 29 = .ok (.iastore, 1) := by decide +kernel
theorem dX9_judgesNow_30 : decode cX9_judgesNow 30 = .ok (.iinc 1 1, 3) := by decide +kernel
theorem dX9_judgesNow_33 : decode cX9_judgesNow 33 = .ok (.goto (-27), 3) := by decide +kernel
theorem dX9_judgesNow_36 : decode cX9_judgesNow 36 = .ok (.aload_n 0, 1) := by decide +kernel
theorem dX9_judgesNow_37 : decode cX9_judgesNow 37 = .ok (.invokevirtual 227, 3) := by decide +kernel
theorem dX9_judgesNow_40 : decode cX9_judgesNow 40 = .ok (.return_, 1) := by decide +kernel
theorem dX9_isLate_0 : decode cX9_isLate 0 = .ok (.aload_n 0, 1) := by decide +kernel
theorem dX9_isLate_1 : decode cX9_isLate 1 = .ok (.getfield 74, 3) := by decide +kernel
theorem dX9_isLate_4 : decode cX9_isLate 4 = .ok (.iload_n 1, 1) := by decide +kernel
theorem dX9_isLate_5 : decode cX9_isLate 5 = .ok (.iaload, 1) := by decide +kernel
theorem dX9_isLate_6 : decode cX9_isLate 6 = .ok (.bipush (-4), 2) := by decide +kernel
theorem dX9_isLate_8 : decode cX9_isLate 8 = .ok (.if_icmp .eq 21, 3) := by decide +kernel
theorem dX9_isLate_11 : decode cX9_isLate 11 = .ok (.aload_n 0, 1) := by decide +kernel
theorem dX9_isLate_12 : decode cX9_isLate 12 = .ok (.iload_n 1, 1) := by decide +kernel
theorem dX9_isLate_13 : decode cX9_isLate 13 = .ok (.invokevirtual 208, 3) := by decide +kernel
theorem dX9_isLate_16 : decode cX9_isLate 16 = .ok (.aload_n 0, 1) := by decide +kernel
theorem dX9_isLate_17 : decode cX9_isLate 17 = .ok (.getfield 47, 3) := by decide +kernel
theorem dX9_isLate_20 : decode cX9_isLate 20 = .ok (.iload_n 1, 1) := by decide +kernel
theorem dX9_isLate_21 : decode cX9_isLate 21 = .ok (.iaload, 1) := by decide +kernel
theorem dX9_isLate_22 : decode cX9_isLate 22 = .ok (.if_icmp .gt 7, 3) := by decide +kernel
theorem dX9_isLate_25 : decode cX9_isLate 25 = .ok (.iconst 1, 1) := by decide +kernel
theorem dX9_isLate_26 : decode cX9_isLate 26 = .ok (.goto 4, 3) := by decide +kernel
theorem dX9_isLate_29 : decode cX9_isLate 29 = .ok (.iconst 0, 1) := by decide +kernel
theorem dX9_isLate_30 : decode cX9_isLate 30 = .ok (.ireturn, 1) := by decide +kernel
theorem dX9_tellBlob_0 : decode cX9_tellBlob 0 = .ok (.iload_n 2, 1) := by decide +kernel
theorem dX9_tellBlob_1 : decode cX9_tellBlob 1 = .ok (.tableswitch 128 0 8 #[51, 58, 65, 72, 79, 86, 100, 107, 114], 51) := by decide +kernel
theorem dX9_tellBlob_52 : decode cX9_tellBlob 52 = .ok (.aload_n 0, 1) := by decide +kernel
theorem dX9_tellBlob_53 : decode cX9_tellBlob 53 = .ok (.getfield 44, 3) := by decide +kernel
theorem dX9_tellBlob_56 : decode cX9_tellBlob 56 = .ok (.iload_n 1, 1) := by decide +kernel
theorem dX9_tellBlob_57 : decode cX9_tellBlob 57 = .ok (.iaload, 1) := by decide +kernel
theorem dX9_tellBlob_58 : decode cX9_tellBlob 58 = .ok (.ireturn, 1) := by decide +kernel
theorem dX9_tellBlob_59 : decode cX9_tellBlob 59 = .ok (.aload_n 0, 1) := by decide +kernel
theorem dX9_tellBlob_60 : decode cX9_tellBlob 60 = .ok (.getfield 47, 3) := by decide +kernel
theorem dX9_tellBlob_63 : decode cX9_tellBlob 63 = .ok (.iload_n 1, 1) := by decide +kernel
theorem dX9_tellBlob_64 : decode cX9_tellBlob 64 = .ok (.iaload, 1) := by decide +kernel
theorem dX9_tellBlob_65 : decode cX9_tellBlob 65 = .ok (.ireturn, 1) := by decide +kernel
theorem dX9_tellBlob_66 : decode cX9_tellBlob 66 = .ok (.aload_n 0, 1) := by decide +kernel
theorem dX9_tellBlob_67 : decode cX9_tellBlob 67 = .ok (.getfield 53, 3) := by decide +kernel
theorem dX9_tellBlob_70 : decode cX9_tellBlob 70 = .ok (.iload_n 1, 1) := by decide +kernel
theorem dX9_tellBlob_71 : decode cX9_tellBlob 71 = .ok (.iaload, 1) := by decide +kernel
theorem dX9_tellBlob_72 : decode cX9_tellBlob 72 = .ok (.ireturn, 1) := by decide +kernel
theorem dX9_tellBlob_73 : decode cX9_tellBlob 73 = .ok (.aload_n 0, 1) := by decide +kernel
theorem dX9_tellBlob_74 : decode cX9_tellBlob 74 = .ok (.getfield 56, 3) := by decide +kernel
theorem dX9_tellBlob_77 : decode cX9_tellBlob 77 = .ok (.iload_n 1, 1) := by decide +kernel
theorem dX9_tellBlob_78 : decode cX9_tellBlob 78 = .ok (.iaload, 1) := by decide +kernel
theorem dX9_tellBlob_79 : decode cX9_tellBlob 79 = .ok (.ireturn, 1) := by decide +kernel
theorem dX9_tellBlob_80 : decode cX9_tellBlob 80 = .ok (.aload_n 0, 1) := by decide +kernel
theorem dX9_tellBlob_81 : decode cX9_tellBlob 81 = .ok (.getfield 59, 3) := by decide +kernel
theorem dX9_tellBlob_84 : decode cX9_tellBlob 84 = .ok (.iload_n 1, 1) := by decide +kernel
theorem dX9_tellBlob_85 : decode cX9_tellBlob 85 = .ok (.iaload, 1) := by decide +kernel
theorem dX9_tellBlob_86 : decode cX9_tellBlob 86 = .ok (.ireturn, 1) := by decide +kernel
theorem dX9_tellBlob_87 : decode cX9_tellBlob 87 = .ok (.aload_n 0, 1) := by decide +kernel
theorem dX9_tellBlob_88 : decode cX9_tellBlob 88 = .ok (.getfield 62, 3) := by decide +kernel
theorem dX9_tellBlob_91 : decode cX9_tellBlob 91 = .ok (.iload_n 1, 1) := by decide +kernel
theorem dX9_tellBlob_92 : decode cX9_tellBlob 92 = .ok (.iaload, 1) := by decide +kernel
theorem dX9_tellBlob_93 : decode cX9_tellBlob 93 = .ok (.aload_n 0, 1) := by decide +kernel
theorem dX9_tellBlob_94 : decode cX9_tellBlob 94 = .ok (.getfield 59, 3) := by decide +kernel
theorem dX9_tellBlob_97 : decode cX9_tellBlob 97 = .ok (.iload_n 1, 1) := by decide +kernel
theorem dX9_tellBlob_98 : decode cX9_tellBlob 98 = .ok (.iaload, 1) := by decide +kernel
theorem dX9_tellBlob_99 : decode cX9_tellBlob 99 = .ok (.idiv, 1) := by decide +kernel
theorem dX9_tellBlob_100 : decode cX9_tellBlob 100 = .ok (.ireturn, 1) := by decide +kernel
theorem dX9_tellBlob_101 : decode cX9_tellBlob 101 = .ok (.aload_n 0, 1) := by decide +kernel
theorem dX9_tellBlob_102 : decode cX9_tellBlob 102 = .ok (.getfield 65, 3) := by decide +kernel
theorem dX9_tellBlob_105 : decode cX9_tellBlob 105 = .ok (.iload_n 1, 1) := by decide +kernel
theorem dX9_tellBlob_106 : decode cX9_tellBlob 106 = .ok (.iaload, 1) := by decide +kernel
theorem dX9_tellBlob_107 : decode cX9_tellBlob 107 = .ok (.ireturn, 1) := by decide +kernel
theorem dX9_tellBlob_108 : decode cX9_tellBlob 108 = .ok (.aload_n 0, 1) := by decide +kernel
theorem dX9_tellBlob_109 : decode cX9_tellBlob 109 = .ok (.getfield 74, 3) := by decide +kernel
theorem dX9_tellBlob_112 : decode cX9_tellBlob 112 = .ok (.iload_n 1, 1) := by decide +kernel
theorem dX9_tellBlob_113 : decode cX9_tellBlob 113 = .ok (.iaload, 1) := by decide +kernel
theorem dX9_tellBlob_114 : decode cX9_tellBlob 114 = .ok (.ireturn, 1) := by decide +kernel
theorem dX9_tellBlob_115 : decode cX9_tellBlob 115 = .ok (.aload_n 0, 1) := by decide +kernel
theorem dX9_tellBlob_116 : decode cX9_tellBlob 116 = .ok (.iload_n 1, 1) := by decide +kernel
theorem dX9_tellBlob_117 : decode cX9_tellBlob 117 = .ok (.invokevirtual 230, 3) := by decide +kernel
theorem dX9_tellBlob_120 : decode cX9_tellBlob 120 = .ok (.ifCond .eq 7, 3) := by decide +kernel
theorem dX9_tellBlob_123 : decode cX9_tellBlob 123 = .ok (.iconst 1, 1) := by decide +kernel
theorem dX9_tellBlob_124 : decode cX9_tellBlob 124 = .ok (.goto 4, 3) := by decide +kernel
theorem dX9_tellBlob_127 : decode cX9_tellBlob 127 = .ok (.iconst 0, 1) := by decide +kernel
theorem dX9_tellBlob_128 : decode cX9_tellBlob 128 = .ok (.ireturn, 1) := by decide +kernel
theorem dX9_tellBlob_129 : decode cX9_tellBlob 129 = .ok (.aload_n 0, 1) := by decide +kernel
theorem dX9_tellBlob_130 : decode cX9_tellBlob 130 = .ok (.getfield 81, 3) := by decide +kernel
theorem dX9_tellBlob_133 : decode cX9_tellBlob 133 = .ok (.iload_n 1, 1) := by decide +kernel
theorem dX9_tellBlob_134 : decode cX9_tellBlob 134 = .ok (.baload, 1) := by decide +kernel
theorem dX9_tellBlob_135 : decode cX9_tellBlob 135 = .ok (.ifCond .eq 7, 3) := by decide +kernel
theorem dX9_tellBlob_138 : decode cX9_tellBlob 138 = .ok (.iconst 1, 1) := by decide +kernel
theorem dX9_tellBlob_139 : decode cX9_tellBlob 139 = .ok (.goto 4, 3) := by decide +kernel
theorem dX9_tellBlob_142 : decode cX9_tellBlob 142 = .ok (.iconst 0, 1) := by decide +kernel
theorem dX9_tellBlob_143 : decode cX9_tellBlob 143 = .ok (.ireturn, 1) := by decide +kernel
theorem dX9_blob_0 : decode cX9_blob 0 = .ok (.aload_n 0, 1) := by decide +kernel
theorem dX9_blob_1 : decode cX9_blob 1 = .ok (.invokevirtual 233, 3) := by decide +kernel
theorem dX9_blob_4 : decode cX9_blob 4 = .ok (.iload_n 1, 1) := by decide +kernel
theorem dX9_blob_5 : decode cX9_blob 5 = .ok (.i2l, 1) := by decide +kernel
theorem dX9_blob_6 : decode cX9_blob 6 = .ok (.lconst 0, 1) := by decide +kernel
theorem dX9_blob_7 : decode cX9_blob 7 = .ok (.aload_n 0, 1) := by decide +kernel
theorem dX9_blob_8 : decode cX9_blob 8 = .ok (.getfield 157, 3) := by decide +kernel
theorem dX9_blob_11 : decode cX9_blob 11 = .ok (.iconst 1, 1) := by decide +kernel
theorem dX9_blob_12 : decode cX9_blob 12 = .ok (.isub, 1) := by decide +kernel
theorem dX9_blob_13 : decode cX9_blob 13 = .ok (.i2l, 1) := by decide +kernel
theorem dX9_blob_14 : decode cX9_blob 14 = .ok (.invokestatic 106, 3) := by decide +kernel
theorem dX9_blob_17 : decode cX9_blob 17 = .ok (.ifCond .eq 29, 3) := by decide +kernel
theorem dX9_blob_20 : decode cX9_blob 20 = .ok (.iload_n 2, 1) := by decide +kernel
theorem dX9_blob_21 : decode cX9_blob 21 = .ok (.i2l, 1) := by decide +kernel
theorem dX9_blob_22 : decode cX9_blob 22 = .ok (.lconst 0, 1) := by decide +kernel
theorem dX9_blob_23 : decode cX9_blob 23 = .ok (.ldc2_w 236, 3) := by decide +kernel
theorem dX9_blob_26 : decode cX9_blob 26 = .ok (.invokestatic 106, 3) := by decide +kernel
theorem dX9_blob_29 : decode cX9_blob 29 = .ok (.ifCond .eq 17, 3) := by decide +kernel
theorem dX9_blob_32 : decode cX9_blob 32 = .ok (.aload_n 0, 1) := by decide +kernel
theorem dX9_blob_33 : decode cX9_blob 33 = .ok (.aload_n 0, 1) := by decide +kernel
theorem dX9_blob_34 : decode cX9_blob 34 = .ok (.getfield 68, 3) := by decide +kernel
theorem dX9_blob_37 : decode cX9_blob 37 = .ok (.iload_n 1, 1) := by decide +kernel
theorem dX9_blob_38 : decode cX9_blob 38 = .ok (.iaload, 1) := by decide +kernel
theorem dX9_blob_39 : decode cX9_blob 39 = .ok (.iload_n 2, 1) := by decide +kernel
theorem dX9_blob_40 : decode cX9_blob 40 = .ok (.invokevirtual 238, 3) := by decide +kernel
theorem dX9_blob_43 : decode cX9_blob 43 = .ok (.goto 4, 3) := by decide +kernel
theorem dX9_blob_46 : decode cX9_blob 46 = .ok (.iconst (-1), 1) := by decide +kernel
theorem dX9_blob_47 : decode cX9_blob 47 = .ok (.ireturn, 1) := by decide +kernel
theorem dX9_open_0 : decode cX9_open 0 = .ok (.iload_n 1, 1) := by decide +kernel
theorem dX9_open_1 : decode cX9_open 1 = .ok (.i2l, 1) := by decide +kernel
theorem dX9_open_2 : decode cX9_open 2 = .ok (.lconst 0, 1) := by decide +kernel
theorem dX9_open_3 : decode cX9_open 3 = .ok (.lconst 1, 1) := by decide +kernel
theorem dX9_open_4 : decode cX9_open 4 = .ok (.invokestatic 106, 3) := by decide +kernel
theorem dX9_open_7 : decode cX9_open 7 = .ok (.ifCond .ne 5, 3) := by decide +kernel
theorem dX9_open_10 : decode cX9_open 10 = .ok (.iconst (-1), 1) := by decide +kernel
theorem dX9_open_11 : decode cX9_open 11 = .ok (.ireturn, 1) := by decide +kernel
theorem dX9_open_12 : decode cX9_open 12 = .ok (.aload_n 0, 1) := by decide +kernel
theorem dX9_open_13 : decode cX9_open 13 = .ok (.invokevirtual 151, 3) := by decide +kernel
theorem dX9_open_16 : decode cX9_open 16 = .ok (.iload_n 1, 1) := by decide +kernel
theorem dX9_open_17 : decode cX9_open 17 = .ok (.ifCond .ne 15, 3) := by decide +kernel
theorem dX9_open_20 : decode cX9_open 20 = .ok (.aload_n 0, 1) := by decide +kernel
theorem dX9_open_21 : decode cX9_open 21 = .ok (.getfield 176, 3) := by decide +kernel
theorem dX9_open_24 : decode cX9_open 24 = .ok (.aload_n 0, 1) := by decide +kernel
theorem dX9_open_25 : decode cX9_open 25 = .ok (.getfield 157, 3) := by decide +kernel
theorem dX9_open_28 : decode cX9_open 28 = .ok (.isub, 1) := by decide +kernel
theorem dX9_open_29 : decode cX9_open 29 = .ok (.goto 7, 3) := by decide +kernel
theorem dX9_open_32 : decode cX9_open 32 = .ok (.aload_n 0, 1) := by decide +kernel
theorem dX9_open_33 : decode cX9_open 33 = .ok (.getfield 186, 3) := by decide +kernel
theorem dX9_open_36 : decode cX9_open 36 = .ok (.ireturn, 1) := by decide +kernel
theorem dX9_isValve_0 : decode cX9_isValve 0 = .ok (.iload_n 1, 1) := by decide +kernel
theorem dX9_isValve_1 : decode cX9_isValve 1 = .ok (.i2l, 1) := by decide +kernel
theorem dX9_isValve_2 : decode cX9_isValve 2 = .ok (.lconst 0, 1) := by decide +kernel
theorem dX9_isValve_3 : decode cX9_isValve 3 = .ok (.aload_n 0, 1) := by decide +kernel
theorem dX9_isValve_4 : decode cX9_isValve 4 = .ok (.getfield 7, 3) := by decide +kernel
theorem dX9_isValve_7 : decode cX9_isValve 7 = .ok (.iconst 1, 1) := by decide +kernel
theorem dX9_isValve_8 : decode cX9_isValve 8 = .ok (.iaload, 1) := by decide +kernel
theorem dX9_isValve_9 : decode cX9_isValve 9 = .ok (.iconst 1, 1) := by decide +kernel
theorem dX9_isValve_10 : decode cX9_isValve 10 = .ok (.isub, 1) := by decide +kernel
theorem dX9_isValve_11 : decode cX9_isValve 11 = .ok (.i2l, 1) := by decide +kernel
theorem dX9_isValve_12 : decode cX9_isValve 12 = .ok (.invokestatic 106, 3) := by decide +kernel
theorem dX9_isValve_15 : decode cX9_isValve 15 = .ok (.ireturn, 1) := by decide +kernel
theorem dX9_opening_0 : decode cX9_opening 0 = .ok (.aload_n 0, 1) := by decide +kernel
theorem dX9_opening_1 : decode cX9_opening 1 = .ok (.iload_n 1, 1) := by decide +kernel
theorem dX9_opening_2 : decode cX9_opening 2 = .ok (.invokevirtual 241, 3) := by decide +kernel
theorem dX9_opening_5 : decode cX9_opening 5 = .ok (.ifCond .eq 18, 3) := by decide +kernel
theorem dX9_opening_8 : decode cX9_opening 8 = .ok (.iload_n 2, 1) := by decide +kernel
theorem dX9_opening_9 : decode cX9_opening 9 = .ok (.iconst (-1), 1) := by decide +kernel
theorem dX9_opening_10 : decode cX9_opening 10 = .ok (.if_icmp .lt 13, 3) := by decide +kernel
theorem dX9_opening_13 : decode cX9_opening 13 = .ok (.iload_n 3, 1) := by decide +kernel
theorem dX9_opening_14 : decode cX9_opening 14 = .ok (.i2l, 1) := by decide +kernel
theorem dX9_opening_15 : decode cX9_opening 15 = .ok (.lconst 0, 1) := by decide +kernel
theorem dX9_opening_16 : decode cX9_opening 16 = .ok (.lconst 1, 1) := by decide +kernel
theorem dX9_opening_17 : decode cX9_opening 17 = .ok (.invokestatic 106, 3) := by decide +kernel
theorem dX9_opening_20 : decode cX9_opening 20 = .ok (.ifCond .ne 5, 3) := by decide +kernel
theorem dX9_opening_23 : decode cX9_opening 23 = .ok (.iconst (-1), 1) := by decide +kernel
theorem dX9_opening_24 : decode cX9_opening 24 = .ok (.ireturn, 1) := by decide +kernel
theorem dX9_opening_25 : decode cX9_opening 25 = .ok (.aload_n 0, 1) := by decide +kernel
theorem dX9_opening_26 : decode cX9_opening 26 = .ok (.invokevirtual 233, 3) := by decide +kernel
theorem dX9_opening_29 : decode cX9_opening 29 = .ok (.iconst 0, 1) := by decide +kernel
theorem dX9_opening_30 : decode cX9_opening 30 = .ok (.istore 4, 2) := by decide +kernel
theorem dX9_opening_32 : decode cX9_opening 32 = .ok (.iconst 0, 1) := by decide +kernel
theorem dX9_opening_33 : decode cX9_opening 33 = .ok (.istore 5, 2) := by decide +kernel
theorem dX9_opening_35 : decode cX9_opening 35 = .ok (.iload 5, 2) := by decide +kernel
theorem dX9_opening_37 : decode cX9_opening 37 = .ok (.bipush 96, 2) := by decide +kernel
theorem dX9_opening_39 : decode cX9_opening 39 = .ok (.if_icmp .ge 140, 3) := by decide +kernel
theorem dX9_opening_42 : decode cX9_opening 42 = .ok (.aload_n 0, 1) := by decide +kernel
theorem dX9_opening_43 : decode cX9_opening 43 = .ok (.getfield 77, 3) := by decide +kernel
theorem dX9_opening_46 : decode cX9_opening 46 = .ok (.bipush 96, 2) := by decide +kernel
theorem dX9_opening_48 : decode cX9_opening 48 = .ok (.iload_n 1, 1) := by decide +kernel
theorem dX9_opening_49 : decode cX9_opening 49 = .ok (.imul, 1) := by decide +kernel
theorem dX9_opening_50 : decode cX9_opening 50 = .ok (.iload 5, 2) := by decide +kernel
theorem dX9_opening_52 : decode cX9_opening 52 = .ok (.iadd, 1) := by decide +kernel
theorem dX9_opening_53 : decode cX9_opening 53 = .ok (.baload, 1) := by decide +kernel
theorem dX9_opening_54 : decode cX9_opening 54 = .ok (.ifCond .eq 29, 3) := by decide +kernel
theorem dX9_opening_57 : decode cX9_opening 57 = .ok (.iload 5, 2) := by decide +kernel
theorem dX9_opening_59 : decode cX9_opening 59 = .ok (.ifCond .eq 20, 3) := by decide +kernel
theorem dX9_opening_62 : decode cX9_opening 62 = .ok (.aload_n 0, 1) := by decide +kernel
theorem dX9_opening_63 : decode cX9_opening 63 = .ok (.getfield 77, 3) := by decide +kernel
theorem dX9_opening_66 : decode cX9_opening 66 = .ok (.bipush 96, 2) := by decide +kernel
theorem dX9_opening_68 : decode cX9_opening 68 = .ok (.iload_n 1, 1) := by decide +kernel
theorem dX9_opening_69 : decode cX9_opening 69 = .ok (.imul, 1) := by decide +kernel
theorem dX9_opening_70 : decode cX9_opening 70 = .ok (.iload 5, 2) := by decide +kernel
theorem dX9_opening_72 : decode cX9_opening 72 = .ok (.iadd, 1) := by decide +kernel
theorem dX9_opening_73 : decode cX9_opening 73 = .ok (.iconst 1, 1) := by decide +kernel
theorem dX9_opening_74 : decode cX9_opening 74 = .ok (.isub, 1) := by decide +kernel
theorem dX9_opening_75 : decode cX9_opening 75 = .ok (.baload, 1) := by decide +kernel
theorem dX9_opening_76 : decode cX9_opening 76 = .ok (.ifCond .ne 7, 3) := by decide +kernel
theorem dX9_opening_79 : decode cX9_opening 79 = .ok (.iconst 1, 1) := by decide +kernel
theorem dX9_opening_80 : decode cX9_opening 80 = .ok (.goto 4, 3) := by decide +kernel
theorem dX9_opening_83 : decode cX9_opening 83 = .ok (.iconst 0, 1) := by decide +kernel
theorem dX9_opening_84 : decode cX9_opening 84 = .ok (.istore 6, 2) := by decide +kernel
theorem dX9_opening_86 : decode cX9_opening 86 = .ok (.aload_n 0, 1) := by decide +kernel
theorem dX9_opening_87 : decode cX9_opening 87 = .ok (.getfield 77, 3) := by decide +kernel
theorem dX9_opening_90 : decode cX9_opening 90 = .ok (.bipush 96, 2) := by decide +kernel
theorem dX9_opening_92 : decode cX9_opening 92 = .ok (.iload_n 1, 1) := by decide +kernel
theorem dX9_opening_93 : decode cX9_opening 93 = .ok (.imul, 1) := by decide +kernel
theorem dX9_opening_94 : decode cX9_opening 94 = .ok (.iload 5, 2) := by decide +kernel
theorem dX9_opening_96 : decode cX9_opening 96 = .ok (.iadd, 1) := by decide +kernel
theorem dX9_opening_97 : decode cX9_opening 97 = .ok (.baload, 1) := by decide +kernel
theorem dX9_opening_98 : decode cX9_opening 98 = .ok (.ifCond .eq 31, 3) := by decide +kernel
theorem dX9_opening_101 : decode cX9_opening 101 = .ok (.iload 5, 2) := by decide +kernel
theorem dX9_opening_103 : decode cX9_opening 103 = .ok (.bipush 95, 2) := by decide +kernel
theorem dX9_opening_105 : decode cX9_opening 105 = .ok (.if_icmp .eq 20, 3) := by decide +kernel
theorem dX9_opening_108 : decode cX9_opening 108 = .ok (.aload_n 0, 1) := by decide +kernel
theorem dX9_opening_109 : decode cX9_opening 109 = .ok (.getfield 77, 3) := by decide +kernel
theorem dX9_opening_112 : decode cX9_opening 112 = .ok (.bipush 96, 2) := by decide +kernel
theorem dX9_opening_114 : decode cX9_opening 114 = .ok (.iload_n 1, 1) := by decide +kernel
theorem dX9_opening_115 : decode cX9_opening 115 = .ok (.imul, 1) := by decide +kernel
theorem dX9_opening_116 : decode cX9_opening 116 = .ok (.iload 5, 2) := by decide +kernel
theorem dX9_opening_118 : decode cX9_opening 118 = .ok (.iadd, 1) := by decide +kernel
theorem dX9_opening_119 : decode cX9_opening 119 = .ok (.iconst 1, 1) := by decide +kernel
theorem dX9_opening_120 : decode cX9_opening 120 = .ok (.iadd, 1) := by decide +kernel
theorem dX9_opening_121 : decode cX9_opening 121 = .ok (.baload, 1) := by decide +kernel
theorem dX9_opening_122 : decode cX9_opening 122 = .ok (.ifCond .ne 7, 3) := by decide +kernel
theorem dX9_opening_125 : decode cX9_opening 125 = .ok (.iconst 1, 1) := by decide +kernel
theorem dX9_opening_126 : decode cX9_opening 126 = .ok (.goto 4, 3) := by decide +kernel
theorem dX9_opening_129 : decode cX9_opening 129 = .ok (.iconst 0, 1) := by decide +kernel
theorem dX9_opening_130 : decode cX9_opening 130 = .ok (.istore 7, 2) := by decide +kernel
theorem dX9_opening_132 : decode cX9_opening 132 = .ok (.iload 4, 2) := by decide +kernel
theorem dX9_opening_134 : decode cX9_opening 134 = .ok (.iload_n 2, 1) := by decide +kernel
theorem dX9_opening_135 : decode cX9_opening 135 = .ok (.if_icmp .ne 23, 3) := by decide +kernel
theorem dX9_opening_138 : decode cX9_opening 138 = .ok (.iload_n 3, 1) := by decide +kernel
theorem dX9_opening_139 : decode cX9_opening 139 = .ok (.ifCond .ne 11, 3) := by decide +kernel
theorem dX9_opening_142 : decode cX9_opening 142 = .ok (.iload 6, 2) := by decide +kernel
theorem dX9_opening_144 : decode cX9_opening 144 = .ok (.ifCond .eq 14, 3) := by decide +kernel
theorem dX9_opening_147 : decode cX9_opening 147 = .ok (.goto 8, 3) := by decide +kernel
theorem dX9_opening_150 : decode cX9_opening 150 = .ok (.iload 7, 2) := by decide +kernel
theorem dX9_opening_152 : decode cX9_opening 152 = .ok (.ifCond .eq 6, 3) := by decide +kernel
theorem dX9_opening_155 : decode cX9_opening 155 = .ok (.iload 5, 2) := by decide +kernel
theorem dX9_opening_157 : decode cX9_opening 157 = .ok (.ireturn, 1) := by decide +kernel
theorem dX9_opening_158 : decode cX9_opening 158 = .ok (.iload 4, 2) := by decide +kernel
theorem dX9_opening_160 : decode cX9_opening 160 = .ok (.iload 7, 2) := by decide +kernel
theorem dX9_opening_162 : decode cX9_opening 162 = .ok (.ifCond .eq 7, 3) := by decide +kernel
theorem dX9_opening_165 : decode cX9_opening 165 = .ok (.iconst 1, 1) := by decide +kernel
theorem dX9_opening_166 : decode cX9_opening 166 = .ok (.goto 4, 3) := by decide +kernel
theorem dX9_opening_169 : decode cX9_opening 169 = .ok (.iconst 0, 1) := by decide +kernel
theorem dX9_opening_170 : decode cX9_opening 170 = .ok (.iadd, 1) := by decide +kernel
theorem dX9_opening_171 : decode cX9_opening 171 = .ok (.istore 4, 2) := by decide +kernel
theorem dX9_opening_173 : decode cX9_opening 173 = .ok (.iinc 5 1, 3) := by decide +kernel
theorem dX9_opening_176 : decode cX9_opening 176 = .ok (.goto (-141), 3) := by decide +kernel
theorem dX9_opening_179 : decode cX9_opening 179 = .ok (.iload_n 2, 1) := by decide +kernel
theorem dX9_opening_180 : decode cX9_opening 180 = .ok (.iconst (-1), 1) := by decide +kernel
theorem dX9_opening_181 : decode cX9_opening 181 = .ok (.if_icmp .ne 8, 3) := by decide +kernel
theorem dX9_opening_184 : decode cX9_opening 184 = .ok (.iload 4, 2) := by decide +kernel
theorem dX9_opening_186 : decode cX9_opening 186 = .ok (.goto 5, 3) := by decide +kernel
theorem dX9_opening_189 : decode cX9_opening 189 = .ok (.bipush (-4), 2) := by decide +kernel
theorem dX9_opening_191 : decode cX9_opening 191 = .ok (.ireturn, 1) := by decide +kernel
theorem dX9_air_0 : decode cX9_air 0 = .ok (.aload_n 0, 1) := by decide +kernel
theorem dX9_air_1 : decode cX9_air 1 = .ok (.iload_n 1, 1) := by decide +kernel
theorem dX9_air_2 : decode cX9_air 2 = .ok (.invokevirtual 241, 3) := by decide +kernel
theorem dX9_air_5 : decode cX9_air 5 = .ok (.ifCond .ne 5, 3) := by decide +kernel
theorem dX9_air_8 : decode cX9_air 8 = .ok (.iconst (-1), 1) := by decide +kernel
theorem dX9_air_9 : decode cX9_air 9 = .ok (.ireturn, 1) := by decide +kernel
theorem dX9_air_10 : decode cX9_air 10 = .ok (.aload_n 0, 1) := by decide +kernel
theorem dX9_air_11 : decode cX9_air 11 = .ok (.invokevirtual 233, 3) := by decide +kernel
theorem dX9_air_14 : decode cX9_air 14 = .ok (.iconst 0, 1) := by decide +kernel
theorem dX9_air_15 : decode cX9_air 15 = .ok (.istore_n 2, 1) := by decide +kernel
theorem dX9_air_16 : decode cX9_air 16 = .ok (.iconst 0, 1) := by decide +kernel
theorem dX9_air_17 : decode cX9_air 17 = .ok (.istore_n 3, 1) := by decide +kernel
theorem dX9_air_18 : decode cX9_air 18 = .ok (.iload_n 3, 1) := by decide +kernel
theorem dX9_air_19 : decode cX9_air 19 = .ok (.bipush 96, 2) := by decide +kernel
theorem dX9_air_21 : decode cX9_air 21 = .ok (.if_icmp .ge 31, 3) := by decide +kernel
theorem dX9_air_24 : decode cX9_air 24 = .ok (.iload_n 2, 1) := by decide +kernel
theorem dX9_air_25 : decode cX9_air 25 = .ok (.aload_n 0, 1) := by decide +kernel
theorem dX9_air_26 : decode cX9_air 26 = .ok (.getfield 77, 3) := by decide +kernel
theorem dX9_air_29 : decode cX9_air 29 = .ok (.bipush 96, 2) := by decide +kernel
theorem dX9_air_31 : decode cX9_air 31 = .ok (.iload_n 1, 1) := by decide +kernel
theorem dX9_air_32 : decode cX9_air 32 = .ok (.imul, 1) := by decide +kernel
theorem dX9_air_33 : decode cX9_air 33 = .ok (.iload_n 3, 1) := by decide +kernel
theorem dX9_air_34 : decode cX9_air 34 = .ok (.iadd, 1) := by decide +kernel
theorem dX9_air_35 : decode cX9_air 35 = .ok (.baload, 1) := by decide +kernel
theorem dX9_air_36 : decode cX9_air 36 = .ok (.ifCond .eq 7, 3) := by decide +kernel
theorem dX9_air_39 : decode cX9_air 39 = .ok (.iconst 1, 1) := by decide +kernel
theorem dX9_air_40 : decode cX9_air 40 = .ok (.goto 4, 3) := by decide +kernel
theorem dX9_air_43 : decode cX9_air 43 = .ok (.iconst 0, 1) := by decide +kernel
theorem dX9_air_44 : decode cX9_air 44 = .ok (.iadd, 1) := by decide +kernel
theorem dX9_air_45 : decode cX9_air 45 = .ok (.istore_n 2, 1) := by decide +kernel
theorem dX9_air_46 : decode cX9_air 46 = .ok (.iinc 3 1, 3) := by decide +kernel
theorem dX9_air_49 : decode cX9_air 49 = .ok (.goto (-31), 3) := by decide +kernel
theorem dX9_air_52 : decode cX9_air 52 = .ok (.iload_n 2, 1) := by decide +kernel
theorem dX9_air_53 : decode cX9_air 53 = .ok (.ireturn, 1) := by decide +kernel
theorem dX9_gained_0 : decode cX9_gained 0 = .ok (.iconst 0, 1) := by decide +kernel
theorem dX9_gained_1 : decode cX9_gained 1 = .ok (.istore_n 1, 1) := by decide +kernel
theorem dX9_gained_2 : decode cX9_gained 2 = .ok (.iconst 0, 1) := by decide +kernel
theorem dX9_gained_3 : decode cX9_gained 3 = .ok (.istore_n 2, 1) := by decide +kernel
theorem dX9_gained_4 : decode cX9_gained 4 = .ok (.iload_n 2, 1) := by decide +kernel
theorem dX9_gained_5 : decode cX9_gained 5 = .ok (.aload_n 0, 1) := by decide +kernel
theorem dX9_gained_6 : decode cX9_gained 6 = .ok (.getfield 157, 3) := by decide +kernel
theorem dX9_gained_9 : decode cX9_gained 9 = .ok (.if_icmp .ge 63, 3) := by decide +kernel
theorem dX9_gained_12 : decode cX9_gained 12 = .ok (.aload_n 0, 1) := by decide +kernel
theorem dX9_gained_13 : decode cX9_gained 13 = .ok (.getfield 68, 3) := by decide +kernel
theorem dX9_gained_16 : decode cX9_gained 16 = .ok (.iload_n 2, 1) := by decide +kernel
theorem dX9_gained_17 : decode cX9_gained 17 = .ok (.iaload, 1) := by decide +kernel
theorem dX9_gained_18 : decode cX9_gained 18 = .ok (.istore_n 3, 1) := by decide +kernel
theorem dX9_gained_19 : decode cX9_gained 19 = .ok (.aload_n 0, 1) := by decide +kernel
theorem dX9_gained_20 : decode cX9_gained 20 = .ok (.getfield 65, 3) := by decide +kernel
theorem dX9_gained_23 : decode cX9_gained 23 = .ok (.iload_n 3, 1) := by decide +kernel
theorem dX9_gained_24 : decode cX9_gained 24 = .ok (.iaload, 1) := by decide +kernel
theorem dX9_gained_25 : decode cX9_gained 25 = .ok (.ifCond .le 15, 3) := by decide +kernel
theorem dX9_gained_28 : decode cX9_gained 28 = .ok (.bipush (-3), 2) := by decide +kernel
theorem dX9_gained_30 : decode cX9_gained 30 = .ok (.aload_n 0, 1) := by decide +kernel
theorem dX9_gained_31 : decode cX9_gained 31 = .ok (.getfield 65, 3) := by decide +kernel
theorem dX9_gained_34 : decode cX9_gained 34 = .ok (.iload_n 3, 1) := by decide +kernel
theorem dX9_gained_35 : decode cX9_gained 35 = .ok (.iaload, 1) := by decide +kernel
theorem dX9_gained_36 : decode cX9_gained 36 = .ok (.imul, 1) := by decide +kernel
theorem dX9_gained_37 : decode cX9_gained 37 = .ok (.goto 9, 3) := by decide +kernel
theorem dX9_gained_40 : decode cX9_gained 40 = .ok (.aload_n 0, 1) := by decide +kernel
theorem dX9_gained_41 : decode cX9_gained 41 = .ok (.getfield 59, 3) := by decide +kernel
theorem dX9_gained_44 : decode cX9_gained 44 = .ok (.iload_n 3, 1) := by decide +kernel
theorem dX9_gained_45 : decode cX9_gained 45 = .ok (.iaload, 1) := by decide +kernel
theorem dX9_gained_46 : decode cX9_gained 46 = .ok (.istore 4, 2) := by decide +kernel
theorem dX9_gained_48 : decode cX9_gained 48 = .ok (.iload_n 1, 1) := by decide +kernel
theorem dX9_gained_49 : decode cX9_gained 49 = .ok (.aload_n 0, 1) := by decide +kernel
theorem dX9_gained_50 : decode cX9_gained 50 = .ok (.getfield 81, 3) := by decide +kernel
theorem dX9_gained_53 : decode cX9_gained 53 = .ok (.iload_n 3, 1) := by decide +kernel
theorem dX9_gained_54 : decode cX9_gained 54 = .ok (.baload, 1) := by decide +kernel
theorem dX9_gained_55 : decode cX9_gained 55 = .ok (.ifCond .eq 7, 3) := by decide +kernel
theorem dX9_gained_58 : decode cX9_gained 58 = .ok (.iconst 0, 1) := by decide +kernel
theorem dX9_gained_59 : decode cX9_gained 59 = .ok (.goto 5, 3) := by decide +kernel
theorem dX9_gained_62 : decode cX9_gained 62 = .ok (.iload 4, 2) := by decide +kernel
theorem dX9_gained_64 : decode cX9_gained 64 = .ok (.iadd, 1) := by decide +kernel
theorem dX9_gained_65 : decode cX9_gained 65 = .ok (.istore_n 1, 1) := by decide +kernel
theorem dX9_gained_66 : decode cX9_gained 66 = .ok (.iinc 2 1, 3) := by decide +kernel
theorem dX9_gained_69 : decode cX9_gained 69 = .ok (.goto (-65), 3) := by decide +kernel
theorem dX9_gained_72 : decode cX9_gained 72 = .ok (.iload_n 1, 1) := by decide +kernel
theorem dX9_gained_73 : decode cX9_gained 73 = .ok (.ireturn, 1) := by decide +kernel
theorem dX9_gain_0 : decode cX9_gain 0 = .ok (.aload_n 0, 1) := by decide +kernel
theorem dX9_gain_1 : decode cX9_gain 1 = .ok (.invokevirtual 233, 3) := by decide +kernel
theorem dX9_gain_4 : decode cX9_gain 4 = .ok (.aload_n 0, 1) := by decide +kernel
theorem dX9_gain_5 : decode cX9_gain 5 = .ok (.invokevirtual 244, 3) := by decide +kernel
theorem dX9_gain_8 : decode cX9_gain 8 = .ok (.sipush 10000, 3) := by decide +kernel
theorem dX9_gain_11 : decode cX9_gain 11 = .ok (.iadd, 1) := by decide +kernel
theorem dX9_gain_12 : decode cX9_gain 12 = .ok (.ireturn, 1) := by decide +kernel
theorem dX9_best_0 : decode cX9_best 0 = .ok (.aload_n 0, 1) := by decide +kernel
theorem dX9_best_1 : decode cX9_best 1 = .ok (.iload_n 1, 1) := by decide +kernel
theorem dX9_best_2 : decode cX9_best 2 = .ok (.invokevirtual 163, 3) := by decide +kernel
theorem dX9_best_5 : decode cX9_best 5 = .ok (.ifCond .eq 13, 3) := by decide +kernel
theorem dX9_best_8 : decode cX9_best 8 = .ok (.iload_n 2, 1) := by decide +kernel
theorem dX9_best_9 : decode cX9_best 9 = .ok (.i2l, 1) := by decide +kernel
theorem dX9_best_10 : decode cX9_best 10 = .ok (.lconst 0, 1) := by decide +kernel
theorem dX9_best_11 : decode cX9_best 11 = .ok (.lconst 1, 1) := by decide +kernel
theorem dX9_best_12 : decode cX9_best 12 = .ok (.invokestatic 106, 3) := by decide +kernel
theorem dX9_best_15 : decode cX9_best 15 = .ok (.ifCond .ne 5, 3) := by decide +kernel
theorem dX9_best_18 : decode cX9_best 18 = .ok (.iconst (-1), 1) := by decide +kernel
theorem dX9_best_19 : decode cX9_best 19 = .ok (.ireturn, 1) := by decide +kernel
theorem dX9_best_20 : decode cX9_best 20 = .ok (.aload_n 0, 1) := by decide +kernel
theorem dX9_best_21 : decode cX9_best 21 = .ok (.invokevirtual 233, 3) := by decide +kernel
theorem dX9_best_24 : decode cX9_best 24 = .ok (.iconst 0, 1) := by decide +kernel
theorem dX9_best_25 : decode cX9_best 25 = .ok (.istore_n 3, 1) := by decide +kernel
theorem dX9_best_26 : decode cX9_best 26 = .ok (.iconst 0, 1) := by decide +kernel
theorem dX9_best_27 : decode cX9_best 27 = .ok (.istore 4, 2) := by decide +kernel
theorem dX9_best_29 : decode cX9_best 29 = .ok (.iconst 1, 1) := by decide +kernel
theorem dX9_best_30 : decode cX9_best 30 = .ok (.istore 5, 2) := by decide +kernel
theorem dX9_best_32 : decode cX9_best 32 = .ok (.iload 5, 2) := by decide +kernel
theorem dX9_best_34 : decode cX9_best 34 = .ok (.bipush 100, 2) := by decide +kernel
theorem dX9_best_36 : decode cX9_best 36 = .ok (.if_icmp .ge 71, 3) := by decide +kernel
theorem dX9_best_39 : decode cX9_best 39 = .ok (.aload_n 0, 1) := by decide +kernel
theorem dX9_best_40 : decode cX9_best 40 = .ok (.getfield 71, 3) := by decide +kernel
theorem dX9_best_43 : decode cX9_best 43 = .ok (.iload_n 1, 1) := by decide +kernel
theorem dX9_best_44 : decode cX9_best 44 = .ok (.iload 5, 2) := by decide +kernel
theorem dX9_best_46 : decode cX9_best 46 = .ok (.iastore, 1) := by decide +kernel
theorem dX9_best_47 : decode cX9_best 47 = .ok (.aload_n 0, 1) := by decide +kernel
theorem dX9_best_48 : decode cX9_best 48 = .ok (.invokevirtual 227, 3) := by decide +kernel
theorem dX9_best_51 : decode cX9_best 51 = .ok (.iload 5, 2) := by decide +kernel
theorem dX9_best_53 : decode cX9_best 53 = .ok (.iconst 1, 1) := by decide +kernel
theorem dX9_best_54 : decode cX9_best 54 = .ok (.if_icmp .eq 12, 3) := by decide +kernel
theorem dX9_best_57 : decode cX9_best 57 = .ok (.aload_n 0, 1) := by decide +kernel
theorem dX9_best_58 : decode cX9_best 58 = .ok (.invokevirtual 244, 3) := by decide +kernel
theorem dX9_best_61 : decode cX9_best 61 = .ok (.iload 4, 2) := by decide +kernel
theorem dX9_best_63 : decode cX9_best 63 = .ok (.if_icmp .le 7, 3) := by decide +kernel
theorem dX9_best_66 : decode cX9_best 66 = .ok (.iconst 1, 1) := by decide +kernel
theorem dX9_best_67 : decode cX9_best 67 = .ok (.goto 4, 3) := by decide +kernel
theorem dX9_best_70 : decode cX9_best 70 = .ok (.iconst 0, 1) := by decide +kernel
theorem dX9_best_71 : decode cX9_best 71 = .ok (.istore 6, 2) := by decide +kernel
theorem dX9_best_73 : decode cX9_best 73 = .ok (.iload 6, 2) := by decide +kernel
theorem dX9_best_75 : decode cX9_best 75 = .ok (.ifCond .eq 8, 3) := by decide +kernel
theorem dX9_best_78 : decode cX9_best 78 = .ok (.iload 5, 2) := by decide +kernel
theorem dX9_best_80 : decode cX9_best 80 = .ok (.goto 4, 3) := by decide +kernel
theorem dX9_best_83 : decode cX9_best 83 = .ok (.iload_n 3, 1) := by decide +kernel
theorem dX9_best_84 : decode cX9_best 84 = .ok (.istore_n 3, 1) := by decide +kernel
theorem dX9_best_85 : decode cX9_best 85 = .ok (.iload 6, 2) := by decide +kernel
theorem dX9_best_87 : decode cX9_best 87 = .ok (.ifCond .eq 10, 3) := by decide +kernel
theorem dX9_best_90 : decode cX9_best 90 = .ok (.aload_n 0, 1) := by decide +kernel
theorem dX9_best_91 : decode cX9_best 91 = .ok (.invokevirtual 244, 3) := by decide +kernel
theorem dX9_best_94 : decode cX9_best 94 = .ok (.goto 5, 3) := by decide +kernel
theorem dX9_best_97 : decode cX9_best 97 = .ok (.iload 4, 2) := by decide +kernel
theorem dX9_best_99 : decode cX9_best 99 = .ok (.istore 4, 2) := by decide +kernel
theorem dX9_best_101 : decode cX9_best 101 = .ok (.iinc 5 1, 3) := by decide +kernel
theorem dX9_best_104 : decode cX9_best 104 = .ok (.goto (-72), 3) := by decide +kernel
theorem dX9_best_107 : decode cX9_best 107 = .ok (.iload_n 2, 1) := by decide +kernel
theorem dX9_best_108 : decode cX9_best 108 = .ok (.ifCond .ne 7, 3) := by decide +kernel
theorem dX9_best_111 : decode cX9_best 111 = .ok (.iload_n 3, 1) := by decide +kernel
theorem dX9_best_112 : decode cX9_best 112 = .ok (.goto 9, 3) := by decide +kernel
theorem dX9_best_115 : decode cX9_best 115 = .ok (.iload 4, 2) := by decide +kernel
theorem dX9_best_117 : decode cX9_best 117 = .ok (.sipush 10000, 3) := by decide +kernel
theorem dX9_best_120 : decode cX9_best 120 = .ok (.iadd, 1) := by decide +kernel
theorem dX9_best_121 : decode cX9_best 121 = .ok (.ireturn, 1) := by decide +kernel
theorem dX9_howMany_0 : decode cX9_howMany 0 = .ok (.aload_n 0, 1) := by decide +kernel
theorem dX9_howMany_1 : decode cX9_howMany 1 = .ok (.invokevirtual 233, 3) := by decide +kernel
theorem dX9_howMany_4 : decode cX9_howMany 4 = .ok (.iconst 0, 1) := by decide +kernel
theorem dX9_howMany_5 : decode cX9_howMany 5 = .ok (.istore_n 2, 1) := by decide +kernel
theorem dX9_howMany_6 : decode cX9_howMany 6 = .ok (.iconst 0, 1) := by decide +kernel
theorem dX9_howMany_7 : decode cX9_howMany 7 = .ok (.istore_n 3, 1) := by decide +kernel
theorem dX9_howMany_8 : decode cX9_howMany 8 = .ok (.iload_n 3, 1) := by decide +kernel
theorem dX9_howMany_9 : decode cX9_howMany 9 = .ok (.aload_n 0, 1) := by decide +kernel
theorem dX9_howMany_10 : decode cX9_howMany 10 = .ok (.getfield 157, 3) := by decide +kernel
theorem dX9_howMany_13 : decode cX9_howMany 13 = .ok (.if_icmp .ge 141, 3) := by decide +kernel
theorem dX9_howMany_16 : decode cX9_howMany 16 = .ok (.aload_n 0, 1) := by decide +kernel
theorem dX9_howMany_17 : decode cX9_howMany 17 = .ok (.getfield 68, 3) := by decide +kernel
theorem dX9_howMany_20 : decode cX9_howMany 20 = .ok (.iload_n 3, 1) := by decide +kernel
theorem dX9_howMany_21 : decode cX9_howMany 21 = .ok (.iaload, 1) := by decide +kernel
theorem dX9_howMany_22 : decode cX9_howMany 22 = .ok (.istore 4, 2) := by decide +kernel
theorem dX9_howMany_24 : decode cX9_howMany 24 = .ok (.aload_n 0, 1) := by decide +kernel
theorem dX9_howMany_25 : decode cX9_howMany 25 = .ok (.getfield 74, 3) := by decide +kernel
theorem dX9_howMany_28 : decode cX9_howMany 28 = .ok (.iload 4, 2) := by decide +kernel
theorem dX9_howMany_30 : decode cX9_howMany 30 = .ok (.iaload, 1) := by decide +kernel
theorem dX9_howMany_31 : decode cX9_howMany 31 = .ok (.bipush (-4), 2) := by decide +kernel
theorem dX9_howMany_33 : decode cX9_howMany 33 = .ok (.if_icmp .eq 7, 3) := by decide +kernel
theorem dX9_howMany_36 : decode cX9_howMany 36 = .ok (.iconst 1, 1) := by decide +kernel
theorem dX9_howMany_37 : decode cX9_howMany 37 = .ok (.goto 4, 3) := by decide +kernel
theorem dX9_howMany_40 : decode cX9_howMany 40 = .ok (.iconst 0, 1) := by decide +kernel
theorem dX9_howMany_41 : decode cX9_howMany 41 = .ok (.istore 5, 2) := by decide +kernel
theorem dX9_howMany_43 : decode cX9_howMany 43 = .ok (.iload_n 1, 1) := by decide +kernel
theorem dX9_howMany_44 : decode cX9_howMany 44 = .ok (.iconst 5, 1) := by decide +kernel
theorem dX9_howMany_45 : decode cX9_howMany 45 = .ok (.if_icmp .ne 8, 3) := by decide +kernel
theorem dX9_howMany_48 : decode cX9_howMany 48 = .ok (.iload 5, 2) := by decide +kernel
theorem dX9_howMany_50 : decode cX9_howMany 50 = .ok (.goto 83, 3) := by decide +kernel
theorem dX9_howMany_53 : decode cX9_howMany 53 = .ok (.iload_n 1, 1) := by decide +kernel
theorem dX9_howMany_54 : decode cX9_howMany 54 = .ok (.bipush 6, 2) := by decide +kernel
theorem dX9_howMany_56 : decode cX9_howMany 56 = .ok (.if_icmp .ne 12, 3) := by decide +kernel
theorem dX9_howMany_59 : decode cX9_howMany 59 = .ok (.aload_n 0, 1) := by decide +kernel
theorem dX9_howMany_60 : decode cX9_howMany 60 = .ok (.iload 4, 2) := by decide +kernel
theorem dX9_howMany_62 : decode cX9_howMany 62 = .ok (.invokevirtual 230, 3) := by decide +kernel
theorem dX9_howMany_65 : decode cX9_howMany 65 = .ok (.goto 68, 3) := by decide +kernel
theorem dX9_howMany_68 : decode cX9_howMany 68 = .ok (.iload_n 1, 1) := by decide +kernel
theorem dX9_howMany_69 : decode cX9_howMany 69 = .ok (.bipush 7, 2) := by decide +kernel
theorem dX9_howMany_71 : decode cX9_howMany 71 = .ok (.if_icmp .ne 13, 3) := by decide +kernel
theorem dX9_howMany_74 : decode cX9_howMany 74 = .ok (.aload_n 0, 1) := by decide +kernel
theorem dX9_howMany_75 : decode cX9_howMany 75 = .ok (.getfield 81, 3) := by decide +kernel
theorem dX9_howMany_78 : decode cX9_howMany 78 = .ok (.iload 4, 2) := by decide +kernel
theorem dX9_howMany_80 : decode cX9_howMany 80 = .ok (.baload, 1) := by decide +kernel
theorem dX9_howMany_81 : decode cX9_howMany 81 = .ok (.goto 52, 3) := by decide +kernel
theorem dX9_howMany_84 : decode cX9_howMany 84 = .ok (.iload_n 1, 1) := by decide +kernel
theorem dX9_howMany_85 : decode cX9_howMany 85 = .ok (.bipush 8, 2) := by decide +kernel
theorem dX9_howMany_87 : decode cX9_howMany 87 = .ok (.if_icmp .ne 26, 3) := by decide +kernel
theorem dX9_howMany_90 : decode cX9_howMany 90 = .ok (.iload 5, 2) := by decide +kernel
theorem dX9_howMany_92 : decode cX9_howMany 92 = .ok (.ifCond .eq 17, 3) := by decide +kernel
theorem dX9_howMany_95 : decode cX9_howMany 95 = .ok (.aload_n 0, 1) := by decide +kernel
theorem dX9_howMany_96 : decode cX9_howMany 96 = .ok (.getfield 81, 3) := by decide +kernel
theorem dX9_howMany_99 : decode cX9_howMany 99 = .ok (.iload 4, 2) := by decide +kernel
theorem dX9_howMany_101 : decode cX9_howMany 101 = .ok (.baload, 1) := by decide +kernel
theorem dX9_howMany_102 : decode cX9_howMany 102 = .ok (.ifCond .ne 7, 3) := by decide +kernel
theorem dX9_howMany_105 : decode cX9_howMany 105 = .ok (.iconst 1, 1) := by decide +kernel
theorem dX9_howMany_106 : decode cX9_howMany 106 = .ok (.goto 27, 3) := by decide +kernel
theorem dX9_howMany_109 : decode cX9_howMany 109 = .ok (.iconst 0, 1) := by decide +kernel
theorem dX9_howMany_110 : decode cX9_howMany 110 = .ok (.goto 23, 3) := by decide +kernel
theorem dX9_howMany_113 : decode cX9_howMany 113 = .ok (.iload 5, 2) := by decide +kernel
theorem dX9_howMany_115 : decode cX9_howMany 115 = .ok (.ifCond .ne 17, 3) := by decide +kernel
theorem dX9_howMany_118 : decode cX9_howMany 118 = .ok (.aload_n 0, 1) := by decide +kernel
theorem dX9_howMany_119 : decode cX9_howMany 119 = .ok (.getfield 81, 3) := by decide +kernel
theorem dX9_howMany_122 : decode cX9_howMany 122 = .ok (.iload 4, 2) := by decide +kernel
theorem dX9_howMany_124 : decode cX9_howMany 124 = .ok (.baload, 1) := by decide +kernel
theorem dX9_howMany_125 : decode cX9_howMany 125 = .ok (.ifCond .eq 7, 3) := by decide +kernel
theorem dX9_howMany_128 : decode cX9_howMany 128 = .ok (.iconst 1, 1) := by decide +kernel
theorem dX9_howMany_129 : decode cX9_howMany 129 = .ok (.goto 4, 3) := by decide +kernel
theorem dX9_howMany_132 : decode cX9_howMany 132 = .ok (.iconst 0, 1) := by decide +kernel
theorem dX9_howMany_133 : decode cX9_howMany 133 = .ok (.istore 6, 2) := by decide +kernel
theorem dX9_howMany_135 : decode cX9_howMany 135 = .ok (.iload_n 2, 1) := by decide +kernel
theorem dX9_howMany_136 : decode cX9_howMany 136 = .ok (.iload 6, 2) := by decide +kernel
theorem dX9_howMany_138 : decode cX9_howMany 138 = .ok (.ifCond .eq 7, 3) := by decide +kernel
theorem dX9_howMany_141 : decode cX9_howMany 141 = .ok (.iconst 1, 1) := by decide +kernel
theorem dX9_howMany_142 : decode cX9_howMany 142 = .ok (.goto 4, 3) := by decide +kernel
theorem dX9_howMany_145 : decode cX9_howMany 145 = .ok (.iconst 0, 1) := by decide +kernel
theorem dX9_howMany_146 : decode cX9_howMany 146 = .ok (.iadd, 1) := by decide +kernel
theorem dX9_howMany_147 : decode cX9_howMany 147 = .ok (.istore_n 2, 1) := by decide +kernel
theorem dX9_howMany_148 : decode cX9_howMany 148 = .ok (.iinc 3 1, 3) := by decide +kernel
theorem dX9_howMany_151 : decode cX9_howMany 151 = .ok (.goto (-143), 3) := by decide +kernel
theorem dX9_howMany_154 : decode cX9_howMany 154 = .ok (.iload_n 2, 1) := by decide +kernel
theorem dX9_howMany_155 : decode cX9_howMany 155 = .ok (.ireturn, 1) := by decide +kernel
theorem dX9_endedNow_0 : decode cX9_endedNow 0 = .ok (.aload_n 0, 1) := by decide +kernel
theorem dX9_endedNow_1 : decode cX9_endedNow 1 = .ok (.invokevirtual 151, 3) := by decide +kernel
theorem dX9_endedNow_4 : decode cX9_endedNow 4 = .ok (.aload_n 0, 1) := by decide +kernel
theorem dX9_endedNow_5 : decode cX9_endedNow 5 = .ok (.getfield 157, 3) := by decide +kernel
theorem dX9_endedNow_8 : decode cX9_endedNow 8 = .ok (.ireturn, 1) := by decide +kernel
theorem dX9_count_0 : decode cX9_count 0 = .ok (.iload_n 1, 1) := by decide +kernel
theorem dX9_count_1 : decode cX9_count 1 = .ok (.i2l, 1) := by decide +kernel
theorem dX9_count_2 : decode cX9_count 2 = .ok (.ldc2_w 92, 3) := by decide +kernel
theorem dX9_count_5 : decode cX9_count 5 = .ok (.ldc2_w 236, 3) := by decide +kernel
theorem dX9_count_8 : decode cX9_count 8 = .ok (.invokestatic 106, 3) := by decide +kernel
theorem dX9_count_11 : decode cX9_count 11 = .ok (.ifCond .eq 9, 3) := by decide +kernel
theorem dX9_count_14 : decode cX9_count 14 = .ok (.aload_n 0, 1) := by decide +kernel
theorem dX9_count_15 : decode cX9_count 15 = .ok (.iload_n 1, 1) := by decide +kernel
theorem dX9_count_16 : decode cX9_count 16 = .ok (.invokevirtual 247, 3) := by decide +kernel
theorem dX9_count_19 : decode cX9_count 19 = .ok (.ireturn, 1) := by decide +kernel
theorem dX9_count_20 : decode cX9_count 20 = .ok (.iload_n 1, 1) := by decide +kernel
theorem dX9_count_21 : decode cX9_count 21 = .ok (.tableswitch 102 0 11 #[63, 70, 77, 82, 87, 102, 102, 102, 102, 102, 92, 97], 63) := by decide +kernel
theorem dX9_count_84 : decode cX9_count 84 = .ok (.aload_n 0, 1) := by decide +kernel
theorem dX9_count_85 : decode cX9_count 85 = .ok (.getfield 7, 3) := by decide +kernel
theorem dX9_count_88 : decode cX9_count 88 = .ok (.iconst 0, 1) := by decide +kernel
theorem dX9_count_89 : decode cX9_count 89 = .ok (.iaload, 1) := by decide +kernel
theorem dX9_count_90 : decode cX9_count 90 = .ok (.ireturn, 1) := by decide +kernel
theorem dX9_count_91 : decode cX9_count 91 = .ok (.aload_n 0, 1) := by decide +kernel
theorem dX9_count_92 : decode cX9_count 92 = .ok (.getfield 7, 3) := by decide +kernel
theorem dX9_count_95 : decode cX9_count 95 = .ok (.iconst 1, 1) := by decide +kernel
theorem dX9_count_96 : decode cX9_count 96 = .ok (.iaload, 1) := by decide +kernel
theorem dX9_count_97 : decode cX9_count 97 = .ok (.ireturn, 1) := by decide +kernel
theorem dX9_count_98 : decode cX9_count 98 = .ok (.aload_n 0, 1) := by decide +kernel
theorem dX9_count_99 : decode cX9_count 99 = .ok (.getfield 88, 3) := by decide +kernel
theorem dX9_count_102 : decode cX9_count 102 = .ok (.ireturn, 1) := by decide +kernel
theorem dX9_count_103 : decode cX9_count 103 = .ok (.aload_n 0, 1) := by decide +kernel
theorem dX9_count_104 : decode cX9_count 104 = .ok (.invokevirtual 154, 3) := by decide +kernel
theorem dX9_count_107 : decode cX9_count 107 = .ok (.ireturn, 1) := by decide +kernel
theorem dX9_count_108 : decode cX9_count 108 = .ok (.aload_n 0, 1) := by decide +kernel
theorem dX9_count_109 : decode cX9_count 109 = .ok (.invokevirtual 250, 3) := by decide +kernel
theorem dX9_count_112 : decode cX9_count 112 = .ok (.ireturn, 1) := by decide +kernel
theorem dX9_count_113 : decode cX9_count 113 = .ok (.aload_n 0, 1) := by decide +kernel
theorem dX9_count_114 : decode cX9_count 114 = .ok (.getfield 142, 3) := by decide +kernel
theorem dX9_count_117 : decode cX9_count 117 = .ok (.ireturn, 1) := by decide +kernel
theorem dX9_count_118 : decode cX9_count 118 = .ok (.aload_n 0, 1) := by decide +kernel
theorem dX9_count_119 : decode cX9_count 119 = .ok (.getfield 99, 3) := by decide +kernel
theorem dX9_count_122 : decode cX9_count 122 = .ok (.ireturn, 1) := by decide +kernel
theorem dX9_count_123 : decode cX9_count 123 = .ok (.iconst (-1), 1) := by decide +kernel
theorem dX9_count_124 : decode cX9_count 124 = .ok (.ireturn, 1) := by decide +kernel
theorem dX9_judgedBy_0 : decode cX9_judgedBy 0 = .ok (.aload_n 0, 1) := by decide +kernel
theorem dX9_judgedBy_1 : decode cX9_judgedBy 1 = .ok (.invokevirtual 233, 3) := by decide +kernel
theorem dX9_judgedBy_4 : decode cX9_judgedBy 4 = .ok (.iconst 0, 1) := by decide +kernel
theorem dX9_judgedBy_5 : decode cX9_judgedBy 5 = .ok (.istore_n 2, 1) := by decide +kernel
theorem dX9_judgedBy_6 : decode cX9_judgedBy 6 = .ok (.iconst 0, 1) := by decide +kernel
theorem dX9_judgedBy_7 : decode cX9_judgedBy 7 = .ok (.istore_n 3, 1) := by decide +kernel
theorem dX9_judgedBy_8 : decode cX9_judgedBy 8 = .ok (.iload_n 3, 1) := by decide +kernel
theorem dX9_judgedBy_9 : decode cX9_judgedBy 9 = .ok (.aload_n 0, 1) := by decide +kernel
theorem dX9_judgedBy_10 : decode cX9_judgedBy 10 = .ok (.getfield 157, 3) := by decide +kernel
theorem dX9_judgedBy_13 : decode cX9_judgedBy 13 = .ok (.if_icmp .ge 32, 3) := by decide +kernel
theorem dX9_judgedBy_16 : decode cX9_judgedBy 16 = .ok (.iload_n 2, 1) := by decide +kernel
theorem dX9_judgedBy_17 : decode cX9_judgedBy 17 = .ok (.aload_n 0, 1) := by decide +kernel
theorem dX9_judgedBy_18 : decode cX9_judgedBy 18 = .ok (.getfield 74, 3) := by decide +kernel
theorem dX9_judgedBy_21 : decode cX9_judgedBy 21 = .ok (.aload_n 0, 1) := by decide +kernel
theorem dX9_judgedBy_22 : decode cX9_judgedBy 22 = .ok (.getfield 68, 3) := by decide +kernel
theorem dX9_judgedBy_25 : decode cX9_judgedBy 25 = .ok (.iload_n 3, 1) := by decide +kernel
theorem dX9_judgedBy_26 : decode cX9_judgedBy 26 = .ok (.iaload, 1) := by decide +kernel
theorem dX9_judgedBy_27 : decode cX9_judgedBy 27 = .ok (.iaload, 1) := by decide +kernel
theorem dX9_judgedBy_28 : decode cX9_judgedBy 28 = .ok (.iload_n 1, 1) := by decide +kernel
theorem dX9_judgedBy_29 : decode cX9_judgedBy 29 = .ok (.if_icmp .ne 7, 3) := by decide +kernel
theorem dX9_judgedBy_32 : decode cX9_judgedBy 32 = .ok (.iconst 1, 1) := by decide +kernel
theorem dX9_judgedBy_33 : decode cX9_judgedBy 33 = .ok (.goto 4, 3) := by decide +kernel
theorem dX9_judgedBy_36 : decode cX9_judgedBy 36 = .ok (.iconst 0, 1) := by decide +kernel
theorem dX9_judgedBy_37 : decode cX9_judgedBy 37 = .ok (.iadd, 1) := by decide +kernel
theorem dX9_judgedBy_38 : decode cX9_judgedBy 38 = .ok (.istore_n 2, 1) := by decide +kernel
theorem dX9_judgedBy_39 : decode cX9_judgedBy 39 = .ok (.iinc 3 1, 3) := by decide +kernel
theorem dX9_judgedBy_42 : decode cX9_judgedBy 42 = .ok (.goto (-34), 3) := by decide +kernel
theorem dX9_judgedBy_45 : decode cX9_judgedBy 45 = .ok (.iload_n 2, 1) := by decide +kernel
theorem dX9_judgedBy_46 : decode cX9_judgedBy 46 = .ok (.ireturn, 1) := by decide +kernel
theorem dX9_told_0 : decode cX9_told 0 = .ok (.aload_n 0, 1) := by decide +kernel
theorem dX9_told_1 : decode cX9_told 1 = .ok (.iload_n 1, 1) := by decide +kernel
theorem dX9_told_2 : decode cX9_told 2 = .ok (.invokevirtual 163, 3) := by decide +kernel
theorem dX9_told_5 : decode cX9_told 5 = .ok (.ifCond .eq 15, 3) := by decide +kernel
theorem dX9_told_8 : decode cX9_told 8 = .ok (.iload_n 2, 1) := by decide +kernel
theorem dX9_told_9 : decode cX9_told 9 = .ok (.i2l, 1) := by decide +kernel
theorem dX9_told_10 : decode cX9_told 10 = .ok (.lconst 0, 1) := by decide +kernel
theorem dX9_told_11 : decode cX9_told 11 = .ok (.ldc2_w 94, 3) := by decide +kernel
theorem dX9_told_14 : decode cX9_told 14 = .ok (.invokestatic 106, 3) := by decide +kernel
theorem dX9_told_17 : decode cX9_told 17 = .ok (.ifCond .ne 5, 3) := by decide +kernel
theorem dX9_told_20 : decode cX9_told 20 = .ok (.iconst (-1), 1) := by decide +kernel
theorem dX9_told_21 : decode cX9_told 21 = .ok (.ireturn, 1) := by decide +kernel
theorem dX9_told_22 : decode cX9_told 22 = .ok (.iload_n 2, 1) := by decide +kernel
theorem dX9_told_23 : decode cX9_told 23 = .ok (.ifCond .ne 12, 3) := by decide +kernel
theorem dX9_told_26 : decode cX9_told 26 = .ok (.aload_n 0, 1) := by decide +kernel
theorem dX9_told_27 : decode cX9_told 27 = .ok (.getfield 13, 3) := by decide +kernel
theorem dX9_told_30 : decode cX9_told 30 = .ok (.iload_n 1, 1) := by decide +kernel
theorem dX9_told_31 : decode cX9_told 31 = .ok (.iaload, 1) := by decide +kernel
theorem dX9_told_32 : decode cX9_told 32 = .ok (.goto 26, 3) := by decide +kernel
theorem dX9_told_35 : decode cX9_told 35 = .ok (.iload_n 2, 1) := by decide +kernel
theorem dX9_told_36 : decode cX9_told 36 = .ok (.iconst 1, 1) := by decide +kernel
theorem dX9_told_37 : decode cX9_told 37 = .ok (.if_icmp .ne 16, 3) := by decide +kernel
theorem dX9_told_40 : decode cX9_told 40 = .ok (.aload_n 0, 1) := by decide +kernel
theorem dX9_told_41 : decode cX9_told 41 = .ok (.getfield 16, 3) := by decide +kernel
theorem dX9_told_44 : decode cX9_told 44 = .ok (.bipush 61, 2) := by decide +kernel
theorem dX9_told_46 : decode cX9_told 46 = .ok (.iload_n 1, 1) := by decide +kernel
theorem dX9_told_47 : decode cX9_told 47 = .ok (.iadd, 1) := by decide +kernel
theorem dX9_told_48 : decode cX9_told 48 = .ok (.laload, 1) := by decide +kernel
theorem dX9_told_49 : decode cX9_told 49 = .ok (.l2i, 1) := by decide +kernel
theorem dX9_told_50 : decode cX9_told 50 = .ok (.goto 8, 3) := by decide +kernel
theorem dX9_told_53 : decode cX9_told 53 = .ok (.aload_n 0, 1) := by decide +kernel
theorem dX9_told_54 : decode cX9_told 54 = .ok (.iload_n 1, 1) := by decide +kernel
theorem dX9_told_55 : decode cX9_told 55 = .ok (.invokevirtual 253, 3) := by decide +kernel
theorem dX9_told_58 : decode cX9_told 58 = .ok (.ireturn, 1) := by decide +kernel
end
section
/-! the pure layer: values, memory, frames; W and its rows are hidden under 'Go' -/
/-- a pure value: an int, a long, a reference (a place of the memory), the script -/
abbrev gV : Type := Int ⊕ (Int ⊕ (Int ⊕ Unit))
abbrev vI (x : Int) : gV := .inl x
abbrev vL (x : Int) : gV := .inr (.inl x)
abbrev vR (a : Int) : gV := .inr (.inr (.inl a))
abbrev vS : gV := .inr (.inr (.inr ()))
abbrev gF : Type := Int → Int → Int
/-- the shape: references, kinds, lengths, how many cells -/
abbrev gSh : Type := (Int → Int → Option Int) × (Int → Nat) × (Int → Nat) × Nat
/-- a method: its class, code, locals, return type, level, name; the script, where it is the law -/
abbrev gMD : Type := String × ByteArray × Nat × Option FieldType × Nat × MethodName × Option (Nat × (Nat → Int32))
abbrev gQ : Type := Option gV → gF → gF → gSh → Prop
def g_R : Nat → String
  | 0 => RX0 | 1 => RX1 | 2 => RX2 | 3 => RX3 | 4 => RX4 | 5 => RX5 | 6 => RX6 | 7 => RX7 | 8 => RX8 | _ => RX9
def g_TT : Nat → u_T
  | 0 => TX0 | 1 => TX1 | 2 => TX2 | 3 => TX3 | 4 => TX4 | 5 => TX5 | 6 => TX6 | 7 => TX7 | 8 => TX8 | _ => TX9
def g_ft : Nat → Nat → FieldType
  | 0 => tyX0 | 1 => tyX1 | 2 => tyX2 | 3 => tyX3 | 4 => tyX4 | 5 => tyX5 | 6 => tyX6 | 7 => tyX7 | 8 => tyX8 | _ => tyX9
def g_nf : Nat → Nat
  | 0 => 8 | 1 => 5 | 2 => 3 | 3 => 10 | 4 => 3 | 5 => 4 | 6 => 3 | 7 => 3 | 8 => 9 | _ => 32
theorem g_cl : ∀ ci : Nat, ci < 10 → vwCl[ci]? = some (g_R ci, g_TT ci, g_nf ci)
  | 0, _ => rfl | 1, _ => rfl | 2, _ => rfl | 3, _ => rfl | 4, _ => rfl | 5, _ => rfl | 6, _ => rfl | 7, _ => rfl | 8, _ => rfl | 9, _ => rfl
  | n + 10, h => absurd h (by omega)
theorem g_tyk : ∀ ci : Nat, ci < 10 → ∀ k, k < g_nf ci → parseFieldDescriptor (g_TT ci k).2.2.1 = some (g_ft ci k)
  | 0, _ => tyX0_ok | 1, _ => tyX1_ok | 2, _ => tyX2_ok | 3, _ => tyX3_ok | 4, _ => tyX4_ok | 5, _ => tyX5_ok | 6, _ => tyX6_ok | 7, _ => tyX7_ok | 8, _ => tyX8_ok | 9, _ => tyX9_ok
  | n + 10, h => absurd h (by omega)
theorem g_nmk : ∀ ci : Nat, ci < 10 → ∀ a, a < g_nf ci → ∀ b, b < g_nf ci → a ≠ b → (g_TT ci a).2.1 ≠ (g_TT ci b).2.1
  | 0, _ => nmX0 | 1, _ => nmX1 | 2, _ => nmX2 | 3, _ => nmX3 | 4, _ => nmX4 | 5, _ => nmX5 | 6, _ => nmX6 | 7, _ => nmX7 | 8, _ => nmX8 | 9, _ => nmX9
  | n + 10, h => absurd h (by omega)
/-- the tables' words that stay true under every shift -/
def lw_good : List Cond := lw_tbl.filter goodWord
theorem lw_gd {w : Cond} (i : Nat) (h : lw_tbl[i]? = some w) (hg : goodWord w = true) : w ∈ lw_good := List.mem_filter.mpr ⟨List.mem_of_getElem? h, hg⟩
theorem lw_gl {ws : List Cond} (ps : List Nat) (hp : ws.map some = ps.map (fun i => lw_tbl[i]?)) (hg : ws.all goodWord = true) : ∀ w ∈ ws, w ∈ lw_good := by
  intro w hw
  have h1 : some w ∈ ws.map some := List.mem_map.mpr ⟨w, hw, rfl⟩
  rw [hp] at h1
  obtain ⟨i, -, hi⟩ := List.mem_map.mp h1
  exact lw_gd i hi (List.all_eq_true.mp hg w hw)
theorem lw_goodIn {ws : List Cond} (h : ∀ w ∈ ws, w ∈ lw_good) : GoodIn lw_good ws := fun w hw => ⟨h w hw, good_of_word (List.mem_filter.mp (h w hw)).2⟩
def g_isR : FieldType → Bool
  | .object _ => true
  | .array _ => true
  | _ => false
def g_FI (own : String) (idx ci k : Nat) : Prop := ci < 10 ∧ k < g_nf ci ∧ g_ft ci k = .int ∧ (g_TT ci k).2.2.2 = false ∧ Cond.fieldLink own idx (g_TT ci k).1 (g_TT ci k).2.1 (g_TT ci k).2.2.1 ∈ lw_good
def g_FR (own : String) (idx ci k : Nat) (fin : Bool) : Prop := ci < 10 ∧ k < g_nf ci ∧ g_isR (g_ft ci k) = true ∧ (g_TT ci k).2.2.2 = fin ∧ Cond.fieldLink own idx (g_TT ci k).1 (g_TT ci k).2.1 (g_TT ci k).2.2.1 ∈ lw_good
/-- an instance method's words: it is of class ci and takes np arguments -/
def g_MV (md : gMD) (ci np : Nat) : Prop :=
  Cond.instanceMethod md.2.2.2.2.2.1 ∈ lw_good ∧ Cond.selects (g_R ci) md.2.2.2.2.2.1 md.2.2.2.2.2.1 ∈ lw_good ∧ Cond.initialized md.2.2.2.2.2.1.cls ∈ lw_good ∧ Cond.code md.2.2.2.2.2.1 md.2.1 md.2.2.1 md.2.2.2.1 ∈ lw_good ∧ plainName md.2.2.2.2.2.1.cls = true ∧ md.2.2.2.2.2.1.cls = md.1 ∧
  md.2.2.2.2.2.1.cls ≠ "java/lang/invoke/MethodHandle" ∧ md.2.2.2.2.2.1.cls ≠ "java/lang/invoke/VarHandle" ∧ (parseMethodDescriptor md.2.2.2.2.2.1.desc).map (fun d => d.parameters.length) = some np
/-- a static method's words -/
def g_MS (md : gMD) (np : Nat) : Prop :=
  Cond.static md.2.2.2.2.2.1 ∈ lw_good ∧ Cond.initialized md.2.2.2.2.2.1.cls ∈ lw_good ∧ Cond.code md.2.2.2.2.2.1 md.2.1 md.2.2.1 md.2.2.2.1 ∈ lw_good ∧ plainName md.2.2.2.2.2.1.cls = true ∧ md.2.2.2.2.2.1.cls = md.1 ∧
  md.2.2.2.2.2.1.cls ≠ "java/lang/invoke/MethodHandle" ∧ md.2.2.2.2.2.1.cls ≠ "java/lang/invoke/VarHandle" ∧ (parseMethodDescriptor md.2.2.2.2.2.1.desc).map (fun d => d.parameters.length) = some np
/-- a constructor's words -/
def g_MI (md : gMD) (np : Nat) : Prop :=
  Cond.instanceMethod md.2.2.2.2.2.1 ∈ lw_good ∧ md.2.2.2.2.2.1.name = "<init>" ∧ Cond.initialized md.2.2.2.2.2.1.cls ∈ lw_good ∧ Cond.code md.2.2.2.2.2.1 md.2.1 md.2.2.1 none ∈ lw_good ∧ plainName md.2.2.2.2.2.1.cls = true ∧ md.2.2.2.2.2.1.cls = md.1 ∧
  md.2.2.2.2.2.1.cls ≠ "java/lang/invoke/MethodHandle" ∧ md.2.2.2.2.2.1.cls ≠ "java/lang/invoke/VarHandle" ∧ (parseMethodDescriptor md.2.2.2.2.2.1.desc).map (fun d => d.parameters.length) = some np ∧ md.2.2.2.1 = none
end
section
abbrev mdX0_init : gMD := (RX0, cX0_init, 1, none, 1, yX0_init, none)
abbrev mdX0_addCell : gMD := (RX0, cX0_addCell, 5, none, 2, yX0_addCell, none)
abbrev mdX0_beginAt : gMD := (RX0, cX0_beginAt, 3, none, 1, yX0_beginAt, none)
abbrev mdX0_absorb : gMD := (RX0, cX0_absorb, 2, none, 2, yX0_absorb, none)
abbrev mdX0_copyFrom : gMD := (RX0, cX0_copyFrom, 2, none, 1, yX0_copyFrom, none)
abbrev mdX0_beganBefore : gMD := (RX0, cX0_beganBefore, 2, (some .boolean), 1, yX0_beganBefore, none)
abbrev mdX0_endTick : gMD := (RX0, cX0_endTick, 1, (some .int), 1, yX0_endTick, none)
abbrev mdX0_mean : gMD := (RX0, cX0_mean, 1, (some .int), 1, yX0_mean, none)
abbrev mdX0_measure : gMD := (RX0, cX0_measure, 2, (some .int), 2, yX0_measure, none)
abbrev mdX0_worth : gMD := (RX0, cX0_worth, 1, (some .int), 1, yX0_worth, none)
abbrev mdX1_init : gMD := (RX1, cX1_init, 2, none, 2, yX1_init, none)
abbrev mdX1_empty : gMD := (RX1, cX1_empty, 2, none, 2, yX1_empty, none)
abbrev mdX1_addLine : gMD := (RX1, cX1_addLine, 9, (some .int), 5, yX1_addLine, none)
abbrev mdX1_addCell : gMD := (RX1, cX1_addCell, 7, none, 4, yX1_addCell, none)
abbrev mdX1_ownerAt : gMD := (RX1, cX1_ownerAt, 2, (some .int), 1, yX1_ownerAt, none)
abbrev mdX1_freeSlot : gMD := (RX1, cX1_freeSlot, 2, (some .int), 1, yX1_freeSlot, none)
abbrev mdX1_joinTo : gMD := (RX1, cX1_joinTo, 3, none, 3, yX1_joinTo, none)
abbrev mdX1_handOver : gMD := (RX1, cX1_handOver, 4, none, 1, yX1_handOver, none)
abbrev mdX1_endAllWithout : gMD := (RX1, cX1_endAllWithout, 5, (some .int), 3, yX1_endAllWithout, none)
abbrev mdX1_earliestWithout : gMD := (RX1, cX1_earliestWithout, 5, (some .int), 2, yX1_earliestWithout, none)
abbrev mdX1_liveBlobs : gMD := (RX1, cX1_liveBlobs, 3, (some .int), 1, yX1_liveBlobs, none)
abbrev mdX1_liveCells : gMD := (RX1, cX1_liveCells, 3, (some .int), 1, yX1_liveCells, none)
abbrev mdX1_hasEndedWith : gMD := (RX1, cX1_hasEndedWith, 4, (some .boolean), 3, yX1_hasEndedWith, none)
abbrev mdX2_init : gMD := (RX2, cX2_init, 2, none, 2, yX2_init, none)
abbrev mdX2_keep : gMD := (RX2, cX2_keep, 2, none, 2, yX2_keep, none)
abbrev mdX2_giveBack : gMD := (RX2, cX2_giveBack, 3, none, 2, yX2_giveBack, none)
abbrev mdX2_forget : gMD := (RX2, cX2_forget, 1, none, 1, yX2_forget, none)
abbrev mdX3_init : gMD := (RX3, cX3_init, 1, none, 2, yX3_init, none)
abbrev mdX3_reset : gMD := (RX3, cX3_reset, 1, none, 1, yX3_reset, none)
abbrev mdX3_takeItem : gMD := (RX3, cX3_takeItem, 3, (some .boolean), 3, yX3_takeItem, none)
abbrev mdX3_takeGrid : gMD := (RX3, cX3_takeGrid, 2, (some .boolean), 2, yX3_takeGrid, none)
abbrev mdX3_addRule : gMD := (RX3, cX3_addRule, 3, (some .boolean), 2, yX3_addRule, none)
abbrev mdX3_takeDark : gMD := (RX3, cX3_takeDark, 2, (some .boolean), 2, yX3_takeDark, none)
abbrev mdX3_takeRest : gMD := (RX3, cX3_takeRest, 2, (some .boolean), 2, yX3_takeRest, none)
abbrev mdX3_isBetween : gMD := (RX3, cX3_isBetween, 3, (some .boolean), 1, yX3_isBetween, none)
abbrev mdX3_lineBound : gMD := (RX3, cX3_lineBound, 4, (some .long), 1, yX3_lineBound, none)
abbrev mdX3_valveOver : gMD := (RX3, cX3_valveOver, 3, (some .int), 1, yX3_valveOver, none)
abbrev mdX3_wantedFrom : gMD := (RX3, cX3_wantedFrom, 2, (some .int), 1, yX3_wantedFrom, none)
abbrev mdX3_wantedTo : gMD := (RX3, cX3_wantedTo, 2, (some .int), 1, yX3_wantedTo, none)
abbrev mdX3_isLate : gMD := (RX3, cX3_isLate, 2, (some .boolean), 2, yX3_isLate, none)
abbrev mdX4_init : gMD := (RX4, cX4_init, 1, none, 1, yX4_init, none)
abbrev mdX4_addLine : gMD := (RX4, cX4_addLine, 3, none, 1, yX4_addLine, none)
abbrev mdX4_copyFrom : gMD := (RX4, cX4_copyFrom, 2, none, 1, yX4_copyFrom, none)
abbrev mdX5_init : gMD := (RX5, cX5_init, 1, none, 1, yX5_init, none)
abbrev mdX5_append : gMD := (RX5, cX5_append, 2, none, 1, yX5_append, none)
abbrev mdX5_readInto : gMD := (RX5, cX5_readInto, 4, (some .int), 5, yX5_readInto, none)
abbrev mdX5_readItem : gMD := (RX5, cX5_readItem, 5, (some .boolean), 4, yX5_readItem, none)
abbrev mdX5_numbersBehind : gMD := (RX5, cX5_numbersBehind, 1, (some .int), 1, yX5_numbersBehind, none)
abbrev mdX5_readNumber : gMD := (RX5, cX5_readNumber, 4, (some .int), 2, yX5_readNumber, none)
abbrev mdX5_letterHere : gMD := (RX5, cX5_letterHere, 1, (some .char), 1, yX5_letterHere, none)
abbrev mdX5_isFigure : gMD := (RX5, cX5_isFigure, 1, (some .boolean), 1, yX5_isFigure, none)
abbrev mdX6_init : gMD := (RX6, cX6_init, 1, none, 1, yX6_init, none)
abbrev mdX6_want : gMD := (RX6, cX6_want, 5, none, 2, yX6_want, none)
abbrev mdX6_isNear : gMD := (RX6, cX6_isNear, 4, (some .boolean), 1, yX6_isNear, none)
abbrev mdX6_isOpenWithin : gMD := (RX6, cX6_isOpenWithin, 4, (some .boolean), 1, yX6_isOpenWithin, none)
abbrev mdX6_ticksOpen : gMD := (RX6, cX6_ticksOpen, 3, (some .int), 1, yX6_ticksOpen, none)
abbrev mdX7_init : gMD := (RX7, cX7_init, 2, none, 2, yX7_init, none)
abbrev mdX7_judgeAll : gMD := (RX7, cX7_judgeAll, 5, none, 4, yX7_judgeAll, none)
abbrev mdX7_endedOf : gMD := (RX7, cX7_endedOf, 1, (some .int), 1, yX7_endedOf, none)
abbrev mdX7_firstRuleFor : gMD := (RX7, cX7_firstRuleFor, 4, (some .int), 3, yX7_firstRuleFor, none)
abbrev mdX7_openFor : gMD := (RX7, cX7_openFor, 7, none, 3, yX7_openFor, none)
abbrev mdX7_isBlown : gMD := (RX7, cX7_isBlown, 5, (some .boolean), 2, yX7_isBlown, none)
abbrev mdX7_isBad : gMD := (RX7, cX7_isBad, 2, (some .boolean), 1, yX7_isBad, none)
abbrev mdX7_worth : gMD := (RX7, cX7_worth, 4, (some .int), 2, yX7_worth, none)
abbrev mdX7_howMany : gMD := (RX7, cX7_howMany, 6, (some .int), 4, yX7_howMany, none)
abbrev mdX7_isOneOf : gMD := (RX7, cX7_isOneOf, 5, (some .boolean), 3, yX7_isOneOf, none)
abbrev mdX7_howManyBadBy : gMD := (RX7, cX7_howManyBadBy, 5, (some .int), 2, yX7_howManyBadBy, none)
abbrev mdX8_init : gMD := (RX8, cX8_init, 1, none, 8, yX8_init, none)
abbrev mdX8_write : gMD := (RX8, cX8_write, 2, (some .int), 2, yX8_write, none)
abbrev mdX8_wipe : gMD := (RX8, cX8_wipe, 2, (some .int), 1, yX8_wipe, none)
abbrev mdX8_fault : gMD := (RX8, cX8_fault, 1, (some .int), 6, yX8_fault, none)
abbrev mdX8_lay : gMD := (RX8, cX8_lay, 1, (some .int), 8, yX8_lay, none)
abbrev mdX8_see : gMD := (RX8, cX8_see, 5, (some .int), 6, yX8_see, none)
abbrev mdX8_rule : gMD := (RX8, cX8_rule, 4, (some .int), 6, yX8_rule, none)
abbrev mdX8_clear : gMD := (RX8, cX8_clear, 2, (some .int), 7, yX8_clear, none)
abbrev mdX8_undo : gMD := (RX8, cX8_undo, 1, (some .int), 7, yX8_undo, none)
abbrev mdX8_blob : gMD := (RX8, cX8_blob, 4, (some .int), 3, yX8_blob, none)
abbrev mdX8_open : gMD := (RX8, cX8_open, 2, (some .int), 2, yX8_open, none)
abbrev mdX8_opening : gMD := (RX8, cX8_opening, 5, (some .int), 2, yX8_opening, none)
abbrev mdX8_air : gMD := (RX8, cX8_air, 2, (some .int), 2, yX8_air, none)
abbrev mdX8_gain : gMD := (RX8, cX8_gain, 1, (some .int), 3, yX8_gain, none)
abbrev mdX8_best : gMD := (RX8, cX8_best, 7, (some .int), 6, yX8_best, none)
abbrev mdX8_count : gMD := (RX8, cX8_count, 2, (some .int), 5, yX8_count, none)
abbrev mdX8_told : gMD := (RX8, cX8_told, 3, (some .int), 3, yX8_told, none)
abbrev mdX8_isRule : gMD := (RX8, cX8_isRule, 2, (some .boolean), 1, yX8_isRule, none)
abbrev mdX8_isValve : gMD := (RX8, cX8_isValve, 2, (some .boolean), 1, yX8_isValve, none)
abbrev mdX8_asFlag : gMD := (RX8, cX8_asFlag, 1, (some .int), 1, yX8_asFlag, none)
abbrev mdX8_layDraft : gMD := (RX8, cX8_layDraft, 2, none, 7, yX8_layDraft, none)
abbrev mdX8_dropLines : gMD := (RX8, cX8_dropLines, 1, none, 6, yX8_dropLines, none)
abbrev mdX8_foldAll : gMD := (RX8, cX8_foldAll, 2, none, 6, yX8_foldAll, none)
abbrev mdX8_judge : gMD := (RX8, cX8_judge, 1, none, 5, yX8_judge, none)
abbrev mdX8_worthByNumber : gMD := (RX8, cX8_worthByNumber, 3, (some .int), 5, yX8_worthByNumber, none)
abbrev mdX9_init : gMD := (RX9, cX9_init, 1, none, 2, yX9_init, none)
abbrev mdX9_within : gMD := (RX9, cX9_within, 6, (some .boolean), 1, yX9_within, none)
abbrev mdX9_plans : gMD := (RX9, cX9_plans, 1, none, 1, yX9_plans, none)
abbrev mdX9_passes : gMD := (RX9, cX9_passes, 3, (some .boolean), 1, yX9_passes, none)
abbrev mdX9_isFigure : gMD := (RX9, cX9_isFigure, 1, (some .boolean), 2, yX9_isFigure, none)
abbrev mdX9_number : gMD := (RX9, cX9_number, 4, (some .int), 3, yX9_number, none)
abbrev mdX9_isGate : gMD := (RX9, cX9_isGate, 6, (some .boolean), 4, yX9_isGate, none)
abbrev mdX9_isRule : gMD := (RX9, cX9_isRule, 1, (some .boolean), 4, yX9_isRule, none)
abbrev mdX9_isItem : gMD := (RX9, cX9_isItem, 2, (some .boolean), 5, yX9_isItem, none)
abbrev mdX9_faultAt : gMD := (RX9, cX9_faultAt, 2, (some .int), 6, yX9_faultAt, none)
abbrev mdX9_write : gMD := (RX9, cX9_write, 2, (some .int), 2, yX9_write, none)
abbrev mdX9_wipe : gMD := (RX9, cX9_wipe, 2, (some .int), 1, yX9_wipe, none)
abbrev mdX9_fault : gMD := (RX9, cX9_fault, 1, (some .int), 7, yX9_fault, none)
abbrev mdX9_lay : gMD := (RX9, cX9_lay, 2, (some .int), 7, yX9_lay, none)
abbrev mdX9_keeps : gMD := (RX9, cX9_keeps, 2, none, 1, yX9_keeps, none)
abbrev mdX9_lines : gMD := (RX9, cX9_lines, 1, (some .int), 1, yX9_lines, none)
abbrev mdX9_power : gMD := (RX9, cX9_power, 4, (some .long), 1, yX9_power, none)
abbrev mdX9_see : gMD := (RX9, cX9_see, 4, (some .int), 5, yX9_see, none)
abbrev mdX9_isRuleThere : gMD := (RX9, cX9_isRuleThere, 2, (some .boolean), 2, yX9_isRuleThere, none)
abbrev mdX9_rule : gMD := (RX9, cX9_rule, 4, (some .int), 3, yX9_rule, none)
abbrev mdX9_clear : gMD := (RX9, cX9_clear, 2, (some .int), 2, yX9_clear, none)
abbrev mdX9_undo : gMD := (RX9, cX9_undo, 2, (some .int), 1, yX9_undo, none)
abbrev mdX9_laysCells : gMD := (RX9, cX9_laysCells, 5, none, 2, yX9_laysCells, none)
abbrev mdX9_rootOf : gMD := (RX9, cX9_rootOf, 3, (some .int), 1, yX9_rootOf, none)
abbrev mdX9_joins : gMD := (RX9, cX9_joins, 5, none, 2, yX9_joins, none)
abbrev mdX9_joinsAround : gMD := (RX9, cX9_joinsAround, 5, none, 3, yX9_joinsAround, none)
abbrev mdX9_blobOf : gMD := (RX9, cX9_blobOf, 4, (some .int), 1, yX9_blobOf, none)
abbrev mdX9_begins : gMD := (RX9, cX9_begins, 4, none, 1, yX9_begins, none)
abbrev mdX9_counts : gMD := (RX9, cX9_counts, 6, none, 2, yX9_counts, none)
abbrev mdX9_isAhead : gMD := (RX9, cX9_isAhead, 3, (some .boolean), 1, yX9_isAhead, none)
abbrev mdX9_numbersEnded : gMD := (RX9, cX9_numbersEnded, 3, none, 2, yX9_numbersEnded, none)
abbrev mdX9_laysBlobs : gMD := (RX9, cX9_laysBlobs, 3, none, 4, yX9_laysBlobs, none)
abbrev mdX9_valueOf : gMD := (RX9, cX9_valueOf, 3, (some .int), 1, yX9_valueOf, none)
abbrev mdX9_ruleOf : gMD := (RX9, cX9_ruleOf, 3, (some .int), 2, yX9_ruleOf, none)
abbrev mdX9_perValve : gMD := (RX9, cX9_perValve, 1, (some .int), 1, yX9_perValve, none)
abbrev mdX9_wanted : gMD := (RX9, cX9_wanted, 2, (some .int), 1, yX9_wanted, none)
abbrev mdX9_wants : gMD := (RX9, cX9_wants, 6, none, 2, yX9_wants, none)
abbrev mdX9_rests : gMD := (RX9, cX9_rests, 5, none, 1, yX9_rests, none)
abbrev mdX9_isBlownNow : gMD := (RX9, cX9_isBlownNow, 5, (some .boolean), 2, yX9_isBlownNow, none)
abbrev mdX9_judges : gMD := (RX9, cX9_judges, 3, none, 3, yX9_judges, none)
abbrev mdX9_judgesNow : gMD := (RX9, cX9_judgesNow, 2, none, 5, yX9_judgesNow, none)
abbrev mdX9_isLate : gMD := (RX9, cX9_isLate, 2, (some .boolean), 2, yX9_isLate, none)
abbrev mdX9_tellBlob : gMD := (RX9, cX9_tellBlob, 3, (some .int), 3, yX9_tellBlob, none)
abbrev mdX9_blob : gMD := (RX9, cX9_blob, 3, (some .int), 6, yX9_blob, none)
abbrev mdX9_open : gMD := (RX9, cX9_open, 2, (some .int), 5, yX9_open, none)
abbrev mdX9_isValve : gMD := (RX9, cX9_isValve, 2, (some .boolean), 2, yX9_isValve, none)
abbrev mdX9_opening : gMD := (RX9, cX9_opening, 8, (some .int), 6, yX9_opening, none)
abbrev mdX9_air : gMD := (RX9, cX9_air, 4, (some .int), 6, yX9_air, none)
abbrev mdX9_gained : gMD := (RX9, cX9_gained, 5, (some .int), 1, yX9_gained, none)
abbrev mdX9_gain : gMD := (RX9, cX9_gain, 1, (some .int), 6, yX9_gain, none)
abbrev mdX9_best : gMD := (RX9, cX9_best, 7, (some .int), 6, yX9_best, none)
abbrev mdX9_howMany : gMD := (RX9, cX9_howMany, 7, (some .int), 6, yX9_howMany, none)
abbrev mdX9_endedNow : gMD := (RX9, cX9_endedNow, 1, (some .int), 5, yX9_endedNow, none)
abbrev mdX9_count : gMD := (RX9, cX9_count, 2, (some .int), 7, yX9_count, none)
abbrev mdX9_judgedBy : gMD := (RX9, cX9_judgedBy, 4, (some .int), 6, yX9_judgedBy, none)
abbrev mdX9_told : gMD := (RX9, cX9_told, 3, (some .int), 7, yX9_told, none)
abbrev mdJ7_fill_53178 : gMD := (RJ7, cJ7_fill_53178, 4, none, 1, yJ7_fill_53178, none)
abbrev mdL_law (L : Nat) (xs : Nat → Int32) : gMD := (RL, cL_law, 4, some .boolean, 9, yL_law, some (L, xs))
set_option maxRecDepth 20000 in
theorem in_X0 : ∀ w ∈ u_ws (g_R 0) (g_TT 0) (g_nf 0), w ∈ lw_good := lw_gl [178, 180, 182, 184, 186, 188, 190, 192] (by decide +kernel) (by decide +kernel)
set_option maxRecDepth 20000 in
theorem in_X1 : ∀ w ∈ u_ws (g_R 1) (g_TT 1) (g_nf 1), w ∈ lw_good := lw_gl [204, 206, 208, 210, 212] (by decide +kernel) (by decide +kernel)
set_option maxRecDepth 20000 in
theorem in_X2 : ∀ w ∈ u_ws (g_R 2) (g_TT 2) (g_nf 2), w ∈ lw_good := lw_gl [136, 138, 140] (by decide +kernel) (by decide +kernel)
set_option maxRecDepth 20000 in
theorem in_X3 : ∀ w ∈ u_ws (g_R 3) (g_TT 3) (g_nf 3), w ∈ lw_good := lw_gl [287, 289, 291, 293, 295, 297, 299, 301, 303, 305] (by decide +kernel) (by decide +kernel)
set_option maxRecDepth 20000 in
theorem in_X4 : ∀ w ∈ u_ws (g_R 4) (g_TT 4) (g_nf 4), w ∈ lw_good := lw_gl [115, 117, 119] (by decide +kernel) (by decide +kernel)
set_option maxRecDepth 20000 in
theorem in_X5 : ∀ w ∈ u_ws (g_R 5) (g_TT 5) (g_nf 5), w ∈ lw_good := lw_gl [92, 94, 96, 98] (by decide +kernel) (by decide +kernel)
set_option maxRecDepth 20000 in
theorem in_X6 : ∀ w ∈ u_ws (g_R 6) (g_TT 6) (g_nf 6), w ∈ lw_good := lw_gl [235, 237, 239] (by decide +kernel) (by decide +kernel)
set_option maxRecDepth 20000 in
theorem in_X7 : ∀ w ∈ u_ws (g_R 7) (g_TT 7) (g_nf 7), w ∈ lw_good := lw_gl [249, 251, 253] (by decide +kernel) (by decide +kernel)
set_option maxRecDepth 20000 in
theorem in_X8 : ∀ w ∈ u_ws (g_R 8) (g_TT 8) (g_nf 8), w ∈ lw_good := lw_gl [414, 416, 418, 420, 422, 424, 426, 428, 430] (by decide +kernel) (by decide +kernel)
set_option maxRecDepth 20000 in
theorem in_X9 : ∀ w ∈ u_ws (g_R 9) (g_TT 9) (g_nf 9), w ∈ lw_good := lw_gl [727, 729, 731, 733, 735, 737, 739, 741, 743, 745, 747, 749, 751, 753, 755, 757, 759, 761, 763, 765, 767, 769, 771, 773, 775, 777, 779, 781, 783, 785, 787, 789] (by decide +kernel) (by decide +kernel)
theorem g_inn : ∀ ci : Nat, ci < 10 → ∀ w ∈ u_ws (g_R ci) (g_TT ci) (g_nf ci), w ∈ lw_good
  | 0, _ => in_X0 | 1, _ => in_X1 | 2, _ => in_X2 | 3, _ => in_X3 | 4, _ => in_X4 | 5, _ => in_X5 | 6, _ => in_X6 | 7, _ => in_X7 | 8, _ => in_X8 | 9, _ => in_X9
  | n + 10, h => absurd h (by omega)
theorem miX0_init : g_MI mdX0_init 0 := ⟨lw_gd 153 (by decide +kernel) (by decide +kernel), rfl, lw_gd 65 (by decide +kernel) (by decide +kernel), lw_gd 154 (by decide +kernel) (by decide +kernel), (by decide +kernel), rfl, (by decide +kernel), (by decide +kernel), (by decide +kernel), rfl⟩
theorem mvX0_addCell : g_MV mdX0_addCell 0 4 := ⟨lw_gd 534 (by decide +kernel) (by decide +kernel), lw_gd 535 (by decide +kernel) (by decide +kernel), lw_gd 65 (by decide +kernel) (by decide +kernel), lw_gd 536 (by decide +kernel) (by decide +kernel), (by decide +kernel), rfl, (by decide +kernel), (by decide +kernel), (by decide +kernel)⟩
theorem mvX0_beginAt : g_MV mdX0_beginAt 0 2 := ⟨lw_gd 539 (by decide +kernel) (by decide +kernel), lw_gd 13 (by decide +kernel) (by decide +kernel), lw_gd 65 (by decide +kernel) (by decide +kernel), lw_gd 540 (by decide +kernel) (by decide +kernel), (by decide +kernel), rfl, (by decide +kernel), (by decide +kernel), (by decide +kernel)⟩
theorem mvX0_absorb : g_MV mdX0_absorb 0 1 := ⟨lw_gd 548 (by decide +kernel) (by decide +kernel), lw_gd 549 (by decide +kernel) (by decide +kernel), lw_gd 65 (by decide +kernel) (by decide +kernel), lw_gd 550 (by decide +kernel) (by decide +kernel), (by decide +kernel), rfl, (by decide +kernel), (by decide +kernel), (by decide +kernel)⟩
theorem mvX0_copyFrom : g_MV mdX0_copyFrom 0 1 := ⟨lw_gd 568 (by decide +kernel) (by decide +kernel), lw_gd 569 (by decide +kernel) (by decide +kernel), lw_gd 65 (by decide +kernel) (by decide +kernel), lw_gd 570 (by decide +kernel) (by decide +kernel), (by decide +kernel), rfl, (by decide +kernel), (by decide +kernel), (by decide +kernel)⟩
theorem mvX0_beganBefore : g_MV mdX0_beganBefore 0 1 := ⟨lw_gd 552 (by decide +kernel) (by decide +kernel), lw_gd 553 (by decide +kernel) (by decide +kernel), lw_gd 65 (by decide +kernel) (by decide +kernel), lw_gd 554 (by decide +kernel) (by decide +kernel), (by decide +kernel), rfl, (by decide +kernel), (by decide +kernel), (by decide +kernel)⟩
theorem mvX0_endTick : g_MV mdX0_endTick 0 0 := ⟨lw_gd 375 (by decide +kernel) (by decide +kernel), lw_gd 376 (by decide +kernel) (by decide +kernel), lw_gd 65 (by decide +kernel) (by decide +kernel), lw_gd 377 (by decide +kernel) (by decide +kernel), (by decide +kernel), rfl, (by decide +kernel), (by decide +kernel), (by decide +kernel)⟩
theorem mvX0_mean : g_MV mdX0_mean 0 0 := ⟨lw_gd 359 (by decide +kernel) (by decide +kernel), lw_gd 360 (by decide +kernel) (by decide +kernel), lw_gd 65 (by decide +kernel) (by decide +kernel), lw_gd 361 (by decide +kernel) (by decide +kernel), (by decide +kernel), rfl, (by decide +kernel), (by decide +kernel), (by decide +kernel)⟩
theorem mvX0_measure : g_MV mdX0_measure 0 1 := ⟨lw_gd 355 (by decide +kernel) (by decide +kernel), lw_gd 356 (by decide +kernel) (by decide +kernel), lw_gd 65 (by decide +kernel) (by decide +kernel), lw_gd 357 (by decide +kernel) (by decide +kernel), (by decide +kernel), rfl, (by decide +kernel), (by decide +kernel), (by decide +kernel)⟩
theorem mvX0_worth : g_MV mdX0_worth 0 0 := ⟨lw_gd 647 (by decide +kernel) (by decide +kernel), lw_gd 648 (by decide +kernel) (by decide +kernel), lw_gd 65 (by decide +kernel) (by decide +kernel), lw_gd 649 (by decide +kernel) (by decide +kernel), (by decide +kernel), rfl, (by decide +kernel), (by decide +kernel), (by decide +kernel)⟩
theorem miX1_init : g_MI mdX1_init 0 := ⟨lw_gd 146 (by decide +kernel) (by decide +kernel), rfl, lw_gd 64 (by decide +kernel) (by decide +kernel), lw_gd 147 (by decide +kernel) (by decide +kernel), (by decide +kernel), rfl, (by decide +kernel), (by decide +kernel), (by decide +kernel), rfl⟩
theorem mvX1_empty : g_MV mdX1_empty 1 0 := ⟨lw_gd 331 (by decide +kernel) (by decide +kernel), lw_gd 332 (by decide +kernel) (by decide +kernel), lw_gd 64 (by decide +kernel) (by decide +kernel), lw_gd 333 (by decide +kernel) (by decide +kernel), (by decide +kernel), rfl, (by decide +kernel), (by decide +kernel), (by decide +kernel)⟩
theorem mvX1_addLine : g_MV mdX1_addLine 1 3 := ⟨lw_gd 517 (by decide +kernel) (by decide +kernel), lw_gd 518 (by decide +kernel) (by decide +kernel), lw_gd 64 (by decide +kernel) (by decide +kernel), lw_gd 519 (by decide +kernel) (by decide +kernel), (by decide +kernel), rfl, (by decide +kernel), (by decide +kernel), (by decide +kernel)⟩
theorem mvX1_addCell : g_MV mdX1_addCell 1 4 := ⟨lw_gd 524 (by decide +kernel) (by decide +kernel), lw_gd 11 (by decide +kernel) (by decide +kernel), lw_gd 64 (by decide +kernel) (by decide +kernel), lw_gd 525 (by decide +kernel) (by decide +kernel), (by decide +kernel), rfl, (by decide +kernel), (by decide +kernel), (by decide +kernel)⟩
theorem msX1_ownerAt : g_MS mdX1_ownerAt 2 := ⟨lw_gd 527 (by decide +kernel) (by decide +kernel), lw_gd 64 (by decide +kernel) (by decide +kernel), lw_gd 528 (by decide +kernel) (by decide +kernel), (by decide +kernel), rfl, (by decide +kernel), (by decide +kernel), (by decide +kernel)⟩
theorem mvX1_freeSlot : g_MV mdX1_freeSlot 1 0 := ⟨lw_gd 531 (by decide +kernel) (by decide +kernel), lw_gd 12 (by decide +kernel) (by decide +kernel), lw_gd 64 (by decide +kernel) (by decide +kernel), lw_gd 532 (by decide +kernel) (by decide +kernel), (by decide +kernel), rfl, (by decide +kernel), (by decide +kernel), (by decide +kernel)⟩
theorem mvX1_joinTo : g_MV mdX1_joinTo 1 2 := ⟨lw_gd 545 (by decide +kernel) (by decide +kernel), lw_gd 14 (by decide +kernel) (by decide +kernel), lw_gd 64 (by decide +kernel) (by decide +kernel), lw_gd 546 (by decide +kernel) (by decide +kernel), (by decide +kernel), rfl, (by decide +kernel), (by decide +kernel), (by decide +kernel)⟩
theorem msX1_handOver : g_MS mdX1_handOver 3 := ⟨lw_gd 556 (by decide +kernel) (by decide +kernel), lw_gd 64 (by decide +kernel) (by decide +kernel), lw_gd 557 (by decide +kernel) (by decide +kernel), (by decide +kernel), rfl, (by decide +kernel), (by decide +kernel), (by decide +kernel)⟩
theorem mvX1_endAllWithout : g_MV mdX1_endAllWithout 1 1 := ⟨lw_gd 560 (by decide +kernel) (by decide +kernel), lw_gd 15 (by decide +kernel) (by decide +kernel), lw_gd 64 (by decide +kernel) (by decide +kernel), lw_gd 561 (by decide +kernel) (by decide +kernel), (by decide +kernel), rfl, (by decide +kernel), (by decide +kernel), (by decide +kernel)⟩
theorem mvX1_earliestWithout : g_MV mdX1_earliestWithout 1 1 := ⟨lw_gd 564 (by decide +kernel) (by decide +kernel), lw_gd 16 (by decide +kernel) (by decide +kernel), lw_gd 64 (by decide +kernel) (by decide +kernel), lw_gd 565 (by decide +kernel) (by decide +kernel), (by decide +kernel), rfl, (by decide +kernel), (by decide +kernel), (by decide +kernel)⟩
theorem mvX1_liveBlobs : g_MV mdX1_liveBlobs 1 0 := ⟨lw_gd 615 (by decide +kernel) (by decide +kernel), lw_gd 616 (by decide +kernel) (by decide +kernel), lw_gd 64 (by decide +kernel) (by decide +kernel), lw_gd 617 (by decide +kernel) (by decide +kernel), (by decide +kernel), rfl, (by decide +kernel), (by decide +kernel), (by decide +kernel)⟩
theorem mvX1_liveCells : g_MV mdX1_liveCells 1 0 := ⟨lw_gd 619 (by decide +kernel) (by decide +kernel), lw_gd 620 (by decide +kernel) (by decide +kernel), lw_gd 64 (by decide +kernel) (by decide +kernel), lw_gd 621 (by decide +kernel) (by decide +kernel), (by decide +kernel), rfl, (by decide +kernel), (by decide +kernel), (by decide +kernel)⟩
theorem mvX1_hasEndedWith : g_MV mdX1_hasEndedWith 1 2 := ⟨lw_gd 659 (by decide +kernel) (by decide +kernel), lw_gd 660 (by decide +kernel) (by decide +kernel), lw_gd 64 (by decide +kernel) (by decide +kernel), lw_gd 661 (by decide +kernel) (by decide +kernel), (by decide +kernel), rfl, (by decide +kernel), (by decide +kernel), (by decide +kernel)⟩
theorem miX2_init : g_MI mdX2_init 0 := ⟨lw_gd 126 (by decide +kernel) (by decide +kernel), rfl, lw_gd 63 (by decide +kernel) (by decide +kernel), lw_gd 127 (by decide +kernel) (by decide +kernel), (by decide +kernel), rfl, (by decide +kernel), (by decide +kernel), (by decide +kernel), rfl⟩
theorem mvX2_keep : g_MV mdX2_keep 2 1 := ⟨lw_gd 503 (by decide +kernel) (by decide +kernel), lw_gd 504 (by decide +kernel) (by decide +kernel), lw_gd 63 (by decide +kernel) (by decide +kernel), lw_gd 505 (by decide +kernel) (by decide +kernel), (by decide +kernel), rfl, (by decide +kernel), (by decide +kernel), (by decide +kernel)⟩
theorem mvX2_giveBack : g_MV mdX2_giveBack 2 1 := ⟨lw_gd 588 (by decide +kernel) (by decide +kernel), lw_gd 589 (by decide +kernel) (by decide +kernel), lw_gd 63 (by decide +kernel) (by decide +kernel), lw_gd 590 (by decide +kernel) (by decide +kernel), (by decide +kernel), rfl, (by decide +kernel), (by decide +kernel), (by decide +kernel)⟩
theorem mvX2_forget : g_MV mdX2_forget 2 0 := ⟨lw_gd 323 (by decide +kernel) (by decide +kernel), lw_gd 324 (by decide +kernel) (by decide +kernel), lw_gd 63 (by decide +kernel) (by decide +kernel), lw_gd 325 (by decide +kernel) (by decide +kernel), (by decide +kernel), rfl, (by decide +kernel), (by decide +kernel), (by decide +kernel)⟩
theorem miX3_init : g_MI mdX3_init 0 := ⟨lw_gd 259 (by decide +kernel) (by decide +kernel), rfl, lw_gd 68 (by decide +kernel) (by decide +kernel), lw_gd 260 (by decide +kernel) (by decide +kernel), (by decide +kernel), rfl, (by decide +kernel), (by decide +kernel), (by decide +kernel), rfl⟩
theorem mvX3_reset : g_MV mdX3_reset 3 0 := ⟨lw_gd 263 (by decide +kernel) (by decide +kernel), lw_gd 264 (by decide +kernel) (by decide +kernel), lw_gd 68 (by decide +kernel) (by decide +kernel), lw_gd 265 (by decide +kernel) (by decide +kernel), (by decide +kernel), rfl, (by decide +kernel), (by decide +kernel), (by decide +kernel)⟩
theorem mvX3_takeItem : g_MV mdX3_takeItem 3 2 := ⟨lw_gd 473 (by decide +kernel) (by decide +kernel), lw_gd 474 (by decide +kernel) (by decide +kernel), lw_gd 68 (by decide +kernel) (by decide +kernel), lw_gd 475 (by decide +kernel) (by decide +kernel), (by decide +kernel), rfl, (by decide +kernel), (by decide +kernel), (by decide +kernel)⟩
theorem mvX3_takeGrid : g_MV mdX3_takeGrid 3 1 := ⟨lw_gd 478 (by decide +kernel) (by decide +kernel), lw_gd 8 (by decide +kernel) (by decide +kernel), lw_gd 68 (by decide +kernel) (by decide +kernel), lw_gd 479 (by decide +kernel) (by decide +kernel), (by decide +kernel), rfl, (by decide +kernel), (by decide +kernel), (by decide +kernel)⟩
theorem mvX3_addRule : g_MV mdX3_addRule 3 2 := ⟨lw_gd 309 (by decide +kernel) (by decide +kernel), lw_gd 310 (by decide +kernel) (by decide +kernel), lw_gd 68 (by decide +kernel) (by decide +kernel), lw_gd 311 (by decide +kernel) (by decide +kernel), (by decide +kernel), rfl, (by decide +kernel), (by decide +kernel), (by decide +kernel)⟩
theorem mvX3_takeDark : g_MV mdX3_takeDark 3 1 := ⟨lw_gd 483 (by decide +kernel) (by decide +kernel), lw_gd 9 (by decide +kernel) (by decide +kernel), lw_gd 68 (by decide +kernel) (by decide +kernel), lw_gd 484 (by decide +kernel) (by decide +kernel), (by decide +kernel), rfl, (by decide +kernel), (by decide +kernel), (by decide +kernel)⟩
theorem mvX3_takeRest : g_MV mdX3_takeRest 3 1 := ⟨lw_gd 487 (by decide +kernel) (by decide +kernel), lw_gd 10 (by decide +kernel) (by decide +kernel), lw_gd 68 (by decide +kernel) (by decide +kernel), lw_gd 488 (by decide +kernel) (by decide +kernel), (by decide +kernel), rfl, (by decide +kernel), (by decide +kernel), (by decide +kernel)⟩
theorem msX3_isBetween : g_MS mdX3_isBetween 3 := ⟨lw_gd 313 (by decide +kernel) (by decide +kernel), lw_gd 68 (by decide +kernel) (by decide +kernel), lw_gd 314 (by decide +kernel) (by decide +kernel), (by decide +kernel), rfl, (by decide +kernel), (by decide +kernel), (by decide +kernel)⟩
theorem mvX3_lineBound : g_MV mdX3_lineBound 3 0 := ⟨lw_gd 498 (by decide +kernel) (by decide +kernel), lw_gd 499 (by decide +kernel) (by decide +kernel), lw_gd 68 (by decide +kernel) (by decide +kernel), lw_gd 500 (by decide +kernel) (by decide +kernel), (by decide +kernel), rfl, (by decide +kernel), (by decide +kernel), (by decide +kernel)⟩
theorem mvX3_valveOver : g_MV mdX3_valveOver 3 1 := ⟨lw_gd 386 (by decide +kernel) (by decide +kernel), lw_gd 387 (by decide +kernel) (by decide +kernel), lw_gd 68 (by decide +kernel) (by decide +kernel), lw_gd 388 (by decide +kernel) (by decide +kernel), (by decide +kernel), rfl, (by decide +kernel), (by decide +kernel), (by decide +kernel)⟩
theorem mvX3_wantedFrom : g_MV mdX3_wantedFrom 3 1 := ⟨lw_gd 379 (by decide +kernel) (by decide +kernel), lw_gd 380 (by decide +kernel) (by decide +kernel), lw_gd 68 (by decide +kernel) (by decide +kernel), lw_gd 381 (by decide +kernel) (by decide +kernel), (by decide +kernel), rfl, (by decide +kernel), (by decide +kernel), (by decide +kernel)⟩
theorem mvX3_wantedTo : g_MV mdX3_wantedTo 3 1 := ⟨lw_gd 371 (by decide +kernel) (by decide +kernel), lw_gd 372 (by decide +kernel) (by decide +kernel), lw_gd 68 (by decide +kernel) (by decide +kernel), lw_gd 373 (by decide +kernel) (by decide +kernel), (by decide +kernel), rfl, (by decide +kernel), (by decide +kernel), (by decide +kernel)⟩
theorem mvX3_isLate : g_MV mdX3_isLate 3 1 := ⟨lw_gd 602 (by decide +kernel) (by decide +kernel), lw_gd 603 (by decide +kernel) (by decide +kernel), lw_gd 68 (by decide +kernel) (by decide +kernel), lw_gd 604 (by decide +kernel) (by decide +kernel), (by decide +kernel), rfl, (by decide +kernel), (by decide +kernel), (by decide +kernel)⟩
theorem miX4_init : g_MI mdX4_init 0 := ⟨lw_gd 106 (by decide +kernel) (by decide +kernel), rfl, lw_gd 62 (by decide +kernel) (by decide +kernel), lw_gd 107 (by decide +kernel) (by decide +kernel), (by decide +kernel), rfl, (by decide +kernel), (by decide +kernel), (by decide +kernel), rfl⟩
theorem mvX4_addLine : g_MV mdX4_addLine 4 1 := ⟨lw_gd 513 (by decide +kernel) (by decide +kernel), lw_gd 514 (by decide +kernel) (by decide +kernel), lw_gd 62 (by decide +kernel) (by decide +kernel), lw_gd 515 (by decide +kernel) (by decide +kernel), (by decide +kernel), rfl, (by decide +kernel), (by decide +kernel), (by decide +kernel)⟩
theorem mvX4_copyFrom : g_MV mdX4_copyFrom 4 1 := ⟨lw_gd 507 (by decide +kernel) (by decide +kernel), lw_gd 508 (by decide +kernel) (by decide +kernel), lw_gd 62 (by decide +kernel) (by decide +kernel), lw_gd 509 (by decide +kernel) (by decide +kernel), (by decide +kernel), rfl, (by decide +kernel), (by decide +kernel), (by decide +kernel)⟩
theorem miX5_init : g_MI mdX5_init 0 := ⟨lw_gd 84 (by decide +kernel) (by decide +kernel), rfl, lw_gd 61 (by decide +kernel) (by decide +kernel), lw_gd 85 (by decide +kernel) (by decide +kernel), (by decide +kernel), rfl, (by decide +kernel), (by decide +kernel), (by decide +kernel), rfl⟩
theorem mvX5_append : g_MV mdX5_append 5 1 := ⟨lw_gd 438 (by decide +kernel) (by decide +kernel), lw_gd 439 (by decide +kernel) (by decide +kernel), lw_gd 61 (by decide +kernel) (by decide +kernel), lw_gd 440 (by decide +kernel) (by decide +kernel), (by decide +kernel), rfl, (by decide +kernel), (by decide +kernel), (by decide +kernel)⟩
theorem mvX5_readInto : g_MV mdX5_readInto 5 1 := ⟨lw_gd 450 (by decide +kernel) (by decide +kernel), lw_gd 451 (by decide +kernel) (by decide +kernel), lw_gd 61 (by decide +kernel) (by decide +kernel), lw_gd 452 (by decide +kernel) (by decide +kernel), (by decide +kernel), rfl, (by decide +kernel), (by decide +kernel), (by decide +kernel)⟩
theorem mvX5_readItem : g_MV mdX5_readItem 5 1 := ⟨lw_gd 456 (by decide +kernel) (by decide +kernel), lw_gd 5 (by decide +kernel) (by decide +kernel), lw_gd 61 (by decide +kernel) (by decide +kernel), lw_gd 457 (by decide +kernel) (by decide +kernel), (by decide +kernel), rfl, (by decide +kernel), (by decide +kernel), (by decide +kernel)⟩
theorem msX5_numbersBehind : g_MS mdX5_numbersBehind 1 := ⟨lw_gd 463 (by decide +kernel) (by decide +kernel), lw_gd 61 (by decide +kernel) (by decide +kernel), lw_gd 464 (by decide +kernel) (by decide +kernel), (by decide +kernel), rfl, (by decide +kernel), (by decide +kernel), (by decide +kernel)⟩
theorem mvX5_readNumber : g_MV mdX5_readNumber 5 1 := ⟨lw_gd 467 (by decide +kernel) (by decide +kernel), lw_gd 7 (by decide +kernel) (by decide +kernel), lw_gd 61 (by decide +kernel) (by decide +kernel), lw_gd 468 (by decide +kernel) (by decide +kernel), (by decide +kernel), rfl, (by decide +kernel), (by decide +kernel), (by decide +kernel)⟩
theorem mvX5_letterHere : g_MV mdX5_letterHere 5 0 := ⟨lw_gd 460 (by decide +kernel) (by decide +kernel), lw_gd 6 (by decide +kernel) (by decide +kernel), lw_gd 61 (by decide +kernel) (by decide +kernel), lw_gd 461 (by decide +kernel) (by decide +kernel), (by decide +kernel), rfl, (by decide +kernel), (by decide +kernel), (by decide +kernel)⟩
theorem msX5_isFigure : g_MS mdX5_isFigure 1 := ⟨lw_gd 470 (by decide +kernel) (by decide +kernel), lw_gd 61 (by decide +kernel) (by decide +kernel), lw_gd 471 (by decide +kernel) (by decide +kernel), (by decide +kernel), rfl, (by decide +kernel), (by decide +kernel), (by decide +kernel)⟩
theorem miX6_init : g_MI mdX6_init 0 := ⟨lw_gd 225 (by decide +kernel) (by decide +kernel), rfl, lw_gd 67 (by decide +kernel) (by decide +kernel), lw_gd 226 (by decide +kernel) (by decide +kernel), (by decide +kernel), rfl, (by decide +kernel), (by decide +kernel), (by decide +kernel), rfl⟩
theorem mvX6_want : g_MV mdX6_want 6 3 := ⟨lw_gd 390 (by decide +kernel) (by decide +kernel), lw_gd 391 (by decide +kernel) (by decide +kernel), lw_gd 67 (by decide +kernel) (by decide +kernel), lw_gd 392 (by decide +kernel) (by decide +kernel), (by decide +kernel), rfl, (by decide +kernel), (by decide +kernel), (by decide +kernel)⟩
theorem msX6_isNear : g_MS mdX6_isNear 3 := ⟨lw_gd 394 (by decide +kernel) (by decide +kernel), lw_gd 67 (by decide +kernel) (by decide +kernel), lw_gd 395 (by decide +kernel) (by decide +kernel), (by decide +kernel), rfl, (by decide +kernel), (by decide +kernel), (by decide +kernel)⟩
theorem mvX6_isOpenWithin : g_MV mdX6_isOpenWithin 6 2 := ⟨lw_gd 402 (by decide +kernel) (by decide +kernel), lw_gd 403 (by decide +kernel) (by decide +kernel), lw_gd 67 (by decide +kernel) (by decide +kernel), lw_gd 404 (by decide +kernel) (by decide +kernel), (by decide +kernel), rfl, (by decide +kernel), (by decide +kernel), (by decide +kernel)⟩
theorem mvX6_ticksOpen : g_MV mdX6_ticksOpen 6 0 := ⟨lw_gd 635 (by decide +kernel) (by decide +kernel), lw_gd 636 (by decide +kernel) (by decide +kernel), lw_gd 67 (by decide +kernel) (by decide +kernel), lw_gd 637 (by decide +kernel) (by decide +kernel), (by decide +kernel), rfl, (by decide +kernel), (by decide +kernel), (by decide +kernel)⟩
theorem miX7_init : g_MI mdX7_init 0 := ⟨lw_gd 218 (by decide +kernel) (by decide +kernel), rfl, lw_gd 66 (by decide +kernel) (by decide +kernel), lw_gd 219 (by decide +kernel) (by decide +kernel), (by decide +kernel), rfl, (by decide +kernel), (by decide +kernel), (by decide +kernel), rfl⟩
theorem mvX7_judgeAll : g_MV mdX7_judgeAll 7 3 := ⟨lw_gd 342 (by decide +kernel) (by decide +kernel), lw_gd 343 (by decide +kernel) (by decide +kernel), lw_gd 66 (by decide +kernel) (by decide +kernel), lw_gd 344 (by decide +kernel) (by decide +kernel), (by decide +kernel), rfl, (by decide +kernel), (by decide +kernel), (by decide +kernel)⟩
theorem msX7_endedOf : g_MS mdX7_endedOf 1 := ⟨lw_gd 346 (by decide +kernel) (by decide +kernel), lw_gd 66 (by decide +kernel) (by decide +kernel), lw_gd 347 (by decide +kernel) (by decide +kernel), (by decide +kernel), rfl, (by decide +kernel), (by decide +kernel), (by decide +kernel)⟩
theorem msX7_firstRuleFor : g_MS mdX7_firstRuleFor 3 := ⟨lw_gd 352 (by decide +kernel) (by decide +kernel), lw_gd 66 (by decide +kernel) (by decide +kernel), lw_gd 353 (by decide +kernel) (by decide +kernel), (by decide +kernel), rfl, (by decide +kernel), (by decide +kernel), (by decide +kernel)⟩
theorem mvX7_openFor : g_MV mdX7_openFor 7 2 := ⟨lw_gd 368 (by decide +kernel) (by decide +kernel), lw_gd 3 (by decide +kernel) (by decide +kernel), lw_gd 66 (by decide +kernel) (by decide +kernel), lw_gd 369 (by decide +kernel) (by decide +kernel), (by decide +kernel), rfl, (by decide +kernel), (by decide +kernel), (by decide +kernel)⟩
theorem mvX7_isBlown : g_MV mdX7_isBlown 7 2 := ⟨lw_gd 399 (by decide +kernel) (by decide +kernel), lw_gd 4 (by decide +kernel) (by decide +kernel), lw_gd 66 (by decide +kernel) (by decide +kernel), lw_gd 400 (by decide +kernel) (by decide +kernel), (by decide +kernel), rfl, (by decide +kernel), (by decide +kernel), (by decide +kernel)⟩
theorem mvX7_isBad : g_MV mdX7_isBad 7 1 := ⟨lw_gd 363 (by decide +kernel) (by decide +kernel), lw_gd 364 (by decide +kernel) (by decide +kernel), lw_gd 66 (by decide +kernel) (by decide +kernel), lw_gd 365 (by decide +kernel) (by decide +kernel), (by decide +kernel), rfl, (by decide +kernel), (by decide +kernel), (by decide +kernel)⟩
theorem mvX7_worth : g_MV mdX7_worth 7 1 := ⟨lw_gd 643 (by decide +kernel) (by decide +kernel), lw_gd 644 (by decide +kernel) (by decide +kernel), lw_gd 66 (by decide +kernel) (by decide +kernel), lw_gd 645 (by decide +kernel) (by decide +kernel), (by decide +kernel), rfl, (by decide +kernel), (by decide +kernel), (by decide +kernel)⟩
theorem mvX7_howMany : g_MV mdX7_howMany 7 3 := ⟨lw_gd 668 (by decide +kernel) (by decide +kernel), lw_gd 669 (by decide +kernel) (by decide +kernel), lw_gd 66 (by decide +kernel) (by decide +kernel), lw_gd 670 (by decide +kernel) (by decide +kernel), (by decide +kernel), rfl, (by decide +kernel), (by decide +kernel), (by decide +kernel)⟩
theorem mvX7_isOneOf : g_MV mdX7_isOneOf 7 4 := ⟨lw_gd 673 (by decide +kernel) (by decide +kernel), lw_gd 21 (by decide +kernel) (by decide +kernel), lw_gd 66 (by decide +kernel) (by decide +kernel), lw_gd 674 (by decide +kernel) (by decide +kernel), (by decide +kernel), rfl, (by decide +kernel), (by decide +kernel), (by decide +kernel)⟩
theorem mvX7_howManyBadBy : g_MV mdX7_howManyBadBy 7 2 := ⟨lw_gd 681 (by decide +kernel) (by decide +kernel), lw_gd 682 (by decide +kernel) (by decide +kernel), lw_gd 66 (by decide +kernel) (by decide +kernel), lw_gd 683 (by decide +kernel) (by decide +kernel), (by decide +kernel), rfl, (by decide +kernel), (by decide +kernel), (by decide +kernel)⟩
theorem miX8_init : g_MI mdX8_init 0 := ⟨lw_gd 76 (by decide +kernel) (by decide +kernel), rfl, lw_gd 60 (by decide +kernel) (by decide +kernel), lw_gd 77 (by decide +kernel) (by decide +kernel), (by decide +kernel), rfl, (by decide +kernel), (by decide +kernel), (by decide +kernel), rfl⟩
theorem mvX8_write : g_MV mdX8_write 8 1 := ⟨lw_gd 434 (by decide +kernel) (by decide +kernel), lw_gd 435 (by decide +kernel) (by decide +kernel), lw_gd 60 (by decide +kernel) (by decide +kernel), lw_gd 436 (by decide +kernel) (by decide +kernel), (by decide +kernel), rfl, (by decide +kernel), (by decide +kernel), (by decide +kernel)⟩
theorem mvX8_wipe : g_MV mdX8_wipe 8 0 := ⟨lw_gd 442 (by decide +kernel) (by decide +kernel), lw_gd 443 (by decide +kernel) (by decide +kernel), lw_gd 60 (by decide +kernel) (by decide +kernel), lw_gd 444 (by decide +kernel) (by decide +kernel), (by decide +kernel), rfl, (by decide +kernel), (by decide +kernel), (by decide +kernel)⟩
theorem mvX8_fault : g_MV mdX8_fault 8 0 := ⟨lw_gd 446 (by decide +kernel) (by decide +kernel), lw_gd 447 (by decide +kernel) (by decide +kernel), lw_gd 60 (by decide +kernel) (by decide +kernel), lw_gd 448 (by decide +kernel) (by decide +kernel), (by decide +kernel), rfl, (by decide +kernel), (by decide +kernel), (by decide +kernel)⟩
theorem mvX8_lay : g_MV mdX8_lay 8 0 := ⟨lw_gd 490 (by decide +kernel) (by decide +kernel), lw_gd 491 (by decide +kernel) (by decide +kernel), lw_gd 60 (by decide +kernel) (by decide +kernel), lw_gd 492 (by decide +kernel) (by decide +kernel), (by decide +kernel), rfl, (by decide +kernel), (by decide +kernel), (by decide +kernel)⟩
theorem mvX8_see : g_MV mdX8_see 8 1 := ⟨lw_gd 494 (by decide +kernel) (by decide +kernel), lw_gd 495 (by decide +kernel) (by decide +kernel), lw_gd 60 (by decide +kernel) (by decide +kernel), lw_gd 496 (by decide +kernel) (by decide +kernel), (by decide +kernel), rfl, (by decide +kernel), (by decide +kernel), (by decide +kernel)⟩
theorem mvX8_rule : g_MV mdX8_rule 8 2 := ⟨lw_gd 572 (by decide +kernel) (by decide +kernel), lw_gd 573 (by decide +kernel) (by decide +kernel), lw_gd 60 (by decide +kernel) (by decide +kernel), lw_gd 574 (by decide +kernel) (by decide +kernel), (by decide +kernel), rfl, (by decide +kernel), (by decide +kernel), (by decide +kernel)⟩
theorem mvX8_clear : g_MV mdX8_clear 8 0 := ⟨lw_gd 580 (by decide +kernel) (by decide +kernel), lw_gd 581 (by decide +kernel) (by decide +kernel), lw_gd 60 (by decide +kernel) (by decide +kernel), lw_gd 582 (by decide +kernel) (by decide +kernel), (by decide +kernel), rfl, (by decide +kernel), (by decide +kernel), (by decide +kernel)⟩
theorem mvX8_undo : g_MV mdX8_undo 8 0 := ⟨lw_gd 584 (by decide +kernel) (by decide +kernel), lw_gd 585 (by decide +kernel) (by decide +kernel), lw_gd 60 (by decide +kernel) (by decide +kernel), lw_gd 586 (by decide +kernel) (by decide +kernel), (by decide +kernel), rfl, (by decide +kernel), (by decide +kernel), (by decide +kernel)⟩
theorem mvX8_blob : g_MV mdX8_blob 8 2 := ⟨lw_gd 596 (by decide +kernel) (by decide +kernel), lw_gd 597 (by decide +kernel) (by decide +kernel), lw_gd 60 (by decide +kernel) (by decide +kernel), lw_gd 598 (by decide +kernel) (by decide +kernel), (by decide +kernel), rfl, (by decide +kernel), (by decide +kernel), (by decide +kernel)⟩
theorem mvX8_open : g_MV mdX8_open 8 1 := ⟨lw_gd 611 (by decide +kernel) (by decide +kernel), lw_gd 612 (by decide +kernel) (by decide +kernel), lw_gd 60 (by decide +kernel) (by decide +kernel), lw_gd 613 (by decide +kernel) (by decide +kernel), (by decide +kernel), rfl, (by decide +kernel), (by decide +kernel), (by decide +kernel)⟩
theorem mvX8_opening : g_MV mdX8_opening 8 3 := ⟨lw_gd 623 (by decide +kernel) (by decide +kernel), lw_gd 624 (by decide +kernel) (by decide +kernel), lw_gd 60 (by decide +kernel) (by decide +kernel), lw_gd 625 (by decide +kernel) (by decide +kernel), (by decide +kernel), rfl, (by decide +kernel), (by decide +kernel), (by decide +kernel)⟩
theorem mvX8_air : g_MV mdX8_air 8 1 := ⟨lw_gd 631 (by decide +kernel) (by decide +kernel), lw_gd 632 (by decide +kernel) (by decide +kernel), lw_gd 60 (by decide +kernel) (by decide +kernel), lw_gd 633 (by decide +kernel) (by decide +kernel), (by decide +kernel), rfl, (by decide +kernel), (by decide +kernel), (by decide +kernel)⟩
theorem mvX8_gain : g_MV mdX8_gain 8 0 := ⟨lw_gd 639 (by decide +kernel) (by decide +kernel), lw_gd 640 (by decide +kernel) (by decide +kernel), lw_gd 60 (by decide +kernel) (by decide +kernel), lw_gd 641 (by decide +kernel) (by decide +kernel), (by decide +kernel), rfl, (by decide +kernel), (by decide +kernel), (by decide +kernel)⟩
theorem mvX8_best : g_MV mdX8_best 8 2 := ⟨lw_gd 651 (by decide +kernel) (by decide +kernel), lw_gd 652 (by decide +kernel) (by decide +kernel), lw_gd 60 (by decide +kernel) (by decide +kernel), lw_gd 653 (by decide +kernel) (by decide +kernel), (by decide +kernel), rfl, (by decide +kernel), (by decide +kernel), (by decide +kernel)⟩
theorem mvX8_count : g_MV mdX8_count 8 1 := ⟨lw_gd 664 (by decide +kernel) (by decide +kernel), lw_gd 665 (by decide +kernel) (by decide +kernel), lw_gd 60 (by decide +kernel) (by decide +kernel), lw_gd 666 (by decide +kernel) (by decide +kernel), (by decide +kernel), rfl, (by decide +kernel), (by decide +kernel), (by decide +kernel)⟩
theorem mvX8_told : g_MV mdX8_told 8 2 := ⟨lw_gd 677 (by decide +kernel) (by decide +kernel), lw_gd 678 (by decide +kernel) (by decide +kernel), lw_gd 60 (by decide +kernel) (by decide +kernel), lw_gd 679 (by decide +kernel) (by decide +kernel), (by decide +kernel), rfl, (by decide +kernel), (by decide +kernel), (by decide +kernel)⟩
theorem mvX8_isRule : g_MV mdX8_isRule 8 1 := ⟨lw_gd 577 (by decide +kernel) (by decide +kernel), lw_gd 17 (by decide +kernel) (by decide +kernel), lw_gd 60 (by decide +kernel) (by decide +kernel), lw_gd 578 (by decide +kernel) (by decide +kernel), (by decide +kernel), rfl, (by decide +kernel), (by decide +kernel), (by decide +kernel)⟩
theorem mvX8_isValve : g_MV mdX8_isValve 8 1 := ⟨lw_gd 628 (by decide +kernel) (by decide +kernel), lw_gd 19 (by decide +kernel) (by decide +kernel), lw_gd 60 (by decide +kernel) (by decide +kernel), lw_gd 629 (by decide +kernel) (by decide +kernel), (by decide +kernel), rfl, (by decide +kernel), (by decide +kernel), (by decide +kernel)⟩
theorem msX8_asFlag : g_MS mdX8_asFlag 1 := ⟨lw_gd 608 (by decide +kernel) (by decide +kernel), lw_gd 60 (by decide +kernel) (by decide +kernel), lw_gd 609 (by decide +kernel) (by decide +kernel), (by decide +kernel), rfl, (by decide +kernel), (by decide +kernel), (by decide +kernel)⟩
theorem mvX8_layDraft : g_MV mdX8_layDraft 8 0 := ⟨lw_gd 317 (by decide +kernel) (by decide +kernel), lw_gd 0 (by decide +kernel) (by decide +kernel), lw_gd 60 (by decide +kernel) (by decide +kernel), lw_gd 318 (by decide +kernel) (by decide +kernel), (by decide +kernel), rfl, (by decide +kernel), (by decide +kernel), (by decide +kernel)⟩
theorem mvX8_dropLines : g_MV mdX8_dropLines 8 0 := ⟨lw_gd 328 (by decide +kernel) (by decide +kernel), lw_gd 1 (by decide +kernel) (by decide +kernel), lw_gd 60 (by decide +kernel) (by decide +kernel), lw_gd 329 (by decide +kernel) (by decide +kernel), (by decide +kernel), rfl, (by decide +kernel), (by decide +kernel), (by decide +kernel)⟩
theorem mvX8_foldAll : g_MV mdX8_foldAll 8 0 := ⟨lw_gd 593 (by decide +kernel) (by decide +kernel), lw_gd 18 (by decide +kernel) (by decide +kernel), lw_gd 60 (by decide +kernel) (by decide +kernel), lw_gd 594 (by decide +kernel) (by decide +kernel), (by decide +kernel), rfl, (by decide +kernel), (by decide +kernel), (by decide +kernel)⟩
theorem mvX8_judge : g_MV mdX8_judge 8 0 := ⟨lw_gd 339 (by decide +kernel) (by decide +kernel), lw_gd 2 (by decide +kernel) (by decide +kernel), lw_gd 60 (by decide +kernel) (by decide +kernel), lw_gd 340 (by decide +kernel) (by decide +kernel), (by decide +kernel), rfl, (by decide +kernel), (by decide +kernel), (by decide +kernel)⟩
theorem mvX8_worthByNumber : g_MV mdX8_worthByNumber 8 2 := ⟨lw_gd 656 (by decide +kernel) (by decide +kernel), lw_gd 20 (by decide +kernel) (by decide +kernel), lw_gd 60 (by decide +kernel) (by decide +kernel), lw_gd 657 (by decide +kernel) (by decide +kernel), (by decide +kernel), rfl, (by decide +kernel), (by decide +kernel), (by decide +kernel)⟩
theorem miX9_init : g_MI mdX9_init 0 := ⟨lw_gd 687 (by decide +kernel) (by decide +kernel), rfl, lw_gd 72 (by decide +kernel) (by decide +kernel), lw_gd 688 (by decide +kernel) (by decide +kernel), (by decide +kernel), rfl, (by decide +kernel), (by decide +kernel), (by decide +kernel), rfl⟩
theorem msX9_within : g_MS mdX9_within 3 := ⟨lw_gd 799 (by decide +kernel) (by decide +kernel), lw_gd 72 (by decide +kernel) (by decide +kernel), lw_gd 800 (by decide +kernel) (by decide +kernel), (by decide +kernel), rfl, (by decide +kernel), (by decide +kernel), (by decide +kernel)⟩
theorem msX9_plans : g_MS mdX9_plans 1 := ⟨lw_gd 691 (by decide +kernel) (by decide +kernel), lw_gd 72 (by decide +kernel) (by decide +kernel), lw_gd 692 (by decide +kernel) (by decide +kernel), (by decide +kernel), rfl, (by decide +kernel), (by decide +kernel), (by decide +kernel)⟩
theorem mvX9_passes : g_MV mdX9_passes 9 1 := ⟨lw_gd 819 (by decide +kernel) (by decide +kernel), lw_gd 24 (by decide +kernel) (by decide +kernel), lw_gd 72 (by decide +kernel) (by decide +kernel), lw_gd 820 (by decide +kernel) (by decide +kernel), (by decide +kernel), rfl, (by decide +kernel), (by decide +kernel), (by decide +kernel)⟩
theorem mvX9_isFigure : g_MV mdX9_isFigure 9 0 := ⟨lw_gd 831 (by decide +kernel) (by decide +kernel), lw_gd 27 (by decide +kernel) (by decide +kernel), lw_gd 72 (by decide +kernel) (by decide +kernel), lw_gd 832 (by decide +kernel) (by decide +kernel), (by decide +kernel), rfl, (by decide +kernel), (by decide +kernel), (by decide +kernel)⟩
theorem mvX9_number : g_MV mdX9_number 9 2 := ⟨lw_gd 827 (by decide +kernel) (by decide +kernel), lw_gd 26 (by decide +kernel) (by decide +kernel), lw_gd 72 (by decide +kernel) (by decide +kernel), lw_gd 828 (by decide +kernel) (by decide +kernel), (by decide +kernel), rfl, (by decide +kernel), (by decide +kernel), (by decide +kernel)⟩
theorem mvX9_isGate : g_MV mdX9_isGate 9 0 := ⟨lw_gd 823 (by decide +kernel) (by decide +kernel), lw_gd 25 (by decide +kernel) (by decide +kernel), lw_gd 72 (by decide +kernel) (by decide +kernel), lw_gd 824 (by decide +kernel) (by decide +kernel), (by decide +kernel), rfl, (by decide +kernel), (by decide +kernel), (by decide +kernel)⟩
theorem mvX9_isRule : g_MV mdX9_isRule 9 0 := ⟨lw_gd 837 (by decide +kernel) (by decide +kernel), lw_gd 28 (by decide +kernel) (by decide +kernel), lw_gd 72 (by decide +kernel) (by decide +kernel), lw_gd 838 (by decide +kernel) (by decide +kernel), (by decide +kernel), rfl, (by decide +kernel), (by decide +kernel), (by decide +kernel)⟩
theorem mvX9_isItem : g_MV mdX9_isItem 9 0 := ⟨lw_gd 815 (by decide +kernel) (by decide +kernel), lw_gd 23 (by decide +kernel) (by decide +kernel), lw_gd 72 (by decide +kernel) (by decide +kernel), lw_gd 816 (by decide +kernel) (by decide +kernel), (by decide +kernel), rfl, (by decide +kernel), (by decide +kernel), (by decide +kernel)⟩
theorem mvX9_faultAt : g_MV mdX9_faultAt 9 0 := ⟨lw_gd 811 (by decide +kernel) (by decide +kernel), lw_gd 22 (by decide +kernel) (by decide +kernel), lw_gd 72 (by decide +kernel) (by decide +kernel), lw_gd 812 (by decide +kernel) (by decide +kernel), (by decide +kernel), rfl, (by decide +kernel), (by decide +kernel), (by decide +kernel)⟩
theorem mvX9_write : g_MV mdX9_write 9 1 := ⟨lw_gd 793 (by decide +kernel) (by decide +kernel), lw_gd 794 (by decide +kernel) (by decide +kernel), lw_gd 72 (by decide +kernel) (by decide +kernel), lw_gd 795 (by decide +kernel) (by decide +kernel), (by decide +kernel), rfl, (by decide +kernel), (by decide +kernel), (by decide +kernel)⟩
theorem mvX9_wipe : g_MV mdX9_wipe 9 0 := ⟨lw_gd 802 (by decide +kernel) (by decide +kernel), lw_gd 803 (by decide +kernel) (by decide +kernel), lw_gd 72 (by decide +kernel) (by decide +kernel), lw_gd 804 (by decide +kernel) (by decide +kernel), (by decide +kernel), rfl, (by decide +kernel), (by decide +kernel), (by decide +kernel)⟩
theorem mvX9_fault : g_MV mdX9_fault 9 0 := ⟨lw_gd 806 (by decide +kernel) (by decide +kernel), lw_gd 807 (by decide +kernel) (by decide +kernel), lw_gd 72 (by decide +kernel) (by decide +kernel), lw_gd 808 (by decide +kernel) (by decide +kernel), (by decide +kernel), rfl, (by decide +kernel), (by decide +kernel), (by decide +kernel)⟩
theorem mvX9_lay : g_MV mdX9_lay 9 0 := ⟨lw_gd 840 (by decide +kernel) (by decide +kernel), lw_gd 841 (by decide +kernel) (by decide +kernel), lw_gd 72 (by decide +kernel) (by decide +kernel), lw_gd 842 (by decide +kernel) (by decide +kernel), (by decide +kernel), rfl, (by decide +kernel), (by decide +kernel), (by decide +kernel)⟩
theorem mvX9_keeps : g_MV mdX9_keeps 9 0 := ⟨lw_gd 898 (by decide +kernel) (by decide +kernel), lw_gd 41 (by decide +kernel) (by decide +kernel), lw_gd 72 (by decide +kernel) (by decide +kernel), lw_gd 899 (by decide +kernel) (by decide +kernel), (by decide +kernel), rfl, (by decide +kernel), (by decide +kernel), (by decide +kernel)⟩
theorem mvX9_lines : g_MV mdX9_lines 9 0 := ⟨lw_gd 862 (by decide +kernel) (by decide +kernel), lw_gd 32 (by decide +kernel) (by decide +kernel), lw_gd 72 (by decide +kernel) (by decide +kernel), lw_gd 863 (by decide +kernel) (by decide +kernel), (by decide +kernel), rfl, (by decide +kernel), (by decide +kernel), (by decide +kernel)⟩
theorem mvX9_power : g_MV mdX9_power 9 0 := ⟨lw_gd 849 (by decide +kernel) (by decide +kernel), lw_gd 29 (by decide +kernel) (by decide +kernel), lw_gd 72 (by decide +kernel) (by decide +kernel), lw_gd 850 (by decide +kernel) (by decide +kernel), (by decide +kernel), rfl, (by decide +kernel), (by decide +kernel), (by decide +kernel)⟩
theorem mvX9_see : g_MV mdX9_see 9 1 := ⟨lw_gd 844 (by decide +kernel) (by decide +kernel), lw_gd 845 (by decide +kernel) (by decide +kernel), lw_gd 72 (by decide +kernel) (by decide +kernel), lw_gd 846 (by decide +kernel) (by decide +kernel), (by decide +kernel), rfl, (by decide +kernel), (by decide +kernel), (by decide +kernel)⟩
theorem mvX9_isRuleThere : g_MV mdX9_isRuleThere 9 1 := ⟨lw_gd 906 (by decide +kernel) (by decide +kernel), lw_gd 42 (by decide +kernel) (by decide +kernel), lw_gd 72 (by decide +kernel) (by decide +kernel), lw_gd 907 (by decide +kernel) (by decide +kernel), (by decide +kernel), rfl, (by decide +kernel), (by decide +kernel), (by decide +kernel)⟩
theorem mvX9_rule : g_MV mdX9_rule 9 2 := ⟨lw_gd 901 (by decide +kernel) (by decide +kernel), lw_gd 902 (by decide +kernel) (by decide +kernel), lw_gd 72 (by decide +kernel) (by decide +kernel), lw_gd 903 (by decide +kernel) (by decide +kernel), (by decide +kernel), rfl, (by decide +kernel), (by decide +kernel), (by decide +kernel)⟩
theorem mvX9_clear : g_MV mdX9_clear 9 0 := ⟨lw_gd 910 (by decide +kernel) (by decide +kernel), lw_gd 911 (by decide +kernel) (by decide +kernel), lw_gd 72 (by decide +kernel) (by decide +kernel), lw_gd 912 (by decide +kernel) (by decide +kernel), (by decide +kernel), rfl, (by decide +kernel), (by decide +kernel), (by decide +kernel)⟩
theorem mvX9_undo : g_MV mdX9_undo 9 0 := ⟨lw_gd 914 (by decide +kernel) (by decide +kernel), lw_gd 915 (by decide +kernel) (by decide +kernel), lw_gd 72 (by decide +kernel) (by decide +kernel), lw_gd 916 (by decide +kernel) (by decide +kernel), (by decide +kernel), rfl, (by decide +kernel), (by decide +kernel), (by decide +kernel)⟩
theorem mvX9_laysCells : g_MV mdX9_laysCells 9 0 := ⟨lw_gd 858 (by decide +kernel) (by decide +kernel), lw_gd 31 (by decide +kernel) (by decide +kernel), lw_gd 72 (by decide +kernel) (by decide +kernel), lw_gd 859 (by decide +kernel) (by decide +kernel), (by decide +kernel), rfl, (by decide +kernel), (by decide +kernel), (by decide +kernel)⟩
theorem mvX9_rootOf : g_MV mdX9_rootOf 9 1 := ⟨lw_gd 874 (by decide +kernel) (by decide +kernel), lw_gd 35 (by decide +kernel) (by decide +kernel), lw_gd 72 (by decide +kernel) (by decide +kernel), lw_gd 875 (by decide +kernel) (by decide +kernel), (by decide +kernel), rfl, (by decide +kernel), (by decide +kernel), (by decide +kernel)⟩
theorem mvX9_joins : g_MV mdX9_joins 9 2 := ⟨lw_gd 870 (by decide +kernel) (by decide +kernel), lw_gd 34 (by decide +kernel) (by decide +kernel), lw_gd 72 (by decide +kernel) (by decide +kernel), lw_gd 871 (by decide +kernel) (by decide +kernel), (by decide +kernel), rfl, (by decide +kernel), (by decide +kernel), (by decide +kernel)⟩
theorem mvX9_joinsAround : g_MV mdX9_joinsAround 9 2 := ⟨lw_gd 866 (by decide +kernel) (by decide +kernel), lw_gd 33 (by decide +kernel) (by decide +kernel), lw_gd 72 (by decide +kernel) (by decide +kernel), lw_gd 867 (by decide +kernel) (by decide +kernel), (by decide +kernel), rfl, (by decide +kernel), (by decide +kernel), (by decide +kernel)⟩
theorem mvX9_blobOf : g_MV mdX9_blobOf 9 1 := ⟨lw_gd 882 (by decide +kernel) (by decide +kernel), lw_gd 37 (by decide +kernel) (by decide +kernel), lw_gd 72 (by decide +kernel) (by decide +kernel), lw_gd 883 (by decide +kernel) (by decide +kernel), (by decide +kernel), rfl, (by decide +kernel), (by decide +kernel), (by decide +kernel)⟩
theorem mvX9_begins : g_MV mdX9_begins 9 3 := ⟨lw_gd 886 (by decide +kernel) (by decide +kernel), lw_gd 38 (by decide +kernel) (by decide +kernel), lw_gd 72 (by decide +kernel) (by decide +kernel), lw_gd 887 (by decide +kernel) (by decide +kernel), (by decide +kernel), rfl, (by decide +kernel), (by decide +kernel), (by decide +kernel)⟩
theorem mvX9_counts : g_MV mdX9_counts 9 2 := ⟨lw_gd 878 (by decide +kernel) (by decide +kernel), lw_gd 36 (by decide +kernel) (by decide +kernel), lw_gd 72 (by decide +kernel) (by decide +kernel), lw_gd 879 (by decide +kernel) (by decide +kernel), (by decide +kernel), rfl, (by decide +kernel), (by decide +kernel), (by decide +kernel)⟩
theorem mvX9_isAhead : g_MV mdX9_isAhead 9 2 := ⟨lw_gd 894 (by decide +kernel) (by decide +kernel), lw_gd 40 (by decide +kernel) (by decide +kernel), lw_gd 72 (by decide +kernel) (by decide +kernel), lw_gd 895 (by decide +kernel) (by decide +kernel), (by decide +kernel), rfl, (by decide +kernel), (by decide +kernel), (by decide +kernel)⟩
theorem mvX9_numbersEnded : g_MV mdX9_numbersEnded 9 0 := ⟨lw_gd 890 (by decide +kernel) (by decide +kernel), lw_gd 39 (by decide +kernel) (by decide +kernel), lw_gd 72 (by decide +kernel) (by decide +kernel), lw_gd 891 (by decide +kernel) (by decide +kernel), (by decide +kernel), rfl, (by decide +kernel), (by decide +kernel), (by decide +kernel)⟩
theorem mvX9_laysBlobs : g_MV mdX9_laysBlobs 9 0 := ⟨lw_gd 854 (by decide +kernel) (by decide +kernel), lw_gd 30 (by decide +kernel) (by decide +kernel), lw_gd 72 (by decide +kernel) (by decide +kernel), lw_gd 855 (by decide +kernel) (by decide +kernel), (by decide +kernel), rfl, (by decide +kernel), (by decide +kernel), (by decide +kernel)⟩
theorem mvX9_valueOf : g_MV mdX9_valueOf 9 2 := ⟨lw_gd 935 (by decide +kernel) (by decide +kernel), lw_gd 46 (by decide +kernel) (by decide +kernel), lw_gd 72 (by decide +kernel) (by decide +kernel), lw_gd 936 (by decide +kernel) (by decide +kernel), (by decide +kernel), rfl, (by decide +kernel), (by decide +kernel), (by decide +kernel)⟩
theorem mvX9_ruleOf : g_MV mdX9_ruleOf 9 1 := ⟨lw_gd 931 (by decide +kernel) (by decide +kernel), lw_gd 45 (by decide +kernel) (by decide +kernel), lw_gd 72 (by decide +kernel) (by decide +kernel), lw_gd 932 (by decide +kernel) (by decide +kernel), (by decide +kernel), rfl, (by decide +kernel), (by decide +kernel), (by decide +kernel)⟩
theorem mvX9_perValve : g_MV mdX9_perValve 9 0 := ⟨lw_gd 947 (by decide +kernel) (by decide +kernel), lw_gd 49 (by decide +kernel) (by decide +kernel), lw_gd 72 (by decide +kernel) (by decide +kernel), lw_gd 948 (by decide +kernel) (by decide +kernel), (by decide +kernel), rfl, (by decide +kernel), (by decide +kernel), (by decide +kernel)⟩
theorem mvX9_wanted : g_MV mdX9_wanted 9 1 := ⟨lw_gd 943 (by decide +kernel) (by decide +kernel), lw_gd 48 (by decide +kernel) (by decide +kernel), lw_gd 72 (by decide +kernel) (by decide +kernel), lw_gd 944 (by decide +kernel) (by decide +kernel), (by decide +kernel), rfl, (by decide +kernel), (by decide +kernel), (by decide +kernel)⟩
theorem mvX9_wants : g_MV mdX9_wants 9 1 := ⟨lw_gd 939 (by decide +kernel) (by decide +kernel), lw_gd 47 (by decide +kernel) (by decide +kernel), lw_gd 72 (by decide +kernel) (by decide +kernel), lw_gd 940 (by decide +kernel) (by decide +kernel), (by decide +kernel), rfl, (by decide +kernel), (by decide +kernel), (by decide +kernel)⟩
theorem mvX9_rests : g_MV mdX9_rests 9 1 := ⟨lw_gd 951 (by decide +kernel) (by decide +kernel), lw_gd 50 (by decide +kernel) (by decide +kernel), lw_gd 72 (by decide +kernel) (by decide +kernel), lw_gd 952 (by decide +kernel) (by decide +kernel), (by decide +kernel), rfl, (by decide +kernel), (by decide +kernel), (by decide +kernel)⟩
theorem mvX9_isBlownNow : g_MV mdX9_isBlownNow 9 1 := ⟨lw_gd 955 (by decide +kernel) (by decide +kernel), lw_gd 51 (by decide +kernel) (by decide +kernel), lw_gd 72 (by decide +kernel) (by decide +kernel), lw_gd 956 (by decide +kernel) (by decide +kernel), (by decide +kernel), rfl, (by decide +kernel), (by decide +kernel), (by decide +kernel)⟩
theorem mvX9_judges : g_MV mdX9_judges 9 0 := ⟨lw_gd 927 (by decide +kernel) (by decide +kernel), lw_gd 44 (by decide +kernel) (by decide +kernel), lw_gd 72 (by decide +kernel) (by decide +kernel), lw_gd 928 (by decide +kernel) (by decide +kernel), (by decide +kernel), rfl, (by decide +kernel), (by decide +kernel), (by decide +kernel)⟩
theorem mvX9_judgesNow : g_MV mdX9_judgesNow 9 0 := ⟨lw_gd 923 (by decide +kernel) (by decide +kernel), lw_gd 43 (by decide +kernel) (by decide +kernel), lw_gd 72 (by decide +kernel) (by decide +kernel), lw_gd 924 (by decide +kernel) (by decide +kernel), (by decide +kernel), rfl, (by decide +kernel), (by decide +kernel), (by decide +kernel)⟩
theorem mvX9_isLate : g_MV mdX9_isLate 9 1 := ⟨lw_gd 964 (by decide +kernel) (by decide +kernel), lw_gd 53 (by decide +kernel) (by decide +kernel), lw_gd 72 (by decide +kernel) (by decide +kernel), lw_gd 965 (by decide +kernel) (by decide +kernel), (by decide +kernel), rfl, (by decide +kernel), (by decide +kernel), (by decide +kernel)⟩
theorem mvX9_tellBlob : g_MV mdX9_tellBlob 9 2 := ⟨lw_gd 960 (by decide +kernel) (by decide +kernel), lw_gd 52 (by decide +kernel) (by decide +kernel), lw_gd 72 (by decide +kernel) (by decide +kernel), lw_gd 961 (by decide +kernel) (by decide +kernel), (by decide +kernel), rfl, (by decide +kernel), (by decide +kernel), (by decide +kernel)⟩
theorem mvX9_blob : g_MV mdX9_blob 9 2 := ⟨lw_gd 918 (by decide +kernel) (by decide +kernel), lw_gd 919 (by decide +kernel) (by decide +kernel), lw_gd 72 (by decide +kernel) (by decide +kernel), lw_gd 920 (by decide +kernel) (by decide +kernel), (by decide +kernel), rfl, (by decide +kernel), (by decide +kernel), (by decide +kernel)⟩
theorem mvX9_open : g_MV mdX9_open 9 1 := ⟨lw_gd 967 (by decide +kernel) (by decide +kernel), lw_gd 968 (by decide +kernel) (by decide +kernel), lw_gd 72 (by decide +kernel) (by decide +kernel), lw_gd 969 (by decide +kernel) (by decide +kernel), (by decide +kernel), rfl, (by decide +kernel), (by decide +kernel), (by decide +kernel)⟩
theorem mvX9_isValve : g_MV mdX9_isValve 9 1 := ⟨lw_gd 976 (by decide +kernel) (by decide +kernel), lw_gd 54 (by decide +kernel) (by decide +kernel), lw_gd 72 (by decide +kernel) (by decide +kernel), lw_gd 977 (by decide +kernel) (by decide +kernel), (by decide +kernel), rfl, (by decide +kernel), (by decide +kernel), (by decide +kernel)⟩
theorem mvX9_opening : g_MV mdX9_opening 9 3 := ⟨lw_gd 971 (by decide +kernel) (by decide +kernel), lw_gd 972 (by decide +kernel) (by decide +kernel), lw_gd 72 (by decide +kernel) (by decide +kernel), lw_gd 973 (by decide +kernel) (by decide +kernel), (by decide +kernel), rfl, (by decide +kernel), (by decide +kernel), (by decide +kernel)⟩
theorem mvX9_air : g_MV mdX9_air 9 1 := ⟨lw_gd 979 (by decide +kernel) (by decide +kernel), lw_gd 980 (by decide +kernel) (by decide +kernel), lw_gd 72 (by decide +kernel) (by decide +kernel), lw_gd 981 (by decide +kernel) (by decide +kernel), (by decide +kernel), rfl, (by decide +kernel), (by decide +kernel), (by decide +kernel)⟩
theorem mvX9_gained : g_MV mdX9_gained 9 0 := ⟨lw_gd 988 (by decide +kernel) (by decide +kernel), lw_gd 55 (by decide +kernel) (by decide +kernel), lw_gd 72 (by decide +kernel) (by decide +kernel), lw_gd 989 (by decide +kernel) (by decide +kernel), (by decide +kernel), rfl, (by decide +kernel), (by decide +kernel), (by decide +kernel)⟩
theorem mvX9_gain : g_MV mdX9_gain 9 0 := ⟨lw_gd 983 (by decide +kernel) (by decide +kernel), lw_gd 984 (by decide +kernel) (by decide +kernel), lw_gd 72 (by decide +kernel) (by decide +kernel), lw_gd 985 (by decide +kernel) (by decide +kernel), (by decide +kernel), rfl, (by decide +kernel), (by decide +kernel), (by decide +kernel)⟩
theorem mvX9_best : g_MV mdX9_best 9 2 := ⟨lw_gd 991 (by decide +kernel) (by decide +kernel), lw_gd 992 (by decide +kernel) (by decide +kernel), lw_gd 72 (by decide +kernel) (by decide +kernel), lw_gd 993 (by decide +kernel) (by decide +kernel), (by decide +kernel), rfl, (by decide +kernel), (by decide +kernel), (by decide +kernel)⟩
theorem mvX9_howMany : g_MV mdX9_howMany 9 1 := ⟨lw_gd 1000 (by decide +kernel) (by decide +kernel), lw_gd 56 (by decide +kernel) (by decide +kernel), lw_gd 72 (by decide +kernel) (by decide +kernel), lw_gd 1001 (by decide +kernel) (by decide +kernel), (by decide +kernel), rfl, (by decide +kernel), (by decide +kernel), (by decide +kernel)⟩
theorem mvX9_endedNow : g_MV mdX9_endedNow 9 0 := ⟨lw_gd 1004 (by decide +kernel) (by decide +kernel), lw_gd 57 (by decide +kernel) (by decide +kernel), lw_gd 72 (by decide +kernel) (by decide +kernel), lw_gd 1005 (by decide +kernel) (by decide +kernel), (by decide +kernel), rfl, (by decide +kernel), (by decide +kernel), (by decide +kernel)⟩
theorem mvX9_count : g_MV mdX9_count 9 1 := ⟨lw_gd 995 (by decide +kernel) (by decide +kernel), lw_gd 996 (by decide +kernel) (by decide +kernel), lw_gd 72 (by decide +kernel) (by decide +kernel), lw_gd 997 (by decide +kernel) (by decide +kernel), (by decide +kernel), rfl, (by decide +kernel), (by decide +kernel), (by decide +kernel)⟩
theorem mvX9_judgedBy : g_MV mdX9_judgedBy 9 1 := ⟨lw_gd 1012 (by decide +kernel) (by decide +kernel), lw_gd 58 (by decide +kernel) (by decide +kernel), lw_gd 72 (by decide +kernel) (by decide +kernel), lw_gd 1013 (by decide +kernel) (by decide +kernel), (by decide +kernel), rfl, (by decide +kernel), (by decide +kernel), (by decide +kernel)⟩
theorem mvX9_told : g_MV mdX9_told 9 2 := ⟨lw_gd 1007 (by decide +kernel) (by decide +kernel), lw_gd 1008 (by decide +kernel) (by decide +kernel), lw_gd 72 (by decide +kernel) (by decide +kernel), lw_gd 1009 (by decide +kernel) (by decide +kernel), (by decide +kernel), rfl, (by decide +kernel), (by decide +kernel), (by decide +kernel)⟩
theorem msJ7_fill_53178 : g_MS mdJ7_fill_53178 2 := ⟨lw_gd 335 (by decide +kernel) (by decide +kernel), lw_gd 70 (by decide +kernel) (by decide +kernel), lw_gd 336 (by decide +kernel) (by decide +kernel), (by decide +kernel), rfl, (by decide +kernel), (by decide +kernel), (by decide +kernel)⟩
theorem mlL_9 : Cond.methodLink RL 9 yX8_init ∈ lw_good := lw_gd 75 (by decide +kernel) (by decide +kernel)
theorem mlX8_3 : Cond.methodLink RX8 3 objectInit ∈ lw_good := lw_gd 78 (by decide +kernel) (by decide +kernel)
theorem mlX5_3 : Cond.methodLink RX5 3 objectInit ∈ lw_good := lw_gd 86 (by decide +kernel) (by decide +kernel)
theorem mlX4_3 : Cond.methodLink RX4 3 objectInit ∈ lw_good := lw_gd 108 (by decide +kernel) (by decide +kernel)
theorem mlX8_25 : Cond.methodLink RX8 25 yX2_init ∈ lw_good := lw_gd 125 (by decide +kernel) (by decide +kernel)
theorem mlX2_3 : Cond.methodLink RX2 3 objectInit ∈ lw_good := lw_gd 128 (by decide +kernel) (by decide +kernel)
theorem mlX8_32 : Cond.methodLink RX8 32 yX1_init ∈ lw_good := lw_gd 145 (by decide +kernel) (by decide +kernel)
theorem mlX1_3 : Cond.methodLink RX1 3 objectInit ∈ lw_good := lw_gd 148 (by decide +kernel) (by decide +kernel)
theorem mlX0_3 : Cond.methodLink RX0 3 objectInit ∈ lw_good := lw_gd 155 (by decide +kernel) (by decide +kernel)
theorem mlX8_39 : Cond.methodLink RX8 39 yX7_init ∈ lw_good := lw_gd 217 (by decide +kernel) (by decide +kernel)
theorem mlX7_3 : Cond.methodLink RX7 3 objectInit ∈ lw_good := lw_gd 220 (by decide +kernel) (by decide +kernel)
theorem mlX6_3 : Cond.methodLink RX6 3 objectInit ∈ lw_good := lw_gd 227 (by decide +kernel) (by decide +kernel)
theorem mlX8_53 : Cond.methodLink RX8 53 yX3_init ∈ lw_good := lw_gd 258 (by decide +kernel) (by decide +kernel)
theorem mlX3_3 : Cond.methodLink RX3 3 objectInit ∈ lw_good := lw_gd 261 (by decide +kernel) (by decide +kernel)
theorem mlX3_18 : Cond.methodLink RX3 18 yX3_reset ∈ lw_good := lw_gd 262 (by decide +kernel) (by decide +kernel)
theorem mlX8_61 : Cond.methodLink RX8 61 yX3_addRule ∈ lw_good := lw_gd 308 (by decide +kernel) (by decide +kernel)
theorem mlX3_61 : Cond.methodLink RX3 61 yX3_isBetween ∈ lw_good := lw_gd 312 (by decide +kernel) (by decide +kernel)
theorem mlX8_65 : Cond.methodLink RX8 65 yX8_layDraft ∈ lw_good := lw_gd 315 (by decide +kernel) (by decide +kernel)
theorem mlX8_206 : Cond.methodLink RX8 206 arraycopyName ∈ lw_good := lw_gd 319 (by decide +kernel) (by decide +kernel)
theorem mlX8_234 : Cond.methodLink RX8 234 yX2_forget ∈ lw_good := lw_gd 322 (by decide +kernel) (by decide +kernel)
theorem mlX8_117 : Cond.methodLink RX8 117 yX8_dropLines ∈ lw_good := lw_gd 326 (by decide +kernel) (by decide +kernel)
theorem mlX8_237 : Cond.methodLink RX8 237 yX1_empty ∈ lw_good := lw_gd 330 (by decide +kernel) (by decide +kernel)
theorem mlX1_35 : Cond.methodLink RX1 35 yJ7_fill_53178 ∈ lw_good := lw_gd 334 (by decide +kernel) (by decide +kernel)
theorem mlX8_107 : Cond.methodLink RX8 107 yX8_judge ∈ lw_good := lw_gd 337 (by decide +kernel) (by decide +kernel)
theorem mlX8_244 : Cond.methodLink RX8 244 yX7_judgeAll ∈ lw_good := lw_gd 341 (by decide +kernel) (by decide +kernel)
theorem mlX7_30 : Cond.methodLink RX7 30 yX7_endedOf ∈ lw_good := lw_gd 345 (by decide +kernel) (by decide +kernel)
theorem mlX7_59 : Cond.methodLink RX7 59 Lib.Math.min.name ∈ lw_good := lw_gd 348 (by decide +kernel) (by decide +kernel)
theorem mlX7_40 : Cond.methodLink RX7 40 yX7_firstRuleFor ∈ lw_good := lw_gd 351 (by decide +kernel) (by decide +kernel)
theorem mlX7_73 : Cond.methodLink RX7 73 yX0_measure ∈ lw_good := lw_gd 354 (by decide +kernel) (by decide +kernel)
theorem mlX0_53 : Cond.methodLink RX0 53 yX0_mean ∈ lw_good := lw_gd 358 (by decide +kernel) (by decide +kernel)
theorem mlX7_44 : Cond.methodLink RX7 44 yX7_isBad ∈ lw_good := lw_gd 362 (by decide +kernel) (by decide +kernel)
theorem mlX7_48 : Cond.methodLink RX7 48 yX7_openFor ∈ lw_good := lw_gd 366 (by decide +kernel) (by decide +kernel)
theorem mlX7_79 : Cond.methodLink RX7 79 yX3_wantedTo ∈ lw_good := lw_gd 370 (by decide +kernel) (by decide +kernel)
theorem mlX7_83 : Cond.methodLink RX7 83 yX0_endTick ∈ lw_good := lw_gd 374 (by decide +kernel) (by decide +kernel)
theorem mlX7_87 : Cond.methodLink RX7 87 yX3_wantedFrom ∈ lw_good := lw_gd 378 (by decide +kernel) (by decide +kernel)
theorem mlX7_90 : Cond.methodLink RX7 90 Lib.Math.max.name ∈ lw_good := lw_gd 382 (by decide +kernel) (by decide +kernel)
theorem mlX7_96 : Cond.methodLink RX7 96 yX3_valveOver ∈ lw_good := lw_gd 385 (by decide +kernel) (by decide +kernel)
theorem mlX7_105 : Cond.methodLink RX7 105 yX6_want ∈ lw_good := lw_gd 389 (by decide +kernel) (by decide +kernel)
theorem mlX6_22 : Cond.methodLink RX6 22 yX6_isNear ∈ lw_good := lw_gd 393 (by decide +kernel) (by decide +kernel)
theorem mlX6_26 : Cond.methodLink RX6 26 Lib.Math.min.name ∈ lw_good := lw_gd 396 (by decide +kernel) (by decide +kernel)
theorem mlX7_52 : Cond.methodLink RX7 52 yX7_isBlown ∈ lw_good := lw_gd 397 (by decide +kernel) (by decide +kernel)
theorem mlX7_118 : Cond.methodLink RX7 118 yX6_isOpenWithin ∈ lw_good := lw_gd 401 (by decide +kernel) (by decide +kernel)
theorem mlL_13 : Cond.methodLink RL 13 yX8_write ∈ lw_good := lw_gd 433 (by decide +kernel) (by decide +kernel)
theorem mlX8_72 : Cond.methodLink RX8 72 yX5_append ∈ lw_good := lw_gd 437 (by decide +kernel) (by decide +kernel)
theorem mlL_18 : Cond.methodLink RL 18 yX8_wipe ∈ lw_good := lw_gd 441 (by decide +kernel) (by decide +kernel)
theorem mlL_23 : Cond.methodLink RL 23 yX8_fault ∈ lw_good := lw_gd 445 (by decide +kernel) (by decide +kernel)
theorem mlX8_76 : Cond.methodLink RX8 76 yX5_readInto ∈ lw_good := lw_gd 449 (by decide +kernel) (by decide +kernel)
theorem mlX5_23 : Cond.methodLink RX5 23 yX3_reset ∈ lw_good := lw_gd 453 (by decide +kernel) (by decide +kernel)
theorem mlX5_31 : Cond.methodLink RX5 31 yX5_readItem ∈ lw_good := lw_gd 454 (by decide +kernel) (by decide +kernel)
theorem mlX5_35 : Cond.methodLink RX5 35 yX5_letterHere ∈ lw_good := lw_gd 458 (by decide +kernel) (by decide +kernel)
theorem mlX5_39 : Cond.methodLink RX5 39 yX5_numbersBehind ∈ lw_good := lw_gd 462 (by decide +kernel) (by decide +kernel)
theorem mlX5_43 : Cond.methodLink RX5 43 yX5_readNumber ∈ lw_good := lw_gd 465 (by decide +kernel) (by decide +kernel)
theorem mlX5_50 : Cond.methodLink RX5 50 yX5_isFigure ∈ lw_good := lw_gd 469 (by decide +kernel) (by decide +kernel)
theorem mlX5_46 : Cond.methodLink RX5 46 yX3_takeItem ∈ lw_good := lw_gd 472 (by decide +kernel) (by decide +kernel)
theorem mlX3_46 : Cond.methodLink RX3 46 yX3_takeGrid ∈ lw_good := lw_gd 476 (by decide +kernel) (by decide +kernel)
theorem mlX3_50 : Cond.methodLink RX3 50 yX3_addRule ∈ lw_good := lw_gd 480 (by decide +kernel) (by decide +kernel)
theorem mlX3_54 : Cond.methodLink RX3 54 yX3_takeDark ∈ lw_good := lw_gd 481 (by decide +kernel) (by decide +kernel)
theorem mlX3_58 : Cond.methodLink RX3 58 yX3_takeRest ∈ lw_good := lw_gd 485 (by decide +kernel) (by decide +kernel)
theorem mlL_27 : Cond.methodLink RL 27 yX8_lay ∈ lw_good := lw_gd 489 (by decide +kernel) (by decide +kernel)
theorem mlL_33 : Cond.methodLink RL 33 yX8_see ∈ lw_good := lw_gd 493 (by decide +kernel) (by decide +kernel)
theorem mlX8_86 : Cond.methodLink RX8 86 yX3_lineBound ∈ lw_good := lw_gd 497 (by decide +kernel) (by decide +kernel)
theorem mlX8_96 : Cond.methodLink RX8 96 yX2_keep ∈ lw_good := lw_gd 502 (by decide +kernel) (by decide +kernel)
theorem mlX2_22 : Cond.methodLink RX2 22 yX4_copyFrom ∈ lw_good := lw_gd 506 (by decide +kernel) (by decide +kernel)
theorem mlX4_23 : Cond.methodLink RX4 23 arraycopyName ∈ lw_good := lw_gd 510 (by decide +kernel) (by decide +kernel)
theorem mlX2_29 : Cond.methodLink RX2 29 Lib.Math.min.name ∈ lw_good := lw_gd 511 (by decide +kernel) (by decide +kernel)
theorem mlX8_100 : Cond.methodLink RX8 100 yX4_addLine ∈ lw_good := lw_gd 512 (by decide +kernel) (by decide +kernel)
theorem mlX8_104 : Cond.methodLink RX8 104 yX1_addLine ∈ lw_good := lw_gd 516 (by decide +kernel) (by decide +kernel)
theorem mlX1_41 : Cond.methodLink RX1 41 yX3_lineBound ∈ lw_good := lw_gd 520 (by decide +kernel) (by decide +kernel)
theorem mlX1_55 : Cond.methodLink RX1 55 yX1_addCell ∈ lw_good := lw_gd 522 (by decide +kernel) (by decide +kernel)
theorem mlX1_63 : Cond.methodLink RX1 63 yX1_ownerAt ∈ lw_good := lw_gd 526 (by decide +kernel) (by decide +kernel)
theorem mlX1_67 : Cond.methodLink RX1 67 yX1_freeSlot ∈ lw_good := lw_gd 529 (by decide +kernel) (by decide +kernel)
theorem mlX1_71 : Cond.methodLink RX1 71 yX0_addCell ∈ lw_good := lw_gd 533 (by decide +kernel) (by decide +kernel)
theorem mlX0_15 : Cond.methodLink RX0 15 yX0_beginAt ∈ lw_good := lw_gd 537 (by decide +kernel) (by decide +kernel)
theorem mlX0_22 : Cond.methodLink RX0 22 Lib.Math.max.name ∈ lw_good := lw_gd 541 (by decide +kernel) (by decide +kernel)
theorem mlX0_31 : Cond.methodLink RX0 31 Lib.Math.min.name ∈ lw_good := lw_gd 542 (by decide +kernel) (by decide +kernel)
theorem mlX1_72 : Cond.methodLink RX1 72 yX1_joinTo ∈ lw_good := lw_gd 543 (by decide +kernel) (by decide +kernel)
theorem mlX1_76 : Cond.methodLink RX1 76 yX0_absorb ∈ lw_good := lw_gd 547 (by decide +kernel) (by decide +kernel)
theorem mlX0_49 : Cond.methodLink RX0 49 yX0_beganBefore ∈ lw_good := lw_gd 551 (by decide +kernel) (by decide +kernel)
theorem mlX1_80 : Cond.methodLink RX1 80 yX1_handOver ∈ lw_good := lw_gd 555 (by decide +kernel) (by decide +kernel)
theorem mlX1_59 : Cond.methodLink RX1 59 yX1_endAllWithout ∈ lw_good := lw_gd 558 (by decide +kernel) (by decide +kernel)
theorem mlX1_84 : Cond.methodLink RX1 84 yX1_earliestWithout ∈ lw_good := lw_gd 562 (by decide +kernel) (by decide +kernel)
theorem mlX1_93 : Cond.methodLink RX1 93 yX0_beganBefore ∈ lw_good := lw_gd 566 (by decide +kernel) (by decide +kernel)
theorem mlX1_87 : Cond.methodLink RX1 87 yX0_copyFrom ∈ lw_good := lw_gd 567 (by decide +kernel) (by decide +kernel)
theorem mlL_38 : Cond.methodLink RL 38 yX8_rule ∈ lw_good := lw_gd 571 (by decide +kernel) (by decide +kernel)
theorem mlX8_110 : Cond.methodLink RX8 110 yX8_isRule ∈ lw_good := lw_gd 575 (by decide +kernel) (by decide +kernel)
theorem mlL_43 : Cond.methodLink RL 43 yX8_clear ∈ lw_good := lw_gd 579 (by decide +kernel) (by decide +kernel)
theorem mlL_47 : Cond.methodLink RL 47 yX8_undo ∈ lw_good := lw_gd 583 (by decide +kernel) (by decide +kernel)
theorem mlX8_123 : Cond.methodLink RX8 123 yX2_giveBack ∈ lw_good := lw_gd 587 (by decide +kernel) (by decide +kernel)
theorem mlX8_126 : Cond.methodLink RX8 126 yX8_foldAll ∈ lw_good := lw_gd 591 (by decide +kernel) (by decide +kernel)
theorem mlL_51 : Cond.methodLink RL 51 yX8_blob ∈ lw_good := lw_gd 595 (by decide +kernel) (by decide +kernel)
theorem mlX8_150 : Cond.methodLink RX8 150 yX0_mean ∈ lw_good := lw_gd 599 (by decide +kernel) (by decide +kernel)
theorem mlX8_160 : Cond.methodLink RX8 160 yX7_isBad ∈ lw_good := lw_gd 600 (by decide +kernel) (by decide +kernel)
theorem mlX8_163 : Cond.methodLink RX8 163 yX3_isLate ∈ lw_good := lw_gd 601 (by decide +kernel) (by decide +kernel)
theorem mlX3_75 : Cond.methodLink RX3 75 yX3_wantedFrom ∈ lw_good := lw_gd 605 (by decide +kernel) (by decide +kernel)
theorem mlX3_79 : Cond.methodLink RX3 79 yX0_endTick ∈ lw_good := lw_gd 606 (by decide +kernel) (by decide +kernel)
theorem mlX8_167 : Cond.methodLink RX8 167 yX8_asFlag ∈ lw_good := lw_gd 607 (by decide +kernel) (by decide +kernel)
theorem mlL_55 : Cond.methodLink RL 55 yX8_open ∈ lw_good := lw_gd 610 (by decide +kernel) (by decide +kernel)
theorem mlX8_175 : Cond.methodLink RX8 175 yX1_liveBlobs ∈ lw_good := lw_gd 614 (by decide +kernel) (by decide +kernel)
theorem mlX8_178 : Cond.methodLink RX8 178 yX1_liveCells ∈ lw_good := lw_gd 618 (by decide +kernel) (by decide +kernel)
theorem mlL_59 : Cond.methodLink RL 59 yX8_opening ∈ lw_good := lw_gd 622 (by decide +kernel) (by decide +kernel)
theorem mlX8_181 : Cond.methodLink RX8 181 yX8_isValve ∈ lw_good := lw_gd 626 (by decide +kernel) (by decide +kernel)
theorem mlL_64 : Cond.methodLink RL 64 yX8_air ∈ lw_good := lw_gd 630 (by decide +kernel) (by decide +kernel)
theorem mlX8_199 : Cond.methodLink RX8 199 yX6_ticksOpen ∈ lw_good := lw_gd 634 (by decide +kernel) (by decide +kernel)
theorem mlL_68 : Cond.methodLink RL 68 yX8_gain ∈ lw_good := lw_gd 638 (by decide +kernel) (by decide +kernel)
theorem mlX8_202 : Cond.methodLink RX8 202 yX7_worth ∈ lw_good := lw_gd 642 (by decide +kernel) (by decide +kernel)
theorem mlX7_122 : Cond.methodLink RX7 122 yX0_worth ∈ lw_good := lw_gd 646 (by decide +kernel) (by decide +kernel)
theorem mlL_72 : Cond.methodLink RL 72 yX8_best ∈ lw_good := lw_gd 650 (by decide +kernel) (by decide +kernel)
theorem mlX8_212 : Cond.methodLink RX8 212 yX8_worthByNumber ∈ lw_good := lw_gd 654 (by decide +kernel) (by decide +kernel)
theorem mlX8_219 : Cond.methodLink RX8 219 yX1_hasEndedWith ∈ lw_good := lw_gd 658 (by decide +kernel) (by decide +kernel)
theorem mlX1_97 : Cond.methodLink RX1 97 yX0_measure ∈ lw_good := lw_gd 662 (by decide +kernel) (by decide +kernel)
theorem mlL_76 : Cond.methodLink RL 76 yX8_count ∈ lw_good := lw_gd 663 (by decide +kernel) (by decide +kernel)
theorem mlX8_225 : Cond.methodLink RX8 225 yX7_howMany ∈ lw_good := lw_gd 667 (by decide +kernel) (by decide +kernel)
theorem mlX7_125 : Cond.methodLink RX7 125 yX7_isOneOf ∈ lw_good := lw_gd 671 (by decide +kernel) (by decide +kernel)
theorem mlX7_129 : Cond.methodLink RX7 129 yX3_isLate ∈ lw_good := lw_gd 675 (by decide +kernel) (by decide +kernel)
theorem mlL_80 : Cond.methodLink RL 80 yX8_told ∈ lw_good := lw_gd 676 (by decide +kernel) (by decide +kernel)
theorem mlX8_229 : Cond.methodLink RX8 229 yX7_howManyBadBy ∈ lw_good := lw_gd 680 (by decide +kernel) (by decide +kernel)
theorem mlL_12 : Cond.methodLink RL 12 yX9_init ∈ lw_good := lw_gd 686 (by decide +kernel) (by decide +kernel)
theorem mlX9_1 : Cond.methodLink RX9 1 objectInit ∈ lw_good := lw_gd 689 (by decide +kernel) (by decide +kernel)
theorem mlX9_84 : Cond.methodLink RX9 84 yX9_plans ∈ lw_good := lw_gd 690 (by decide +kernel) (by decide +kernel)
theorem mlL_17 : Cond.methodLink RL 17 yX9_write ∈ lw_good := lw_gd 792 (by decide +kernel) (by decide +kernel)
theorem mlX9_106 : Cond.methodLink RX9 106 yX9_within ∈ lw_good := lw_gd 798 (by decide +kernel) (by decide +kernel)
theorem mlL_22 : Cond.methodLink RL 22 yX9_wipe ∈ lw_good := lw_gd 801 (by decide +kernel) (by decide +kernel)
theorem mlL_26 : Cond.methodLink RL 26 yX9_fault ∈ lw_good := lw_gd 805 (by decide +kernel) (by decide +kernel)
theorem mlX9_138 : Cond.methodLink RX9 138 yX9_faultAt ∈ lw_good := lw_gd 809 (by decide +kernel) (by decide +kernel)
theorem mlX9_131 : Cond.methodLink RX9 131 yX9_isItem ∈ lw_good := lw_gd 813 (by decide +kernel) (by decide +kernel)
theorem mlX9_118 : Cond.methodLink RX9 118 yX9_passes ∈ lw_good := lw_gd 817 (by decide +kernel) (by decide +kernel)
theorem mlX9_125 : Cond.methodLink RX9 125 yX9_isGate ∈ lw_good := lw_gd 821 (by decide +kernel) (by decide +kernel)
theorem mlX9_114 : Cond.methodLink RX9 114 yX9_number ∈ lw_good := lw_gd 825 (by decide +kernel) (by decide +kernel)
theorem mlX9_110 : Cond.methodLink RX9 110 yX9_isFigure ∈ lw_good := lw_gd 829 (by decide +kernel) (by decide +kernel)
theorem mlX9_128 : Cond.methodLink RX9 128 yX9_isRule ∈ lw_good := lw_gd 835 (by decide +kernel) (by decide +kernel)
theorem mlL_30 : Cond.methodLink RL 30 yX9_lay ∈ lw_good := lw_gd 839 (by decide +kernel) (by decide +kernel)
theorem mlL_37 : Cond.methodLink RL 37 yX9_see ∈ lw_good := lw_gd 843 (by decide +kernel) (by decide +kernel)
theorem mlX9_147 : Cond.methodLink RX9 147 yX9_power ∈ lw_good := lw_gd 847 (by decide +kernel) (by decide +kernel)
theorem mlX9_151 : Cond.methodLink RX9 151 yX9_laysBlobs ∈ lw_good := lw_gd 852 (by decide +kernel) (by decide +kernel)
theorem mlX9_193 : Cond.methodLink RX9 193 yX9_laysCells ∈ lw_good := lw_gd 856 (by decide +kernel) (by decide +kernel)
theorem mlX9_154 : Cond.methodLink RX9 154 yX9_lines ∈ lw_good := lw_gd 860 (by decide +kernel) (by decide +kernel)
theorem mlX9_196 : Cond.methodLink RX9 196 yX9_joinsAround ∈ lw_good := lw_gd 864 (by decide +kernel) (by decide +kernel)
theorem mlX9_172 : Cond.methodLink RX9 172 yX9_joins ∈ lw_good := lw_gd 868 (by decide +kernel) (by decide +kernel)
theorem mlX9_168 : Cond.methodLink RX9 168 yX9_rootOf ∈ lw_good := lw_gd 872 (by decide +kernel) (by decide +kernel)
theorem mlX9_199 : Cond.methodLink RX9 199 yX9_counts ∈ lw_good := lw_gd 876 (by decide +kernel) (by decide +kernel)
theorem mlX9_179 : Cond.methodLink RX9 179 yX9_blobOf ∈ lw_good := lw_gd 880 (by decide +kernel) (by decide +kernel)
theorem mlX9_182 : Cond.methodLink RX9 182 yX9_begins ∈ lw_good := lw_gd 884 (by decide +kernel) (by decide +kernel)
theorem mlX9_202 : Cond.methodLink RX9 202 yX9_numbersEnded ∈ lw_good := lw_gd 888 (by decide +kernel) (by decide +kernel)
theorem mlX9_189 : Cond.methodLink RX9 189 yX9_isAhead ∈ lw_good := lw_gd 892 (by decide +kernel) (by decide +kernel)
theorem mlX9_160 : Cond.methodLink RX9 160 yX9_keeps ∈ lw_good := lw_gd 896 (by decide +kernel) (by decide +kernel)
theorem mlL_42 : Cond.methodLink RL 42 yX9_rule ∈ lw_good := lw_gd 900 (by decide +kernel) (by decide +kernel)
theorem mlX9_163 : Cond.methodLink RX9 163 yX9_isRuleThere ∈ lw_good := lw_gd 904 (by decide +kernel) (by decide +kernel)
theorem mlL_46 : Cond.methodLink RL 46 yX9_clear ∈ lw_good := lw_gd 909 (by decide +kernel) (by decide +kernel)
theorem mlL_50 : Cond.methodLink RL 50 yX9_undo ∈ lw_good := lw_gd 913 (by decide +kernel) (by decide +kernel)
theorem mlL_54 : Cond.methodLink RL 54 yX9_blob ∈ lw_good := lw_gd 917 (by decide +kernel) (by decide +kernel)
theorem mlX9_233 : Cond.methodLink RX9 233 yX9_judgesNow ∈ lw_good := lw_gd 921 (by decide +kernel) (by decide +kernel)
theorem mlX9_227 : Cond.methodLink RX9 227 yX9_judges ∈ lw_good := lw_gd 925 (by decide +kernel) (by decide +kernel)
theorem mlX9_214 : Cond.methodLink RX9 214 yX9_ruleOf ∈ lw_good := lw_gd 929 (by decide +kernel) (by decide +kernel)
theorem mlX9_205 : Cond.methodLink RX9 205 yX9_valueOf ∈ lw_good := lw_gd 933 (by decide +kernel) (by decide +kernel)
theorem mlX9_217 : Cond.methodLink RX9 217 yX9_wants ∈ lw_good := lw_gd 937 (by decide +kernel) (by decide +kernel)
theorem mlX9_208 : Cond.methodLink RX9 208 yX9_wanted ∈ lw_good := lw_gd 941 (by decide +kernel) (by decide +kernel)
theorem mlX9_211 : Cond.methodLink RX9 211 yX9_perValve ∈ lw_good := lw_gd 945 (by decide +kernel) (by decide +kernel)
theorem mlX9_221 : Cond.methodLink RX9 221 yX9_rests ∈ lw_good := lw_gd 949 (by decide +kernel) (by decide +kernel)
theorem mlX9_224 : Cond.methodLink RX9 224 yX9_isBlownNow ∈ lw_good := lw_gd 953 (by decide +kernel) (by decide +kernel)
theorem mlX9_238 : Cond.methodLink RX9 238 yX9_tellBlob ∈ lw_good := lw_gd 958 (by decide +kernel) (by decide +kernel)
theorem mlX9_230 : Cond.methodLink RX9 230 yX9_isLate ∈ lw_good := lw_gd 962 (by decide +kernel) (by decide +kernel)
theorem mlL_58 : Cond.methodLink RL 58 yX9_open ∈ lw_good := lw_gd 966 (by decide +kernel) (by decide +kernel)
theorem mlL_63 : Cond.methodLink RL 63 yX9_opening ∈ lw_good := lw_gd 970 (by decide +kernel) (by decide +kernel)
theorem mlX9_241 : Cond.methodLink RX9 241 yX9_isValve ∈ lw_good := lw_gd 974 (by decide +kernel) (by decide +kernel)
theorem mlL_67 : Cond.methodLink RL 67 yX9_air ∈ lw_good := lw_gd 978 (by decide +kernel) (by decide +kernel)
theorem mlL_71 : Cond.methodLink RL 71 yX9_gain ∈ lw_good := lw_gd 982 (by decide +kernel) (by decide +kernel)
theorem mlX9_244 : Cond.methodLink RX9 244 yX9_gained ∈ lw_good := lw_gd 986 (by decide +kernel) (by decide +kernel)
theorem mlL_75 : Cond.methodLink RL 75 yX9_best ∈ lw_good := lw_gd 990 (by decide +kernel) (by decide +kernel)
theorem mlL_79 : Cond.methodLink RL 79 yX9_count ∈ lw_good := lw_gd 994 (by decide +kernel) (by decide +kernel)
theorem mlX9_247 : Cond.methodLink RX9 247 yX9_howMany ∈ lw_good := lw_gd 998 (by decide +kernel) (by decide +kernel)
theorem mlX9_250 : Cond.methodLink RX9 250 yX9_endedNow ∈ lw_good := lw_gd 1002 (by decide +kernel) (by decide +kernel)
theorem mlL_83 : Cond.methodLink RL 83 yX9_told ∈ lw_good := lw_gd 1006 (by decide +kernel) (by decide +kernel)
theorem mlX9_253 : Cond.methodLink RX9 253 yX9_judgedBy ∈ lw_good := lw_gd 1010 (by decide +kernel) (by decide +kernel)
theorem clL_7 : Cond.classLink RL 7 RX8 ∈ lw_good := lw_gd 73 (by decide +kernel) (by decide +kernel)
theorem clX8_9 : Cond.classLink RX8 9 RX5 ∈ lw_good := lw_gd 81 (by decide +kernel) (by decide +kernel)
theorem clX8_16 : Cond.classLink RX8 16 RX4 ∈ lw_good := lw_gd 103 (by decide +kernel) (by decide +kernel)
theorem clX8_23 : Cond.classLink RX8 23 RX2 ∈ lw_good := lw_gd 123 (by decide +kernel) (by decide +kernel)
theorem clX2_9 : Cond.classLink RX2 9 RX4 ∈ lw_good := lw_gd 129 (by decide +kernel) (by decide +kernel)
theorem clX8_30 : Cond.classLink RX8 30 RX1 ∈ lw_good := lw_gd 143 (by decide +kernel) (by decide +kernel)
theorem clX1_9 : Cond.classLink RX1 9 RX0 ∈ lw_good := lw_gd 149 (by decide +kernel) (by decide +kernel)
theorem clX8_37 : Cond.classLink RX8 37 RX7 ∈ lw_good := lw_gd 215 (by decide +kernel) (by decide +kernel)
theorem clX7_19 : Cond.classLink RX7 19 RX6 ∈ lw_good := lw_gd 221 (by decide +kernel) (by decide +kernel)
theorem clX8_51 : Cond.classLink RX8 51 RX3 ∈ lw_good := lw_gd 256 (by decide +kernel) (by decide +kernel)
theorem clL_10 : Cond.classLink RL 10 RX9 ∈ lw_good := lw_gd 684 (by decide +kernel) (by decide +kernel)
theorem cnX3_65 : Cond.constantLong RX3 65 (Int64.ofInt 10) ∈ lw_good := lw_gd 501 (by decide +kernel) (by decide +kernel)
theorem cnX1_50 : Cond.constantLong RX1 50 (Int64.ofInt 10) ∈ lw_good := lw_gd 521 (by decide +kernel) (by decide +kernel)
theorem cnX9_92 : Cond.constantLong RX9 92 (Int64.ofInt 5) ∈ lw_good := lw_gd 693 (by decide +kernel) (by decide +kernel)
theorem cnX9_94 : Cond.constantLong RX9 94 (Int64.ofInt 2) ∈ lw_good := lw_gd 694 (by decide +kernel) (by decide +kernel)
theorem cnX9_134 : Cond.constantLong RX9 134 (Int64.ofInt 32) ∈ lw_good := lw_gd 796 (by decide +kernel) (by decide +kernel)
theorem cnX9_136 : Cond.constantLong RX9 136 (Int64.ofInt 126) ∈ lw_good := lw_gd 797 (by decide +kernel) (by decide +kernel)
theorem cnX9_102 : Cond.constantLong RX9 102 (Int64.ofInt 48) ∈ lw_good := lw_gd 833 (by decide +kernel) (by decide +kernel)
theorem cnX9_104 : Cond.constantLong RX9 104 (Int64.ofInt 57) ∈ lw_good := lw_gd 834 (by decide +kernel) (by decide +kernel)
theorem cnX9_145 : Cond.constantLong RX9 145 (Int64.ofInt 10) ∈ lw_good := lw_gd 851 (by decide +kernel) (by decide +kernel)
theorem cnX9_166 : Cond.constantLong RX9 166 (Int64.ofInt 99) ∈ lw_good := lw_gd 908 (by decide +kernel) (by decide +kernel)
theorem cnX9_236 : Cond.constantLong RX9 236 (Int64.ofInt 9) ∈ lw_good := lw_gd 957 (by decide +kernel) (by decide +kernel)
theorem cnL_31 : Cond.constantLong RL 31 (Int64.ofInt 4294967295) ∈ lw_good := lw_gd 1014 (by decide +kernel) (by decide +kernel)
theorem flX5_9 : g_FR RX5 9 5 0 true := ⟨by decide, by decide, rfl, rfl, lw_gd 87 (by decide +kernel) (by decide +kernel)⟩
theorem flX5_15 : g_FR RX5 15 5 1 true := ⟨by decide, by decide, rfl, rfl, lw_gd 88 (by decide +kernel) (by decide +kernel)⟩
theorem flX5_19 : g_FI RX5 19 5 2 := ⟨by decide, by decide, rfl, rfl, lw_gd 89 (by decide +kernel) (by decide +kernel)⟩
theorem flX5_28 : g_FI RX5 28 5 3 := ⟨by decide, by decide, rfl, rfl, lw_gd 91 (by decide +kernel) (by decide +kernel)⟩
theorem flX4_9 : g_FR RX4 9 4 0 true := ⟨by decide, by decide, rfl, rfl, lw_gd 109 (by decide +kernel) (by decide +kernel)⟩
theorem flX4_15 : g_FR RX4 15 4 1 true := ⟨by decide, by decide, rfl, rfl, lw_gd 111 (by decide +kernel) (by decide +kernel)⟩
theorem flX4_19 : g_FI RX4 19 4 2 := ⟨by decide, by decide, rfl, rfl, lw_gd 113 (by decide +kernel) (by decide +kernel)⟩
theorem flX2_11 : g_FR RX2 11 2 0 true := ⟨by decide, by decide, rfl, rfl, lw_gd 132 (by decide +kernel) (by decide +kernel)⟩
theorem flX2_26 : g_FI RX2 26 2 1 := ⟨by decide, by decide, rfl, rfl, lw_gd 133 (by decide +kernel) (by decide +kernel)⟩
theorem flX2_18 : g_FI RX2 18 2 2 := ⟨by decide, by decide, rfl, rfl, lw_gd 135 (by decide +kernel) (by decide +kernel)⟩
theorem flX0_43 : g_FI RX0 43 0 0 := ⟨by decide, by decide, rfl, rfl, lw_gd 156 (by decide +kernel) (by decide +kernel)⟩
theorem flX0_19 : g_FI RX0 19 0 1 := ⟨by decide, by decide, rfl, rfl, lw_gd 160 (by decide +kernel) (by decide +kernel)⟩
theorem flX0_46 : g_FI RX0 46 0 2 := ⟨by decide, by decide, rfl, rfl, lw_gd 165 (by decide +kernel) (by decide +kernel)⟩
theorem flX0_28 : g_FI RX0 28 0 3 := ⟨by decide, by decide, rfl, rfl, lw_gd 166 (by decide +kernel) (by decide +kernel)⟩
theorem flX0_34 : g_FI RX0 34 0 4 := ⟨by decide, by decide, rfl, rfl, lw_gd 169 (by decide +kernel) (by decide +kernel)⟩
theorem flX0_9 : g_FI RX0 9 0 5 := ⟨by decide, by decide, rfl, rfl, lw_gd 172 (by decide +kernel) (by decide +kernel)⟩
theorem flX0_37 : g_FI RX0 37 0 6 := ⟨by decide, by decide, rfl, rfl, lw_gd 175 (by decide +kernel) (by decide +kernel)⟩
theorem flX0_40 : g_FI RX0 40 0 7 := ⟨by decide, by decide, rfl, rfl, lw_gd 176 (by decide +kernel) (by decide +kernel)⟩
theorem flX1_11 : g_FR RX1 11 1 0 true := ⟨by decide, by decide, rfl, rfl, lw_gd 195 (by decide +kernel) (by decide +kernel)⟩
theorem flX1_17 : g_FR RX1 17 1 1 true := ⟨by decide, by decide, rfl, rfl, lw_gd 198 (by decide +kernel) (by decide +kernel)⟩
theorem flX1_20 : g_FR RX1 20 1 2 false := ⟨by decide, by decide, rfl, rfl, lw_gd 199 (by decide +kernel) (by decide +kernel)⟩
theorem flX1_24 : g_FR RX1 24 1 3 false := ⟨by decide, by decide, rfl, rfl, lw_gd 200 (by decide +kernel) (by decide +kernel)⟩
theorem flX1_28 : g_FI RX1 28 1 4 := ⟨by decide, by decide, rfl, rfl, lw_gd 201 (by decide +kernel) (by decide +kernel)⟩
theorem flX6_9 : g_FR RX6 9 6 0 true := ⟨by decide, by decide, rfl, rfl, lw_gd 228 (by decide +kernel) (by decide +kernel)⟩
theorem flX6_15 : g_FR RX6 15 6 1 true := ⟨by decide, by decide, rfl, rfl, lw_gd 230 (by decide +kernel) (by decide +kernel)⟩
theorem flX6_18 : g_FI RX6 18 6 2 := ⟨by decide, by decide, rfl, rfl, lw_gd 232 (by decide +kernel) (by decide +kernel)⟩
theorem flX7_9 : g_FR RX7 9 7 0 true := ⟨by decide, by decide, rfl, rfl, lw_gd 243 (by decide +kernel) (by decide +kernel)⟩
theorem flX7_15 : g_FR RX7 15 7 1 true := ⟨by decide, by decide, rfl, rfl, lw_gd 245 (by decide +kernel) (by decide +kernel)⟩
theorem flX7_21 : g_FR RX7 21 7 2 true := ⟨by decide, by decide, rfl, rfl, lw_gd 247 (by decide +kernel) (by decide +kernel)⟩
theorem flX3_9 : g_FR RX3 9 3 0 true := ⟨by decide, by decide, rfl, rfl, lw_gd 266 (by decide +kernel) (by decide +kernel)⟩
theorem flX3_15 : g_FR RX3 15 3 1 true := ⟨by decide, by decide, rfl, rfl, lw_gd 269 (by decide +kernel) (by decide +kernel)⟩
theorem flX3_21 : g_FI RX3 21 3 2 := ⟨by decide, by decide, rfl, rfl, lw_gd 271 (by decide +kernel) (by decide +kernel)⟩
theorem flX3_25 : g_FI RX3 25 3 3 := ⟨by decide, by decide, rfl, rfl, lw_gd 274 (by decide +kernel) (by decide +kernel)⟩
theorem flX3_28 : g_FI RX3 28 3 4 := ⟨by decide, by decide, rfl, rfl, lw_gd 277 (by decide +kernel) (by decide +kernel)⟩
theorem flX3_31 : g_FI RX3 31 3 5 := ⟨by decide, by decide, rfl, rfl, lw_gd 279 (by decide +kernel) (by decide +kernel)⟩
theorem flX3_34 : g_FI RX3 34 3 6 := ⟨by decide, by decide, rfl, rfl, lw_gd 281 (by decide +kernel) (by decide +kernel)⟩
theorem flX3_37 : g_FI RX3 37 3 7 := ⟨by decide, by decide, rfl, rfl, lw_gd 282 (by decide +kernel) (by decide +kernel)⟩
theorem flX3_40 : g_FI RX3 40 3 8 := ⟨by decide, by decide, rfl, rfl, lw_gd 283 (by decide +kernel) (by decide +kernel)⟩
theorem flX3_43 : g_FI RX3 43 3 9 := ⟨by decide, by decide, rfl, rfl, lw_gd 285 (by decide +kernel) (by decide +kernel)⟩
theorem flX8_12 : g_FR RX8 12 8 0 true := ⟨by decide, by decide, rfl, rfl, lw_gd 405 (by decide +kernel) (by decide +kernel)⟩
theorem flX8_19 : g_FR RX8 19 8 1 true := ⟨by decide, by decide, rfl, rfl, lw_gd 406 (by decide +kernel) (by decide +kernel)⟩
theorem flX8_26 : g_FR RX8 26 8 2 true := ⟨by decide, by decide, rfl, rfl, lw_gd 407 (by decide +kernel) (by decide +kernel)⟩
theorem flX8_33 : g_FR RX8 33 8 3 true := ⟨by decide, by decide, rfl, rfl, lw_gd 408 (by decide +kernel) (by decide +kernel)⟩
theorem flX8_40 : g_FR RX8 40 8 4 true := ⟨by decide, by decide, rfl, rfl, lw_gd 409 (by decide +kernel) (by decide +kernel)⟩
theorem flX8_44 : g_FR RX8 44 8 5 true := ⟨by decide, by decide, rfl, rfl, lw_gd 410 (by decide +kernel) (by decide +kernel)⟩
theorem flX8_47 : g_FR RX8 47 8 6 true := ⟨by decide, by decide, rfl, rfl, lw_gd 411 (by decide +kernel) (by decide +kernel)⟩
theorem flX8_54 : g_FR RX8 54 8 7 false := ⟨by decide, by decide, rfl, rfl, lw_gd 412 (by decide +kernel) (by decide +kernel)⟩
theorem flX8_58 : g_FR RX8 58 8 8 false := ⟨by decide, by decide, rfl, rfl, lw_gd 413 (by decide +kernel) (by decide +kernel)⟩
theorem flX9_7 : g_FR RX9 7 9 0 true := ⟨by decide, by decide, rfl, rfl, lw_gd 695 (by decide +kernel) (by decide +kernel)⟩
theorem flX9_88 : g_FI RX9 88 9 1 := ⟨by decide, by decide, rfl, rfl, lw_gd 696 (by decide +kernel) (by decide +kernel)⟩
theorem flX9_13 : g_FR RX9 13 9 2 true := ⟨by decide, by decide, rfl, rfl, lw_gd 697 (by decide +kernel) (by decide +kernel)⟩
theorem flX9_16 : g_FR RX9 16 9 3 true := ⟨by decide, by decide, rfl, rfl, lw_gd 698 (by decide +kernel) (by decide +kernel)⟩
theorem flX9_20 : g_FR RX9 20 9 4 true := ⟨by decide, by decide, rfl, rfl, lw_gd 699 (by decide +kernel) (by decide +kernel)⟩
theorem flX9_142 : g_FI RX9 142 9 5 := ⟨by decide, by decide, rfl, rfl, lw_gd 700 (by decide +kernel) (by decide +kernel)⟩
theorem flX9_23 : g_FR RX9 23 9 6 true := ⟨by decide, by decide, rfl, rfl, lw_gd 701 (by decide +kernel) (by decide +kernel)⟩
theorem flX9_99 : g_FI RX9 99 9 7 := ⟨by decide, by decide, rfl, rfl, lw_gd 702 (by decide +kernel) (by decide +kernel)⟩
theorem flX9_26 : g_FR RX9 26 9 8 true := ⟨by decide, by decide, rfl, rfl, lw_gd 703 (by decide +kernel) (by decide +kernel)⟩
theorem flX9_122 : g_FI RX9 122 9 9 := ⟨by decide, by decide, rfl, rfl, lw_gd 704 (by decide +kernel) (by decide +kernel)⟩
theorem flX9_29 : g_FR RX9 29 9 10 true := ⟨by decide, by decide, rfl, rfl, lw_gd 705 (by decide +kernel) (by decide +kernel)⟩
theorem flX9_32 : g_FR RX9 32 9 11 true := ⟨by decide, by decide, rfl, rfl, lw_gd 706 (by decide +kernel) (by decide +kernel)⟩
theorem flX9_96 : g_FI RX9 96 9 12 := ⟨by decide, by decide, rfl, rfl, lw_gd 707 (by decide +kernel) (by decide +kernel)⟩
theorem flX9_35 : g_FR RX9 35 9 13 true := ⟨by decide, by decide, rfl, rfl, lw_gd 708 (by decide +kernel) (by decide +kernel)⟩
theorem flX9_38 : g_FR RX9 38 9 14 true := ⟨by decide, by decide, rfl, rfl, lw_gd 709 (by decide +kernel) (by decide +kernel)⟩
theorem flX9_176 : g_FI RX9 176 9 15 := ⟨by decide, by decide, rfl, rfl, lw_gd 710 (by decide +kernel) (by decide +kernel)⟩
theorem flX9_157 : g_FI RX9 157 9 16 := ⟨by decide, by decide, rfl, rfl, lw_gd 711 (by decide +kernel) (by decide +kernel)⟩
theorem flX9_186 : g_FI RX9 186 9 17 := ⟨by decide, by decide, rfl, rfl, lw_gd 712 (by decide +kernel) (by decide +kernel)⟩
theorem flX9_41 : g_FR RX9 41 9 18 true := ⟨by decide, by decide, rfl, rfl, lw_gd 713 (by decide +kernel) (by decide +kernel)⟩
theorem flX9_44 : g_FR RX9 44 9 19 true := ⟨by decide, by decide, rfl, rfl, lw_gd 714 (by decide +kernel) (by decide +kernel)⟩
theorem flX9_47 : g_FR RX9 47 9 20 true := ⟨by decide, by decide, rfl, rfl, lw_gd 715 (by decide +kernel) (by decide +kernel)⟩
theorem flX9_50 : g_FR RX9 50 9 21 true := ⟨by decide, by decide, rfl, rfl, lw_gd 716 (by decide +kernel) (by decide +kernel)⟩
theorem flX9_53 : g_FR RX9 53 9 22 true := ⟨by decide, by decide, rfl, rfl, lw_gd 717 (by decide +kernel) (by decide +kernel)⟩
theorem flX9_56 : g_FR RX9 56 9 23 true := ⟨by decide, by decide, rfl, rfl, lw_gd 718 (by decide +kernel) (by decide +kernel)⟩
theorem flX9_59 : g_FR RX9 59 9 24 true := ⟨by decide, by decide, rfl, rfl, lw_gd 719 (by decide +kernel) (by decide +kernel)⟩
theorem flX9_62 : g_FR RX9 62 9 25 true := ⟨by decide, by decide, rfl, rfl, lw_gd 720 (by decide +kernel) (by decide +kernel)⟩
theorem flX9_65 : g_FR RX9 65 9 26 true := ⟨by decide, by decide, rfl, rfl, lw_gd 721 (by decide +kernel) (by decide +kernel)⟩
theorem flX9_68 : g_FR RX9 68 9 27 true := ⟨by decide, by decide, rfl, rfl, lw_gd 722 (by decide +kernel) (by decide +kernel)⟩
theorem flX9_71 : g_FR RX9 71 9 28 true := ⟨by decide, by decide, rfl, rfl, lw_gd 723 (by decide +kernel) (by decide +kernel)⟩
theorem flX9_74 : g_FR RX9 74 9 29 true := ⟨by decide, by decide, rfl, rfl, lw_gd 724 (by decide +kernel) (by decide +kernel)⟩
theorem flX9_77 : g_FR RX9 77 9 30 true := ⟨by decide, by decide, rfl, rfl, lw_gd 725 (by decide +kernel) (by decide +kernel)⟩
theorem flX9_81 : g_FR RX9 81 9 31 true := ⟨by decide, by decide, rfl, rfl, lw_gd 726 (by decide +kernel) (by decide +kernel)⟩
def lw_nest : List Cond := [(Cond.methodLinkNest "SpeckValves" 11 (⟨"SpeckValves$Text", "<init>", "()V"⟩) "SpeckValves"), (Cond.fieldLinkNest "SpeckValves" 68 "SpeckValves$Text" "length" "I" "SpeckValves"), (Cond.methodLinkNest "SpeckValves" 18 (⟨"SpeckValves$Stand", "<init>", "()V"⟩) "SpeckValves"), (Cond.fieldLinkNest "SpeckValves" 240 "SpeckValves$Stand" "lines" "[J" "SpeckValves"), (Cond.fieldLinkNest "SpeckValves" 114 "SpeckValves$Stand" "numbers" "[I" "SpeckValves"), (Cond.fieldLinkNest "SpeckValves" 90 "SpeckValves$Stand" "lineCount" "I" "SpeckValves"), (Cond.methodLinkNest "SpeckValves$History" 17 (⟨"SpeckValves$Stand", "<init>", "()V"⟩) "SpeckValves"), (Cond.fieldLinkNest "SpeckValves" 120 "SpeckValves$History" "held" "I" "SpeckValves"), (Cond.methodLinkNest "SpeckValves$Fold" 27 (⟨"SpeckValves$Blob", "<init>", "()V"⟩) "SpeckValves"), (Cond.fieldLinkNest "SpeckValves$Verdict" 109 "SpeckValves$Blob" "first" "I" "SpeckValves"), (Cond.fieldLinkNest "SpeckValves" 133 "SpeckValves$Blob" "first" "I" "SpeckValves"), (Cond.fieldLinkNest "SpeckValves$Plan" 67 "SpeckValves$Blob" "first" "I" "SpeckValves"), (Cond.fieldLinkNest "SpeckValves$Verdict" 115 "SpeckValves$Blob" "last" "I" "SpeckValves"), (Cond.fieldLinkNest "SpeckValves$Fold" 90 "SpeckValves$Blob" "last" "I" "SpeckValves"), (Cond.fieldLinkNest "SpeckValves" 138 "SpeckValves$Blob" "last" "I" "SpeckValves"), (Cond.fieldLinkNest "SpeckValves$Plan" 72 "SpeckValves$Blob" "last" "I" "SpeckValves"), (Cond.fieldLinkNest "SpeckValves$Verdict" 99 "SpeckValves$Blob" "left" "I" "SpeckValves"), (Cond.fieldLinkNest "SpeckValves" 141 "SpeckValves$Blob" "left" "I" "SpeckValves"), (Cond.fieldLinkNest "SpeckValves$Verdict" 93 "SpeckValves$Blob" "right" "I" "SpeckValves"), (Cond.fieldLinkNest "SpeckValves" 144 "SpeckValves$Blob" "right" "I" "SpeckValves"), (Cond.fieldLinkNest "SpeckValves$Fold" 32 "SpeckValves$Blob" "size" "I" "SpeckValves"), (Cond.fieldLinkNest "SpeckValves" 147 "SpeckValves$Blob" "size" "I" "SpeckValves"), (Cond.fieldLinkNest "SpeckValves" 154 "SpeckValves$Blob" "dark" "I" "SpeckValves"), (Cond.fieldLinkNest "SpeckValves$Verdict" 34 "SpeckValves$Fold" "ended" "[LSpeckValves$Blob;" "SpeckValves"), (Cond.fieldLinkNest "SpeckValves" 129 "SpeckValves$Fold" "ended" "[LSpeckValves$Blob;" "SpeckValves"), (Cond.fieldLinkNest "SpeckValves$Verdict" 56 "SpeckValves$Fold" "endedCount" "I" "SpeckValves"), (Cond.fieldLinkNest "SpeckValves" 93 "SpeckValves$Fold" "endedCount" "I" "SpeckValves"), (Cond.methodLinkNest "SpeckValves$Verdict" 25 (⟨"SpeckValves$Valve", "<init>", "()V"⟩) "SpeckValves"), (Cond.fieldLinkNest "SpeckValves" 193 "SpeckValves$Valve" "firsts" "[I" "SpeckValves"), (Cond.fieldLinkNest "SpeckValves" 196 "SpeckValves$Valve" "lasts" "[I" "SpeckValves"), (Cond.fieldLinkNest "SpeckValves$Verdict" 26 "SpeckValves$Valve" "openings" "I" "SpeckValves"), (Cond.fieldLinkNest "SpeckValves" 188 "SpeckValves$Valve" "openings" "I" "SpeckValves"), (Cond.fieldLinkNest "SpeckValves" 157 "SpeckValves$Verdict" "badBy" "[I" "SpeckValves"), (Cond.fieldLinkNest "SpeckValves" 171 "SpeckValves$Verdict" "blown" "[Z" "SpeckValves"), (Cond.fieldLinkNest "SpeckValves" 184 "SpeckValves$Verdict" "valves" "[LSpeckValves$Valve;" "SpeckValves"), (Cond.fieldLinkNest "SpeckValves$Verdict" 70 "SpeckValves$Plan" "kinds" "[I" "SpeckValves"), (Cond.fieldLinkNest "SpeckValves" 216 "SpeckValves$Plan" "kinds" "[I" "SpeckValves"), (Cond.fieldLinkNest "SpeckValves" 233 "SpeckValves$Plan" "numbers" "[I" "SpeckValves"), (Cond.fieldLinkNest "SpeckValves$Verdict" 65 "SpeckValves$Plan" "ruleCount" "I" "SpeckValves"), (Cond.fieldLinkNest "SpeckValves" 80 "SpeckValves$Plan" "ruleCount" "I" "SpeckValves"), (Cond.fieldLinkNest "SpeckValves$Fold" 47 "SpeckValves$Plan" "width" "I" "SpeckValves"), (Cond.fieldLinkNest "SpeckValves" 83 "SpeckValves$Plan" "width" "I" "SpeckValves"), (Cond.fieldLinkNest "SpeckValves" 222 "SpeckValves$Plan" "valveCount" "I" "SpeckValves"), (Cond.fieldLinkNest "SpeckValves$Verdict" 112 "SpeckValves$Plan" "fall" "I" "SpeckValves"), (Cond.fieldLinkNest "SpeckValves$Fold" 52 "SpeckValves$Plan" "darkFrom" "I" "SpeckValves"), (Cond.fieldLinkNest "SpeckValves$Verdict" 102 "SpeckValves$Plan" "rest" "I" "SpeckValves")]
set_option maxRecDepth 20000 in
theorem lw_nest_in : ∀ w ∈ lw_nest, w ∈ lw_tbl := by
  have h : lw_nest.map some = [83, 90, 105, 110, 112, 114, 131, 134, 152, 157, 158, 159, 161, 162, 163, 164, 167, 168, 170, 171, 173, 174, 177, 196, 197, 202, 203, 224, 229, 231, 233, 234, 244, 246, 248, 267, 268, 270, 272, 273, 275, 276, 278, 280, 284, 286].map (fun i => lw_tbl[i]?) := by decide +kernel
  intro w hw
  have h1 : some w ∈ lw_nest.map some := List.mem_map.mpr ⟨w, hw, rfl⟩
  rw [h] at h1
  obtain ⟨i, -, hi⟩ := List.mem_map.mp h1
  exact List.mem_of_getElem? hi
def g_NI (own : String) (idx ci k : Nat) : Prop := ci < 10 ∧ k < g_nf ci ∧ g_ft ci k = .int ∧ (g_TT ci k).2.2.2 = false ∧ ∃ host, Cond.fieldLinkNest own idx (g_TT ci k).1 (g_TT ci k).2.1 (g_TT ci k).2.2.1 host ∈ lw_nest
def g_NR (own : String) (idx ci k : Nat) (fin : Bool) : Prop := ci < 10 ∧ k < g_nf ci ∧ g_isR (g_ft ci k) = true ∧ (g_TT ci k).2.2.2 = fin ∧ ∃ host, Cond.fieldLinkNest own idx (g_TT ci k).1 (g_TT ci k).2.1 (g_TT ci k).2.2.1 host ∈ lw_nest
theorem mnX8_11 : Cond.methodLinkNest RX8 11 yX5_init "SpeckValves" ∈ lw_nest := List.mem_of_getElem? (i := 0) (by decide +kernel)
theorem fnX8_68 : g_NI RX8 68 5 2 := ⟨by decide, by decide, rfl, rfl, "SpeckValves", List.mem_of_getElem? (i := 1) (by decide +kernel)⟩
theorem mnX8_18 : Cond.methodLinkNest RX8 18 yX4_init "SpeckValves" ∈ lw_nest := List.mem_of_getElem? (i := 2) (by decide +kernel)
theorem fnX8_240 : g_NR RX8 240 4 0 true := ⟨by decide, by decide, rfl, rfl, "SpeckValves", List.mem_of_getElem? (i := 3) (by decide +kernel)⟩
theorem fnX8_114 : g_NR RX8 114 4 1 true := ⟨by decide, by decide, rfl, rfl, "SpeckValves", List.mem_of_getElem? (i := 4) (by decide +kernel)⟩
theorem fnX8_90 : g_NI RX8 90 4 2 := ⟨by decide, by decide, rfl, rfl, "SpeckValves", List.mem_of_getElem? (i := 5) (by decide +kernel)⟩
theorem mnX2_17 : Cond.methodLinkNest RX2 17 yX4_init "SpeckValves" ∈ lw_nest := List.mem_of_getElem? (i := 6) (by decide +kernel)
theorem fnX8_120 : g_NI RX8 120 2 1 := ⟨by decide, by decide, rfl, rfl, "SpeckValves", List.mem_of_getElem? (i := 7) (by decide +kernel)⟩
theorem mnX1_27 : Cond.methodLinkNest RX1 27 yX0_init "SpeckValves" ∈ lw_nest := List.mem_of_getElem? (i := 8) (by decide +kernel)
theorem fnX7_109 : g_NI RX7 109 0 0 := ⟨by decide, by decide, rfl, rfl, "SpeckValves", List.mem_of_getElem? (i := 9) (by decide +kernel)⟩
theorem fnX8_133 : g_NI RX8 133 0 0 := ⟨by decide, by decide, rfl, rfl, "SpeckValves", List.mem_of_getElem? (i := 10) (by decide +kernel)⟩
theorem fnX3_67 : g_NI RX3 67 0 0 := ⟨by decide, by decide, rfl, rfl, "SpeckValves", List.mem_of_getElem? (i := 11) (by decide +kernel)⟩
theorem fnX7_115 : g_NI RX7 115 0 1 := ⟨by decide, by decide, rfl, rfl, "SpeckValves", List.mem_of_getElem? (i := 12) (by decide +kernel)⟩
theorem fnX1_90 : g_NI RX1 90 0 1 := ⟨by decide, by decide, rfl, rfl, "SpeckValves", List.mem_of_getElem? (i := 13) (by decide +kernel)⟩
theorem fnX8_138 : g_NI RX8 138 0 1 := ⟨by decide, by decide, rfl, rfl, "SpeckValves", List.mem_of_getElem? (i := 14) (by decide +kernel)⟩
theorem fnX3_72 : g_NI RX3 72 0 1 := ⟨by decide, by decide, rfl, rfl, "SpeckValves", List.mem_of_getElem? (i := 15) (by decide +kernel)⟩
theorem fnX7_99 : g_NI RX7 99 0 3 := ⟨by decide, by decide, rfl, rfl, "SpeckValves", List.mem_of_getElem? (i := 16) (by decide +kernel)⟩
theorem fnX8_141 : g_NI RX8 141 0 3 := ⟨by decide, by decide, rfl, rfl, "SpeckValves", List.mem_of_getElem? (i := 17) (by decide +kernel)⟩
theorem fnX7_93 : g_NI RX7 93 0 4 := ⟨by decide, by decide, rfl, rfl, "SpeckValves", List.mem_of_getElem? (i := 18) (by decide +kernel)⟩
theorem fnX8_144 : g_NI RX8 144 0 4 := ⟨by decide, by decide, rfl, rfl, "SpeckValves", List.mem_of_getElem? (i := 19) (by decide +kernel)⟩
theorem fnX1_32 : g_NI RX1 32 0 5 := ⟨by decide, by decide, rfl, rfl, "SpeckValves", List.mem_of_getElem? (i := 20) (by decide +kernel)⟩
theorem fnX8_147 : g_NI RX8 147 0 5 := ⟨by decide, by decide, rfl, rfl, "SpeckValves", List.mem_of_getElem? (i := 21) (by decide +kernel)⟩
theorem fnX8_154 : g_NI RX8 154 0 7 := ⟨by decide, by decide, rfl, rfl, "SpeckValves", List.mem_of_getElem? (i := 22) (by decide +kernel)⟩
theorem fnX7_34 : g_NR RX7 34 1 0 true := ⟨by decide, by decide, rfl, rfl, "SpeckValves", List.mem_of_getElem? (i := 23) (by decide +kernel)⟩
theorem fnX8_129 : g_NR RX8 129 1 0 true := ⟨by decide, by decide, rfl, rfl, "SpeckValves", List.mem_of_getElem? (i := 24) (by decide +kernel)⟩
theorem fnX7_56 : g_NI RX7 56 1 4 := ⟨by decide, by decide, rfl, rfl, "SpeckValves", List.mem_of_getElem? (i := 25) (by decide +kernel)⟩
theorem fnX8_93 : g_NI RX8 93 1 4 := ⟨by decide, by decide, rfl, rfl, "SpeckValves", List.mem_of_getElem? (i := 26) (by decide +kernel)⟩
theorem mnX7_25 : Cond.methodLinkNest RX7 25 yX6_init "SpeckValves" ∈ lw_nest := List.mem_of_getElem? (i := 27) (by decide +kernel)
theorem fnX8_193 : g_NR RX8 193 6 0 true := ⟨by decide, by decide, rfl, rfl, "SpeckValves", List.mem_of_getElem? (i := 28) (by decide +kernel)⟩
theorem fnX8_196 : g_NR RX8 196 6 1 true := ⟨by decide, by decide, rfl, rfl, "SpeckValves", List.mem_of_getElem? (i := 29) (by decide +kernel)⟩
theorem fnX7_26 : g_NI RX7 26 6 2 := ⟨by decide, by decide, rfl, rfl, "SpeckValves", List.mem_of_getElem? (i := 30) (by decide +kernel)⟩
theorem fnX8_188 : g_NI RX8 188 6 2 := ⟨by decide, by decide, rfl, rfl, "SpeckValves", List.mem_of_getElem? (i := 31) (by decide +kernel)⟩
theorem fnX8_157 : g_NR RX8 157 7 0 true := ⟨by decide, by decide, rfl, rfl, "SpeckValves", List.mem_of_getElem? (i := 32) (by decide +kernel)⟩
theorem fnX8_171 : g_NR RX8 171 7 1 true := ⟨by decide, by decide, rfl, rfl, "SpeckValves", List.mem_of_getElem? (i := 33) (by decide +kernel)⟩
theorem fnX8_184 : g_NR RX8 184 7 2 true := ⟨by decide, by decide, rfl, rfl, "SpeckValves", List.mem_of_getElem? (i := 34) (by decide +kernel)⟩
theorem fnX7_70 : g_NR RX7 70 3 0 true := ⟨by decide, by decide, rfl, rfl, "SpeckValves", List.mem_of_getElem? (i := 35) (by decide +kernel)⟩
theorem fnX8_216 : g_NR RX8 216 3 0 true := ⟨by decide, by decide, rfl, rfl, "SpeckValves", List.mem_of_getElem? (i := 36) (by decide +kernel)⟩
theorem fnX8_233 : g_NR RX8 233 3 1 true := ⟨by decide, by decide, rfl, rfl, "SpeckValves", List.mem_of_getElem? (i := 37) (by decide +kernel)⟩
theorem fnX7_65 : g_NI RX7 65 3 2 := ⟨by decide, by decide, rfl, rfl, "SpeckValves", List.mem_of_getElem? (i := 38) (by decide +kernel)⟩
theorem fnX8_80 : g_NI RX8 80 3 2 := ⟨by decide, by decide, rfl, rfl, "SpeckValves", List.mem_of_getElem? (i := 39) (by decide +kernel)⟩
theorem fnX1_47 : g_NI RX1 47 3 3 := ⟨by decide, by decide, rfl, rfl, "SpeckValves", List.mem_of_getElem? (i := 40) (by decide +kernel)⟩
theorem fnX8_83 : g_NI RX8 83 3 3 := ⟨by decide, by decide, rfl, rfl, "SpeckValves", List.mem_of_getElem? (i := 41) (by decide +kernel)⟩
theorem fnX8_222 : g_NI RX8 222 3 4 := ⟨by decide, by decide, rfl, rfl, "SpeckValves", List.mem_of_getElem? (i := 42) (by decide +kernel)⟩
theorem fnX7_112 : g_NI RX7 112 3 5 := ⟨by decide, by decide, rfl, rfl, "SpeckValves", List.mem_of_getElem? (i := 43) (by decide +kernel)⟩
theorem fnX1_52 : g_NI RX1 52 3 8 := ⟨by decide, by decide, rfl, rfl, "SpeckValves", List.mem_of_getElem? (i := 44) (by decide +kernel)⟩
theorem fnX7_102 : g_NI RX7 102 3 9 := ⟨by decide, by decide, rfl, rfl, "SpeckValves", List.mem_of_getElem? (i := 45) (by decide +kernel)⟩
theorem wo_inst : Cond.instanceMethod objectInit ∈ lw_good := lw_gd 79 (by decide +kernel) (by decide +kernel)
theorem wo_code : Cond.code objectInit ⟨#[0xb1]⟩ 1 none ∈ lw_good := lw_gd 80 (by decide +kernel) (by decide +kernel)
theorem wmax_stat : Cond.static Lib.Math.max.name ∈ lw_good := lw_gd 383 (by decide +kernel) (by decide +kernel)
theorem wmax_code : Cond.code Lib.Math.max.name Lib.Math.max.code 2 (some .int) ∈ lw_good := lw_gd 384 (by decide +kernel) (by decide +kernel)
theorem wmin_stat : Cond.static Lib.Math.min.name ∈ lw_good := lw_gd 349 (by decide +kernel) (by decide +kernel)
theorem wmin_code : Cond.code Lib.Math.min.name Lib.Math.min.code 2 (some .int) ∈ lw_good := lw_gd 350 (by decide +kernel) (by decide +kernel)
theorem wmath_init : Cond.initialized "java/lang/Math" ∈ lw_good := lw_gd 71 (by decide +kernel) (by decide +kernel)
theorem wsys_init : Cond.initialized "java/lang/System" ∈ lw_good := lw_gd 69 (by decide +kernel) (by decide +kernel)
theorem wcopy_stat : Cond.static arraycopyName ∈ lw_good := lw_gd 320 (by decide +kernel) (by decide +kernel)
theorem wcopy_nat : Cond.native arraycopyName ∈ lw_good := lw_gd 321 (by decide +kernel) (by decide +kernel)
theorem wa_int : Cond.arrayClass .int ∈ lw_good := lw_gd 102 (by decide +kernel) (by decide +kernel)
theorem wa_long : Cond.arrayClass .long ∈ lw_good := lw_gd 122 (by decide +kernel) (by decide +kernel)
theorem wa_boolean : Cond.arrayClass .boolean ∈ lw_good := lw_gd 242 (by decide +kernel) (by decide +kernel)
theorem wa_char : Cond.arrayClass .char ∈ lw_good := lw_gd 101 (by decide +kernel) (by decide +kernel)
theorem wi_X0 : Cond.instantiable (g_R 0) (g_nf 0) ∈ lw_good ∧ Cond.initialized (g_R 0) ∈ lw_good := ⟨lw_gd 151 (by decide +kernel) (by decide +kernel), lw_gd 65 (by decide +kernel) (by decide +kernel)⟩
theorem wi_X1 : Cond.instantiable (g_R 1) (g_nf 1) ∈ lw_good ∧ Cond.initialized (g_R 1) ∈ lw_good := ⟨lw_gd 144 (by decide +kernel) (by decide +kernel), lw_gd 64 (by decide +kernel) (by decide +kernel)⟩
theorem wi_X2 : Cond.instantiable (g_R 2) (g_nf 2) ∈ lw_good ∧ Cond.initialized (g_R 2) ∈ lw_good := ⟨lw_gd 124 (by decide +kernel) (by decide +kernel), lw_gd 63 (by decide +kernel) (by decide +kernel)⟩
theorem wi_X3 : Cond.instantiable (g_R 3) (g_nf 3) ∈ lw_good ∧ Cond.initialized (g_R 3) ∈ lw_good := ⟨lw_gd 257 (by decide +kernel) (by decide +kernel), lw_gd 68 (by decide +kernel) (by decide +kernel)⟩
theorem wi_X4 : Cond.instantiable (g_R 4) (g_nf 4) ∈ lw_good ∧ Cond.initialized (g_R 4) ∈ lw_good := ⟨lw_gd 104 (by decide +kernel) (by decide +kernel), lw_gd 62 (by decide +kernel) (by decide +kernel)⟩
theorem wi_X5 : Cond.instantiable (g_R 5) (g_nf 5) ∈ lw_good ∧ Cond.initialized (g_R 5) ∈ lw_good := ⟨lw_gd 82 (by decide +kernel) (by decide +kernel), lw_gd 61 (by decide +kernel) (by decide +kernel)⟩
theorem wi_X6 : Cond.instantiable (g_R 6) (g_nf 6) ∈ lw_good ∧ Cond.initialized (g_R 6) ∈ lw_good := ⟨lw_gd 223 (by decide +kernel) (by decide +kernel), lw_gd 67 (by decide +kernel) (by decide +kernel)⟩
theorem wi_X7 : Cond.instantiable (g_R 7) (g_nf 7) ∈ lw_good ∧ Cond.initialized (g_R 7) ∈ lw_good := ⟨lw_gd 216 (by decide +kernel) (by decide +kernel), lw_gd 66 (by decide +kernel) (by decide +kernel)⟩
theorem wi_X8 : Cond.instantiable (g_R 8) (g_nf 8) ∈ lw_good ∧ Cond.initialized (g_R 8) ∈ lw_good := ⟨lw_gd 74 (by decide +kernel) (by decide +kernel), lw_gd 60 (by decide +kernel) (by decide +kernel)⟩
theorem wi_X9 : Cond.instantiable (g_R 9) (g_nf 9) ∈ lw_good ∧ Cond.initialized (g_R 9) ∈ lw_good := ⟨lw_gd 685 (by decide +kernel) (by decide +kernel), lw_gd 72 (by decide +kernel) (by decide +kernel)⟩
theorem g_ins : ∀ ci : Nat, ci < 10 → Cond.instantiable (g_R ci) (g_nf ci) ∈ lw_good ∧ Cond.initialized (g_R ci) ∈ lw_good
  | 0, _ => wi_X0 | 1, _ => wi_X1 | 2, _ => wi_X2 | 3, _ => wi_X3 | 4, _ => wi_X4 | 5, _ => wi_X5 | 6, _ => wi_X6 | 7, _ => wi_X7 | 8, _ => wi_X8 | 9, _ => wi_X9
  | n + 10, h => absurd h (by omega)
def lw_over : List String := ["SpeckValves$Stand", "SpeckValves$Blob", "SpeckValves$Valve"]
theorem lw_over_in : ∀ C ∈ lw_over, Cond.arrayOver (.object C) ∈ lw_tbl := by
  intro C hC
  simp only [lw_over, List.mem_cons, List.not_mem_nil, or_false] at hC
  rcases hC with rfl | rfl | rfl
  · exact List.mem_of_getElem? (i := 130) (by decide +kernel)
  · exact List.mem_of_getElem? (i := 150) (by decide +kernel)
  · exact List.mem_of_getElem? (i := 222) (by decide +kernel)
def g_isN : Cond → Bool
  | .fieldLinkNest .. => true
  | .methodLinkNest .. => true
  | _ => false
theorem lw_nest_all : lw_nest.all g_isN = true := by decide +kernel
end
section
def g_rn (b : Nat) (ad : Int → Nat) : gV → Value
  | .inl x => .int (Int32.ofInt x)
  | .inr (.inl x) => .long (Int64.ofInt x)
  | .inr (.inr (.inl a)) => .ref (ad a)
  | .inr (.inr (.inr _)) => .ref b
def g_ok (n : Nat) : gV → Prop
  | .inl x => -2147483648 ≤ x ∧ x ≤ 2147483647
  | .inr (.inl x) => -9223372036854775808 ≤ x ∧ x ≤ 9223372036854775807
  | .inr (.inr (.inl a)) => 0 ≤ a ∧ a < (n : Int)
  | .inr (.inr (.inr _)) => True
/-- the content of one cell of an array or one field of an object told anew -/
def g_up {α : Type} (f : Int → Int → α) (a i : Int) (v : α) : Int → Int → α := fun b j => if b = a ∧ j = i then v else f b j
/-- a whole row told anew -/
def g_row {α : Type} (f : Int → α) (a : Int) (v : α) : Int → α := fun b => if b = a then v else f b
def g_fv (ad : Int → Nat) (t : FieldType) (x : Int) (r : Option Int) : Value := match t with
  | .int => .int (Int32.ofInt x)
  | _ => va_rf (r.map ad)
def g_fs (ad : Int → Nat) (gi : gF) (gr : Int → Int → Option Int) (ci : Nat) (a : Int) : List Value := (List.range (g_nf ci)).map (fun k => g_fv ad (g_ft ci k) (gi a (k : Int)) (gr a (k : Int)))
def g_cell (cy : Nat → ClassId) (ad : Int → Nat) (gi gl : gF) (sh : gSh) (a : Int) : va_E :=
  if sh.2.1 a < 10 then .inr (sh.2.1 a, g_fs ad gi sh.1 (sh.2.1 a) a)
  else if sh.2.1 a = 12 then .inl (cy 12, sh.2.2.1 a, .inr (.inl (fun j => Int64.ofInt (gl a (j : Int)))))
  else if sh.2.1 a < 14 then .inl (cy (sh.2.1 a), sh.2.2.1 a, .inl (fun j => Int32.ofInt (gi a (j : Int))))
  else .inl (cy (sh.2.1 a), sh.2.2.1 a, .inr (.inr (.inr (.inr (fun j => (sh.1 a (j : Int)).map ad)))))
def g_ws (cy : Nat → ClassId) (ad : Int → Nat) (gi gl : gF) (sh : gSh) : va_W := (List.range sh.2.2.2).map (fun (i : Nat) => (ad (i : Int), g_cell cy ad gi gl sh (i : Int)))
def g_tys (cy : Nat → ClassId) : List (ClassId × FieldType) := [(cy 10, .char), (cy 11, .int), (cy 12, .long), (cy 13, .boolean), (cy 14, .object "SpeckValves$Blob"), (cy 15, .object "SpeckValves$Stand"), (cy 16, .object "SpeckValves$Valve")]
def g_wf (gi gl : gF) (sh : gSh) : Prop :=
  (∀ a k : Int, -2147483648 ≤ gi a k ∧ gi a k ≤ 2147483647) ∧ (∀ a k : Int, -9223372036854775808 ≤ gl a k ∧ gl a k ≤ 9223372036854775807) ∧ ∀ a k r : Int, sh.1 a k = some r → 0 ≤ r ∧ r < (sh.2.2.2 : Int)
def g_Mm (s : State) (A : Nat → Prop) (D : va_G) (cy : Nat → ClassId) (ad : Int → Nat) (gi gl : gF) (sh : gSh) (H : Heap) (locs : List Loc) : Prop :=
  va_K D vwCl (g_tys cy) s ∧ va_P D vwCl (g_ws cy ad gi gl sh) H ∧ va_D A (g_ws cy ad gi gl sh) ∧ va_S A s.heap H locs ∧ g_wf gi gl sh
def g_Lo (b : Nat) (ad : Int → Nat) (n : Nat) (lsA : Array Slot) (nL : Nat) (ls : List (Option gV)) : Prop :=
  lsA.size = nL ∧ ls.length = nL ∧ lv_wf lsA ∧ ∀ (i : Nat) (v : gV), ls[i]? = some (some v) → lsA[i]? = some (.val (g_rn b ad v)) ∧ g_ok n v
def g_Cx (md : gMD) (p : Program) (R : Room) (s : State) (m : MethodId) (args : Array Value) (meth : Method) (c : Code) (A : Nat → Prop) (b : Nat) : Prop :=
  p.tables.exec = Jvm.exec ∧ c.code = md.2.1 ∧ c.maxLocals = md.2.2.1 ∧ s.vm.findClass md.1 = some m.cls ∧ (∀ w ∈ lw_good, w.before args s = true) ∧ (∀ w ∈ lw_nest, va_Nw w s) ∧ (∀ C ∈ lw_over, va_AO C s) ∧
  md.2.2.2.2.1 ≤ R.frames ∧ 30 * md.2.2.2.2.1 ≤ R.locals ∧ 1 ≤ md.2.2.2.2.1 ∧ (md.2.2.2.2.2.1.name = "<init>" → meth.name = "<init>") ∧ (∀ q : Nat, s.heap.size ≤ q → A q) ∧
  (∀ (L : Nat) (xs : Nat → Int32), md.2.2.2.2.2.2 = some (L, xs) → va_X b L xs s s.heap ∧ b < s.heap.size ∧ ¬ A b)
/-- where a method ends, and with what -/
def g_Rt (md : gMD) (pc : Nat) (r : Option gV) : Prop := match r with
  | none => md.2.2.2.1 = none ∧ decode md.2.1 pc = .ok (.return_, 1)
  | some (.inl x) => (∃ ty, md.2.2.2.1 = some ty ∧ narrow ty (.int (Int32.ofInt x)) = .int (Int32.ofInt x)) ∧ decode md.2.1 pc = .ok (.ireturn, 1)
  | some (.inr (.inl _)) => md.2.2.2.1 = some .long ∧ decode md.2.1 pc = .ok (.lreturn, 1)
  | some (.inr (.inr _)) => False
def g_X (md : gMD) (Q : gQ) (p : Program) (l : Launch) (e : Env) (R : Room) (s : State) (m : MethodId) (args : Array Value) (below : List Frame) (meth : Method) (c : Code) (Qf : State → Prop) (A : Nat → Prop) (D : va_G) (cy : Nat → ClassId) (b n0 : Nat) (ad0 : Int → Nat) (MC MS : Nat) : Prop :=
  g_Cx md p R s m args meth c A b ∧ MC ≤ R.cells ∧ MS ≤ R.slots ∧
  ∀ (r : Option gV) (gi gl : gF) (sh : gSh) (ad : Int → Nat) (H : Heap) (locs : List Loc) (cells slots pc : Nat) (lsA : Array Slot), Q r gi gl sh → n0 ≤ sh.2.2.2 → (∀ a : Int, 0 ≤ a → a < (n0 : Int) → ad a = ad0 a) → g_Mm s A D cy ad gi gl sh H locs → cells ≤ MC → slots ≤ MS → g_Rt md pc r → (∀ v, r = some v → g_ok sh.2.2.2 v) →
    W p l e R s m args below meth c H locs cells slots Qf (F0 m pc lsA (r.toList.map (g_rn b ad)))
def g_T (md : gMD) (mc ms : Nat) (ls : List (Option gV)) (st : List gV) (gi gl : gF) (sh : gSh) (s : State) (A : Nat → Prop) (D : va_G) (cy : Nat → ClassId) (b n0 : Nat) (ad0 : Int → Nat) (MC MS : Nat) (ad : Int → Nat) (H : Heap) (locs : List Loc) (cells slots : Nat) (lsA : Array Slot) : Prop :=
  (n0 ≤ sh.2.2.2 ∧ ∀ a : Int, 0 ≤ a → a < (n0 : Int) → ad a = ad0 a) ∧ (cells + mc ≤ MC ∧ slots + ms ≤ MS) ∧ g_Mm s A D cy ad gi gl sh H locs ∧ g_Lo b ad sh.2.2.2 lsA md.2.2.1 ls ∧ ∀ v ∈ st, g_ok sh.2.2.2 v
/-- from this frame over this memory the method comes to its end with Q -/
def Go (md : gMD) (mc ms pc : Nat) (ls : List (Option gV)) (st : List gV) (gi gl : gF) (sh : gSh) (Q : gQ) : Prop :=
  ∀ (p : Program) (l : Launch) (e : Env) (R : Room) (s : State) (m : MethodId) (args : Array Value) (below : List Frame) (meth : Method) (c : Code) (Qf : State → Prop) (A : Nat → Prop) (D : va_G) (cy : Nat → ClassId) (b n0 : Nat) (ad0 : Int → Nat) (MC MS : Nat),
    g_X md Q p l e R s m args below meth c Qf A D cy b n0 ad0 MC MS →
    ∀ (ad : Int → Nat) (H : Heap) (locs : List Loc) (cells slots : Nat) (lsA : Array Slot), g_T md mc ms ls st gi gl sh s A D cy b n0 ad0 MC MS ad H locs cells slots lsA →
      W p l e R s m args below meth c H locs cells slots Qf (F0 m pc lsA (st.map (g_rn b ad)))
/-! lemmas on the memory -/
theorem g_sc {n : Nat} {v : gV} {st : List gV} (h1 : g_ok n v) (h2 : ∀ w ∈ st, g_ok n w) : ∀ w ∈ v :: st, g_ok n w := fun w hw => (List.mem_cons.mp hw).elim (fun e => e ▸ h1) (h2 w)
theorem g_sh {n : Nat} {v : gV} {st : List gV} (h : ∀ w ∈ v :: st, g_ok n w) : g_ok n v := h v List.mem_cons_self
theorem g_st {n : Nat} {v : gV} {st : List gV} (h : ∀ w ∈ v :: st, g_ok n w) : ∀ w ∈ st, g_ok n w := fun w hw => h w (List.mem_cons_of_mem _ hw)
section GT
variable {md : gMD} {mc ms : Nat} {ls : List (Option gV)} {st : List gV} {gi gl : gF} {sh : gSh} {s : State} {A : Nat → Prop} {D : va_G} {cy : Nat → ClassId} {b n0 : Nat} {ad0 : Int → Nat} {MC MS : Nat} {ad : Int → Nat} {H : Heap} {locs : List Loc} {cells slots : Nat} {lsA : Array Slot}
theorem g_T.stk (T : g_T md mc ms ls st gi gl sh s A D cy b n0 ad0 MC MS ad H locs cells slots lsA) {st' : List gV} (h : ∀ v ∈ st', g_ok sh.2.2.2 v) : g_T md mc ms ls st' gi gl sh s A D cy b n0 ad0 MC MS ad H locs cells slots lsA := ⟨T.1, T.2.1, T.2.2.1, T.2.2.2.1, h⟩
theorem g_T.ok (T : g_T md mc ms ls st gi gl sh s A D cy b n0 ad0 MC MS ad H locs cells slots lsA) : ∀ v ∈ st, g_ok sh.2.2.2 v := T.2.2.2.2
theorem g_T.mm (T : g_T md mc ms ls st gi gl sh s A D cy b n0 ad0 MC MS ad H locs cells slots lsA) : g_Mm s A D cy ad gi gl sh H locs := T.2.2.1
theorem g_T.lo (T : g_T md mc ms ls st gi gl sh s A D cy b n0 ad0 MC MS ad H locs cells slots lsA) : g_Lo b ad sh.2.2.2 lsA md.2.2.1 ls := T.2.2.2.1
/-- ints told anew, the shape and the locals as they are -/
theorem g_T.mem (T : g_T md mc ms ls st gi gl sh s A D cy b n0 ad0 MC MS ad H locs cells slots lsA) {gi' gl' : gF} {gr' : Int → Int → Option Int} {st' : List gV} {H' : Heap} {locs' : List Loc} (hM : g_Mm s A D cy ad gi' gl' (gr', sh.2) H' locs') (h : ∀ v ∈ st', g_ok sh.2.2.2 v) : g_T md mc ms ls st' gi' gl' (gr', sh.2) s A D cy b n0 ad0 MC MS ad H' locs' cells slots lsA := ⟨T.1, T.2.1, hM, T.2.2.2.1, h⟩
end GT
theorem g_ws_get {cy : Nat → ClassId} {ad : Int → Nat} {gi gl : gF} {sh : gSh} {a : Int} (h0 : 0 ≤ a) (h1 : a < (sh.2.2.2 : Int)) : (g_ws cy ad gi gl sh)[a.toNat]? = some (ad a, g_cell cy ad gi gl sh a) := by
  have h2 : a.toNat < sh.2.2.2 := by omega
  have h3 : ((a.toNat : Nat) : Int) = a := by omega
  simp [g_ws, h2, h3]
theorem g_ws_len {cy : Nat → ClassId} {ad : Int → Nat} {gi gl : gF} {sh : gSh} : (g_ws cy ad gi gl sh).length = sh.2.2.2 := by simp [g_ws]
theorem g_ws_set {cy : Nat → ClassId} {ad : Int → Nat} {gi gl gi' gl' : gF} {sh : gSh} {gr' : Int → Int → Option Int} {a : Int} {e : va_E} (h0 : 0 ≤ a) (he : g_cell cy ad gi' gl' (gr', sh.2) a = e) (ho : ∀ i : Int, i ≠ a → g_cell cy ad gi' gl' (gr', sh.2) i = g_cell cy ad gi gl sh i) : (g_ws cy ad gi gl sh).set a.toNat (ad a, e) = g_ws cy ad gi' gl' (gr', sh.2) := by
  apply List.ext_getElem?
  intro i
  rw [List.getElem?_set]
  have hlen : (g_ws cy ad gi gl sh).length = sh.2.2.2 := g_ws_len
  by_cases hi : a.toNat = i
  · subst hi
    by_cases hn : a.toNat < sh.2.2.2
    · rw [if_pos rfl, if_pos (by rw [hlen]; exact hn), ← he]
      exact (g_ws_get (sh := (gr', sh.2)) h0 (by show a < (sh.2.2.2 : Int); omega)).symm
    · rw [if_pos rfl, if_neg (by rw [hlen]; exact hn)]
      simp [g_ws, hn]
  · rw [if_neg hi]
    have hne : (i : Int) ≠ a := by omega
    by_cases hn : i < sh.2.2.2
    · simp [g_ws, hn, ho _ hne]
    · simp [g_ws, hn]
theorem g_fs_get {ad : Int → Nat} {gi : gF} {gr : Int → Int → Option Int} {ci : Nat} {a : Int} {k : Nat} (hk : k < g_nf ci) : (g_fs ad gi gr ci a)[k]? = some (g_fv ad (g_ft ci k) (gi a k) (gr a k)) := by
  simp [g_fs, hk]
theorem g_fs_len {ad : Int → Nat} {gi : gF} {gr : Int → Int → Option Int} {ci : Nat} {a : Int} : (g_fs ad gi gr ci a).length = g_nf ci := by simp [g_fs]
theorem g_fs_set {ad : Int → Nat} {gi gi' : gF} {gr gr' : Int → Int → Option Int} {ci : Nat} {a : Int} {k : Nat} {v : Value} (hv : g_fv ad (g_ft ci k) (gi' a k) (gr' a k) = v) (ho : ∀ j : Nat, j ≠ k → gi' a j = gi a j ∧ gr' a j = gr a j) : (g_fs ad gi gr ci a).set k v = g_fs ad gi' gr' ci a := by
  apply List.ext_getElem?
  intro i
  rw [List.getElem?_set, g_fs_len]
  by_cases hi : k = i
  · subst hi
    by_cases hn : k < g_nf ci
    · rw [if_pos rfl, if_pos hn, g_fs_get hn, hv]
    · rw [if_pos rfl, if_neg hn]; simp [g_fs, hn]
  · rw [if_neg hi]
    by_cases hn : i < g_nf ci
    · rw [g_fs_get hn, g_fs_get hn, (ho i (fun h => hi h.symm)).1, (ho i (fun h => hi h.symm)).2]
    · simp [g_fs, hn]
theorem g_cell_obj {cy : Nat → ClassId} {ad : Int → Nat} {gi gl : gF} {sh : gSh} {a : Int} {ci : Nat} (hk : sh.2.1 a = ci) (hc : ci < 10) : g_cell cy ad gi gl sh a = .inr (ci, g_fs ad gi sh.1 ci a) := by
  simp [g_cell, hk, hc]
theorem g_cell_int {cy : Nat → ClassId} {ad : Int → Nat} {gi gl : gF} {sh : gSh} {a : Int} {κ : Nat} (hk : sh.2.1 a = κ) (h1 : ¬ κ < 10) (h2 : κ ≠ 12) (h3 : κ < 14) : g_cell cy ad gi gl sh a = .inl (cy κ, sh.2.2.1 a, .inl (fun j => Int32.ofInt (gi a (j : Int)))) := by
  simp [g_cell, hk, h1, h2, h3]
theorem g_cell_long {cy : Nat → ClassId} {ad : Int → Nat} {gi gl : gF} {sh : gSh} {a : Int} (hk : sh.2.1 a = 12) : g_cell cy ad gi gl sh a = .inl (cy 12, sh.2.2.1 a, .inr (.inl (fun j => Int64.ofInt (gl a (j : Int))))) := by
  simp [g_cell, hk]
theorem g_cell_ref {cy : Nat → ClassId} {ad : Int → Nat} {gi gl : gF} {sh : gSh} {a : Int} {κ : Nat} (hk : sh.2.1 a = κ) (h3 : ¬ κ < 14) : g_cell cy ad gi gl sh a = .inl (cy κ, sh.2.2.1 a, .inr (.inr (.inr (.inr (fun j => (sh.1 a (j : Int)).map ad))))) := by
  have h1 : ¬ κ < 10 := by omega
  have h2 : κ ≠ 12 := by omega
  simp [g_cell, hk, h1, h2, h3]
theorem g_up_row {α : Type} {f : Int → Int → α} {a i : Int} {v : α} {b : Int} (h : b ≠ a) : g_up f a i v b = f b := by
  funext j; simp [g_up, h]
theorem g_row_ne {α : Type} {f : Int → α} {a : Int} {v : α} {b : Int} (h : b ≠ a) : g_row f a v b = f b := by simp [g_row, h]
theorem g_up_at {α : Type} {f : Int → Int → α} {a i : Int} {v : α} : g_up f a i v a i = v := by simp [g_up]
theorem g_up_ne {α : Type} {f : Int → Int → α} {a i : Int} {v : α} {j : Int} (h : j ≠ i) : g_up f a i v a j = f a j := by simp [g_up, h]
/-- a cell's picture depends on its own rows alone -/
theorem g_cell_congr {cy : Nat → ClassId} {ad : Int → Nat} {gi gl gi' gl' : gF} {sh : gSh} {gr' : Int → Int → Option Int} {i : Int} (h1 : gi' i = gi i) (h2 : gl' i = gl i) (h3 : gr' i = sh.1 i) : g_cell cy ad gi' gl' (gr', sh.2) i = g_cell cy ad gi gl sh i := by
  simp [g_cell, g_fs, h1, h2, h3]
theorem g_i32 {x : Int} (h : -2147483648 ≤ x ∧ x ≤ 2147483647) : (Int32.ofInt x).toInt = x := Int32.toInt_ofInt_of_le (by simpa using h.1) (by have := h.2; simp; omega)
theorem g_i64 {x : Int} (h : -9223372036854775808 ≤ x ∧ x ≤ 9223372036854775807) : (Int64.ofInt x).toInt = x := Int64.toInt_ofInt_of_le (by simpa using h.1) (by have := h.2; simp; omega)
theorem g_lt {x y : Int} (hx : -2147483648 ≤ x ∧ x ≤ 2147483647) (hy : -2147483648 ≤ y ∧ y ≤ 2147483647) : Int32.ofInt x < Int32.ofInt y ↔ x < y := by rw [Int32.lt_iff_toInt_lt, g_i32 hx, g_i32 hy]
theorem g_le {x y : Int} (hx : -2147483648 ≤ x ∧ x ≤ 2147483647) (hy : -2147483648 ≤ y ∧ y ≤ 2147483647) : Int32.ofInt x ≤ Int32.ofInt y ↔ x ≤ y := by rw [Int32.le_iff_toInt_le, g_i32 hx, g_i32 hy]
theorem g_eq {x y : Int} (hx : -2147483648 ≤ x ∧ x ≤ 2147483647) (hy : -2147483648 ≤ y ∧ y ≤ 2147483647) : Int32.ofInt x = Int32.ofInt y ↔ x = y := ⟨fun h => by have := congrArg Int32.toInt h; rwa [g_i32 hx, g_i32 hy] at this, fun h => by rw [h]⟩
theorem g_0 : (0 : Int32) = Int32.ofInt 0 := rfl
theorem g_in {i : Int} {n : Nat} (h0 : 0 ≤ i) (h1 : i < (n : Int)) (hr : i ≤ 2147483647) : vp_in (Int32.ofInt i) n := by
  rw [vp_in_iff, g_i32 ⟨by omega, hr⟩]; exact ⟨h0, h1⟩
theorem g_clN {i : Int} (h0 : 0 ≤ i) (hr : i ≤ 2147483647) : ((Int32.ofInt i).toNatClampNeg : Int) = i := by
  have := g_i32 (x := i) ⟨by omega, hr⟩
  rw [Int32.toNatClampNeg]; rw [this]; omega
end
section
theorem g_okI {n : Nat} {x : Int} (h1 : -2147483648 ≤ x) (h2 : x ≤ 2147483647) : g_ok n (vI x) := (And.intro h1 h2 : _ ∧ _)
theorem g_okL {n : Nat} {x : Int} (h1 : -9223372036854775808 ≤ x) (h2 : x ≤ 9223372036854775807) : g_ok n (vL x) := (And.intro h1 h2 : _ ∧ _)
theorem g_okR {n : Nat} {a : Int} (h1 : 0 ≤ a) (h2 : a < (n : Int)) : g_ok n (vR a) := (And.intro h1 h2 : _ ∧ _)
theorem g_unI {n : Nat} {x : Int} (h : g_ok n (vI x)) : -2147483648 ≤ x ∧ x ≤ 2147483647 := h
theorem g_unL {n : Nat} {x : Int} (h : g_ok n (vL x)) : -9223372036854775808 ≤ x ∧ x ≤ 9223372036854775807 := h
theorem g_unR {n : Nat} {a : Int} (h : g_ok n (vR a)) : 0 ≤ a ∧ a < (n : Int) := h
/-- a store kills a long of which it takes the second half -/
def g_kp (ls : List (Option gV)) : Nat → List (Option gV)
  | 0 => ls
  | j + 1 => match ls[j]? with
    | some (some (.inr (.inl _))) => ls.set j none
    | _ => ls
def g_s1 (ls : List (Option gV)) (i : Nat) (v : gV) : List (Option gV) := (g_kp ls i).set i (some v)
def g_s2 (ls : List (Option gV)) (i : Nat) (v : gV) : List (Option gV) := ((g_kp ls i).set i (some v)).set (i + 1) none
theorem g_kp_len (ls : List (Option gV)) (i : Nat) : (g_kp ls i).length = ls.length := by
  cases i with
  | zero => rfl
  | succ j => simp only [g_kp]; split <;> simp
theorem g_kp_at {ls : List (Option gV)} {i j : Nat} {v : gV} (h : (g_kp ls i)[j]? = some (some v)) : ls[j]? = some (some v) ∧ ¬ (j + 1 = i ∧ ∃ x, v = .inr (.inl x)) := by
  cases i with
  | zero => exact ⟨h, fun hh => by omega⟩
  | succ k =>
    simp only [g_kp] at h
    split at h
    · rw [List.getElem?_set] at h
      by_cases hk : k = j
      · subst hk; simp only [if_true] at h; split at h <;> simp at h
      · rw [if_neg hk] at h; exact ⟨h, fun hh => hk (by omega)⟩
    · rename_i hno
      refine ⟨h, fun hh => ?_⟩
      obtain ⟨h1, x, rfl⟩ := hh
      have : j = k := by omega
      subst this
      exact hno x h
def g_lv (b : Nat) (ad : Int → Nat) (ls : List (Option gV)) : List (Nat × Value) := (List.range ls.length).filterMap (fun i => match ls[i]? with
  | some (some v) => some (i, g_rn b ad v)
  | _ => none)
theorem g_lv_mem {b : Nat} {ad : Int → Nat} {ls : List (Option gV)} {i : Nat} {v : gV} (h : ls[i]? = some (some v)) : (i, g_rn b ad v) ∈ g_lv b ad ls := by
  refine List.mem_filterMap.mpr ⟨i, List.mem_range.mpr (List.getElem?_eq_some_iff.mp h).1, ?_⟩
  simp [h]
theorem g_lv_of {b : Nat} {ad : Int → Nat} {ls : List (Option gV)} {q : Nat × Value} (h : q ∈ g_lv b ad ls) : ∃ v, ls[q.1]? = some (some v) ∧ q.2 = g_rn b ad v := by
  obtain ⟨i, -, hi⟩ := List.mem_filterMap.mp h
  split at hi
  · rename_i v hv
    cases hi
    exact ⟨v, hv, rfl⟩
  · cases hi
theorem g_Lo.has {b : Nat} {ad : Int → Nat} {n nL : Nat} {lsA : Array Slot} {ls : List (Option gV)} (h : g_Lo b ad n lsA nL ls) : lv_has lsA nL (g_lv b ad ls) := ⟨h.1, h.2.2.1, fun q hq => by
  obtain ⟨v, h1, h2⟩ := g_lv_of hq
  rw [h2]; exact (h.2.2.2 _ _ h1).1⟩
theorem g_cat1 {b : Nat} {ad : Int → Nat} {v : gV} (h : ¬ ∃ x, v = .inr (.inl x)) : (g_rn b ad v).category = 1 := by
  rcases v with x | x | x | x
  · rfl
  · exact absurd ⟨x, rfl⟩ h
  · rfl
  · rfl
theorem g_Lo.s1 {b : Nat} {ad : Int → Nat} {n nL : Nat} {lsA lsB : Array Slot} {ls : List (Option gV)} {i : Nat} {v0 : gV} (h : g_Lo b ad n lsA nL ls) (hv : g_ok n v0) (hb : lv_has lsB nL ((i, g_rn b ad v0) :: (g_lv b ad ls).filter (fun q => !(q.1 == i) && !(q.1 + 1 == i && q.2.category == 2)))) : g_Lo b ad n lsB nL (g_s1 ls i v0) := by
  refine ⟨hb.1, by simp [g_s1, g_kp_len, h.2.1], hb.2.1, fun j v hj => ?_⟩
  rw [g_s1, List.getElem?_set] at hj
  by_cases hij : i = j
  · subst hij
    simp only [if_true] at hj
    split at hj
    · cases hj; exact ⟨hb.2.2 _ List.mem_cons_self, hv⟩
    · cases hj
  · rw [if_neg hij] at hj
    obtain ⟨h1, h2⟩ := g_kp_at hj
    refine ⟨hb.2.2 (j, g_rn b ad v) (List.mem_cons_of_mem _ (List.mem_filter.mpr ⟨g_lv_mem h1, ?_⟩)), (h.2.2.2 _ _ h1).2⟩
    by_cases hl : ∃ x, v = .inr (.inl x)
    · have : ¬ j + 1 = i := fun e => h2 ⟨e, hl⟩
      simp [this, Ne.symm hij]
    · simp [g_cat1 (b := b) (ad := ad) hl, Ne.symm hij]
theorem g_Lo.s2 {b : Nat} {ad : Int → Nat} {n nL : Nat} {lsA lsB : Array Slot} {ls : List (Option gV)} {i : Nat} {v0 : gV} (h : g_Lo b ad n lsA nL ls) (hv : g_ok n v0) (hb : lv_has lsB nL ((i, g_rn b ad v0) :: (g_lv b ad ls).filter (fun q => !(q.1 == i) && (!(q.1 == i + 1) && !(q.1 + 1 == i && q.2.category == 2))))) : g_Lo b ad n lsB nL (g_s2 ls i v0) := by
  refine ⟨hb.1, by simp [g_s2, g_kp_len, h.2.1], hb.2.1, fun j v hj => ?_⟩
  rw [g_s2, List.getElem?_set] at hj
  by_cases hij1 : i + 1 = j
  · subst hij1
    simp only [if_true] at hj
    split at hj <;> simp at hj
  · rw [if_neg hij1, List.getElem?_set] at hj
    by_cases hij : i = j
    · subst hij
      simp only [if_true] at hj
      split at hj
      · cases hj; exact ⟨hb.2.2 _ List.mem_cons_self, hv⟩
      · cases hj
    · rw [if_neg hij] at hj
      obtain ⟨h1, h2⟩ := g_kp_at hj
      refine ⟨hb.2.2 (j, g_rn b ad v) (List.mem_cons_of_mem _ (List.mem_filter.mpr ⟨g_lv_mem h1, ?_⟩)), (h.2.2.2 _ _ h1).2⟩
      by_cases hl : ∃ x, v = .inr (.inl x)
      · have : ¬ j + 1 = i := fun e => h2 ⟨e, hl⟩
        simp [this, Ne.symm hij, Ne.symm hij1]
      · simp [g_cat1 (b := b) (ad := ad) hl, Ne.symm hij, Ne.symm hij1]
def g_cmp (x y : Int) : Int := if y < x then 1 else if x < y then -1 else 0
section RULES
variable {md : gMD} {mc ms pc : Nat} {ls : List (Option gV)} {st : List gV} {gi gl : gF} {sh : gSh} {Q : gQ}
section GTL
variable {s : State} {A : Nat → Prop} {D : va_G} {cy : Nat → ClassId} {b n0 : Nat} {ad0 : Int → Nat} {MC MS : Nat} {ad : Int → Nat} {H : Heap} {locs : List Loc} {cells slots : Nat} {lsA : Array Slot}
theorem g_T.loc (T : g_T md mc ms ls st gi gl sh s A D cy b n0 ad0 MC MS ad H locs cells slots lsA) {ls' : List (Option gV)} {lsB : Array Slot} {st' : List gV} (hL : g_Lo b ad sh.2.2.2 lsB md.2.2.1 ls') (h : ∀ v ∈ st', g_ok sh.2.2.2 v) : g_T md mc ms ls' st' gi gl sh s A D cy b n0 ad0 MC MS ad H locs cells slots lsB := ⟨T.1, T.2.1, T.2.2.1, hL, h⟩
end GTL
theorem g_iconst {n : Int} (hd : decode md.2.1 pc = .ok (.iconst n, 1)) (hn : -128 ≤ n ∧ n ≤ 127) (h : Go md mc ms (pc + 1) ls (vI n :: st) gi gl sh Q) : Go md mc ms pc ls st gi gl sh Q := by
  intro p l e R s m args below meth c Qf A D cy b n0 ad0 MC MS X ad H locs cells slots lsA T
  exact lv_iconst X.1.1 X.1.2.1 hd rfl (h p l e R s m args below meth c Qf A D cy b n0 ad0 MC MS X ad H locs cells slots lsA (T.stk (g_sc (g_okI (by omega) (by omega)) T.ok)))
theorem g_bipush {n : Int} (hd : decode md.2.1 pc = .ok (.bipush n, 2)) (hn : -128 ≤ n ∧ n ≤ 127) (hv : (Int8.ofInt n).toInt32 = Int32.ofInt n) (h : Go md mc ms (pc + 2) ls (vI n :: st) gi gl sh Q) : Go md mc ms pc ls st gi gl sh Q := by
  intro p l e R s m args below meth c Qf A D cy b n0 ad0 MC MS X ad H locs cells slots lsA T
  exact lv_bipush X.1.1 X.1.2.1 hd hv (h p l e R s m args below meth c Qf A D cy b n0 ad0 MC MS X ad H locs cells slots lsA (T.stk (g_sc (g_okI (by omega) (by omega)) T.ok)))
theorem g_sipush {n : Int} (hd : decode md.2.1 pc = .ok (.sipush n, 3)) (hn : -32768 ≤ n ∧ n ≤ 32767) (hv : (Int16.ofInt n).toInt32 = Int32.ofInt n) (h : Go md mc ms (pc + 3) ls (vI n :: st) gi gl sh Q) : Go md mc ms pc ls st gi gl sh Q := by
  intro p l e R s m args below meth c Qf A D cy b n0 ad0 MC MS X ad H locs cells slots lsA T
  exact lv_sipush X.1.1 X.1.2.1 hd hv (h p l e R s m args below meth c Qf A D cy b n0 ad0 MC MS X ad H locs cells slots lsA (T.stk (g_sc (g_okI (by omega) (by omega)) T.ok)))
theorem g_lconst {k : Fin 2} (n : Int) (hd : decode md.2.1 pc = .ok (.lconst k, 1)) (hv : Int64.ofNat (k : Nat) = Int64.ofInt n) (hn : -128 ≤ n ∧ n ≤ 127) (h : Go md mc ms (pc + 1) ls (vL n :: st) gi gl sh Q) : Go md mc ms pc ls st gi gl sh Q := by
  intro p l e R s m args below meth c Qf A D cy b n0 ad0 MC MS X ad H locs cells slots lsA T
  exact lv_lconst X.1.1 X.1.2.1 hd hv (h p l e R s m args below meth c Qf A D cy b n0 ad0 MC MS X ad H locs cells slots lsA (T.stk (g_sc (g_okL (by omega) (by omega)) T.ok)))
theorem g_ldc2 {idx : Nat} {n : Int} (hd : decode md.2.1 pc = .ok (.ldc2_w idx, 3)) (hw : Cond.constantLong md.1 idx (Int64.ofInt n) ∈ lw_good) (hn : -2147483648 ≤ n ∧ n ≤ 4294967295) (h : Go md mc ms (pc + 3) ls (vL n :: st) gi gl sh Q) : Go md mc ms pc ls st gi gl sh Q := by
  intro p l e R s m args below meth c Qf A D cy b n0 ad0 MC MS X ad H locs cells slots lsA T
  exact lv_ldc2 X.1.1 X.1.2.1 X.1.2.2.2.1 (X.1.2.2.2.2.1 _ hw) hd (h p l e R s m args below meth c Qf A D cy b n0 ad0 MC MS X ad H locs cells slots lsA (T.stk (g_sc (g_okL (by omega) (by omega)) T.ok)))
theorem g_iload_n {k : Fin 4} {x : Int} (hd : decode md.2.1 pc = .ok (.iload_n k, 1)) (hl : ls[(k : Nat)]? = some (some (vI x))) (h : Go md mc ms (pc + 1) ls (vI x :: st) gi gl sh Q) : Go md mc ms pc ls st gi gl sh Q := by
  intro p l e R s m args below meth c Qf A D cy b n0 ad0 MC MS X ad H locs cells slots lsA T
  have q := T.lo.2.2.2 _ _ hl
  exact lv_iload_n X.1.1 X.1.2.1 hd rfl q.1 (h p l e R s m args below meth c Qf A D cy b n0 ad0 MC MS X ad H locs cells slots lsA (T.stk (g_sc (q.2) T.ok)))
theorem g_iload {i : Nat} {x : Int} (hd : decode md.2.1 pc = .ok (.iload i, 2)) (hl : ls[i]? = some (some (vI x))) (h : Go md mc ms (pc + 2) ls (vI x :: st) gi gl sh Q) : Go md mc ms pc ls st gi gl sh Q := by
  intro p l e R s m args below meth c Qf A D cy b n0 ad0 MC MS X ad H locs cells slots lsA T
  have q := T.lo.2.2.2 _ _ hl
  exact lv_iload X.1.1 X.1.2.1 hd q.1 (h p l e R s m args below meth c Qf A D cy b n0 ad0 MC MS X ad H locs cells slots lsA (T.stk (g_sc (q.2) T.ok)))
theorem g_lload_n {k : Fin 4} {x : Int} (hd : decode md.2.1 pc = .ok (.lload_n k, 1)) (hl : ls[(k : Nat)]? = some (some (vL x))) (h : Go md mc ms (pc + 1) ls (vL x :: st) gi gl sh Q) : Go md mc ms pc ls st gi gl sh Q := by
  intro p l e R s m args below meth c Qf A D cy b n0 ad0 MC MS X ad H locs cells slots lsA T
  have q := T.lo.2.2.2 _ _ hl
  exact lv_lload_n X.1.1 X.1.2.1 hd rfl q.1 (h p l e R s m args below meth c Qf A D cy b n0 ad0 MC MS X ad H locs cells slots lsA (T.stk (g_sc (q.2) T.ok)))
theorem g_lload {i : Nat} {x : Int} (hd : decode md.2.1 pc = .ok (.lload i, 2)) (hl : ls[i]? = some (some (vL x))) (h : Go md mc ms (pc + 2) ls (vL x :: st) gi gl sh Q) : Go md mc ms pc ls st gi gl sh Q := by
  intro p l e R s m args below meth c Qf A D cy b n0 ad0 MC MS X ad H locs cells slots lsA T
  have q := T.lo.2.2.2 _ _ hl
  exact lv_lload X.1.1 X.1.2.1 hd q.1 (h p l e R s m args below meth c Qf A D cy b n0 ad0 MC MS X ad H locs cells slots lsA (T.stk (g_sc (q.2) T.ok)))
theorem g_aload_n {k : Fin 4} {x : Int} (hd : decode md.2.1 pc = .ok (.aload_n k, 1)) (hl : ls[(k : Nat)]? = some (some (vR x))) (h : Go md mc ms (pc + 1) ls (vR x :: st) gi gl sh Q) : Go md mc ms pc ls st gi gl sh Q := by
  intro p l e R s m args below meth c Qf A D cy b n0 ad0 MC MS X ad H locs cells slots lsA T
  have q := T.lo.2.2.2 _ _ hl
  exact lv_aload_n X.1.1 X.1.2.1 hd rfl q.1 (h p l e R s m args below meth c Qf A D cy b n0 ad0 MC MS X ad H locs cells slots lsA (T.stk (g_sc (q.2) T.ok)))
theorem g_aload {i : Nat} {x : Int} (hd : decode md.2.1 pc = .ok (.aload i, 2)) (hl : ls[i]? = some (some (vR x))) (h : Go md mc ms (pc + 2) ls (vR x :: st) gi gl sh Q) : Go md mc ms pc ls st gi gl sh Q := by
  intro p l e R s m args below meth c Qf A D cy b n0 ad0 MC MS X ad H locs cells slots lsA T
  have q := T.lo.2.2.2 _ _ hl
  exact lv_aload X.1.1 X.1.2.1 hd q.1 (h p l e R s m args below meth c Qf A D cy b n0 ad0 MC MS X ad H locs cells slots lsA (T.stk (g_sc (q.2) T.ok)))
theorem g_aload_nS {k : Fin 4} (hd : decode md.2.1 pc = .ok (.aload_n k, 1)) (hl : ls[(k : Nat)]? = some (some vS)) (h : Go md mc ms (pc + 1) ls (vS :: st) gi gl sh Q) : Go md mc ms pc ls st gi gl sh Q := by
  intro p l e R s m args below meth c Qf A D cy b n0 ad0 MC MS X ad H locs cells slots lsA T
  have q := T.lo.2.2.2 _ _ hl
  exact lv_aload_n X.1.1 X.1.2.1 hd rfl q.1 (h p l e R s m args below meth c Qf A D cy b n0 ad0 MC MS X ad H locs cells slots lsA (T.stk (g_sc (q.2) T.ok)))
theorem g_istore_n {k : Fin 4} {x : Int} (hd : decode md.2.1 pc = .ok (.istore_n k, 1)) (hi : (k : Nat) < md.2.2.1) (h : Go md mc ms (pc + 1) (g_s1 ls (k : Nat) (vI x)) st gi gl sh Q) : Go md mc ms pc ls (vI x :: st) gi gl sh Q := by
  intro p l e R s m args below meth c Qf A D cy b n0 ad0 MC MS X ad H locs cells slots lsA T
  exact lv_istore_n X.1.1 X.1.2.1 hd rfl T.lo.has hi rfl (fun lsB hB => h p l e R s m args below meth c Qf A D cy b n0 ad0 MC MS X ad H locs cells slots lsB (T.loc (T.lo.s1 (g_sh T.ok) hB) (g_st T.ok)))
theorem g_istore {i : Nat} {x : Int} (hd : decode md.2.1 pc = .ok (.istore i, 2)) (hi : i < md.2.2.1) (h : Go md mc ms (pc + 2) (g_s1 ls i (vI x)) st gi gl sh Q) : Go md mc ms pc ls (vI x :: st) gi gl sh Q := by
  intro p l e R s m args below meth c Qf A D cy b n0 ad0 MC MS X ad H locs cells slots lsA T
  exact lv_istore X.1.1 X.1.2.1 hd T.lo.has hi rfl (fun lsB hB => h p l e R s m args below meth c Qf A D cy b n0 ad0 MC MS X ad H locs cells slots lsB (T.loc (T.lo.s1 (g_sh T.ok) hB) (g_st T.ok)))
theorem g_astore_n {k : Fin 4} {x : Int} (hd : decode md.2.1 pc = .ok (.astore_n k, 1)) (hi : (k : Nat) < md.2.2.1) (h : Go md mc ms (pc + 1) (g_s1 ls (k : Nat) (vR x)) st gi gl sh Q) : Go md mc ms pc ls (vR x :: st) gi gl sh Q := by
  intro p l e R s m args below meth c Qf A D cy b n0 ad0 MC MS X ad H locs cells slots lsA T
  exact lv_astore_n X.1.1 X.1.2.1 hd rfl T.lo.has hi rfl (fun lsB hB => h p l e R s m args below meth c Qf A D cy b n0 ad0 MC MS X ad H locs cells slots lsB (T.loc (T.lo.s1 (g_sh T.ok) hB) (g_st T.ok)))
theorem g_astore {i : Nat} {x : Int} (hd : decode md.2.1 pc = .ok (.astore i, 2)) (hi : i < md.2.2.1) (h : Go md mc ms (pc + 2) (g_s1 ls i (vR x)) st gi gl sh Q) : Go md mc ms pc ls (vR x :: st) gi gl sh Q := by
  intro p l e R s m args below meth c Qf A D cy b n0 ad0 MC MS X ad H locs cells slots lsA T
  exact lv_astore X.1.1 X.1.2.1 hd T.lo.has hi rfl (fun lsB hB => h p l e R s m args below meth c Qf A D cy b n0 ad0 MC MS X ad H locs cells slots lsB (T.loc (T.lo.s1 (g_sh T.ok) hB) (g_st T.ok)))
theorem g_lstore_n {k : Fin 4} {x : Int} (hd : decode md.2.1 pc = .ok (.lstore_n k, 1)) (hi : (k : Nat) + 1 < md.2.2.1) (h : Go md mc ms (pc + 1) (g_s2 ls (k : Nat) (vL x)) st gi gl sh Q) : Go md mc ms pc ls (vL x :: st) gi gl sh Q := by
  intro p l e R s m args below meth c Qf A D cy b n0 ad0 MC MS X ad H locs cells slots lsA T
  exact lv_lstore_n X.1.1 X.1.2.1 hd rfl T.lo.has hi rfl (fun lsB hB => h p l e R s m args below meth c Qf A D cy b n0 ad0 MC MS X ad H locs cells slots lsB (T.loc (T.lo.s2 (g_sh T.ok) hB) (g_st T.ok)))
theorem g_lstore {i : Nat} {x : Int} (hd : decode md.2.1 pc = .ok (.lstore i, 2)) (hi : i + 1 < md.2.2.1) (h : Go md mc ms (pc + 2) (g_s2 ls i (vL x)) st gi gl sh Q) : Go md mc ms pc ls (vL x :: st) gi gl sh Q := by
  intro p l e R s m args below meth c Qf A D cy b n0 ad0 MC MS X ad H locs cells slots lsA T
  exact lv_lstore X.1.1 X.1.2.1 hd T.lo.has hi rfl (fun lsB hB => h p l e R s m args below meth c Qf A D cy b n0 ad0 MC MS X ad H locs cells slots lsB (T.loc (T.lo.s2 (g_sh T.ok) hB) (g_st T.ok)))
theorem g_iinc {i : Nat} {n x : Int} (hd : decode md.2.1 pc = .ok (.iinc i n, 3)) (hl : ls[i]? = some (some (vI x))) (hi : i < md.2.2.1) (h1 : -2147483648 ≤ x + n) (h2 : x + n ≤ 2147483647) (h : Go md mc ms (pc + 3) (g_s1 ls i (vI (x + n))) st gi gl sh Q) : Go md mc ms pc ls st gi gl sh Q := by
  intro p l e R s m args below meth c Qf A D cy b n0 ad0 MC MS X ad H locs cells slots lsA T
  obtain ⟨k, hk⟩ := List.mem_iff_getElem?.mp (g_lv_mem (b := b) (ad := ad) hl)
  exact lv_iinc (v := Int32.ofInt (x + n)) X.1.1 X.1.2.1 hd T.lo.has hk (Int32.ofInt_add x n).symm hi rfl (fun lsB hB => h p l e R s m args below meth c Qf A D cy b n0 ad0 MC MS X ad H locs cells slots lsB (T.loc (T.lo.s1 (g_okI h1 h2) hB) T.ok))
theorem g_iadd {x y : Int} (hd : decode md.2.1 pc = .ok (.iadd, 1)) (h1 : -2147483648 ≤ x + y) (h2 : x + y ≤ 2147483647) (h : Go md mc ms (pc + 1) ls (vI (x + y) :: st) gi gl sh Q) : Go md mc ms pc ls (vI y :: vI x :: st) gi gl sh Q := by
  intro p l e R s m args below meth c Qf A D cy b n0 ad0 MC MS X ad H locs cells slots lsA T
  have k := h p l e R s m args below meth c Qf A D cy b n0 ad0 MC MS X ad H locs cells slots lsA (T.stk (g_sc (g_okI h1 h2) (g_st (g_st T.ok))))
  refine lv_iadd X.1.1 X.1.2.1 hd ?_
  rw [← Int32.ofInt_add]
  exact k
theorem g_isub {x y : Int} (hd : decode md.2.1 pc = .ok (.isub, 1)) (h1 : -2147483648 ≤ x - y) (h2 : x - y ≤ 2147483647) (h : Go md mc ms (pc + 1) ls (vI (x - y) :: st) gi gl sh Q) : Go md mc ms pc ls (vI y :: vI x :: st) gi gl sh Q := by
  intro p l e R s m args below meth c Qf A D cy b n0 ad0 MC MS X ad H locs cells slots lsA T
  have k := h p l e R s m args below meth c Qf A D cy b n0 ad0 MC MS X ad H locs cells slots lsA (T.stk (g_sc (g_okI h1 h2) (g_st (g_st T.ok))))
  refine lv_isub X.1.1 X.1.2.1 hd ?_
  rw [← Int32.ofInt_sub]
  exact k
theorem g_imul {x y : Int} (hd : decode md.2.1 pc = .ok (.imul, 1)) (h1 : -2147483648 ≤ x * y) (h2 : x * y ≤ 2147483647) (h : Go md mc ms (pc + 1) ls (vI (x * y) :: st) gi gl sh Q) : Go md mc ms pc ls (vI y :: vI x :: st) gi gl sh Q := by
  intro p l e R s m args below meth c Qf A D cy b n0 ad0 MC MS X ad H locs cells slots lsA T
  have k := h p l e R s m args below meth c Qf A D cy b n0 ad0 MC MS X ad H locs cells slots lsA (T.stk (g_sc (g_okI h1 h2) (g_st (g_st T.ok))))
  refine lv_imul X.1.1 X.1.2.1 hd ?_
  rw [← Int32.ofInt_mul]
  exact k
theorem g_ladd {x y : Int} (hd : decode md.2.1 pc = .ok (.ladd, 1)) (h1 : -9223372036854775808 ≤ x + y) (h2 : x + y ≤ 9223372036854775807) (h : Go md mc ms (pc + 1) ls (vL (x + y) :: st) gi gl sh Q) : Go md mc ms pc ls (vL y :: vL x :: st) gi gl sh Q := by
  intro p l e R s m args below meth c Qf A D cy b n0 ad0 MC MS X ad H locs cells slots lsA T
  have k := h p l e R s m args below meth c Qf A D cy b n0 ad0 MC MS X ad H locs cells slots lsA (T.stk (g_sc (g_okL h1 h2) (g_st (g_st T.ok))))
  refine lv_ladd X.1.1 X.1.2.1 hd ?_
  rw [← Int64.ofInt_add]
  exact k
theorem g_lsub {x y : Int} (hd : decode md.2.1 pc = .ok (.lsub, 1)) (h1 : -9223372036854775808 ≤ x - y) (h2 : x - y ≤ 9223372036854775807) (h : Go md mc ms (pc + 1) ls (vL (x - y) :: st) gi gl sh Q) : Go md mc ms pc ls (vL y :: vL x :: st) gi gl sh Q := by
  intro p l e R s m args below meth c Qf A D cy b n0 ad0 MC MS X ad H locs cells slots lsA T
  have k := h p l e R s m args below meth c Qf A D cy b n0 ad0 MC MS X ad H locs cells slots lsA (T.stk (g_sc (g_okL h1 h2) (g_st (g_st T.ok))))
  refine lv_lsub X.1.1 X.1.2.1 hd ?_
  rw [← Int64.ofInt_sub]
  exact k
theorem g_lmul {x y : Int} (hd : decode md.2.1 pc = .ok (.lmul, 1)) (h1 : -9223372036854775808 ≤ x * y) (h2 : x * y ≤ 9223372036854775807) (h : Go md mc ms (pc + 1) ls (vL (x * y) :: st) gi gl sh Q) : Go md mc ms pc ls (vL y :: vL x :: st) gi gl sh Q := by
  intro p l e R s m args below meth c Qf A D cy b n0 ad0 MC MS X ad H locs cells slots lsA T
  have k := h p l e R s m args below meth c Qf A D cy b n0 ad0 MC MS X ad H locs cells slots lsA (T.stk (g_sc (g_okL h1 h2) (g_st (g_st T.ok))))
  refine lv_lmul X.1.1 X.1.2.1 hd ?_
  rw [← Int64.ofInt_mul]
  exact k
theorem g_icmp_eq {x y : Int} {off : Int} (tgt : Nat) (hd : decode md.2.1 pc = .ok (.if_icmp .eq off, 3)) (ht : (pc : Int) + off = (tgt : Int)) (kt : x = y → Go md mc ms tgt ls st gi gl sh Q) (kf : ¬ (x = y) → Go md mc ms (pc + 3) ls st gi gl sh Q) : Go md mc ms pc ls (vI y :: vI x :: st) gi gl sh Q := by
  intro p l e R s m args below meth c Qf A D cy b n0 ad0 MC MS X ad H locs cells slots lsA T
  have q0 := g_eq (g_unI (g_sh (g_st T.ok))) (g_unI (g_sh T.ok))
  exact lv_icmp_eq X.1.1 X.1.2.1 hd ht (fun q => kt (q0.mp q) p l e R s m args below meth c Qf A D cy b n0 ad0 MC MS X ad H locs cells slots lsA (T.stk (g_st (g_st T.ok)))) (fun q => kf (fun e => q (q0.mpr e)) p l e R s m args below meth c Qf A D cy b n0 ad0 MC MS X ad H locs cells slots lsA (T.stk (g_st (g_st T.ok))))
theorem g_icmp_ne {x y : Int} {off : Int} (tgt : Nat) (hd : decode md.2.1 pc = .ok (.if_icmp .ne off, 3)) (ht : (pc : Int) + off = (tgt : Int)) (kt : x ≠ y → Go md mc ms tgt ls st gi gl sh Q) (kf : ¬ (x ≠ y) → Go md mc ms (pc + 3) ls st gi gl sh Q) : Go md mc ms pc ls (vI y :: vI x :: st) gi gl sh Q := by
  intro p l e R s m args below meth c Qf A D cy b n0 ad0 MC MS X ad H locs cells slots lsA T
  have q0 := g_eq (g_unI (g_sh (g_st T.ok))) (g_unI (g_sh T.ok))
  exact lv_icmp_ne X.1.1 X.1.2.1 hd ht (fun q => kt (fun e => q (q0.mpr e)) p l e R s m args below meth c Qf A D cy b n0 ad0 MC MS X ad H locs cells slots lsA (T.stk (g_st (g_st T.ok)))) (fun q => kf (fun e => e (q0.mp q)) p l e R s m args below meth c Qf A D cy b n0 ad0 MC MS X ad H locs cells slots lsA (T.stk (g_st (g_st T.ok))))
theorem g_icmp_lt {x y : Int} {off : Int} (tgt : Nat) (hd : decode md.2.1 pc = .ok (.if_icmp .lt off, 3)) (ht : (pc : Int) + off = (tgt : Int)) (kt : x < y → Go md mc ms tgt ls st gi gl sh Q) (kf : ¬ (x < y) → Go md mc ms (pc + 3) ls st gi gl sh Q) : Go md mc ms pc ls (vI y :: vI x :: st) gi gl sh Q := by
  intro p l e R s m args below meth c Qf A D cy b n0 ad0 MC MS X ad H locs cells slots lsA T
  have q0 := g_lt (g_unI (g_sh (g_st T.ok))) (g_unI (g_sh T.ok))
  exact lv_icmp_lt X.1.1 X.1.2.1 hd ht (fun q => kt (q0.mp q) p l e R s m args below meth c Qf A D cy b n0 ad0 MC MS X ad H locs cells slots lsA (T.stk (g_st (g_st T.ok)))) (fun q => kf (fun e => q (q0.mpr e)) p l e R s m args below meth c Qf A D cy b n0 ad0 MC MS X ad H locs cells slots lsA (T.stk (g_st (g_st T.ok))))
theorem g_icmp_ge {x y : Int} {off : Int} (tgt : Nat) (hd : decode md.2.1 pc = .ok (.if_icmp .ge off, 3)) (ht : (pc : Int) + off = (tgt : Int)) (kt : y ≤ x → Go md mc ms tgt ls st gi gl sh Q) (kf : ¬ (y ≤ x) → Go md mc ms (pc + 3) ls st gi gl sh Q) : Go md mc ms pc ls (vI y :: vI x :: st) gi gl sh Q := by
  intro p l e R s m args below meth c Qf A D cy b n0 ad0 MC MS X ad H locs cells slots lsA T
  have q0 := g_le (g_unI (g_sh T.ok)) (g_unI (g_sh (g_st T.ok)))
  exact lv_icmp_ge X.1.1 X.1.2.1 hd ht (fun q => kt (q0.mp q) p l e R s m args below meth c Qf A D cy b n0 ad0 MC MS X ad H locs cells slots lsA (T.stk (g_st (g_st T.ok)))) (fun q => kf (fun e => q (q0.mpr e)) p l e R s m args below meth c Qf A D cy b n0 ad0 MC MS X ad H locs cells slots lsA (T.stk (g_st (g_st T.ok))))
theorem g_icmp_gt {x y : Int} {off : Int} (tgt : Nat) (hd : decode md.2.1 pc = .ok (.if_icmp .gt off, 3)) (ht : (pc : Int) + off = (tgt : Int)) (kt : y < x → Go md mc ms tgt ls st gi gl sh Q) (kf : ¬ (y < x) → Go md mc ms (pc + 3) ls st gi gl sh Q) : Go md mc ms pc ls (vI y :: vI x :: st) gi gl sh Q := by
  intro p l e R s m args below meth c Qf A D cy b n0 ad0 MC MS X ad H locs cells slots lsA T
  have q0 := g_lt (g_unI (g_sh T.ok)) (g_unI (g_sh (g_st T.ok)))
  exact lv_icmp_gt X.1.1 X.1.2.1 hd ht (fun q => kt (q0.mp q) p l e R s m args below meth c Qf A D cy b n0 ad0 MC MS X ad H locs cells slots lsA (T.stk (g_st (g_st T.ok)))) (fun q => kf (fun e => q (q0.mpr e)) p l e R s m args below meth c Qf A D cy b n0 ad0 MC MS X ad H locs cells slots lsA (T.stk (g_st (g_st T.ok))))
theorem g_icmp_le {x y : Int} {off : Int} (tgt : Nat) (hd : decode md.2.1 pc = .ok (.if_icmp .le off, 3)) (ht : (pc : Int) + off = (tgt : Int)) (kt : x ≤ y → Go md mc ms tgt ls st gi gl sh Q) (kf : ¬ (x ≤ y) → Go md mc ms (pc + 3) ls st gi gl sh Q) : Go md mc ms pc ls (vI y :: vI x :: st) gi gl sh Q := by
  intro p l e R s m args below meth c Qf A D cy b n0 ad0 MC MS X ad H locs cells slots lsA T
  have q0 := g_le (g_unI (g_sh (g_st T.ok))) (g_unI (g_sh T.ok))
  exact lv_icmp_le X.1.1 X.1.2.1 hd ht (fun q => kt (q0.mp q) p l e R s m args below meth c Qf A D cy b n0 ad0 MC MS X ad H locs cells slots lsA (T.stk (g_st (g_st T.ok)))) (fun q => kf (fun e => q (q0.mpr e)) p l e R s m args below meth c Qf A D cy b n0 ad0 MC MS X ad H locs cells slots lsA (T.stk (g_st (g_st T.ok))))
theorem g_if_eq {x : Int} {off : Int} (tgt : Nat) (hd : decode md.2.1 pc = .ok (.ifCond .eq off, 3)) (ht : (pc : Int) + off = (tgt : Int)) (kt : x = 0 → Go md mc ms tgt ls st gi gl sh Q) (kf : ¬ (x = 0) → Go md mc ms (pc + 3) ls st gi gl sh Q) : Go md mc ms pc ls (vI x :: st) gi gl sh Q := by
  intro p l e R s m args below meth c Qf A D cy b n0 ad0 MC MS X ad H locs cells slots lsA T
  have q0 := g_eq (x := x) (y := 0) (g_unI (g_sh T.ok)) (by decide)
  exact lv_if_eq X.1.1 X.1.2.1 hd ht (fun q => kt (q0.mp q) p l e R s m args below meth c Qf A D cy b n0 ad0 MC MS X ad H locs cells slots lsA (T.stk (g_st T.ok))) (fun q => kf (fun e => q (q0.mpr e)) p l e R s m args below meth c Qf A D cy b n0 ad0 MC MS X ad H locs cells slots lsA (T.stk (g_st T.ok)))
theorem g_if_ne {x : Int} {off : Int} (tgt : Nat) (hd : decode md.2.1 pc = .ok (.ifCond .ne off, 3)) (ht : (pc : Int) + off = (tgt : Int)) (kt : x ≠ 0 → Go md mc ms tgt ls st gi gl sh Q) (kf : ¬ (x ≠ 0) → Go md mc ms (pc + 3) ls st gi gl sh Q) : Go md mc ms pc ls (vI x :: st) gi gl sh Q := by
  intro p l e R s m args below meth c Qf A D cy b n0 ad0 MC MS X ad H locs cells slots lsA T
  have q0 := g_eq (x := x) (y := 0) (g_unI (g_sh T.ok)) (by decide)
  exact lv_if_ne X.1.1 X.1.2.1 hd ht (fun q => kt (fun e => q (q0.mpr e)) p l e R s m args below meth c Qf A D cy b n0 ad0 MC MS X ad H locs cells slots lsA (T.stk (g_st T.ok))) (fun q => kf (fun e => e (q0.mp q)) p l e R s m args below meth c Qf A D cy b n0 ad0 MC MS X ad H locs cells slots lsA (T.stk (g_st T.ok)))
theorem g_if_lt {x : Int} {off : Int} (tgt : Nat) (hd : decode md.2.1 pc = .ok (.ifCond .lt off, 3)) (ht : (pc : Int) + off = (tgt : Int)) (kt : x < 0 → Go md mc ms tgt ls st gi gl sh Q) (kf : ¬ (x < 0) → Go md mc ms (pc + 3) ls st gi gl sh Q) : Go md mc ms pc ls (vI x :: st) gi gl sh Q := by
  intro p l e R s m args below meth c Qf A D cy b n0 ad0 MC MS X ad H locs cells slots lsA T
  have q0 := g_lt (x := x) (y := 0) (g_unI (g_sh T.ok)) (by decide)
  exact lv_if_lt X.1.1 X.1.2.1 hd ht (fun q => kt (q0.mp q) p l e R s m args below meth c Qf A D cy b n0 ad0 MC MS X ad H locs cells slots lsA (T.stk (g_st T.ok))) (fun q => kf (fun e => q (q0.mpr e)) p l e R s m args below meth c Qf A D cy b n0 ad0 MC MS X ad H locs cells slots lsA (T.stk (g_st T.ok)))
theorem g_if_ge {x : Int} {off : Int} (tgt : Nat) (hd : decode md.2.1 pc = .ok (.ifCond .ge off, 3)) (ht : (pc : Int) + off = (tgt : Int)) (kt : 0 ≤ x → Go md mc ms tgt ls st gi gl sh Q) (kf : ¬ (0 ≤ x) → Go md mc ms (pc + 3) ls st gi gl sh Q) : Go md mc ms pc ls (vI x :: st) gi gl sh Q := by
  intro p l e R s m args below meth c Qf A D cy b n0 ad0 MC MS X ad H locs cells slots lsA T
  have q0 := g_le (x := 0) (y := x) (by decide) (g_unI (g_sh T.ok))
  exact lv_if_ge X.1.1 X.1.2.1 hd ht (fun q => kt (q0.mp q) p l e R s m args below meth c Qf A D cy b n0 ad0 MC MS X ad H locs cells slots lsA (T.stk (g_st T.ok))) (fun q => kf (fun e => q (q0.mpr e)) p l e R s m args below meth c Qf A D cy b n0 ad0 MC MS X ad H locs cells slots lsA (T.stk (g_st T.ok)))
theorem g_if_gt {x : Int} {off : Int} (tgt : Nat) (hd : decode md.2.1 pc = .ok (.ifCond .gt off, 3)) (ht : (pc : Int) + off = (tgt : Int)) (kt : 0 < x → Go md mc ms tgt ls st gi gl sh Q) (kf : ¬ (0 < x) → Go md mc ms (pc + 3) ls st gi gl sh Q) : Go md mc ms pc ls (vI x :: st) gi gl sh Q := by
  intro p l e R s m args below meth c Qf A D cy b n0 ad0 MC MS X ad H locs cells slots lsA T
  have q0 := g_lt (x := 0) (y := x) (by decide) (g_unI (g_sh T.ok))
  exact lv_if_gt X.1.1 X.1.2.1 hd ht (fun q => kt (q0.mp q) p l e R s m args below meth c Qf A D cy b n0 ad0 MC MS X ad H locs cells slots lsA (T.stk (g_st T.ok))) (fun q => kf (fun e => q (q0.mpr e)) p l e R s m args below meth c Qf A D cy b n0 ad0 MC MS X ad H locs cells slots lsA (T.stk (g_st T.ok)))
theorem g_if_le {x : Int} {off : Int} (tgt : Nat) (hd : decode md.2.1 pc = .ok (.ifCond .le off, 3)) (ht : (pc : Int) + off = (tgt : Int)) (kt : x ≤ 0 → Go md mc ms tgt ls st gi gl sh Q) (kf : ¬ (x ≤ 0) → Go md mc ms (pc + 3) ls st gi gl sh Q) : Go md mc ms pc ls (vI x :: st) gi gl sh Q := by
  intro p l e R s m args below meth c Qf A D cy b n0 ad0 MC MS X ad H locs cells slots lsA T
  have q0 := g_le (x := x) (y := 0) (g_unI (g_sh T.ok)) (by decide)
  exact lv_if_le X.1.1 X.1.2.1 hd ht (fun q => kt (q0.mp q) p l e R s m args below meth c Qf A D cy b n0 ad0 MC MS X ad H locs cells slots lsA (T.stk (g_st T.ok))) (fun q => kf (fun e => q (q0.mpr e)) p l e R s m args below meth c Qf A D cy b n0 ad0 MC MS X ad H locs cells slots lsA (T.stk (g_st T.ok)))
theorem g_goto {off : Int} (tgt : Nat) (hd : decode md.2.1 pc = .ok (.goto off, 3)) (ht : (pc : Int) + off = (tgt : Int)) (h : Go md mc ms tgt ls st gi gl sh Q) : Go md mc ms pc ls st gi gl sh Q := by
  intro p l e R s m args below meth c Qf A D cy b n0 ad0 MC MS X ad H locs cells slots lsA T
  exact lv_goto X.1.1 X.1.2.1 hd ht (h p l e R s m args below meth c Qf A D cy b n0 ad0 MC MS X ad H locs cells slots lsA T)
theorem g_dup {v : gV} (hd : decode md.2.1 pc = .ok (.dup, 1)) (hv : ∀ y, v ≠ vL y) (h : Go md mc ms (pc + 1) ls (v :: v :: st) gi gl sh Q) : Go md mc ms pc ls (v :: st) gi gl sh Q := by
  intro p l e R s m args below meth c Qf A D cy b n0 ad0 MC MS X ad H locs cells slots lsA T
  exact lv_dup X.1.1 X.1.2.1 hd (g_cat1 (fun hh => hv _ hh.choose_spec)) (h p l e R s m args below meth c Qf A D cy b n0 ad0 MC MS X ad H locs cells slots lsA (T.stk (g_sc (g_sh T.ok) T.ok)))
theorem g_dup2 {v w : gV} (hd : decode md.2.1 pc = .ok (.dup2, 1)) (hv : ∀ y, v ≠ vL y) (hw : ∀ y, w ≠ vL y) (h : Go md mc ms (pc + 1) ls (v :: w :: v :: w :: st) gi gl sh Q) : Go md mc ms pc ls (v :: w :: st) gi gl sh Q := by
  intro p l e R s m args below meth c Qf A D cy b n0 ad0 MC MS X ad H locs cells slots lsA T
  exact lv_dup2_11 X.1.1 X.1.2.1 hd (g_cat1 (fun hh => hv _ hh.choose_spec)) (g_cat1 (fun hh => hw _ hh.choose_spec)) (h p l e R s m args below meth c Qf A D cy b n0 ad0 MC MS X ad H locs cells slots lsA (T.stk (g_sc (g_sh T.ok) (g_sc (g_sh (g_st T.ok)) T.ok))))
theorem g_dup2L {x : Int} (hd : decode md.2.1 pc = .ok (.dup2, 1)) (h : Go md mc ms (pc + 1) ls (vL x :: vL x :: st) gi gl sh Q) : Go md mc ms pc ls (vL x :: st) gi gl sh Q := by
  intro p l e R s m args below meth c Qf A D cy b n0 ad0 MC MS X ad H locs cells slots lsA T
  exact lv_dup2_2 X.1.1 X.1.2.1 hd rfl (h p l e R s m args below meth c Qf A D cy b n0 ad0 MC MS X ad H locs cells slots lsA (T.stk (g_sc (g_sh T.ok) T.ok)))
theorem g_pop {v : gV} (hd : decode md.2.1 pc = .ok (.pop, 1)) (hv : ∀ y, v ≠ vL y) (h : Go md mc ms (pc + 1) ls st gi gl sh Q) : Go md mc ms pc ls (v :: st) gi gl sh Q := by
  intro p l e R s m args below meth c Qf A D cy b n0 ad0 MC MS X ad H locs cells slots lsA T
  exact lv_pop X.1.1 X.1.2.1 hd (g_cat1 (fun hh => hv _ hh.choose_spec)) (h p l e R s m args below meth c Qf A D cy b n0 ad0 MC MS X ad H locs cells slots lsA (T.stk (g_st T.ok)))
end RULES
end
section
theorem g_nat {x : Int} (h : 0 ≤ x) : ∃ a : Nat, x = (a : Int) := ⟨x.toNat, by omega⟩
theorem g_nI (a : Nat) : Int32.ofInt (a : Int) = nI a := Int32.ofInt_eq_ofNat
theorem g_lN (a : Nat) : Int64.ofInt (a : Int) = lN a := Int64.ofInt_eq_ofNat
theorem g_div {x y : Int} (h0 : 0 ≤ x) (h1 : x ≤ 2147483647) (h2 : 0 < y) (h3 : y ≤ 2147483647) : Int32.ofInt x / Int32.ofInt y = Int32.ofInt (x / y) := by
  obtain ⟨a, rfl⟩ := g_nat h0
  obtain ⟨d, rfl⟩ := g_nat (Int.le_of_lt h2)
  rw [← Int.natCast_ediv, g_nI, g_nI, g_nI]
  exact pk_div (by omega) (by omega) (by omega)
theorem g_mod {x y : Int} (h0 : 0 ≤ x) (h1 : x ≤ 2147483647) (h2 : 0 < y) (h3 : y ≤ 2147483647) : Int32.ofInt x - Int32.ofInt x / Int32.ofInt y * Int32.ofInt y = Int32.ofInt (x % y) := by
  obtain ⟨a, rfl⟩ := g_nat h0
  obtain ⟨d, rfl⟩ := g_nat (Int.le_of_lt h2)
  rw [← Int.natCast_emod, g_nI, g_nI, g_nI]
  exact pk_rem (by omega) (by omega) (by omega)
theorem g_divL {x y : Int} (h0 : 0 ≤ x) (h1 : x ≤ 9223372036854775807) (h2 : 0 < y) (h3 : y ≤ 9223372036854775807) : Int64.ofInt x / Int64.ofInt y = Int64.ofInt (x / y) := by
  obtain ⟨a, rfl⟩ := g_nat h0
  obtain ⟨d, rfl⟩ := g_nat (Int.le_of_lt h2)
  rw [← Int.natCast_ediv, g_lN, g_lN, g_lN]
  exact pk_lDiv (by omega) (by omega) (by omega)
theorem g_modL {x y : Int} (h0 : 0 ≤ x) (h1 : x ≤ 9223372036854775807) (h2 : 0 < y) (h3 : y ≤ 9223372036854775807) : Int64.ofInt x - Int64.ofInt x / Int64.ofInt y * Int64.ofInt y = Int64.ofInt (x % y) := by
  obtain ⟨a, rfl⟩ := g_nat h0
  obtain ⟨d, rfl⟩ := g_nat (Int.le_of_lt h2)
  rw [← Int.natCast_emod, g_lN, g_lN, g_lN]
  exact pk_lRem (by omega) (by omega) (by omega)
theorem g_ltL {x y : Int} (hx : -9223372036854775808 ≤ x ∧ x ≤ 9223372036854775807) (hy : -9223372036854775808 ≤ y ∧ y ≤ 9223372036854775807) : Int64.ofInt x < Int64.ofInt y ↔ x < y := by rw [Int64.lt_iff_toInt_lt, g_i64 hx, g_i64 hy]
theorem g_ne0 {y : Int} (h : y ≠ 0) (hr : -2147483648 ≤ y ∧ y ≤ 2147483647) : ¬ Int32.ofInt y = 0 := fun e => h ((g_eq hr (by decide)).mp e)
theorem g_ne0L {y : Int} (h : y ≠ 0) (hr : -9223372036854775808 ≤ y ∧ y ≤ 9223372036854775807) : ¬ Int64.ofInt y = 0 := fun e => h (by
  have := congrArg Int64.toInt e
  rwa [g_i64 hr, show (0 : Int64).toInt = 0 from rfl] at this)
theorem g_ofI (x : Int32) : Int32.ofInt x.toInt = x := Int32.ofInt_toInt x
theorem g_ofL (x : Int64) : Int64.ofInt x.toInt = x := Int64.ofInt_toInt x
theorem g_rgI (x : Int32) : -2147483648 ≤ x.toInt ∧ x.toInt ≤ 2147483647 := ⟨by have := Int32.le_toInt x; simpa using this, by have := Int32.toInt_lt x; omega⟩
theorem g_rgL (x : Int64) : -9223372036854775808 ≤ x.toInt ∧ x.toInt ≤ 9223372036854775807 := ⟨by have := Int64.le_toInt x; simpa using this, by have := Int64.toInt_lt x; omega⟩
theorem g_isR_fv {t : FieldType} (h : g_isR t = true) (ad : Int → Nat) (x : Int) (r : Option Int) : g_fv ad t x r = va_rf (r.map ad) := by
  cases t <;> first | rfl | cases h
theorem g_isR_nar {t : FieldType} (h : g_isR t = true) (a : Nat) : narrow t (.ref a) = .ref a := by
  cases t <;> first | rfl | cases h
theorem g_isR_fit {t : FieldType} (h : g_isR t = true) (a : Nat) : fits t (.ref a) = true := by
  cases t <;> first | rfl | cases h
theorem g_wf.up {gi gl : gF} {sh : gSh} (h : g_wf gi gl sh) {a i v : Int} (hv : -2147483648 ≤ v ∧ v ≤ 2147483647) : g_wf (g_up gi a i v) gl sh := ⟨fun b k => by
  unfold g_up
  split
  · exact hv
  · exact h.1 b k, h.2.1, h.2.2⟩
theorem g_wf.upL {gi gl : gF} {sh : gSh} (h : g_wf gi gl sh) {a i v : Int} (hv : -9223372036854775808 ≤ v ∧ v ≤ 9223372036854775807) : g_wf gi (g_up gl a i v) sh := ⟨h.1, fun b k => by
  unfold g_up
  split
  · exact hv
  · exact h.2.1 b k, h.2.2⟩
theorem g_wf.upR {gi gl : gF} {sh : gSh} (h : g_wf gi gl sh) {a i r : Int} (hv : 0 ≤ r ∧ r < (sh.2.2.2 : Int)) : g_wf gi gl (g_up sh.1 a i (some r), sh.2) := ⟨h.1, h.2.1, fun b k z hz => by
  dsimp only [g_up] at hz
  split at hz
  · cases hz; exact hv
  · exact h.2.2 b k z hz⟩
section RULES2
variable {md : gMD} {mc ms pc : Nat} {ls : List (Option gV)} {st : List gV} {gi gl : gF} {sh : gSh} {Q : gQ}
theorem g_idiv {x y : Int} (hd : decode md.2.1 pc = .ok (.idiv, 1)) (h0 : 0 ≤ x) (h1 : 0 < y) (h : Go md mc ms (pc + 1) ls (vI (x / y) :: st) gi gl sh Q) : Go md mc ms pc ls (vI y :: vI x :: st) gi gl sh Q := by
  intro p l e R s m args below meth c Qf A D cy b n0 ad0 MC MS X ad H locs cells slots lsA T
  have hy := g_unI (g_sh T.ok)
  have hx := g_unI (g_sh (g_st T.ok))
  have hq : x / y ≤ x := Int.ediv_le_self y h0
  have hp : 0 ≤ x / y := Int.ediv_nonneg h0 (by omega)
  have k := h p l e R s m args below meth c Qf A D cy b n0 ad0 MC MS X ad H locs cells slots lsA (T.stk (g_sc (g_okI (by omega) (by omega)) (g_st (g_st T.ok))))
  refine lv_idiv X.1.1 X.1.2.1 hd (g_ne0 (by omega) hy) ?_
  rw [g_div h0 hx.2 h1 hy.2]
  exact k
theorem g_irem {x y : Int} (hd : decode md.2.1 pc = .ok (.irem, 1)) (h0 : 0 ≤ x) (h1 : 0 < y) (h : Go md mc ms (pc + 1) ls (vI (x % y) :: st) gi gl sh Q) : Go md mc ms pc ls (vI y :: vI x :: st) gi gl sh Q := by
  intro p l e R s m args below meth c Qf A D cy b n0 ad0 MC MS X ad H locs cells slots lsA T
  have hy := g_unI (g_sh T.ok)
  have hx := g_unI (g_sh (g_st T.ok))
  have hq : x % y < y := Int.emod_lt_of_pos x h1
  have hp : 0 ≤ x % y := Int.emod_nonneg x (by omega)
  have k := h p l e R s m args below meth c Qf A D cy b n0 ad0 MC MS X ad H locs cells slots lsA (T.stk (g_sc (g_okI (by omega) (by omega)) (g_st (g_st T.ok))))
  refine lv_irem X.1.1 X.1.2.1 hd (g_ne0 (by omega) hy) ?_
  rw [g_mod h0 hx.2 h1 hy.2]
  exact k
theorem g_ldiv {x y : Int} (hd : decode md.2.1 pc = .ok (.ldiv, 1)) (h0 : 0 ≤ x) (h1 : 0 < y) (h : Go md mc ms (pc + 1) ls (vL (x / y) :: st) gi gl sh Q) : Go md mc ms pc ls (vL y :: vL x :: st) gi gl sh Q := by
  intro p l e R s m args below meth c Qf A D cy b n0 ad0 MC MS X ad H locs cells slots lsA T
  have hy := g_unL (g_sh T.ok)
  have hx := g_unL (g_sh (g_st T.ok))
  have hq : x / y ≤ x := Int.ediv_le_self y h0
  have hp : 0 ≤ x / y := Int.ediv_nonneg h0 (by omega)
  have k := h p l e R s m args below meth c Qf A D cy b n0 ad0 MC MS X ad H locs cells slots lsA (T.stk (g_sc (g_okL (by omega) (by omega)) (g_st (g_st T.ok))))
  refine lv_ldiv X.1.1 X.1.2.1 hd (g_ne0L (by omega) hy) ?_
  rw [g_divL h0 hx.2 h1 hy.2]
  exact k
theorem g_lrem {x y : Int} (hd : decode md.2.1 pc = .ok (.lrem, 1)) (h0 : 0 ≤ x) (h1 : 0 < y) (h : Go md mc ms (pc + 1) ls (vL (x % y) :: st) gi gl sh Q) : Go md mc ms pc ls (vL y :: vL x :: st) gi gl sh Q := by
  intro p l e R s m args below meth c Qf A D cy b n0 ad0 MC MS X ad H locs cells slots lsA T
  have hy := g_unL (g_sh T.ok)
  have hx := g_unL (g_sh (g_st T.ok))
  have hq : x % y < y := Int.emod_lt_of_pos x h1
  have hp : 0 ≤ x % y := Int.emod_nonneg x (by omega)
  have k := h p l e R s m args below meth c Qf A D cy b n0 ad0 MC MS X ad H locs cells slots lsA (T.stk (g_sc (g_okL (by omega) (by omega)) (g_st (g_st T.ok))))
  refine lv_lrem X.1.1 X.1.2.1 hd (g_ne0L (by omega) hy) ?_
  rw [g_modL h0 hx.2 h1 hy.2]
  exact k
theorem g_iand {x y : Int} (hd : decode md.2.1 pc = .ok (.iand, 1)) (h : Go md mc ms (pc + 1) ls (vI ((Int32.ofInt x &&& Int32.ofInt y).toInt) :: st) gi gl sh Q) : Go md mc ms pc ls (vI y :: vI x :: st) gi gl sh Q := by
  intro p l e R s m args below meth c Qf A D cy b n0 ad0 MC MS X ad H locs cells slots lsA T
  have k := h p l e R s m args below meth c Qf A D cy b n0 ad0 MC MS X ad H locs cells slots lsA (T.stk (g_sc (g_okI (g_rgI _).1 (g_rgI _).2) (g_st (g_st T.ok))))
  refine lv_iand X.1.1 X.1.2.1 hd ?_
  rw [← g_ofI (Int32.ofInt x &&& Int32.ofInt y)]
  exact k
theorem g_land {x y : Int} (hd : decode md.2.1 pc = .ok (.land, 1)) (h : Go md mc ms (pc + 1) ls (vL ((Int64.ofInt x &&& Int64.ofInt y).toInt) :: st) gi gl sh Q) : Go md mc ms pc ls (vL y :: vL x :: st) gi gl sh Q := by
  intro p l e R s m args below meth c Qf A D cy b n0 ad0 MC MS X ad H locs cells slots lsA T
  have k := h p l e R s m args below meth c Qf A D cy b n0 ad0 MC MS X ad H locs cells slots lsA (T.stk (g_sc (g_okL (g_rgL _).1 (g_rgL _).2) (g_st (g_st T.ok))))
  refine lv_land X.1.1 X.1.2.1 hd ?_
  rw [← g_ofL (Int64.ofInt x &&& Int64.ofInt y)]
  exact k
theorem g_lor {x y : Int} (hd : decode md.2.1 pc = .ok (.lor, 1)) (h : Go md mc ms (pc + 1) ls (vL ((Int64.ofInt x ||| Int64.ofInt y).toInt) :: st) gi gl sh Q) : Go md mc ms pc ls (vL y :: vL x :: st) gi gl sh Q := by
  intro p l e R s m args below meth c Qf A D cy b n0 ad0 MC MS X ad H locs cells slots lsA T
  have k := h p l e R s m args below meth c Qf A D cy b n0 ad0 MC MS X ad H locs cells slots lsA (T.stk (g_sc (g_okL (g_rgL _).1 (g_rgL _).2) (g_st (g_st T.ok))))
  refine lv_lor X.1.1 X.1.2.1 hd ?_
  rw [← g_ofL (Int64.ofInt x ||| Int64.ofInt y)]
  exact k
theorem g_lshl {x y : Int} (hd : decode md.2.1 pc = .ok (.lshl, 1)) (h : Go md mc ms (pc + 1) ls (vL ((Int64.ofInt x <<< ((Int32.ofInt y).toInt64 &&& 63)).toInt) :: st) gi gl sh Q) : Go md mc ms pc ls (vI y :: vL x :: st) gi gl sh Q := by
  intro p l e R s m args below meth c Qf A D cy b n0 ad0 MC MS X ad H locs cells slots lsA T
  have k := h p l e R s m args below meth c Qf A D cy b n0 ad0 MC MS X ad H locs cells slots lsA (T.stk (g_sc (g_okL (g_rgL _).1 (g_rgL _).2) (g_st (g_st T.ok))))
  exact lv_lshl X.1.1 X.1.2.1 hd (g_ofL _).symm k
theorem g_i2l {x : Int} (hd : decode md.2.1 pc = .ok (.i2l, 1)) (h : Go md mc ms (pc + 1) ls (vL x :: st) gi gl sh Q) : Go md mc ms pc ls (vI x :: st) gi gl sh Q := by
  intro p l e R s m args below meth c Qf A D cy b n0 ad0 MC MS X ad H locs cells slots lsA T
  have hx := g_unI (g_sh T.ok)
  have k := h p l e R s m args below meth c Qf A D cy b n0 ad0 MC MS X ad H locs cells slots lsA (T.stk (g_sc (g_okL (by omega) (by omega)) (g_st T.ok)))
  refine lv_i2l X.1.1 X.1.2.1 hd (v := Int64.ofInt x) ?_ k
  apply Int64.toInt_inj.mp
  rw [Int32.toInt_toInt64, g_i32 hx, g_i64 ⟨by omega, by omega⟩]
theorem g_l2i {x : Int} (hd : decode md.2.1 pc = .ok (.l2i, 1)) (h1 : -2147483648 ≤ x) (h2 : x ≤ 2147483647) (h : Go md mc ms (pc + 1) ls (vI x :: st) gi gl sh Q) : Go md mc ms pc ls (vL x :: st) gi gl sh Q := by
  intro p l e R s m args below meth c Qf A D cy b n0 ad0 MC MS X ad H locs cells slots lsA T
  have k := h p l e R s m args below meth c Qf A D cy b n0 ad0 MC MS X ad H locs cells slots lsA (T.stk (g_sc (g_okI h1 h2) (g_st T.ok)))
  refine lv_l2i X.1.1 X.1.2.1 hd (v := Int32.ofInt x) ?_ k
  exact Int64.toInt32_ofInt
theorem g_i2c {x : Int} (hd : decode md.2.1 pc = .ok (.i2c, 1)) (h1 : 0 ≤ x) (h2 : x ≤ 65535) (h : Go md mc ms (pc + 1) ls (vI x :: st) gi gl sh Q) : Go md mc ms pc ls (vI x :: st) gi gl sh Q := by
  intro p l e R s m args below meth c Qf A D cy b n0 ad0 MC MS X ad H locs cells slots lsA T
  have k := h p l e R s m args below meth c Qf A D cy b n0 ad0 MC MS X ad H locs cells slots lsA (T.stk (g_sc (g_okI (by omega) (by omega)) (g_st T.ok)))
  refine lv_i2c X.1.1 X.1.2.1 hd (v := Int32.ofInt x) ?_ k
  obtain ⟨a, rfl⟩ := g_nat h1
  rw [g_nI, pk_char, pk_tn (by omega), Nat.mod_eq_of_lt (by omega)]
theorem g_lcmp {x y : Int} (hd : decode md.2.1 pc = .ok (.lcmp, 1)) (h : Go md mc ms (pc + 1) ls (vI (g_cmp x y) :: st) gi gl sh Q) : Go md mc ms pc ls (vL y :: vL x :: st) gi gl sh Q := by
  intro p l e R s m args below meth c Qf A D cy b n0 ad0 MC MS X ad H locs cells slots lsA T
  have hy := g_unL (g_sh T.ok)
  have hx := g_unL (g_sh (g_st T.ok))
  have k := h p l e R s m args below meth c Qf A D cy b n0 ad0 MC MS X ad H locs cells slots lsA (T.stk (g_sc (g_okI (by unfold g_cmp; split <;> (try split) <;> omega) (by unfold g_cmp; split <;> (try split) <;> omega)) (g_st (g_st T.ok))))
  refine W.lcmp X.1.1 X.1.2.1 hd ?_
  have e : lg_cmp (Int64.ofInt x) (Int64.ofInt y) = Int32.ofInt (g_cmp x y) := by
    unfold lg_cmp g_cmp
    have h3 : Int64.ofInt x = Int64.ofInt y ↔ x = y := by rw [← Int64.toInt_inj, g_i64 hx, g_i64 hy]
    simp only [gt_iff_lt, g_ltL hx hy, g_ltL hy hx, h3]
    by_cases h1 : y < x
    · have h2 : ¬ x < y := by omega
      simp only [h1, h2, if_true, if_false] <;> rfl
    · by_cases h2 : x < y
      · have h4 : ¬ x = y := by omega
        simp only [h1, h2, h4, if_true, if_false] <;> rfl
      · have h4 : x = y := by omega
        simp only [h1, h2, h4, if_true, if_false, Int.lt_irrefl] <;> rfl
  rw [e]
  exact k
theorem g_getI {idx ci k : Nat} (K : Int) {a : Int} (hd : decode md.2.1 pc = .ok (.getfield idx, 3)) (hf : g_FI md.1 idx ci k) (hK : ((k : Nat) : Int) = K) (ha : sh.2.1 a = ci) (h : Go md mc ms (pc + 3) ls (vI (gi a K) :: st) gi gl sh Q) : Go md mc ms pc ls (vR a :: st) gi gl sh Q := by
  intro p l e R s m args below meth c Qf A D cy b n0 ad0 MC MS X ad H locs cells slots lsA T
  subst hK
  have hr := g_unR (g_sh T.ok)
  have he : (g_ws cy ad gi gl sh)[a.toNat]? = some (ad a, .inr (ci, g_fs ad gi sh.1 ci a)) := by rw [g_ws_get hr.1 hr.2, g_cell_obj ha hf.1]
  have k0 := h p l e R s m args below meth c Qf A D cy b n0 ad0 MC MS X ad H locs cells slots lsA (T.stk (g_sc (g_okI (T.mm.2.2.2.2.1 _ _).1 (T.mm.2.2.2.2.1 _ _).2) (g_st T.ok)))
  refine va_get (D := D) (ci := ci) (v := .int (Int32.ofInt (gi a k))) (C := g_R ci) (T := g_TT ci) (N := g_nf ci) X.1.1 X.1.2.1 X.1.2.2.2.2.1 (g_inn ci hf.1) X.1.2.2.2.1 T.mm.1 T.mm.2.1 a.toNat he (g_cl ci hf.1) k hf.2.1 (X.1.2.2.2.2.1 _ hf.2.2.2.2) (fun _ h9 => h9) ?_ hd k0
  rw [g_fs_get hf.2.1, hf.2.2.1]; rfl
theorem g_getR {idx ci k : Nat} {fin : Bool} (K : Int) {a r : Int} (hd : decode md.2.1 pc = .ok (.getfield idx, 3)) (hf : g_FR md.1 idx ci k fin) (hK : ((k : Nat) : Int) = K) (ha : sh.2.1 a = ci) (hv : sh.1 a K = some r) (h : Go md mc ms (pc + 3) ls (vR r :: st) gi gl sh Q) : Go md mc ms pc ls (vR a :: st) gi gl sh Q := by
  intro p l e R s m args below meth c Qf A D cy b n0 ad0 MC MS X ad H locs cells slots lsA T
  subst hK
  have hr := g_unR (g_sh T.ok)
  have he : (g_ws cy ad gi gl sh)[a.toNat]? = some (ad a, .inr (ci, g_fs ad gi sh.1 ci a)) := by rw [g_ws_get hr.1 hr.2, g_cell_obj ha hf.1]
  have k0 := h p l e R s m args below meth c Qf A D cy b n0 ad0 MC MS X ad H locs cells slots lsA (T.stk (g_sc (g_okR (T.mm.2.2.2.2.2.2 _ _ _ hv).1 (T.mm.2.2.2.2.2.2 _ _ _ hv).2) (g_st T.ok)))
  refine va_get (D := D) (ci := ci) (v := .ref (ad r)) (C := g_R ci) (T := g_TT ci) (N := g_nf ci) X.1.1 X.1.2.1 X.1.2.2.2.2.1 (g_inn ci hf.1) X.1.2.2.2.1 T.mm.1 T.mm.2.1 a.toNat he (g_cl ci hf.1) k hf.2.1 (X.1.2.2.2.2.1 _ hf.2.2.2.2) (fun _ h9 => h9) ?_ hd k0
  rw [g_fs_get hf.2.1, g_isR_fv hf.2.2.1, hv]; rfl
theorem g_putI {idx ci k : Nat} (K : Int) {a v : Int} (hd : decode md.2.1 pc = .ok (.putfield idx, 3)) (hf : g_FI md.1 idx ci k) (hK : ((k : Nat) : Int) = K) (ha : sh.2.1 a = ci) (h : Go md mc ms (pc + 3) ls st (g_up gi a K v) gl sh Q) : Go md mc ms pc ls (vI v :: vR a :: st) gi gl sh Q := by
  intro p l e R s m args below meth c Qf A D cy b n0 ad0 MC MS X ad H locs cells slots lsA T
  subst hK
  have hr := g_unR (g_sh (g_st T.ok))
  have he : (g_ws cy ad gi gl sh)[a.toNat]? = some (ad a, .inr (ci, g_fs ad gi sh.1 ci a)) := by rw [g_ws_get hr.1 hr.2, g_cell_obj ha hf.1]
  have hv := g_unI (g_sh T.ok)
  refine va_put (D := D) (ci := ci) (v := .int (Int32.ofInt v)) (ty := .int) (C := g_R ci) (T := g_TT ci) (N := g_nf ci) X.1.1 X.1.2.1 X.1.2.2.2.2.1 (g_inn ci hf.1) (g_ft ci) (g_tyk ci hf.1) (g_nmk ci hf.1) X.1.2.2.2.1 T.mm.1 T.mm.2.1 T.mm.2.2.1 T.mm.2.2.2.1 a.toNat he (g_cl ci hf.1) k hf.2.1 (X.1.2.2.2.2.1 _ hf.2.2.2.2) (fun _ h9 => h9) hf.2.2.2.1 (by rw [g_tyk ci hf.1 k hf.2.1, hf.2.2.1]) rfl rfl (by rw [g_fs_len]; exact hf.2.1) hd (fun H1 locs1 hP hD hS => ?_)
  have e9 : (g_ws cy ad gi gl sh).set a.toNat (ad a, .inr (ci, (g_fs ad gi sh.1 ci a).set k (.int (Int32.ofInt v)))) = g_ws cy ad (g_up gi a k v) gl sh := g_ws_set (gr' := sh.1) hr.1 (by rw [g_cell_obj (sh := (sh.1, sh.2)) ha hf.1, ← g_fs_set (k := k) (v := .int (Int32.ofInt v)) (gi := gi) (gi' := g_up gi a k v) (gr := sh.1) (gr' := sh.1) (by rw [hf.2.2.1, g_up_at]; rfl) (fun j hj => ⟨g_up_ne (by omega), rfl⟩)]) (fun i hi => g_cell_congr (g_up_row hi) rfl rfl)
  rw [e9] at hP hD
  exact h p l e R s m args below meth c Qf A D cy b n0 ad0 MC MS X ad H1 locs1 cells slots lsA (T.mem (gr' := sh.1) ⟨T.mm.1, hP, hD, hS, T.mm.2.2.2.2.up hv⟩ (g_st (g_st T.ok)))
theorem g_getIN {idx ci k : Nat} (K : Int) {a : Int} (hd : decode md.2.1 pc = .ok (.getfield idx, 3)) (hf : g_NI md.1 idx ci k) (hK : ((k : Nat) : Int) = K) (ha : sh.2.1 a = ci) (h : Go md mc ms (pc + 3) ls (vI (gi a K) :: st) gi gl sh Q) : Go md mc ms pc ls (vR a :: st) gi gl sh Q := by
  intro p l e R s m args below meth c Qf A D cy b n0 ad0 MC MS X ad H locs cells slots lsA T
  subst hK
  obtain ⟨host, hw⟩ := hf.2.2.2.2
  have hr := g_unR (g_sh T.ok)
  have he : (g_ws cy ad gi gl sh)[a.toNat]? = some (ad a, .inr (ci, g_fs ad gi sh.1 ci a)) := by rw [g_ws_get hr.1 hr.2, g_cell_obj ha hf.1]
  have k0 := h p l e R s m args below meth c Qf A D cy b n0 ad0 MC MS X ad H locs cells slots lsA (T.stk (g_sc (g_okI (T.mm.2.2.2.2.1 _ _).1 (T.mm.2.2.2.2.1 _ _).2) (g_st T.ok)))
  refine va_getN (D := D) (ci := ci) (v := .int (Int32.ofInt (gi a k))) (C := g_R ci) (T := g_TT ci) (N := g_nf ci) X.1.1 X.1.2.1 X.1.2.2.2.2.1 (g_inn ci hf.1) X.1.2.2.2.1 T.mm.1 T.mm.2.1 a.toNat he (g_cl ci hf.1) k hf.2.1 (va_Nw.use rfl (X.1.2.2.2.2.2.1 _ hw)) (fun _ h9 => h9) ?_ hd k0
  rw [g_fs_get hf.2.1, hf.2.2.1]; rfl
theorem g_getRN {idx ci k : Nat} {fin : Bool} (K : Int) {a r : Int} (hd : decode md.2.1 pc = .ok (.getfield idx, 3)) (hf : g_NR md.1 idx ci k fin) (hK : ((k : Nat) : Int) = K) (ha : sh.2.1 a = ci) (hv : sh.1 a K = some r) (h : Go md mc ms (pc + 3) ls (vR r :: st) gi gl sh Q) : Go md mc ms pc ls (vR a :: st) gi gl sh Q := by
  intro p l e R s m args below meth c Qf A D cy b n0 ad0 MC MS X ad H locs cells slots lsA T
  subst hK
  obtain ⟨host, hw⟩ := hf.2.2.2.2
  have hr := g_unR (g_sh T.ok)
  have he : (g_ws cy ad gi gl sh)[a.toNat]? = some (ad a, .inr (ci, g_fs ad gi sh.1 ci a)) := by rw [g_ws_get hr.1 hr.2, g_cell_obj ha hf.1]
  have k0 := h p l e R s m args below meth c Qf A D cy b n0 ad0 MC MS X ad H locs cells slots lsA (T.stk (g_sc (g_okR (T.mm.2.2.2.2.2.2 _ _ _ hv).1 (T.mm.2.2.2.2.2.2 _ _ _ hv).2) (g_st T.ok)))
  refine va_getN (D := D) (ci := ci) (v := .ref (ad r)) (C := g_R ci) (T := g_TT ci) (N := g_nf ci) X.1.1 X.1.2.1 X.1.2.2.2.2.1 (g_inn ci hf.1) X.1.2.2.2.1 T.mm.1 T.mm.2.1 a.toNat he (g_cl ci hf.1) k hf.2.1 (va_Nw.use rfl (X.1.2.2.2.2.2.1 _ hw)) (fun _ h9 => h9) ?_ hd k0
  rw [g_fs_get hf.2.1, g_isR_fv hf.2.2.1, hv]; rfl
theorem g_putIN {idx ci k : Nat} (K : Int) {a v : Int} (hd : decode md.2.1 pc = .ok (.putfield idx, 3)) (hf : g_NI md.1 idx ci k) (hK : ((k : Nat) : Int) = K) (ha : sh.2.1 a = ci) (h : Go md mc ms (pc + 3) ls st (g_up gi a K v) gl sh Q) : Go md mc ms pc ls (vI v :: vR a :: st) gi gl sh Q := by
  intro p l e R s m args below meth c Qf A D cy b n0 ad0 MC MS X ad H locs cells slots lsA T
  subst hK
  obtain ⟨host, hw⟩ := hf.2.2.2.2
  have hr := g_unR (g_sh (g_st T.ok))
  have he : (g_ws cy ad gi gl sh)[a.toNat]? = some (ad a, .inr (ci, g_fs ad gi sh.1 ci a)) := by rw [g_ws_get hr.1 hr.2, g_cell_obj ha hf.1]
  have hv := g_unI (g_sh T.ok)
  refine va_putN (D := D) (ci := ci) (v := .int (Int32.ofInt v)) (ty := .int) (C := g_R ci) (T := g_TT ci) (N := g_nf ci) X.1.1 X.1.2.1 X.1.2.2.2.2.1 (g_inn ci hf.1) (g_ft ci) (g_tyk ci hf.1) (g_nmk ci hf.1) X.1.2.2.2.1 T.mm.1 T.mm.2.1 T.mm.2.2.1 T.mm.2.2.2.1 a.toNat he (g_cl ci hf.1) k hf.2.1 (va_Nw.use rfl (X.1.2.2.2.2.2.1 _ hw)) (fun _ h9 => h9) hf.2.2.2.1 (by rw [g_tyk ci hf.1 k hf.2.1, hf.2.2.1]) rfl rfl (by rw [g_fs_len]; exact hf.2.1) hd (fun H1 locs1 hP hD hS => ?_)
  have e9 : (g_ws cy ad gi gl sh).set a.toNat (ad a, .inr (ci, (g_fs ad gi sh.1 ci a).set k (.int (Int32.ofInt v)))) = g_ws cy ad (g_up gi a k v) gl sh := g_ws_set (gr' := sh.1) hr.1 (by rw [g_cell_obj (sh := (sh.1, sh.2)) ha hf.1, ← g_fs_set (k := k) (v := .int (Int32.ofInt v)) (gi := gi) (gi' := g_up gi a k v) (gr := sh.1) (gr' := sh.1) (by rw [hf.2.2.1, g_up_at]; rfl) (fun j hj => ⟨g_up_ne (by omega), rfl⟩)]) (fun i hi => g_cell_congr (g_up_row hi) rfl rfl)
  rw [e9] at hP hD
  exact h p l e R s m args below meth c Qf A D cy b n0 ad0 MC MS X ad H1 locs1 cells slots lsA (T.mem (gr' := sh.1) ⟨T.mm.1, hP, hD, hS, T.mm.2.2.2.2.up hv⟩ (g_st (g_st T.ok)))
theorem g_putR {idx ci k : Nat} (K : Int) {a v : Int} (hd : decode md.2.1 pc = .ok (.putfield idx, 3)) (hf : g_FR md.1 idx ci k false) (hK : ((k : Nat) : Int) = K) (ha : sh.2.1 a = ci) (h : Go md mc ms (pc + 3) ls st gi gl (g_up sh.1 a K (some v), sh.2) Q) : Go md mc ms pc ls (vR v :: vR a :: st) gi gl sh Q := by
  intro p l e R s m args below meth c Qf A D cy b n0 ad0 MC MS X ad H locs cells slots lsA T
  subst hK
  have hr := g_unR (g_sh (g_st T.ok))
  have he : (g_ws cy ad gi gl sh)[a.toNat]? = some (ad a, .inr (ci, g_fs ad gi sh.1 ci a)) := by rw [g_ws_get hr.1 hr.2, g_cell_obj ha hf.1]
  have hv := g_unR (g_sh T.ok)
  refine va_put (D := D) (ci := ci) (v := .ref (ad v)) (ty := g_ft ci k) (C := g_R ci) (T := g_TT ci) (N := g_nf ci) X.1.1 X.1.2.1 X.1.2.2.2.2.1 (g_inn ci hf.1) (g_ft ci) (g_tyk ci hf.1) (g_nmk ci hf.1) X.1.2.2.2.1 T.mm.1 T.mm.2.1 T.mm.2.2.1 T.mm.2.2.2.1 a.toNat he (g_cl ci hf.1) k hf.2.1 (X.1.2.2.2.2.1 _ hf.2.2.2.2) (fun _ h9 => h9) hf.2.2.2.1 (g_tyk ci hf.1 k hf.2.1) (g_isR_nar hf.2.2.1 _) (g_isR_fit hf.2.2.1 _) (by rw [g_fs_len]; exact hf.2.1) hd (fun H1 locs1 hP hD hS => ?_)
  have e9 : (g_ws cy ad gi gl sh).set a.toNat (ad a, .inr (ci, (g_fs ad gi sh.1 ci a).set k (.ref (ad v)))) = g_ws cy ad gi gl (g_up sh.1 a k (some v), sh.2) := g_ws_set hr.1 (by rw [g_cell_obj (sh := (g_up sh.1 a k (some v), sh.2)) ha hf.1, ← g_fs_set (k := k) (v := .ref (ad v)) (gi := gi) (gi' := gi) (gr := sh.1) (gr' := g_up sh.1 a k (some v)) (by rw [g_isR_fv hf.2.2.1, g_up_at]; rfl) (fun j hj => ⟨rfl, g_up_ne (by omega)⟩)]) (fun i hi => g_cell_congr rfl rfl (g_up_row hi))
  rw [e9] at hP hD
  exact h p l e R s m args below meth c Qf A D cy b n0 ad0 MC MS X ad H1 locs1 cells slots lsA (T.mem ⟨T.mm.1, hP, hD, hS, T.mm.2.2.2.2.upR hv⟩ (g_st (g_st T.ok)))
theorem g_putRF {idx ci k : Nat} (K : Int) {a v : Int} (hd : decode md.2.1 pc = .ok (.putfield idx, 3)) (hf : g_FR md.1 idx ci k true) (hK : ((k : Nat) : Int) = K) (ha : sh.2.1 a = ci) (hin : md.2.2.2.2.2.1.name = "<init>") (hdc : (g_TT ci k).1 = md.1) (h : Go md mc ms (pc + 3) ls st gi gl (g_up sh.1 a K (some v), sh.2) Q) : Go md mc ms pc ls (vR v :: vR a :: st) gi gl sh Q := by
  intro p l e R s m args below meth c Qf A D cy b n0 ad0 MC MS X ad H locs cells slots lsA T
  subst hK
  have hr := g_unR (g_sh (g_st T.ok))
  have he : (g_ws cy ad gi gl sh)[a.toNat]? = some (ad a, .inr (ci, g_fs ad gi sh.1 ci a)) := by rw [g_ws_get hr.1 hr.2, g_cell_obj ha hf.1]
  have hv := g_unR (g_sh T.ok)
  refine va_putF (D := D) (ci := ci) (v := .ref (ad v)) (ty := g_ft ci k) (C := g_R ci) (T := g_TT ci) (N := g_nf ci) X.1.1 X.1.2.1 X.1.2.2.2.2.1 (g_inn ci hf.1) (g_ft ci) (g_tyk ci hf.1) (g_nmk ci hf.1) X.1.2.2.2.1 T.mm.1 T.mm.2.1 T.mm.2.2.1 T.mm.2.2.2.1 a.toNat he (g_cl ci hf.1) k hf.2.1 (X.1.2.2.2.2.1 _ hf.2.2.2.2) (fun _ h9 => h9) hf.2.2.2.1 (X.1.2.2.2.2.2.2.2.2.2.2.1 hin) hdc (g_tyk ci hf.1 k hf.2.1) (g_isR_nar hf.2.2.1 _) (g_isR_fit hf.2.2.1 _) (by rw [g_fs_len]; exact hf.2.1) hd (fun H1 locs1 hP hD hS => ?_)
  have e9 : (g_ws cy ad gi gl sh).set a.toNat (ad a, .inr (ci, (g_fs ad gi sh.1 ci a).set k (.ref (ad v)))) = g_ws cy ad gi gl (g_up sh.1 a k (some v), sh.2) := g_ws_set hr.1 (by rw [g_cell_obj (sh := (g_up sh.1 a k (some v), sh.2)) ha hf.1, ← g_fs_set (k := k) (v := .ref (ad v)) (gi := gi) (gi' := gi) (gr := sh.1) (gr' := g_up sh.1 a k (some v)) (by rw [g_isR_fv hf.2.2.1, g_up_at]; rfl) (fun j hj => ⟨rfl, g_up_ne (by omega)⟩)]) (fun i hi => g_cell_congr rfl rfl (g_up_row hi))
  rw [e9] at hP hD
  exact h p l e R s m args below meth c Qf A D cy b n0 ad0 MC MS X ad H1 locs1 cells slots lsA (T.mem ⟨T.mm.1, hP, hD, hS, T.mm.2.2.2.2.upR hv⟩ (g_st (g_st T.ok)))
end RULES2
end
section
theorem g_ty_at (cy : Nat → ClassId) : ∀ κ : Nat, 10 ≤ κ → κ ≤ 16 → ∃ ty, (g_tys cy)[κ - 10]? = some (cy κ, ty) := by
  intro κ h1 h2
  have : κ = 10 ∨ κ = 11 ∨ κ = 12 ∨ κ = 13 ∨ κ = 14 ∨ κ = 15 ∨ κ = 16 := by omega
  rcases this with rfl | rfl | rfl | rfl | rfl | rfl | rfl <;> exact ⟨_, rfl⟩
/-- the class of an array of references' elements -/
def g_el : Nat → Nat
  | 14 => 0 | 15 => 4 | _ => 6
theorem g_ty_ref (cy : Nat → ClassId) : ∀ κ : Nat, 14 ≤ κ → κ ≤ 16 → (g_tys cy)[κ - 10]? = some (cy κ, .object (g_R (g_el κ))) := by
  intro κ h1 h2
  have : κ = 14 ∨ κ = 15 ∨ κ = 16 := by omega
  rcases this with rfl | rfl | rfl <;> rfl
theorem g_cell_arr {cy : Nat → ClassId} {ad : Int → Nat} {gi gl : gF} {sh : gSh} {a : Int} (h : ¬ sh.2.1 a < 10) : ∃ z, g_cell cy ad gi gl sh a = .inl (cy (sh.2.1 a), sh.2.2.1 a, z) := by
  by_cases h1 : sh.2.1 a = 12
  · exact ⟨_, by rw [g_cell_long h1, h1]⟩
  · by_cases h2 : sh.2.1 a < 14
    · exact ⟨_, g_cell_int rfl h h1 h2⟩
    · exact ⟨_, g_cell_ref rfl h2⟩
theorem g_nb {v : Int} (h : v = 0 ∨ v = 1) : vp_nar .boolean (Int32.ofInt v) = Int32.ofInt v := by
  rcases h with rfl | rfl <;> decide
theorem g_nc {v : Int} (h0 : 0 ≤ v) (h1 : v ≤ 65535) : vp_nar .char (Int32.ofInt v) = Int32.ofInt v := by
  obtain ⟨a, rfl⟩ := g_nat h0
  rw [g_nI, vp_nar, (pk_charN (q := a) (by omega)).1]
section RULES3
variable {md : gMD} {mc ms pc : Nat} {ls : List (Option gV)} {st : List gV} {gi gl : gF} {sh : gSh} {Q : gQ}
theorem g_iaload {a i : Int} (hd : decode md.2.1 pc = .ok (.iaload, 1)) (ha : sh.2.1 a = 11) (h0 : 0 ≤ i) (h1 : i < (sh.2.2.1 a : Int)) (h : Go md mc ms (pc + 1) ls (vI (gi a i) :: st) gi gl sh Q) : Go md mc ms pc ls (vI i :: vR a :: st) gi gl sh Q := by
  intro p l e R s m args below meth c Qf A D cy b n0 ad0 MC MS X ad H locs cells slots lsA T
  have hr := g_unR (g_sh (g_st T.ok))
  have hi := g_unI (g_sh T.ok)
  have he := g_ws_get (cy := cy) (ad := ad) (gi := gi) (gl := gl) hr.1 hr.2
  rw [g_cell_int ha (by decide) (by decide) (by decide)] at he
  have k := h p l e R s m args below meth c Qf A D cy b n0 ad0 MC MS X ad H locs cells slots lsA (T.stk (g_sc (g_okI (T.mm.2.2.2.2.1 _ _).1 (T.mm.2.2.2.2.1 _ _).2) (g_st (g_st T.ok))))
  refine va_iald X.1.1 X.1.2.1 T.mm.1 T.mm.2.1 a.toNat 1 he rfl (g_in h0 h1 hi.2) hd ?_
  rw [g_clN h0 hi.2]
  exact k
theorem g_baload {a i : Int} (hd : decode md.2.1 pc = .ok (.baload, 1)) (ha : sh.2.1 a = 13) (h0 : 0 ≤ i) (h1 : i < (sh.2.2.1 a : Int)) (h : Go md mc ms (pc + 1) ls (vI (gi a i) :: st) gi gl sh Q) : Go md mc ms pc ls (vI i :: vR a :: st) gi gl sh Q := by
  intro p l e R s m args below meth c Qf A D cy b n0 ad0 MC MS X ad H locs cells slots lsA T
  have hr := g_unR (g_sh (g_st T.ok))
  have hi := g_unI (g_sh T.ok)
  have he := g_ws_get (cy := cy) (ad := ad) (gi := gi) (gl := gl) hr.1 hr.2
  rw [g_cell_int ha (by decide) (by decide) (by decide)] at he
  have k := h p l e R s m args below meth c Qf A D cy b n0 ad0 MC MS X ad H locs cells slots lsA (T.stk (g_sc (g_okI (T.mm.2.2.2.2.1 _ _).1 (T.mm.2.2.2.2.1 _ _).2) (g_st (g_st T.ok))))
  refine va_zald X.1.1 X.1.2.1 T.mm.1 T.mm.2.1 a.toNat 3 he rfl (g_in h0 h1 hi.2) hd ?_
  rw [g_clN h0 hi.2]
  exact k
theorem g_caload {a i : Int} (hd : decode md.2.1 pc = .ok (.caload, 1)) (ha : sh.2.1 a = 10) (h0 : 0 ≤ i) (h1 : i < (sh.2.2.1 a : Int)) (h : Go md mc ms (pc + 1) ls (vI (gi a i) :: st) gi gl sh Q) : Go md mc ms pc ls (vI i :: vR a :: st) gi gl sh Q := by
  intro p l e R s m args below meth c Qf A D cy b n0 ad0 MC MS X ad H locs cells slots lsA T
  have hr := g_unR (g_sh (g_st T.ok))
  have hi := g_unI (g_sh T.ok)
  have he := g_ws_get (cy := cy) (ad := ad) (gi := gi) (gl := gl) hr.1 hr.2
  rw [g_cell_int ha (by decide) (by decide) (by decide)] at he
  have k := h p l e R s m args below meth c Qf A D cy b n0 ad0 MC MS X ad H locs cells slots lsA (T.stk (g_sc (g_okI (T.mm.2.2.2.2.1 _ _).1 (T.mm.2.2.2.2.1 _ _).2) (g_st (g_st T.ok))))
  refine va_cald X.1.1 X.1.2.1 T.mm.1 T.mm.2.1 a.toNat 0 he rfl (g_in h0 h1 hi.2) hd ?_
  rw [g_clN h0 hi.2]
  exact k
theorem g_laload {a i : Int} (hd : decode md.2.1 pc = .ok (.laload, 1)) (ha : sh.2.1 a = 12) (h0 : 0 ≤ i) (h1 : i < (sh.2.2.1 a : Int)) (h : Go md mc ms (pc + 1) ls (vL (gl a i) :: st) gi gl sh Q) : Go md mc ms pc ls (vI i :: vR a :: st) gi gl sh Q := by
  intro p l e R s m args below meth c Qf A D cy b n0 ad0 MC MS X ad H locs cells slots lsA T
  have hr := g_unR (g_sh (g_st T.ok))
  have hi := g_unI (g_sh T.ok)
  have he := g_ws_get (cy := cy) (ad := ad) (gi := gi) (gl := gl) hr.1 hr.2
  rw [g_cell_long ha] at he
  have k := h p l e R s m args below meth c Qf A D cy b n0 ad0 MC MS X ad H locs cells slots lsA (T.stk (g_sc (g_okL (T.mm.2.2.2.2.2.1 _ _).1 (T.mm.2.2.2.2.2.1 _ _).2) (g_st (g_st T.ok))))
  refine va_lald X.1.1 X.1.2.1 T.mm.1 T.mm.2.1 a.toNat 2 he rfl (g_in h0 h1 hi.2) hd ?_
  rw [g_clN h0 hi.2]
  exact k
theorem g_aaload {a i r : Int} {κ : Nat} (hd : decode md.2.1 pc = .ok (.aaload, 1)) (ha : sh.2.1 a = κ) (hk1 : 14 ≤ κ) (hk2 : κ ≤ 16) (h0 : 0 ≤ i) (h1 : i < (sh.2.2.1 a : Int)) (hv : sh.1 a i = some r) (h : Go md mc ms (pc + 1) ls (vR r :: st) gi gl sh Q) : Go md mc ms pc ls (vI i :: vR a :: st) gi gl sh Q := by
  intro p l e R s m args below meth c Qf A D cy b n0 ad0 MC MS X ad H locs cells slots lsA T
  have hr := g_unR (g_sh (g_st T.ok))
  have hi := g_unI (g_sh T.ok)
  have he := g_ws_get (cy := cy) (ad := ad) (gi := gi) (gl := gl) hr.1 hr.2
  rw [g_cell_ref ha (by omega)] at he
  have k := h p l e R s m args below meth c Qf A D cy b n0 ad0 MC MS X ad H locs cells slots lsA (T.stk (g_sc (g_okR (T.mm.2.2.2.2.2.2 _ _ _ hv).1 (T.mm.2.2.2.2.2.2 _ _ _ hv).2) (g_st (g_st T.ok))))
  refine va_aldq X.1.1 X.1.2.1 T.mm.1 T.mm.2.1 a.toNat (κ - 10) he (g_ty_ref cy κ hk1 hk2) (g_in h0 h1 hi.2) hd ?_
  rw [g_clN h0 hi.2, hv]
  exact k
theorem g_alen {a : Int} (N : Int) (hd : decode md.2.1 pc = .ok (.arraylength, 1)) (ha : 10 ≤ sh.2.1 a ∧ sh.2.1 a ≤ 16) (hN : (sh.2.2.1 a : Int) = N) (hb : N ≤ 2147483647) (h : Go md mc ms (pc + 1) ls (vI N :: st) gi gl sh Q) : Go md mc ms pc ls (vR a :: st) gi gl sh Q := by
  intro p l e R s m args below meth c Qf A D cy b n0 ad0 MC MS X ad H locs cells slots lsA T
  have hr := g_unR (g_sh T.ok)
  have he := g_ws_get (cy := cy) (ad := ad) (gi := gi) (gl := gl) hr.1 hr.2
  obtain ⟨z, hz⟩ := g_cell_arr (cy := cy) (ad := ad) (gi := gi) (gl := gl) (sh := sh) (a := a) (by omega)
  rw [hz] at he
  obtain ⟨ty, hty⟩ := g_ty_at cy _ ha.1 ha.2
  have k := h p l e R s m args below meth c Qf A D cy b n0 ad0 MC MS X ad H locs cells slots lsA (T.stk (g_sc (g_okI (by omega) hb) (g_st T.ok)))
  refine va_alen X.1.1 X.1.2.1 T.mm.1 T.mm.2.1 a.toNat _ he hty (v := Int32.ofInt N) ?_ hd k
  rw [← hN]
  exact Int32.ofInt_eq_ofNat.symm
theorem g_iastore {a i v : Int} (hd : decode md.2.1 pc = .ok (.iastore, 1)) (ha : sh.2.1 a = 11) (h0 : 0 ≤ i) (h1 : i < (sh.2.2.1 a : Int)) (h : Go md mc ms (pc + 1) ls st (g_up gi a i v) gl sh Q) : Go md mc ms pc ls (vI v :: vI i :: vR a :: st) gi gl sh Q := by
  intro p l e R s m args below meth c Qf A D cy b n0 ad0 MC MS X ad H locs cells slots lsA T
  have hr := g_unR (g_sh (g_st (g_st T.ok)))
  have hi := g_unI (g_sh (g_st T.ok))
  have he := g_ws_get (cy := cy) (ad := ad) (gi := gi) (gl := gl) hr.1 hr.2
  rw [g_cell_int ha (by decide) (by decide) (by decide)] at he
  have hx := g_unI (g_sh T.ok)
  refine va_iast X.1.1 X.1.2.1 T.mm.1 T.mm.2.1 T.mm.2.2.1 T.mm.2.2.2.1 a.toNat 1 he rfl (g_in h0 h1 hi.2) hd (fun H1 locs1 hP hD hS => ?_)
  have e9 : (g_ws cy ad gi gl sh).set a.toNat (ad a, .inl (cy 11, sh.2.2.1 a, .inl (upd (fun j => Int32.ofInt (gi a (j : Int))) (Int32.ofInt i).toNatClampNeg (Int32.ofInt v)))) = g_ws cy ad (g_up gi a i v) gl sh := g_ws_set (gr' := sh.1) hr.1 (by
    rw [g_cell_int (sh := (sh.1, sh.2)) ha (by decide) (by decide) (by decide)]
    have : (fun j : Nat => Int32.ofInt (g_up gi a i v a (j : Int))) = upd (fun j => Int32.ofInt (gi a (j : Int))) (Int32.ofInt i).toNatClampNeg (Int32.ofInt v) := by
      funext j
      have hc := g_clN h0 hi.2
      by_cases hj : j = (Int32.ofInt i).toNatClampNeg
      · subst hj; rw [pk_us, hc, g_up_at]
      · rw [pk_un hj, g_up_ne (by omega)]
    rw [this]) (fun i' hi' => g_cell_congr (g_up_row hi') rfl rfl)
  rw [e9] at hP hD
  exact h p l e R s m args below meth c Qf A D cy b n0 ad0 MC MS X ad H1 locs1 cells slots lsA (T.mem (gr' := sh.1) ⟨T.mm.1, hP, hD, hS, T.mm.2.2.2.2.up hx⟩ (g_st (g_st (g_st T.ok))))
theorem g_bastore {a i v : Int} (hd : decode md.2.1 pc = .ok (.bastore, 1)) (ha : sh.2.1 a = 13) (h0 : 0 ≤ i) (h1 : i < (sh.2.2.1 a : Int)) (hv : v = 0 ∨ v = 1) (h : Go md mc ms (pc + 1) ls st (g_up gi a i v) gl sh Q) : Go md mc ms pc ls (vI v :: vI i :: vR a :: st) gi gl sh Q := by
  intro p l e R s m args below meth c Qf A D cy b n0 ad0 MC MS X ad H locs cells slots lsA T
  have hr := g_unR (g_sh (g_st (g_st T.ok)))
  have hi := g_unI (g_sh (g_st T.ok))
  have he := g_ws_get (cy := cy) (ad := ad) (gi := gi) (gl := gl) hr.1 hr.2
  rw [g_cell_int ha (by decide) (by decide) (by decide)] at he
  have hx := g_unI (g_sh T.ok)
  refine va_zast X.1.1 X.1.2.1 T.mm.1 T.mm.2.1 T.mm.2.2.1 T.mm.2.2.2.1 a.toNat 3 he rfl (g_in h0 h1 hi.2) hd (fun H1 locs1 hP hD hS => ?_)
  rw [g_nb hv] at hP hD
  have e9 : (g_ws cy ad gi gl sh).set a.toNat (ad a, .inl (cy 13, sh.2.2.1 a, .inl (upd (fun j => Int32.ofInt (gi a (j : Int))) (Int32.ofInt i).toNatClampNeg (Int32.ofInt v)))) = g_ws cy ad (g_up gi a i v) gl sh := g_ws_set (gr' := sh.1) hr.1 (by
    rw [g_cell_int (sh := (sh.1, sh.2)) ha (by decide) (by decide) (by decide)]
    have : (fun j : Nat => Int32.ofInt (g_up gi a i v a (j : Int))) = upd (fun j => Int32.ofInt (gi a (j : Int))) (Int32.ofInt i).toNatClampNeg (Int32.ofInt v) := by
      funext j
      have hc := g_clN h0 hi.2
      by_cases hj : j = (Int32.ofInt i).toNatClampNeg
      · subst hj; rw [pk_us, hc, g_up_at]
      · rw [pk_un hj, g_up_ne (by omega)]
    rw [this]) (fun i' hi' => g_cell_congr (g_up_row hi') rfl rfl)
  rw [e9] at hP hD
  exact h p l e R s m args below meth c Qf A D cy b n0 ad0 MC MS X ad H1 locs1 cells slots lsA (T.mem (gr' := sh.1) ⟨T.mm.1, hP, hD, hS, T.mm.2.2.2.2.up hx⟩ (g_st (g_st (g_st T.ok))))
theorem g_castore {a i v : Int} (hd : decode md.2.1 pc = .ok (.castore, 1)) (ha : sh.2.1 a = 10) (h0 : 0 ≤ i) (h1 : i < (sh.2.2.1 a : Int)) (hv0 : 0 ≤ v) (hv1 : v ≤ 65535) (h : Go md mc ms (pc + 1) ls st (g_up gi a i v) gl sh Q) : Go md mc ms pc ls (vI v :: vI i :: vR a :: st) gi gl sh Q := by
  intro p l e R s m args below meth c Qf A D cy b n0 ad0 MC MS X ad H locs cells slots lsA T
  have hr := g_unR (g_sh (g_st (g_st T.ok)))
  have hi := g_unI (g_sh (g_st T.ok))
  have he := g_ws_get (cy := cy) (ad := ad) (gi := gi) (gl := gl) hr.1 hr.2
  rw [g_cell_int ha (by decide) (by decide) (by decide)] at he
  have hx := g_unI (g_sh T.ok)
  refine va_cast X.1.1 X.1.2.1 T.mm.1 T.mm.2.1 T.mm.2.2.1 T.mm.2.2.2.1 a.toNat 0 he rfl (g_in h0 h1 hi.2) hd (fun H1 locs1 hP hD hS => ?_)
  rw [g_nc hv0 hv1] at hP hD
  have e9 : (g_ws cy ad gi gl sh).set a.toNat (ad a, .inl (cy 10, sh.2.2.1 a, .inl (upd (fun j => Int32.ofInt (gi a (j : Int))) (Int32.ofInt i).toNatClampNeg (Int32.ofInt v)))) = g_ws cy ad (g_up gi a i v) gl sh := g_ws_set (gr' := sh.1) hr.1 (by
    rw [g_cell_int (sh := (sh.1, sh.2)) ha (by decide) (by decide) (by decide)]
    have : (fun j : Nat => Int32.ofInt (g_up gi a i v a (j : Int))) = upd (fun j => Int32.ofInt (gi a (j : Int))) (Int32.ofInt i).toNatClampNeg (Int32.ofInt v) := by
      funext j
      have hc := g_clN h0 hi.2
      by_cases hj : j = (Int32.ofInt i).toNatClampNeg
      · subst hj; rw [pk_us, hc, g_up_at]
      · rw [pk_un hj, g_up_ne (by omega)]
    rw [this]) (fun i' hi' => g_cell_congr (g_up_row hi') rfl rfl)
  rw [e9] at hP hD
  exact h p l e R s m args below meth c Qf A D cy b n0 ad0 MC MS X ad H1 locs1 cells slots lsA (T.mem (gr' := sh.1) ⟨T.mm.1, hP, hD, hS, T.mm.2.2.2.2.up hx⟩ (g_st (g_st (g_st T.ok))))
theorem g_lastore {a i v : Int} (hd : decode md.2.1 pc = .ok (.lastore, 1)) (ha : sh.2.1 a = 12) (h0 : 0 ≤ i) (h1 : i < (sh.2.2.1 a : Int)) (h : Go md mc ms (pc + 1) ls st gi (g_up gl a i v) sh Q) : Go md mc ms pc ls (vL v :: vI i :: vR a :: st) gi gl sh Q := by
  intro p l e R s m args below meth c Qf A D cy b n0 ad0 MC MS X ad H locs cells slots lsA T
  have hr := g_unR (g_sh (g_st (g_st T.ok)))
  have hi := g_unI (g_sh (g_st T.ok))
  have he := g_ws_get (cy := cy) (ad := ad) (gi := gi) (gl := gl) hr.1 hr.2
  rw [g_cell_long ha] at he
  have hx := g_unL (g_sh T.ok)
  refine va_last X.1.1 X.1.2.1 T.mm.1 T.mm.2.1 T.mm.2.2.1 T.mm.2.2.2.1 a.toNat 2 he rfl (g_in h0 h1 hi.2) hd (fun H1 locs1 hP hD hS => ?_)
  have e9 : (g_ws cy ad gi gl sh).set a.toNat (ad a, .inl (cy 12, sh.2.2.1 a, .inr (.inl (vp_updL (fun j => Int64.ofInt (gl a (j : Int))) (Int32.ofInt i).toNatClampNeg (Int64.ofInt v))))) = g_ws cy ad gi (g_up gl a i v) sh := g_ws_set (gr' := sh.1) hr.1 (by
    rw [g_cell_long (sh := (sh.1, sh.2)) ha]
    have : (fun j : Nat => Int64.ofInt (g_up gl a i v a (j : Int))) = vp_updL (fun j => Int64.ofInt (gl a (j : Int))) (Int32.ofInt i).toNatClampNeg (Int64.ofInt v) := by
      funext j
      have hc := g_clN h0 hi.2
      by_cases hj : j = (Int32.ofInt i).toNatClampNeg
      · subst hj; rw [pk_uLs, hc, g_up_at]
      · rw [pk_uLn hj, g_up_ne (by omega)]
    rw [this]) (fun i' hi' => g_cell_congr rfl (g_up_row hi') rfl)
  rw [e9] at hP hD
  exact h p l e R s m args below meth c Qf A D cy b n0 ad0 MC MS X ad H1 locs1 cells slots lsA (T.mem (gr' := sh.1) ⟨T.mm.1, hP, hD, hS, T.mm.2.2.2.2.upL hx⟩ (g_st (g_st (g_st T.ok))))
theorem g_aastore {a i v : Int} {κ : Nat} (hd : decode md.2.1 pc = .ok (.aastore, 1)) (ha : sh.2.1 a = κ) (hk1 : 14 ≤ κ) (hk2 : κ ≤ 16) (hv : sh.2.1 v = g_el κ) (h0 : 0 ≤ i) (h1 : i < (sh.2.2.1 a : Int)) (h : Go md mc ms (pc + 1) ls st gi gl (g_up sh.1 a i (some v), sh.2) Q) : Go md mc ms pc ls (vR v :: vI i :: vR a :: st) gi gl sh Q := by
  intro p l e R s m args below meth c Qf A D cy b n0 ad0 MC MS X ad H locs cells slots lsA T
  have hr := g_unR (g_sh (g_st (g_st T.ok)))
  have hi := g_unI (g_sh (g_st T.ok))
  have he := g_ws_get (cy := cy) (ad := ad) (gi := gi) (gl := gl) hr.1 hr.2
  rw [g_cell_ref ha (by omega)] at he
  have hx := g_unR (g_sh T.ok)
  have hw := g_ws_get (cy := cy) (ad := ad) (gi := gi) (gl := gl) hx.1 hx.2
  rw [g_cell_obj hv (by rcases (show κ = 14 ∨ κ = 15 ∨ κ = 16 by omega) with rfl | rfl | rfl <;> decide)] at hw
  refine va_astq (r := (g_R (g_el κ), g_TT (g_el κ), g_nf (g_el κ))) X.1.1 X.1.2.1 T.mm.1 T.mm.2.1 T.mm.2.2.1 T.mm.2.2.2.1 a.toNat (κ - 10) v.toNat (g_el κ) he (g_ty_ref cy κ hk1 hk2) hw (g_cl _ (by rcases (show κ = 14 ∨ κ = 15 ∨ κ = 16 by omega) with rfl | rfl | rfl <;> decide)) (g_in h0 h1 hi.2) hd (fun H1 locs1 hP hD hS => ?_)
  have e9 : (g_ws cy ad gi gl sh).set a.toNat (ad a, .inl (cy κ, sh.2.2.1 a, .inr (.inr (.inr (.inr (va_up (fun j => (sh.1 a (j : Int)).map ad) (Int32.ofInt i).toNatClampNeg (some (ad v)))))))) = g_ws cy ad gi gl (g_up sh.1 a i (some v), sh.2) := g_ws_set hr.1 (by
    rw [g_cell_ref (sh := (g_up sh.1 a i (some v), sh.2)) ha (by omega)]
    have : (fun j : Nat => (g_up sh.1 a i (some v) a (j : Int)).map ad) = va_up (fun j => (sh.1 a (j : Int)).map ad) (Int32.ofInt i).toNatClampNeg (some (ad v)) := by
      funext j
      have hc := g_clN h0 hi.2
      unfold va_up
      by_cases hj : j = (Int32.ofInt i).toNatClampNeg
      · subst hj; rw [if_pos rfl, hc, g_up_at]; rfl
      · rw [if_neg hj, g_up_ne (by omega)]
    dsimp only
    rw [this]) (fun i' hi' => g_cell_congr rfl rfl (g_up_row hi'))
  rw [e9] at hP hD
  exact h p l e R s m args below meth c Qf A D cy b n0 ad0 MC MS X ad H1 locs1 cells slots lsA (T.mem ⟨T.mm.1, hP, hD, hS, T.mm.2.2.2.2.upR hx⟩ (g_st (g_st (g_st T.ok))))
theorem g_return (hd : decode md.2.1 pc = .ok (.return_, 1)) (hr : md.2.2.2.1 = none) (hq : Q none gi gl sh)  : Go md mc ms pc ls [] gi gl sh Q := by
  intro p l e R s m args below meth c Qf A D cy b n0 ad0 MC MS X ad H locs cells slots lsA T
  exact X.2.2.2 none gi gl sh ad H locs cells slots pc lsA hq T.1.1 T.1.2 T.mm (by have := T.2.1.1; omega) (by have := T.2.1.2; omega) (And.intro hr hd) (fun v hv => by cases hv)
theorem g_ireturnT {x : Int} (hd : decode md.2.1 pc = .ok (.ireturn, 1)) (ty : FieldType) (hr : md.2.2.2.1 = some ty) (hn : narrow ty (.int (Int32.ofInt x)) = .int (Int32.ofInt x)) (hq : Q (some (vI x)) gi gl sh)  : Go md mc ms pc ls [vI x] gi gl sh Q := by
  intro p l e R s m args below meth c Qf A D cy b n0 ad0 MC MS X ad H locs cells slots lsA T
  exact X.2.2.2 (some (vI x)) gi gl sh ad H locs cells slots pc lsA hq T.1.1 T.1.2 T.mm (by have := T.2.1.1; omega) (by have := T.2.1.2; omega) (And.intro ⟨ty, hr, hn⟩ hd) (fun v hv => by cases hv; exact g_sh T.ok)
theorem g_ireturn {x : Int} (hd : decode md.2.1 pc = .ok (.ireturn, 1)) (hr : md.2.2.2.1 = some .int) (hq : Q (some (vI x)) gi gl sh) : Go md mc ms pc ls [vI x] gi gl sh Q := g_ireturnT hd .int hr rfl hq
theorem g_zreturn {x : Int} (hd : decode md.2.1 pc = .ok (.ireturn, 1)) (hr : md.2.2.2.1 = some .boolean) (hx : x = 0 ∨ x = 1) (hq : Q (some (vI x)) gi gl sh) : Go md mc ms pc ls [vI x] gi gl sh Q := g_ireturnT hd .boolean hr (by rcases hx with rfl | rfl <;> decide) hq
theorem g_creturn {x : Int} (hd : decode md.2.1 pc = .ok (.ireturn, 1)) (hr : md.2.2.2.1 = some .char) (h0 : 0 ≤ x) (h1 : x ≤ 65535) (hq : Q (some (vI x)) gi gl sh) : Go md mc ms pc ls [vI x] gi gl sh Q := g_ireturnT hd .char hr (by obtain ⟨a, rfl⟩ := g_nat h0; rw [g_nI]; exact (pk_charN (by omega)).1) hq
theorem g_lreturn {x : Int} (hd : decode md.2.1 pc = .ok (.lreturn, 1)) (hr : md.2.2.2.1 = some .long) (hq : Q (some (vL x)) gi gl sh)  : Go md mc ms pc ls [vL x] gi gl sh Q := by
  intro p l e R s m args below meth c Qf A D cy b n0 ad0 MC MS X ad H locs cells slots lsA T
  exact X.2.2.2 (some (vL x)) gi gl sh ad H locs cells slots pc lsA hq T.1.1 T.1.2 T.mm (by have := T.2.1.1; omega) (by have := T.2.1.2; omega) (And.intro hr hd) (fun v hv => by cases hv; exact g_sh T.ok)
theorem g_tableIn {dflt lo hi : Int} {offs : Array Int} {len : Nat} {x off : Int} (tgt : Nat) (hd : decode md.2.1 pc = .ok (.tableswitch dflt lo hi offs, len)) (h1 : lo ≤ x) (h2 : x ≤ hi) (ho : offs[(x - lo).toNat]? = some off) (ht : (pc : Int) + off = (tgt : Int)) (h : Go md mc ms tgt ls st gi gl sh Q) : Go md mc ms pc ls (vI x :: st) gi gl sh Q := by
  intro p l e R s m args below meth c Qf A D cy b n0 ad0 MC MS X ad H locs cells slots lsA T
  have hx := g_i32 (g_unI (g_sh T.ok))
  exact lv_tableIn X.1.1 X.1.2.1 hd (by rw [hx]; omega) (by rw [hx]; omega) (by rw [hx]; exact ho) ht (h p l e R s m args below meth c Qf A D cy b n0 ad0 MC MS X ad H locs cells slots lsA (T.stk (g_st T.ok)))
theorem g_tableOut {dflt lo hi : Int} {offs : Array Int} {len : Nat} {x : Int} (tgt : Nat) (hd : decode md.2.1 pc = .ok (.tableswitch dflt lo hi offs, len)) (h1 : x < lo ∨ hi < x) (ht : (pc : Int) + dflt = (tgt : Int)) (h : Go md mc ms tgt ls st gi gl sh Q) : Go md mc ms pc ls (vI x :: st) gi gl sh Q := by
  intro p l e R s m args below meth c Qf A D cy b n0 ad0 MC MS X ad H locs cells slots lsA T
  have hx := g_i32 (g_unI (g_sh T.ok))
  exact lv_tableOut X.1.1 X.1.2.1 hd (by rw [hx]; exact h1) ht (h p l e R s m args below meth c Qf A D cy b n0 ad0 MC MS X ad H locs cells slots lsA (T.stk (g_st T.ok)))
theorem g_lookup {dflt : Int} {ps : Array (Int × Int)} {len : Nat} {x off : Int} (tgt : Nat) (hd : decode md.2.1 pc = .ok (.lookupswitch dflt ps, len)) (hp : (ps.toList.zip (ps.toList.drop 1)).all (fun (a, next) => a.1 < next.1) = true) (ho : Op.lookupswitch.offset ps.toList dflt x = off) (ht : (pc : Int) + off = (tgt : Int)) (h : Go md mc ms tgt ls st gi gl sh Q) : Go md mc ms pc ls (vI x :: st) gi gl sh Q := by
  intro p l e R s m args below meth c Qf A D cy b n0 ad0 MC MS X ad H locs cells slots lsA T
  have hx := g_i32 (g_unI (g_sh T.ok))
  exact lv_lookup X.1.1 X.1.2.1 hd hp (by rw [hx]; exact ho) ht (h p l e R s m args below meth c Qf A D cy b n0 ad0 MC MS X ad H locs cells slots lsA (T.stk (g_st T.ok)))
theorem g_sload {L : Nat} {xs : Nat → Int32} {i : Int} (hd : decode md.2.1 pc = .ok (.iaload, 1)) (hs : md.2.2.2.2.2.2 = some (L, xs)) (h0 : 0 ≤ i) (h1 : i < (L : Int)) (h : Go md mc ms (pc + 1) ls (vI ((xs i.toNat).toInt) :: st) gi gl sh Q) : Go md mc ms pc ls (vI i :: vS :: st) gi gl sh Q := by
  intro p l e R s m args below meth c Qf A D cy b n0 ad0 MC MS X ad H locs cells slots lsA T
  have hi := g_unI (g_sh T.ok)
  obtain ⟨hX, hb, hA⟩ := X.1.2.2.2.2.2.2.2.2.2.2.2.2 L xs hs
  have k := h p l e R s m args below meth c Qf A D cy b n0 ad0 MC MS X ad H locs cells slots lsA (T.stk (g_sc (g_okI (g_rgI _).1 (g_rgI _).2) (g_st (g_st T.ok))))
  refine va_sld X.1.1 X.1.2.1 hX hb hA T.mm.2.2.2.1 (g_in h0 h1 hi.2) hd ?_
  have e9 : (Int32.ofInt i).toNatClampNeg = i.toNat := by have := g_clN h0 hi.2; omega
  rw [e9, ← g_ofI (xs i.toNat)]
  exact k
theorem g_slen {L : Nat} {xs : Nat → Int32} (hd : decode md.2.1 pc = .ok (.arraylength, 1)) (hs : md.2.2.2.2.2.2 = some (L, xs)) (hb : L ≤ 2147483647) (h : Go md mc ms (pc + 1) ls (vI (L : Int) :: st) gi gl sh Q) : Go md mc ms pc ls (vS :: st) gi gl sh Q := by
  intro p l e R s m args below meth c Qf A D cy b n0 ad0 MC MS X ad H locs cells slots lsA T
  obtain ⟨hX, hb2, hA⟩ := X.1.2.2.2.2.2.2.2.2.2.2.2.2 L xs hs
  have k := h p l e R s m args below meth c Qf A D cy b n0 ad0 MC MS X ad H locs cells slots lsA (T.stk (g_sc (g_okI (by omega) (by omega)) (g_st T.ok)))
  refine va_slen X.1.1 X.1.2.1 hX hb2 hA T.mm.2.2.2.1 hd ?_
  rw [← Int32.ofInt_eq_ofNat]
  exact k
end RULES3
end
section
theorem g_ft_ok : ∀ ci : Nat, ci < 10 → ∀ k : Nat, k < g_nf ci → g_ft ci k = .int ∨ g_isR (g_ft ci k) = true := by
  have h : (List.range 10).all (fun ci => (List.range (g_nf ci)).all (fun k => decide (g_ft ci k = .int) || g_isR (g_ft ci k))) = true := by decide +kernel
  intro ci hc k hk
  have h1 := List.all_eq_true.mp (List.all_eq_true.mp h ci (List.mem_range.mpr hc)) k (List.mem_range.mpr hk)
  rcases Bool.or_eq_true _ _ ▸ h1 with h2 | h2
  · exact Or.inl (of_decide_eq_true h2)
  · exact Or.inr h2
theorem g_cell_ext {cy : Nat → ClassId} {ad ad' : Int → Nat} {gi gl gi' gl' : gF} {sh sh' : gSh} {i : Int} (h1 : gi' i = gi i) (h2 : gl' i = gl i) (h3 : sh'.1 i = sh.1 i) (h4 : sh'.2.1 i = sh.2.1 i) (h5 : sh'.2.2.1 i = sh.2.2.1 i) (h6 : ∀ k r : Int, sh.1 i k = some r → ad' r = ad r) : g_cell cy ad' gi' gl' sh' i = g_cell cy ad gi gl sh i := by
  have hm : ∀ k : Int, (sh.1 i k).map ad' = (sh.1 i k).map ad := fun k => by
    cases hk : sh.1 i k with
    | none => rfl
    | some r => simp [h6 k r hk]
  simp [g_cell, g_fs, g_fv, h1, h2, h3, h4, h5, hm]
/-- one cell more: its kind, its length -/
def g_nsh (sh : gSh) (κ len : Nat) : gSh := (g_row sh.1 (sh.2.2.2 : Int) (fun _ => none), g_row sh.2.1 (sh.2.2.2 : Int) κ, g_row sh.2.2.1 (sh.2.2.2 : Int) len, sh.2.2.2 + 1)
theorem g_ws_push {cy : Nat → ClassId} {ad : Int → Nat} {gi gl : gF} {sh : gSh} {κ len q : Nat} (hwf : g_wf gi gl sh) : g_ws cy (g_row ad (sh.2.2.2 : Int) q) (g_row gi (sh.2.2.2 : Int) (fun _ => 0)) (g_row gl (sh.2.2.2 : Int) (fun _ => 0)) (g_nsh sh κ len) = g_ws cy ad gi gl sh ++ [(q, g_cell cy (g_row ad (sh.2.2.2 : Int) q) (g_row gi (sh.2.2.2 : Int) (fun _ => 0)) (g_row gl (sh.2.2.2 : Int) (fun _ => 0)) (g_nsh sh κ len) (sh.2.2.2 : Int))] := by
  show List.map _ (List.range (sh.2.2.2 + 1)) = _
  rw [List.range_succ, List.map_append]
  congr 1
  · refine List.map_congr_left (fun i hi => ?_)
    have hlt : i < sh.2.2.2 := List.mem_range.mp hi
    have hne : (i : Int) ≠ (sh.2.2.2 : Int) := by omega
    refine Prod.ext (g_row_ne hne) (g_cell_ext (g_row_ne hne) (g_row_ne hne) (g_row_ne hne) (g_row_ne hne) (g_row_ne hne) (fun k r hr => g_row_ne ?_))
    have := (hwf.2.2 _ _ _ hr).2
    omega
  · simp [g_row]
theorem g_rn_row {b q n : Nat} {ad : Int → Nat} {v : gV} (h : g_ok n v) : g_rn b (g_row ad (n : Int) q) v = g_rn b ad v := by
  rcases v with x | x | x | x
  · rfl
  · rfl
  · show Value.ref _ = Value.ref _
    rw [g_row_ne (by have := (g_unR h).2; omega)]
  · rfl
theorem g_ok_mono {n n' : Nat} (h : n ≤ n') {v : gV} (hv : g_ok n v) : g_ok n' v := by
  rcases v with x | x | x | x
  · exact hv
  · exact hv
  · exact g_okR (g_unR hv).1 (by have := (g_unR hv).2; omega)
  · trivial
section ALLOC
variable {md : gMD} {mc ms pc : Nat} {ls : List (Option gV)} {st st' : List gV} {gi gl : gF} {sh : gSh} {Q : gQ} {s : State} {A : Nat → Prop} {D : va_G} {cy : Nat → ClassId} {b n0 : Nat} {ad0 : Int → Nat} {MC MS : Nat} {ad : Int → Nat} {H : Heap} {locs : List Loc} {cells slots : Nat} {lsA : Array Slot}
theorem g_T.alloc {k κ len q : Nat} {H1 : Heap} (T : g_T md (mc + 1) (ms + k) ls st' gi gl sh s A D cy b n0 ad0 MC MS ad H locs cells slots lsA) (hst : ∀ v ∈ st, g_ok sh.2.2.2 v)
    (hP : va_P D vwCl (g_ws cy ad gi gl sh ++ [(q, g_cell cy (g_row ad (sh.2.2.2 : Int) q) (g_row gi (sh.2.2.2 : Int) (fun _ => 0)) (g_row gl (sh.2.2.2 : Int) (fun _ => 0)) (g_nsh sh κ len) (sh.2.2.2 : Int))]) H1)
    (hD : va_D A (g_ws cy ad gi gl sh ++ [(q, g_cell cy (g_row ad (sh.2.2.2 : Int) q) (g_row gi (sh.2.2.2 : Int) (fun _ => 0)) (g_row gl (sh.2.2.2 : Int) (fun _ => 0)) (g_nsh sh κ len) (sh.2.2.2 : Int))])) (hS : va_S A s.heap H1 locs) :
    g_T md mc ms ls (vR (sh.2.2.2 : Int) :: st) (g_row gi (sh.2.2.2 : Int) (fun _ => 0)) (g_row gl (sh.2.2.2 : Int) (fun _ => 0)) (g_nsh sh κ len) s A D cy b n0 ad0 MC MS (g_row ad (sh.2.2.2 : Int) q) H1 locs (cells + 1) (slots + k) lsA := by
  have hwf := T.mm.2.2.2.2
  rw [← g_ws_push hwf] at hP hD
  refine ⟨⟨Nat.le_succ_of_le T.1.1, fun a h0 h1 => ?_⟩, ⟨by have := T.2.1.1; omega, by have := T.2.1.2; omega⟩, ⟨T.mm.1, hP, hD, hS, ⟨fun a k => ?_, fun a k => ?_, fun a k r hr => ?_⟩⟩, ⟨T.lo.1, T.lo.2.1, T.lo.2.2.1, fun i v hi => ?_⟩, g_sc (g_okR (by omega) (by show (sh.2.2.2 : Int) < ((sh.2.2.2 + 1 : Nat) : Int); omega)) (fun v hv => g_ok_mono (Nat.le_succ _) (hst v hv))⟩
  · rw [g_row_ne (by have := T.1.1; omega)]; exact T.1.2 a h0 h1
  · unfold g_row; split
    · exact (by decide : (-2147483648 : Int) ≤ 0 ∧ (0 : Int) ≤ 2147483647)
    · exact hwf.1 a k
  · unfold g_row; split
    · exact (by decide : (-9223372036854775808 : Int) ≤ 0 ∧ (0 : Int) ≤ 9223372036854775807)
    · exact hwf.2.1 a k
  · have hr : g_row sh.1 (sh.2.2.2 : Int) (fun _ => none) a k = some r := hr
    unfold g_row at hr
    split at hr
    · cases hr
    · have := hwf.2.2 a k r hr
      exact ⟨this.1, by show r < ((sh.2.2.2 + 1 : Nat) : Int); omega⟩
  · obtain ⟨h1, h2⟩ := T.lo.2.2.2 i v hi
    exact ⟨by rw [g_rn_row h2]; exact h1, g_ok_mono (Nat.le_succ _) h2⟩
end ALLOC
section RULES4
variable {md : gMD} {mc ms pc : Nat} {ls : List (Option gV)} {st : List gV} {gi gl : gF} {sh : gSh} {Q : gQ}
theorem g_new {idx : Nat} (ci : Nat) (hd : decode md.2.1 pc = .ok (.new idx, 3)) (hcl : Cond.classLink md.1 idx (g_R ci) ∈ lw_good) (hc : ci < 10)
    (h : Go md mc ms (pc + 3) ls (vR (sh.2.2.2 : Int) :: st) (g_row gi (sh.2.2.2 : Int) (fun _ => 0)) (g_row gl (sh.2.2.2 : Int) (fun _ => 0)) (g_nsh sh ci 0) Q) : Go md (mc + 1) (ms + g_nf ci) pc ls st gi gl sh Q := by
  intro p l e R s m args below meth c Qf A D cy b n0 ad0 MC MS X ad H locs cells slots lsA T
  have hfs : ∀ q : Nat, g_cell cy (g_row ad (sh.2.2.2 : Int) q) (g_row gi (sh.2.2.2 : Int) (fun _ => 0)) (g_row gl (sh.2.2.2 : Int) (fun _ => 0)) (g_nsh sh ci 0) (sh.2.2.2 : Int) = .inr (ci, g_fs (fun _ => 0) (fun _ _ => 0) (fun _ _ => none) ci 0) := fun q => by
    rw [g_cell_obj (sh := g_nsh sh ci 0) (by simp [g_nsh, g_row]) hc]
    congr 2
    refine List.map_congr_left (fun k _ => ?_)
    have e1 : g_row gi (sh.2.2.2 : Int) (fun _ => 0) (sh.2.2.2 : Int) (k : Int) = 0 := by simp [g_row]
    have e2 : (g_nsh sh ci 0).1 (sh.2.2.2 : Int) (k : Int) = none := by simp [g_nsh, g_row]
    rw [e1, e2]
    cases g_ft ci k <;> rfl
  have hR1 := T.2.1.1
  have hR2 := T.2.1.2
  have hR3 := X.2.1
  have hR4 := X.2.2.1
  refine va_new (D := D) (cl := vwCl) (ci := ci) (fs := g_fs (fun _ => 0) (fun _ _ => 0) (fun _ _ => none) ci 0) (C := g_R ci) (T := g_TT ci) (N := g_nf ci) X.1.1 X.1.2.1 X.1.2.2.2.2.1 (g_inn ci hc) (g_ft ci) (g_tyk ci hc) X.1.2.2.2.1 (X.1.2.2.2.2.1 _ hcl) (X.1.2.2.2.2.1 _ (g_ins ci hc).1) (X.1.2.2.2.2.1 _ (g_ins ci hc).2) T.mm.1 T.mm.2.1 T.mm.2.2.1 T.mm.2.2.2.1 X.1.2.2.2.2.2.2.2.2.2.2.2.1 (g_cl ci hc) (fun j hj => ?_) (by omega) (by omega) hd (fun q H1 hP hD hS => ?_)
  · have e1 : (g_fs (fun _ => 0) (fun _ _ => 0) (fun _ _ => none) ci 0)[j]? = some _ := g_fs_get hj
    rw [vp_V, List.getD, e1]
    rcases g_ft_ok ci hc j hj with h9 | h9
    · rw [h9]; rfl
    · show defaultValue (g_ft ci j) = g_fv (fun _ => 0) (g_ft ci j) 0 none
      rw [g_isR_fv h9]
      revert h9
      cases g_ft ci j <;> intro h9 <;> first | rfl | cases h9
  · rw [← hfs q] at hP hD
    have k := h p l e R s m args below meth c Qf A D cy b n0 ad0 MC MS X (g_row ad (sh.2.2.2 : Int) q) H1 locs (cells + 1) (slots + g_nf ci) lsA (T.alloc (κ := ci) (len := 0) T.ok hP hD hS)
    have e1 : st.map (g_rn b (g_row ad (sh.2.2.2 : Int) q)) = st.map (g_rn b ad) := List.map_congr_left (fun v hv => g_rn_row (T.ok v hv))
    rw [List.map_cons, e1] at k
    have e2 : g_rn b (g_row ad (sh.2.2.2 : Int) q) (vR (sh.2.2.2 : Int)) = .ref q := by show Value.ref _ = _; simp [g_row]
    rw [e2] at k
    exact k
theorem g_newarr (at_ : ArrayType) (ty : FieldType) (κ : Nat) {N : Int} (a0 : Nat → vp_A) (hat : newarray.typeOf at_ = ty) (hty : ∀ cy : Nat → ClassId, (g_tys cy)[κ - 10]? = some (cy κ, ty)) (hra : ∀ (U : State) (x : ClassId), va_RA U x ty → U.vm.findClass ("[" ++ ty.toString) = some x) (ha0 : ∀ (n : Nat) (cA : ClassId), vp_cell cA (a0 n) = arrV cA n (fun _ => defaultValue ty))
    (hcell : ∀ (cy : Nat → ClassId) (ad : Int → Nat) (gi gl : gF) (sh : gSh) (n : Nat) (z : Int), sh.2.1 z = κ → sh.2.2.1 z = n → (∀ j, gi z j = 0) → (∀ j, gl z j = 0) → g_cell cy ad gi gl sh z = .inl (cy κ, a0 n)) (hcb : componentBytes ty ≤ 8)
    (hw : Cond.arrayClass ty ∈ lw_good) (hd : decode md.2.1 pc = .ok (.newarray at_, 2)) (h0 : 0 ≤ N) (h1 : N ≤ 2000)
    (h : Go md mc ms (pc + 2) ls (vR (sh.2.2.2 : Int) :: st) (g_row gi (sh.2.2.2 : Int) (fun _ => 0)) (g_row gl (sh.2.2.2 : Int) (fun _ => 0)) (g_nsh sh κ N.toNat) Q) : Go md (mc + 1) (ms + N.toNat) pc ls (vI N :: st) gi gl sh Q := by
  intro p l e R s m args below meth c Qf A D cy b n0 ad0 MC MS X ad H locs cells slots lsA T
  subst hat
  have hR1 := T.2.1.1
  have hR2 := T.2.1.2
  have hR3 := X.2.1
  have hR4 := X.2.2.1
  have hN : ((Int32.ofInt N).toNatClampNeg : Int) = N := g_clN h0 (by omega)
  have hneg : ¬ Int32.ofInt N < 0 := fun h9 => by
    have := (g_lt (x := N) (y := 0) ⟨by omega, by omega⟩ (by decide)).mp h9
    omega
  have hby : N.toNat * componentBytes (newarray.typeOf at_) ≤ 536870912 := Nat.le_trans (Nat.mul_le_mul (show N.toNat ≤ 2000 by omega) hcb) (by decide)
  refine va_newa (D := D) (cl := vwCl) (atype := at_) (a0 := a0 N.toNat) (N' := N.toNat) X.1.1 X.1.2.1 (X.1.2.2.2.2.1 _ hw) rfl T.mm.1 T.mm.2.1 T.mm.2.2.1 T.mm.2.2.2.1 X.1.2.2.2.2.2.2.2.2.2.2.2.1 (ha0 N.toNat) hneg (by omega) hby (by omega) (by omega) hd (fun q cA H1 hK hP hD hS => ?_)
  have hc1 := hra s _ (T.mm.1.2 _ _ (hty cy)).2
  have hc2 := hra s cA (hK.2 (g_tys cy).length (cA, newarray.typeOf at_) (by simp)).2
  have hcA : cA = cy κ := Option.some.inj (hc2.symm.trans hc1)
  subst hcA
  rw [← hcell cy (g_row ad (sh.2.2.2 : Int) q) (g_row gi (sh.2.2.2 : Int) (fun _ => 0)) (g_row gl (sh.2.2.2 : Int) (fun _ => 0)) (g_nsh sh κ N.toNat) N.toNat (sh.2.2.2 : Int) (by simp [g_nsh, g_row]) (by simp [g_nsh, g_row]) (fun j => by simp [g_row]) (fun j => by simp [g_row])] at hP hD
  have k := h p l e R s m args below meth c Qf A D cy b n0 ad0 MC MS X (g_row ad (sh.2.2.2 : Int) q) H1 locs (cells + 1) (slots + N.toNat) lsA (T.alloc (κ := κ) (len := N.toNat) (g_st T.ok) hP hD hS)
  have e1 : st.map (g_rn b (g_row ad (sh.2.2.2 : Int) q)) = st.map (g_rn b ad) := List.map_congr_left (fun v hv => g_rn_row (g_st T.ok v hv))
  rw [List.map_cons, e1] at k
  have e2 : g_rn b (g_row ad (sh.2.2.2 : Int) q) (vR (sh.2.2.2 : Int)) = .ref q := by show Value.ref _ = _; simp [g_row]
  rw [e2] at k
  exact k
theorem g_cell_i0 {cy : Nat → ClassId} {ad : Int → Nat} {gi gl : gF} {sh : gSh} {n : Nat} {z : Int} {κ : Nat} (h1 : ¬ κ < 10) (h2 : κ ≠ 12) (h3 : κ < 14) (hk : sh.2.1 z = κ) (hn : sh.2.2.1 z = n) (hi : ∀ j, gi z j = 0) : g_cell cy ad gi gl sh z = .inl (cy κ, n, .inl (fun _ => (0 : Int32))) := by
  rw [g_cell_int hk h1 h2 h3, hn]
  simp only [hi]
  rfl
theorem g_newI {N : Int} (hd : decode md.2.1 pc = .ok (.newarray .int, 2)) (h0 : 0 ≤ N) (h1 : N ≤ 2000) (h : Go md mc ms (pc + 2) ls (vR (sh.2.2.2 : Int) :: st) (g_row gi (sh.2.2.2 : Int) (fun _ => 0)) (g_row gl (sh.2.2.2 : Int) (fun _ => 0)) (g_nsh sh 11 N.toNat) Q) : Go md (mc + 1) (ms + N.toNat) pc ls (vI N :: st) gi gl sh Q :=
  g_newarr .int .int 11 (fun n => (n, .inl (fun _ => (0 : Int32)))) rfl (fun _ => rfl) (fun _ _ h => h) (fun _ _ => rfl) (fun _ _ _ _ _ _ _ hk hn hi _ => g_cell_i0 (by decide) (by decide) (by decide) hk hn hi) (by decide) wa_int hd h0 h1 h
theorem g_newZ {N : Int} (hd : decode md.2.1 pc = .ok (.newarray .boolean, 2)) (h0 : 0 ≤ N) (h1 : N ≤ 2000) (h : Go md mc ms (pc + 2) ls (vR (sh.2.2.2 : Int) :: st) (g_row gi (sh.2.2.2 : Int) (fun _ => 0)) (g_row gl (sh.2.2.2 : Int) (fun _ => 0)) (g_nsh sh 13 N.toNat) Q) : Go md (mc + 1) (ms + N.toNat) pc ls (vI N :: st) gi gl sh Q :=
  g_newarr .boolean .boolean 13 (fun n => (n, .inl (fun _ => (0 : Int32)))) rfl (fun _ => rfl) (fun _ _ h => h) (fun _ _ => rfl) (fun _ _ _ _ _ _ _ hk hn hi _ => g_cell_i0 (by decide) (by decide) (by decide) hk hn hi) (by decide) wa_boolean hd h0 h1 h
theorem g_newC {N : Int} (hd : decode md.2.1 pc = .ok (.newarray .char, 2)) (h0 : 0 ≤ N) (h1 : N ≤ 2000) (h : Go md mc ms (pc + 2) ls (vR (sh.2.2.2 : Int) :: st) (g_row gi (sh.2.2.2 : Int) (fun _ => 0)) (g_row gl (sh.2.2.2 : Int) (fun _ => 0)) (g_nsh sh 10 N.toNat) Q) : Go md (mc + 1) (ms + N.toNat) pc ls (vI N :: st) gi gl sh Q :=
  g_newarr .char .char 10 (fun n => (n, .inl (fun _ => (0 : Int32)))) rfl (fun _ => rfl) (fun _ _ h => h) (fun _ _ => rfl) (fun _ _ _ _ _ _ _ hk hn hi _ => g_cell_i0 (by decide) (by decide) (by decide) hk hn hi) (by decide) wa_char hd h0 h1 h
theorem g_newL {N : Int} (hd : decode md.2.1 pc = .ok (.newarray .long, 2)) (h0 : 0 ≤ N) (h1 : N ≤ 2000) (h : Go md mc ms (pc + 2) ls (vR (sh.2.2.2 : Int) :: st) (g_row gi (sh.2.2.2 : Int) (fun _ => 0)) (g_row gl (sh.2.2.2 : Int) (fun _ => 0)) (g_nsh sh 12 N.toNat) Q) : Go md (mc + 1) (ms + N.toNat) pc ls (vI N :: st) gi gl sh Q :=
  g_newarr .long .long 12 (fun n => (n, .inr (.inl (fun _ => (0 : Int64))))) rfl (fun _ => rfl) (fun _ _ h => h) (fun _ _ => rfl) (fun _ _ _ _ _ _ _ hk hn _ hl => by rw [g_cell_long hk, hn]; simp only [hl]; rfl) (by decide) wa_long hd h0 h1 h
theorem g_anew {idx : Nat} (κ : Nat) {N : Int} (hd : decode md.2.1 pc = .ok (.anewarray idx, 3)) (hcl : Cond.classLink md.1 idx (g_R (g_el κ)) ∈ lw_good) (hk1 : 14 ≤ κ) (hk2 : κ ≤ 16) (hov : g_R (g_el κ) ∈ lw_over) (h0 : 0 ≤ N) (h1 : N ≤ 2000)
    (h : Go md mc ms (pc + 3) ls (vR (sh.2.2.2 : Int) :: st) (g_row gi (sh.2.2.2 : Int) (fun _ => 0)) (g_row gl (sh.2.2.2 : Int) (fun _ => 0)) (g_nsh sh κ N.toNat) Q) : Go md (mc + 1) (ms + N.toNat) pc ls (vI N :: st) gi gl sh Q := by
  intro p l e R s m args below meth c Qf A D cy b n0 ad0 MC MS X ad H locs cells slots lsA T
  have hR1 := T.2.1.1
  have hR2 := T.2.1.2
  have hR3 := X.2.1
  have hR4 := X.2.2.1
  have hN : ((Int32.ofInt N).toNatClampNeg : Int) = N := g_clN h0 (by omega)
  have hneg : ¬ Int32.ofInt N < 0 := fun h9 => by
    have := (g_lt (x := N) (y := 0) ⟨by omega, by omega⟩ (by decide)).mp h9
    omega
  refine va_newq (D := D) (cl := vwCl) (C := g_R (g_el κ)) (N' := N.toNat) X.1.1 X.1.2.1 X.1.2.2.2.1 (X.1.2.2.2.2.1 _ hcl) (X.1.2.2.2.2.2.2.1 _ hov) T.mm.1 T.mm.2.1 T.mm.2.2.1 T.mm.2.2.2.1 X.1.2.2.2.2.2.2.2.2.2.2.2.1 hneg (by omega) (by omega) (by omega) (by omega) hd (fun q cA H1 hK hP hD hS => ?_)
  obtain ⟨_, _, _, _, _, hc1⟩ := (T.mm.1.2 _ _ (g_ty_ref cy κ hk1 hk2)).2
  obtain ⟨_, _, _, _, _, hc2⟩ := (hK.2 (g_tys cy).length (cA, .object (g_R (g_el κ))) (by simp)).2
  have hcA : cA = cy κ := Option.some.inj (hc2.symm.trans hc1)
  subst hcA
  have hcell : g_cell cy (g_row ad (sh.2.2.2 : Int) q) (g_row gi (sh.2.2.2 : Int) (fun _ => 0)) (g_row gl (sh.2.2.2 : Int) (fun _ => 0)) (g_nsh sh κ N.toNat) (sh.2.2.2 : Int) = .inl (cy κ, N.toNat, .inr (.inr (.inr (.inr (fun _ => none))))) := by
    rw [g_cell_ref (sh := g_nsh sh κ N.toNat) (κ := κ) (by simp [g_nsh, g_row]) (by omega)]
    simp [g_nsh, g_row]
  rw [← hcell] at hP hD
  have k := h p l e R s m args below meth c Qf A D cy b n0 ad0 MC MS X (g_row ad (sh.2.2.2 : Int) q) H1 locs (cells + 1) (slots + N.toNat) lsA (T.alloc (κ := κ) (len := N.toNat) (g_st T.ok) hP hD hS)
  have e1 : st.map (g_rn b (g_row ad (sh.2.2.2 : Int) q)) = st.map (g_rn b ad) := List.map_congr_left (fun v hv => g_rn_row (g_st T.ok v hv))
  rw [List.map_cons, e1] at k
  have e2 : g_rn b (g_row ad (sh.2.2.2 : Int) q) (vR (sh.2.2.2 : Int)) = .ref q := by show Value.ref _ = _; simp [g_row]
  rw [e2] at k
  exact k
end RULES4
end
section
theorem g_catS (b : Nat) (ad : Int → Nat) (st : List gV) : ((st.map (g_rn b ad)).map fun v => v.category).sum ≤ 2 * st.length := by
  induction st with
  | nil => simp
  | cons v st ih =>
    have : (g_rn b ad v).category ≤ 2 := by rcases v with x | x | x | x <;> simp [g_rn, Value.category]
    simp only [List.map_cons, List.sum_cons, List.length_cons]
    omega
/-- System.arraycopy -/
def g_cp (f : gF) (a0 a sp dp n : Int) : gF := fun b j => if b = a ∧ dp ≤ j ∧ j < dp + n then f a0 (sp + (j - dp)) else f b j
theorem g_cp_row {f : gF} {a0 a sp dp n b : Int} (h : b ≠ a) : g_cp f a0 a sp dp n b = f b := by funext j; simp [g_cp, h]
section RULES5
variable {md : gMD} {mc ms pc : Nat} {ls : List (Option gV)} {st : List gV} {gi gl : gF} {sh : gSh} {Q : gQ}
theorem g_objInit {idx : Nat} {a : Int} (hd : decode md.2.1 pc = .ok (.invokespecial idx, 3)) (hl : Cond.methodLink md.1 idx objectInit ∈ lw_good) (hs : st.length ≤ 4) (h : Go md mc ms (pc + 3) ls st gi gl sh Q) : Go md mc ms pc ls (vR a :: st) gi gl sh Q := by
  intro p l e R s m args below meth c Qf A D cy b n0 ad0 MC MS X ad H locs cells slots lsA T
  have hW := X.1.2.2.2.2.1
  have hlev : 1 ≤ md.2.2.2.2.1 := X.1.2.2.2.2.2.2.2.2.2.1
  have hF := X.1.2.2.2.2.2.2.2.1
  have hLo := X.1.2.2.2.2.2.2.2.2.1
  have hc := g_catS b ad st
  refine W.objInit (a := ad a) (rest := st.map (g_rn b ad)) X.1.1 X.1.2.1 X.1.2.2.2.1 (hW _ hl) (hW _ wo_inst) (hW _ wo_code) rfl (by rw [X.1.2.2.1]; exact T.lo.1) rfl hd (by omega) ?_ ?_
  · have := lv_room (m := m) (pc := pc) (ls := lsA) (rest := (vR a :: st).map (g_rn b ad)) (st := st.map (g_rn b ad)) (by omega)
    omega
  · exact W.eq (g2 := F0 m (pc + 3) lsA (st.map (g_rn b ad))) rfl (h p l e R s m args below meth c Qf A D cy b n0 ad0 MC MS X ad H locs cells slots lsA (T.stk (g_st T.ok)))
theorem g_max {idx : Nat} {x y : Int} (hd : decode md.2.1 pc = .ok (.invokestatic idx, 3)) (hl : Cond.methodLink md.1 idx Lib.Math.max.name ∈ lw_good) (hs : st.length ≤ 4) (h : Go md mc ms (pc + 3) ls (vI (max x y) :: st) gi gl sh Q) : Go md mc ms pc ls (vI y :: vI x :: st) gi gl sh Q := by
  intro p l e R s m args below meth c Qf A D cy b n0 ad0 MC MS X ad H locs cells slots lsA T
  have hW := X.1.2.2.2.2.1
  have hlev : 1 ≤ md.2.2.2.2.1 := X.1.2.2.2.2.2.2.2.2.2.1
  have hF := X.1.2.2.2.2.2.2.2.1
  have hLo := X.1.2.2.2.2.2.2.2.2.1
  have hc := g_catS b ad st
  have hy := g_unI (g_sh T.ok)
  have hx := g_unI (g_sh (g_st T.ok))
  have h1 := T.2.1.1
  have h2 := T.2.1.2
  have h3 := X.2.1
  have h4 := X.2.2.1
  have k := h p l e R s m args below meth c Qf A D cy b n0 ad0 MC MS X ad H locs cells slots lsA (T.stk (g_sc (g_okI (by omega) (by omega)) (g_st (g_st T.ok))))
  refine va_mmax X.1.1 X.1.2.1 (X.1.2.2.1.trans T.lo.1.symm) X.1.2.2.2.1 (hW _ hl) (hW _ wmax_stat) (hW _ wmath_init) (hW _ wmax_code) (by omega) (by omega) (by omega) (by omega) hd ?_
  have e9 : (if Int32.ofInt x < Int32.ofInt y then Int32.ofInt y else Int32.ofInt x) = Int32.ofInt (max x y) := by
    by_cases hxy : x < y
    · rw [if_pos ((g_lt hx hy).mpr hxy), Int.max_eq_right (by omega)]
    · rw [if_neg (fun q => hxy ((g_lt hx hy).mp q)), Int.max_eq_left (by omega)]
  rw [e9]
  exact k
theorem g_min {idx : Nat} {x y : Int} (hd : decode md.2.1 pc = .ok (.invokestatic idx, 3)) (hl : Cond.methodLink md.1 idx Lib.Math.min.name ∈ lw_good) (hs : st.length ≤ 4) (h : Go md mc ms (pc + 3) ls (vI (min x y) :: st) gi gl sh Q) : Go md mc ms pc ls (vI y :: vI x :: st) gi gl sh Q := by
  intro p l e R s m args below meth c Qf A D cy b n0 ad0 MC MS X ad H locs cells slots lsA T
  have hW := X.1.2.2.2.2.1
  have hlev : 1 ≤ md.2.2.2.2.1 := X.1.2.2.2.2.2.2.2.2.2.1
  have hF := X.1.2.2.2.2.2.2.2.1
  have hLo := X.1.2.2.2.2.2.2.2.2.1
  have hc := g_catS b ad st
  have hy := g_unI (g_sh T.ok)
  have hx := g_unI (g_sh (g_st T.ok))
  have h1 := T.2.1.1
  have h2 := T.2.1.2
  have h3 := X.2.1
  have h4 := X.2.2.1
  have k := h p l e R s m args below meth c Qf A D cy b n0 ad0 MC MS X ad H locs cells slots lsA (T.stk (g_sc (g_okI (by omega) (by omega)) (g_st (g_st T.ok))))
  refine va_mmin X.1.1 X.1.2.1 (X.1.2.2.1.trans T.lo.1.symm) X.1.2.2.2.1 (hW _ hl) (hW _ wmin_stat) (hW _ wmath_init) (hW _ wmin_code) (by omega) (by omega) (by omega) (by omega) hd ?_
  have e9 : (if Int32.ofInt y < Int32.ofInt x then Int32.ofInt y else Int32.ofInt x) = Int32.ofInt (min x y) := by
    by_cases hxy : y < x
    · rw [if_pos ((g_lt hy hx).mpr hxy), Int.min_eq_right (by omega)]
    · rw [if_neg (fun q => hxy ((g_lt hy hx).mp q)), Int.min_eq_left (by omega)]
  rw [e9]
  exact k
theorem g_copyI {idx : Nat} {a0 a sp dp n : Int} (hd : decode md.2.1 pc = .ok (.invokestatic idx, 3)) (hl : Cond.methodLink md.1 idx arraycopyName ∈ lw_good) (hs : st.length ≤ 4) (hk0 : sh.2.1 a0 = 11) (hk : sh.2.1 a = 11) (h0 : 0 ≤ sp) (h1 : 0 ≤ dp) (h2 : 0 ≤ n) (h3 : sp + n ≤ (sh.2.2.1 a0 : Int)) (h4 : dp + n ≤ (sh.2.2.1 a : Int))
    (h : Go md mc ms (pc + 3) ls st (g_cp gi a0 a sp dp n) gl sh Q) : Go md mc ms pc ls (vI n :: vI dp :: vR a :: vI sp :: vR a0 :: st) gi gl sh Q := by
  intro p l e R s m args below meth c Qf A D cy b n0 ad0 MC MS X ad H locs cells slots lsA T
  have hW := X.1.2.2.2.2.1
  have hlev : 1 ≤ md.2.2.2.2.1 := X.1.2.2.2.2.2.2.2.2.2.1
  have hF := X.1.2.2.2.2.2.2.2.1
  have hLo := X.1.2.2.2.2.2.2.2.2.1
  have hc := g_catS b ad st
  have o1 := g_unI (g_sh T.ok)
  have o2 := g_unI (g_sh (g_st T.ok))
  have o3 := g_unR (g_sh (g_st (g_st T.ok)))
  have o4 := g_unI (g_sh (g_st (g_st (g_st T.ok))))
  have o5 := g_unR (g_sh (g_st (g_st (g_st (g_st T.ok)))))
  have e0 := g_ws_get (cy := cy) (ad := ad) (gi := gi) (gl := gl) o5.1 o5.2
  have e1 := g_ws_get (cy := cy) (ad := ad) (gi := gi) (gl := gl) o3.1 o3.2
  rw [g_cell_int hk0 (by decide) (by decide) (by decide)] at e0
  rw [g_cell_int hk (by decide) (by decide) (by decide)] at e1
  have c1 := g_clN h0 o4.2
  have c2 := g_clN h1 o2.2
  have c3 := g_clN h2 o1.2
  have ng : ∀ z : Int, 0 ≤ z → -2147483648 ≤ z ∧ z ≤ 2147483647 → ¬ Int32.ofInt z < 0 := fun z h9 h8 h7 => by
    have := (g_lt (x := z) (y := 0) h8 (by decide)).mp h7
    omega
  have hnf : nativeFrameWords "java/lang/System" "arraycopy" 5 = 7 := by decide
  refine va_copyi (ty := .int) X.1.1 X.1.2.1 (X.1.2.2.1.trans T.lo.1.symm) X.1.2.2.2.1 (hW _ hl) (hW _ wcopy_nat) (hW _ wcopy_stat) (hW _ wsys_init) T.mm.1 T.mm.2.1 T.mm.2.2.1 T.mm.2.2.2.1 a0.toNat a.toNat 1 1 e0 e1 rfl rfl rfl (ng sp h0 o4) (ng dp h1 o2) (ng n h2 o1) (by omega) (by omega) (fun _ _ => rfl) (by omega) (by omega) hd (fun H1 locs1 hP hD hS => ?_)
  have e9 : (g_ws cy ad gi gl sh).set a.toNat (ad a, .inl (cy 11, sh.2.2.1 a, .inl (va_cpy (fun j => Int32.ofInt (gi a0 (j : Int))) (fun j => Int32.ofInt (gi a (j : Int))) (Int32.ofInt sp).toNatClampNeg (Int32.ofInt dp).toNatClampNeg (Int32.ofInt n).toNatClampNeg))) = g_ws cy ad (g_cp gi a0 a sp dp n) gl sh := g_ws_set (gr' := sh.1) o3.1 (by
    rw [g_cell_int (sh := (sh.1, sh.2)) hk (by decide) (by decide) (by decide)]
    have : (fun j : Nat => Int32.ofInt (g_cp gi a0 a sp dp n a (j : Int))) = va_cpy (fun j => Int32.ofInt (gi a0 (j : Int))) (fun j => Int32.ofInt (gi a (j : Int))) (Int32.ofInt sp).toNatClampNeg (Int32.ofInt dp).toNatClampNeg (Int32.ofInt n).toNatClampNeg := by
      funext j
      unfold g_cp va_cpy
      by_cases hj : dp ≤ (j : Int) ∧ (j : Int) < dp + n
      · rw [if_pos ⟨rfl, hj⟩, if_pos (by omega)]
        congr 2
        omega
      · rw [if_neg (fun q => hj q.2), if_neg (by omega)]
    rw [this]) (fun i' hi' => g_cell_congr (g_cp_row hi') rfl rfl)
  rw [e9] at hP hD
  exact h p l e R s m args below meth c Qf A D cy b n0 ad0 MC MS X ad H1 locs1 cells slots lsA (T.mem (gr' := sh.1) ⟨T.mm.1, hP, hD, hS, ⟨fun x y => by
    unfold g_cp
    split
    · exact T.mm.2.2.2.2.1 _ _
    · exact T.mm.2.2.2.2.1 _ _, T.mm.2.2.2.2.2⟩⟩ (g_st (g_st (g_st (g_st (g_st T.ok))))))
theorem g_copyL {idx : Nat} {a0 a sp dp n : Int} (hd : decode md.2.1 pc = .ok (.invokestatic idx, 3)) (hl : Cond.methodLink md.1 idx arraycopyName ∈ lw_good) (hs : st.length ≤ 4) (hk0 : sh.2.1 a0 = 12) (hk : sh.2.1 a = 12) (h0 : 0 ≤ sp) (h1 : 0 ≤ dp) (h2 : 0 ≤ n) (h3 : sp + n ≤ (sh.2.2.1 a0 : Int)) (h4 : dp + n ≤ (sh.2.2.1 a : Int))
    (h : Go md mc ms (pc + 3) ls st gi (g_cp gl a0 a sp dp n) sh Q) : Go md mc ms pc ls (vI n :: vI dp :: vR a :: vI sp :: vR a0 :: st) gi gl sh Q := by
  intro p l e R s m args below meth c Qf A D cy b n0 ad0 MC MS X ad H locs cells slots lsA T
  have hW := X.1.2.2.2.2.1
  have hlev : 1 ≤ md.2.2.2.2.1 := X.1.2.2.2.2.2.2.2.2.2.1
  have hF := X.1.2.2.2.2.2.2.2.1
  have hLo := X.1.2.2.2.2.2.2.2.2.1
  have hc := g_catS b ad st
  have o1 := g_unI (g_sh T.ok)
  have o2 := g_unI (g_sh (g_st T.ok))
  have o3 := g_unR (g_sh (g_st (g_st T.ok)))
  have o4 := g_unI (g_sh (g_st (g_st (g_st T.ok))))
  have o5 := g_unR (g_sh (g_st (g_st (g_st (g_st T.ok)))))
  have e0 := g_ws_get (cy := cy) (ad := ad) (gi := gi) (gl := gl) o5.1 o5.2
  have e1 := g_ws_get (cy := cy) (ad := ad) (gi := gi) (gl := gl) o3.1 o3.2
  rw [g_cell_long hk0] at e0
  rw [g_cell_long hk] at e1
  have c1 := g_clN h0 o4.2
  have c2 := g_clN h1 o2.2
  have c3 := g_clN h2 o1.2
  have ng : ∀ z : Int, 0 ≤ z → -2147483648 ≤ z ∧ z ≤ 2147483647 → ¬ Int32.ofInt z < 0 := fun z h9 h8 h7 => by
    have := (g_lt (x := z) (y := 0) h8 (by decide)).mp h7
    omega
  have hnf : nativeFrameWords "java/lang/System" "arraycopy" 5 = 7 := by decide
  refine va_copyl (ty := .long) X.1.1 X.1.2.1 (X.1.2.2.1.trans T.lo.1.symm) X.1.2.2.2.1 (hW _ hl) (hW _ wcopy_nat) (hW _ wcopy_stat) (hW _ wsys_init) T.mm.1 T.mm.2.1 T.mm.2.2.1 T.mm.2.2.2.1 a0.toNat a.toNat 2 2 e0 e1 rfl rfl rfl (ng sp h0 o4) (ng dp h1 o2) (ng n h2 o1) (by omega) (by omega) (fun _ _ => rfl) (by omega) (by omega) hd (fun H1 locs1 hP hD hS => ?_)
  have e9 : (g_ws cy ad gi gl sh).set a.toNat (ad a, .inl (cy 12, sh.2.2.1 a, .inr (.inl (va_cpy (fun j => Int64.ofInt (gl a0 (j : Int))) (fun j => Int64.ofInt (gl a (j : Int))) (Int32.ofInt sp).toNatClampNeg (Int32.ofInt dp).toNatClampNeg (Int32.ofInt n).toNatClampNeg)))) = g_ws cy ad gi (g_cp gl a0 a sp dp n) sh := g_ws_set (gr' := sh.1) o3.1 (by
    rw [g_cell_long (sh := (sh.1, sh.2)) hk]
    have : (fun j : Nat => Int64.ofInt (g_cp gl a0 a sp dp n a (j : Int))) = va_cpy (fun j => Int64.ofInt (gl a0 (j : Int))) (fun j => Int64.ofInt (gl a (j : Int))) (Int32.ofInt sp).toNatClampNeg (Int32.ofInt dp).toNatClampNeg (Int32.ofInt n).toNatClampNeg := by
      funext j
      unfold g_cp va_cpy
      by_cases hj : dp ≤ (j : Int) ∧ (j : Int) < dp + n
      · rw [if_pos ⟨rfl, hj⟩, if_pos (by omega)]
        congr 2
        omega
      · rw [if_neg (fun q => hj q.2), if_neg (by omega)]
    rw [this]) (fun i' hi' => g_cell_congr rfl (g_cp_row hi') rfl)
  rw [e9] at hP hD
  exact h p l e R s m args below meth c Qf A D cy b n0 ad0 MC MS X ad H1 locs1 cells slots lsA (T.mem (gr' := sh.1) ⟨T.mm.1, hP, hD, hS, ⟨T.mm.2.2.2.2.1, fun x y => by
    unfold g_cp
    split
    · exact T.mm.2.2.2.2.2.1 _ _
    · exact T.mm.2.2.2.2.2.1 _ _, T.mm.2.2.2.2.2.2⟩⟩ (g_st (g_st (g_st (g_st (g_st T.ok))))))
end RULES5
end
section
/-! calls: a callee's Go is its contract -/
theorem g_isN_on {w : Cond} (h : g_isN w = true) : w.onTables = true := by
  cases w <;> first | rfl | cases h
theorem g_isN_warm {w : Cond} {s U : State} (h : g_isN w = true) (hW : s.WarmedH U.vm) (hZ : va_Nw w s) : va_Nw w U := by
  cases w <;> first | exact va_Nw.warmF hW hZ | exact va_Nw.warmM hW hZ | cases h
theorem g_nestN {w : Cond} (hw : w ∈ lw_nest) : g_isN w = true := List.all_eq_true.mp lw_nest_all w hw
/-- the locals at a method's entry -/
def g_sl : List gV → List (Option gV)
  | [] => []
  | .inr (.inl x) :: vs => some (vL x) :: none :: g_sl vs
  | v :: vs => some v :: g_sl vs
def g_ent (nL : Nat) (as : List gV) : List (Option gV) := g_sl as ++ List.replicate (nL - (g_sl as).length) none
theorem g_sl_args (b : Nat) (ad : Int → Nat) : ∀ (as : List gV) (o i : Nat) (v : gV), (g_sl as)[i]? = some (some v) → (o + i, g_rn b ad v) ∈ lv_args o (as.map (g_rn b ad)) ∧ v ∈ as := by
  intro as
  induction as with
  | nil => intro o i v h; simp [g_sl] at h
  | cons w ws ih =>
    intro o i v h
    have one : ∀ (hw : (g_rn b ad w).category ≠ 2), (some w :: g_sl ws)[i]? = some (some v) → (o + i, g_rn b ad v) ∈ lv_args o ((w :: ws).map (g_rn b ad)) ∧ v ∈ w :: ws := by
      intro hw h
      cases i with
      | zero => cases h; exact ⟨by simp [lv_args], List.mem_cons_self⟩
      | succ i =>
        obtain ⟨h1, h2⟩ := ih (o + 1) i v h
        refine ⟨?_, List.mem_cons_of_mem _ h2⟩
        simp only [List.map_cons, lv_args, if_neg hw]
        exact List.mem_cons_of_mem _ (by rw [show o + (i + 1) = o + 1 + i by omega]; exact h1)
    rcases w with x | x | x | x
    · exact one (by simp [g_rn, Value.category]) h
    · have h : (some (vL x) :: none :: g_sl ws)[i]? = some (some v) := h
      match i, h with
      | 0, h => cases h; exact ⟨by simp [lv_args], List.mem_cons_self⟩
      | 1, h => cases h
      | i + 2, h =>
        obtain ⟨h1, h2⟩ := ih (o + 2) i v h
        refine ⟨?_, List.mem_cons_of_mem _ h2⟩
        have hc : (g_rn b ad (Sum.inr (Sum.inl x))).category = 2 := by simp [g_rn, Value.category]
        simp only [List.map_cons, lv_args, if_pos hc]
        exact List.mem_cons_of_mem _ (by rw [show o + (i + 2) = o + 2 + i by omega]; exact h1)
    · exact one (by simp [g_rn, Value.category]) h
    · exact one (by simp [g_rn, Value.category]) h
theorem g_sl_len (b : Nat) (ad : Int → Nat) : ∀ as : List gV, (lg_sl (as.map (g_rn b ad))).length = (g_sl as).length := by
  intro as
  induction as with
  | nil => rfl
  | cons w ws ih =>
    rcases w with x | x | x | x <;> simp [lg_sl, g_sl, g_rn, Value.category] at ih ⊢ <;> omega
theorem g_Lo.entry {b : Nat} {ad : Int → Nat} {n nL : Nat} {as : List gV} (hok : ∀ v ∈ as, g_ok n v) (hn : (g_sl as).length ≤ nL) : g_Lo b ad n ((lg_sl (as.map (g_rn b ad)) ++ List.replicate (nL - (lg_sl (as.map (g_rn b ad))).length) Slot.unset).toArray) nL (g_ent nL as) := by
  have h := lv_entry (as.map (g_rn b ad)) (n := nL) (by rw [g_sl_len]; exact hn)
  refine ⟨h.1, by simp [g_ent]; omega, h.2.1, fun i v hi => ?_⟩
  have hs : (g_sl as)[i]? = some (some v) := by
    unfold g_ent at hi
    by_cases hlt : i < (g_sl as).length
    · rwa [List.getElem?_append_left hlt] at hi
    · rw [List.getElem?_append_right (by omega), List.getElem?_replicate] at hi
      split at hi <;> simp at hi
  obtain ⟨h1, h2⟩ := g_sl_args b ad as 0 i v hs
  rw [Nat.zero_add] at h1
  exact ⟨h.2.2 _ h1, hok v h2⟩
/-- the world that a callee is handed, and what it hands back -/
def g_Pm (D : va_G) (cy : Nat → ClassId) (ad : Int → Nat) (gi gl : gF) (sh : gSh) (A : Nat → Prop) (U : State) : Prop := va_K D vwCl (g_tys cy) U ∧ va_P D vwCl (g_ws cy ad gi gl sh) U.heap ∧ va_D A (g_ws cy ad gi gl sh)
def g_Pre (D : va_G) (cy : Nat → ClassId) (ad : Int → Nat) (gi gl : gF) (sh : gSh) (sz : Nat) (U : State) : Prop := U.heap.size = sz ∧ g_Pm D cy ad gi gl sh (fun _ => True) U ∧ (∀ w ∈ lw_nest, va_Nw w U) ∧ ∀ C ∈ lw_over, va_AO C U
abbrev gU : Type := Option gV × gF × gF × gSh × (Int → Nat)
def g_post (Q : gQ) (ad : Int → Nat) (sh : gSh) (u : gU) : Prop := Q u.1 u.2.1 u.2.2.1 u.2.2.2.1 ∧ sh.2.2.2 ≤ u.2.2.2.1.2.2.2 ∧ (∀ a : Int, 0 ≤ a → a < (sh.2.2.2 : Int) → u.2.2.2.2 a = ad a) ∧ g_wf u.2.1 u.2.2.1 u.2.2.2.1 ∧ ∀ v, u.1 = some v → g_ok u.2.2.2.1.2.2.2 v
def g_back (D : va_G) (cy : Nat → ClassId) (A : Nat → Prop) (u : gU) (t : State) : Prop := g_Pm D cy u.2.2.2.2 u.2.1 u.2.2.1 u.2.2.2.1 A t
abbrev g_words (md : gMD) : List Cond := Cond.code md.2.2.2.2.2.1 md.2.1 md.2.2.1 md.2.2.2.1 :: lw_good
abbrev g_room (md : gMD) (mc ms : Nat) : Room := { frames := md.2.2.2.2.1, cells := mc, slots := ms, locals := 30 * md.2.2.2.2.1 }
section MET
variable {md : gMD} {mc ms : Nat} {as : List gV} {gi gl : gF} {sh : gSh} {Q : gQ}
/-- the body of a callee's contract, for any end that takes the three kinds of return -/
theorem g_body (l : Launch) (D : va_G) (cy : Nat → ClassId) (b : Nat) (ad : Int → Nat) (sz : Nat) (Qc : Array Value → State → Outcome → State → Prop)
    (hG : Go md mc ms 0 (g_ent md.2.2.1 as) [] gi gl sh Q) (hscr : md.2.2.2.2.2.2 = none) (hcls : md.2.2.2.2.2.1.cls = md.1) (hlev : 1 ≤ md.2.2.2.2.1) (hpl : plainName md.2.2.2.2.2.1.cls = true) (hlen : (g_sl as).length ≤ md.2.2.1) (hwf : g_wf gi gl sh) (hok : ∀ v ∈ as, g_ok sh.2.2.2 v)
    (hq : ∀ (s t : State) (r : Option gV) (gi' gl' : gF) (sh' : gSh) (ad' : Int → Nat) (H : Heap) (locs : List Loc), g_post Q ad sh (r, gi', gl', sh', ad') → va_S (va_A (g_ws cy ad gi gl sh) sz) s.heap H locs → va_K D vwCl (g_tys cy) s → va_P D vwCl (g_ws cy ad' gi' gl' sh') H → va_D (va_A (g_ws cy ad gi gl sh) sz) (g_ws cy ad' gi' gl' sh') → t.heap = H → s.WarmedH t.vm → (∀ x : Int, r = some (.inl x) → ∃ ty, md.2.2.2.1 = some ty) → Qc ((as.map (g_rn b ad)).toArray) s (.returned (r.map (g_rn b ad'))) t) :
    Met l md.2.2.2.2.2.1 (g_words md) (g_room md mc ms) (va_Pc (as.map (g_rn b ad)) (g_Pre D cy ad gi gl sh sz)) Qc mc ms (va_A (g_ws cy ad gi gl sh) sz) := by
  refine Met.ofW (cc := md.2.1) (maxL := md.2.2.1) (ret := md.2.2.2.1) hpl rfl ?_
  intro p e s m args below meth c s₁ B hml hv
  obtain ⟨rfl, hsz, ⟨hK, hP, hD0⟩, hN, hO⟩ := hv
  have hx := B.exec
  have hb := B.bytes
  have hr := B.returns
  have hts := atoms_spec (ws := g_words md) B.pre
  have hown : s.vm.findClass md.2.2.2.2.2.1.cls = some m.cls := findClass_of_methodNamed B.named
  have hlocks := B.notSynchronized
  have hin : md.2.2.2.2.2.1.name = "<init>" → meth.name = "<init>" := fun h => (name_of_methodNamed B.named B.method).1.trans h
  subst hsz
  have hD := hD0.self (sz := s.heap.size)
  rw [lg_entry_eq]
  have hcx : g_Cx md p (g_room md mc ms) s m ((as.map (g_rn b ad)).toArray) meth c (va_A (g_ws cy ad gi gl sh) s.heap.size) b :=
    ⟨hx, hb, hml, hcls ▸ hown, fun w hw => hts w (List.mem_cons_of_mem _ hw), hN, hO, Nat.le_refl _, Nat.le_refl _, hlev, hin, fun q h => Or.inr h, fun L xs h => by rw [hscr] at h; cases h⟩
  refine hG p l e (g_room md mc ms) s m ((as.map (g_rn b ad)).toArray) below meth c (MQ below Qc ((as.map (g_rn b ad)).toArray) s mc ms (va_A (g_ws cy ad gi gl sh) s.heap.size)) (va_A (g_ws cy ad gi gl sh) s.heap.size) D cy b sh.2.2.2 ad mc ms ⟨hcx, Nat.le_refl _, Nat.le_refl _, ?_⟩ ad s.heap [] 0 0 _ ⟨⟨Nat.le_refl _, fun _ _ _ => rfl⟩, ⟨by omega, by omega⟩, ⟨hK, hP, hD, va_S.rf, hwf⟩, g_Lo.entry hok hlen, fun v hv => by cases hv⟩
  intro r gi' gl' sh' ad' H locs cells slots pc lsA hQ hn hext hM hc hs hR hrok
  refine W.widen hc hs ?_
  have hpost : g_post Q ad sh (r, gi', gl', sh', ad') := ⟨hQ, hn, hext, hM.2.2.2.2, hrok⟩
  rcases r with _ | x | x | x
  · exact W.vret hx hb (hr.trans hR.1) (fun t ht hW => hq s t none gi' gl' sh' ad' H locs hpost hM.2.2.2.1 hM.1 hM.2.1 hM.2.2.1 ht hW (fun _ h => by cases h)) hM.2.2.2.1.2.2 hR.2
  · obtain ⟨⟨ty, hty, hnar⟩, hd⟩ := hR
    exact W.zret hx hb (hr.trans hty) hnar (fun t ht hW => hq s t (some (.inl x)) gi' gl' sh' ad' H locs hpost hM.2.2.2.1 hM.1 hM.2.1 hM.2.2.1 ht hW (fun _ _ => ⟨ty, hty⟩)) hM.2.2.2.1.2.2 hd
  · exact W.lret hx hb (hr.trans hR.1) (fun t ht hW => hq s t (some (.inr (.inl x))) gi' gl' sh' ad' H locs hpost hM.2.2.2.1 hM.1 hM.2.1 hM.2.2.1 ht hW (fun _ h => by cases h)) hM.2.2.2.1.2.2 hR.2
  · exact hR.elim
end MET
end
section
theorem g_rn_ext {b n : Nat} {ad ad' : Int → Nat} (h : ∀ a : Int, 0 ≤ a → a < (n : Int) → ad' a = ad a) {v : gV} (hv : g_ok n v) : g_rn b ad' v = g_rn b ad v := by
  rcases v with x | x | x | x
  · rfl
  · rfl
  · show Value.ref _ = Value.ref _
    rw [h x (g_unR hv).1 (g_unR hv).2]
  · rfl
theorem g_blind {as : List Value} {D : va_G} {cy : Nat → ClassId} {ad : Int → Nat} {gi gl : gF} {sh : gSh} {sz : Nat} : FrameBlind (va_Pc as (g_Pre D cy ad gi gl sh sz)) := by
  intro a U g mk q
  obtain ⟨q0, q1, ⟨qK, qP, qD⟩, qN, qO⟩ := q
  exact ⟨q0, q1, ⟨va_K.moved (u := U) (U := U.calling g mk a) (Vm.Alike.refl U.vm) qK, qP, qD⟩, fun w hw => va_Nw.same (u := U) (U := U.calling g mk a) (g_isN_on (g_nestN hw)) rfl (qN w hw), fun C hC => va_AO.moved (u := U) (U := U.calling g mk a) (Vm.Alike.refl U.vm) (qO C hC)⟩
theorem g_enter {as : List Value} {D : va_G} {cy : Nat → ClassId} {ad : Int → Nat} {gi gl : gF} {sh : gSh} {s : State} {A : Nat → Prop} {H : Heap} {locs : List Loc} (hM : g_Mm s A D cy ad gi gl sh H locs) (hN : ∀ w ∈ lw_nest, va_Nw w s) (hO : ∀ C ∈ lw_over, va_AO C s) : ∀ U : State, U.heap = H → s.WarmedH U.vm → va_Pc as (g_Pre D cy ad gi gl sh H.size) as.toArray U :=
  fun U hU hW => ⟨rfl, by rw [hU], ⟨va_K.moved hW.alike hM.1, by rw [hU]; exact hM.2.1, hM.2.2.1.weaken (fun _ _ _ _ => trivial)⟩, fun w hw => g_isN_warm (g_nestN hw) hW (hN w hw), fun C hC => va_AO.moved hW.alike (hO C hC)⟩
section BACK
variable {md : gMD} {mc ms mc' ms' : Nat} {ls : List (Option gV)} {st stk st' : List gV} {gi gl gi' gl' : gF} {sh sh' : gSh} {Q : gQ} {s : State} {A : Nat → Prop} {D : va_G} {cy : Nat → ClassId} {b n0 : Nat} {ad0 : Int → Nat} {MC MS : Nat} {ad ad' : Int → Nat} {H : Heap} {locs : List Loc} {cells slots : Nat} {lsA : Array Slot}
theorem g_T.fr (T : g_T md (mc + mc') (ms + ms') ls stk gi gl sh s A D cy b n0 ad0 MC MS ad H locs cells slots lsA) (hA : ∀ q : Nat, s.heap.size ≤ q → A q) : ∀ q, va_A (g_ws cy ad gi gl sh) H.size q → A q := by
  intro q h
  rcases h with ⟨k, e, h⟩ | h
  · exact T.mm.2.2.1.2 _ _ h
  · exact hA q (Nat.le_trans T.mm.2.2.2.1.1 h)
theorem g_T.back {Q' : gQ} {r : Option gV} {t : State} {H1 : Heap} {locs1 : List Loc} (T : g_T md (mc + mc') (ms + ms') ls stk gi gl sh s A D cy b n0 ad0 MC MS ad H locs cells slots lsA) (hA : ∀ q : Nat, s.heap.size ≤ q → A q) (hst : ∀ v ∈ st, g_ok sh.2.2.2 v)
    (hp : g_post Q' ad sh (r, gi', gl', sh', ad')) (hB : g_back D cy (va_A (g_ws cy ad gi gl sh) H.size) (r, gi', gl', sh', ad') t) (ht : t.heap = H1) (hS : va_S A s.heap H1 locs1) :
    g_T md mc ms ls (r.toList ++ st) gi' gl' sh' s A D cy b n0 ad0 MC MS ad' H1 locs1 (cells + mc') (slots + ms') lsA := by
  obtain ⟨hQ, hn, hext, hwf, hr⟩ := hp
  obtain ⟨hK, hP, hD⟩ := hB
  dsimp only at hn hext hwf hr hP hD
  rw [ht] at hP
  refine ⟨⟨Nat.le_trans T.1.1 hn, fun a h0 h1 => (hext a h0 (by have := T.1.1; omega)).trans (T.1.2 a h0 h1)⟩, ⟨by have := T.2.1.1; omega, by have := T.2.1.2; omega⟩, ⟨T.mm.1, hP, hD.weaken (fun _ q _ h => T.fr hA q.1 h), hS, hwf⟩, ⟨T.lo.1, T.lo.2.1, T.lo.2.2.1, fun i v hi => ?_⟩, fun v hv => ?_⟩
  · obtain ⟨h1, h2⟩ := T.lo.2.2.2 i v hi
    exact ⟨by rw [g_rn_ext hext h2]; exact h1, g_ok_mono hn h2⟩
  · rcases List.mem_append.mp hv with h | h
    · cases r with
      | none => cases h
      | some w =>
        rcases List.mem_singleton.mp h with rfl
        exact hr _ rfl
    · exact g_ok_mono hn (hst v h)
end BACK
section METS
variable {md : gMD} {mc ms : Nat} {as : List gV} {gi gl : gF} {sh : gSh} {Q : gQ}
theorem g_met_i (l : Launch) (D : va_G) (cy : Nat → ClassId) (b : Nat) (ad : Int → Nat) (sz : Nat) (hG : Go md mc ms 0 (g_ent md.2.2.1 as) [] gi gl sh Q) (hscr : md.2.2.2.2.2.2 = none) (hcls : md.2.2.2.2.2.1.cls = md.1) (hlev : 1 ≤ md.2.2.2.2.1) (hpl : plainName md.2.2.2.2.2.1.cls = true) (hlen : (g_sl as).length ≤ md.2.2.1) (hwf : g_wf gi gl sh) (hok : ∀ v ∈ as, g_ok sh.2.2.2 v) (hr : ∀ r gi gl sh, Q r gi gl sh → ∃ x, r = some (vI x)) :
    Met l md.2.2.2.2.2.1 (g_words md) (g_room md mc ms) (va_Pc (as.map (g_rn b ad)) (g_Pre D cy ad gi gl sh sz)) (va_Qi (fun r u => g_post Q ad sh u ∧ ∃ x : Int, u.1 = some (vI x) ∧ r = Int32.ofInt x) (g_back D cy (va_A (g_ws cy ad gi gl sh) sz)) (va_A (g_ws cy ad gi gl sh) sz)) mc ms (va_A (g_ws cy ad gi gl sh) sz) := by
  refine g_body l D cy b ad sz _ hG hscr hcls hlev hpl hlen hwf hok ?_
  intro s t r gi' gl' sh' ad' H locs hp hS hK hP hD ht hW _
  obtain ⟨x, rfl⟩ := hr _ _ _ _ hp.1
  exact ⟨⟨_, (some (vI x), gi', gl', sh', ad'), rfl, ⟨hp, x, rfl, rfl⟩, va_K.moved hW.alike hK, by rw [ht]; exact hP, hD⟩, hS.F ht⟩
theorem g_met_l (l : Launch) (D : va_G) (cy : Nat → ClassId) (b : Nat) (ad : Int → Nat) (sz : Nat) (hG : Go md mc ms 0 (g_ent md.2.2.1 as) [] gi gl sh Q) (hscr : md.2.2.2.2.2.2 = none) (hcls : md.2.2.2.2.2.1.cls = md.1) (hlev : 1 ≤ md.2.2.2.2.1) (hpl : plainName md.2.2.2.2.2.1.cls = true) (hlen : (g_sl as).length ≤ md.2.2.1) (hwf : g_wf gi gl sh) (hok : ∀ v ∈ as, g_ok sh.2.2.2 v) (hr : ∀ r gi gl sh, Q r gi gl sh → ∃ x, r = some (vL x)) :
    Met l md.2.2.2.2.2.1 (g_words md) (g_room md mc ms) (va_Pc (as.map (g_rn b ad)) (g_Pre D cy ad gi gl sh sz)) (va_Ql (fun r u => g_post Q ad sh u ∧ ∃ x : Int, u.1 = some (vL x) ∧ r = Int64.ofInt x) (g_back D cy (va_A (g_ws cy ad gi gl sh) sz)) (va_A (g_ws cy ad gi gl sh) sz)) mc ms (va_A (g_ws cy ad gi gl sh) sz) := by
  refine g_body l D cy b ad sz _ hG hscr hcls hlev hpl hlen hwf hok ?_
  intro s t r gi' gl' sh' ad' H locs hp hS hK hP hD ht hW _
  obtain ⟨x, rfl⟩ := hr _ _ _ _ hp.1
  exact ⟨⟨_, (some (vL x), gi', gl', sh', ad'), rfl, ⟨hp, x, rfl, rfl⟩, va_K.moved hW.alike hK, by rw [ht]; exact hP, hD⟩, hS.F ht⟩
theorem g_met_v (l : Launch) (D : va_G) (cy : Nat → ClassId) (b : Nat) (ad : Int → Nat) (sz : Nat) (hG : Go md mc ms 0 (g_ent md.2.2.1 as) [] gi gl sh Q) (hscr : md.2.2.2.2.2.2 = none) (hcls : md.2.2.2.2.2.1.cls = md.1) (hlev : 1 ≤ md.2.2.2.2.1) (hpl : plainName md.2.2.2.2.2.1.cls = true) (hlen : (g_sl as).length ≤ md.2.2.1) (hwf : g_wf gi gl sh) (hok : ∀ v ∈ as, g_ok sh.2.2.2 v) (hr : ∀ r gi gl sh, Q r gi gl sh → r = none) :
    Met l md.2.2.2.2.2.1 (g_words md) (g_room md mc ms) (va_Pc (as.map (g_rn b ad)) (g_Pre D cy ad gi gl sh sz)) (va_Qv (fun u => g_post Q ad sh u ∧ u.1 = none) (g_back D cy (va_A (g_ws cy ad gi gl sh) sz)) (va_A (g_ws cy ad gi gl sh) sz)) mc ms (va_A (g_ws cy ad gi gl sh) sz) := by
  refine g_body l D cy b ad sz _ hG hscr hcls hlev hpl hlen hwf hok ?_
  intro s t r gi' gl' sh' ad' H locs hp hS hK hP hD ht hW _
  obtain rfl := hr _ _ _ _ hp.1
  exact ⟨⟨(none, gi', gl', sh', ad'), rfl, ⟨hp, rfl⟩, va_K.moved hW.alike hK, by rw [ht]; exact hP, hD⟩, hS.F ht⟩
end METS
section CALLS
variable {md md' : gMD} {mc ms mc' ms' pc idx ci np : Nat} {ls : List (Option gV)} {st stk : List gV} {gi gl : gF} {sh : gSh} {Q Q' : gQ}
theorem g_callV_i {a : Int} (as : List gV) (hd : decode md.2.1 pc = .ok (.invokevirtual idx, 3)) (hl : Cond.methodLink md.1 idx md'.2.2.2.2.2.1 ∈ lw_good) (hv : g_MV md' ci np) (hc : ci < 10) (hkd : sh.2.1 a = ci) (hlev : md'.2.2.2.2.1 < md.2.2.2.2.1 ∧ 1 ≤ md'.2.2.2.2.1 ∧ md'.2.2.1 ≤ 11) (hscr : md'.2.2.2.2.2.2 = none) (has : as.length = np) (hlen : (g_sl (vR a :: as)).length ≤ md'.2.2.1) (hstk : stk = as.reverse ++ vR a :: st) (hst : st.length ≤ 4)
    (hG : Go md' mc' ms' 0 (g_ent md'.2.2.1 (vR a :: as)) [] gi gl sh Q') (hr : ∀ r gi gl sh, Q' r gi gl sh → ∃ x, r = some (vI x)) (h : ∀ (x : Int) (gi' gl' : gF) (sh' : gSh), Q' (some (vI x)) gi' gl' sh' → sh.2.2.2 ≤ sh'.2.2.2 → g_wf gi' gl' sh' → Go md mc ms (pc + 3) ls (vI x :: st) gi' gl' sh' Q) : Go md (mc + mc') (ms + ms') pc ls stk gi gl sh Q := by
  intro p l e R s m args below meth c Qf A D cy b n0 ad0 MC MS X ad H locs cells slots lsA T
  subst hstk
  have hW := X.1.2.2.2.2.1
  have hF := X.1.2.2.2.2.2.2.2.1
  have hLo := X.1.2.2.2.2.2.2.2.2.1
  have hA := X.1.2.2.2.2.2.2.2.2.2.2.2.1
  have hcat := g_catS b ad st
  have hR1 := T.2.1.1
  have hR2 := T.2.1.2
  have hR3 := X.2.1
  have hR4 := X.2.2.1
  have hok : ∀ v ∈ vR a :: as, g_ok sh.2.2.2 v := fun v hv => T.ok v (by rcases List.mem_cons.mp hv with rfl | h <;> simp [*])
  have hsto : ∀ v ∈ st, g_ok sh.2.2.2 v := fun v hv => T.ok v (by simp [hv])
  have hra := g_unR (hok (vR a) List.mem_cons_self)
  obtain ⟨v1, v2, v3, v4, v5, v6, v7, v8, v9⟩ := hv
  have he : (g_ws cy ad gi gl sh)[a.toNat]? = some (ad a, .inr (ci, g_fs ad gi sh.1 ci a)) := by rw [g_ws_get hra.1 hra.2, g_cell_obj hkd hc]
  have hcw : CallW R s args md.1 (g_R ci) idx md'.2.2.2.2.2.1 md'.2.1 md'.2.2.1 md'.2.2.2.1 (g_words md') (g_room md' mc' ms') mc' ms' np := ⟨callB_of np hW (lw_goodIn (fun w hw => (List.mem_cons.mp hw).elim (fun h => h ▸ v4) id)) rfl rfl rfl (hW _ v3) (hW _ hl) ⟨v7, v8, v9⟩ ⟨by show md'.2.2.2.2.1 + 1 ≤ _; omega, by show 8 + (md'.2.2.1 + 11) + 30 * md'.2.2.2.2.1 ≤ _; omega⟩, hW _ v1, hW _ v2⟩
  have hpre : PreV s H (g_R ci) (ad a) (va_Pc ((vR a :: as).map (g_rn b ad)) (g_Pre D cy ad gi gl sh H.size)) (as.map (g_rn b ad)) := ⟨g_blind, va_recv T.mm.1 T.mm.2.1 (q := (g_R ci, g_TT ci, g_nf ci)) (g_cl ci hc) he, g_enter T.mm X.1.2.2.2.2.2.1 X.1.2.2.2.2.2.2.1⟩
  have hM := g_met_i l D cy b ad H.size hG hscr v6 hlev.2.1 v5 hlen T.mm.2.2.2.2 hok hr
  refine va_calli (va_runV (b := ad a) (As := as.map (g_rn b ad)) (rest := st.map (g_rn b ad)) ⟨X.1.1, X.1.2.1, X.1.2.2.1, X.1.2.2.2.1, hW⟩ hM hcw hpre rfl (by rw [List.length_map]; exact has) T.lo.1 (by simp [g_rn, List.map_reverse]) (lv_room (by omega)) hd ⟨by omega, by omega⟩) T.mm.2.2.2.1 (fun q _ h9 => T.fr hA q h9) (T.fr hA) (fun r0 u t H1 locs1 ht hvm hw hB hz1 hk1 hS => ?_)
  obtain ⟨r, gi', gl', sh', ad'⟩ := u
  obtain ⟨hp, x, hx, rfl⟩ := hw
  dsimp only at hx
  subst hx
  have T1 := T.back (st := st) hA hsto hp hB ht hS
  have e1 : st.map (g_rn b ad') = st.map (g_rn b ad) := List.map_congr_left (fun v hv => g_rn_ext hp.2.2.1 (hsto v hv))
  have k := h x gi' gl' sh' hp.1 hp.2.1 hp.2.2.2.1 p l e R s m args below meth c Qf A D cy b n0 ad0 MC MS X ad' H1 locs1 (cells + mc') (slots + ms') lsA T1
  rw [List.map_cons, e1] at k
  exact k
theorem g_callV_v {a : Int} (as : List gV) (hd : decode md.2.1 pc = .ok (.invokevirtual idx, 3)) (hl : Cond.methodLink md.1 idx md'.2.2.2.2.2.1 ∈ lw_good) (hv : g_MV md' ci np) (hc : ci < 10) (hkd : sh.2.1 a = ci) (hlev : md'.2.2.2.2.1 < md.2.2.2.2.1 ∧ 1 ≤ md'.2.2.2.2.1 ∧ md'.2.2.1 ≤ 11) (hscr : md'.2.2.2.2.2.2 = none) (has : as.length = np) (hlen : (g_sl (vR a :: as)).length ≤ md'.2.2.1) (hstk : stk = as.reverse ++ vR a :: st) (hst : st.length ≤ 4)
    (hG : Go md' mc' ms' 0 (g_ent md'.2.2.1 (vR a :: as)) [] gi gl sh Q') (hr : ∀ r gi gl sh, Q' r gi gl sh → r = none) (h : ∀ (gi' gl' : gF) (sh' : gSh), Q' none gi' gl' sh' → sh.2.2.2 ≤ sh'.2.2.2 → g_wf gi' gl' sh' → Go md mc ms (pc + 3) ls st gi' gl' sh' Q) : Go md (mc + mc') (ms + ms') pc ls stk gi gl sh Q := by
  intro p l e R s m args below meth c Qf A D cy b n0 ad0 MC MS X ad H locs cells slots lsA T
  subst hstk
  have hW := X.1.2.2.2.2.1
  have hF := X.1.2.2.2.2.2.2.2.1
  have hLo := X.1.2.2.2.2.2.2.2.2.1
  have hA := X.1.2.2.2.2.2.2.2.2.2.2.2.1
  have hcat := g_catS b ad st
  have hR1 := T.2.1.1
  have hR2 := T.2.1.2
  have hR3 := X.2.1
  have hR4 := X.2.2.1
  have hok : ∀ v ∈ vR a :: as, g_ok sh.2.2.2 v := fun v hv => T.ok v (by rcases List.mem_cons.mp hv with rfl | h <;> simp [*])
  have hsto : ∀ v ∈ st, g_ok sh.2.2.2 v := fun v hv => T.ok v (by simp [hv])
  have hra := g_unR (hok (vR a) List.mem_cons_self)
  obtain ⟨v1, v2, v3, v4, v5, v6, v7, v8, v9⟩ := hv
  have he : (g_ws cy ad gi gl sh)[a.toNat]? = some (ad a, .inr (ci, g_fs ad gi sh.1 ci a)) := by rw [g_ws_get hra.1 hra.2, g_cell_obj hkd hc]
  have hcw : CallW R s args md.1 (g_R ci) idx md'.2.2.2.2.2.1 md'.2.1 md'.2.2.1 md'.2.2.2.1 (g_words md') (g_room md' mc' ms') mc' ms' np := ⟨callB_of np hW (lw_goodIn (fun w hw => (List.mem_cons.mp hw).elim (fun h => h ▸ v4) id)) rfl rfl rfl (hW _ v3) (hW _ hl) ⟨v7, v8, v9⟩ ⟨by show md'.2.2.2.2.1 + 1 ≤ _; omega, by show 8 + (md'.2.2.1 + 11) + 30 * md'.2.2.2.2.1 ≤ _; omega⟩, hW _ v1, hW _ v2⟩
  have hpre : PreV s H (g_R ci) (ad a) (va_Pc ((vR a :: as).map (g_rn b ad)) (g_Pre D cy ad gi gl sh H.size)) (as.map (g_rn b ad)) := ⟨g_blind, va_recv T.mm.1 T.mm.2.1 (q := (g_R ci, g_TT ci, g_nf ci)) (g_cl ci hc) he, g_enter T.mm X.1.2.2.2.2.2.1 X.1.2.2.2.2.2.2.1⟩
  have hM := g_met_v l D cy b ad H.size hG hscr v6 hlev.2.1 v5 hlen T.mm.2.2.2.2 hok hr
  refine va_callv (va_runV (b := ad a) (As := as.map (g_rn b ad)) (rest := st.map (g_rn b ad)) ⟨X.1.1, X.1.2.1, X.1.2.2.1, X.1.2.2.2.1, hW⟩ hM hcw hpre rfl (by rw [List.length_map]; exact has) T.lo.1 (by simp [g_rn, List.map_reverse]) (lv_room (by omega)) hd ⟨by omega, by omega⟩) T.mm.2.2.2.1 (fun q _ h9 => T.fr hA q h9) (T.fr hA) (fun u t H1 locs1 ht hvm hw hB hz1 hk1 hS => ?_)
  obtain ⟨r, gi', gl', sh', ad'⟩ := u
  obtain ⟨hp, hx⟩ := hw
  dsimp only at hx
  subst hx
  have T1 := T.back (st := st) hA hsto hp hB ht hS
  have e1 : st.map (g_rn b ad') = st.map (g_rn b ad) := List.map_congr_left (fun v hv => g_rn_ext hp.2.2.1 (hsto v hv))
  have k := h gi' gl' sh' hp.1 hp.2.1 hp.2.2.2.1 p l e R s m args below meth c Qf A D cy b n0 ad0 MC MS X ad' H1 locs1 (cells + mc') (slots + ms') lsA T1
  rw [e1] at k
  exact k
theorem g_callV_l {a : Int} (as : List gV) (hd : decode md.2.1 pc = .ok (.invokevirtual idx, 3)) (hl : Cond.methodLink md.1 idx md'.2.2.2.2.2.1 ∈ lw_good) (hv : g_MV md' ci np) (hc : ci < 10) (hkd : sh.2.1 a = ci) (hlev : md'.2.2.2.2.1 < md.2.2.2.2.1 ∧ 1 ≤ md'.2.2.2.2.1 ∧ md'.2.2.1 ≤ 11) (hscr : md'.2.2.2.2.2.2 = none) (has : as.length = np) (hlen : (g_sl (vR a :: as)).length ≤ md'.2.2.1) (hstk : stk = as.reverse ++ vR a :: st) (hst : st.length ≤ 4)
    (hG : Go md' mc' ms' 0 (g_ent md'.2.2.1 (vR a :: as)) [] gi gl sh Q') (hr : ∀ r gi gl sh, Q' r gi gl sh → ∃ x, r = some (vL x)) (h : ∀ (x : Int) (gi' gl' : gF) (sh' : gSh), Q' (some (vL x)) gi' gl' sh' → sh.2.2.2 ≤ sh'.2.2.2 → g_wf gi' gl' sh' → Go md mc ms (pc + 3) ls (vL x :: st) gi' gl' sh' Q) : Go md (mc + mc') (ms + ms') pc ls stk gi gl sh Q := by
  intro p l e R s m args below meth c Qf A D cy b n0 ad0 MC MS X ad H locs cells slots lsA T
  subst hstk
  have hW := X.1.2.2.2.2.1
  have hF := X.1.2.2.2.2.2.2.2.1
  have hLo := X.1.2.2.2.2.2.2.2.2.1
  have hA := X.1.2.2.2.2.2.2.2.2.2.2.2.1
  have hcat := g_catS b ad st
  have hR1 := T.2.1.1
  have hR2 := T.2.1.2
  have hR3 := X.2.1
  have hR4 := X.2.2.1
  have hok : ∀ v ∈ vR a :: as, g_ok sh.2.2.2 v := fun v hv => T.ok v (by rcases List.mem_cons.mp hv with rfl | h <;> simp [*])
  have hsto : ∀ v ∈ st, g_ok sh.2.2.2 v := fun v hv => T.ok v (by simp [hv])
  have hra := g_unR (hok (vR a) List.mem_cons_self)
  obtain ⟨v1, v2, v3, v4, v5, v6, v7, v8, v9⟩ := hv
  have he : (g_ws cy ad gi gl sh)[a.toNat]? = some (ad a, .inr (ci, g_fs ad gi sh.1 ci a)) := by rw [g_ws_get hra.1 hra.2, g_cell_obj hkd hc]
  have hcw : CallW R s args md.1 (g_R ci) idx md'.2.2.2.2.2.1 md'.2.1 md'.2.2.1 md'.2.2.2.1 (g_words md') (g_room md' mc' ms') mc' ms' np := ⟨callB_of np hW (lw_goodIn (fun w hw => (List.mem_cons.mp hw).elim (fun h => h ▸ v4) id)) rfl rfl rfl (hW _ v3) (hW _ hl) ⟨v7, v8, v9⟩ ⟨by show md'.2.2.2.2.1 + 1 ≤ _; omega, by show 8 + (md'.2.2.1 + 11) + 30 * md'.2.2.2.2.1 ≤ _; omega⟩, hW _ v1, hW _ v2⟩
  have hpre : PreV s H (g_R ci) (ad a) (va_Pc ((vR a :: as).map (g_rn b ad)) (g_Pre D cy ad gi gl sh H.size)) (as.map (g_rn b ad)) := ⟨g_blind, va_recv T.mm.1 T.mm.2.1 (q := (g_R ci, g_TT ci, g_nf ci)) (g_cl ci hc) he, g_enter T.mm X.1.2.2.2.2.2.1 X.1.2.2.2.2.2.2.1⟩
  have hM := g_met_l l D cy b ad H.size hG hscr v6 hlev.2.1 v5 hlen T.mm.2.2.2.2 hok hr
  refine va_calll (va_runV (b := ad a) (As := as.map (g_rn b ad)) (rest := st.map (g_rn b ad)) ⟨X.1.1, X.1.2.1, X.1.2.2.1, X.1.2.2.2.1, hW⟩ hM hcw hpre rfl (by rw [List.length_map]; exact has) T.lo.1 (by simp [g_rn, List.map_reverse]) (lv_room (by omega)) hd ⟨by omega, by omega⟩) T.mm.2.2.2.1 (fun q _ h9 => T.fr hA q h9) (T.fr hA) (fun r0 u t H1 locs1 ht hvm hw hB hz1 hk1 hS => ?_)
  obtain ⟨r, gi', gl', sh', ad'⟩ := u
  obtain ⟨hp, x, hx, rfl⟩ := hw
  dsimp only at hx
  subst hx
  have T1 := T.back (st := st) hA hsto hp hB ht hS
  have e1 : st.map (g_rn b ad') = st.map (g_rn b ad) := List.map_congr_left (fun v hv => g_rn_ext hp.2.2.1 (hsto v hv))
  have k := h x gi' gl' sh' hp.1 hp.2.1 hp.2.2.2.1 p l e R s m args below meth c Qf A D cy b n0 ad0 MC MS X ad' H1 locs1 (cells + mc') (slots + ms') lsA T1
  rw [List.map_cons, e1] at k
  exact k
theorem g_callS_i (as : List gV) (hd : decode md.2.1 pc = .ok (.invokestatic idx, 3)) (hl : Cond.methodLink md.1 idx md'.2.2.2.2.2.1 ∈ lw_good) (hv : g_MS md' np) (hlev : md'.2.2.2.2.1 < md.2.2.2.2.1 ∧ 1 ≤ md'.2.2.2.2.1 ∧ md'.2.2.1 ≤ 11) (hscr : md'.2.2.2.2.2.2 = none) (has : as.length = np) (hlen : (g_sl as).length ≤ md'.2.2.1) (hstk : stk = as.reverse ++ st) (hst : st.length ≤ 4)
    (hG : Go md' mc' ms' 0 (g_ent md'.2.2.1 as) [] gi gl sh Q') (hr : ∀ r gi gl sh, Q' r gi gl sh → ∃ x, r = some (vI x)) (h : ∀ (x : Int) (gi' gl' : gF) (sh' : gSh), Q' (some (vI x)) gi' gl' sh' → sh.2.2.2 ≤ sh'.2.2.2 → g_wf gi' gl' sh' → Go md mc ms (pc + 3) ls (vI x :: st) gi' gl' sh' Q) : Go md (mc + mc') (ms + ms') pc ls stk gi gl sh Q := by
  intro p l e R s m args below meth c Qf A D cy b n0 ad0 MC MS X ad H locs cells slots lsA T
  subst hstk
  have hW := X.1.2.2.2.2.1
  have hF := X.1.2.2.2.2.2.2.2.1
  have hLo := X.1.2.2.2.2.2.2.2.2.1
  have hA := X.1.2.2.2.2.2.2.2.2.2.2.2.1
  have hcat := g_catS b ad st
  have hR1 := T.2.1.1
  have hR2 := T.2.1.2
  have hR3 := X.2.1
  have hR4 := X.2.2.1
  have hok : ∀ v ∈ as, g_ok sh.2.2.2 v := fun v hv => T.ok v (by simp [hv])
  have hsto : ∀ v ∈ st, g_ok sh.2.2.2 v := fun v hv => T.ok v (by simp [hv])
  obtain ⟨v1, v3, v4, v5, v6, v7, v8, v9⟩ := hv
  have hcw : CallB R s args md.1 idx md'.2.2.2.2.2.1 md'.2.1 md'.2.2.1 md'.2.2.2.1 (g_words md') (g_room md' mc' ms') mc' ms' np ∧ (Cond.static md'.2.2.2.2.2.1).before args s = true := ⟨callB_of np hW (lw_goodIn (fun w hw => (List.mem_cons.mp hw).elim (fun h => h ▸ v4) id)) rfl rfl rfl (hW _ v3) (hW _ hl) ⟨v7, v8, v9⟩ ⟨by show md'.2.2.2.2.1 + 1 ≤ _; omega, by show 8 + (md'.2.2.1 + 11) + 30 * md'.2.2.2.2.1 ≤ _; omega⟩, hW _ v1⟩
  have hpre : PreS s H (va_Pc (as.map (g_rn b ad)) (g_Pre D cy ad gi gl sh H.size)) (as.map (g_rn b ad)) := ⟨g_blind, g_enter T.mm X.1.2.2.2.2.2.1 X.1.2.2.2.2.2.2.1⟩
  have hM := g_met_i l D cy b ad H.size hG hscr v6 hlev.2.1 v5 hlen T.mm.2.2.2.2 hok hr
  refine va_calli (va_runS (As := as.map (g_rn b ad)) (rest := st.map (g_rn b ad)) ⟨X.1.1, X.1.2.1, X.1.2.2.1, X.1.2.2.2.1, hW⟩ hM hcw hpre rfl (by rw [List.length_map]; exact has) T.lo.1 (by simp [g_rn, List.map_reverse]) (lv_room (by omega)) hd ⟨by omega, by omega⟩) T.mm.2.2.2.1 (fun q _ h9 => T.fr hA q h9) (T.fr hA) (fun r0 u t H1 locs1 ht hvm hw hB hz1 hk1 hS => ?_)
  obtain ⟨r, gi', gl', sh', ad'⟩ := u
  obtain ⟨hp, x, hx, rfl⟩ := hw
  dsimp only at hx
  subst hx
  have T1 := T.back (st := st) hA hsto hp hB ht hS
  have e1 : st.map (g_rn b ad') = st.map (g_rn b ad) := List.map_congr_left (fun v hv => g_rn_ext hp.2.2.1 (hsto v hv))
  have k := h x gi' gl' sh' hp.1 hp.2.1 hp.2.2.2.1 p l e R s m args below meth c Qf A D cy b n0 ad0 MC MS X ad' H1 locs1 (cells + mc') (slots + ms') lsA T1
  rw [List.map_cons, e1] at k
  exact k
theorem g_callS_v (as : List gV) (hd : decode md.2.1 pc = .ok (.invokestatic idx, 3)) (hl : Cond.methodLink md.1 idx md'.2.2.2.2.2.1 ∈ lw_good) (hv : g_MS md' np) (hlev : md'.2.2.2.2.1 < md.2.2.2.2.1 ∧ 1 ≤ md'.2.2.2.2.1 ∧ md'.2.2.1 ≤ 11) (hscr : md'.2.2.2.2.2.2 = none) (has : as.length = np) (hlen : (g_sl as).length ≤ md'.2.2.1) (hstk : stk = as.reverse ++ st) (hst : st.length ≤ 4)
    (hG : Go md' mc' ms' 0 (g_ent md'.2.2.1 as) [] gi gl sh Q') (hr : ∀ r gi gl sh, Q' r gi gl sh → r = none) (h : ∀ (gi' gl' : gF) (sh' : gSh), Q' none gi' gl' sh' → sh.2.2.2 ≤ sh'.2.2.2 → g_wf gi' gl' sh' → Go md mc ms (pc + 3) ls st gi' gl' sh' Q) : Go md (mc + mc') (ms + ms') pc ls stk gi gl sh Q := by
  intro p l e R s m args below meth c Qf A D cy b n0 ad0 MC MS X ad H locs cells slots lsA T
  subst hstk
  have hW := X.1.2.2.2.2.1
  have hF := X.1.2.2.2.2.2.2.2.1
  have hLo := X.1.2.2.2.2.2.2.2.2.1
  have hA := X.1.2.2.2.2.2.2.2.2.2.2.2.1
  have hcat := g_catS b ad st
  have hR1 := T.2.1.1
  have hR2 := T.2.1.2
  have hR3 := X.2.1
  have hR4 := X.2.2.1
  have hok : ∀ v ∈ as, g_ok sh.2.2.2 v := fun v hv => T.ok v (by simp [hv])
  have hsto : ∀ v ∈ st, g_ok sh.2.2.2 v := fun v hv => T.ok v (by simp [hv])
  obtain ⟨v1, v3, v4, v5, v6, v7, v8, v9⟩ := hv
  have hcw : CallB R s args md.1 idx md'.2.2.2.2.2.1 md'.2.1 md'.2.2.1 md'.2.2.2.1 (g_words md') (g_room md' mc' ms') mc' ms' np ∧ (Cond.static md'.2.2.2.2.2.1).before args s = true := ⟨callB_of np hW (lw_goodIn (fun w hw => (List.mem_cons.mp hw).elim (fun h => h ▸ v4) id)) rfl rfl rfl (hW _ v3) (hW _ hl) ⟨v7, v8, v9⟩ ⟨by show md'.2.2.2.2.1 + 1 ≤ _; omega, by show 8 + (md'.2.2.1 + 11) + 30 * md'.2.2.2.2.1 ≤ _; omega⟩, hW _ v1⟩
  have hpre : PreS s H (va_Pc (as.map (g_rn b ad)) (g_Pre D cy ad gi gl sh H.size)) (as.map (g_rn b ad)) := ⟨g_blind, g_enter T.mm X.1.2.2.2.2.2.1 X.1.2.2.2.2.2.2.1⟩
  have hM := g_met_v l D cy b ad H.size hG hscr v6 hlev.2.1 v5 hlen T.mm.2.2.2.2 hok hr
  refine va_callv (va_runS (As := as.map (g_rn b ad)) (rest := st.map (g_rn b ad)) ⟨X.1.1, X.1.2.1, X.1.2.2.1, X.1.2.2.2.1, hW⟩ hM hcw hpre rfl (by rw [List.length_map]; exact has) T.lo.1 (by simp [g_rn, List.map_reverse]) (lv_room (by omega)) hd ⟨by omega, by omega⟩) T.mm.2.2.2.1 (fun q _ h9 => T.fr hA q h9) (T.fr hA) (fun u t H1 locs1 ht hvm hw hB hz1 hk1 hS => ?_)
  obtain ⟨r, gi', gl', sh', ad'⟩ := u
  obtain ⟨hp, hx⟩ := hw
  dsimp only at hx
  subst hx
  have T1 := T.back (st := st) hA hsto hp hB ht hS
  have e1 : st.map (g_rn b ad') = st.map (g_rn b ad) := List.map_congr_left (fun v hv => g_rn_ext hp.2.2.1 (hsto v hv))
  have k := h gi' gl' sh' hp.1 hp.2.1 hp.2.2.2.1 p l e R s m args below meth c Qf A D cy b n0 ad0 MC MS X ad' H1 locs1 (cells + mc') (slots + ms') lsA T1
  rw [e1] at k
  exact k
theorem g_callI {a : Int} (as : List gV) (hd : decode md.2.1 pc = .ok (.invokespecial idx, 3)) (hl : Cond.methodLink md.1 idx md'.2.2.2.2.2.1 ∈ lw_good) (hv : g_MI md' np) (hlev : md'.2.2.2.2.1 < md.2.2.2.2.1 ∧ 1 ≤ md'.2.2.2.2.1 ∧ md'.2.2.1 ≤ 11) (hscr : md'.2.2.2.2.2.2 = none) (has : as.length = np) (hlen : (g_sl (vR a :: as)).length ≤ md'.2.2.1) (hstk : stk = as.reverse ++ vR a :: st) (hst : st.length ≤ 4)
    (hG : Go md' mc' ms' 0 (g_ent md'.2.2.1 (vR a :: as)) [] gi gl sh Q') (hr : ∀ r gi gl sh, Q' r gi gl sh → r = none) (h : ∀ (gi' gl' : gF) (sh' : gSh), Q' none gi' gl' sh' → sh.2.2.2 ≤ sh'.2.2.2 → g_wf gi' gl' sh' → Go md mc ms (pc + 3) ls st gi' gl' sh' Q) : Go md (mc + mc') (ms + ms') pc ls stk gi gl sh Q := by
  intro p l e R s m args below meth c Qf A D cy b n0 ad0 MC MS X ad H locs cells slots lsA T
  subst hstk
  have hW := X.1.2.2.2.2.1
  have hF := X.1.2.2.2.2.2.2.2.1
  have hLo := X.1.2.2.2.2.2.2.2.2.1
  have hA := X.1.2.2.2.2.2.2.2.2.2.2.2.1
  have hcat := g_catS b ad st
  have hR1 := T.2.1.1
  have hR2 := T.2.1.2
  have hR3 := X.2.1
  have hR4 := X.2.2.1
  have hok : ∀ v ∈ vR a :: as, g_ok sh.2.2.2 v := fun v hv => T.ok v (by rcases List.mem_cons.mp hv with rfl | h <;> simp [*])
  have hsto : ∀ v ∈ st, g_ok sh.2.2.2 v := fun v hv => T.ok v (by simp [hv])
  have hra := g_unR (hok (vR a) List.mem_cons_self)
  obtain ⟨v1, vn, v3, v4, v5, v6, v7, v8, v9, v10⟩ := hv
  have v4' : Cond.code md'.2.2.2.2.2.1 md'.2.1 md'.2.2.1 md'.2.2.2.1 ∈ lw_good := by rw [v10]; exact v4
  have hcw : CallB R s args md.1 idx md'.2.2.2.2.2.1 md'.2.1 md'.2.2.1 none (g_words md') (g_room md' mc' ms') mc' ms' np ∧ md'.2.2.2.2.2.1.name = "<init>" ∧ (Cond.instanceMethod md'.2.2.2.2.2.1).before args s = true := ⟨callB_of np hW (lw_goodIn (fun w hw => (List.mem_cons.mp hw).elim (fun h => h ▸ v4') id)) (by rw [g_words, v10]) rfl rfl (hW _ v3) (hW _ hl) ⟨v7, v8, v9⟩ ⟨by show md'.2.2.2.2.1 + 1 ≤ _; omega, by show 8 + (md'.2.2.1 + 11) + 30 * md'.2.2.2.2.1 ≤ _; omega⟩, vn, hW _ v1⟩
  have hpre : PreS s H (va_Pc ((vR a :: as).map (g_rn b ad)) (g_Pre D cy ad gi gl sh H.size)) (.ref (ad a) :: as.map (g_rn b ad)) := ⟨g_blind, g_enter T.mm X.1.2.2.2.2.2.1 X.1.2.2.2.2.2.2.1⟩
  have hM := g_met_v l D cy b ad H.size hG hscr v6 hlev.2.1 v5 hlen T.mm.2.2.2.2 hok hr
  refine va_callv (va_runI (b := ad a) (As := as.map (g_rn b ad)) (rest := st.map (g_rn b ad)) ⟨X.1.1, X.1.2.1, X.1.2.2.1, X.1.2.2.2.1, hW⟩ hM hcw hpre rfl (by rw [List.length_map]; exact has) T.lo.1 (by simp [g_rn, List.map_reverse]) (lv_room (by omega)) hd ⟨by omega, by omega⟩) T.mm.2.2.2.1 (fun q _ h9 => T.fr hA q h9) (T.fr hA) (fun u t H1 locs1 ht hvm hw hB hz1 hk1 hS => ?_)
  obtain ⟨r, gi', gl', sh', ad'⟩ := u
  obtain ⟨hp, hx⟩ := hw
  dsimp only at hx
  subst hx
  have T1 := T.back (st := st) hA hsto hp hB ht hS
  have e1 : st.map (g_rn b ad') = st.map (g_rn b ad) := List.map_congr_left (fun v hv => g_rn_ext hp.2.2.1 (hsto v hv))
  have k := h gi' gl' sh' hp.1 hp.2.1 hp.2.2.2.1 p l e R s m args below meth c Qf A D cy b n0 ad0 MC MS X ad' H1 locs1 (cells + mc') (slots + ms') lsA T1
  rw [e1] at k
  exact k
theorem g_callIN {a : Int} {host : String} (as : List gV) (hd : decode md.2.1 pc = .ok (.invokespecial idx, 3)) (hl : Cond.methodLinkNest md.1 idx md'.2.2.2.2.2.1 host ∈ lw_nest) (hv : g_MI md' np) (hlev : md'.2.2.2.2.1 < md.2.2.2.2.1 ∧ 1 ≤ md'.2.2.2.2.1 ∧ md'.2.2.1 ≤ 11) (hscr : md'.2.2.2.2.2.2 = none) (has : as.length = np) (hlen : (g_sl (vR a :: as)).length ≤ md'.2.2.1) (hstk : stk = as.reverse ++ vR a :: st) (hst : st.length ≤ 4)
    (hG : Go md' mc' ms' 0 (g_ent md'.2.2.1 (vR a :: as)) [] gi gl sh Q') (hr : ∀ r gi gl sh, Q' r gi gl sh → r = none) (h : ∀ (gi' gl' : gF) (sh' : gSh), Q' none gi' gl' sh' → sh.2.2.2 ≤ sh'.2.2.2 → g_wf gi' gl' sh' → Go md mc ms (pc + 3) ls st gi' gl' sh' Q) : Go md (mc + mc') (ms + ms') pc ls stk gi gl sh Q := by
  intro p l e R s m args below meth c Qf A D cy b n0 ad0 MC MS X ad H locs cells slots lsA T
  subst hstk
  have hW := X.1.2.2.2.2.1
  have hF := X.1.2.2.2.2.2.2.2.1
  have hLo := X.1.2.2.2.2.2.2.2.2.1
  have hA := X.1.2.2.2.2.2.2.2.2.2.2.2.1
  have hcat := g_catS b ad st
  have hR1 := T.2.1.1
  have hR2 := T.2.1.2
  have hR3 := X.2.1
  have hR4 := X.2.2.1
  have hok : ∀ v ∈ vR a :: as, g_ok sh.2.2.2 v := fun v hv => T.ok v (by rcases List.mem_cons.mp hv with rfl | h <;> simp [*])
  have hsto : ∀ v ∈ st, g_ok sh.2.2.2 v := fun v hv => T.ok v (by simp [hv])
  have hra := g_unR (hok (vR a) List.mem_cons_self)
  obtain ⟨v1, vn, v3, v4, v5, v6, v7, v8, v9, v10⟩ := hv
  have v4' : Cond.code md'.2.2.2.2.2.1 md'.2.1 md'.2.2.1 md'.2.2.2.1 ∈ lw_good := by rw [v10]; exact v4
  have hcw : va_CN R s args md.1 idx md'.2.2.2.2.2.1 host md'.2.1 md'.2.2.1 none (g_words md') (g_room md' mc' ms') mc' ms' np ∧ md'.2.2.2.2.2.1.name = "<init>" ∧ (Cond.instanceMethod md'.2.2.2.2.2.1).before args s = true := ⟨va_cnB np hW (lw_goodIn (fun w hw => (List.mem_cons.mp hw).elim (fun h => h ▸ v4') id)) (by rw [g_words, v10]) rfl rfl (X.1.2.2.2.2.2.1 _ hl) (hW _ v3) ⟨v7, v8, v9⟩ ⟨by show md'.2.2.2.2.1 + 1 ≤ _; omega, by show 8 + (md'.2.2.1 + 11) + 30 * md'.2.2.2.2.1 ≤ _; omega⟩, vn, hW _ v1⟩
  have hpre : PreS s H (va_Pc ((vR a :: as).map (g_rn b ad)) (g_Pre D cy ad gi gl sh H.size)) (.ref (ad a) :: as.map (g_rn b ad)) := ⟨g_blind, g_enter T.mm X.1.2.2.2.2.2.1 X.1.2.2.2.2.2.2.1⟩
  have hM := g_met_v l D cy b ad H.size hG hscr v6 hlev.2.1 v5 hlen T.mm.2.2.2.2 hok hr
  refine va_callv (va_runIN (b := ad a) (As := as.map (g_rn b ad)) (rest := st.map (g_rn b ad)) ⟨X.1.1, X.1.2.1, X.1.2.2.1, X.1.2.2.2.1, hW⟩ hM hcw hpre rfl (by rw [List.length_map]; exact has) T.lo.1 (by simp [g_rn, List.map_reverse]) (lv_room (by omega)) hd ⟨by omega, by omega⟩) T.mm.2.2.2.1 (fun q _ h9 => T.fr hA q h9) (T.fr hA) (fun u t H1 locs1 ht hvm hw hB hz1 hk1 hS => ?_)
  obtain ⟨r, gi', gl', sh', ad'⟩ := u
  obtain ⟨hp, hx⟩ := hw
  dsimp only at hx
  subst hx
  have T1 := T.back (st := st) hA hsto hp hB ht hS
  have e1 : st.map (g_rn b ad') = st.map (g_rn b ad) := List.map_congr_left (fun v hv => g_rn_ext hp.2.2.1 (hsto v hv))
  have k := h gi' gl' sh' hp.1 hp.2.1 hp.2.2.2.1 p l e R s m args below meth c Qf A D cy b n0 ad0 MC MS X ad' H1 locs1 (cells + mc') (slots + ms') lsA T1
  rw [e1] at k
  exact k
end CALLS
end
section
/-! THE CLAIM OUT OF ONE WALK OF THE LAW'S BODY. Your part is whole_start (and what it stands on); all else here is the same for every law, but numbers. -/
def R_law : String := "SpeckValvesLaw"
def lw_P (b : Addr) (xs : List Int32) (args : Array Value) (s : State) : Prop := args = #[.ref b] ∧ s.IntsAt b xs ∧ xs.length ≤ 2048 ∧ (Jvm.Cond.and given_1 narrow_1).before args s = true
def lw_Q (_ : Array Value) (s : State) (o : Outcome) (t : State) : Prop := o = .returned (some (.int 1)) ∧ Framed s o t [] 600000 7302250
def lw_Z (below : List Frame) (a : Array Value) (s : State) : State → Prop := fun t => ∃ o, t.status = .running ∧ Ended t below o ∧ lw_Q a s o t
/-- the law's own end, with 1 on the stack, nothing written that was there before, its room as the claim has it -/
theorem lw_ret {p : Program} {l : Launch} {e : Env} {s : State} {m : MethodId} {below : List Frame} {meth : Method} {c : Code} {b : Nat} (hx : p.tables.exec = Jvm.exec) (hb : c.code = code) (hr : meth.sig.returnType = ret) (hlocks : meth.locks = false) {pc : Nat} {H : Heap} {ls : Array Slot} (hdg : decode code pc = .ok (.ireturn, 1)) : W p l e room_1 s m #[Value.ref b] below meth c H [] 600000 7302250 (lw_Z below #[Value.ref b] s) (F0 m pc ls [.int 1]) := by
  intro T hT X
  obtain ⟨fs, hret, hrun, hended, hW, hframe⟩ := X.leave (v := some (.int 1)) (hlocks := hlocks) (fun h => by rw [hr] at h; cases h)
  have hmeth' : T.vm.method? m = some meth := X.method'
  refine ⟨T.setFrames fs, ?_, .returned (some (.int 1)), hrun, hended, rfl, ⟨_, rfl⟩, hW, hframe⟩
  jvm_step X.here [X.here.top, hx, hb, hdg, hmeth', hr, ret, narrow_b1]
  (try refine ⟨rfl, ?_⟩); (try refine ⟨rfl, ?_⟩)
  first | (intro acts; rw [hret _ acts rfl rfl rfl]) | rw [hret _ _ rfl rfl rfl]
  exact Steps.refl _
/-- what holds at the law's entry: the machine, the code, the tables' words (any of lw_tbl by 'hts w (by decide +kernel)'), the script of L ints xs at the cell b, what the Statement gives of the start (any of its parts by flat_of_before) -/
def lw_At (p : Program) (s : State) (m : MethodId) (meth : Method) (c : Code) (b L : Nat) (xs : Nat → Int32) : Prop :=
  p.tables.exec = Jvm.exec ∧ c.code = code ∧ meth.sig.returnType = ret ∧ c.maxLocals = 4 ∧ s.vm.findClass R_law = some m.cls ∧ (∀ w ∈ lw_tbl, w.before #[Value.ref b] s = true) ∧ va_X b L xs s s.heap ∧ b < s.heap.size ∧ meth.locks = false ∧ (Jvm.Cond.and given_1 narrow_1).before #[Value.ref b] s = true

theorem g_arrP {s : State} {args : Array Value} {ty : FieldType} (h : (Cond.arrayClass ty).before args s = true) (hra : ∀ x : ClassId, s.vm.findClass ("[" ++ ty.toString) = some x → va_RA s x ty) : ∃ x : ClassId, ArrOfT s x ty ∧ va_RA s x ty := by
  obtain ⟨x, k, comp, h1, h2, h3⟩ := Cond.arrayClass_spec h
  exact ⟨x, fun n z => ⟨fun _ h => (by cases h), k, h2, comp, h3⟩, hra x h1⟩
theorem g_arrO {s : State} {C : String} (h : va_AO C s) : ∃ x : ClassId, ArrOfT s x (.object C) ∧ va_RA s x (.object C) := by
  obtain ⟨comp, x, k, h1, h2, h3, h4, h5⟩ := Cond.arrayOver_spec h
  exact ⟨x, fun n z => ⟨fun _ h => (by cases h), k, h3, comp, h4⟩, k, comp, h3, h4, h1, h5⟩
theorem g_arrK {s : State} {args : Array Value} (hts : ∀ w ∈ lw_good, w.before args s = true) (hO : ∀ C ∈ lw_over, va_AO C s) : ∃ cy : Nat → ClassId, ∀ (k : Nat) (q : ClassId × FieldType), (g_tys cy)[k]? = some q → ArrOfT s q.1 q.2 ∧ va_RA s q.1 q.2 := by
  obtain ⟨c0, h0⟩ := g_arrP (hts _ wa_char) (fun _ h => h)
  obtain ⟨c1, h1⟩ := g_arrP (hts _ wa_int) (fun _ h => h)
  obtain ⟨c2, h2⟩ := g_arrP (hts _ wa_long) (fun _ h => h)
  obtain ⟨c3, h3⟩ := g_arrP (hts _ wa_boolean) (fun _ h => h)
  obtain ⟨c4, h4⟩ := g_arrO (hO "SpeckValves$Blob" (by decide))
  obtain ⟨c5, h5⟩ := g_arrO (hO "SpeckValves$Stand" (by decide))
  obtain ⟨c6, h6⟩ := g_arrO (hO "SpeckValves$Valve" (by decide))
  refine ⟨fun κ => match κ with
    | 10 => c0 | 11 => c1 | 12 => c2 | 13 => c3 | 14 => c4 | 15 => c5 | _ => c6, ?_⟩
  intro k q hq
  match k, hq with
  | 0, hq => cases hq; exact h0
  | 1, hq => cases hq; exact h1
  | 2, hq => cases hq; exact h2
  | 3, hq => cases hq; exact h3
  | 4, hq => cases hq; exact h4
  | 5, hq => cases hq; exact h5
  | 6, hq => cases hq; exact h6
  | k + 7, hq => simp [g_tys] at hq
theorem g_clsK {s : State} {args : Array Value} (hts : ∀ w ∈ lw_good, w.before args s = true) : ∃ D : va_G, ∀ (k : Nat) (q : vw_C), vwCl[k]? = some q → u_Kn s q.1 q.2.1 q.2.2 (D.1 k) (D.2 k) := by
  have h : ∀ k : Nat, ∃ z : ClassId × (Nat → Nat), k < 10 → u_Kn s (g_R k) (g_TT k) (g_nf k) z.1 z.2 := fun k => by
    by_cases hk : k < 10
    · obtain ⟨a, b, h⟩ := u_known hts (g_inn k hk) (hts _ (g_ins k hk).1)
      exact ⟨(a, b), fun _ => h⟩
    · exact ⟨(0, fun _ => 0), fun h => absurd h hk⟩
  refine ⟨(fun k => (h k).choose.1, fun k => (h k).choose.2), ?_⟩
  intro k q hq
  have hk : k < 10 := (List.getElem?_eq_some_iff.mp hq).1
  rw [g_cl k hk] at hq
  cases hq
  exact (h k).choose_spec hk
/-- the law, out of its Go over the empty memory -/
theorem g_start {p : Program} {e : Env} {s : State} {m : MethodId} {below : List Frame} {meth : Method} {c : Code} (l : Launch) {b L : Nat} {xs : Nat → Int32} (mc ms : Nat) (hmc : mc ≤ 600000) (hms : ms ≤ 7302250)
    (hG : Go (mdL_law L xs) mc ms 0 [some vS, none, none, none] [] (fun _ _ => 0) (fun _ _ => 0) (fun _ _ => none, fun _ => 0, fun _ => 0, 0) (fun r _ _ _ => r = some (vI 1))) (C0 : lw_At p s m meth c b L xs) : W p l e room_1 s m #[Value.ref b] below meth c s.heap [] 0 0 (lw_Z below #[Value.ref b] s) (entryFrame m ([Value.ref b] : List Value).toArray 4) := by
  obtain ⟨hx, hb, hr, hml, hown, hts0, hX, hbl, hlocks, hgv⟩ := C0
  have hts : ∀ w ∈ lw_good, w.before #[Value.ref b] s = true := fun w hw => hts0 w (List.mem_filter.mp hw).1
  have hN : ∀ w ∈ lw_nest, va_Nw w s := fun w hw => va_Nw.of (g_isN_on (g_nestN hw)) (hts0 w (lw_nest_in w hw))
  have hO : ∀ C ∈ lw_over, va_AO C s := fun C hC => va_AO.of (hts0 _ (lw_over_in C hC))
  obtain ⟨cy, hcy⟩ := g_arrK hts hO
  obtain ⟨D, hD⟩ := g_clsK hts
  rw [lg_entry_eq]
  have hcx : g_Cx (mdL_law L xs) p room_1 s m #[Value.ref b] meth c (fun q => s.heap.size ≤ q) b :=
    ⟨hx, hb, hml, hown, hts, hN, hO, (by decide : 9 ≤ 10), (by decide : 30 * 9 ≤ 356), (by decide : 1 ≤ 9), fun h => absurd (show ("law" : String) = "<init>" from h) (by decide), fun q h => h, fun L' xs' h => by
      cases h
      exact ⟨hX, hbl, Nat.not_le.mpr hbl⟩⟩
  have hok : ∀ v ∈ [vS], g_ok 0 v := fun v hv => by rcases List.mem_singleton.mp hv with rfl; trivial
  have hl := g_Lo.entry (b := b) (ad := fun _ => 0) (n := 0) (nL := 4) (as := [vS]) hok (by decide)
  refine hG p l e room_1 s m #[Value.ref b] below meth c (lw_Z below #[Value.ref b] s) (fun q => s.heap.size ≤ q) D cy b 0 (fun _ => 0) mc ms ⟨hcx, hmc, hms, ?_⟩ (fun _ => 0) s.heap [] 0 0 _ ⟨⟨Nat.le_refl _, fun _ _ _ => rfl⟩, ⟨by omega, by omega⟩, ⟨⟨hD, hcy⟩, fun k q h => by simp [g_ws] at h, ⟨fun i j p q h => by simp [g_ws] at h, fun k q h => by simp [g_ws] at h⟩, va_S.rf, ⟨fun _ _ => (by decide : (-2147483648 : Int) ≤ 0 ∧ (0 : Int) ≤ 2147483647), fun _ _ => (by decide : (-9223372036854775808 : Int) ≤ 0 ∧ (0 : Int) ≤ 9223372036854775807), fun _ _ _ h => by cases h⟩⟩, hl, fun v hv => by cases hv⟩
  intro r gi gl sh ad H locs cells slots pc lsA hQ hn hext hM hc hs hR hrok
  subst hQ
  refine va_forget (fun q hq => hM.2.2.2.1.2.2 q hq) ?_
  refine W.widen (k := 600000) (n := 7302250) (Nat.le_trans hc hmc) (Nat.le_trans hs hms) ?_
  exact lw_ret hx hb hr hlocks hR.2
end
section
/-! contracts: 'Ct' is Go from a method's entry; 'Rt' one certain end -/
def Ct (md : gMD) (mc ms : Nat) (as : List gV) (gi gl : gF) (sh : gSh) (Q : gQ) : Prop := Go md mc ms 0 (g_ent md.2.2.1 as) [] gi gl sh Q
def Rt (r0 : Option gV) (gi1 gl1 : gF) (sh1 : gSh) : gQ := fun r gi gl sh => r = r0 ∧ gi = gi1 ∧ gl = gl1 ∧ sh = sh1
theorem Go.imp {md : gMD} {mc ms pc : Nat} {ls : List (Option gV)} {st : List gV} {gi gl : gF} {sh : gSh} {Q Q' : gQ} (h : Go md mc ms pc ls st gi gl sh Q) (hq : ∀ r gi gl sh, Q r gi gl sh → Q' r gi gl sh) : Go md mc ms pc ls st gi gl sh Q' := by
  intro p l e R s m args below meth c Qf A D cy b n0 ad0 MC MS X ad H locs cells slots lsA T
  exact h p l e R s m args below meth c Qf A D cy b n0 ad0 MC MS ⟨X.1, X.2.1, X.2.2.1, fun r gi gl sh ad H locs cells slots pc lsA hQ => X.2.2.2 r gi gl sh ad H locs cells slots pc lsA (hq r gi gl sh hQ)⟩ ad H locs cells slots lsA T
/-- what is known of every memory: ints are ints -/
theorem Go.wf {md : gMD} {mc ms pc : Nat} {ls : List (Option gV)} {st : List gV} {gi gl : gF} {sh : gSh} {Q : gQ} (h : g_wf gi gl sh → Go md mc ms pc ls st gi gl sh Q) : Go md mc ms pc ls st gi gl sh Q := by
  intro p l e R s m args below meth c Qf A D cy b n0 ad0 MC MS X ad H locs cells slots lsA T
  exact h T.mm.2.2.2.2 p l e R s m args below meth c Qf A D cy b n0 ad0 MC MS X ad H locs cells slots lsA T
/-- and what lies in a local -/
theorem Go.loc {md : gMD} {mc ms pc : Nat} {ls : List (Option gV)} {st : List gV} {gi gl : gF} {sh : gSh} {Q : gQ} (i : Nat) (v : gV) (hi : ls[i]? = some (some v)) (h : g_ok sh.2.2.2 v → Go md mc ms pc ls st gi gl sh Q) : Go md mc ms pc ls st gi gl sh Q := by
  intro p l e R s m args below meth c Qf A D cy b n0 ad0 MC MS X ad H locs cells slots lsA T
  exact h (T.lo.2.2.2 i v hi).2 p l e R s m args below meth c Qf A D cy b n0 ad0 MC MS X ad H locs cells slots lsA T
theorem Go.locI {md : gMD} {mc ms pc : Nat} {ls : List (Option gV)} {st : List gV} {gi gl : gF} {sh : gSh} {Q : gQ} (i : Nat) (x : Int) (hi : ls[i]? = some (some (vI x))) (h : -2147483648 ≤ x ∧ x ≤ 2147483647 → Go md mc ms pc ls st gi gl sh Q) : Go md mc ms pc ls st gi gl sh Q := Go.loc i (vI x) hi (fun q => h (g_unI q))
theorem Go.locL {md : gMD} {mc ms pc : Nat} {ls : List (Option gV)} {st : List gV} {gi gl : gF} {sh : gSh} {Q : gQ} (i : Nat) (x : Int) (hi : ls[i]? = some (some (vL x))) (h : -9223372036854775808 ≤ x ∧ x ≤ 9223372036854775807 → Go md mc ms pc ls st gi gl sh Q) : Go md mc ms pc ls st gi gl sh Q := Go.loc i (vL x) hi (fun q => h (g_unL q))
section CT
variable {md md' : gMD} {mc ms mc' ms' pc idx ci np : Nat} {ls : List (Option gV)} {st stk : List gV} {gi gl gi1 gl1 : gF} {sh sh1 : gSh} {Q Q' : gQ}
theorem g_cVi {a : Int} {x : Int} (as : List gV) (hd : decode md.2.1 pc = .ok (.invokevirtual idx, 3)) (hl : Cond.methodLink md.1 idx md'.2.2.2.2.2.1 ∈ lw_good) (hv : g_MV md' ci np) (hc : ci < 10) (hkd : sh.2.1 a = ci) (hlev : md'.2.2.2.2.1 < md.2.2.2.2.1 ∧ 1 ≤ md'.2.2.2.2.1 ∧ md'.2.2.1 ≤ 11) (hscr : md'.2.2.2.2.2.2 = none) (has : as.length = np) (hlen : (g_sl (vR a :: as)).length ≤ md'.2.2.1) (hstk : stk = as.reverse ++ vR a :: st) (hst : st.length ≤ 4) (hG : Ct md' mc' ms' (vR a :: as) gi gl sh (Rt (some (vI x)) gi1 gl1 sh1)) (h : Go md mc ms (pc + 3) ls (vI x :: st) gi1 gl1 sh1 Q) : Go md (mc + mc') (ms + ms') pc ls stk gi gl sh Q :=
  g_callV_i as hd hl hv hc hkd hlev hscr has hlen hstk hst hG (fun _ _ _ _ q => ⟨x, q.1⟩) (fun _ _ _ _ q _ _ => by obtain ⟨q1, rfl, rfl, rfl⟩ := q; cases q1; exact h)
theorem g_cVv {a : Int} (as : List gV) (hd : decode md.2.1 pc = .ok (.invokevirtual idx, 3)) (hl : Cond.methodLink md.1 idx md'.2.2.2.2.2.1 ∈ lw_good) (hv : g_MV md' ci np) (hc : ci < 10) (hkd : sh.2.1 a = ci) (hlev : md'.2.2.2.2.1 < md.2.2.2.2.1 ∧ 1 ≤ md'.2.2.2.2.1 ∧ md'.2.2.1 ≤ 11) (hscr : md'.2.2.2.2.2.2 = none) (has : as.length = np) (hlen : (g_sl (vR a :: as)).length ≤ md'.2.2.1) (hstk : stk = as.reverse ++ vR a :: st) (hst : st.length ≤ 4) (hG : Ct md' mc' ms' (vR a :: as) gi gl sh (Rt none gi1 gl1 sh1)) (h : Go md mc ms (pc + 3) ls st gi1 gl1 sh1 Q) : Go md (mc + mc') (ms + ms') pc ls stk gi gl sh Q :=
  g_callV_v as hd hl hv hc hkd hlev hscr has hlen hstk hst hG (fun _ _ _ _ q => q.1) (fun _ _ _ q _ _ => by obtain ⟨-, rfl, rfl, rfl⟩ := q; exact h)
theorem g_cVl {a : Int} {x : Int} (as : List gV) (hd : decode md.2.1 pc = .ok (.invokevirtual idx, 3)) (hl : Cond.methodLink md.1 idx md'.2.2.2.2.2.1 ∈ lw_good) (hv : g_MV md' ci np) (hc : ci < 10) (hkd : sh.2.1 a = ci) (hlev : md'.2.2.2.2.1 < md.2.2.2.2.1 ∧ 1 ≤ md'.2.2.2.2.1 ∧ md'.2.2.1 ≤ 11) (hscr : md'.2.2.2.2.2.2 = none) (has : as.length = np) (hlen : (g_sl (vR a :: as)).length ≤ md'.2.2.1) (hstk : stk = as.reverse ++ vR a :: st) (hst : st.length ≤ 4) (hG : Ct md' mc' ms' (vR a :: as) gi gl sh (Rt (some (vL x)) gi1 gl1 sh1)) (h : Go md mc ms (pc + 3) ls (vL x :: st) gi1 gl1 sh1 Q) : Go md (mc + mc') (ms + ms') pc ls stk gi gl sh Q :=
  g_callV_l as hd hl hv hc hkd hlev hscr has hlen hstk hst hG (fun _ _ _ _ q => ⟨x, q.1⟩) (fun _ _ _ _ q _ _ => by obtain ⟨q1, rfl, rfl, rfl⟩ := q; cases q1; exact h)
theorem g_cSi {x : Int} (as : List gV) (hd : decode md.2.1 pc = .ok (.invokestatic idx, 3)) (hl : Cond.methodLink md.1 idx md'.2.2.2.2.2.1 ∈ lw_good) (hv : g_MS md' np) (hlev : md'.2.2.2.2.1 < md.2.2.2.2.1 ∧ 1 ≤ md'.2.2.2.2.1 ∧ md'.2.2.1 ≤ 11) (hscr : md'.2.2.2.2.2.2 = none) (has : as.length = np) (hlen : (g_sl as).length ≤ md'.2.2.1) (hstk : stk = as.reverse ++ st) (hst : st.length ≤ 4) (hG : Ct md' mc' ms' as gi gl sh (Rt (some (vI x)) gi1 gl1 sh1)) (h : Go md mc ms (pc + 3) ls (vI x :: st) gi1 gl1 sh1 Q) : Go md (mc + mc') (ms + ms') pc ls stk gi gl sh Q :=
  g_callS_i as hd hl hv hlev hscr has hlen hstk hst hG (fun _ _ _ _ q => ⟨x, q.1⟩) (fun _ _ _ _ q _ _ => by obtain ⟨q1, rfl, rfl, rfl⟩ := q; cases q1; exact h)
theorem g_cSv (as : List gV) (hd : decode md.2.1 pc = .ok (.invokestatic idx, 3)) (hl : Cond.methodLink md.1 idx md'.2.2.2.2.2.1 ∈ lw_good) (hv : g_MS md' np) (hlev : md'.2.2.2.2.1 < md.2.2.2.2.1 ∧ 1 ≤ md'.2.2.2.2.1 ∧ md'.2.2.1 ≤ 11) (hscr : md'.2.2.2.2.2.2 = none) (has : as.length = np) (hlen : (g_sl as).length ≤ md'.2.2.1) (hstk : stk = as.reverse ++ st) (hst : st.length ≤ 4) (hG : Ct md' mc' ms' as gi gl sh (Rt none gi1 gl1 sh1)) (h : Go md mc ms (pc + 3) ls st gi1 gl1 sh1 Q) : Go md (mc + mc') (ms + ms') pc ls stk gi gl sh Q :=
  g_callS_v as hd hl hv hlev hscr has hlen hstk hst hG (fun _ _ _ _ q => q.1) (fun _ _ _ q _ _ => by obtain ⟨-, rfl, rfl, rfl⟩ := q; exact h)
theorem g_cI {a : Int} (as : List gV) (hd : decode md.2.1 pc = .ok (.invokespecial idx, 3)) (hl : Cond.methodLink md.1 idx md'.2.2.2.2.2.1 ∈ lw_good) (hv : g_MI md' np) (hlev : md'.2.2.2.2.1 < md.2.2.2.2.1 ∧ 1 ≤ md'.2.2.2.2.1 ∧ md'.2.2.1 ≤ 11) (hscr : md'.2.2.2.2.2.2 = none) (has : as.length = np) (hlen : (g_sl (vR a :: as)).length ≤ md'.2.2.1) (hstk : stk = as.reverse ++ vR a :: st) (hst : st.length ≤ 4) (hG : Ct md' mc' ms' (vR a :: as) gi gl sh (Rt none gi1 gl1 sh1)) (h : Go md mc ms (pc + 3) ls st gi1 gl1 sh1 Q) : Go md (mc + mc') (ms + ms') pc ls stk gi gl sh Q :=
  g_callI as hd hl hv hlev hscr has hlen hstk hst hG (fun _ _ _ _ q => q.1) (fun _ _ _ q _ _ => by obtain ⟨-, rfl, rfl, rfl⟩ := q; exact h)
theorem g_cIN {a : Int} {host : String} (as : List gV) (hd : decode md.2.1 pc = .ok (.invokespecial idx, 3)) (hl : Cond.methodLinkNest md.1 idx md'.2.2.2.2.2.1 host ∈ lw_nest) (hv : g_MI md' np) (hlev : md'.2.2.2.2.1 < md.2.2.2.2.1 ∧ 1 ≤ md'.2.2.2.2.1 ∧ md'.2.2.1 ≤ 11) (hscr : md'.2.2.2.2.2.2 = none) (has : as.length = np) (hlen : (g_sl (vR a :: as)).length ≤ md'.2.2.1) (hstk : stk = as.reverse ++ vR a :: st) (hst : st.length ≤ 4) (hG : Ct md' mc' ms' (vR a :: as) gi gl sh (Rt none gi1 gl1 sh1)) (h : Go md mc ms (pc + 3) ls st gi1 gl1 sh1 Q) : Go md (mc + mc') (ms + ms') pc ls stk gi gl sh Q :=
  g_callIN as hd hl hv hlev hscr has hlen hstk hst hG (fun _ _ _ _ q => q.1) (fun _ _ _ q _ _ => by obtain ⟨-, rfl, rfl, rfl⟩ := q; exact h)
end CT
end
section
/-! stores with the locals told anew as a plain list -/
section NORM
variable {md : gMD} {mc ms pc : Nat} {ls lN : List (Option gV)} {st : List gV} {gi gl : gF} {sh : gSh} {Q : gQ}
theorem n_istore_n {k : Fin 4} {x : Int} (hd : decode md.2.1 pc = .ok (.istore_n k, 1)) (hi : (k : Nat) < md.2.2.1) (hN : g_s1 ls (k : Nat) (vI x) = lN) (h : Go md mc ms (pc + 1) lN st gi gl sh Q) : Go md mc ms pc ls (vI x :: st) gi gl sh Q := g_istore_n hd hi (hN ▸ h)
theorem n_istore {i : Nat} {x : Int} (hd : decode md.2.1 pc = .ok (.istore i, 2)) (hi : i < md.2.2.1) (hN : g_s1 ls i (vI x) = lN) (h : Go md mc ms (pc + 2) lN st gi gl sh Q) : Go md mc ms pc ls (vI x :: st) gi gl sh Q := g_istore hd hi (hN ▸ h)
theorem n_astore_n {k : Fin 4} {x : Int} (hd : decode md.2.1 pc = .ok (.astore_n k, 1)) (hi : (k : Nat) < md.2.2.1) (hN : g_s1 ls (k : Nat) (vR x) = lN) (h : Go md mc ms (pc + 1) lN st gi gl sh Q) : Go md mc ms pc ls (vR x :: st) gi gl sh Q := g_astore_n hd hi (hN ▸ h)
theorem n_astore {i : Nat} {x : Int} (hd : decode md.2.1 pc = .ok (.astore i, 2)) (hi : i < md.2.2.1) (hN : g_s1 ls i (vR x) = lN) (h : Go md mc ms (pc + 2) lN st gi gl sh Q) : Go md mc ms pc ls (vR x :: st) gi gl sh Q := g_astore hd hi (hN ▸ h)
theorem n_lstore_n {k : Fin 4} {x : Int} (hd : decode md.2.1 pc = .ok (.lstore_n k, 1)) (hi : (k : Nat) + 1 < md.2.2.1) (hN : g_s2 ls (k : Nat) (vL x) = lN) (h : Go md mc ms (pc + 1) lN st gi gl sh Q) : Go md mc ms pc ls (vL x :: st) gi gl sh Q := g_lstore_n hd hi (hN ▸ h)
theorem n_lstore {i : Nat} {x : Int} (hd : decode md.2.1 pc = .ok (.lstore i, 2)) (hi : i + 1 < md.2.2.1) (hN : g_s2 ls i (vL x) = lN) (h : Go md mc ms (pc + 2) lN st gi gl sh Q) : Go md mc ms pc ls (vL x :: st) gi gl sh Q := g_lstore hd hi (hN ▸ h)
theorem n_iinc {i : Nat} {n x : Int} (hd : decode md.2.1 pc = .ok (.iinc i n, 3)) (hl : ls[i]? = some (some (vI x))) (hi : i < md.2.2.1) (h1 : -2147483648 ≤ x + n) (h2 : x + n ≤ 2147483647) (hN : g_s1 ls i (vI (x + n)) = lN) (h : Go md mc ms (pc + 3) lN st gi gl sh Q) : Go md mc ms pc ls st gi gl sh Q := g_iinc hd hl hi h1 h2 (hN ▸ h)
end NORM
end
section
/-! Blob: a row of eight ints: first, last, beganAt, left, right, size, colours, dark -/
abbrev gRw : Type := Int → Int
def bl_mean (r : gRw) : Int := if 0 < r 5 then r 6 / r 5 else 0
def bl_meas (r : gRw) (k : Int) : Int := if k = 0 then bl_mean r else if k = 1 then r 7 else if k = 2 then r 5 else r 1 - r 0 + 1
def bl_worth (r : gRw) : Int := if r 7 = 0 then r 5 else -3 * r 7
def bl_lt (r q : gRw) : Prop := r 0 < q 0 ∨ r 0 = q 0 ∧ r 2 < q 2
def bl_cpy (r q : gRw) : gRw := fun k => if 0 ≤ k ∧ k < 8 then q k else r k
def bl_new (r : gRw) (t c : Int) : gRw := fun k => if k = 0 then t else if k = 1 then t else if k = 2 then c else if k = 3 then c else if k = 4 then c else if k = 6 then 0 else if k = 7 then 0 else r k
def bl_inc (r : gRw) (t c col dk : Int) : gRw := fun k => if k = 1 then max (r 1) t else if k = 3 then min (r 3) c else if k = 4 then max (r 4) c else if k = 5 then r 5 + 1 else if k = 6 then r 6 + col else if k = 7 then r 7 + dk else r k
def bl_add (r : gRw) (t c col dk : Int) : gRw := if r 5 = 0 then bl_inc (bl_new r t c) t c col dk else bl_inc r t c col dk
def bl_abs (r q : gRw) : gRw := fun k => if k = 0 then (if q 0 < r 0 ∨ q 0 = r 0 ∧ q 2 < r 2 then q 0 else r 0) else if k = 2 then (if q 0 < r 0 ∨ q 0 = r 0 ∧ q 2 < r 2 then q 2 else r 2) else if k = 1 then max (r 1) (q 1) else if k = 3 then min (r 3) (q 3) else if k = 4 then max (r 4) (q 4) else if k = 5 then r 5 + q 5 else if k = 6 then r 6 + q 6 else if k = 7 then r 7 + q 7 else r k
def bl_off (r : gRw) : gRw := fun k => if k = 5 then 0 else r k
/-- a row's numbers are small -/
def bl_ok (r : gRw) : Prop := ∀ k : Int, 0 ≤ k → k < 8 → 0 ≤ r k ∧ r k ≤ 100000
theorem g_row_at {α : Type} {f : Int → α} {a : Int} {v : α} : g_row f a v a = v := by simp [g_row]
theorem g_up_as_row {gi : gF} {a i v : Int} : g_up gi a i v = g_row gi a (fun k => if k = i then v else gi a k) := by
  funext b k
  simp only [g_up, g_row]
  by_cases hb : b = a
  · subst hb; by_cases hk : k = i <;> simp [hk]
  · simp [hb]
theorem g_row_row {α : Type} {f : Int → α} {a : Int} {v w : α} : g_row (g_row f a v) a w = g_row f a w := by
  funext b; simp only [g_row]; split <;> rfl
theorem g_row_self {α : Type} {f : Int → α} {a : Int} : g_row f a (f a) = f := by
  funext b; simp only [g_row]; split
  · rename_i h; rw [h]
  · rfl
theorem bl_lt_z (r q : gRw) : ∃ z : Int, (bl_lt r q → z = 1) ∧ (¬ bl_lt r q → z = 0) := by
  by_cases h : bl_lt r q
  · exact ⟨1, fun _ => rfl, fun h2 => absurd h h2⟩
  · exact ⟨0, fun h2 => absurd h2 h, fun _ => rfl⟩
section BLOB
variable {gi gl : gF} {sh : gSh} {a b : Int}
set_option maxRecDepth 20000 in
set_option maxHeartbeats 1000000 in
theorem c_endTick (hk : sh.2.1 a = 0) (h1 : 0 ≤ gi a 1 ∧ gi a 1 ≤ 100000) : Ct mdX0_endTick 0 0 [vR a] gi gl sh (Rt (some (vI (gi a 1 + 1))) gi gl sh) := by
  show Go mdX0_endTick 0 0 0 [some (vR a)] [] gi gl sh _
  refine g_aload_n dX0_endTick_0 rfl ?_
  refine g_getI 1 dX0_endTick_1 flX0_19 rfl (by assumption) ?_
  refine g_iconst dX0_endTick_4 (by decide) ?_
  refine g_iadd dX0_endTick_5 (by omega) (by omega) ?_
  refine g_ireturn dX0_endTick_6 rfl ?_
  exact ⟨rfl, rfl, rfl, rfl⟩

set_option maxRecDepth 20000 in
set_option maxHeartbeats 1000000 in
theorem c_mean (hk : sh.2.1 a = 0) (h1 : 0 ≤ gi a 6 ∧ gi a 6 ≤ 100000) : Ct mdX0_mean 0 0 [vR a] gi gl sh (Rt (some (vI (bl_mean (gi a)))) gi gl sh) := by
  show Go mdX0_mean 0 0 0 [some (vR a)] [] gi gl sh _
  refine g_aload_n dX0_mean_0 rfl ?_
  refine g_getI 5 dX0_mean_1 flX0_9 rfl (by assumption) ?_
  refine g_if_le 19 dX0_mean_4 (by decide) (fun h4 => ?_) (fun h4 => ?_)
  · skip
    refine g_iconst dX0_mean_19 (by decide) ?_
    refine g_ireturn dX0_mean_20 rfl ?_
    exact ⟨by first | (rw [bl_mean, if_pos (by omega)]; done) | (rw [bl_mean, if_neg (by omega)]; done), rfl, rfl, rfl⟩
  · skip
    refine g_aload_n dX0_mean_7 rfl ?_
    refine g_getI 6 dX0_mean_8 flX0_37 rfl (by assumption) ?_
    refine g_aload_n dX0_mean_11 rfl ?_
    refine g_getI 5 dX0_mean_12 flX0_9 rfl (by assumption) ?_
    refine g_idiv dX0_mean_15 (by omega) (by omega) ?_
    refine g_goto 20 dX0_mean_16 (by decide) ?_
    refine g_ireturn dX0_mean_20 rfl ?_
    exact ⟨by first | (rw [bl_mean, if_pos (by omega)]; done) | (rw [bl_mean, if_neg (by omega)]; done), rfl, rfl, rfl⟩

set_option maxRecDepth 20000 in
set_option maxHeartbeats 1000000 in
theorem c_measure (hk : sh.2.1 a = 0) (h1 : bl_ok (gi a)) (k : Int) : Ct mdX0_measure 0 0 [vR a, vI k] gi gl sh (Rt (some (vI (bl_meas (gi a) k))) gi gl sh) := by
  show Go mdX0_measure 0 0 0 [some (vR a), some (vI k)] [] gi gl sh _
  have q0 := h1 0 (by decide) (by decide)
  have q1 := h1 1 (by decide) (by decide)
  refine g_iload_n dX0_measure_0 rfl ?_
  rcases (show k < 0 ∨ 2 < k ∨ k = 0 ∨ k = 1 ∨ k = 2 by omega) with hsw | hsw | hsw | hsw | hsw
  · skip
    refine g_tableOut 43 dX0_measure_1 (by omega) (by decide) ?_
    refine g_aload_n dX0_measure_43 rfl ?_
    refine g_getI 1 dX0_measure_44 flX0_19 rfl (by assumption) ?_
    refine g_aload_n dX0_measure_47 rfl ?_
    refine g_getI 0 dX0_measure_48 flX0_43 rfl (by assumption) ?_
    refine g_isub dX0_measure_51 (by omega) (by omega) ?_
    refine g_iconst dX0_measure_52 (by decide) ?_
    refine g_iadd dX0_measure_53 (by omega) (by omega) ?_
    refine g_ireturn dX0_measure_54 rfl ?_
    exact ⟨by simp only [bl_meas]; first | (rw [if_pos (by omega)]; done) | (rw [if_neg (by omega), if_pos (by omega)]; done) | (rw [if_neg (by omega), if_neg (by omega), if_pos (by omega)]; done) | (rw [if_neg (by omega), if_neg (by omega), if_neg (by omega)]; done), rfl, rfl, rfl⟩
  · skip
    refine g_tableOut 43 dX0_measure_1 (by omega) (by decide) ?_
    refine g_aload_n dX0_measure_43 rfl ?_
    refine g_getI 1 dX0_measure_44 flX0_19 rfl (by assumption) ?_
    refine g_aload_n dX0_measure_47 rfl ?_
    refine g_getI 0 dX0_measure_48 flX0_43 rfl (by assumption) ?_
    refine g_isub dX0_measure_51 (by omega) (by omega) ?_
    refine g_iconst dX0_measure_52 (by decide) ?_
    refine g_iadd dX0_measure_53 (by omega) (by omega) ?_
    refine g_ireturn dX0_measure_54 rfl ?_
    exact ⟨by simp only [bl_meas]; first | (rw [if_pos (by omega)]; done) | (rw [if_neg (by omega), if_pos (by omega)]; done) | (rw [if_neg (by omega), if_neg (by omega), if_pos (by omega)]; done) | (rw [if_neg (by omega), if_neg (by omega), if_neg (by omega)]; done), rfl, rfl, rfl⟩
  · skip
    refine g_tableIn 28 dX0_measure_1 (by omega) (by omega) (by rw [hsw]; rfl) (by decide) ?_
    refine g_aload_n dX0_measure_28 rfl ?_
    refine g_cVi [] dX0_measure_29 mlX0_53 mvX0_mean (by decide) (by assumption) (by decide) rfl rfl (Nat.le_of_ble_eq_true rfl) rfl (Nat.le_of_ble_eq_true rfl) (c_mean hk (h1 6 (by decide) (by decide))) ?_
    refine g_ireturn dX0_measure_32 rfl ?_
    exact ⟨by simp only [bl_meas]; first | (rw [if_pos (by omega)]; done) | (rw [if_neg (by omega), if_pos (by omega)]; done) | (rw [if_neg (by omega), if_neg (by omega), if_pos (by omega)]; done) | (rw [if_neg (by omega), if_neg (by omega), if_neg (by omega)]; done), rfl, rfl, rfl⟩
  · skip
    refine g_tableIn 33 dX0_measure_1 (by omega) (by omega) (by rw [hsw]; rfl) (by decide) ?_
    refine g_aload_n dX0_measure_33 rfl ?_
    refine g_getI 7 dX0_measure_34 flX0_40 rfl (by assumption) ?_
    refine g_ireturn dX0_measure_37 rfl ?_
    exact ⟨by simp only [bl_meas]; first | (rw [if_pos (by omega)]; done) | (rw [if_neg (by omega), if_pos (by omega)]; done) | (rw [if_neg (by omega), if_neg (by omega), if_pos (by omega)]; done) | (rw [if_neg (by omega), if_neg (by omega), if_neg (by omega)]; done), rfl, rfl, rfl⟩
  · skip
    refine g_tableIn 38 dX0_measure_1 (by omega) (by omega) (by rw [hsw]; rfl) (by decide) ?_
    refine g_aload_n dX0_measure_38 rfl ?_
    refine g_getI 5 dX0_measure_39 flX0_9 rfl (by assumption) ?_
    refine g_ireturn dX0_measure_42 rfl ?_
    exact ⟨by simp only [bl_meas]; first | (rw [if_pos (by omega)]; done) | (rw [if_neg (by omega), if_pos (by omega)]; done) | (rw [if_neg (by omega), if_neg (by omega), if_pos (by omega)]; done) | (rw [if_neg (by omega), if_neg (by omega), if_neg (by omega)]; done), rfl, rfl, rfl⟩

set_option maxRecDepth 20000 in
set_option maxHeartbeats 1000000 in
theorem c_worth (hk : sh.2.1 a = 0) (h1 : bl_ok (gi a)) : Ct mdX0_worth 0 0 [vR a] gi gl sh (Rt (some (vI (bl_worth (gi a)))) gi gl sh) := by
  show Go mdX0_worth 0 0 0 [some (vR a)] [] gi gl sh _
  have q0 := h1 7 (by decide) (by decide)
  refine g_aload_n dX0_worth_0 rfl ?_
  refine g_getI 7 dX0_worth_1 flX0_40 rfl (by assumption) ?_
  refine g_if_ne 14 dX0_worth_4 (by decide) (fun h4 => ?_) (fun h4 => ?_)
  · skip
    refine g_bipush dX0_worth_14 (by decide) (by decide) ?_
    refine g_aload_n dX0_worth_16 rfl ?_
    refine g_getI 7 dX0_worth_17 flX0_40 rfl (by assumption) ?_
    refine g_imul dX0_worth_20 (by omega) (by omega) ?_
    refine g_ireturn dX0_worth_21 rfl ?_
    exact ⟨by simp [bl_worth, *], rfl, rfl, rfl⟩
  · skip
    refine g_aload_n dX0_worth_7 rfl ?_
    refine g_getI 5 dX0_worth_8 flX0_9 rfl (by assumption) ?_
    refine g_goto 21 dX0_worth_11 (by decide) ?_
    refine g_ireturn dX0_worth_21 rfl ?_
    exact ⟨by simp [bl_worth, *], rfl, rfl, rfl⟩

set_option maxRecDepth 20000 in
set_option maxHeartbeats 1000000 in
theorem c_beganBefore (hk : sh.2.1 a = 0) (hk2 : sh.2.1 b = 0) (z : Int) (h1 : bl_lt (gi a) (gi b) → z = 1) (h0 : ¬ bl_lt (gi a) (gi b) → z = 0) : Ct mdX0_beganBefore 0 0 [vR a, vR b] gi gl sh (Rt (some (vI z)) gi gl sh) := by
  show Go mdX0_beganBefore 0 0 0 [some (vR a), some (vR b)] [] gi gl sh _
  refine g_aload_n dX0_beganBefore_0 rfl ?_
  refine g_getI 0 dX0_beganBefore_1 flX0_43 rfl (by assumption) ?_
  refine g_aload_n dX0_beganBefore_4 rfl ?_
  refine g_getI 0 dX0_beganBefore_5 flX0_43 rfl (by assumption) ?_
  refine g_icmp_lt 33 dX0_beganBefore_8 (by decide) (fun h8 => ?_) (fun h8 => ?_)
  · skip
    refine g_iconst dX0_beganBefore_33 (by decide) ?_
    refine g_goto 38 dX0_beganBefore_34 (by decide) ?_
    refine g_zreturn dX0_beganBefore_38 rfl (by omega) ?_
    exact ⟨by first | (rw [h1 (by unfold bl_lt; omega)]; done) | (rw [h0 (by unfold bl_lt; omega)]; done), rfl, rfl, rfl⟩
  · skip
    refine g_aload_n dX0_beganBefore_11 rfl ?_
    refine g_getI 0 dX0_beganBefore_12 flX0_43 rfl (by assumption) ?_
    refine g_aload_n dX0_beganBefore_15 rfl ?_
    refine g_getI 0 dX0_beganBefore_16 flX0_43 rfl (by assumption) ?_
    refine g_icmp_ne 37 dX0_beganBefore_19 (by decide) (fun h19 => ?_) (fun h19 => ?_)
    · skip
      refine g_iconst dX0_beganBefore_37 (by decide) ?_
      refine g_zreturn dX0_beganBefore_38 rfl (by omega) ?_
      exact ⟨by first | (rw [h1 (by unfold bl_lt; omega)]; done) | (rw [h0 (by unfold bl_lt; omega)]; done), rfl, rfl, rfl⟩
    · skip
      refine g_aload_n dX0_beganBefore_22 rfl ?_
      refine g_getI 2 dX0_beganBefore_23 flX0_46 rfl (by assumption) ?_
      refine g_aload_n dX0_beganBefore_26 rfl ?_
      refine g_getI 2 dX0_beganBefore_27 flX0_46 rfl (by assumption) ?_
      refine g_icmp_ge 37 dX0_beganBefore_30 (by decide) (fun h30 => ?_) (fun h30 => ?_)
      · skip
        refine g_iconst dX0_beganBefore_37 (by decide) ?_
        refine g_zreturn dX0_beganBefore_38 rfl (by omega) ?_
        exact ⟨by first | (rw [h1 (by unfold bl_lt; omega)]; done) | (rw [h0 (by unfold bl_lt; omega)]; done), rfl, rfl, rfl⟩
      · skip
        refine g_iconst dX0_beganBefore_33 (by decide) ?_
        refine g_goto 38 dX0_beganBefore_34 (by decide) ?_
        refine g_zreturn dX0_beganBefore_38 rfl (by omega) ?_
        exact ⟨by first | (rw [h1 (by unfold bl_lt; omega)]; done) | (rw [h0 (by unfold bl_lt; omega)]; done), rfl, rfl, rfl⟩

set_option maxRecDepth 20000 in
set_option maxHeartbeats 1000000 in
theorem c_copyFrom (hk : sh.2.1 a = 0) (hk2 : sh.2.1 b = 0) (hab : b ≠ a) : Ct mdX0_copyFrom 0 0 [vR a, vR b] gi gl sh (Rt none (g_row gi a (bl_cpy (gi a) (gi b))) gl sh) := by
  show Go mdX0_copyFrom 0 0 0 [some (vR a), some (vR b)] [] gi gl sh _
  refine g_aload_n dX0_copyFrom_0 rfl ?_
  refine g_aload_n dX0_copyFrom_1 rfl ?_
  refine g_getI 0 dX0_copyFrom_2 flX0_43 rfl (by assumption) ?_
  refine g_putI 0 dX0_copyFrom_5 flX0_43 rfl (by assumption) ?_
  refine g_aload_n dX0_copyFrom_8 rfl ?_
  refine g_aload_n dX0_copyFrom_9 rfl ?_
  refine g_getI 1 dX0_copyFrom_10 flX0_19 rfl (by assumption) ?_
  refine g_putI 1 dX0_copyFrom_13 flX0_19 rfl (by assumption) ?_
  refine g_aload_n dX0_copyFrom_16 rfl ?_
  refine g_aload_n dX0_copyFrom_17 rfl ?_
  refine g_getI 2 dX0_copyFrom_18 flX0_46 rfl (by assumption) ?_
  refine g_putI 2 dX0_copyFrom_21 flX0_46 rfl (by assumption) ?_
  refine g_aload_n dX0_copyFrom_24 rfl ?_
  refine g_aload_n dX0_copyFrom_25 rfl ?_
  refine g_getI 3 dX0_copyFrom_26 flX0_28 rfl (by assumption) ?_
  refine g_putI 3 dX0_copyFrom_29 flX0_28 rfl (by assumption) ?_
  refine g_aload_n dX0_copyFrom_32 rfl ?_
  refine g_aload_n dX0_copyFrom_33 rfl ?_
  refine g_getI 4 dX0_copyFrom_34 flX0_34 rfl (by assumption) ?_
  refine g_putI 4 dX0_copyFrom_37 flX0_34 rfl (by assumption) ?_
  refine g_aload_n dX0_copyFrom_40 rfl ?_
  refine g_aload_n dX0_copyFrom_41 rfl ?_
  refine g_getI 5 dX0_copyFrom_42 flX0_9 rfl (by assumption) ?_
  refine g_putI 5 dX0_copyFrom_45 flX0_9 rfl (by assumption) ?_
  refine g_aload_n dX0_copyFrom_48 rfl ?_
  refine g_aload_n dX0_copyFrom_49 rfl ?_
  refine g_getI 6 dX0_copyFrom_50 flX0_37 rfl (by assumption) ?_
  refine g_putI 6 dX0_copyFrom_53 flX0_37 rfl (by assumption) ?_
  refine g_aload_n dX0_copyFrom_56 rfl ?_
  refine g_aload_n dX0_copyFrom_57 rfl ?_
  refine g_getI 7 dX0_copyFrom_58 flX0_40 rfl (by assumption) ?_
  refine g_putI 7 dX0_copyFrom_61 flX0_40 rfl (by assumption) ?_
  refine g_return dX0_copyFrom_64 rfl ?_
  refine ⟨rfl, ?_, rfl, rfl⟩
  simp only [g_up_as_row, g_row_row, g_row_at, g_row_ne hab]
  congr 1
  funext k
  simp only [bl_cpy]
  rcases (show k = 0 ∨ k = 1 ∨ k = 2 ∨ k = 3 ∨ k = 4 ∨ k = 5 ∨ k = 6 ∨ k = 7 ∨ k < 0 ∨ 8 ≤ k by omega) with h | h | h | h | h | h | h | h | h | h
  all_goals first | (subst h; simp; done) | (simp only [show ¬ (0 ≤ k ∧ k < 8) by omega, if_false, show ¬ k = 0 by omega, show ¬ k = 1 by omega, show ¬ k = 2 by omega, show ¬ k = 3 by omega, show ¬ k = 4 by omega, show ¬ k = 5 by omega, show ¬ k = 6 by omega, show ¬ k = 7 by omega]; done)

set_option maxRecDepth 20000 in
set_option maxHeartbeats 1000000 in
theorem c_beginAt (hk : sh.2.1 a = 0) (t c : Int) : Ct mdX0_beginAt 0 0 [vR a, vI t, vI c] gi gl sh (Rt none (g_row gi a (bl_new (gi a) t c)) gl sh) := by
  show Go mdX0_beginAt 0 0 0 [some (vR a), some (vI t), some (vI c)] [] gi gl sh _
  refine g_aload_n dX0_beginAt_0 rfl ?_
  refine g_iload_n dX0_beginAt_1 rfl ?_
  refine g_putI 0 dX0_beginAt_2 flX0_43 rfl (by assumption) ?_
  refine g_aload_n dX0_beginAt_5 rfl ?_
  refine g_iload_n dX0_beginAt_6 rfl ?_
  refine g_putI 1 dX0_beginAt_7 flX0_19 rfl (by assumption) ?_
  refine g_aload_n dX0_beginAt_10 rfl ?_
  refine g_iload_n dX0_beginAt_11 rfl ?_
  refine g_putI 2 dX0_beginAt_12 flX0_46 rfl (by assumption) ?_
  refine g_aload_n dX0_beginAt_15 rfl ?_
  refine g_iload_n dX0_beginAt_16 rfl ?_
  refine g_putI 3 dX0_beginAt_17 flX0_28 rfl (by assumption) ?_
  refine g_aload_n dX0_beginAt_20 rfl ?_
  refine g_iload_n dX0_beginAt_21 rfl ?_
  refine g_putI 4 dX0_beginAt_22 flX0_34 rfl (by assumption) ?_
  refine g_aload_n dX0_beginAt_25 rfl ?_
  refine g_iconst dX0_beginAt_26 (by decide) ?_
  refine g_putI 6 dX0_beginAt_27 flX0_37 rfl (by assumption) ?_
  refine g_aload_n dX0_beginAt_30 rfl ?_
  refine g_iconst dX0_beginAt_31 (by decide) ?_
  refine g_putI 7 dX0_beginAt_32 flX0_40 rfl (by assumption) ?_
  refine g_return dX0_beginAt_35 rfl ?_
  refine ⟨rfl, ?_, rfl, rfl⟩
  simp only [g_up_as_row, g_row_row, g_row_at]
  congr 1
  funext k
  simp only [bl_new]
  by_cases h0 : k = 0
  · subst h0; simp
  by_cases h1 : k = 1
  · subst h1; simp
  by_cases h2 : k = 2
  · subst h2; simp
  by_cases h3 : k = 3
  · subst h3; simp
  by_cases h4 : k = 4
  · subst h4; simp
  simp only [h0, h1, h2, h3, h4, if_false]
  by_cases h6 : k = 6
  · subst h6; simp
  simp only [h6, if_false]

set_option maxRecDepth 20000 in
set_option maxHeartbeats 1000000 in
theorem c_addCell (hk : sh.2.1 a = 0) (t c col dk : Int) (h9 : bl_ok (gi a)) (hc : 0 ≤ col ∧ col ≤ 9) (hdk : dk = 0 ∨ dk = 1) : Ct mdX0_addCell 0 0 [vR a, vI t, vI c, vI col, vI dk] gi gl sh (Rt none (g_row gi a (bl_add (gi a) t c col dk)) gl sh) := by
  show Go mdX0_addCell 0 0 0 [some (vR a), some (vI t), some (vI c), some (vI col), some (vI dk)] [] gi gl sh _
  have q5 := h9 5 (by decide) (by decide)
  have q6 := h9 6 (by decide) (by decide)
  have q7 := h9 7 (by decide) (by decide)
  refine g_aload_n dX0_addCell_0 rfl ?_
  refine g_getI 5 dX0_addCell_1 flX0_9 rfl (by assumption) ?_
  refine g_if_ne 13 dX0_addCell_4 (by decide) (fun h4 => ?_) (fun h4 => ?_)
  · skip
    refine g_aload_n dX0_addCell_13 rfl ?_
    refine g_aload_n dX0_addCell_14 rfl ?_
    refine g_getI 1 dX0_addCell_15 flX0_19 rfl (by assumption) ?_
    refine g_iload_n dX0_addCell_18 rfl ?_
    refine g_max dX0_addCell_19 mlX0_22 (Nat.le_of_ble_eq_true rfl) ?_
    refine g_putI 1 dX0_addCell_22 flX0_19 rfl (by assumption) ?_
    refine g_aload_n dX0_addCell_25 rfl ?_
    refine g_aload_n dX0_addCell_26 rfl ?_
    refine g_getI 3 dX0_addCell_27 flX0_28 rfl (by assumption) ?_
    refine g_iload_n dX0_addCell_30 rfl ?_
    refine g_min dX0_addCell_31 mlX0_31 (Nat.le_of_ble_eq_true rfl) ?_
    refine g_putI 3 dX0_addCell_34 flX0_28 rfl (by assumption) ?_
    refine g_aload_n dX0_addCell_37 rfl ?_
    refine g_aload_n dX0_addCell_38 rfl ?_
    refine g_getI 4 dX0_addCell_39 flX0_34 rfl (by assumption) ?_
    refine g_iload_n dX0_addCell_42 rfl ?_
    refine g_max dX0_addCell_43 mlX0_22 (Nat.le_of_ble_eq_true rfl) ?_
    refine g_putI 4 dX0_addCell_46 flX0_34 rfl (by assumption) ?_
    refine g_aload_n dX0_addCell_49 rfl ?_
    refine g_dup dX0_addCell_50 (fun _ h9 => by cases h9) ?_
    refine g_getI 5 dX0_addCell_51 flX0_9 rfl (by assumption) ?_
    refine g_iconst dX0_addCell_54 (by decide) ?_
    refine g_iadd dX0_addCell_55 (by simp [g_up, g_row, bl_new] <;> omega) (by simp [g_up, g_row, bl_new] <;> omega) ?_
    refine g_putI 5 dX0_addCell_56 flX0_9 rfl (by assumption) ?_
    refine g_aload_n dX0_addCell_59 rfl ?_
    refine g_dup dX0_addCell_60 (fun _ h9 => by cases h9) ?_
    refine g_getI 6 dX0_addCell_61 flX0_37 rfl (by assumption) ?_
    refine g_iload_n dX0_addCell_64 rfl ?_
    refine g_iadd dX0_addCell_65 (by simp [g_up, g_row, bl_new] <;> omega) (by simp [g_up, g_row, bl_new] <;> omega) ?_
    refine g_putI 6 dX0_addCell_66 flX0_37 rfl (by assumption) ?_
    refine g_aload_n dX0_addCell_69 rfl ?_
    refine g_dup dX0_addCell_70 (fun _ h9 => by cases h9) ?_
    refine g_getI 7 dX0_addCell_71 flX0_40 rfl (by assumption) ?_
    refine g_iload dX0_addCell_74 rfl ?_
    refine g_if_eq 83 dX0_addCell_76 (by decide) (fun h76 => ?_) (fun h76 => ?_)
    · skip
      refine g_iconst dX0_addCell_83 (by decide) ?_
      refine g_iadd dX0_addCell_84 (by simp [g_up, g_row, bl_new] <;> omega) (by simp [g_up, g_row, bl_new] <;> omega) ?_
      refine g_putI 7 dX0_addCell_85 flX0_40 rfl (by assumption) ?_
      refine g_return dX0_addCell_88 rfl ?_
      refine ⟨rfl, ?_, rfl, rfl⟩
      unfold bl_add
      first | rw [if_pos (by omega)] | rw [if_neg (by omega)]
      simp only [g_up_as_row, g_row_row, g_row_at]
      congr 1
      funext k
      simp only [bl_inc]
      by_cases h1 : k = 1
      · subst h1; simp
      by_cases h3 : k = 3
      · subst h3; simp
      by_cases h4 : k = 4
      · subst h4; simp
      by_cases h5 : k = 5
      · subst h5; simp
      by_cases h6 : k = 6
      · subst h6; simp
      by_cases h7 : k = 7
      · subst h7; simp [h76] <;> omega
      simp only [h1, h3, h4, h5, h6, h7, if_false]
    · skip
      refine g_iconst dX0_addCell_79 (by decide) ?_
      refine g_goto 84 dX0_addCell_80 (by decide) ?_
      refine g_iadd dX0_addCell_84 (by simp [g_up, g_row, bl_new] <;> omega) (by simp [g_up, g_row, bl_new] <;> omega) ?_
      refine g_putI 7 dX0_addCell_85 flX0_40 rfl (by assumption) ?_
      refine g_return dX0_addCell_88 rfl ?_
      refine ⟨rfl, ?_, rfl, rfl⟩
      unfold bl_add
      first | rw [if_pos (by omega)] | rw [if_neg (by omega)]
      simp only [g_up_as_row, g_row_row, g_row_at]
      congr 1
      funext k
      simp only [bl_inc]
      by_cases h1 : k = 1
      · subst h1; simp
      by_cases h3 : k = 3
      · subst h3; simp
      by_cases h4 : k = 4
      · subst h4; simp
      by_cases h5 : k = 5
      · subst h5; simp
      by_cases h6 : k = 6
      · subst h6; simp
      by_cases h7 : k = 7
      · subst h7; simp [h76] <;> omega
      simp only [h1, h3, h4, h5, h6, h7, if_false]
  · skip
    refine g_aload_n dX0_addCell_7 rfl ?_
    refine g_iload_n dX0_addCell_8 rfl ?_
    refine g_iload_n dX0_addCell_9 rfl ?_
    refine g_cVv [_, _] dX0_addCell_10 mlX0_15 mvX0_beginAt (by decide) (by assumption) (by decide) rfl rfl (Nat.le_of_ble_eq_true rfl) rfl (Nat.le_of_ble_eq_true rfl) (c_beginAt hk t c) ?_
    refine g_aload_n dX0_addCell_13 rfl ?_
    refine g_aload_n dX0_addCell_14 rfl ?_
    refine g_getI 1 dX0_addCell_15 flX0_19 rfl (by assumption) ?_
    refine g_iload_n dX0_addCell_18 rfl ?_
    refine g_max dX0_addCell_19 mlX0_22 (Nat.le_of_ble_eq_true rfl) ?_
    refine g_putI 1 dX0_addCell_22 flX0_19 rfl (by assumption) ?_
    refine g_aload_n dX0_addCell_25 rfl ?_
    refine g_aload_n dX0_addCell_26 rfl ?_
    refine g_getI 3 dX0_addCell_27 flX0_28 rfl (by assumption) ?_
    refine g_iload_n dX0_addCell_30 rfl ?_
    refine g_min dX0_addCell_31 mlX0_31 (Nat.le_of_ble_eq_true rfl) ?_
    refine g_putI 3 dX0_addCell_34 flX0_28 rfl (by assumption) ?_
    refine g_aload_n dX0_addCell_37 rfl ?_
    refine g_aload_n dX0_addCell_38 rfl ?_
    refine g_getI 4 dX0_addCell_39 flX0_34 rfl (by assumption) ?_
    refine g_iload_n dX0_addCell_42 rfl ?_
    refine g_max dX0_addCell_43 mlX0_22 (Nat.le_of_ble_eq_true rfl) ?_
    refine g_putI 4 dX0_addCell_46 flX0_34 rfl (by assumption) ?_
    refine g_aload_n dX0_addCell_49 rfl ?_
    refine g_dup dX0_addCell_50 (fun _ h9 => by cases h9) ?_
    refine g_getI 5 dX0_addCell_51 flX0_9 rfl (by assumption) ?_
    refine g_iconst dX0_addCell_54 (by decide) ?_
    refine g_iadd dX0_addCell_55 (by simp [g_up, g_row, bl_new] <;> omega) (by simp [g_up, g_row, bl_new] <;> omega) ?_
    refine g_putI 5 dX0_addCell_56 flX0_9 rfl (by assumption) ?_
    refine g_aload_n dX0_addCell_59 rfl ?_
    refine g_dup dX0_addCell_60 (fun _ h9 => by cases h9) ?_
    refine g_getI 6 dX0_addCell_61 flX0_37 rfl (by assumption) ?_
    refine g_iload_n dX0_addCell_64 rfl ?_
    refine g_iadd dX0_addCell_65 (by simp [g_up, g_row, bl_new] <;> omega) (by simp [g_up, g_row, bl_new] <;> omega) ?_
    refine g_putI 6 dX0_addCell_66 flX0_37 rfl (by assumption) ?_
    refine g_aload_n dX0_addCell_69 rfl ?_
    refine g_dup dX0_addCell_70 (fun _ h9 => by cases h9) ?_
    refine g_getI 7 dX0_addCell_71 flX0_40 rfl (by assumption) ?_
    refine g_iload dX0_addCell_74 rfl ?_
    refine g_if_eq 83 dX0_addCell_76 (by decide) (fun h76 => ?_) (fun h76 => ?_)
    · skip
      refine g_iconst dX0_addCell_83 (by decide) ?_
      refine g_iadd dX0_addCell_84 (by simp [g_up, g_row, bl_new] <;> omega) (by simp [g_up, g_row, bl_new] <;> omega) ?_
      refine g_putI 7 dX0_addCell_85 flX0_40 rfl (by assumption) ?_
      refine g_return dX0_addCell_88 rfl ?_
      refine ⟨rfl, ?_, rfl, rfl⟩
      unfold bl_add
      first | rw [if_pos (by omega)] | rw [if_neg (by omega)]
      simp only [g_up_as_row, g_row_row, g_row_at]
      congr 1
      funext k
      simp only [bl_inc]
      by_cases h1 : k = 1
      · subst h1; simp
      by_cases h3 : k = 3
      · subst h3; simp
      by_cases h4 : k = 4
      · subst h4; simp
      by_cases h5 : k = 5
      · subst h5; simp
      by_cases h6 : k = 6
      · subst h6; simp
      by_cases h7 : k = 7
      · subst h7; simp [h76] <;> omega
      simp only [h1, h3, h4, h5, h6, h7, if_false]
    · skip
      refine g_iconst dX0_addCell_79 (by decide) ?_
      refine g_goto 84 dX0_addCell_80 (by decide) ?_
      refine g_iadd dX0_addCell_84 (by simp [g_up, g_row, bl_new] <;> omega) (by simp [g_up, g_row, bl_new] <;> omega) ?_
      refine g_putI 7 dX0_addCell_85 flX0_40 rfl (by assumption) ?_
      refine g_return dX0_addCell_88 rfl ?_
      refine ⟨rfl, ?_, rfl, rfl⟩
      unfold bl_add
      first | rw [if_pos (by omega)] | rw [if_neg (by omega)]
      simp only [g_up_as_row, g_row_row, g_row_at]
      congr 1
      funext k
      simp only [bl_inc]
      by_cases h1 : k = 1
      · subst h1; simp
      by_cases h3 : k = 3
      · subst h3; simp
      by_cases h4 : k = 4
      · subst h4; simp
      by_cases h5 : k = 5
      · subst h5; simp
      by_cases h6 : k = 6
      · subst h6; simp
      by_cases h7 : k = 7
      · subst h7; simp [h76] <;> omega
      simp only [h1, h3, h4, h5, h6, h7, if_false]

set_option maxRecDepth 20000 in
set_option maxHeartbeats 1000000 in
theorem c_absorb (hk : sh.2.1 a = 0) (hk2 : sh.2.1 b = 0) (hab : b ≠ a) (ha : bl_ok (gi a)) (hb : bl_ok (gi b)) : Ct mdX0_absorb 0 0 [vR a, vR b] gi gl sh (Rt none (g_row (g_row gi a (bl_abs (gi a) (gi b))) b (bl_off (gi b))) gl sh) := by
  show Go mdX0_absorb 0 0 0 [some (vR a), some (vR b)] [] gi gl sh _
  obtain ⟨z, hz1, hz0⟩ := bl_lt_z (gi b) (gi a)
  have e2 : a ≠ b := fun q => hab q.symm
  have p5 := ha 5 (by decide) (by decide)
  have p6 := ha 6 (by decide) (by decide)
  have p7 := ha 7 (by decide) (by decide)
  have q5 := hb 5 (by decide) (by decide)
  have q6 := hb 6 (by decide) (by decide)
  have q7 := hb 7 (by decide) (by decide)
  refine g_aload_n dX0_absorb_0 rfl ?_
  refine g_aload_n dX0_absorb_1 rfl ?_
  refine g_cVi [_] dX0_absorb_2 mlX0_49 mvX0_beganBefore (by decide) (by assumption) (by decide) rfl rfl (Nat.le_of_ble_eq_true rfl) rfl (Nat.le_of_ble_eq_true rfl) (c_beganBefore hk2 hk z hz1 hz0) ?_
  refine g_if_eq 24 dX0_absorb_5 (by decide) (fun hz => ?_) (fun hz => ?_)
  · skip
    refine g_aload_n dX0_absorb_24 rfl ?_
    refine g_aload_n dX0_absorb_25 rfl ?_
    refine g_getI 1 dX0_absorb_26 flX0_19 rfl (by assumption) ?_
    refine g_aload_n dX0_absorb_29 rfl ?_
    refine g_getI 1 dX0_absorb_30 flX0_19 rfl (by assumption) ?_
    refine g_max dX0_absorb_33 mlX0_22 (Nat.le_of_ble_eq_true rfl) ?_
    refine g_putI 1 dX0_absorb_36 flX0_19 rfl (by assumption) ?_
    refine g_aload_n dX0_absorb_39 rfl ?_
    refine g_aload_n dX0_absorb_40 rfl ?_
    refine g_getI 3 dX0_absorb_41 flX0_28 rfl (by assumption) ?_
    refine g_aload_n dX0_absorb_44 rfl ?_
    refine g_getI 3 dX0_absorb_45 flX0_28 rfl (by assumption) ?_
    refine g_min dX0_absorb_48 mlX0_31 (Nat.le_of_ble_eq_true rfl) ?_
    refine g_putI 3 dX0_absorb_51 flX0_28 rfl (by assumption) ?_
    refine g_aload_n dX0_absorb_54 rfl ?_
    refine g_aload_n dX0_absorb_55 rfl ?_
    refine g_getI 4 dX0_absorb_56 flX0_34 rfl (by assumption) ?_
    refine g_aload_n dX0_absorb_59 rfl ?_
    refine g_getI 4 dX0_absorb_60 flX0_34 rfl (by assumption) ?_
    refine g_max dX0_absorb_63 mlX0_22 (Nat.le_of_ble_eq_true rfl) ?_
    refine g_putI 4 dX0_absorb_66 flX0_34 rfl (by assumption) ?_
    refine g_aload_n dX0_absorb_69 rfl ?_
    refine g_dup dX0_absorb_70 (fun _ h9 => by cases h9) ?_
    refine g_getI 5 dX0_absorb_71 flX0_9 rfl (by assumption) ?_
    refine g_aload_n dX0_absorb_74 rfl ?_
    refine g_getI 5 dX0_absorb_75 flX0_9 rfl (by assumption) ?_
    refine g_iadd dX0_absorb_78 (by simp [g_up, e2, hab] <;> omega) (by simp [g_up, e2, hab] <;> omega) ?_
    refine g_putI 5 dX0_absorb_79 flX0_9 rfl (by assumption) ?_
    refine g_aload_n dX0_absorb_82 rfl ?_
    refine g_dup dX0_absorb_83 (fun _ h9 => by cases h9) ?_
    refine g_getI 6 dX0_absorb_84 flX0_37 rfl (by assumption) ?_
    refine g_aload_n dX0_absorb_87 rfl ?_
    refine g_getI 6 dX0_absorb_88 flX0_37 rfl (by assumption) ?_
    refine g_iadd dX0_absorb_91 (by simp [g_up, e2, hab] <;> omega) (by simp [g_up, e2, hab] <;> omega) ?_
    refine g_putI 6 dX0_absorb_92 flX0_37 rfl (by assumption) ?_
    refine g_aload_n dX0_absorb_95 rfl ?_
    refine g_dup dX0_absorb_96 (fun _ h9 => by cases h9) ?_
    refine g_getI 7 dX0_absorb_97 flX0_40 rfl (by assumption) ?_
    refine g_aload_n dX0_absorb_100 rfl ?_
    refine g_getI 7 dX0_absorb_101 flX0_40 rfl (by assumption) ?_
    refine g_iadd dX0_absorb_104 (by simp [g_up, e2, hab] <;> omega) (by simp [g_up, e2, hab] <;> omega) ?_
    refine g_putI 7 dX0_absorb_105 flX0_40 rfl (by assumption) ?_
    refine g_aload_n dX0_absorb_108 rfl ?_
    refine g_iconst dX0_absorb_109 (by decide) ?_
    refine g_putI 5 dX0_absorb_110 flX0_9 rfl (by assumption) ?_
    refine g_return dX0_absorb_113 rfl ?_
    refine ⟨rfl, ?_, rfl, rfl⟩
    have e2 : a ≠ b := fun q => hab q.symm
    simp only [g_up_as_row, g_row_row, g_row_at, g_row_ne hab, g_row_ne e2]
    congr 1
    congr 1
    funext k
    simp only [bl_abs]
    by_cases h1 : k = 1
    · subst h1; simp
    by_cases h3 : k = 3
    · subst h3; simp
    by_cases h4 : k = 4
    · subst h4; simp
    by_cases h5 : k = 5
    · subst h5; simp
    by_cases h6 : k = 6
    · subst h6; simp
    by_cases h7 : k = 7
    · subst h7; simp
    by_cases h0 : k = 0
    · subst h0
      by_cases hlt : gi b 0 < gi a 0 ∨ gi b 0 = gi a 0 ∧ gi b 2 < gi a 2
      · have := hz1 hlt
        first | (exfalso; omega) | simp [hlt]
      · have := hz0 hlt
        first | (exfalso; omega) | simp [hlt]
    by_cases h2 : k = 2
    · subst h2
      by_cases hlt : gi b 0 < gi a 0 ∨ gi b 0 = gi a 0 ∧ gi b 2 < gi a 2
      · have := hz1 hlt
        first | (exfalso; omega) | simp [hlt]
      · have := hz0 hlt
        first | (exfalso; omega) | simp [hlt]
    simp only [h0, h1, h2, h3, h4, h5, h6, h7, if_false]
  · skip
    refine g_aload_n dX0_absorb_8 rfl ?_
    refine g_aload_n dX0_absorb_9 rfl ?_
    refine g_getI 0 dX0_absorb_10 flX0_43 rfl (by assumption) ?_
    refine g_putI 0 dX0_absorb_13 flX0_43 rfl (by assumption) ?_
    refine g_aload_n dX0_absorb_16 rfl ?_
    refine g_aload_n dX0_absorb_17 rfl ?_
    refine g_getI 2 dX0_absorb_18 flX0_46 rfl (by assumption) ?_
    refine g_putI 2 dX0_absorb_21 flX0_46 rfl (by assumption) ?_
    refine g_aload_n dX0_absorb_24 rfl ?_
    refine g_aload_n dX0_absorb_25 rfl ?_
    refine g_getI 1 dX0_absorb_26 flX0_19 rfl (by assumption) ?_
    refine g_aload_n dX0_absorb_29 rfl ?_
    refine g_getI 1 dX0_absorb_30 flX0_19 rfl (by assumption) ?_
    refine g_max dX0_absorb_33 mlX0_22 (Nat.le_of_ble_eq_true rfl) ?_
    refine g_putI 1 dX0_absorb_36 flX0_19 rfl (by assumption) ?_
    refine g_aload_n dX0_absorb_39 rfl ?_
    refine g_aload_n dX0_absorb_40 rfl ?_
    refine g_getI 3 dX0_absorb_41 flX0_28 rfl (by assumption) ?_
    refine g_aload_n dX0_absorb_44 rfl ?_
    refine g_getI 3 dX0_absorb_45 flX0_28 rfl (by assumption) ?_
    refine g_min dX0_absorb_48 mlX0_31 (Nat.le_of_ble_eq_true rfl) ?_
    refine g_putI 3 dX0_absorb_51 flX0_28 rfl (by assumption) ?_
    refine g_aload_n dX0_absorb_54 rfl ?_
    refine g_aload_n dX0_absorb_55 rfl ?_
    refine g_getI 4 dX0_absorb_56 flX0_34 rfl (by assumption) ?_
    refine g_aload_n dX0_absorb_59 rfl ?_
    refine g_getI 4 dX0_absorb_60 flX0_34 rfl (by assumption) ?_
    refine g_max dX0_absorb_63 mlX0_22 (Nat.le_of_ble_eq_true rfl) ?_
    refine g_putI 4 dX0_absorb_66 flX0_34 rfl (by assumption) ?_
    refine g_aload_n dX0_absorb_69 rfl ?_
    refine g_dup dX0_absorb_70 (fun _ h9 => by cases h9) ?_
    refine g_getI 5 dX0_absorb_71 flX0_9 rfl (by assumption) ?_
    refine g_aload_n dX0_absorb_74 rfl ?_
    refine g_getI 5 dX0_absorb_75 flX0_9 rfl (by assumption) ?_
    refine g_iadd dX0_absorb_78 (by simp [g_up, e2, hab] <;> omega) (by simp [g_up, e2, hab] <;> omega) ?_
    refine g_putI 5 dX0_absorb_79 flX0_9 rfl (by assumption) ?_
    refine g_aload_n dX0_absorb_82 rfl ?_
    refine g_dup dX0_absorb_83 (fun _ h9 => by cases h9) ?_
    refine g_getI 6 dX0_absorb_84 flX0_37 rfl (by assumption) ?_
    refine g_aload_n dX0_absorb_87 rfl ?_
    refine g_getI 6 dX0_absorb_88 flX0_37 rfl (by assumption) ?_
    refine g_iadd dX0_absorb_91 (by simp [g_up, e2, hab] <;> omega) (by simp [g_up, e2, hab] <;> omega) ?_
    refine g_putI 6 dX0_absorb_92 flX0_37 rfl (by assumption) ?_
    refine g_aload_n dX0_absorb_95 rfl ?_
    refine g_dup dX0_absorb_96 (fun _ h9 => by cases h9) ?_
    refine g_getI 7 dX0_absorb_97 flX0_40 rfl (by assumption) ?_
    refine g_aload_n dX0_absorb_100 rfl ?_
    refine g_getI 7 dX0_absorb_101 flX0_40 rfl (by assumption) ?_
    refine g_iadd dX0_absorb_104 (by simp [g_up, e2, hab] <;> omega) (by simp [g_up, e2, hab] <;> omega) ?_
    refine g_putI 7 dX0_absorb_105 flX0_40 rfl (by assumption) ?_
    refine g_aload_n dX0_absorb_108 rfl ?_
    refine g_iconst dX0_absorb_109 (by decide) ?_
    refine g_putI 5 dX0_absorb_110 flX0_9 rfl (by assumption) ?_
    refine g_return dX0_absorb_113 rfl ?_
    refine ⟨rfl, ?_, rfl, rfl⟩
    have e2 : a ≠ b := fun q => hab q.symm
    simp only [g_up_as_row, g_row_row, g_row_at, g_row_ne hab, g_row_ne e2]
    congr 1
    congr 1
    funext k
    simp only [bl_abs]
    by_cases h1 : k = 1
    · subst h1; simp
    by_cases h3 : k = 3
    · subst h3; simp
    by_cases h4 : k = 4
    · subst h4; simp
    by_cases h5 : k = 5
    · subst h5; simp
    by_cases h6 : k = 6
    · subst h6; simp
    by_cases h7 : k = 7
    · subst h7; simp
    by_cases h0 : k = 0
    · subst h0
      by_cases hlt : gi b 0 < gi a 0 ∨ gi b 0 = gi a 0 ∧ gi b 2 < gi a 2
      · have := hz1 hlt
        first | (exfalso; omega) | simp [hlt]
      · have := hz0 hlt
        first | (exfalso; omega) | simp [hlt]
    by_cases h2 : k = 2
    · subst h2
      by_cases hlt : gi b 0 < gi a 0 ∨ gi b 0 = gi a 0 ∧ gi b 2 < gi a 2
      · have := hz1 hlt
        first | (exfalso; omega) | simp [hlt]
      · have := hz0 hlt
        first | (exfalso; omega) | simp [hlt]
    simp only [h0, h1, h2, h3, h4, h5, h6, h7, if_false]

end BLOB
end
section
/-! Stand: lineCount; lines at a+1, numbers at a+2. Valve: firsts at a+1, lasts at a+2, openings -/
theorem z_ex (P : Prop) : ∃ z : Int, (P → z = 1) ∧ (¬ P → z = 0) ∧ (z = 0 ∨ z = 1) := by
  by_cases h : P
  · exact ⟨1, fun _ => rfl, fun h2 => absurd h h2, Or.inr rfl⟩
  · exact ⟨0, fun h2 => absurd h2 h, fun _ => rfl, Or.inl rfl⟩
theorem g_up_up {α : Type} {f : Int → Int → α} {a i : Int} {v w : α} : g_up (g_up f a i v) a i w = g_up f a i w := by
  funext b j; simp only [g_up]; split <;> rfl
theorem g_up_comm {α : Type} {f : Int → Int → α} {a i b j : Int} {v w : α} (h : a ≠ b ∨ i ≠ j) : g_up (g_up f a i v) b j w = g_up (g_up f b j w) a i v := by
  funext x y; simp only [g_up]
  by_cases h1 : x = b ∧ y = j
  · by_cases h2 : x = a ∧ y = i
    · exfalso; rcases h with h | h
      · exact h (h2.1.symm.trans h1.1)
      · exact h (h2.2.symm.trans h1.2)
    · simp [h1, h2]
      intro h3 h4; exact absurd ⟨h1.1.trans h3, h1.2.trans h4⟩ h2
  · by_cases h2 : x = a ∧ y = i
    · simp [h1, h2]
      intro h3 h4; exact absurd ⟨h2.1.trans h3, h2.2.trans h4⟩ h1
    · simp [h1, h2]
def isStand (sh : gSh) (a : Int) : Prop := sh.2.1 a = 4 ∧ sh.1 a 0 = some (a + 1) ∧ sh.1 a 1 = some (a + 2) ∧ sh.2.1 (a + 1) = 12 ∧ (sh.2.2.1 (a + 1) : Int) = 60 ∧ sh.2.1 (a + 2) = 11 ∧ (sh.2.2.1 (a + 2) : Int) = 4
def isValve (sh : gSh) (a : Int) : Prop := sh.2.1 a = 6 ∧ sh.1 a 0 = some (a + 1) ∧ sh.1 a 1 = some (a + 2) ∧ sh.2.1 (a + 1) = 11 ∧ (sh.2.2.1 (a + 1) : Int) = 31 ∧ sh.2.1 (a + 2) = 11 ∧ (sh.2.2.1 (a + 2) : Int) = 31
def vl_near (l f r : Int) : Prop := f - l - 1 ≤ 0 ∨ f - l - 1 < r
def vl_w (fs ls : gRw) (r : Int) : Nat → Int → Nat × Int
  | 0, f => (0, f)
  | n + 1, f => if f - ls (n : Int) - 1 ≤ 0 ∨ f - ls (n : Int) - 1 < r then vl_w fs ls r n (min f (fs (n : Int))) else (n + 1, f)
theorem vl_w_le (fs ls : gRw) (r : Int) : ∀ (n : Nat) (f : Int), (vl_w fs ls r n f).1 ≤ n := by
  intro n
  induction n with
  | zero => intro f; exact Nat.le_refl _
  | succ n ih =>
    intro f
    unfold vl_w
    split
    · exact Nat.le_succ_of_le (ih _)
    · exact Nat.le_refl _
def vl_put (gi : gF) (a m f t : Int) : gF := g_up (g_up (g_up gi (a + 1) m f) (a + 2) m t) a 2 (m + 1)
def vl_sum (fs ls : gRw) : Nat → Int
  | 0 => 0
  | n + 1 => vl_sum fs ls n + (ls (n : Int) - fs (n : Int) + 1)
def vl_ok (gi : gF) (a n : Int) : Prop := ∀ k : Int, 0 ≤ k → k < n → -1000 ≤ gi (a + 1) k ∧ gi (a + 1) k ≤ 1000 ∧ -1000 ≤ gi (a + 2) k ∧ gi (a + 2) k ≤ 1000
theorem vl_sum_b {gi : gF} {a : Int} : ∀ n : Nat, vl_ok gi a n → -3000 * (n : Int) ≤ vl_sum (gi (a + 1)) (gi (a + 2)) n ∧ vl_sum (gi (a + 1)) (gi (a + 2)) n ≤ 3000 * (n : Int) := by
  intro n
  induction n with
  | zero => intro _; simp [vl_sum]
  | succ n ih =>
    intro h
    have h1 := ih (fun k h0 h1 => h k h0 (by omega))
    have h2 := h n (by omega) (by omega)
    simp only [vl_sum]
    omega
section VALVE
variable {gi gl : gF} {sh : gSh} {a b : Int}
set_option maxRecDepth 20000 in
set_option maxHeartbeats 1000000 in
theorem c_sAddLine (hV : isStand sh a) (n : Int) (h : 0 ≤ gi a 2 ∧ gi a 2 < 60) : Ct mdX4_addLine 0 0 [vR a, vL n] gi gl sh (Rt none (g_up gi a 2 (gi a 2 + 1)) (g_up gl (a + 1) (gi a 2) n) sh) := by
  show Go mdX4_addLine 0 0 0 [some (vR a), some (vL n), none] [] gi gl sh _
  obtain ⟨k0, r0, r1, k1, l1, k2, l2⟩ := id hV
  refine g_aload_n dX4_addLine_0 rfl ?_
  refine g_getI 2 dX4_addLine_1 flX4_19 rfl (by assumption) ?_
  refine g_if_lt 39 dX4_addLine_4 (by decide) (fun h4 => ?_) (fun h4 => ?_)
  · exfalso; omega
  · skip
    refine g_aload_n dX4_addLine_7 rfl ?_
    refine g_getI 2 dX4_addLine_8 flX4_19 rfl (by assumption) ?_
    refine g_aload_n dX4_addLine_11 rfl ?_
    refine g_getR 0 dX4_addLine_12 flX4_9 rfl (by assumption) (by assumption) ?_
    refine g_alen _ dX4_addLine_15 (by omega) (by assumption) (by decide) ?_
    refine g_icmp_ge 39 dX4_addLine_16 (by decide) (fun h16 => ?_) (fun h16 => ?_)
    · exfalso; omega
    · skip
      refine g_aload_n dX4_addLine_19 rfl ?_
      refine g_getR 0 dX4_addLine_20 flX4_9 rfl (by assumption) (by assumption) ?_
      refine g_aload_n dX4_addLine_23 rfl ?_
      refine g_getI 2 dX4_addLine_24 flX4_19 rfl (by assumption) ?_
      refine g_lload_n dX4_addLine_27 rfl ?_
      refine g_lastore dX4_addLine_28 (by assumption) (by omega) (by omega) ?_
      refine g_aload_n dX4_addLine_29 rfl ?_
      refine g_dup dX4_addLine_30 (fun _ h9 => by cases h9) ?_
      refine g_getI 2 dX4_addLine_31 flX4_19 rfl (by assumption) ?_
      refine g_iconst dX4_addLine_34 (by decide) ?_
      refine g_iadd dX4_addLine_35 (by omega) (by omega) ?_
      refine g_putI 2 dX4_addLine_36 flX4_19 rfl (by assumption) ?_
      refine g_return dX4_addLine_39 rfl ?_
      exact ⟨rfl, rfl, rfl, rfl⟩

set_option maxRecDepth 20000 in
set_option maxHeartbeats 1000000 in
theorem c_sCopy (hV : isStand sh a) (hU : isStand sh b) (h1 : b ≠ a + 2) : Ct mdX4_copyFrom 0 0 [vR a, vR b] gi gl sh (Rt none (g_up (g_cp gi (b + 2) (a + 2) 0 0 4) a 2 (gi b 2)) (g_cp gl (b + 1) (a + 1) 0 0 60) sh) := by
  show Go mdX4_copyFrom 0 0 0 [some (vR a), some (vR b)] [] gi gl sh _
  obtain ⟨k0, r0, r1, k1, l1, k2, l2⟩ := id hV
  obtain ⟨j0, s0, s1, j1, m1, j2, m2⟩ := id hU
  refine g_aload_n dX4_copyFrom_0 rfl ?_
  refine g_getR 0 dX4_copyFrom_1 flX4_9 rfl (by assumption) (by assumption) ?_
  refine g_iconst dX4_copyFrom_4 (by decide) ?_
  refine g_aload_n dX4_copyFrom_5 rfl ?_
  refine g_getR 0 dX4_copyFrom_6 flX4_9 rfl (by assumption) (by assumption) ?_
  refine g_iconst dX4_copyFrom_9 (by decide) ?_
  refine g_bipush dX4_copyFrom_10 (by decide) (by decide) ?_
  refine g_copyL dX4_copyFrom_12 mlX4_23 (Nat.le_of_ble_eq_true rfl) (by assumption) (by assumption) (by omega) (by omega) (by omega) (by omega) (by omega) ?_
  refine g_aload_n dX4_copyFrom_15 rfl ?_
  refine g_getR 1 dX4_copyFrom_16 flX4_15 rfl (by assumption) (by assumption) ?_
  refine g_iconst dX4_copyFrom_19 (by decide) ?_
  refine g_aload_n dX4_copyFrom_20 rfl ?_
  refine g_getR 1 dX4_copyFrom_21 flX4_15 rfl (by assumption) (by assumption) ?_
  refine g_iconst dX4_copyFrom_24 (by decide) ?_
  refine g_iconst dX4_copyFrom_25 (by decide) ?_
  refine g_copyI dX4_copyFrom_26 mlX4_23 (Nat.le_of_ble_eq_true rfl) (by assumption) (by assumption) (by omega) (by omega) (by omega) (by omega) (by omega) ?_
  refine g_aload_n dX4_copyFrom_29 rfl ?_
  refine g_aload_n dX4_copyFrom_30 rfl ?_
  refine g_getI 2 dX4_copyFrom_31 flX4_19 rfl (by assumption) ?_
  refine g_putI 2 dX4_copyFrom_34 flX4_19 rfl (by assumption) ?_
  refine g_return dX4_copyFrom_37 rfl ?_
  exact ⟨rfl, by rw [g_cp_row h1], rfl, rfl⟩

set_option maxRecDepth 20000 in
set_option maxHeartbeats 1000000 in
theorem c_isNear (l f r z : Int) (h1 : vl_near l f r → z = 1) (h0 : ¬ vl_near l f r → z = 0) (hl : -1000 ≤ l ∧ l ≤ 1000) (hf : -1000 ≤ f ∧ f ≤ 1000) : Ct mdX6_isNear 0 0 [vI l, vI f, vI r] gi gl sh (Rt (some (vI z)) gi gl sh) := by
  show Go mdX6_isNear 0 0 0 [some (vI l), some (vI f), some (vI r), none] [] gi gl sh _
  refine g_iload_n dX6_isNear_0 rfl ?_
  refine g_iload_n dX6_isNear_1 rfl ?_
  refine g_isub dX6_isNear_2 (by omega) (by omega) ?_
  refine g_iconst dX6_isNear_3 (by decide) ?_
  refine g_isub dX6_isNear_4 (by omega) (by omega) ?_
  refine n_istore_n (lN := [_, _, _, _]) dX6_isNear_5 (by decide) rfl ?_
  refine g_iload_n dX6_isNear_6 rfl ?_
  refine g_if_le 15 dX6_isNear_7 (by decide) (fun h7 => ?_) (fun h7 => ?_)
  · skip
    refine g_iconst dX6_isNear_15 (by decide) ?_
    refine g_goto 20 dX6_isNear_16 (by decide) ?_
    refine g_zreturn dX6_isNear_20 rfl (by omega) ?_
    exact ⟨by first | (rw [h1 (by unfold vl_near; omega)]; done) | (rw [h0 (by unfold vl_near; omega)]; done), rfl, rfl, rfl⟩
  · skip
    refine g_iload_n dX6_isNear_10 rfl ?_
    refine g_iload_n dX6_isNear_11 rfl ?_
    refine g_icmp_ge 19 dX6_isNear_12 (by decide) (fun h12 => ?_) (fun h12 => ?_)
    · skip
      refine g_iconst dX6_isNear_19 (by decide) ?_
      refine g_zreturn dX6_isNear_20 rfl (by omega) ?_
      exact ⟨by first | (rw [h1 (by unfold vl_near; omega)]; done) | (rw [h0 (by unfold vl_near; omega)]; done), rfl, rfl, rfl⟩
    · skip
      refine g_iconst dX6_isNear_15 (by decide) ?_
      refine g_goto 20 dX6_isNear_16 (by decide) ?_
      refine g_zreturn dX6_isNear_20 rfl (by omega) ?_
      exact ⟨by first | (rw [h1 (by unfold vl_near; omega)]; done) | (rw [h0 (by unfold vl_near; omega)]; done), rfl, rfl, rfl⟩

set_option maxRecDepth 20000 in
theorem l_isOpenWithin (hV : isValve sh a) (fr to z : Int) (hn : gi a 2 ≤ 31) (hz1 : (∃ k : Int, 0 ≤ k ∧ k < gi a 2 ∧ gi (a + 1) k ≤ to ∧ fr ≤ gi (a + 2) k) → z = 1) (hz0 : ¬ (∃ k : Int, 0 ≤ k ∧ k < gi a 2 ∧ gi (a + 1) k ≤ to ∧ fr ≤ gi (a + 2) k) → z = 0) :
    ∀ (n : Nat) (k : Int), 0 ≤ k → gi a 2 - k < n → (∀ i : Int, 0 ≤ i → i < k → ¬ (gi (a + 1) i ≤ to ∧ fr ≤ gi (a + 2) i)) → Go mdX6_isOpenWithin 0 0 2 [some (vR a), some (vI fr), some (vI to), some (vI k)] [] gi gl sh (Rt (some (vI z)) gi gl sh) := by
  obtain ⟨k0, r0, r1, k1, l1, k2, l2⟩ := id hV
  intro n
  induction n with
  | zero =>
    intro k h0 h1 hb
    refine g_iload_n dX6_isOpenWithin_2 rfl ?_
    refine g_aload_n dX6_isOpenWithin_3 rfl ?_
    refine g_getI 2 dX6_isOpenWithin_4 flX6_18 rfl (by assumption) ?_
    refine g_icmp_ge 47 dX6_isOpenWithin_7 (by decide) (fun h7 => ?_) (fun h7 => ?_)
    · refine g_iconst dX6_isOpenWithin_47 (by decide) ?_
      refine g_ireturnT dX6_isOpenWithin_48 .boolean rfl (by decide) ?_
      exact ⟨by rw [hz0 (fun ⟨i, i0, i1, i2⟩ => hb i i0 (by omega) i2)], rfl, rfl, rfl⟩
    · exfalso; omega
  | succ n ih =>
    intro k h0 h1 hb
    refine g_iload_n dX6_isOpenWithin_2 rfl ?_
    refine g_aload_n dX6_isOpenWithin_3 rfl ?_
    refine g_getI 2 dX6_isOpenWithin_4 flX6_18 rfl (by assumption) ?_
    refine g_icmp_ge 47 dX6_isOpenWithin_7 (by decide) (fun h7 => ?_) (fun h7 => ?_)
    · skip
      refine g_iconst dX6_isOpenWithin_47 (by decide) ?_
      refine g_zreturn dX6_isOpenWithin_48 rfl (by omega) ?_
      exact ⟨by rw [hz0 (fun ⟨i, i0, i1, i2⟩ => hb i i0 (by omega) i2)], rfl, rfl, rfl⟩
    · skip
      refine g_iload_n dX6_isOpenWithin_10 rfl ?_
      refine g_aload_n dX6_isOpenWithin_11 rfl ?_
      refine g_getR 0 dX6_isOpenWithin_12 flX6_9 rfl (by assumption) (by assumption) ?_
      refine g_alen _ dX6_isOpenWithin_15 (by omega) (by assumption) (by decide) ?_
      refine g_icmp_ge 47 dX6_isOpenWithin_16 (by decide) (fun h16 => ?_) (fun h16 => ?_)
      · exfalso; omega
      · skip
        refine g_aload_n dX6_isOpenWithin_19 rfl ?_
        refine g_getR 0 dX6_isOpenWithin_20 flX6_9 rfl (by assumption) (by assumption) ?_
        refine g_iload_n dX6_isOpenWithin_23 rfl ?_
        refine g_iaload dX6_isOpenWithin_24 (by assumption) (by omega) (by omega) ?_
        refine g_iload_n dX6_isOpenWithin_25 rfl ?_
        refine g_icmp_gt 41 dX6_isOpenWithin_26 (by decide) (fun h26 => ?_) (fun h26 => ?_)
        · skip
          refine n_iinc (lN := [_, _, _, _]) dX6_isOpenWithin_41 rfl (by decide) (by omega) (by omega) rfl ?_
          refine g_goto 2 dX6_isOpenWithin_44 (by decide) ?_
          exact ih (k + 1) (by omega) (by omega) (fun i i0 i1 => if h : i = k then (by subst h; omega) else hb i i0 (by omega))
        · skip
          refine g_aload_n dX6_isOpenWithin_29 rfl ?_
          refine g_getR 1 dX6_isOpenWithin_30 flX6_15 rfl (by assumption) (by assumption) ?_
          refine g_iload_n dX6_isOpenWithin_33 rfl ?_
          refine g_iaload dX6_isOpenWithin_34 (by assumption) (by omega) (by omega) ?_
          refine g_iload_n dX6_isOpenWithin_35 rfl ?_
          refine g_icmp_lt 41 dX6_isOpenWithin_36 (by decide) (fun h36 => ?_) (fun h36 => ?_)
          · skip
            refine n_iinc (lN := [_, _, _, _]) dX6_isOpenWithin_41 rfl (by decide) (by omega) (by omega) rfl ?_
            refine g_goto 2 dX6_isOpenWithin_44 (by decide) ?_
            exact ih (k + 1) (by omega) (by omega) (fun i i0 i1 => if h : i = k then (by subst h; omega) else hb i i0 (by omega))
          · skip
            refine g_iconst dX6_isOpenWithin_39 (by decide) ?_
            refine g_zreturn dX6_isOpenWithin_40 rfl (by omega) ?_
            exact ⟨by rw [hz1 ⟨k, h0, by omega, by omega, by omega⟩], rfl, rfl, rfl⟩
theorem c_isOpenWithin (hV : isValve sh a) (fr to z : Int) (hn : gi a 2 ≤ 31) (hz1 : (∃ k : Int, 0 ≤ k ∧ k < gi a 2 ∧ gi (a + 1) k ≤ to ∧ fr ≤ gi (a + 2) k) → z = 1) (hz0 : ¬ (∃ k : Int, 0 ≤ k ∧ k < gi a 2 ∧ gi (a + 1) k ≤ to ∧ fr ≤ gi (a + 2) k) → z = 0) : Ct mdX6_isOpenWithin 0 0 [vR a, vI fr, vI to] gi gl sh (Rt (some (vI z)) gi gl sh) := by
  show Go mdX6_isOpenWithin 0 0 0 [some (vR a), some (vI fr), some (vI to), none] [] gi gl sh _
  refine g_iconst dX6_isOpenWithin_0 (by decide) ?_
  refine n_istore_n (lN := [_, _, _, _]) dX6_isOpenWithin_1 (by decide) rfl ?_
  exact l_isOpenWithin hV fr to z hn hz1 hz0 ((gi a 2).toNat + 1) 0 (by omega) (by omega) (fun i i0 i1 => by omega)
set_option maxRecDepth 20000 in
theorem l_ticksOpen (hV : isValve sh a) (hn : 0 ≤ gi a 2 ∧ gi a 2 ≤ 31) (hok : vl_ok gi a (gi a 2)) :
    ∀ (n : Nat) (k x : Int), 0 ≤ k → k ≤ gi a 2 → gi a 2 - k ≤ n → x = vl_sum (gi (a + 1)) (gi (a + 2)) k.toNat → Go mdX6_ticksOpen 0 0 4 [some (vR a), some (vI x), some (vI k)] [] gi gl sh (Rt (some (vI (vl_sum (gi (a + 1)) (gi (a + 2)) (gi a 2).toNat))) gi gl sh) := by
  obtain ⟨k0, r0, r1, k1, l1, k2, l2⟩ := id hV
  intro n
  induction n with
  | zero =>
    intro k x h0 h2 h1 hx
    refine g_iload_n dX6_ticksOpen_4 rfl ?_
    refine g_aload_n dX6_ticksOpen_5 rfl ?_
    refine g_getI 2 dX6_ticksOpen_6 flX6_18 rfl (by assumption) ?_
    refine g_icmp_ge 45 dX6_ticksOpen_9 (by decide) (fun h7 => ?_) (fun h7 => ?_)
    · skip
      refine g_iload_n dX6_ticksOpen_45 rfl ?_
      refine g_ireturn dX6_ticksOpen_46 rfl ?_
      exact ⟨by rw [hx, show k.toNat = (gi a 2).toNat by omega], rfl, rfl, rfl⟩
    · exfalso; omega
  | succ n ih =>
    intro k x h0 h2 h1 hx
    have hb := vl_sum_b (gi := gi) (a := a) k.toNat (fun i i0 i1 => hok i i0 (by omega))
    refine g_iload_n dX6_ticksOpen_4 rfl ?_
    refine g_aload_n dX6_ticksOpen_5 rfl ?_
    refine g_getI 2 dX6_ticksOpen_6 flX6_18 rfl (by assumption) ?_
    refine g_icmp_ge 45 dX6_ticksOpen_9 (by decide) (fun h7 => ?_) (fun h7 => ?_)
    · skip
      refine g_iload_n dX6_ticksOpen_45 rfl ?_
      refine g_ireturn dX6_ticksOpen_46 rfl ?_
      exact ⟨by rw [hx, show k.toNat = (gi a 2).toNat by omega], rfl, rfl, rfl⟩
    · skip
      refine g_iload_n dX6_ticksOpen_12 rfl ?_
      refine g_aload_n dX6_ticksOpen_13 rfl ?_
      refine g_getR 0 dX6_ticksOpen_14 flX6_9 rfl (by assumption) (by assumption) ?_
      refine g_alen _ dX6_ticksOpen_17 (by omega) (by assumption) (by decide) ?_
      refine g_icmp_ge 45 dX6_ticksOpen_18 (by decide) (fun h8 => ?_) (fun h8 => ?_)
      · exfalso; omega
      · skip
        refine g_iload_n dX6_ticksOpen_21 rfl ?_
        refine g_aload_n dX6_ticksOpen_22 rfl ?_
        refine g_getR 1 dX6_ticksOpen_23 flX6_15 rfl (by assumption) (by assumption) ?_
        refine g_iload_n dX6_ticksOpen_26 rfl ?_
        refine g_iaload dX6_ticksOpen_27 (by assumption) (by omega) (by omega) ?_
        refine g_aload_n dX6_ticksOpen_28 rfl ?_
        refine g_getR 0 dX6_ticksOpen_29 flX6_9 rfl (by assumption) (by assumption) ?_
        refine g_iload_n dX6_ticksOpen_32 rfl ?_
        refine g_iaload dX6_ticksOpen_33 (by assumption) (by omega) (by omega) ?_
        refine g_isub dX6_ticksOpen_34 (by (have q := hok k h0 (by omega)); omega) (by (have q := hok k h0 (by omega)); omega) ?_
        refine g_iconst dX6_ticksOpen_35 (by decide) ?_
        refine g_iadd dX6_ticksOpen_36 (by (have q := hok k h0 (by omega)); omega) (by (have q := hok k h0 (by omega)); omega) ?_
        refine g_iadd dX6_ticksOpen_37 (by (have q := hok k h0 (by omega)); omega) (by (have q := hok k h0 (by omega)); omega) ?_
        refine n_istore_n (lN := [_, _, _]) dX6_ticksOpen_38 (by decide) rfl ?_
        refine n_iinc (lN := [_, _, _]) dX6_ticksOpen_39 rfl (by decide) (by omega) (by omega) rfl ?_
        refine g_goto 4 dX6_ticksOpen_42 (by decide) ?_
        refine ih (k + 1) _ (by omega) (by omega) (by omega) ?_
        rw [show (k + 1).toNat = k.toNat + 1 by omega, vl_sum, hx, show ((k.toNat : Nat) : Int) = k by omega]
theorem c_ticksOpen (hV : isValve sh a) (hn : 0 ≤ gi a 2 ∧ gi a 2 ≤ 31) (hok : vl_ok gi a (gi a 2)) : Ct mdX6_ticksOpen 0 0 [vR a] gi gl sh (Rt (some (vI (vl_sum (gi (a + 1)) (gi (a + 2)) (gi a 2).toNat))) gi gl sh) := by
  show Go mdX6_ticksOpen 0 0 0 [some (vR a), none, none] [] gi gl sh _
  refine g_iconst dX6_ticksOpen_0 (by decide) ?_
  refine n_istore_n (lN := [_, _, _]) dX6_ticksOpen_1 (by decide) rfl ?_
  refine g_iconst dX6_ticksOpen_2 (by decide) ?_
  refine n_istore_n (lN := [_, _, _]) dX6_ticksOpen_3 (by decide) rfl ?_
  exact l_ticksOpen hV hn hok (gi a 2).toNat 0 0 (by omega) (by omega) (by omega) rfl
set_option maxRecDepth 20000 in
theorem l_want2 (hV : isValve sh a) (fr to r f : Int) (m : Nat) (hm : gi a 2 = (m : Int)) (hm2 : m ≤ 30) : Go mdX6_want 0 0 71 [some (vR a), some (vI fr), some (vI to), some (vI r), some (vI f)] [] gi gl sh (Rt none (vl_put gi a m f to) gl sh) := by
  obtain ⟨k0, r0, r1, k1, l1, k2, l2⟩ := id hV
  have e1 : a ≠ a + 1 := by omega
  have e2 : a ≠ a + 2 := by omega
  refine g_aload_n dX6_want_71 rfl ?_
  refine g_getI 2 dX6_want_72 flX6_18 rfl (by assumption) ?_
  refine g_if_lt 121 dX6_want_75 (by decide) (fun h75 => ?_) (fun h75 => ?_)
  · exfalso; omega
  · skip
    refine g_aload_n dX6_want_78 rfl ?_
    refine g_getI 2 dX6_want_79 flX6_18 rfl (by assumption) ?_
    refine g_aload_n dX6_want_82 rfl ?_
    refine g_getR 0 dX6_want_83 flX6_9 rfl (by assumption) (by assumption) ?_
    refine g_alen _ dX6_want_86 (by omega) (by assumption) (by decide) ?_
    refine g_icmp_ge 121 dX6_want_87 (by decide) (fun h87 => ?_) (fun h87 => ?_)
    · exfalso; omega
    · skip
      refine g_aload_n dX6_want_90 rfl ?_
      refine g_getR 0 dX6_want_91 flX6_9 rfl (by assumption) (by assumption) ?_
      refine g_aload_n dX6_want_94 rfl ?_
      refine g_getI 2 dX6_want_95 flX6_18 rfl (by assumption) ?_
      refine g_iload dX6_want_98 rfl ?_
      refine g_iastore dX6_want_100 (by assumption) (by omega) (by omega) ?_
      refine g_aload_n dX6_want_101 rfl ?_
      refine g_getR 1 dX6_want_102 flX6_15 rfl (by assumption) (by assumption) ?_
      refine g_aload_n dX6_want_105 rfl ?_
      refine g_getI 2 dX6_want_106 flX6_18 rfl (by assumption) ?_
      refine g_iload_n dX6_want_109 rfl ?_
      refine g_iastore dX6_want_110 (by assumption) (by simp only [g_up_row e1] <;> omega) (by simp only [g_up_row e1] <;> omega) ?_
      refine g_aload_n dX6_want_111 rfl ?_
      refine g_dup dX6_want_112 (fun _ h9 => by cases h9) ?_
      refine g_getI 2 dX6_want_113 flX6_18 rfl (by assumption) ?_
      refine g_iconst dX6_want_116 (by decide) ?_
      refine g_iadd dX6_want_117 (by simp only [g_up_row e1, g_up_row e2]; omega) (by simp only [g_up_row e1, g_up_row e2]; omega) ?_
      refine g_putI 2 dX6_want_118 flX6_18 rfl (by assumption) ?_
      refine g_return dX6_want_121 rfl ?_
      exact ⟨rfl, by simp only [g_up_row e1, g_up_row e2, vl_put, hm], rfl, rfl⟩
set_option maxRecDepth 20000 in
theorem l_want (hV : isValve sh a) (fr to r : Int) : ∀ (n : Nat) (gi : gF) (f : Int), gi a 2 = (n : Int) → n ≤ 30 → vl_ok gi a n → -1000 ≤ f ∧ f ≤ 1000 →
    Go mdX6_want 0 0 3 [some (vR a), some (vI fr), some (vI to), some (vI r), some (vI f)] [] gi gl sh (Rt none (vl_put gi a (vl_w (gi (a + 1)) (gi (a + 2)) r n f).1 (vl_w (gi (a + 1)) (gi (a + 2)) r n f).2 to) gl sh) := by
  obtain ⟨k0, r0, r1, k1, l1, k2, l2⟩ := id hV
  have e1 : a + 1 ≠ a := by omega
  have e2 : a + 2 ≠ a := by omega
  intro n
  induction n with
  | zero =>
    intro gi f hn hn2 hok hf
    refine g_aload_n dX6_want_3 rfl ?_
    refine g_getI 2 dX6_want_4 flX6_18 rfl (by assumption) ?_
    refine g_if_le 71 dX6_want_7 (by decide) (fun h7 => ?_) (fun h7 => ?_)
    · skip
      exact l_want2 hV fr to r f 0 hn (by omega)
    · exfalso; omega
  | succ n ih =>
    intro gi f hn hn2 hok hf
    obtain ⟨z, hz1, hz0, -⟩ := z_ex (vl_near (gi (a + 2) n) f r)
    refine g_aload_n dX6_want_3 rfl ?_
    refine g_getI 2 dX6_want_4 flX6_18 rfl (by assumption) ?_
    refine g_if_le 71 dX6_want_7 (by decide) (fun h7 => ?_) (fun h7 => ?_)
    · exfalso; omega
    · skip
      refine g_aload_n dX6_want_10 rfl ?_
      refine g_getI 2 dX6_want_11 flX6_18 rfl (by assumption) ?_
      refine g_aload_n dX6_want_14 rfl ?_
      refine g_getR 1 dX6_want_15 flX6_15 rfl (by assumption) (by assumption) ?_
      refine g_alen _ dX6_want_18 (by omega) (by assumption) (by decide) ?_
      refine g_icmp_gt 71 dX6_want_19 (by decide) (fun h8 => ?_) (fun h8 => ?_)
      · exfalso; omega
      · skip
        refine g_aload_n dX6_want_22 rfl ?_
        refine g_getR 1 dX6_want_23 flX6_15 rfl (by assumption) (by assumption) ?_
        refine g_aload_n dX6_want_26 rfl ?_
        refine g_getI 2 dX6_want_27 flX6_18 rfl (by assumption) ?_
        refine g_iconst dX6_want_30 (by decide) ?_
        refine g_isub dX6_want_31 (by omega) (by omega) ?_
        have hq := hok n (by omega) (by omega)
        refine g_iaload dX6_want_32 (by assumption) (by omega) (by omega) ?_
        rw [show gi a 2 - 1 = (n : Int) by omega]
        refine g_iload dX6_want_33 rfl ?_
        refine g_iload_n dX6_want_35 rfl ?_
        refine g_cSi [_, _, _] dX6_want_36 mlX6_22 msX6_isNear (by decide) rfl rfl (Nat.le_of_ble_eq_true rfl) rfl (Nat.le_of_ble_eq_true rfl) (c_isNear (gi (a + 2) n) f r z hz1 hz0 (by omega) (by omega)) ?_
        refine g_if_eq 71 dX6_want_39 (by decide) (fun h9 => ?_) (fun h9 => ?_)
        · skip
          have hno : ¬ vl_near (gi (a + 2) n) f r := fun q => by have := hz1 q; omega
          have e : vl_w (gi (a + 1)) (gi (a + 2)) r (n + 1) f = (n + 1, f) := by rw [vl_w]; exact if_neg hno
          rw [e]
          exact l_want2 hV fr to r f (n + 1) hn (by omega)
        · skip
          refine g_aload_n dX6_want_42 rfl ?_
          refine g_dup dX6_want_43 (fun _ h9 => by cases h9) ?_
          refine g_getI 2 dX6_want_44 flX6_18 rfl (by assumption) ?_
          refine g_iconst dX6_want_47 (by decide) ?_
          refine g_isub dX6_want_48 (by omega) (by omega) ?_
          refine g_putI 2 dX6_want_49 flX6_18 rfl (by assumption) ?_
          refine g_iload dX6_want_52 rfl ?_
          refine g_aload_n dX6_want_54 rfl ?_
          refine g_getR 0 dX6_want_55 flX6_9 rfl (by assumption) (by assumption) ?_
          refine g_aload_n dX6_want_58 rfl ?_
          refine g_getI 2 dX6_want_59 flX6_18 rfl (by assumption) ?_
          refine g_iaload dX6_want_62 (by assumption) (by simp only [g_up_at] <;> omega) (by simp only [g_up_at] <;> omega) ?_
          refine g_min dX6_want_63 mlX6_26 (Nat.le_of_ble_eq_true rfl) ?_
          refine n_istore (lN := [_, _, _, _, _]) dX6_want_66 (by decide) rfl ?_
          refine g_goto 3 dX6_want_68 (by decide) ?_
          have hyes : vl_near (gi (a + 2) n) f r := Classical.byContradiction (fun q => h9 (hz0 q))
          have e : vl_w (gi (a + 1)) (gi (a + 2)) r (n + 1) f = vl_w (gi (a + 1)) (gi (a + 2)) r n (min f (gi (a + 1) n)) := by rw [vl_w]; exact if_pos hyes
          rw [e]
          have en : gi a 2 - 1 = (n : Int) := by omega
          simp only [g_up_at, g_up_row e1, en]
          have k := ih (g_up gi a 2 n) (min f (gi (a + 1) n)) g_up_at (by omega) (by intro k k0 k1; rw [g_up_row e1, g_up_row e2]; exact hok k k0 (by omega)) (by omega)
          rw [g_up_row e1, g_up_row e2] at k
          have e4 : ∀ m x t : Int, vl_put (g_up gi a 2 (n : Int)) a m x t = vl_put gi a m x t := fun m x t => by
            unfold vl_put
            rw [g_up_comm (f := gi) (Or.inl e1.symm), g_up_comm (f := g_up gi (a + 1) m x) (Or.inl e2.symm), g_up_up]
          rw [e4] at k
          exact k
theorem c_want (hV : isValve sh a) (fr to r : Int) (n : Nat) (hn : gi a 2 = (n : Int)) (hn2 : n ≤ 30) (hok : vl_ok gi a n) (hf : -1000 ≤ fr ∧ fr ≤ 1000) : Ct mdX6_want 0 0 [vR a, vI fr, vI to, vI r] gi gl sh (Rt none (vl_put gi a (vl_w (gi (a + 1)) (gi (a + 2)) r n fr).1 (vl_w (gi (a + 1)) (gi (a + 2)) r n fr).2 to) gl sh) := by
  show Go mdX6_want 0 0 0 [some (vR a), some (vI fr), some (vI to), some (vI r), none] [] gi gl sh _
  refine g_iload_n dX6_want_0 rfl ?_
  refine n_istore (lN := [_, _, _, _, _]) dX6_want_1 (by decide) rfl ?_
  exact l_want hV fr to r n gi fr hn hn2 hok hf
end VALVE
end
section
/-! Plan: kinds at a+1, numbers at a+2; ruleCount 2, width 3, valveCount 4, fall 5, ahead 6, behind 7, darkFrom 8, rest 9 -/
def isPlan (sh : gSh) (a : Int) : Prop := sh.2.1 a = 3 ∧ sh.1 a 0 = some (a + 1) ∧ sh.1 a 1 = some (a + 2) ∧ sh.2.1 (a + 1) = 11 ∧ (sh.2.2.1 (a + 1) : Int) = 4 ∧ sh.2.1 (a + 2) = 11 ∧ (sh.2.2.1 (a + 2) : Int) = 4
def pn_reset (gi : gF) (a : Int) : gF := g_up (g_up (g_up (g_up (g_up (g_up (g_up (g_up gi a 2 0) a 3 8) a 4 4) a 5 6) a 6 1) a 7 1) a 8 7) a 9 2
def pn_add (gi : gF) (a k n : Int) : gF := g_up (g_up (g_up gi (a + 1) (gi a 2) k) (a + 2) (gi a 2) n) a 2 (gi a 2 + 1)
def pn_grid (gi : gF) (a w v f h b : Int) : gF := g_up (g_up (g_up (g_up (g_up gi a 3 w) a 4 v) a 5 f) a 6 h) a 7 b
def pn_gok (w v f h b : Int) : Prop := (4 ≤ w ∧ w ≤ 16) ∧ (1 ≤ v ∧ w % v = 0) ∧ (0 ≤ f ∧ f ≤ 20) ∧ (0 ≤ h ∧ h ≤ 5) ∧ (0 ≤ b ∧ b ≤ 5)
theorem p10_b : ∀ n : Nat, n ≤ 16 → (1 : Int) ≤ 10 ^ n ∧ (10 : Int) ^ n ≤ 10000000000000000 := by decide
section PLAN
variable {gi gl gi1 : gF} {sh : gSh} {a b : Int}
set_option maxRecDepth 20000 in
set_option maxHeartbeats 1000000 in
theorem c_reset (hk : sh.2.1 a = 3) : Ct mdX3_reset 0 0 [vR a] gi gl sh (Rt none (pn_reset gi a) gl sh) := by
  show Go mdX3_reset 0 0 0 [some (vR a)] [] gi gl sh _
  refine g_aload_n dX3_reset_0 rfl ?_
  refine g_iconst dX3_reset_1 (by decide) ?_
  refine g_putI 2 dX3_reset_2 flX3_21 rfl (by assumption) ?_
  refine g_aload_n dX3_reset_5 rfl ?_
  refine g_bipush dX3_reset_6 (by decide) (by decide) ?_
  refine g_putI 3 dX3_reset_8 flX3_25 rfl (by assumption) ?_
  refine g_aload_n dX3_reset_11 rfl ?_
  refine g_iconst dX3_reset_12 (by decide) ?_
  refine g_putI 4 dX3_reset_13 flX3_28 rfl (by assumption) ?_
  refine g_aload_n dX3_reset_16 rfl ?_
  refine g_bipush dX3_reset_17 (by decide) (by decide) ?_
  refine g_putI 5 dX3_reset_19 flX3_31 rfl (by assumption) ?_
  refine g_aload_n dX3_reset_22 rfl ?_
  refine g_iconst dX3_reset_23 (by decide) ?_
  refine g_putI 6 dX3_reset_24 flX3_34 rfl (by assumption) ?_
  refine g_aload_n dX3_reset_27 rfl ?_
  refine g_iconst dX3_reset_28 (by decide) ?_
  refine g_putI 7 dX3_reset_29 flX3_37 rfl (by assumption) ?_
  refine g_aload_n dX3_reset_32 rfl ?_
  refine g_bipush dX3_reset_33 (by decide) (by decide) ?_
  refine g_putI 8 dX3_reset_35 flX3_40 rfl (by assumption) ?_
  refine g_aload_n dX3_reset_38 rfl ?_
  refine g_iconst dX3_reset_39 (by decide) ?_
  refine g_putI 9 dX3_reset_40 flX3_43 rfl (by assumption) ?_
  refine g_return dX3_reset_43 rfl ?_
  exact ⟨rfl, rfl, rfl, rfl⟩

set_option maxRecDepth 20000 in
set_option maxHeartbeats 1000000 in
theorem c_isBetween (v lo hi z : Int) (h1 : lo ≤ v ∧ v ≤ hi → z = 1) (h0 : ¬ (lo ≤ v ∧ v ≤ hi) → z = 0) : Ct mdX3_isBetween 0 0 [vI v, vI lo, vI hi] gi gl sh (Rt (some (vI z)) gi gl sh) := by
  show Go mdX3_isBetween 0 0 0 [some (vI v), some (vI lo), some (vI hi)] [] gi gl sh _
  refine g_iload_n dX3_isBetween_0 rfl ?_
  refine g_iload_n dX3_isBetween_1 rfl ?_
  refine g_icmp_lt 14 dX3_isBetween_2 (by decide) (fun h2 => ?_) (fun h2 => ?_)
  · skip
    refine g_iconst dX3_isBetween_14 (by decide) ?_
    refine g_zreturn dX3_isBetween_15 rfl (by omega) ?_
    exact ⟨by first | (rw [h1 (by omega)]; done) | (rw [h0 (by omega)]; done), rfl, rfl, rfl⟩
  · skip
    refine g_iload_n dX3_isBetween_5 rfl ?_
    refine g_iload_n dX3_isBetween_6 rfl ?_
    refine g_icmp_gt 14 dX3_isBetween_7 (by decide) (fun h7 => ?_) (fun h7 => ?_)
    · skip
      refine g_iconst dX3_isBetween_14 (by decide) ?_
      refine g_zreturn dX3_isBetween_15 rfl (by omega) ?_
      exact ⟨by first | (rw [h1 (by omega)]; done) | (rw [h0 (by omega)]; done), rfl, rfl, rfl⟩
    · skip
      refine g_iconst dX3_isBetween_10 (by decide) ?_
      refine g_goto 15 dX3_isBetween_11 (by decide) ?_
      refine g_zreturn dX3_isBetween_15 rfl (by omega) ?_
      exact ⟨by first | (rw [h1 (by omega)]; done) | (rw [h0 (by omega)]; done), rfl, rfl, rfl⟩

set_option maxRecDepth 20000 in
set_option maxHeartbeats 1000000 in
theorem c_addRule1 (hV : isPlan sh a) (k n : Int) (hr : 0 ≤ gi a 2 ∧ gi a 2 < 4) (hk : 0 ≤ k ∧ k ≤ 3) (hn : 1 ≤ n ∧ n ≤ 99) : Ct mdX3_addRule 0 0 [vR a, vI k, vI n] gi gl sh (Rt (some (vI 1)) (pn_add gi a k n) gl sh) := by
  show Go mdX3_addRule 0 0 0 [some (vR a), some (vI k), some (vI n)] [] gi gl sh _
  obtain ⟨k0, r0, r1, k1, l1, k2, l2⟩ := id hV
  have e1 : a ≠ a + 1 := by omega
  have e2 : a ≠ a + 2 := by omega
  refine g_aload_n dX3_addRule_0 rfl ?_
  refine g_getI 2 dX3_addRule_1 flX3_21 rfl (by assumption) ?_
  refine g_iconst dX3_addRule_4 (by decide) ?_
  refine g_icmp_ge 27 dX3_addRule_5 (by decide) (fun h5 => ?_) (fun h5 => ?_)
  · exfalso; omega
  · skip
    refine g_iload_n dX3_addRule_8 rfl ?_
    refine g_iconst dX3_addRule_9 (by decide) ?_
    refine g_iconst dX3_addRule_10 (by decide) ?_
    refine g_cSi [_, _, _] dX3_addRule_11 mlX3_61 msX3_isBetween (by decide) rfl rfl (Nat.le_of_ble_eq_true rfl) rfl (Nat.le_of_ble_eq_true rfl) (c_isBetween k 0 3 1 (fun _ => rfl) (fun h => by omega)) ?_
    refine g_if_eq 27 dX3_addRule_14 (by decide) (fun h14 => ?_) (fun h14 => ?_)
    · exfalso; omega
    · skip
      refine g_iload_n dX3_addRule_17 rfl ?_
      refine g_iconst dX3_addRule_18 (by decide) ?_
      refine g_bipush dX3_addRule_19 (by decide) (by decide) ?_
      refine g_cSi [_, _, _] dX3_addRule_21 mlX3_61 msX3_isBetween (by decide) rfl rfl (Nat.le_of_ble_eq_true rfl) rfl (Nat.le_of_ble_eq_true rfl) (c_isBetween n 1 99 1 (fun _ => rfl) (fun h => by omega)) ?_
      refine g_if_ne 29 dX3_addRule_24 (by decide) (fun h24 => ?_) (fun h24 => ?_)
      · skip
        refine g_aload_n dX3_addRule_29 rfl ?_
        refine g_getR 0 dX3_addRule_30 flX3_9 rfl (by assumption) (by assumption) ?_
        refine g_aload_n dX3_addRule_33 rfl ?_
        refine g_getI 2 dX3_addRule_34 flX3_21 rfl (by assumption) ?_
        refine g_iload_n dX3_addRule_37 rfl ?_
        refine g_iastore dX3_addRule_38 (by assumption) (by omega) (by omega) ?_
        refine g_aload_n dX3_addRule_39 rfl ?_
        refine g_getR 1 dX3_addRule_40 flX3_15 rfl (by assumption) (by assumption) ?_
        refine g_aload_n dX3_addRule_43 rfl ?_
        refine g_getI 2 dX3_addRule_44 flX3_21 rfl (by assumption) ?_
        refine g_iload_n dX3_addRule_47 rfl ?_
        refine g_iastore dX3_addRule_48 (by assumption) (by simp only [g_up_row e1] <;> omega) (by simp only [g_up_row e1] <;> omega) ?_
        refine g_aload_n dX3_addRule_49 rfl ?_
        refine g_dup dX3_addRule_50 (fun _ h9 => by cases h9) ?_
        refine g_getI 2 dX3_addRule_51 flX3_21 rfl (by assumption) ?_
        refine g_iconst dX3_addRule_54 (by decide) ?_
        refine g_iadd dX3_addRule_55 (by simp only [g_up_row e1, g_up_row e2] <;> omega) (by simp only [g_up_row e1, g_up_row e2] <;> omega) ?_
        refine g_putI 2 dX3_addRule_56 flX3_21 rfl (by assumption) ?_
        refine g_iconst dX3_addRule_59 (by decide) ?_
        refine g_zreturn dX3_addRule_60 rfl (by omega) ?_
        exact ⟨rfl, by simp only [g_up_row e1, g_up_row e2, pn_add], rfl, rfl⟩
      · exfalso; omega

set_option maxRecDepth 20000 in
set_option maxHeartbeats 1000000 in
theorem c_addRule0 (k n : Int) (hk0 : sh.2.1 a = 3) (h : ¬ (gi a 2 < 4 ∧ (0 ≤ k ∧ k ≤ 3) ∧ (1 ≤ n ∧ n ≤ 99))) : Ct mdX3_addRule 0 0 [vR a, vI k, vI n] gi gl sh (Rt (some (vI 0)) gi gl sh) := by
  show Go mdX3_addRule 0 0 0 [some (vR a), some (vI k), some (vI n)] [] gi gl sh _
  obtain ⟨z, hz1, hz0, -⟩ := z_ex (0 ≤ k ∧ k ≤ 3)
  obtain ⟨y, hy1, hy0, -⟩ := z_ex (1 ≤ n ∧ n ≤ 99)
  refine g_aload_n dX3_addRule_0 rfl ?_
  refine g_getI 2 dX3_addRule_1 flX3_21 rfl (by assumption) ?_
  refine g_iconst dX3_addRule_4 (by decide) ?_
  refine g_icmp_ge 27 dX3_addRule_5 (by decide) (fun h5 => ?_) (fun h5 => ?_)
  · skip
    refine g_iconst dX3_addRule_27 (by decide) ?_
    refine g_zreturn dX3_addRule_28 rfl (by omega) ?_
    exact ⟨rfl, rfl, rfl, rfl⟩
  · skip
    refine g_iload_n dX3_addRule_8 rfl ?_
    refine g_iconst dX3_addRule_9 (by decide) ?_
    refine g_iconst dX3_addRule_10 (by decide) ?_
    refine g_cSi [_, _, _] dX3_addRule_11 mlX3_61 msX3_isBetween (by decide) rfl rfl (Nat.le_of_ble_eq_true rfl) rfl (Nat.le_of_ble_eq_true rfl) (c_isBetween k 0 3 z hz1 hz0) ?_
    refine g_if_eq 27 dX3_addRule_14 (by decide) (fun h14 => ?_) (fun h14 => ?_)
    · skip
      refine g_iconst dX3_addRule_27 (by decide) ?_
      refine g_zreturn dX3_addRule_28 rfl (by omega) ?_
      exact ⟨rfl, rfl, rfl, rfl⟩
    · skip
      refine g_iload_n dX3_addRule_17 rfl ?_
      refine g_iconst dX3_addRule_18 (by decide) ?_
      refine g_bipush dX3_addRule_19 (by decide) (by decide) ?_
      refine g_cSi [_, _, _] dX3_addRule_21 mlX3_61 msX3_isBetween (by decide) rfl rfl (Nat.le_of_ble_eq_true rfl) rfl (Nat.le_of_ble_eq_true rfl) (c_isBetween n 1 99 y hy1 hy0) ?_
      refine g_if_ne 29 dX3_addRule_24 (by decide) (fun h24 => ?_) (fun h24 => ?_)
      · skip
        exfalso; omega
      · skip
        refine g_iconst dX3_addRule_27 (by decide) ?_
        refine g_zreturn dX3_addRule_28 rfl (by omega) ?_
        exact ⟨rfl, rfl, rfl, rfl⟩

set_option maxRecDepth 20000 in
set_option maxHeartbeats 1000000 in
theorem c_takeDark1 (v : Int) (hk : sh.2.1 a = 3) (h : 1 ≤ v ∧ v ≤ 9) : Ct mdX3_takeDark 0 0 [vR a, vI v] gi gl sh (Rt (some (vI 1)) (g_up gi a 8 v) gl sh) := by
  show Go mdX3_takeDark 0 0 0 [some (vR a), some (vI v)] [] gi gl sh _
  refine g_iload_n dX3_takeDark_0 rfl ?_
  refine g_iconst dX3_takeDark_1 (by decide) ?_
  refine g_bipush dX3_takeDark_2 (by decide) (by decide) ?_
  refine g_cSi [_, _, _] dX3_takeDark_4 mlX3_61 msX3_isBetween (by decide) rfl rfl (Nat.le_of_ble_eq_true rfl) rfl (Nat.le_of_ble_eq_true rfl) (c_isBetween v 1 9 1 (fun _ => rfl) (fun h => by omega)) ?_
  refine g_if_ne 12 dX3_takeDark_7 (by decide) (fun h7 => ?_) (fun h7 => ?_)
  · skip
    refine g_aload_n dX3_takeDark_12 rfl ?_
    refine g_iload_n dX3_takeDark_13 rfl ?_
    refine g_putI 8 dX3_takeDark_14 flX3_40 rfl (by assumption) ?_
    refine g_iconst dX3_takeDark_17 (by decide) ?_
    refine g_zreturn dX3_takeDark_18 rfl (by omega) ?_
    exact ⟨rfl, rfl, rfl, rfl⟩
  · exfalso; omega

set_option maxRecDepth 20000 in
set_option maxHeartbeats 1000000 in
theorem c_takeDark0 (v : Int) (hk : sh.2.1 a = 3) (h : ¬ (1 ≤ v ∧ v ≤ 9)) : Ct mdX3_takeDark 0 0 [vR a, vI v] gi gl sh (Rt (some (vI 0)) gi gl sh) := by
  show Go mdX3_takeDark 0 0 0 [some (vR a), some (vI v)] [] gi gl sh _
  refine g_iload_n dX3_takeDark_0 rfl ?_
  refine g_iconst dX3_takeDark_1 (by decide) ?_
  refine g_bipush dX3_takeDark_2 (by decide) (by decide) ?_
  refine g_cSi [_, _, _] dX3_takeDark_4 mlX3_61 msX3_isBetween (by decide) rfl rfl (Nat.le_of_ble_eq_true rfl) rfl (Nat.le_of_ble_eq_true rfl) (c_isBetween v 1 9 0 (fun q => absurd q h) (fun _ => rfl)) ?_
  refine g_if_ne 12 dX3_takeDark_7 (by decide) (fun h7 => ?_) (fun h7 => ?_)
  · exfalso; omega
  · skip
    refine g_iconst dX3_takeDark_10 (by decide) ?_
    refine g_zreturn dX3_takeDark_11 rfl (by omega) ?_
    exact ⟨rfl, rfl, rfl, rfl⟩

set_option maxRecDepth 20000 in
set_option maxHeartbeats 1000000 in
theorem c_takeRest1 (v : Int) (hk : sh.2.1 a = 3) (h : 0 ≤ v ∧ v ≤ 9) : Ct mdX3_takeRest 0 0 [vR a, vI v] gi gl sh (Rt (some (vI 1)) (g_up gi a 9 v) gl sh) := by
  show Go mdX3_takeRest 0 0 0 [some (vR a), some (vI v)] [] gi gl sh _
  refine g_iload_n dX3_takeRest_0 rfl ?_
  refine g_iconst dX3_takeRest_1 (by decide) ?_
  refine g_bipush dX3_takeRest_2 (by decide) (by decide) ?_
  refine g_cSi [_, _, _] dX3_takeRest_4 mlX3_61 msX3_isBetween (by decide) rfl rfl (Nat.le_of_ble_eq_true rfl) rfl (Nat.le_of_ble_eq_true rfl) (c_isBetween v 0 9 1 (fun _ => rfl) (fun h => by omega)) ?_
  refine g_if_ne 12 dX3_takeRest_7 (by decide) (fun h7 => ?_) (fun h7 => ?_)
  · skip
    refine g_aload_n dX3_takeRest_12 rfl ?_
    refine g_iload_n dX3_takeRest_13 rfl ?_
    refine g_putI 9 dX3_takeRest_14 flX3_43 rfl (by assumption) ?_
    refine g_iconst dX3_takeRest_17 (by decide) ?_
    refine g_zreturn dX3_takeRest_18 rfl (by omega) ?_
    exact ⟨rfl, rfl, rfl, rfl⟩
  · exfalso; omega

set_option maxRecDepth 20000 in
set_option maxHeartbeats 1000000 in
theorem c_takeRest0 (v : Int) (hk : sh.2.1 a = 3) (h : ¬ (0 ≤ v ∧ v ≤ 9)) : Ct mdX3_takeRest 0 0 [vR a, vI v] gi gl sh (Rt (some (vI 0)) gi gl sh) := by
  show Go mdX3_takeRest 0 0 0 [some (vR a), some (vI v)] [] gi gl sh _
  refine g_iload_n dX3_takeRest_0 rfl ?_
  refine g_iconst dX3_takeRest_1 (by decide) ?_
  refine g_bipush dX3_takeRest_2 (by decide) (by decide) ?_
  refine g_cSi [_, _, _] dX3_takeRest_4 mlX3_61 msX3_isBetween (by decide) rfl rfl (Nat.le_of_ble_eq_true rfl) rfl (Nat.le_of_ble_eq_true rfl) (c_isBetween v 0 9 0 (fun q => absurd q h) (fun _ => rfl)) ?_
  refine g_if_ne 12 dX3_takeRest_7 (by decide) (fun h7 => ?_) (fun h7 => ?_)
  · exfalso; omega
  · skip
    refine g_iconst dX3_takeRest_10 (by decide) ?_
    refine g_zreturn dX3_takeRest_11 rfl (by omega) ?_
    exact ⟨rfl, rfl, rfl, rfl⟩

set_option maxRecDepth 20000 in
set_option maxHeartbeats 1000000 in
theorem c_takeGrid1 (hk : sh.2.1 a = 3) (hb : sh.2.1 b = 11) (hl : (sh.2.2.1 b : Int) = 5) (hab : b ≠ a) (h : pn_gok (gi b 0) (gi b 1) (gi b 2) (gi b 3) (gi b 4)) : Ct mdX3_takeGrid 0 0 [vR a, vR b] gi gl sh (Rt (some (vI 1)) (pn_grid gi a (gi b 0) (gi b 1) (gi b 2) (gi b 3) (gi b 4)) gl sh) := by
  show Go mdX3_takeGrid 0 0 0 [some (vR a), some (vR b)] [] gi gl sh _
  obtain ⟨q0, q1, q2, q3, q4⟩ := h
  refine g_aload_n dX3_takeGrid_0 rfl ?_
  refine g_alen _ dX3_takeGrid_1 (by omega) (by assumption) (by decide) ?_
  refine g_iconst dX3_takeGrid_2 (by decide) ?_
  refine g_icmp_lt 18 dX3_takeGrid_3 (by decide) (fun h3 => ?_) (fun h3 => ?_)
  · exfalso; omega
  · skip
    refine g_aload_n dX3_takeGrid_6 rfl ?_
    refine g_iconst dX3_takeGrid_7 (by decide) ?_
    refine g_iaload dX3_takeGrid_8 (by assumption) (by omega) (by omega) ?_
    refine g_iconst dX3_takeGrid_9 (by decide) ?_
    refine g_bipush dX3_takeGrid_10 (by decide) (by decide) ?_
    refine g_cSi [_, _, _] dX3_takeGrid_12 mlX3_61 msX3_isBetween (by decide) rfl rfl (Nat.le_of_ble_eq_true rfl) rfl (Nat.le_of_ble_eq_true rfl) (c_isBetween _ 4 16 1 (fun _ => rfl) (fun h => absurd q0 h)) ?_
    refine g_if_ne 20 dX3_takeGrid_15 (by decide) (fun h15 => ?_) (fun h15 => ?_)
    · skip
      refine g_aload_n dX3_takeGrid_20 rfl ?_
      refine g_iconst dX3_takeGrid_21 (by decide) ?_
      refine g_iaload dX3_takeGrid_22 (by assumption) (by omega) (by omega) ?_
      refine g_iconst dX3_takeGrid_23 (by decide) ?_
      refine g_icmp_lt 37 dX3_takeGrid_24 (by decide) (fun h24 => ?_) (fun h24 => ?_)
      · exfalso; have := q1.1; clear q0 q2 q3 q4; omega
      · skip
        refine g_aload_n dX3_takeGrid_27 rfl ?_
        refine g_iconst dX3_takeGrid_28 (by decide) ?_
        refine g_iaload dX3_takeGrid_29 (by assumption) (by omega) (by omega) ?_
        refine g_aload_n dX3_takeGrid_30 rfl ?_
        refine g_iconst dX3_takeGrid_31 (by decide) ?_
        refine g_iaload dX3_takeGrid_32 (by assumption) (by omega) (by omega) ?_
        refine g_irem dX3_takeGrid_33 (by first | exact Int.le_trans (by decide) q0.1 | exact Int.lt_of_lt_of_le (by decide) q1.1) (by first | exact Int.le_trans (by decide) q0.1 | exact Int.lt_of_lt_of_le (by decide) q1.1) ?_
        refine g_if_eq 39 dX3_takeGrid_34 (by decide) (fun h34 => ?_) (fun h34 => ?_)
        · skip
          refine g_aload_n dX3_takeGrid_39 rfl ?_
          refine g_iconst dX3_takeGrid_40 (by decide) ?_
          refine g_iaload dX3_takeGrid_41 (by assumption) (by omega) (by omega) ?_
          refine g_iconst dX3_takeGrid_42 (by decide) ?_
          refine g_bipush dX3_takeGrid_43 (by decide) (by decide) ?_
          refine g_cSi [_, _, _] dX3_takeGrid_45 mlX3_61 msX3_isBetween (by decide) rfl rfl (Nat.le_of_ble_eq_true rfl) rfl (Nat.le_of_ble_eq_true rfl) (c_isBetween _ 0 20 1 (fun _ => rfl) (fun h => absurd q2 h)) ?_
          refine g_if_eq 73 dX3_takeGrid_48 (by decide) (fun h48 => ?_) (fun h48 => ?_)
          · exfalso; omega
          · skip
            refine g_aload_n dX3_takeGrid_51 rfl ?_
            refine g_iconst dX3_takeGrid_52 (by decide) ?_
            refine g_iaload dX3_takeGrid_53 (by assumption) (by omega) (by omega) ?_
            refine g_iconst dX3_takeGrid_54 (by decide) ?_
            refine g_iconst dX3_takeGrid_55 (by decide) ?_
            refine g_cSi [_, _, _] dX3_takeGrid_56 mlX3_61 msX3_isBetween (by decide) rfl rfl (Nat.le_of_ble_eq_true rfl) rfl (Nat.le_of_ble_eq_true rfl) (c_isBetween _ 0 5 1 (fun _ => rfl) (fun h => absurd q3 h)) ?_
            refine g_if_eq 73 dX3_takeGrid_59 (by decide) (fun h59 => ?_) (fun h59 => ?_)
            · exfalso; omega
            · skip
              refine g_aload_n dX3_takeGrid_62 rfl ?_
              refine g_iconst dX3_takeGrid_63 (by decide) ?_
              refine g_iaload dX3_takeGrid_64 (by assumption) (by omega) (by omega) ?_
              refine g_iconst dX3_takeGrid_65 (by decide) ?_
              refine g_iconst dX3_takeGrid_66 (by decide) ?_
              refine g_cSi [_, _, _] dX3_takeGrid_67 mlX3_61 msX3_isBetween (by decide) rfl rfl (Nat.le_of_ble_eq_true rfl) rfl (Nat.le_of_ble_eq_true rfl) (c_isBetween _ 0 5 1 (fun _ => rfl) (fun h => absurd q4 h)) ?_
              refine g_if_ne 75 dX3_takeGrid_70 (by decide) (fun h70 => ?_) (fun h70 => ?_)
              · skip
                refine g_aload_n dX3_takeGrid_75 rfl ?_
                refine g_aload_n dX3_takeGrid_76 rfl ?_
                refine g_iconst dX3_takeGrid_77 (by decide) ?_
                refine g_iaload dX3_takeGrid_78 (by assumption) (by omega) (by omega) ?_
                refine g_putI 3 dX3_takeGrid_79 flX3_25 rfl (by assumption) ?_
                refine g_aload_n dX3_takeGrid_82 rfl ?_
                refine g_aload_n dX3_takeGrid_83 rfl ?_
                refine g_iconst dX3_takeGrid_84 (by decide) ?_
                refine g_iaload dX3_takeGrid_85 (by assumption) (by omega) (by omega) ?_
                refine g_putI 4 dX3_takeGrid_86 flX3_28 rfl (by assumption) ?_
                refine g_aload_n dX3_takeGrid_89 rfl ?_
                refine g_aload_n dX3_takeGrid_90 rfl ?_
                refine g_iconst dX3_takeGrid_91 (by decide) ?_
                refine g_iaload dX3_takeGrid_92 (by assumption) (by omega) (by omega) ?_
                refine g_putI 5 dX3_takeGrid_93 flX3_31 rfl (by assumption) ?_
                refine g_aload_n dX3_takeGrid_96 rfl ?_
                refine g_aload_n dX3_takeGrid_97 rfl ?_
                refine g_iconst dX3_takeGrid_98 (by decide) ?_
                refine g_iaload dX3_takeGrid_99 (by assumption) (by omega) (by omega) ?_
                refine g_putI 6 dX3_takeGrid_100 flX3_34 rfl (by assumption) ?_
                refine g_aload_n dX3_takeGrid_103 rfl ?_
                refine g_aload_n dX3_takeGrid_104 rfl ?_
                refine g_iconst dX3_takeGrid_105 (by decide) ?_
                refine g_iaload dX3_takeGrid_106 (by assumption) (by omega) (by omega) ?_
                refine g_putI 7 dX3_takeGrid_107 flX3_37 rfl (by assumption) ?_
                refine g_iconst dX3_takeGrid_110 (by decide) ?_
                refine g_zreturn dX3_takeGrid_111 rfl (by omega) ?_
                exact ⟨rfl, by simp only [g_up_row hab, pn_grid], rfl, rfl⟩
              · exfalso; omega
        · exfalso; exact h34 q1.2
    · exfalso; omega

set_option maxRecDepth 20000 in
set_option maxHeartbeats 1000000 in
theorem c_takeGrid0 (hk : sh.2.1 a = 3) (hb : sh.2.1 b = 11) (hl : (sh.2.2.1 b : Int) = 5) (h0 : 0 ≤ gi b 0) (h : ¬ pn_gok (gi b 0) (gi b 1) (gi b 2) (gi b 3) (gi b 4)) : Ct mdX3_takeGrid 0 0 [vR a, vR b] gi gl sh (Rt (some (vI 0)) gi gl sh) := by
  show Go mdX3_takeGrid 0 0 0 [some (vR a), some (vR b)] [] gi gl sh _
  obtain ⟨z0, z1, z2, -⟩ := z_ex (4 ≤ gi b 0 ∧ gi b 0 ≤ 16)
  obtain ⟨y0, y1, y2, -⟩ := z_ex (0 ≤ gi b 2 ∧ gi b 2 ≤ 20)
  obtain ⟨x0, x1, x2, -⟩ := z_ex (0 ≤ gi b 3 ∧ gi b 3 ≤ 5)
  obtain ⟨w0, w1, w2, -⟩ := z_ex (0 ≤ gi b 4 ∧ gi b 4 ≤ 5)
  refine g_aload_n dX3_takeGrid_0 rfl ?_
  refine g_alen _ dX3_takeGrid_1 (by omega) (by assumption) (by decide) ?_
  refine g_iconst dX3_takeGrid_2 (by decide) ?_
  refine g_icmp_lt 18 dX3_takeGrid_3 (by decide) (fun h3 => ?_) (fun h3 => ?_)
  · exfalso; revert h3; decide
  · skip
    refine g_aload_n dX3_takeGrid_6 rfl ?_
    refine g_iconst dX3_takeGrid_7 (by decide) ?_
    refine g_iaload dX3_takeGrid_8 (by assumption) (by omega) (by omega) ?_
    refine g_iconst dX3_takeGrid_9 (by decide) ?_
    refine g_bipush dX3_takeGrid_10 (by decide) (by decide) ?_
    refine g_cSi [_, _, _] dX3_takeGrid_12 mlX3_61 msX3_isBetween (by decide) rfl rfl (Nat.le_of_ble_eq_true rfl) rfl (Nat.le_of_ble_eq_true rfl) (c_isBetween _ 4 16 z0 z1 z2) ?_
    refine g_if_ne 20 dX3_takeGrid_15 (by decide) (fun h15 => ?_) (fun h15 => ?_)
    · skip
      refine g_aload_n dX3_takeGrid_20 rfl ?_
      refine g_iconst dX3_takeGrid_21 (by decide) ?_
      refine g_iaload dX3_takeGrid_22 (by assumption) (by omega) (by omega) ?_
      refine g_iconst dX3_takeGrid_23 (by decide) ?_
      refine g_icmp_lt 37 dX3_takeGrid_24 (by decide) (fun h24 => ?_) (fun h24 => ?_)
      · skip
        refine g_iconst dX3_takeGrid_37 (by decide) ?_
        refine g_zreturn dX3_takeGrid_38 rfl (by omega) ?_
        exact ⟨rfl, rfl, rfl, rfl⟩
      · skip
        refine g_aload_n dX3_takeGrid_27 rfl ?_
        refine g_iconst dX3_takeGrid_28 (by decide) ?_
        refine g_iaload dX3_takeGrid_29 (by assumption) (by omega) (by omega) ?_
        refine g_aload_n dX3_takeGrid_30 rfl ?_
        refine g_iconst dX3_takeGrid_31 (by decide) ?_
        refine g_iaload dX3_takeGrid_32 (by assumption) (by omega) (by omega) ?_
        refine g_irem dX3_takeGrid_33 (by first | exact h0 | (clear z1 z2 y1 y2 x1 x2 w1 w2; omega)) (by first | exact h0 | (clear z1 z2 y1 y2 x1 x2 w1 w2; omega)) ?_
        refine g_if_eq 39 dX3_takeGrid_34 (by decide) (fun h34 => ?_) (fun h34 => ?_)
        · skip
          refine g_aload_n dX3_takeGrid_39 rfl ?_
          refine g_iconst dX3_takeGrid_40 (by decide) ?_
          refine g_iaload dX3_takeGrid_41 (by assumption) (by omega) (by omega) ?_
          refine g_iconst dX3_takeGrid_42 (by decide) ?_
          refine g_bipush dX3_takeGrid_43 (by decide) (by decide) ?_
          refine g_cSi [_, _, _] dX3_takeGrid_45 mlX3_61 msX3_isBetween (by decide) rfl rfl (Nat.le_of_ble_eq_true rfl) rfl (Nat.le_of_ble_eq_true rfl) (c_isBetween _ 0 20 y0 y1 y2) ?_
          refine g_if_eq 73 dX3_takeGrid_48 (by decide) (fun h48 => ?_) (fun h48 => ?_)
          · skip
            refine g_iconst dX3_takeGrid_73 (by decide) ?_
            refine g_zreturn dX3_takeGrid_74 rfl (by omega) ?_
            exact ⟨rfl, rfl, rfl, rfl⟩
          · skip
            refine g_aload_n dX3_takeGrid_51 rfl ?_
            refine g_iconst dX3_takeGrid_52 (by decide) ?_
            refine g_iaload dX3_takeGrid_53 (by assumption) (by omega) (by omega) ?_
            refine g_iconst dX3_takeGrid_54 (by decide) ?_
            refine g_iconst dX3_takeGrid_55 (by decide) ?_
            refine g_cSi [_, _, _] dX3_takeGrid_56 mlX3_61 msX3_isBetween (by decide) rfl rfl (Nat.le_of_ble_eq_true rfl) rfl (Nat.le_of_ble_eq_true rfl) (c_isBetween _ 0 5 x0 x1 x2) ?_
            refine g_if_eq 73 dX3_takeGrid_59 (by decide) (fun h59 => ?_) (fun h59 => ?_)
            · skip
              refine g_iconst dX3_takeGrid_73 (by decide) ?_
              refine g_zreturn dX3_takeGrid_74 rfl (by omega) ?_
              exact ⟨rfl, rfl, rfl, rfl⟩
            · skip
              refine g_aload_n dX3_takeGrid_62 rfl ?_
              refine g_iconst dX3_takeGrid_63 (by decide) ?_
              refine g_iaload dX3_takeGrid_64 (by assumption) (by omega) (by omega) ?_
              refine g_iconst dX3_takeGrid_65 (by decide) ?_
              refine g_iconst dX3_takeGrid_66 (by decide) ?_
              refine g_cSi [_, _, _] dX3_takeGrid_67 mlX3_61 msX3_isBetween (by decide) rfl rfl (Nat.le_of_ble_eq_true rfl) rfl (Nat.le_of_ble_eq_true rfl) (c_isBetween _ 0 5 w0 w1 w2) ?_
              refine g_if_ne 75 dX3_takeGrid_70 (by decide) (fun h70 => ?_) (fun h70 => ?_)
              · skip
                exfalso; exact h ⟨Classical.byContradiction (fun q => h15 (z2 q)), ⟨by clear z1 z2 y1 y2 x1 x2 w1 w2; omega, h34⟩, Classical.byContradiction (fun q => h48 (y2 q)), Classical.byContradiction (fun q => h59 (x2 q)), Classical.byContradiction (fun q => h70 (w2 q))⟩
              · skip
                refine g_iconst dX3_takeGrid_73 (by decide) ?_
                refine g_zreturn dX3_takeGrid_74 rfl (by omega) ?_
                exact ⟨rfl, rfl, rfl, rfl⟩
        · skip
          refine g_iconst dX3_takeGrid_37 (by decide) ?_
          refine g_zreturn dX3_takeGrid_38 rfl (by omega) ?_
          exact ⟨rfl, rfl, rfl, rfl⟩
    · skip
      refine g_iconst dX3_takeGrid_18 (by decide) ?_
      refine g_zreturn dX3_takeGrid_19 rfl (by omega) ?_
      exact ⟨rfl, rfl, rfl, rfl⟩

set_option maxRecDepth 20000 in
theorem c_takeItem_103 (hk : sh.2.1 a = 3) (hb : sh.2.1 b = 11) (hl : (sh.2.2.1 b : Int) = 5) (z : Int) (hz : z = 0 ∨ z = 1) (hG : Ct mdX3_takeGrid 0 0 [vR a, vR b] gi gl sh (Rt (some (vI z)) gi1 gl sh)) : Ct mdX3_takeItem 0 0 [vR a, vI 103, vR b] gi gl sh (Rt (some (vI z)) gi1 gl sh) := by
  show Go mdX3_takeItem 0 0 0 [some (vR a), some (vI 103), some (vR b)] [] gi gl sh _
  refine g_aload_n dX3_takeItem_0 rfl ?_
  refine g_alen _ dX3_takeItem_1 (by omega) (by assumption) (by decide) ?_
  refine g_iconst dX3_takeItem_2 (by decide) ?_
  refine g_icmp_ge 8 dX3_takeItem_3 (by decide) (fun h3 => ?_) (fun h3 => ?_)
  · skip
    refine g_iload_n dX3_takeItem_8 rfl ?_
    refine g_lookup (off := 43) 52 dX3_takeItem_9 (by decide) rfl (by decide) ?_
    refine g_aload_n dX3_takeItem_52 rfl ?_
    refine g_aload_n dX3_takeItem_53 rfl ?_
    refine g_cVi [_] dX3_takeItem_54 mlX3_46 mvX3_takeGrid (by decide) (by assumption) (by decide) rfl rfl (Nat.le_of_ble_eq_true rfl) rfl (Nat.le_of_ble_eq_true rfl) (hG) ?_
    refine g_zreturn dX3_takeItem_57 rfl (by omega) ?_
    exact ⟨rfl, rfl, rfl, rfl⟩
  · exfalso; omega
set_option maxRecDepth 20000 in
theorem c_takeItem_114 (hk : sh.2.1 a = 3) (hb : sh.2.1 b = 11) (hl : (sh.2.2.1 b : Int) = 5) (z : Int) (hz : z = 0 ∨ z = 1) (hG : Ct mdX3_addRule 0 0 [vR a, vI (gi b 0), vI (gi b 1)] gi gl sh (Rt (some (vI z)) gi1 gl sh)) : Ct mdX3_takeItem 0 0 [vR a, vI 114, vR b] gi gl sh (Rt (some (vI z)) gi1 gl sh) := by
  show Go mdX3_takeItem 0 0 0 [some (vR a), some (vI 114), some (vR b)] [] gi gl sh _
  refine g_aload_n dX3_takeItem_0 rfl ?_
  refine g_alen _ dX3_takeItem_1 (by omega) (by assumption) (by decide) ?_
  refine g_iconst dX3_takeItem_2 (by decide) ?_
  refine g_icmp_ge 8 dX3_takeItem_3 (by decide) (fun h3 => ?_) (fun h3 => ?_)
  · skip
    refine g_iload_n dX3_takeItem_8 rfl ?_
    refine g_lookup (off := 49) 58 dX3_takeItem_9 (by decide) rfl (by decide) ?_
    refine g_aload_n dX3_takeItem_58 rfl ?_
    refine g_aload_n dX3_takeItem_59 rfl ?_
    refine g_iconst dX3_takeItem_60 (by decide) ?_
    refine g_iaload dX3_takeItem_61 (by assumption) (by omega) (by omega) ?_
    refine g_aload_n dX3_takeItem_62 rfl ?_
    refine g_iconst dX3_takeItem_63 (by decide) ?_
    refine g_iaload dX3_takeItem_64 (by assumption) (by omega) (by omega) ?_
    refine g_cVi [_, _] dX3_takeItem_65 mlX3_50 mvX3_addRule (by decide) (by assumption) (by decide) rfl rfl (Nat.le_of_ble_eq_true rfl) rfl (Nat.le_of_ble_eq_true rfl) (hG) ?_
    refine g_zreturn dX3_takeItem_68 rfl (by omega) ?_
    exact ⟨rfl, rfl, rfl, rfl⟩
  · exfalso; omega
set_option maxRecDepth 20000 in
theorem c_takeItem_100 (hk : sh.2.1 a = 3) (hb : sh.2.1 b = 11) (hl : (sh.2.2.1 b : Int) = 5) (z : Int) (hz : z = 0 ∨ z = 1) (hG : Ct mdX3_takeDark 0 0 [vR a, vI (gi b 0)] gi gl sh (Rt (some (vI z)) gi1 gl sh)) : Ct mdX3_takeItem 0 0 [vR a, vI 100, vR b] gi gl sh (Rt (some (vI z)) gi1 gl sh) := by
  show Go mdX3_takeItem 0 0 0 [some (vR a), some (vI 100), some (vR b)] [] gi gl sh _
  refine g_aload_n dX3_takeItem_0 rfl ?_
  refine g_alen _ dX3_takeItem_1 (by omega) (by assumption) (by decide) ?_
  refine g_iconst dX3_takeItem_2 (by decide) ?_
  refine g_icmp_ge 8 dX3_takeItem_3 (by decide) (fun h3 => ?_) (fun h3 => ?_)
  · skip
    refine g_iload_n dX3_takeItem_8 rfl ?_
    refine g_lookup (off := 60) 69 dX3_takeItem_9 (by decide) rfl (by decide) ?_
    refine g_aload_n dX3_takeItem_69 rfl ?_
    refine g_aload_n dX3_takeItem_70 rfl ?_
    refine g_iconst dX3_takeItem_71 (by decide) ?_
    refine g_iaload dX3_takeItem_72 (by assumption) (by omega) (by omega) ?_
    refine g_cVi [_] dX3_takeItem_73 mlX3_54 mvX3_takeDark (by decide) (by assumption) (by decide) rfl rfl (Nat.le_of_ble_eq_true rfl) rfl (Nat.le_of_ble_eq_true rfl) (hG) ?_
    refine g_zreturn dX3_takeItem_76 rfl (by omega) ?_
    exact ⟨rfl, rfl, rfl, rfl⟩
  · exfalso; omega
set_option maxRecDepth 20000 in
theorem c_takeItem_113 (hk : sh.2.1 a = 3) (hb : sh.2.1 b = 11) (hl : (sh.2.2.1 b : Int) = 5) (z : Int) (hz : z = 0 ∨ z = 1) (hG : Ct mdX3_takeRest 0 0 [vR a, vI (gi b 0)] gi gl sh (Rt (some (vI z)) gi1 gl sh)) : Ct mdX3_takeItem 0 0 [vR a, vI 113, vR b] gi gl sh (Rt (some (vI z)) gi1 gl sh) := by
  show Go mdX3_takeItem 0 0 0 [some (vR a), some (vI 113), some (vR b)] [] gi gl sh _
  refine g_aload_n dX3_takeItem_0 rfl ?_
  refine g_alen _ dX3_takeItem_1 (by omega) (by assumption) (by decide) ?_
  refine g_iconst dX3_takeItem_2 (by decide) ?_
  refine g_icmp_ge 8 dX3_takeItem_3 (by decide) (fun h3 => ?_) (fun h3 => ?_)
  · skip
    refine g_iload_n dX3_takeItem_8 rfl ?_
    refine g_lookup (off := 68) 77 dX3_takeItem_9 (by decide) rfl (by decide) ?_
    refine g_aload_n dX3_takeItem_77 rfl ?_
    refine g_aload_n dX3_takeItem_78 rfl ?_
    refine g_iconst dX3_takeItem_79 (by decide) ?_
    refine g_iaload dX3_takeItem_80 (by assumption) (by omega) (by omega) ?_
    refine g_cVi [_] dX3_takeItem_81 mlX3_58 mvX3_takeRest (by decide) (by assumption) (by decide) rfl rfl (Nat.le_of_ble_eq_true rfl) rfl (Nat.le_of_ble_eq_true rfl) (hG) ?_
    refine g_zreturn dX3_takeItem_84 rfl (by omega) ?_
    exact ⟨rfl, rfl, rfl, rfl⟩
  · exfalso; omega
set_option maxRecDepth 20000 in
theorem l_lineBound (hk : sh.2.1 a = 3) (hw : 0 ≤ gi a 3 ∧ gi a 3 ≤ 16) : ∀ (n : Nat) (k x : Int), 0 ≤ k → k ≤ gi a 3 → gi a 3 - k = n → x = 10 ^ k.toNat → Go mdX3_lineBound 0 0 4 [some (vR a), some (vL x), none, some (vI k)] [] gi gl sh (Rt (some (vL (10 ^ (gi a 3).toNat))) gi gl sh) := by
  intro n
  induction n with
  | zero =>
    intro k x h0 h2 h1 hx
    refine g_iload_n dX3_lineBound_4 rfl ?_
    refine g_aload_n dX3_lineBound_5 rfl ?_
    refine g_getI 3 dX3_lineBound_6 flX3_25 rfl (by assumption) ?_
    refine g_icmp_ge 24 dX3_lineBound_9 (by decide) (fun h9 => ?_) (fun h9 => ?_)
    · skip
      refine g_lload_n dX3_lineBound_24 rfl ?_
      refine g_lreturn dX3_lineBound_25 rfl ?_
      exact ⟨by rw [hx, show k.toNat = (gi a 3).toNat by omega], rfl, rfl, rfl⟩
    · exfalso; omega
  | succ n ih =>
    intro k x h0 h2 h1 hx
    have hb := p10_b k.toNat (by omega)
    refine g_iload_n dX3_lineBound_4 rfl ?_
    refine g_aload_n dX3_lineBound_5 rfl ?_
    refine g_getI 3 dX3_lineBound_6 flX3_25 rfl (by assumption) ?_
    refine g_icmp_ge 24 dX3_lineBound_9 (by decide) (fun h9 => ?_) (fun h9 => ?_)
    · exfalso; omega
    · skip
      refine g_lload_n dX3_lineBound_12 rfl ?_
      refine g_ldc2 (n := 10) dX3_lineBound_13 cnX3_65 (by decide) ?_
      refine g_lmul dX3_lineBound_16 (by omega) (by omega) ?_
      refine n_lstore_n (lN := [_, _, _, _]) dX3_lineBound_17 (by decide) rfl ?_
      refine n_iinc (lN := [_, _, _, _]) dX3_lineBound_18 rfl (by decide) (by omega) (by omega) rfl ?_
      refine g_goto 4 dX3_lineBound_21 (by decide) ?_
      exact ih (k + 1) (x * 10) (by omega) (by omega) (by omega) (by rw [hx, show (k + 1).toNat = k.toNat + 1 by omega, Int.pow_succ])
theorem c_lineBound (hk : sh.2.1 a = 3) (hw : 0 ≤ gi a 3 ∧ gi a 3 ≤ 16) : Ct mdX3_lineBound 0 0 [vR a] gi gl sh (Rt (some (vL (10 ^ (gi a 3).toNat))) gi gl sh) := by
  show Go mdX3_lineBound 0 0 0 [some (vR a), none, none, none] [] gi gl sh _
  refine g_lconst 1 dX3_lineBound_0 (by decide) (by decide) ?_
  refine n_lstore_n (lN := [_, _, _, _]) dX3_lineBound_1 (by decide) rfl ?_
  refine g_iconst dX3_lineBound_2 (by decide) ?_
  refine n_istore_n (lN := [_, _, _, _]) dX3_lineBound_3 (by decide) rfl ?_
  exact l_lineBound hk hw (gi a 3).toNat 0 1 (by omega) (by omega) (by omega) rfl
set_option maxRecDepth 20000 in
set_option maxHeartbeats 1000000 in
theorem c_valveOver (hk : sh.2.1 a = 3) (c : Int) (hc : 0 ≤ c) (hv : 1 ≤ gi a 4) (hw : 0 ≤ gi a 3) (hq : 0 < gi a 3 / gi a 4) : Ct mdX3_valveOver 0 0 [vR a, vI c] gi gl sh (Rt (some (vI (c / (gi a 3 / gi a 4)))) gi gl sh) := by
  show Go mdX3_valveOver 0 0 0 [some (vR a), some (vI c), none] [] gi gl sh _
  refine g_aload_n dX3_valveOver_0 rfl ?_
  refine g_getI 4 dX3_valveOver_1 flX3_28 rfl (by assumption) ?_
  refine g_if_le 19 dX3_valveOver_4 (by decide) (fun h4 => ?_) (fun h4 => ?_)
  · exfalso; omega
  · skip
    refine g_aload_n dX3_valveOver_7 rfl ?_
    refine g_getI 3 dX3_valveOver_8 flX3_25 rfl (by assumption) ?_
    refine g_aload_n dX3_valveOver_11 rfl ?_
    refine g_getI 4 dX3_valveOver_12 flX3_28 rfl (by assumption) ?_
    refine g_idiv dX3_valveOver_15 (by omega) (by omega) ?_
    refine g_goto 20 dX3_valveOver_16 (by decide) ?_
    refine n_istore_n (lN := [_, _, _]) dX3_valveOver_20 (by decide) rfl ?_
    refine g_iload_n dX3_valveOver_21 rfl ?_
    refine g_if_le 31 dX3_valveOver_22 (by decide) (fun h22 => ?_) (fun h22 => ?_)
    · exfalso; omega
    · skip
      refine g_iload_n dX3_valveOver_25 rfl ?_
      refine g_iload_n dX3_valveOver_26 rfl ?_
      refine g_idiv dX3_valveOver_27 (by omega) (by omega) ?_
      refine g_goto 32 dX3_valveOver_28 (by decide) ?_
      refine g_ireturn dX3_valveOver_32 rfl ?_
      exact ⟨rfl, rfl, rfl, rfl⟩

set_option maxRecDepth 20000 in
set_option maxHeartbeats 1000000 in
theorem c_wantedFrom (hk : sh.2.1 a = 3) (hb : sh.2.1 b = 0) (h1 : 0 ≤ gi b 0 ∧ gi b 0 ≤ 100000) (h2 : 0 ≤ gi a 5 ∧ gi a 5 ≤ 100) (h3 : 0 ≤ gi a 6 ∧ gi a 6 ≤ 100) : Ct mdX3_wantedFrom 0 0 [vR a, vR b] gi gl sh (Rt (some (vI (gi b 0 + gi a 5 - gi a 6))) gi gl sh) := by
  show Go mdX3_wantedFrom 0 0 0 [some (vR a), some (vR b)] [] gi gl sh _
  refine g_aload_n dX3_wantedFrom_0 rfl ?_
  refine g_getIN 0 dX3_wantedFrom_1 fnX3_67 rfl (by assumption) ?_
  refine g_aload_n dX3_wantedFrom_4 rfl ?_
  refine g_getI 5 dX3_wantedFrom_5 flX3_31 rfl (by assumption) ?_
  refine g_iadd dX3_wantedFrom_8 (by omega) (by omega) ?_
  refine g_aload_n dX3_wantedFrom_9 rfl ?_
  refine g_getI 6 dX3_wantedFrom_10 flX3_34 rfl (by assumption) ?_
  refine g_isub dX3_wantedFrom_13 (by omega) (by omega) ?_
  refine g_ireturn dX3_wantedFrom_14 rfl ?_
  exact ⟨rfl, rfl, rfl, rfl⟩

set_option maxRecDepth 20000 in
set_option maxHeartbeats 1000000 in
theorem c_wantedTo (hk : sh.2.1 a = 3) (hb : sh.2.1 b = 0) (h1 : 0 ≤ gi b 1 ∧ gi b 1 ≤ 100000) (h2 : 0 ≤ gi a 5 ∧ gi a 5 ≤ 100) (h3 : 0 ≤ gi a 7 ∧ gi a 7 ≤ 100) : Ct mdX3_wantedTo 0 0 [vR a, vR b] gi gl sh (Rt (some (vI (gi b 1 + gi a 5 + gi a 7))) gi gl sh) := by
  show Go mdX3_wantedTo 0 0 0 [some (vR a), some (vR b)] [] gi gl sh _
  refine g_aload_n dX3_wantedTo_0 rfl ?_
  refine g_getIN 1 dX3_wantedTo_1 fnX3_72 rfl (by assumption) ?_
  refine g_aload_n dX3_wantedTo_4 rfl ?_
  refine g_getI 5 dX3_wantedTo_5 flX3_31 rfl (by assumption) ?_
  refine g_iadd dX3_wantedTo_8 (by omega) (by omega) ?_
  refine g_aload_n dX3_wantedTo_9 rfl ?_
  refine g_getI 7 dX3_wantedTo_10 flX3_37 rfl (by assumption) ?_
  refine g_iadd dX3_wantedTo_13 (by omega) (by omega) ?_
  refine g_ireturn dX3_wantedTo_14 rfl ?_
  exact ⟨rfl, rfl, rfl, rfl⟩

set_option maxRecDepth 20000 in
set_option maxHeartbeats 1000000 in
theorem c_isLate (hk : sh.2.1 a = 3) (hb : sh.2.1 b = 0) (h1 : 0 ≤ gi b 1 ∧ gi b 1 ≤ 100000) (h0 : 0 ≤ gi b 0 ∧ gi b 0 ≤ 100000) (h2 : 0 ≤ gi a 5 ∧ gi a 5 ≤ 100) (h3 : 0 ≤ gi a 6 ∧ gi a 6 ≤ 100) (z : Int) (z1 : gi b 0 + gi a 5 - gi a 6 < gi b 1 + 1 → z = 1) (z0 : ¬ gi b 0 + gi a 5 - gi a 6 < gi b 1 + 1 → z = 0) : Ct mdX3_isLate 0 0 [vR a, vR b] gi gl sh (Rt (some (vI z)) gi gl sh) := by
  show Go mdX3_isLate 0 0 0 [some (vR a), some (vR b)] [] gi gl sh _
  refine g_aload_n dX3_isLate_0 rfl ?_
  refine g_aload_n dX3_isLate_1 rfl ?_
  refine g_cVi [_] dX3_isLate_2 mlX3_75 mvX3_wantedFrom (by decide) (by assumption) (by decide) rfl rfl (Nat.le_of_ble_eq_true rfl) rfl (Nat.le_of_ble_eq_true rfl) (c_wantedFrom hk hb h0 h2 h3) ?_
  refine g_aload_n dX3_isLate_5 rfl ?_
  refine g_cVi [] dX3_isLate_6 mlX3_79 mvX0_endTick (by decide) (by assumption) (by decide) rfl rfl (Nat.le_of_ble_eq_true rfl) rfl (Nat.le_of_ble_eq_true rfl) (c_endTick hb h1) ?_
  refine g_icmp_ge 16 dX3_isLate_9 (by decide) (fun h9 => ?_) (fun h9 => ?_)
  · skip
    refine g_iconst dX3_isLate_16 (by decide) ?_
    refine g_zreturn dX3_isLate_17 rfl (by omega) ?_
    exact ⟨by first | (rw [z1 (by omega)]; done) | (rw [z0 (by omega)]; done), rfl, rfl, rfl⟩
  · skip
    refine g_iconst dX3_isLate_12 (by decide) ?_
    refine g_goto 17 dX3_isLate_13 (by decide) ?_
    refine g_zreturn dX3_isLate_17 rfl (by omega) ?_
    exact ⟨by first | (rw [z1 (by omega)]; done) | (rw [z0 (by omega)]; done), rfl, rfl, rfl⟩

end PLAN
end
section
/-! History: ring at 8, held 1, next 2; the stand at 4 -/
def isHist (sh : gSh) : Prop := sh.2.1 7 = 2 ∧ sh.1 7 0 = some 8 ∧ sh.2.1 8 = 15 ∧ (sh.2.2.1 8 : Int) = 6 ∧ ∀ i : Int, 0 ≤ i → i < 6 → sh.1 8 i = some (9 + 3 * i) ∧ isStand sh (9 + 3 * i)
def hs_next (n : Int) : Int := if n + 1 < 6 then n + 1 else 0
def hs_last (n : Int) : Int := if 0 < n then n - 1 else 5
def hs_keep (gi : gF) : gF := g_up (g_up (g_up (g_cp gi 6 (9 + 3 * gi 7 2 + 2) 0 0 4) (9 + 3 * gi 7 2) 2 (gi 4 2)) 7 2 (hs_next (gi 7 2))) 7 1 (min (gi 7 1 + 1) 6)
def hs_keepL (gi gl : gF) : gF := g_cp gl 5 (9 + 3 * gi 7 2 + 1) 0 0 60
def hs_back (gi : gF) (l : Int) : gF := g_up (g_up (g_up (g_cp gi (9 + 3 * l + 2) 6 0 0 4) 4 2 (gi (9 + 3 * l) 2)) 7 2 l) 7 1 (gi 7 1 - 1)
def hs_backL (gl : gF) (l : Int) : gF := g_cp gl (9 + 3 * l + 1) 5 0 0 60
section HIST
variable {gi gl gi1 : gF} {sh : gSh}
set_option maxRecDepth 20000 in
set_option maxHeartbeats 1000000 in
theorem c_keep (hV : isHist sh) (hS : isStand sh 4) (hn : 0 ≤ gi 7 2 ∧ gi 7 2 < 6) (hh : 0 ≤ gi 7 1 ∧ gi 7 1 ≤ 6) : Ct mdX2_keep 0 0 [vR 7, vR 4] gi gl sh (Rt none (hs_keep gi) (hs_keepL gi gl) sh) := by
  show Go mdX2_keep 0 0 0 [some (vR 7), some (vR 4)] [] gi gl sh _
  obtain ⟨k0, r0, k1, l1, hR⟩ := id hV
  obtain ⟨hr, hq⟩ := hR (gi 7 2) hn.1 hn.2
  have hq0 := hq.1
  have eA : (7 : Int) ≠ 9 + 3 * gi 7 2 := by omega
  have eB : (7 : Int) ≠ 9 + 3 * gi 7 2 + 2 := by omega
  clear hR
  refine g_aload_n dX2_keep_0 rfl ?_
  refine g_getI 2 dX2_keep_1 flX2_18 rfl (by assumption) ?_
  refine g_if_lt 19 dX2_keep_4 (by decide) (fun h4 => ?_) (fun h4 => ?_)
  · exfalso; omega
  · skip
    refine g_aload_n dX2_keep_7 rfl ?_
    refine g_getI 2 dX2_keep_8 flX2_18 rfl (by assumption) ?_
    refine g_aload_n dX2_keep_11 rfl ?_
    refine g_getR 0 dX2_keep_12 flX2_11 rfl (by assumption) (by assumption) ?_
    refine g_alen _ dX2_keep_15 (by omega) (by assumption) (by decide) ?_
    refine g_icmp_lt 20 dX2_keep_16 (by decide) (fun h16 => ?_) (fun h16 => ?_)
    · skip
      refine g_aload_n dX2_keep_20 rfl ?_
      refine g_getR 0 dX2_keep_21 flX2_11 rfl (by assumption) (by assumption) ?_
      refine g_aload_n dX2_keep_24 rfl ?_
      refine g_getI 2 dX2_keep_25 flX2_18 rfl (by assumption) ?_
      refine g_aaload dX2_keep_28 (by assumption) (by decide) (by decide) (by omega) (by omega) (by assumption) ?_
      refine g_aload_n dX2_keep_29 rfl ?_
      refine g_cVv [_] dX2_keep_30 mlX2_22 mvX4_copyFrom (by decide) (by assumption) (by decide) rfl rfl (Nat.le_of_ble_eq_true rfl) rfl (Nat.le_of_ble_eq_true rfl) (c_sCopy hq hS (by omega)) ?_
      refine g_aload_n dX2_keep_33 rfl ?_
      refine g_aload_n dX2_keep_34 rfl ?_
      refine g_getI 2 dX2_keep_35 flX2_18 rfl (by assumption) ?_
      refine g_iconst dX2_keep_38 (by decide) ?_
      refine g_iadd dX2_keep_39 (by simp only [g_up_row eA, g_cp_row eB] <;> omega) (by simp only [g_up_row eA, g_cp_row eB] <;> omega) ?_
      refine g_bipush dX2_keep_40 (by decide) (by decide) ?_
      simp only [g_up_row eA, g_cp_row eB]
      refine g_icmp_ge 54 dX2_keep_42 (by decide) (fun h42 => ?_) (fun h42 => ?_)
      · skip
        refine g_iconst dX2_keep_54 (by decide) ?_
        refine g_putI 2 dX2_keep_55 flX2_18 rfl (by assumption) ?_
        refine g_aload_n dX2_keep_58 rfl ?_
        refine g_aload_n dX2_keep_59 rfl ?_
        refine g_getI 1 dX2_keep_60 flX2_26 rfl (by assumption) ?_
        refine g_iconst dX2_keep_63 (by decide) ?_
        refine g_iadd dX2_keep_64 (by simp only [g_up_row eA, g_cp_row eB, g_up_ne (show (1 : Int) ≠ 2 by decide)] <;> omega) (by simp only [g_up_row eA, g_cp_row eB, g_up_ne (show (1 : Int) ≠ 2 by decide)] <;> omega) ?_
        refine g_bipush dX2_keep_65 (by decide) (by decide) ?_
        refine g_min dX2_keep_67 mlX2_29 (Nat.le_of_ble_eq_true rfl) ?_
        refine g_putI 1 dX2_keep_70 flX2_26 rfl (by assumption) ?_
        refine g_return dX2_keep_73 rfl ?_
        refine ⟨rfl, ?_, rfl, rfl⟩
        simp only [g_up_row eA, g_cp_row eB, g_up_ne (show (1 : Int) ≠ 2 by decide), hs_keep, hs_next]
        first | rw [if_neg (by omega)] | rw [if_pos (by omega)]
        rfl
      · skip
        refine g_aload_n dX2_keep_45 rfl ?_
        refine g_getI 2 dX2_keep_46 flX2_18 rfl (by assumption) ?_
        refine g_iconst dX2_keep_49 (by decide) ?_
        refine g_iadd dX2_keep_50 (by simp only [g_up_row eA, g_cp_row eB] <;> omega) (by simp only [g_up_row eA, g_cp_row eB] <;> omega) ?_
        refine g_goto 55 dX2_keep_51 (by decide) ?_
        refine g_putI 2 dX2_keep_55 flX2_18 rfl (by assumption) ?_
        refine g_aload_n dX2_keep_58 rfl ?_
        refine g_aload_n dX2_keep_59 rfl ?_
        refine g_getI 1 dX2_keep_60 flX2_26 rfl (by assumption) ?_
        refine g_iconst dX2_keep_63 (by decide) ?_
        refine g_iadd dX2_keep_64 (by simp only [g_up_row eA, g_cp_row eB, g_up_ne (show (1 : Int) ≠ 2 by decide)] <;> omega) (by simp only [g_up_row eA, g_cp_row eB, g_up_ne (show (1 : Int) ≠ 2 by decide)] <;> omega) ?_
        refine g_bipush dX2_keep_65 (by decide) (by decide) ?_
        refine g_min dX2_keep_67 mlX2_29 (Nat.le_of_ble_eq_true rfl) ?_
        refine g_putI 1 dX2_keep_70 flX2_26 rfl (by assumption) ?_
        refine g_return dX2_keep_73 rfl ?_
        refine ⟨rfl, ?_, rfl, rfl⟩
        simp only [g_up_row eA, g_cp_row eB, g_up_ne (show (1 : Int) ≠ 2 by decide), hs_keep, hs_next]
        first | rw [if_neg (by omega)] | rw [if_pos (by omega)]
        rfl
    · exfalso; omega

set_option maxRecDepth 20000 in
set_option maxHeartbeats 1000000 in
theorem c_giveBack (hV : isHist sh) (hS : isStand sh 4) (hn : 0 ≤ gi 7 2 ∧ gi 7 2 < 6) (hh : 0 < gi 7 1 ∧ gi 7 1 ≤ 6) (l : Int) (hl : l = hs_last (gi 7 2)) : Ct mdX2_giveBack 0 0 [vR 7, vR 4] gi gl sh (Rt none (hs_back gi l) (hs_backL gl l) sh) := by
  show Go mdX2_giveBack 0 0 0 [some (vR 7), some (vR 4), none] [] gi gl sh _
  obtain ⟨k0, r0, k1, l1, hR⟩ := id hV
  have hl2 : 0 ≤ l ∧ l < 6 := by rw [hl]; unfold hs_last; split <;> omega
  obtain ⟨hr, hq⟩ := hR l hl2.1 hl2.2
  have hq0 := hq.1
  have hS0 := hS.1
  clear hR
  refine g_aload_n dX2_giveBack_0 rfl ?_
  refine g_getI 2 dX2_giveBack_1 flX2_18 rfl (by assumption) ?_
  refine g_if_le 16 dX2_giveBack_4 (by decide) (fun h4 => ?_) (fun h4 => ?_)
  · skip
    refine g_iconst dX2_giveBack_16 (by decide) ?_
    refine n_istore_n (lN := [_, _, _]) dX2_giveBack_17 (by decide) rfl ?_
    first | (rw [show gi 7 2 - 1 = l by rw [hl, hs_last, if_pos (by omega)]]) | (rw [show (5 : Int) = l by rw [hl, hs_last, if_neg (by omega)]])
    refine g_aload_n dX2_giveBack_18 rfl ?_
    refine g_getI 1 dX2_giveBack_19 flX2_26 rfl (by assumption) ?_
    refine g_if_eq 34 dX2_giveBack_22 (by decide) (fun h22 => ?_) (fun h22 => ?_)
    · exfalso; omega
    · skip
      refine g_iload_n dX2_giveBack_25 rfl ?_
      refine g_aload_n dX2_giveBack_26 rfl ?_
      refine g_getR 0 dX2_giveBack_27 flX2_11 rfl (by assumption) (by assumption) ?_
      refine g_alen _ dX2_giveBack_30 (by omega) (by assumption) (by decide) ?_
      refine g_icmp_lt 35 dX2_giveBack_31 (by decide) (fun h31 => ?_) (fun h31 => ?_)
      · skip
        refine g_aload_n dX2_giveBack_35 rfl ?_
        refine g_aload_n dX2_giveBack_36 rfl ?_
        refine g_getR 0 dX2_giveBack_37 flX2_11 rfl (by assumption) (by assumption) ?_
        refine g_iload_n dX2_giveBack_40 rfl ?_
        refine g_aaload dX2_giveBack_41 (by assumption) (by decide) (by decide) (by omega) (by omega) (by assumption) ?_
        refine g_cVv [_] dX2_giveBack_42 mlX2_22 mvX4_copyFrom (by decide) (by assumption) (by decide) rfl rfl (Nat.le_of_ble_eq_true rfl) rfl (Nat.le_of_ble_eq_true rfl) (c_sCopy hS hq (by omega)) ?_
        refine g_aload_n dX2_giveBack_45 rfl ?_
        refine g_iload_n dX2_giveBack_46 rfl ?_
        refine g_putI 2 dX2_giveBack_47 flX2_18 rfl (by assumption) ?_
        refine g_aload_n dX2_giveBack_50 rfl ?_
        refine g_dup dX2_giveBack_51 (fun _ h9 => by cases h9) ?_
        refine g_getI 1 dX2_giveBack_52 flX2_26 rfl (by assumption) ?_
        refine g_iconst dX2_giveBack_55 (by decide) ?_
        refine g_isub dX2_giveBack_56 (by simp only [g_up_ne (show (1 : Int) ≠ 2 by decide), g_up_row (show (7 : Int) ≠ 4 by decide), g_cp_row (show (7 : Int) ≠ 4 + 2 by decide)] <;> omega) (by simp only [g_up_ne (show (1 : Int) ≠ 2 by decide), g_up_row (show (7 : Int) ≠ 4 by decide), g_cp_row (show (7 : Int) ≠ 4 + 2 by decide)] <;> omega) ?_
        refine g_putI 1 dX2_giveBack_57 flX2_26 rfl (by assumption) ?_
        refine g_return dX2_giveBack_60 rfl ?_
        refine ⟨rfl, ?_, rfl, rfl⟩
        simp only [g_up_ne (show (1 : Int) ≠ 2 by decide), g_up_row (show (7 : Int) ≠ 4 by decide), g_cp_row (show (7 : Int) ≠ 4 + 2 by decide), hs_back]
        rfl
      · exfalso; omega
  · skip
    refine g_aload_n dX2_giveBack_7 rfl ?_
    refine g_getI 2 dX2_giveBack_8 flX2_18 rfl (by assumption) ?_
    refine g_iconst dX2_giveBack_11 (by decide) ?_
    refine g_isub dX2_giveBack_12 (by omega) (by omega) ?_
    refine g_goto 17 dX2_giveBack_13 (by decide) ?_
    refine n_istore_n (lN := [_, _, _]) dX2_giveBack_17 (by decide) rfl ?_
    first | (rw [show gi 7 2 - 1 = l by rw [hl, hs_last, if_pos (by omega)]]) | (rw [show (5 : Int) = l by rw [hl, hs_last, if_neg (by omega)]])
    refine g_aload_n dX2_giveBack_18 rfl ?_
    refine g_getI 1 dX2_giveBack_19 flX2_26 rfl (by assumption) ?_
    refine g_if_eq 34 dX2_giveBack_22 (by decide) (fun h22 => ?_) (fun h22 => ?_)
    · exfalso; omega
    · skip
      refine g_iload_n dX2_giveBack_25 rfl ?_
      refine g_aload_n dX2_giveBack_26 rfl ?_
      refine g_getR 0 dX2_giveBack_27 flX2_11 rfl (by assumption) (by assumption) ?_
      refine g_alen _ dX2_giveBack_30 (by omega) (by assumption) (by decide) ?_
      refine g_icmp_lt 35 dX2_giveBack_31 (by decide) (fun h31 => ?_) (fun h31 => ?_)
      · skip
        refine g_aload_n dX2_giveBack_35 rfl ?_
        refine g_aload_n dX2_giveBack_36 rfl ?_
        refine g_getR 0 dX2_giveBack_37 flX2_11 rfl (by assumption) (by assumption) ?_
        refine g_iload_n dX2_giveBack_40 rfl ?_
        refine g_aaload dX2_giveBack_41 (by assumption) (by decide) (by decide) (by omega) (by omega) (by assumption) ?_
        refine g_cVv [_] dX2_giveBack_42 mlX2_22 mvX4_copyFrom (by decide) (by assumption) (by decide) rfl rfl (Nat.le_of_ble_eq_true rfl) rfl (Nat.le_of_ble_eq_true rfl) (c_sCopy hS hq (by omega)) ?_
        refine g_aload_n dX2_giveBack_45 rfl ?_
        refine g_iload_n dX2_giveBack_46 rfl ?_
        refine g_putI 2 dX2_giveBack_47 flX2_18 rfl (by assumption) ?_
        refine g_aload_n dX2_giveBack_50 rfl ?_
        refine g_dup dX2_giveBack_51 (fun _ h9 => by cases h9) ?_
        refine g_getI 1 dX2_giveBack_52 flX2_26 rfl (by assumption) ?_
        refine g_iconst dX2_giveBack_55 (by decide) ?_
        refine g_isub dX2_giveBack_56 (by simp only [g_up_ne (show (1 : Int) ≠ 2 by decide), g_up_row (show (7 : Int) ≠ 4 by decide), g_cp_row (show (7 : Int) ≠ 4 + 2 by decide)] <;> omega) (by simp only [g_up_ne (show (1 : Int) ≠ 2 by decide), g_up_row (show (7 : Int) ≠ 4 by decide), g_cp_row (show (7 : Int) ≠ 4 + 2 by decide)] <;> omega) ?_
        refine g_putI 1 dX2_giveBack_57 flX2_26 rfl (by assumption) ?_
        refine g_return dX2_giveBack_60 rfl ?_
        refine ⟨rfl, ?_, rfl, rfl⟩
        simp only [g_up_ne (show (1 : Int) ≠ 2 by decide), g_up_row (show (7 : Int) ≠ 4 by decide), g_cp_row (show (7 : Int) ≠ 4 + 2 by decide), hs_back]
        rfl
      · exfalso; omega

set_option maxRecDepth 20000 in
set_option maxHeartbeats 1000000 in
theorem c_forget (hk : sh.2.1 7 = 2) : Ct mdX2_forget 0 0 [vR 7] gi gl sh (Rt none (g_up gi 7 1 0) gl sh) := by
  show Go mdX2_forget 0 0 0 [some (vR 7)] [] gi gl sh _
  refine g_aload_n dX2_forget_0 rfl ?_
  refine g_iconst dX2_forget_1 (by decide) ?_
  refine g_putI 1 dX2_forget_2 flX2_26 rfl (by assumption) ?_
  refine g_return dX2_forget_5 rfl ?_
  exact ⟨rfl, rfl, rfl, rfl⟩

end HIST
end
section
/-! THE TEXT, and how it is read: letters at 2, values at 3, length (1, 2), at (1, 3) -/
def isText (sh : gSh) : Prop := sh.2.1 1 = 5 ∧ sh.1 1 0 = some 2 ∧ sh.1 1 1 = some 3 ∧ sh.2.1 2 = 10 ∧ (sh.2.2.1 2 : Int) = 200 ∧ sh.2.1 3 = 11 ∧ (sh.2.2.1 3 : Int) = 5
def r_up (r : gRw) (k v : Int) : gRw := fun j => if j = k then v else r j
theorem g_up_r {gi : gF} {a k v : Int} : g_up gi a k v a = r_up (gi a) k v := by
  funext j; simp [g_up, r_up]
theorem r_up_at {r : gRw} {k v : Int} : r_up r k v k = v := by simp [r_up]
theorem r_up_ne {r : gRw} {k v j : Int} (h : j ≠ k) : r_up r k v j = r j := by simp [r_up, h]
def t_at (tx : gRw) (n p : Int) : Int := if 0 ≤ p ∧ p < n then tx p else 0
def t_tx (tx : gRw) (n : Int) : Prop := ∀ i : Int, 0 ≤ i → i < n → 32 ≤ tx i ∧ tx i ≤ 126
theorem t_at_b {tx : gRw} {n : Int} (h : t_tx tx n) (p : Int) : 0 ≤ t_at tx n p ∧ t_at tx n p ≤ 126 := by
  unfold t_at
  split
  · rename_i q; have := h p q.1 q.2; omega
  · omega
/-- a number of one or two figures with ch behind it: the number, and the place behind -/
def t_num (tx : gRw) (n p ch : Int) : Option (Int × Int) :=
  if 48 ≤ t_at tx n p ∧ t_at tx n p ≤ 57 then
    if 48 ≤ t_at tx n (p + 1) ∧ t_at tx n (p + 1) ≤ 57 then
      if t_at tx n (p + 2) = ch then some ((t_at tx n p - 48) * 10 + (t_at tx n (p + 1) - 48), p + 3) else none
    else if t_at tx n (p + 1) = ch then some (t_at tx n p - 48, p + 2) else none
  else none
/-- an item at p: the place behind it, the plan then -/
def t_item (tx : gRw) (n p : Int) (pl kn nu : gRw) : Option (Int × gRw × gRw × gRw) :=
  if t_at tx n p = 103 then
    (t_num tx n (p + 1) 44).bind fun a1 => (t_num tx n a1.2 44).bind fun a2 => (t_num tx n a2.2 44).bind fun a3 => (t_num tx n a3.2 44).bind fun a4 => (t_num tx n a4.2 59).bind fun a5 =>
      if (4 ≤ a1.1 ∧ a1.1 ≤ 16) ∧ (1 ≤ a2.1 ∧ a1.1 % a2.1 = 0) ∧ (0 ≤ a3.1 ∧ a3.1 ≤ 20) ∧ (0 ≤ a4.1 ∧ a4.1 ≤ 5) ∧ (0 ≤ a5.1 ∧ a5.1 ≤ 5) then some (a5.2, r_up (r_up (r_up (r_up (r_up pl 3 a1.1) 4 a2.1) 5 a3.1) 6 a4.1) 7 a5.1, kn, nu) else none
  else if t_at tx n p = 114 then
    (t_num tx n (p + 1) 44).bind fun a1 => (t_num tx n a1.2 59).bind fun a2 =>
      if pl 2 < 4 ∧ (0 ≤ a1.1 ∧ a1.1 ≤ 3) ∧ (1 ≤ a2.1 ∧ a2.1 ≤ 99) then some (a2.2, r_up pl 2 (pl 2 + 1), r_up kn (pl 2) a1.1, r_up nu (pl 2) a2.1) else none
  else if t_at tx n p = 100 then (t_num tx n (p + 1) 59).bind fun a1 => if 1 ≤ a1.1 ∧ a1.1 ≤ 9 then some (a1.2, r_up pl 8 a1.1, kn, nu) else none
  else if t_at tx n p = 113 then (t_num tx n (p + 1) 59).bind fun a1 => if 0 ≤ a1.1 ∧ a1.1 ≤ 9 then some (a1.2, r_up pl 9 a1.1, kn, nu) else none
  else none
def t_parse (tx : gRw) (n : Int) : Nat → Int → gRw → gRw → gRw → Int × gRw × gRw × gRw
  | 0, _, pl, kn, nu => (-4, pl, kn, nu)
  | m + 1, p, pl, kn, nu => if p < n then (match t_item tx n p pl kn nu with
      | none => (p, pl, kn, nu)
      | some q => t_parse tx n m q.1 q.2.1 q.2.2.1 q.2.2.2) else (-4, pl, kn, nu)
def t_pl0 (r : gRw) : gRw := r_up (r_up (r_up (r_up (r_up (r_up (r_up (r_up r 2 0) 3 8) 4 4) 5 6) 6 1) 7 1) 8 7) 9 2
theorem t_num_b {tx : gRw} {n p ch x q : Int} (h : t_num tx n p ch = some (x, q)) : 0 ≤ x ∧ x ≤ 99 ∧ p + 2 ≤ q ∧ q ≤ p + 3 := by
  unfold t_num at h
  split at h
  · split at h
    · split at h
      · cases h; omega
      · cases h
    · split at h
      · cases h; omega
      · cases h
  · cases h
theorem t_num_n {tx : gRw} {n p ch x q : Int} (h : t_num tx n p ch = some (x, q)) (hc : ch ≠ 0) : q ≤ n := by
  have ha : ∀ z : Int, t_at tx n z = ch → z < n := fun z hz => Classical.byContradiction (fun hn => hc (by rw [← hz, t_at, if_neg (by omega)]))
  unfold t_num at h
  split at h
  · split at h
    · split at h
      · rename_i h3; cases h; have := ha _ h3; omega
      · cases h
    · split at h
      · rename_i h3; cases h; have := ha _ h3; omega
      · cases h
  · cases h
section TEXT
variable {gi gl gi1 : gF} {sh : gSh} {a : Int}
set_option maxRecDepth 20000 in
set_option maxHeartbeats 1000000 in
theorem c_append (hV : isText sh) (x : Int) (hn : 0 ≤ gi 1 2 ∧ gi 1 2 < 200) (hx : 0 ≤ x ∧ x ≤ 126) : Ct mdX5_append 0 0 [vR 1, vI x] gi gl sh (Rt none (g_up (g_up gi 2 (gi 1 2) x) 1 2 (gi 1 2 + 1)) gl sh) := by
  show Go mdX5_append 0 0 0 [some (vR 1), some (vI x)] [] gi gl sh _
  obtain ⟨k0, r0, r1, k1, l1, k2, l2⟩ := id hV
  refine g_aload_n dX5_append_0 rfl ?_
  refine g_getI 2 dX5_append_1 flX5_19 rfl (by assumption) ?_
  refine g_aload_n dX5_append_4 rfl ?_
  refine g_getR 0 dX5_append_5 flX5_9 rfl (by assumption) (by assumption) ?_
  refine g_alen _ dX5_append_8 (by omega) (by assumption) (by decide) ?_
  refine g_icmp_ge 32 dX5_append_9 (by decide) (fun h9 => ?_) (fun h9 => ?_)
  · exfalso; omega
  · skip
    refine g_aload_n dX5_append_12 rfl ?_
    refine g_getR 0 dX5_append_13 flX5_9 rfl (by assumption) (by assumption) ?_
    refine g_aload_n dX5_append_16 rfl ?_
    refine g_getI 2 dX5_append_17 flX5_19 rfl (by assumption) ?_
    refine g_iload_n dX5_append_20 rfl ?_
    refine g_castore dX5_append_21 (by assumption) (by omega) (by omega) (by omega) (by omega) ?_
    refine g_aload_n dX5_append_22 rfl ?_
    refine g_dup dX5_append_23 (fun _ h9 => by cases h9) ?_
    refine g_getI 2 dX5_append_24 flX5_19 rfl (by assumption) ?_
    refine g_iconst dX5_append_27 (by decide) ?_
    refine g_iadd dX5_append_28 (by simp only [g_up_row (show (1 : Int) ≠ 2 by decide)] <;> omega) (by simp only [g_up_row (show (1 : Int) ≠ 2 by decide)] <;> omega) ?_
    refine g_putI 2 dX5_append_29 flX5_19 rfl (by assumption) ?_
    refine g_return dX5_append_32 rfl ?_
    exact ⟨rfl, by simp only [g_up_row (show (1 : Int) ≠ 2 by decide)], rfl, rfl⟩

set_option maxRecDepth 20000 in
set_option maxHeartbeats 1000000 in
theorem c_letterHere (hV : isText sh) (tx : gRw) (n p : Int) (hx : gi 2 = tx) (hn : gi 1 2 = n) (hp : gi 1 3 = p) (hp0 : 0 ≤ p) (hn2 : n ≤ 200) (ht : t_tx tx n) : Ct mdX5_letterHere 0 0 [vR 1] gi gl sh (Rt (some (vI (t_at tx n p))) gi gl sh) := by
  show Go mdX5_letterHere 0 0 0 [some (vR 1)] [] gi gl sh _
  obtain ⟨k0, r0, r1, k1, l1, k2, l2⟩ := id hV
  have hb := t_at_b ht p
  refine g_aload_n dX5_letterHere_0 rfl ?_
  refine g_getI 3 dX5_letterHere_1 flX5_28 rfl (by assumption) ?_
  refine g_if_lt 42 dX5_letterHere_4 (by decide) (fun h4 => ?_) (fun h4 => ?_)
  · exfalso; omega
  · skip
    refine g_aload_n dX5_letterHere_7 rfl ?_
    refine g_getI 3 dX5_letterHere_8 flX5_28 rfl (by assumption) ?_
    refine g_aload_n dX5_letterHere_11 rfl ?_
    refine g_getI 2 dX5_letterHere_12 flX5_19 rfl (by assumption) ?_
    refine g_icmp_ge 42 dX5_letterHere_15 (by decide) (fun h15 => ?_) (fun h15 => ?_)
    · skip
      refine g_iconst dX5_letterHere_42 (by decide) ?_
      refine g_creturn dX5_letterHere_43 rfl (by omega) (by omega) ?_
      first | exact ⟨rfl, rfl, rfl, rfl⟩ | exact ⟨by rw [t_at, if_neg (by omega)], rfl, rfl, rfl⟩
    · skip
      refine g_aload_n dX5_letterHere_18 rfl ?_
      refine g_getI 3 dX5_letterHere_19 flX5_28 rfl (by assumption) ?_
      refine g_aload_n dX5_letterHere_22 rfl ?_
      refine g_getR 0 dX5_letterHere_23 flX5_9 rfl (by assumption) (by assumption) ?_
      refine g_alen _ dX5_letterHere_26 (by omega) (by assumption) (by decide) ?_
      refine g_icmp_ge 42 dX5_letterHere_27 (by decide) (fun h27 => ?_) (fun h27 => ?_)
      · exfalso; omega
      · skip
        refine g_aload_n dX5_letterHere_30 rfl ?_
        refine g_getR 0 dX5_letterHere_31 flX5_9 rfl (by assumption) (by assumption) ?_
        refine g_aload_n dX5_letterHere_34 rfl ?_
        refine g_getI 3 dX5_letterHere_35 flX5_28 rfl (by assumption) ?_
        refine g_caload dX5_letterHere_38 (by assumption) (by omega) (by omega) ?_
        rw [show gi 2 (gi 1 3) = t_at tx n p by rw [t_at, if_pos (by omega), hx, hp]]
        refine g_goto 43 dX5_letterHere_39 (by decide) ?_
        refine g_creturn dX5_letterHere_43 rfl (by omega) (by omega) ?_
        first | exact ⟨rfl, rfl, rfl, rfl⟩ | exact ⟨by rw [t_at, if_neg (by omega)], rfl, rfl, rfl⟩

set_option maxRecDepth 20000 in
set_option maxHeartbeats 1000000 in
theorem c_isFigure (x z : Int) (h1 : 48 ≤ x ∧ x ≤ 57 → z = 1) (h0 : ¬ (48 ≤ x ∧ x ≤ 57) → z = 0) : Ct mdX5_isFigure 0 0 [vI x] gi gl sh (Rt (some (vI z)) gi gl sh) := by
  show Go mdX5_isFigure 0 0 0 [some (vI x)] [] gi gl sh _
  refine g_iload_n dX5_isFigure_0 rfl ?_
  refine g_bipush dX5_isFigure_1 (by decide) (by decide) ?_
  refine g_icmp_lt 16 dX5_isFigure_3 (by decide) (fun h3 => ?_) (fun h3 => ?_)
  · skip
    refine g_iconst dX5_isFigure_16 (by decide) ?_
    refine g_zreturn dX5_isFigure_17 rfl (by omega) ?_
    exact ⟨by first | (rw [h1 (by omega)]; done) | (rw [h0 (by omega)]; done), rfl, rfl, rfl⟩
  · skip
    refine g_iload_n dX5_isFigure_6 rfl ?_
    refine g_bipush dX5_isFigure_7 (by decide) (by decide) ?_
    refine g_icmp_gt 16 dX5_isFigure_9 (by decide) (fun h9 => ?_) (fun h9 => ?_)
    · skip
      refine g_iconst dX5_isFigure_16 (by decide) ?_
      refine g_zreturn dX5_isFigure_17 rfl (by omega) ?_
      exact ⟨by first | (rw [h1 (by omega)]; done) | (rw [h0 (by omega)]; done), rfl, rfl, rfl⟩
    · skip
      refine g_iconst dX5_isFigure_12 (by decide) ?_
      refine g_goto 17 dX5_isFigure_13 (by decide) ?_
      refine g_zreturn dX5_isFigure_17 rfl (by omega) ?_
      exact ⟨by first | (rw [h1 (by omega)]; done) | (rw [h0 (by omega)]; done), rfl, rfl, rfl⟩

def t_nb (x : Int) : Int := if x = 103 then 5 else if x = 114 then 2 else if x = 100 then 1 else if x = 113 then 1 else 0
set_option maxRecDepth 20000 in
set_option maxHeartbeats 1000000 in
theorem c_numbersBehind (x : Int) : Ct mdX5_numbersBehind 0 0 [vI x] gi gl sh (Rt (some (vI (t_nb x))) gi gl sh) := by
  show Go mdX5_numbersBehind 0 0 0 [some (vI x)] [] gi gl sh _
  refine g_iload_n dX5_numbersBehind_0 rfl ?_
  rcases (show (x ≠ 100 ∧ x ≠ 103 ∧ x ≠ 113 ∧ x ≠ 114) ∨ x = 100 ∨ x = 103 ∨ x = 113 ∨ x = 114 by omega) with hsw | hsw | hsw | hsw | hsw
  · skip
    refine g_lookup (off := 49) 50 dX5_numbersBehind_1 (by decide) (by simp [Op.lookupswitch.offset, Ne.symm, hsw, Ne.symm hsw.1, Ne.symm hsw.2.1, Ne.symm hsw.2.2.1, Ne.symm hsw.2.2.2]) (by decide) ?_
    refine g_iconst dX5_numbersBehind_50 (by decide) ?_
    refine g_ireturn dX5_numbersBehind_51 rfl ?_
    exact ⟨by simp [t_nb, hsw], rfl, rfl, rfl⟩
  · skip
    refine g_lookup (off := 47) 48 dX5_numbersBehind_1 (by decide) (by rw [hsw]; rfl) (by decide) ?_
    refine g_iconst dX5_numbersBehind_48 (by decide) ?_
    refine g_ireturn dX5_numbersBehind_49 rfl ?_
    exact ⟨by simp [t_nb, hsw], rfl, rfl, rfl⟩
  · skip
    refine g_lookup (off := 43) 44 dX5_numbersBehind_1 (by decide) (by rw [hsw]; rfl) (by decide) ?_
    refine g_iconst dX5_numbersBehind_44 (by decide) ?_
    refine g_ireturn dX5_numbersBehind_45 rfl ?_
    exact ⟨by simp [t_nb, hsw], rfl, rfl, rfl⟩
  · skip
    refine g_lookup (off := 47) 48 dX5_numbersBehind_1 (by decide) (by rw [hsw]; rfl) (by decide) ?_
    refine g_iconst dX5_numbersBehind_48 (by decide) ?_
    refine g_ireturn dX5_numbersBehind_49 rfl ?_
    exact ⟨by simp [t_nb, hsw], rfl, rfl, rfl⟩
  · skip
    refine g_lookup (off := 45) 46 dX5_numbersBehind_1 (by decide) (by rw [hsw]; rfl) (by decide) ?_
    refine g_iconst dX5_numbersBehind_46 (by decide) ?_
    refine g_ireturn dX5_numbersBehind_47 rfl ?_
    exact ⟨by simp [t_nb, hsw], rfl, rfl, rfl⟩

theorem g_up_self' {gi : gF} {a k : Int} : g_up gi a k (gi a k) = gi := by
  funext b j; simp only [g_up]; split
  · rename_i h; rw [h.1, h.2]
  · rfl
set_option maxRecDepth 20000 in
set_option maxHeartbeats 1000000 in
theorem c_readNumber (hV : isText sh) (tx : gRw) (n p ch : Int) (hx : gi 2 = tx) (hn : gi 1 2 = n) (hp : gi 1 3 = p) (hp0 : 0 ≤ p ∧ p ≤ 1000) (hn2 : n ≤ 200) (ht : t_tx tx n) : Ct mdX5_readNumber 0 0 [vR 1, vI ch] gi gl sh (fun r gi' gl' sh' => ∃ x q : Int, r = some (vI x) ∧ gi' = g_up gi 1 3 q ∧ gl' = gl ∧ sh' = sh ∧ (0 ≤ q ∧ q ≤ p + 3) ∧ (t_num tx n p ch = some (x, q) ∨ t_num tx n p ch = none ∧ x = -1)) := by
  show Go mdX5_readNumber 0 0 0 [some (vR 1), some (vI ch), none, none] [] gi gl sh _
  obtain ⟨k0, r0, r1, k1, l1, k2, l2⟩ := id hV
  have b0 := t_at_b ht p
  have b1 := t_at_b ht (p + 1)
  obtain ⟨y0, y1, y2, -⟩ := z_ex (48 ≤ t_at tx n p ∧ t_at tx n p ≤ 57)
  obtain ⟨z0, z1, z2, -⟩ := z_ex (48 ≤ t_at tx n (p + 1) ∧ t_at tx n (p + 1) ≤ 57)
  have f0 : (1 : Int) ≠ 2 := by decide
  have f1 : (2 : Int) ≠ 1 := by decide
  refine g_iconst dX5_readNumber_0 (by decide) ?_
  refine n_istore_n (lN := [_, _, _, _]) dX5_readNumber_1 (by decide) rfl ?_
  refine g_iconst dX5_readNumber_2 (by decide) ?_
  refine n_istore_n (lN := [_, _, _, _]) dX5_readNumber_3 (by decide) rfl ?_
  refine g_iload_n dX5_readNumber_4 rfl ?_
  refine g_iconst dX5_readNumber_5 (by decide) ?_
  refine g_icmp_ge 48 dX5_readNumber_6 (by decide) (fun h6 => ?_) (fun h6 => ?_)
  · exfalso; omega
  · skip
    refine g_aload_n dX5_readNumber_9 rfl ?_
    refine g_cVi [] dX5_readNumber_10 mlX5_35 mvX5_letterHere (by decide) (by assumption) (by decide) rfl rfl (Nat.le_of_ble_eq_true rfl) rfl (Nat.le_of_ble_eq_true rfl) (c_letterHere hV tx n (p) (by first | exact hx | (rw [g_up_row (by decide)]; exact hx)) (by first | exact hn | (rw [g_up_ne (by decide)]; exact hn)) (by first | exact hp | exact g_up_at) (by omega) hn2 ht) ?_
    refine g_cSi [_] dX5_readNumber_13 mlX5_50 msX5_isFigure (by decide) rfl rfl (Nat.le_of_ble_eq_true rfl) rfl (Nat.le_of_ble_eq_true rfl) (c_isFigure _ y0 y1 y2) ?_
    refine g_if_eq 48 dX5_readNumber_16 (by decide) (fun h16b => ?_) (fun h16b => ?_)
    · skip
      refine g_iload_n dX5_readNumber_48 rfl ?_
      refine g_if_eq 60 dX5_readNumber_49 (by decide) (fun h49 => ?_) (fun h49 => ?_)
      · skip
        refine g_iconst dX5_readNumber_60 (by decide) ?_
        refine g_ireturn dX5_readNumber_61 rfl ?_
        exact ⟨-1, p, rfl, by rw [← hp]; exact (g_up_self' (gi := gi)).symm, rfl, rfl, by omega, Or.inr ⟨by rw [t_num, if_neg (fun q => by have := y1 q; omega)], rfl⟩⟩
      · exfalso; omega
    · skip
      refine g_iload_n dX5_readNumber_19 rfl ?_
      refine g_bipush dX5_readNumber_20 (by decide) (by decide) ?_
      refine g_imul dX5_readNumber_22 (by omega) (by omega) ?_
      refine g_aload_n dX5_readNumber_23 rfl ?_
      refine g_cVi [] dX5_readNumber_24 mlX5_35 mvX5_letterHere (by decide) (by assumption) (by decide) rfl rfl (Nat.le_of_ble_eq_true rfl) rfl (Nat.le_of_ble_eq_true rfl) (c_letterHere hV tx n (p) (by first | exact hx | (rw [g_up_row (by decide)]; exact hx)) (by first | exact hn | (rw [g_up_ne (by decide)]; exact hn)) (by first | exact hp | exact g_up_at) (by omega) hn2 ht) ?_
      refine g_bipush dX5_readNumber_27 (by decide) (by decide) ?_
      refine g_isub dX5_readNumber_29 (by omega) (by omega) ?_
      refine g_iadd dX5_readNumber_30 (by omega) (by omega) ?_
      refine n_istore_n (lN := [_, _, _, _]) dX5_readNumber_31 (by decide) rfl ?_
      refine g_aload_n dX5_readNumber_32 rfl ?_
      refine g_dup dX5_readNumber_33 (fun _ h9 => by cases h9) ?_
      refine g_getI 3 dX5_readNumber_34 flX5_28 rfl (by assumption) ?_
      refine g_iconst dX5_readNumber_37 (by decide) ?_
      refine g_iadd dX5_readNumber_38 (by rw [hp]; omega) (by rw [hp]; omega) ?_
      refine g_putI 3 dX5_readNumber_39 flX5_28 rfl (by assumption) ?_
      rw [hp]
      refine n_iinc (lN := [_, _, _, _]) dX5_readNumber_42 rfl (by decide) (by omega) (by omega) rfl ?_
      refine g_goto 4 dX5_readNumber_45 (by decide) ?_
      refine g_iload_n dX5_readNumber_4 rfl ?_
      refine g_iconst dX5_readNumber_5 (by decide) ?_
      refine g_icmp_ge 48 dX5_readNumber_6 (by decide) (fun h6 => ?_) (fun h6 => ?_)
      · exfalso; omega
      · skip
        refine g_aload_n dX5_readNumber_9 rfl ?_
        refine g_cVi [] dX5_readNumber_10 mlX5_35 mvX5_letterHere (by decide) (by assumption) (by decide) rfl rfl (Nat.le_of_ble_eq_true rfl) rfl (Nat.le_of_ble_eq_true rfl) (c_letterHere hV tx n (p + 1) (by first | exact hx | (rw [g_up_row (by decide)]; exact hx)) (by first | exact hn | (rw [g_up_ne (by decide)]; exact hn)) (by first | exact hp | exact g_up_at) (by omega) hn2 ht) ?_
        refine g_cSi [_] dX5_readNumber_13 mlX5_50 msX5_isFigure (by decide) rfl rfl (Nat.le_of_ble_eq_true rfl) rfl (Nat.le_of_ble_eq_true rfl) (c_isFigure _ z0 z1 z2) ?_
        refine g_if_eq 48 dX5_readNumber_16 (by decide) (fun h16c => ?_) (fun h16c => ?_)
        · skip
          refine g_iload_n dX5_readNumber_48 rfl ?_
          refine g_if_eq 60 dX5_readNumber_49 (by decide) (fun h49 => ?_) (fun h49 => ?_)
          · exfalso; omega
          · skip
            refine g_aload_n dX5_readNumber_52 rfl ?_
            refine g_cVi [] dX5_readNumber_53 mlX5_35 mvX5_letterHere (by decide) (by assumption) (by decide) rfl rfl (Nat.le_of_ble_eq_true rfl) rfl (Nat.le_of_ble_eq_true rfl) (c_letterHere hV tx n (p + 1) (by first | exact hx | (rw [g_up_row (by decide)]; exact hx)) (by first | exact hn | (rw [g_up_ne (by decide)]; exact hn)) (by first | exact hp | exact g_up_at) (by omega) hn2 ht) ?_
            refine g_iload_n dX5_readNumber_56 rfl ?_
            refine g_icmp_eq 62 dX5_readNumber_57 (by decide) (fun h57 => ?_) (fun h57 => ?_)
            · skip
              refine g_aload_n dX5_readNumber_62 rfl ?_
              refine g_dup dX5_readNumber_63 (fun _ h9 => by cases h9) ?_
              refine g_getI 3 dX5_readNumber_64 flX5_28 rfl (by assumption) ?_
              refine g_iconst dX5_readNumber_67 (by decide) ?_
              refine g_iadd dX5_readNumber_68 (by rw [g_up_at]; omega) (by rw [g_up_at]; omega) ?_
              refine g_putI 3 dX5_readNumber_69 flX5_28 rfl (by assumption) ?_
              rw [g_up_at, g_up_up, show p + 1 + 1 = p + 2 by omega]
              refine g_iload_n dX5_readNumber_72 rfl ?_
              refine g_ireturn dX5_readNumber_73 rfl ?_
              exact ⟨_, _, rfl, rfl, rfl, rfl, by omega, Or.inl (by rw [t_num, if_pos (Classical.byContradiction (fun q => h16b (y2 q))), if_neg (fun q => by have := z1 q; omega), if_pos h57]; congr 2; omega)⟩
            · skip
              refine g_iconst dX5_readNumber_60 (by decide) ?_
              refine g_ireturn dX5_readNumber_61 rfl ?_
              exact ⟨-1, p + 1, rfl, rfl, rfl, rfl, by omega, Or.inr ⟨by rw [t_num, if_pos (Classical.byContradiction (fun q => h16b (y2 q))), if_neg (fun q => by have := z1 q; omega), if_neg h57], rfl⟩⟩
        · skip
          refine g_iload_n dX5_readNumber_19 rfl ?_
          refine g_bipush dX5_readNumber_20 (by decide) (by decide) ?_
          refine g_imul dX5_readNumber_22 (by omega) (by omega) ?_
          refine g_aload_n dX5_readNumber_23 rfl ?_
          refine g_cVi [] dX5_readNumber_24 mlX5_35 mvX5_letterHere (by decide) (by assumption) (by decide) rfl rfl (Nat.le_of_ble_eq_true rfl) rfl (Nat.le_of_ble_eq_true rfl) (c_letterHere hV tx n (p + 1) (by first | exact hx | (rw [g_up_row (by decide)]; exact hx)) (by first | exact hn | (rw [g_up_ne (by decide)]; exact hn)) (by first | exact hp | exact g_up_at) (by omega) hn2 ht) ?_
          refine g_bipush dX5_readNumber_27 (by decide) (by decide) ?_
          refine g_isub dX5_readNumber_29 (by omega) (by omega) ?_
          refine g_iadd dX5_readNumber_30 (by omega) (by omega) ?_
          refine n_istore_n (lN := [_, _, _, _]) dX5_readNumber_31 (by decide) rfl ?_
          refine g_aload_n dX5_readNumber_32 rfl ?_
          refine g_dup dX5_readNumber_33 (fun _ h9 => by cases h9) ?_
          refine g_getI 3 dX5_readNumber_34 flX5_28 rfl (by assumption) ?_
          refine g_iconst dX5_readNumber_37 (by decide) ?_
          refine g_iadd dX5_readNumber_38 (by rw [g_up_at]; omega) (by rw [g_up_at]; omega) ?_
          refine g_putI 3 dX5_readNumber_39 flX5_28 rfl (by assumption) ?_
          rw [g_up_at, g_up_up, show p + 1 + 1 = p + 2 by omega]
          refine n_iinc (lN := [_, _, _, _]) dX5_readNumber_42 rfl (by decide) (by omega) (by omega) rfl ?_
          refine g_goto 4 dX5_readNumber_45 (by decide) ?_
          refine g_iload_n dX5_readNumber_4 rfl ?_
          refine g_iconst dX5_readNumber_5 (by decide) ?_
          refine g_icmp_ge 48 dX5_readNumber_6 (by decide) (fun h6 => ?_) (fun h6 => ?_)
          · skip
            refine g_iload_n dX5_readNumber_48 rfl ?_
            refine g_if_eq 60 dX5_readNumber_49 (by decide) (fun h49 => ?_) (fun h49 => ?_)
            · exfalso; omega
            · skip
              refine g_aload_n dX5_readNumber_52 rfl ?_
              refine g_cVi [] dX5_readNumber_53 mlX5_35 mvX5_letterHere (by decide) (by assumption) (by decide) rfl rfl (Nat.le_of_ble_eq_true rfl) rfl (Nat.le_of_ble_eq_true rfl) (c_letterHere hV tx n (p + 2) (by first | exact hx | (rw [g_up_row (by decide)]; exact hx)) (by first | exact hn | (rw [g_up_ne (by decide)]; exact hn)) (by first | exact hp | exact g_up_at) (by omega) hn2 ht) ?_
              refine g_iload_n dX5_readNumber_56 rfl ?_
              refine g_icmp_eq 62 dX5_readNumber_57 (by decide) (fun h57 => ?_) (fun h57 => ?_)
              · skip
                refine g_aload_n dX5_readNumber_62 rfl ?_
                refine g_dup dX5_readNumber_63 (fun _ h9 => by cases h9) ?_
                refine g_getI 3 dX5_readNumber_64 flX5_28 rfl (by assumption) ?_
                refine g_iconst dX5_readNumber_67 (by decide) ?_
                refine g_iadd dX5_readNumber_68 (by rw [g_up_at]; omega) (by rw [g_up_at]; omega) ?_
                refine g_putI 3 dX5_readNumber_69 flX5_28 rfl (by assumption) ?_
                rw [g_up_at, g_up_up, show p + 2 + 1 = p + 3 by omega]
                refine g_iload_n dX5_readNumber_72 rfl ?_
                refine g_ireturn dX5_readNumber_73 rfl ?_
                exact ⟨_, _, rfl, rfl, rfl, rfl, by omega, Or.inl (by rw [t_num, if_pos (Classical.byContradiction (fun q => h16b (y2 q))), if_pos (Classical.byContradiction (fun q => h16c (z2 q))), if_pos h57]; congr 2; omega)⟩
              · skip
                refine g_iconst dX5_readNumber_60 (by decide) ?_
                refine g_ireturn dX5_readNumber_61 rfl ?_
                exact ⟨-1, p + 2, rfl, rfl, rfl, rfl, by omega, Or.inr ⟨by rw [t_num, if_pos (Classical.byContradiction (fun q => h16b (y2 q))), if_pos (Classical.byContradiction (fun q => h16c (z2 q))), if_neg h57], rfl⟩⟩
          · exfalso; omega
end TEXT
end
section
/-! an item read into a plan -/
def Zq (P : Prop) (z : Int) : Prop := (P → z = 1) ∧ (¬ P → z = 0)
theorem Zq.ex (P : Prop) : ∃ z : Int, Zq P z := by
  obtain ⟨z, h1, h2, -⟩ := z_ex P
  exact ⟨z, h1, h2⟩
theorem Zq.b {P : Prop} {z : Int} (h : Zq P z) : z = 0 ∨ z = 1 := by
  by_cases hP : P
  · exact Or.inr (h.1 hP)
  · exact Or.inl (h.2 hP)
theorem Zq.yes {P : Prop} {z : Int} (h : Zq P z) (hz : z ≠ 0) : P := Classical.byContradiction (fun q => hz (h.2 q))
theorem Zq.no {P : Prop} {z : Int} (h : Zq P z) (hz : z = 0) : ¬ P := fun q => by have := h.1 q; omega
def t_rI (tx : gRw) (n p : Int) (gi gl : gF) (sh : gSh) (a : Int) : gQ := fun r gi' gl' sh' => gl' = gl ∧ sh' = sh ∧ (∀ b : Int, b ≠ 1 → b ≠ 3 → b ≠ a → b ≠ a + 1 → b ≠ a + 2 → gi' b = gi b) ∧ gi' 1 2 = gi 1 2 ∧
  ((t_item tx n p (gi a) (gi (a + 1)) (gi (a + 2)) = none ∧ r = some (vI 0) ∧ gi' a = gi a ∧ gi' (a + 1) = gi (a + 1) ∧ gi' (a + 2) = gi (a + 2)) ∨
   ∃ (p' : Int) (pl kn nu : gRw), t_item tx n p (gi a) (gi (a + 1)) (gi (a + 2)) = some (p', pl, kn, nu) ∧ r = some (vI 1) ∧ gi' 1 3 = p' ∧ gi' a = pl ∧ gi' (a + 1) = kn ∧ gi' (a + 2) = nu)
section TEXT2
variable {gi gl gi1 : gF} {sh : gSh} {a : Int} {Q : gQ}
set_option maxRecDepth 20000 in
set_option maxHeartbeats 1000000 in
theorem l_item_44 (hV : isText sh) (tx : gRw) (n p : Int) (hx : gi 2 = tx) (hn : gi 1 2 = n) (hp : gi 1 3 = p) (hp0 : 0 ≤ p ∧ p ≤ 900) (hn2 : n ≤ 200) (ht : t_tx tx n) (lt w i : Int) (hi : 0 ≤ i ∧ i < w ∧ w ≤ 5) (hch : i + 1 < w)
    (hS : ∀ x q : Int, t_num tx n p 44 = some (x, q) → Go mdX5_readItem 0 0 29 [some (vR 1), some (vR a), some (vI lt), some (vI w), some (vI (i + 1))] [] (g_up (g_up gi 1 3 q) 3 i x) gl sh Q)
    (hN : t_num tx n p 44 = none → ∀ q : Int, Q (some (vI 0)) (g_up (g_up gi 1 3 q) 3 i (-1)) gl sh) : Go mdX5_readItem 0 0 29 [some (vR 1), some (vR a), some (vI lt), some (vI w), some (vI i)] [] gi gl sh Q := by
  obtain ⟨k0, r0, r1, k1, l1, k2, l2⟩ := id hV
  refine g_iload dX5_readItem_29 rfl ?_
  refine g_iload_n dX5_readItem_31 rfl ?_
  refine g_icmp_ge 89 dX5_readItem_32 (by decide) (fun h32 => ?_) (fun h32 => ?_)
  · exfalso; omega
  · skip
    refine g_iload dX5_readItem_35 rfl ?_
    refine g_aload_n dX5_readItem_37 rfl ?_
    refine g_getR 1 dX5_readItem_38 flX5_15 rfl (by assumption) (by assumption) ?_
    refine g_alen _ dX5_readItem_41 (by omega) (by assumption) (by decide) ?_
    refine g_icmp_ge 89 dX5_readItem_42 (by decide) (fun h42 => ?_) (fun h42 => ?_)
    · exfalso; omega
    · skip
      refine g_aload_n dX5_readItem_45 rfl ?_
      refine g_getR 1 dX5_readItem_46 flX5_15 rfl (by assumption) (by assumption) ?_
      refine g_iload dX5_readItem_49 rfl ?_
      refine g_aload_n dX5_readItem_51 rfl ?_
      refine g_iload dX5_readItem_52 rfl ?_
      refine g_iconst dX5_readItem_54 (by decide) ?_
      refine g_iadd dX5_readItem_55 (by omega) (by omega) ?_
      refine g_iload_n dX5_readItem_56 rfl ?_
      refine g_icmp_ge 65 dX5_readItem_57 (by decide) (fun h57 => ?_) (fun h57 => ?_)
      · exfalso; omega
      · skip
        refine g_bipush dX5_readItem_60 (by decide) (by decide) ?_
        refine g_goto 67 dX5_readItem_62 (by decide) ?_
        refine g_callV_i [_] dX5_readItem_67 mlX5_43 mvX5_readNumber (by decide) (by assumption) (by decide) rfl rfl (Nat.le_of_ble_eq_true rfl) rfl (Nat.le_of_ble_eq_true rfl) (c_readNumber hV tx n p 44 hx hn hp (by omega) hn2 ht) (fun _ _ _ _ q => by obtain ⟨x, q, e, -⟩ := q; exact ⟨x, e⟩) (fun x0 g1 l1 s1 hq hw1 hw2 => ?_)
        obtain ⟨x, q, e, rfl, rfl, rfl, hb, hc⟩ := hq
        cases e
        refine g_iastore dX5_readItem_70 (by assumption) (by omega) (by omega) ?_
        refine g_aload_n dX5_readItem_71 rfl ?_
        refine g_getR 1 dX5_readItem_72 flX5_15 rfl (by assumption) (by assumption) ?_
        refine g_iload dX5_readItem_75 rfl ?_
        refine g_iaload dX5_readItem_77 (by assumption) (by omega) (by omega) ?_
        rw [g_up_at]
        refine g_if_ge 83 dX5_readItem_78 (by decide) (fun h78 => ?_) (fun h78 => ?_)
        · skip
          refine n_iinc (lN := [_, _, _, _, _]) dX5_readItem_83 rfl (by decide) (by omega) (by omega) rfl ?_
          refine g_goto 29 dX5_readItem_86 (by decide) ?_
          rcases hc with hc | hc
          · exact hS x0 q hc
          · exfalso; omega
        · skip
          refine g_iconst dX5_readItem_81 (by decide) ?_
          refine g_zreturn dX5_readItem_82 rfl (by omega) ?_
          rcases hc with hc | hc
          · exfalso; have := t_num_b hc; omega
          · rw [hc.2]
            exact hN hc.1 q
set_option maxRecDepth 20000 in
set_option maxHeartbeats 1000000 in
theorem l_item_59 (hV : isText sh) (tx : gRw) (n p : Int) (hx : gi 2 = tx) (hn : gi 1 2 = n) (hp : gi 1 3 = p) (hp0 : 0 ≤ p ∧ p ≤ 900) (hn2 : n ≤ 200) (ht : t_tx tx n) (lt w i : Int) (hi : 0 ≤ i ∧ i < w ∧ w ≤ 5) (hch : w ≤ i + 1)
    (hS : ∀ x q : Int, t_num tx n p 59 = some (x, q) → Go mdX5_readItem 0 0 29 [some (vR 1), some (vR a), some (vI lt), some (vI w), some (vI (i + 1))] [] (g_up (g_up gi 1 3 q) 3 i x) gl sh Q)
    (hN : t_num tx n p 59 = none → ∀ q : Int, Q (some (vI 0)) (g_up (g_up gi 1 3 q) 3 i (-1)) gl sh) : Go mdX5_readItem 0 0 29 [some (vR 1), some (vR a), some (vI lt), some (vI w), some (vI i)] [] gi gl sh Q := by
  obtain ⟨k0, r0, r1, k1, l1, k2, l2⟩ := id hV
  refine g_iload dX5_readItem_29 rfl ?_
  refine g_iload_n dX5_readItem_31 rfl ?_
  refine g_icmp_ge 89 dX5_readItem_32 (by decide) (fun h32 => ?_) (fun h32 => ?_)
  · exfalso; omega
  · skip
    refine g_iload dX5_readItem_35 rfl ?_
    refine g_aload_n dX5_readItem_37 rfl ?_
    refine g_getR 1 dX5_readItem_38 flX5_15 rfl (by assumption) (by assumption) ?_
    refine g_alen _ dX5_readItem_41 (by omega) (by assumption) (by decide) ?_
    refine g_icmp_ge 89 dX5_readItem_42 (by decide) (fun h42 => ?_) (fun h42 => ?_)
    · exfalso; omega
    · skip
      refine g_aload_n dX5_readItem_45 rfl ?_
      refine g_getR 1 dX5_readItem_46 flX5_15 rfl (by assumption) (by assumption) ?_
      refine g_iload dX5_readItem_49 rfl ?_
      refine g_aload_n dX5_readItem_51 rfl ?_
      refine g_iload dX5_readItem_52 rfl ?_
      refine g_iconst dX5_readItem_54 (by decide) ?_
      refine g_iadd dX5_readItem_55 (by omega) (by omega) ?_
      refine g_iload_n dX5_readItem_56 rfl ?_
      refine g_icmp_ge 65 dX5_readItem_57 (by decide) (fun h57 => ?_) (fun h57 => ?_)
      · skip
        refine g_bipush dX5_readItem_65 (by decide) (by decide) ?_
        refine g_callV_i [_] dX5_readItem_67 mlX5_43 mvX5_readNumber (by decide) (by assumption) (by decide) rfl rfl (Nat.le_of_ble_eq_true rfl) rfl (Nat.le_of_ble_eq_true rfl) (c_readNumber hV tx n p 59 hx hn hp (by omega) hn2 ht) (fun _ _ _ _ q => by obtain ⟨x, q, e, -⟩ := q; exact ⟨x, e⟩) (fun x0 g1 l1 s1 hq hw1 hw2 => ?_)
        obtain ⟨x, q, e, rfl, rfl, rfl, hb, hc⟩ := hq
        cases e
        refine g_iastore dX5_readItem_70 (by assumption) (by omega) (by omega) ?_
        refine g_aload_n dX5_readItem_71 rfl ?_
        refine g_getR 1 dX5_readItem_72 flX5_15 rfl (by assumption) (by assumption) ?_
        refine g_iload dX5_readItem_75 rfl ?_
        refine g_iaload dX5_readItem_77 (by assumption) (by omega) (by omega) ?_
        rw [g_up_at]
        refine g_if_ge 83 dX5_readItem_78 (by decide) (fun h78 => ?_) (fun h78 => ?_)
        · skip
          refine n_iinc (lN := [_, _, _, _, _]) dX5_readItem_83 rfl (by decide) (by omega) (by omega) rfl ?_
          refine g_goto 29 dX5_readItem_86 (by decide) ?_
          rcases hc with hc | hc
          · exact hS x0 q hc
          · exfalso; omega
        · skip
          refine g_iconst dX5_readItem_81 (by decide) ?_
          refine g_zreturn dX5_readItem_82 rfl (by omega) ?_
          rcases hc with hc | hc
          · exfalso; have := t_num_b hc; omega
          · rw [hc.2]
            exact hN hc.1 q
      · exfalso; omega
end TEXT2
end
section
section TEXT3
variable {gi gl gi1 : gF} {sh : gSh} {a : Int} {Q : gQ}
set_option maxRecDepth 20000 in
theorem l_itemEnd (hV : isText sh) (hP : isPlan sh a) (lt w z : Int) (hw : 0 ≤ w ∧ w ≤ 5) (hG : Ct mdX3_takeItem 0 0 [vR a, vI lt, vR 3] gi gl sh (Rt (some (vI z)) gi1 gl sh)) (hz : z = 0 ∨ z = 1) (hQ : Q (some (vI z)) gi1 gl sh) : Go mdX5_readItem 0 0 29 [some (vR 1), some (vR a), some (vI lt), some (vI w), some (vI w)] [] gi gl sh Q := by
  obtain ⟨k0, r0, r1, k1, l1, k2, l2⟩ := id hV
  have hP0 := hP.1
  refine g_iload dX5_readItem_29 rfl ?_
  refine g_iload_n dX5_readItem_31 rfl ?_
  refine g_icmp_ge 89 dX5_readItem_32 (by decide) (fun h32 => ?_) (fun h32 => ?_)
  · skip
    refine g_aload_n dX5_readItem_89 rfl ?_
    refine g_iload_n dX5_readItem_90 rfl ?_
    refine g_aload_n dX5_readItem_91 rfl ?_
    refine g_getR 1 dX5_readItem_92 flX5_15 rfl (by assumption) (by assumption) ?_
    refine g_cVi [_, _] dX5_readItem_95 mlX5_46 mvX3_takeItem (by decide) (by assumption) (by decide) rfl rfl (Nat.le_of_ble_eq_true rfl) rfl (Nat.le_of_ble_eq_true rfl) (hG) ?_
    refine g_zreturn dX5_readItem_98 rfl (by omega) ?_
    exact hQ
  · exfalso; omega
set_option maxRecDepth 20000 in
set_option maxHeartbeats 2000000 in
theorem l_item103 (hV : isText sh) (tx : gRw) (n p : Int) (hx : gi 2 = tx) (hn : gi 1 2 = n) (hp : gi 1 3 = p) (hp0 : 0 ≤ p ∧ p ≤ 500) (hn2 : n ≤ 200) (ht : t_tx tx n) (hP : isPlan sh a) (ha : 100 ≤ a) (hr : 0 ≤ gi a 2) (hL : t_at tx n p = 103) : Go mdX5_readItem 0 0 29 [some (vR 1), some (vR a), some (vI 103), some (vI 5), some (vI 0)] [] (g_up gi 1 3 (p + 1)) gl sh (t_rI tx n p gi gl sh a) := by
  obtain ⟨k0, r0, r1, k1, l1, k2, l2⟩ := id hV
  have d13 : (1 : Int) ≠ 3 := by decide
  have d31 : (3 : Int) ≠ 1 := by decide
  have d21 : (2 : Int) ≠ 1 := by decide
  have d23 : (2 : Int) ≠ 3 := by decide
  have a1 : a ≠ 1 := by omega
  have a3 : a ≠ 3 := by omega
  have b1 : a + 1 ≠ 1 := by omega
  have b3 : a + 1 ≠ 3 := by omega
  have c1 : a + 2 ≠ 1 := by omega
  have c3 : a + 2 ≠ 3 := by omega
  have ab : a ≠ a + 1 := by omega
  have ac : a ≠ a + 2 := by omega
  have ba : a + 1 ≠ a := by omega
  have bc : a + 1 ≠ a + 2 := by omega
  have ca : a + 2 ≠ a := by omega
  have cb : a + 2 ≠ a + 1 := by omega
  have u1 : (1 : Int) ≠ a := by omega
  have u3 : (3 : Int) ≠ a := by omega
  have v1 : (1 : Int) ≠ a + 1 := by omega
  have v3 : (3 : Int) ≠ a + 1 := by omega
  have w1 : (1 : Int) ≠ a + 2 := by omega
  have w3 : (3 : Int) ≠ a + 2 := by omega
  have hP0 := hP.1
  refine l_item_44 (gi := (g_up gi 1 3 (p + 1))) hV tx n (p + 1) (by simp only [g_up_row d13, g_up_row d31, g_up_row d21, g_up_row d23, g_up_row a1, g_up_row a3, g_up_row b1, g_up_row b3, g_up_row c1, g_up_row c3, g_up_row ab, g_up_row ac, g_up_row ba, g_up_row bc, g_up_row ca, g_up_row cb, g_up_row u1, g_up_row u3, g_up_row v1, g_up_row v3, g_up_row w1, g_up_row w3, g_up_r, r_up_at, r_up_ne, ne_eq, Int.reduceEq, not_false_eq_true, pn_grid, pn_add]; exact hx) (by simp only [g_up_row d13, g_up_row d31, g_up_row d21, g_up_row d23, g_up_row a1, g_up_row a3, g_up_row b1, g_up_row b3, g_up_row c1, g_up_row c3, g_up_row ab, g_up_row ac, g_up_row ba, g_up_row bc, g_up_row ca, g_up_row cb, g_up_row u1, g_up_row u3, g_up_row v1, g_up_row v3, g_up_row w1, g_up_row w3, g_up_r, r_up_at, r_up_ne, ne_eq, Int.reduceEq, not_false_eq_true, pn_grid, pn_add]; exact hn) (by simp only [g_up_row d13, g_up_row d31, g_up_row d21, g_up_row d23, g_up_row a1, g_up_row a3, g_up_row b1, g_up_row b3, g_up_row c1, g_up_row c3, g_up_row ab, g_up_row ac, g_up_row ba, g_up_row bc, g_up_row ca, g_up_row cb, g_up_row u1, g_up_row u3, g_up_row v1, g_up_row v3, g_up_row w1, g_up_row w3, g_up_r, r_up_at, r_up_ne, ne_eq, Int.reduceEq, not_false_eq_true, pn_grid, pn_add]) (by omega) hn2 ht 103 5 0 (by omega) (by decide) (fun x0 q0 e0 => ?_) (fun hno q => ⟨rfl, rfl, fun b z1 z3 za zb zc => by simp only [g_up_row z1, g_up_row z3, g_up_row za, g_up_row zb, g_up_row zc, pn_grid, pn_add], by simp only [g_up_row d13, g_up_row d31, g_up_row d21, g_up_row d23, g_up_row a1, g_up_row a3, g_up_row b1, g_up_row b3, g_up_row c1, g_up_row c3, g_up_row ab, g_up_row ac, g_up_row ba, g_up_row bc, g_up_row ca, g_up_row cb, g_up_row u1, g_up_row u3, g_up_row v1, g_up_row v3, g_up_row w1, g_up_row w3, g_up_r, r_up_at, r_up_ne, ne_eq, Int.reduceEq, not_false_eq_true, pn_grid, pn_add], Or.inl ⟨by simp [t_item, hL, hno], rfl, by simp only [g_up_row d13, g_up_row d31, g_up_row d21, g_up_row d23, g_up_row a1, g_up_row a3, g_up_row b1, g_up_row b3, g_up_row c1, g_up_row c3, g_up_row ab, g_up_row ac, g_up_row ba, g_up_row bc, g_up_row ca, g_up_row cb, g_up_row u1, g_up_row u3, g_up_row v1, g_up_row v3, g_up_row w1, g_up_row w3, g_up_r, r_up_at, r_up_ne, ne_eq, Int.reduceEq, not_false_eq_true, pn_grid, pn_add], by simp only [g_up_row d13, g_up_row d31, g_up_row d21, g_up_row d23, g_up_row a1, g_up_row a3, g_up_row b1, g_up_row b3, g_up_row c1, g_up_row c3, g_up_row ab, g_up_row ac, g_up_row ba, g_up_row bc, g_up_row ca, g_up_row cb, g_up_row u1, g_up_row u3, g_up_row v1, g_up_row v3, g_up_row w1, g_up_row w3, g_up_r, r_up_at, r_up_ne, ne_eq, Int.reduceEq, not_false_eq_true, pn_grid, pn_add], by simp only [g_up_row d13, g_up_row d31, g_up_row d21, g_up_row d23, g_up_row a1, g_up_row a3, g_up_row b1, g_up_row b3, g_up_row c1, g_up_row c3, g_up_row ab, g_up_row ac, g_up_row ba, g_up_row bc, g_up_row ca, g_up_row cb, g_up_row u1, g_up_row u3, g_up_row v1, g_up_row v3, g_up_row w1, g_up_row w3, g_up_r, r_up_at, r_up_ne, ne_eq, Int.reduceEq, not_false_eq_true, pn_grid, pn_add]⟩⟩)
  have f0 := t_num_b e0
  rw [show (0 : Int) + 1 = 1 from rfl]
  refine l_item_44 (gi := (g_up (g_up (g_up gi 1 3 (p + 1)) 1 3 q0) 3 0 x0)) hV tx n q0 (by simp only [g_up_row d13, g_up_row d31, g_up_row d21, g_up_row d23, g_up_row a1, g_up_row a3, g_up_row b1, g_up_row b3, g_up_row c1, g_up_row c3, g_up_row ab, g_up_row ac, g_up_row ba, g_up_row bc, g_up_row ca, g_up_row cb, g_up_row u1, g_up_row u3, g_up_row v1, g_up_row v3, g_up_row w1, g_up_row w3, g_up_r, r_up_at, r_up_ne, ne_eq, Int.reduceEq, not_false_eq_true, pn_grid, pn_add]; exact hx) (by simp only [g_up_row d13, g_up_row d31, g_up_row d21, g_up_row d23, g_up_row a1, g_up_row a3, g_up_row b1, g_up_row b3, g_up_row c1, g_up_row c3, g_up_row ab, g_up_row ac, g_up_row ba, g_up_row bc, g_up_row ca, g_up_row cb, g_up_row u1, g_up_row u3, g_up_row v1, g_up_row v3, g_up_row w1, g_up_row w3, g_up_r, r_up_at, r_up_ne, ne_eq, Int.reduceEq, not_false_eq_true, pn_grid, pn_add]; exact hn) (by simp only [g_up_row d13, g_up_row d31, g_up_row d21, g_up_row d23, g_up_row a1, g_up_row a3, g_up_row b1, g_up_row b3, g_up_row c1, g_up_row c3, g_up_row ab, g_up_row ac, g_up_row ba, g_up_row bc, g_up_row ca, g_up_row cb, g_up_row u1, g_up_row u3, g_up_row v1, g_up_row v3, g_up_row w1, g_up_row w3, g_up_r, r_up_at, r_up_ne, ne_eq, Int.reduceEq, not_false_eq_true, pn_grid, pn_add]) (by omega) hn2 ht 103 5 1 (by omega) (by decide) (fun x1 q1 e1 => ?_) (fun hno q => ⟨rfl, rfl, fun b z1 z3 za zb zc => by simp only [g_up_row z1, g_up_row z3, g_up_row za, g_up_row zb, g_up_row zc, pn_grid, pn_add], by simp only [g_up_row d13, g_up_row d31, g_up_row d21, g_up_row d23, g_up_row a1, g_up_row a3, g_up_row b1, g_up_row b3, g_up_row c1, g_up_row c3, g_up_row ab, g_up_row ac, g_up_row ba, g_up_row bc, g_up_row ca, g_up_row cb, g_up_row u1, g_up_row u3, g_up_row v1, g_up_row v3, g_up_row w1, g_up_row w3, g_up_r, r_up_at, r_up_ne, ne_eq, Int.reduceEq, not_false_eq_true, pn_grid, pn_add], Or.inl ⟨by simp [t_item, hL, e0, hno], rfl, by simp only [g_up_row d13, g_up_row d31, g_up_row d21, g_up_row d23, g_up_row a1, g_up_row a3, g_up_row b1, g_up_row b3, g_up_row c1, g_up_row c3, g_up_row ab, g_up_row ac, g_up_row ba, g_up_row bc, g_up_row ca, g_up_row cb, g_up_row u1, g_up_row u3, g_up_row v1, g_up_row v3, g_up_row w1, g_up_row w3, g_up_r, r_up_at, r_up_ne, ne_eq, Int.reduceEq, not_false_eq_true, pn_grid, pn_add], by simp only [g_up_row d13, g_up_row d31, g_up_row d21, g_up_row d23, g_up_row a1, g_up_row a3, g_up_row b1, g_up_row b3, g_up_row c1, g_up_row c3, g_up_row ab, g_up_row ac, g_up_row ba, g_up_row bc, g_up_row ca, g_up_row cb, g_up_row u1, g_up_row u3, g_up_row v1, g_up_row v3, g_up_row w1, g_up_row w3, g_up_r, r_up_at, r_up_ne, ne_eq, Int.reduceEq, not_false_eq_true, pn_grid, pn_add], by simp only [g_up_row d13, g_up_row d31, g_up_row d21, g_up_row d23, g_up_row a1, g_up_row a3, g_up_row b1, g_up_row b3, g_up_row c1, g_up_row c3, g_up_row ab, g_up_row ac, g_up_row ba, g_up_row bc, g_up_row ca, g_up_row cb, g_up_row u1, g_up_row u3, g_up_row v1, g_up_row v3, g_up_row w1, g_up_row w3, g_up_r, r_up_at, r_up_ne, ne_eq, Int.reduceEq, not_false_eq_true, pn_grid, pn_add]⟩⟩)
  have f1 := t_num_b e1
  rw [show (1 : Int) + 1 = 2 from rfl]
  refine l_item_44 (gi := (g_up (g_up (g_up (g_up (g_up gi 1 3 (p + 1)) 1 3 q0) 3 0 x0) 1 3 q1) 3 1 x1)) hV tx n q1 (by simp only [g_up_row d13, g_up_row d31, g_up_row d21, g_up_row d23, g_up_row a1, g_up_row a3, g_up_row b1, g_up_row b3, g_up_row c1, g_up_row c3, g_up_row ab, g_up_row ac, g_up_row ba, g_up_row bc, g_up_row ca, g_up_row cb, g_up_row u1, g_up_row u3, g_up_row v1, g_up_row v3, g_up_row w1, g_up_row w3, g_up_r, r_up_at, r_up_ne, ne_eq, Int.reduceEq, not_false_eq_true, pn_grid, pn_add]; exact hx) (by simp only [g_up_row d13, g_up_row d31, g_up_row d21, g_up_row d23, g_up_row a1, g_up_row a3, g_up_row b1, g_up_row b3, g_up_row c1, g_up_row c3, g_up_row ab, g_up_row ac, g_up_row ba, g_up_row bc, g_up_row ca, g_up_row cb, g_up_row u1, g_up_row u3, g_up_row v1, g_up_row v3, g_up_row w1, g_up_row w3, g_up_r, r_up_at, r_up_ne, ne_eq, Int.reduceEq, not_false_eq_true, pn_grid, pn_add]; exact hn) (by simp only [g_up_row d13, g_up_row d31, g_up_row d21, g_up_row d23, g_up_row a1, g_up_row a3, g_up_row b1, g_up_row b3, g_up_row c1, g_up_row c3, g_up_row ab, g_up_row ac, g_up_row ba, g_up_row bc, g_up_row ca, g_up_row cb, g_up_row u1, g_up_row u3, g_up_row v1, g_up_row v3, g_up_row w1, g_up_row w3, g_up_r, r_up_at, r_up_ne, ne_eq, Int.reduceEq, not_false_eq_true, pn_grid, pn_add]) (by omega) hn2 ht 103 5 2 (by omega) (by decide) (fun x2 q2 e2 => ?_) (fun hno q => ⟨rfl, rfl, fun b z1 z3 za zb zc => by simp only [g_up_row z1, g_up_row z3, g_up_row za, g_up_row zb, g_up_row zc, pn_grid, pn_add], by simp only [g_up_row d13, g_up_row d31, g_up_row d21, g_up_row d23, g_up_row a1, g_up_row a3, g_up_row b1, g_up_row b3, g_up_row c1, g_up_row c3, g_up_row ab, g_up_row ac, g_up_row ba, g_up_row bc, g_up_row ca, g_up_row cb, g_up_row u1, g_up_row u3, g_up_row v1, g_up_row v3, g_up_row w1, g_up_row w3, g_up_r, r_up_at, r_up_ne, ne_eq, Int.reduceEq, not_false_eq_true, pn_grid, pn_add], Or.inl ⟨by simp [t_item, hL, e0, e1, hno], rfl, by simp only [g_up_row d13, g_up_row d31, g_up_row d21, g_up_row d23, g_up_row a1, g_up_row a3, g_up_row b1, g_up_row b3, g_up_row c1, g_up_row c3, g_up_row ab, g_up_row ac, g_up_row ba, g_up_row bc, g_up_row ca, g_up_row cb, g_up_row u1, g_up_row u3, g_up_row v1, g_up_row v3, g_up_row w1, g_up_row w3, g_up_r, r_up_at, r_up_ne, ne_eq, Int.reduceEq, not_false_eq_true, pn_grid, pn_add], by simp only [g_up_row d13, g_up_row d31, g_up_row d21, g_up_row d23, g_up_row a1, g_up_row a3, g_up_row b1, g_up_row b3, g_up_row c1, g_up_row c3, g_up_row ab, g_up_row ac, g_up_row ba, g_up_row bc, g_up_row ca, g_up_row cb, g_up_row u1, g_up_row u3, g_up_row v1, g_up_row v3, g_up_row w1, g_up_row w3, g_up_r, r_up_at, r_up_ne, ne_eq, Int.reduceEq, not_false_eq_true, pn_grid, pn_add], by simp only [g_up_row d13, g_up_row d31, g_up_row d21, g_up_row d23, g_up_row a1, g_up_row a3, g_up_row b1, g_up_row b3, g_up_row c1, g_up_row c3, g_up_row ab, g_up_row ac, g_up_row ba, g_up_row bc, g_up_row ca, g_up_row cb, g_up_row u1, g_up_row u3, g_up_row v1, g_up_row v3, g_up_row w1, g_up_row w3, g_up_r, r_up_at, r_up_ne, ne_eq, Int.reduceEq, not_false_eq_true, pn_grid, pn_add]⟩⟩)
  have f2 := t_num_b e2
  rw [show (2 : Int) + 1 = 3 from rfl]
  refine l_item_44 (gi := (g_up (g_up (g_up (g_up (g_up (g_up (g_up gi 1 3 (p + 1)) 1 3 q0) 3 0 x0) 1 3 q1) 3 1 x1) 1 3 q2) 3 2 x2)) hV tx n q2 (by simp only [g_up_row d13, g_up_row d31, g_up_row d21, g_up_row d23, g_up_row a1, g_up_row a3, g_up_row b1, g_up_row b3, g_up_row c1, g_up_row c3, g_up_row ab, g_up_row ac, g_up_row ba, g_up_row bc, g_up_row ca, g_up_row cb, g_up_row u1, g_up_row u3, g_up_row v1, g_up_row v3, g_up_row w1, g_up_row w3, g_up_r, r_up_at, r_up_ne, ne_eq, Int.reduceEq, not_false_eq_true, pn_grid, pn_add]; exact hx) (by simp only [g_up_row d13, g_up_row d31, g_up_row d21, g_up_row d23, g_up_row a1, g_up_row a3, g_up_row b1, g_up_row b3, g_up_row c1, g_up_row c3, g_up_row ab, g_up_row ac, g_up_row ba, g_up_row bc, g_up_row ca, g_up_row cb, g_up_row u1, g_up_row u3, g_up_row v1, g_up_row v3, g_up_row w1, g_up_row w3, g_up_r, r_up_at, r_up_ne, ne_eq, Int.reduceEq, not_false_eq_true, pn_grid, pn_add]; exact hn) (by simp only [g_up_row d13, g_up_row d31, g_up_row d21, g_up_row d23, g_up_row a1, g_up_row a3, g_up_row b1, g_up_row b3, g_up_row c1, g_up_row c3, g_up_row ab, g_up_row ac, g_up_row ba, g_up_row bc, g_up_row ca, g_up_row cb, g_up_row u1, g_up_row u3, g_up_row v1, g_up_row v3, g_up_row w1, g_up_row w3, g_up_r, r_up_at, r_up_ne, ne_eq, Int.reduceEq, not_false_eq_true, pn_grid, pn_add]) (by omega) hn2 ht 103 5 3 (by omega) (by decide) (fun x3 q3 e3 => ?_) (fun hno q => ⟨rfl, rfl, fun b z1 z3 za zb zc => by simp only [g_up_row z1, g_up_row z3, g_up_row za, g_up_row zb, g_up_row zc, pn_grid, pn_add], by simp only [g_up_row d13, g_up_row d31, g_up_row d21, g_up_row d23, g_up_row a1, g_up_row a3, g_up_row b1, g_up_row b3, g_up_row c1, g_up_row c3, g_up_row ab, g_up_row ac, g_up_row ba, g_up_row bc, g_up_row ca, g_up_row cb, g_up_row u1, g_up_row u3, g_up_row v1, g_up_row v3, g_up_row w1, g_up_row w3, g_up_r, r_up_at, r_up_ne, ne_eq, Int.reduceEq, not_false_eq_true, pn_grid, pn_add], Or.inl ⟨by simp [t_item, hL, e0, e1, e2, hno], rfl, by simp only [g_up_row d13, g_up_row d31, g_up_row d21, g_up_row d23, g_up_row a1, g_up_row a3, g_up_row b1, g_up_row b3, g_up_row c1, g_up_row c3, g_up_row ab, g_up_row ac, g_up_row ba, g_up_row bc, g_up_row ca, g_up_row cb, g_up_row u1, g_up_row u3, g_up_row v1, g_up_row v3, g_up_row w1, g_up_row w3, g_up_r, r_up_at, r_up_ne, ne_eq, Int.reduceEq, not_false_eq_true, pn_grid, pn_add], by simp only [g_up_row d13, g_up_row d31, g_up_row d21, g_up_row d23, g_up_row a1, g_up_row a3, g_up_row b1, g_up_row b3, g_up_row c1, g_up_row c3, g_up_row ab, g_up_row ac, g_up_row ba, g_up_row bc, g_up_row ca, g_up_row cb, g_up_row u1, g_up_row u3, g_up_row v1, g_up_row v3, g_up_row w1, g_up_row w3, g_up_r, r_up_at, r_up_ne, ne_eq, Int.reduceEq, not_false_eq_true, pn_grid, pn_add], by simp only [g_up_row d13, g_up_row d31, g_up_row d21, g_up_row d23, g_up_row a1, g_up_row a3, g_up_row b1, g_up_row b3, g_up_row c1, g_up_row c3, g_up_row ab, g_up_row ac, g_up_row ba, g_up_row bc, g_up_row ca, g_up_row cb, g_up_row u1, g_up_row u3, g_up_row v1, g_up_row v3, g_up_row w1, g_up_row w3, g_up_r, r_up_at, r_up_ne, ne_eq, Int.reduceEq, not_false_eq_true, pn_grid, pn_add]⟩⟩)
  have f3 := t_num_b e3
  rw [show (3 : Int) + 1 = 4 from rfl]
  refine l_item_59 (gi := (g_up (g_up (g_up (g_up (g_up (g_up (g_up (g_up (g_up gi 1 3 (p + 1)) 1 3 q0) 3 0 x0) 1 3 q1) 3 1 x1) 1 3 q2) 3 2 x2) 1 3 q3) 3 3 x3)) hV tx n q3 (by simp only [g_up_row d13, g_up_row d31, g_up_row d21, g_up_row d23, g_up_row a1, g_up_row a3, g_up_row b1, g_up_row b3, g_up_row c1, g_up_row c3, g_up_row ab, g_up_row ac, g_up_row ba, g_up_row bc, g_up_row ca, g_up_row cb, g_up_row u1, g_up_row u3, g_up_row v1, g_up_row v3, g_up_row w1, g_up_row w3, g_up_r, r_up_at, r_up_ne, ne_eq, Int.reduceEq, not_false_eq_true, pn_grid, pn_add]; exact hx) (by simp only [g_up_row d13, g_up_row d31, g_up_row d21, g_up_row d23, g_up_row a1, g_up_row a3, g_up_row b1, g_up_row b3, g_up_row c1, g_up_row c3, g_up_row ab, g_up_row ac, g_up_row ba, g_up_row bc, g_up_row ca, g_up_row cb, g_up_row u1, g_up_row u3, g_up_row v1, g_up_row v3, g_up_row w1, g_up_row w3, g_up_r, r_up_at, r_up_ne, ne_eq, Int.reduceEq, not_false_eq_true, pn_grid, pn_add]; exact hn) (by simp only [g_up_row d13, g_up_row d31, g_up_row d21, g_up_row d23, g_up_row a1, g_up_row a3, g_up_row b1, g_up_row b3, g_up_row c1, g_up_row c3, g_up_row ab, g_up_row ac, g_up_row ba, g_up_row bc, g_up_row ca, g_up_row cb, g_up_row u1, g_up_row u3, g_up_row v1, g_up_row v3, g_up_row w1, g_up_row w3, g_up_r, r_up_at, r_up_ne, ne_eq, Int.reduceEq, not_false_eq_true, pn_grid, pn_add]) (by omega) hn2 ht 103 5 4 (by omega) (by decide) (fun x4 q4 e4 => ?_) (fun hno q => ⟨rfl, rfl, fun b z1 z3 za zb zc => by simp only [g_up_row z1, g_up_row z3, g_up_row za, g_up_row zb, g_up_row zc, pn_grid, pn_add], by simp only [g_up_row d13, g_up_row d31, g_up_row d21, g_up_row d23, g_up_row a1, g_up_row a3, g_up_row b1, g_up_row b3, g_up_row c1, g_up_row c3, g_up_row ab, g_up_row ac, g_up_row ba, g_up_row bc, g_up_row ca, g_up_row cb, g_up_row u1, g_up_row u3, g_up_row v1, g_up_row v3, g_up_row w1, g_up_row w3, g_up_r, r_up_at, r_up_ne, ne_eq, Int.reduceEq, not_false_eq_true, pn_grid, pn_add], Or.inl ⟨by simp [t_item, hL, e0, e1, e2, e3, hno], rfl, by simp only [g_up_row d13, g_up_row d31, g_up_row d21, g_up_row d23, g_up_row a1, g_up_row a3, g_up_row b1, g_up_row b3, g_up_row c1, g_up_row c3, g_up_row ab, g_up_row ac, g_up_row ba, g_up_row bc, g_up_row ca, g_up_row cb, g_up_row u1, g_up_row u3, g_up_row v1, g_up_row v3, g_up_row w1, g_up_row w3, g_up_r, r_up_at, r_up_ne, ne_eq, Int.reduceEq, not_false_eq_true, pn_grid, pn_add], by simp only [g_up_row d13, g_up_row d31, g_up_row d21, g_up_row d23, g_up_row a1, g_up_row a3, g_up_row b1, g_up_row b3, g_up_row c1, g_up_row c3, g_up_row ab, g_up_row ac, g_up_row ba, g_up_row bc, g_up_row ca, g_up_row cb, g_up_row u1, g_up_row u3, g_up_row v1, g_up_row v3, g_up_row w1, g_up_row w3, g_up_r, r_up_at, r_up_ne, ne_eq, Int.reduceEq, not_false_eq_true, pn_grid, pn_add], by simp only [g_up_row d13, g_up_row d31, g_up_row d21, g_up_row d23, g_up_row a1, g_up_row a3, g_up_row b1, g_up_row b3, g_up_row c1, g_up_row c3, g_up_row ab, g_up_row ac, g_up_row ba, g_up_row bc, g_up_row ca, g_up_row cb, g_up_row u1, g_up_row u3, g_up_row v1, g_up_row v3, g_up_row w1, g_up_row w3, g_up_r, r_up_at, r_up_ne, ne_eq, Int.reduceEq, not_false_eq_true, pn_grid, pn_add]⟩⟩)
  have f4 := t_num_b e4
  rw [show (4 : Int) + 1 = 5 from rfl]
  have v0 : ((g_up (g_up (g_up (g_up (g_up (g_up (g_up (g_up (g_up (g_up (g_up gi 1 3 (p + 1)) 1 3 q0) 3 0 x0) 1 3 q1) 3 1 x1) 1 3 q2) 3 2 x2) 1 3 q3) 3 3 x3) 1 3 q4) 3 4 x4)) 3 0 = x0 := by simp only [g_up_row d13, g_up_row d31, g_up_row d21, g_up_row d23, g_up_row a1, g_up_row a3, g_up_row b1, g_up_row b3, g_up_row c1, g_up_row c3, g_up_row ab, g_up_row ac, g_up_row ba, g_up_row bc, g_up_row ca, g_up_row cb, g_up_row u1, g_up_row u3, g_up_row v1, g_up_row v3, g_up_row w1, g_up_row w3, g_up_r, r_up_at, r_up_ne, ne_eq, Int.reduceEq, not_false_eq_true, pn_grid, pn_add]
  have v1' : ((g_up (g_up (g_up (g_up (g_up (g_up (g_up (g_up (g_up (g_up (g_up gi 1 3 (p + 1)) 1 3 q0) 3 0 x0) 1 3 q1) 3 1 x1) 1 3 q2) 3 2 x2) 1 3 q3) 3 3 x3) 1 3 q4) 3 4 x4)) 3 1 = x1 := by simp only [g_up_row d13, g_up_row d31, g_up_row d21, g_up_row d23, g_up_row a1, g_up_row a3, g_up_row b1, g_up_row b3, g_up_row c1, g_up_row c3, g_up_row ab, g_up_row ac, g_up_row ba, g_up_row bc, g_up_row ca, g_up_row cb, g_up_row u1, g_up_row u3, g_up_row v1, g_up_row v3, g_up_row w1, g_up_row w3, g_up_r, r_up_at, r_up_ne, ne_eq, Int.reduceEq, not_false_eq_true, pn_grid, pn_add]
  have v2 : ((g_up (g_up (g_up (g_up (g_up (g_up (g_up (g_up (g_up (g_up (g_up gi 1 3 (p + 1)) 1 3 q0) 3 0 x0) 1 3 q1) 3 1 x1) 1 3 q2) 3 2 x2) 1 3 q3) 3 3 x3) 1 3 q4) 3 4 x4)) 3 2 = x2 := by simp only [g_up_row d13, g_up_row d31, g_up_row d21, g_up_row d23, g_up_row a1, g_up_row a3, g_up_row b1, g_up_row b3, g_up_row c1, g_up_row c3, g_up_row ab, g_up_row ac, g_up_row ba, g_up_row bc, g_up_row ca, g_up_row cb, g_up_row u1, g_up_row u3, g_up_row v1, g_up_row v3, g_up_row w1, g_up_row w3, g_up_r, r_up_at, r_up_ne, ne_eq, Int.reduceEq, not_false_eq_true, pn_grid, pn_add]
  have v3' : ((g_up (g_up (g_up (g_up (g_up (g_up (g_up (g_up (g_up (g_up (g_up gi 1 3 (p + 1)) 1 3 q0) 3 0 x0) 1 3 q1) 3 1 x1) 1 3 q2) 3 2 x2) 1 3 q3) 3 3 x3) 1 3 q4) 3 4 x4)) 3 3 = x3 := by simp only [g_up_row d13, g_up_row d31, g_up_row d21, g_up_row d23, g_up_row a1, g_up_row a3, g_up_row b1, g_up_row b3, g_up_row c1, g_up_row c3, g_up_row ab, g_up_row ac, g_up_row ba, g_up_row bc, g_up_row ca, g_up_row cb, g_up_row u1, g_up_row u3, g_up_row v1, g_up_row v3, g_up_row w1, g_up_row w3, g_up_r, r_up_at, r_up_ne, ne_eq, Int.reduceEq, not_false_eq_true, pn_grid, pn_add]
  have v4 : ((g_up (g_up (g_up (g_up (g_up (g_up (g_up (g_up (g_up (g_up (g_up gi 1 3 (p + 1)) 1 3 q0) 3 0 x0) 1 3 q1) 3 1 x1) 1 3 q2) 3 2 x2) 1 3 q3) 3 3 x3) 1 3 q4) 3 4 x4)) 3 4 = x4 := by simp only [g_up_row d13, g_up_row d31, g_up_row d21, g_up_row d23, g_up_row a1, g_up_row a3, g_up_row b1, g_up_row b3, g_up_row c1, g_up_row c3, g_up_row ab, g_up_row ac, g_up_row ba, g_up_row bc, g_up_row ca, g_up_row cb, g_up_row u1, g_up_row u3, g_up_row v1, g_up_row v3, g_up_row w1, g_up_row w3, g_up_r, r_up_at, r_up_ne, ne_eq, Int.reduceEq, not_false_eq_true, pn_grid, pn_add]
  by_cases hg : pn_gok x0 x1 x2 x3 x4
  · refine l_itemEnd hV hP 103 5 1 (by decide) (c_takeItem_103 hP0 k2 l2 1 (Or.inr rfl) (c_takeGrid1 hP0 k2 l2 (by omega) (by rw [v0, v1', v2, v3', v4]; exact hg))) (Or.inr rfl) ?_
    rw [v0, v1', v2, v3', v4]
    refine ⟨rfl, rfl, fun b z1 z3 za zb zc => by simp only [g_up_row z1, g_up_row z3, g_up_row za, g_up_row zb, g_up_row zc, pn_grid, pn_add], by simp only [g_up_row d13, g_up_row d31, g_up_row d21, g_up_row d23, g_up_row a1, g_up_row a3, g_up_row b1, g_up_row b3, g_up_row c1, g_up_row c3, g_up_row ab, g_up_row ac, g_up_row ba, g_up_row bc, g_up_row ca, g_up_row cb, g_up_row u1, g_up_row u3, g_up_row v1, g_up_row v3, g_up_row w1, g_up_row w3, g_up_r, r_up_at, r_up_ne, ne_eq, Int.reduceEq, not_false_eq_true, pn_grid, pn_add], Or.inr ⟨q4, _, _, _, ?_, rfl, by simp only [g_up_row d13, g_up_row d31, g_up_row d21, g_up_row d23, g_up_row a1, g_up_row a3, g_up_row b1, g_up_row b3, g_up_row c1, g_up_row c3, g_up_row ab, g_up_row ac, g_up_row ba, g_up_row bc, g_up_row ca, g_up_row cb, g_up_row u1, g_up_row u3, g_up_row v1, g_up_row v3, g_up_row w1, g_up_row w3, g_up_r, r_up_at, r_up_ne, ne_eq, Int.reduceEq, not_false_eq_true, pn_grid, pn_add], rfl, rfl, rfl⟩⟩
    have hg2 : (4 ≤ x0 ∧ x0 ≤ 16) ∧ (1 ≤ x1 ∧ x0 % x1 = 0) ∧ (0 ≤ x2 ∧ x2 ≤ 20) ∧ (0 ≤ x3 ∧ x3 ≤ 5) ∧ (0 ≤ x4 ∧ x4 ≤ 5) := hg
    simp only [t_item, hL, e0, e1, e2, e3, e4, if_true, Option.bind_some]
    rw [if_pos hg2]
    simp only [g_up_row d13, g_up_row d31, g_up_row d21, g_up_row d23, g_up_row a1, g_up_row a3, g_up_row b1, g_up_row b3, g_up_row c1, g_up_row c3, g_up_row ab, g_up_row ac, g_up_row ba, g_up_row bc, g_up_row ca, g_up_row cb, g_up_row u1, g_up_row u3, g_up_row v1, g_up_row v3, g_up_row w1, g_up_row w3, g_up_r, r_up_at, r_up_ne, ne_eq, Int.reduceEq, not_false_eq_true, pn_grid, pn_add]
  · refine l_itemEnd hV hP 103 5 0 (by decide) (c_takeItem_103 hP0 k2 l2 0 (Or.inl rfl) (c_takeGrid0 hP0 k2 l2 (by rw [v0]; omega) (by rw [v0, v1', v2, v3', v4]; exact hg))) (Or.inl rfl) ?_
    refine ⟨rfl, rfl, fun b z1 z3 za zb zc => by simp only [g_up_row z1, g_up_row z3, g_up_row za, g_up_row zb, g_up_row zc, pn_grid, pn_add], by simp only [g_up_row d13, g_up_row d31, g_up_row d21, g_up_row d23, g_up_row a1, g_up_row a3, g_up_row b1, g_up_row b3, g_up_row c1, g_up_row c3, g_up_row ab, g_up_row ac, g_up_row ba, g_up_row bc, g_up_row ca, g_up_row cb, g_up_row u1, g_up_row u3, g_up_row v1, g_up_row v3, g_up_row w1, g_up_row w3, g_up_r, r_up_at, r_up_ne, ne_eq, Int.reduceEq, not_false_eq_true, pn_grid, pn_add], Or.inl ⟨?_, rfl, by simp only [g_up_row d13, g_up_row d31, g_up_row d21, g_up_row d23, g_up_row a1, g_up_row a3, g_up_row b1, g_up_row b3, g_up_row c1, g_up_row c3, g_up_row ab, g_up_row ac, g_up_row ba, g_up_row bc, g_up_row ca, g_up_row cb, g_up_row u1, g_up_row u3, g_up_row v1, g_up_row v3, g_up_row w1, g_up_row w3, g_up_r, r_up_at, r_up_ne, ne_eq, Int.reduceEq, not_false_eq_true, pn_grid, pn_add], by simp only [g_up_row d13, g_up_row d31, g_up_row d21, g_up_row d23, g_up_row a1, g_up_row a3, g_up_row b1, g_up_row b3, g_up_row c1, g_up_row c3, g_up_row ab, g_up_row ac, g_up_row ba, g_up_row bc, g_up_row ca, g_up_row cb, g_up_row u1, g_up_row u3, g_up_row v1, g_up_row v3, g_up_row w1, g_up_row w3, g_up_r, r_up_at, r_up_ne, ne_eq, Int.reduceEq, not_false_eq_true, pn_grid, pn_add], by simp only [g_up_row d13, g_up_row d31, g_up_row d21, g_up_row d23, g_up_row a1, g_up_row a3, g_up_row b1, g_up_row b3, g_up_row c1, g_up_row c3, g_up_row ab, g_up_row ac, g_up_row ba, g_up_row bc, g_up_row ca, g_up_row cb, g_up_row u1, g_up_row u3, g_up_row v1, g_up_row v3, g_up_row w1, g_up_row w3, g_up_r, r_up_at, r_up_ne, ne_eq, Int.reduceEq, not_false_eq_true, pn_grid, pn_add]⟩⟩
    have hg2 : ¬ ((4 ≤ x0 ∧ x0 ≤ 16) ∧ (1 ≤ x1 ∧ x0 % x1 = 0) ∧ (0 ≤ x2 ∧ x2 ≤ 20) ∧ (0 ≤ x3 ∧ x3 ≤ 5) ∧ (0 ≤ x4 ∧ x4 ≤ 5)) := hg
    simp only [t_item, hL, e0, e1, e2, e3, e4, if_true, Option.bind_some]
    exact if_neg hg2
set_option maxRecDepth 20000 in
set_option maxHeartbeats 2000000 in
theorem l_item114 (hV : isText sh) (tx : gRw) (n p : Int) (hx : gi 2 = tx) (hn : gi 1 2 = n) (hp : gi 1 3 = p) (hp0 : 0 ≤ p ∧ p ≤ 500) (hn2 : n ≤ 200) (ht : t_tx tx n) (hP : isPlan sh a) (ha : 100 ≤ a) (hr : 0 ≤ gi a 2) (hL : t_at tx n p = 114) : Go mdX5_readItem 0 0 29 [some (vR 1), some (vR a), some (vI 114), some (vI 2), some (vI 0)] [] (g_up gi 1 3 (p + 1)) gl sh (t_rI tx n p gi gl sh a) := by
  obtain ⟨k0, r0, r1, k1, l1, k2, l2⟩ := id hV
  have d13 : (1 : Int) ≠ 3 := by decide
  have d31 : (3 : Int) ≠ 1 := by decide
  have d21 : (2 : Int) ≠ 1 := by decide
  have d23 : (2 : Int) ≠ 3 := by decide
  have a1 : a ≠ 1 := by omega
  have a3 : a ≠ 3 := by omega
  have b1 : a + 1 ≠ 1 := by omega
  have b3 : a + 1 ≠ 3 := by omega
  have c1 : a + 2 ≠ 1 := by omega
  have c3 : a + 2 ≠ 3 := by omega
  have ab : a ≠ a + 1 := by omega
  have ac : a ≠ a + 2 := by omega
  have ba : a + 1 ≠ a := by omega
  have bc : a + 1 ≠ a + 2 := by omega
  have ca : a + 2 ≠ a := by omega
  have cb : a + 2 ≠ a + 1 := by omega
  have u1 : (1 : Int) ≠ a := by omega
  have u3 : (3 : Int) ≠ a := by omega
  have v1 : (1 : Int) ≠ a + 1 := by omega
  have v3 : (3 : Int) ≠ a + 1 := by omega
  have w1 : (1 : Int) ≠ a + 2 := by omega
  have w3 : (3 : Int) ≠ a + 2 := by omega
  have hP0 := hP.1
  refine l_item_44 (gi := (g_up gi 1 3 (p + 1))) hV tx n (p + 1) (by simp only [g_up_row d13, g_up_row d31, g_up_row d21, g_up_row d23, g_up_row a1, g_up_row a3, g_up_row b1, g_up_row b3, g_up_row c1, g_up_row c3, g_up_row ab, g_up_row ac, g_up_row ba, g_up_row bc, g_up_row ca, g_up_row cb, g_up_row u1, g_up_row u3, g_up_row v1, g_up_row v3, g_up_row w1, g_up_row w3, g_up_r, r_up_at, r_up_ne, ne_eq, Int.reduceEq, not_false_eq_true, pn_grid, pn_add]; exact hx) (by simp only [g_up_row d13, g_up_row d31, g_up_row d21, g_up_row d23, g_up_row a1, g_up_row a3, g_up_row b1, g_up_row b3, g_up_row c1, g_up_row c3, g_up_row ab, g_up_row ac, g_up_row ba, g_up_row bc, g_up_row ca, g_up_row cb, g_up_row u1, g_up_row u3, g_up_row v1, g_up_row v3, g_up_row w1, g_up_row w3, g_up_r, r_up_at, r_up_ne, ne_eq, Int.reduceEq, not_false_eq_true, pn_grid, pn_add]; exact hn) (by simp only [g_up_row d13, g_up_row d31, g_up_row d21, g_up_row d23, g_up_row a1, g_up_row a3, g_up_row b1, g_up_row b3, g_up_row c1, g_up_row c3, g_up_row ab, g_up_row ac, g_up_row ba, g_up_row bc, g_up_row ca, g_up_row cb, g_up_row u1, g_up_row u3, g_up_row v1, g_up_row v3, g_up_row w1, g_up_row w3, g_up_r, r_up_at, r_up_ne, ne_eq, Int.reduceEq, not_false_eq_true, pn_grid, pn_add]) (by omega) hn2 ht 114 2 0 (by omega) (by decide) (fun x0 q0 e0 => ?_) (fun hno q => ⟨rfl, rfl, fun b z1 z3 za zb zc => by simp only [g_up_row z1, g_up_row z3, g_up_row za, g_up_row zb, g_up_row zc, pn_grid, pn_add], by simp only [g_up_row d13, g_up_row d31, g_up_row d21, g_up_row d23, g_up_row a1, g_up_row a3, g_up_row b1, g_up_row b3, g_up_row c1, g_up_row c3, g_up_row ab, g_up_row ac, g_up_row ba, g_up_row bc, g_up_row ca, g_up_row cb, g_up_row u1, g_up_row u3, g_up_row v1, g_up_row v3, g_up_row w1, g_up_row w3, g_up_r, r_up_at, r_up_ne, ne_eq, Int.reduceEq, not_false_eq_true, pn_grid, pn_add], Or.inl ⟨by simp [t_item, hL, hno], rfl, by simp only [g_up_row d13, g_up_row d31, g_up_row d21, g_up_row d23, g_up_row a1, g_up_row a3, g_up_row b1, g_up_row b3, g_up_row c1, g_up_row c3, g_up_row ab, g_up_row ac, g_up_row ba, g_up_row bc, g_up_row ca, g_up_row cb, g_up_row u1, g_up_row u3, g_up_row v1, g_up_row v3, g_up_row w1, g_up_row w3, g_up_r, r_up_at, r_up_ne, ne_eq, Int.reduceEq, not_false_eq_true, pn_grid, pn_add], by simp only [g_up_row d13, g_up_row d31, g_up_row d21, g_up_row d23, g_up_row a1, g_up_row a3, g_up_row b1, g_up_row b3, g_up_row c1, g_up_row c3, g_up_row ab, g_up_row ac, g_up_row ba, g_up_row bc, g_up_row ca, g_up_row cb, g_up_row u1, g_up_row u3, g_up_row v1, g_up_row v3, g_up_row w1, g_up_row w3, g_up_r, r_up_at, r_up_ne, ne_eq, Int.reduceEq, not_false_eq_true, pn_grid, pn_add], by simp only [g_up_row d13, g_up_row d31, g_up_row d21, g_up_row d23, g_up_row a1, g_up_row a3, g_up_row b1, g_up_row b3, g_up_row c1, g_up_row c3, g_up_row ab, g_up_row ac, g_up_row ba, g_up_row bc, g_up_row ca, g_up_row cb, g_up_row u1, g_up_row u3, g_up_row v1, g_up_row v3, g_up_row w1, g_up_row w3, g_up_r, r_up_at, r_up_ne, ne_eq, Int.reduceEq, not_false_eq_true, pn_grid, pn_add]⟩⟩)
  have f0 := t_num_b e0
  rw [show (0 : Int) + 1 = 1 from rfl]
  refine l_item_59 (gi := (g_up (g_up (g_up gi 1 3 (p + 1)) 1 3 q0) 3 0 x0)) hV tx n q0 (by simp only [g_up_row d13, g_up_row d31, g_up_row d21, g_up_row d23, g_up_row a1, g_up_row a3, g_up_row b1, g_up_row b3, g_up_row c1, g_up_row c3, g_up_row ab, g_up_row ac, g_up_row ba, g_up_row bc, g_up_row ca, g_up_row cb, g_up_row u1, g_up_row u3, g_up_row v1, g_up_row v3, g_up_row w1, g_up_row w3, g_up_r, r_up_at, r_up_ne, ne_eq, Int.reduceEq, not_false_eq_true, pn_grid, pn_add]; exact hx) (by simp only [g_up_row d13, g_up_row d31, g_up_row d21, g_up_row d23, g_up_row a1, g_up_row a3, g_up_row b1, g_up_row b3, g_up_row c1, g_up_row c3, g_up_row ab, g_up_row ac, g_up_row ba, g_up_row bc, g_up_row ca, g_up_row cb, g_up_row u1, g_up_row u3, g_up_row v1, g_up_row v3, g_up_row w1, g_up_row w3, g_up_r, r_up_at, r_up_ne, ne_eq, Int.reduceEq, not_false_eq_true, pn_grid, pn_add]; exact hn) (by simp only [g_up_row d13, g_up_row d31, g_up_row d21, g_up_row d23, g_up_row a1, g_up_row a3, g_up_row b1, g_up_row b3, g_up_row c1, g_up_row c3, g_up_row ab, g_up_row ac, g_up_row ba, g_up_row bc, g_up_row ca, g_up_row cb, g_up_row u1, g_up_row u3, g_up_row v1, g_up_row v3, g_up_row w1, g_up_row w3, g_up_r, r_up_at, r_up_ne, ne_eq, Int.reduceEq, not_false_eq_true, pn_grid, pn_add]) (by omega) hn2 ht 114 2 1 (by omega) (by decide) (fun x1 q1 e1 => ?_) (fun hno q => ⟨rfl, rfl, fun b z1 z3 za zb zc => by simp only [g_up_row z1, g_up_row z3, g_up_row za, g_up_row zb, g_up_row zc, pn_grid, pn_add], by simp only [g_up_row d13, g_up_row d31, g_up_row d21, g_up_row d23, g_up_row a1, g_up_row a3, g_up_row b1, g_up_row b3, g_up_row c1, g_up_row c3, g_up_row ab, g_up_row ac, g_up_row ba, g_up_row bc, g_up_row ca, g_up_row cb, g_up_row u1, g_up_row u3, g_up_row v1, g_up_row v3, g_up_row w1, g_up_row w3, g_up_r, r_up_at, r_up_ne, ne_eq, Int.reduceEq, not_false_eq_true, pn_grid, pn_add], Or.inl ⟨by simp [t_item, hL, e0, hno], rfl, by simp only [g_up_row d13, g_up_row d31, g_up_row d21, g_up_row d23, g_up_row a1, g_up_row a3, g_up_row b1, g_up_row b3, g_up_row c1, g_up_row c3, g_up_row ab, g_up_row ac, g_up_row ba, g_up_row bc, g_up_row ca, g_up_row cb, g_up_row u1, g_up_row u3, g_up_row v1, g_up_row v3, g_up_row w1, g_up_row w3, g_up_r, r_up_at, r_up_ne, ne_eq, Int.reduceEq, not_false_eq_true, pn_grid, pn_add], by simp only [g_up_row d13, g_up_row d31, g_up_row d21, g_up_row d23, g_up_row a1, g_up_row a3, g_up_row b1, g_up_row b3, g_up_row c1, g_up_row c3, g_up_row ab, g_up_row ac, g_up_row ba, g_up_row bc, g_up_row ca, g_up_row cb, g_up_row u1, g_up_row u3, g_up_row v1, g_up_row v3, g_up_row w1, g_up_row w3, g_up_r, r_up_at, r_up_ne, ne_eq, Int.reduceEq, not_false_eq_true, pn_grid, pn_add], by simp only [g_up_row d13, g_up_row d31, g_up_row d21, g_up_row d23, g_up_row a1, g_up_row a3, g_up_row b1, g_up_row b3, g_up_row c1, g_up_row c3, g_up_row ab, g_up_row ac, g_up_row ba, g_up_row bc, g_up_row ca, g_up_row cb, g_up_row u1, g_up_row u3, g_up_row v1, g_up_row v3, g_up_row w1, g_up_row w3, g_up_r, r_up_at, r_up_ne, ne_eq, Int.reduceEq, not_false_eq_true, pn_grid, pn_add]⟩⟩)
  have f1 := t_num_b e1
  rw [show (1 : Int) + 1 = 2 from rfl]
  have v0 : ((g_up (g_up (g_up (g_up (g_up gi 1 3 (p + 1)) 1 3 q0) 3 0 x0) 1 3 q1) 3 1 x1)) 3 0 = x0 := by simp only [g_up_row d13, g_up_row d31, g_up_row d21, g_up_row d23, g_up_row a1, g_up_row a3, g_up_row b1, g_up_row b3, g_up_row c1, g_up_row c3, g_up_row ab, g_up_row ac, g_up_row ba, g_up_row bc, g_up_row ca, g_up_row cb, g_up_row u1, g_up_row u3, g_up_row v1, g_up_row v3, g_up_row w1, g_up_row w3, g_up_r, r_up_at, r_up_ne, ne_eq, Int.reduceEq, not_false_eq_true, pn_grid, pn_add]
  have v1' : ((g_up (g_up (g_up (g_up (g_up gi 1 3 (p + 1)) 1 3 q0) 3 0 x0) 1 3 q1) 3 1 x1)) 3 1 = x1 := by simp only [g_up_row d13, g_up_row d31, g_up_row d21, g_up_row d23, g_up_row a1, g_up_row a3, g_up_row b1, g_up_row b3, g_up_row c1, g_up_row c3, g_up_row ab, g_up_row ac, g_up_row ba, g_up_row bc, g_up_row ca, g_up_row cb, g_up_row u1, g_up_row u3, g_up_row v1, g_up_row v3, g_up_row w1, g_up_row w3, g_up_r, r_up_at, r_up_ne, ne_eq, Int.reduceEq, not_false_eq_true, pn_grid, pn_add]
  have va : ((g_up (g_up (g_up (g_up (g_up gi 1 3 (p + 1)) 1 3 q0) 3 0 x0) 1 3 q1) 3 1 x1)) a = gi a := by simp only [g_up_row d13, g_up_row d31, g_up_row d21, g_up_row d23, g_up_row a1, g_up_row a3, g_up_row b1, g_up_row b3, g_up_row c1, g_up_row c3, g_up_row ab, g_up_row ac, g_up_row ba, g_up_row bc, g_up_row ca, g_up_row cb, g_up_row u1, g_up_row u3, g_up_row v1, g_up_row v3, g_up_row w1, g_up_row w3, g_up_r, r_up_at, r_up_ne, ne_eq, Int.reduceEq, not_false_eq_true, pn_grid, pn_add]
  by_cases hg : gi a 2 < 4 ∧ (0 ≤ x0 ∧ x0 ≤ 3) ∧ (1 ≤ x1 ∧ x1 ≤ 99)
  · refine l_itemEnd hV hP 114 2 1 (by decide) (c_takeItem_114 hP0 k2 l2 1 (Or.inr rfl) (c_addRule1 hP _ _ (by rw [va]; omega) (by rw [v0]; omega) (by rw [v1']; omega))) (Or.inr rfl) ?_
    rw [v0, v1']
    refine ⟨rfl, rfl, fun b z1 z3 za zb zc => by simp only [g_up_row z1, g_up_row z3, g_up_row za, g_up_row zb, g_up_row zc, pn_grid, pn_add], by simp only [g_up_row d13, g_up_row d31, g_up_row d21, g_up_row d23, g_up_row a1, g_up_row a3, g_up_row b1, g_up_row b3, g_up_row c1, g_up_row c3, g_up_row ab, g_up_row ac, g_up_row ba, g_up_row bc, g_up_row ca, g_up_row cb, g_up_row u1, g_up_row u3, g_up_row v1, g_up_row v3, g_up_row w1, g_up_row w3, g_up_r, r_up_at, r_up_ne, ne_eq, Int.reduceEq, not_false_eq_true, pn_grid, pn_add], Or.inr ⟨q1, _, _, _, ?_, rfl, by simp only [g_up_row d13, g_up_row d31, g_up_row d21, g_up_row d23, g_up_row a1, g_up_row a3, g_up_row b1, g_up_row b3, g_up_row c1, g_up_row c3, g_up_row ab, g_up_row ac, g_up_row ba, g_up_row bc, g_up_row ca, g_up_row cb, g_up_row u1, g_up_row u3, g_up_row v1, g_up_row v3, g_up_row w1, g_up_row w3, g_up_r, r_up_at, r_up_ne, ne_eq, Int.reduceEq, not_false_eq_true, pn_grid, pn_add], rfl, rfl, rfl⟩⟩
    simp only [t_item, hL, e0, e1, Int.reduceEq, if_true, if_false, Option.bind_some]
    rw [if_pos hg]
    simp only [g_up_row d13, g_up_row d31, g_up_row d21, g_up_row d23, g_up_row a1, g_up_row a3, g_up_row b1, g_up_row b3, g_up_row c1, g_up_row c3, g_up_row ab, g_up_row ac, g_up_row ba, g_up_row bc, g_up_row ca, g_up_row cb, g_up_row u1, g_up_row u3, g_up_row v1, g_up_row v3, g_up_row w1, g_up_row w3, g_up_r, r_up_at, r_up_ne, ne_eq, Int.reduceEq, not_false_eq_true, pn_grid, pn_add]
  · refine l_itemEnd hV hP 114 2 0 (by decide) (c_takeItem_114 hP0 k2 l2 0 (Or.inl rfl) (c_addRule0 _ _ hP0 (by rw [v0, v1', va]; exact hg))) (Or.inl rfl) ?_
    refine ⟨rfl, rfl, fun b z1 z3 za zb zc => by simp only [g_up_row z1, g_up_row z3, g_up_row za, g_up_row zb, g_up_row zc, pn_grid, pn_add], by simp only [g_up_row d13, g_up_row d31, g_up_row d21, g_up_row d23, g_up_row a1, g_up_row a3, g_up_row b1, g_up_row b3, g_up_row c1, g_up_row c3, g_up_row ab, g_up_row ac, g_up_row ba, g_up_row bc, g_up_row ca, g_up_row cb, g_up_row u1, g_up_row u3, g_up_row v1, g_up_row v3, g_up_row w1, g_up_row w3, g_up_r, r_up_at, r_up_ne, ne_eq, Int.reduceEq, not_false_eq_true, pn_grid, pn_add], Or.inl ⟨?_, rfl, by simp only [g_up_row d13, g_up_row d31, g_up_row d21, g_up_row d23, g_up_row a1, g_up_row a3, g_up_row b1, g_up_row b3, g_up_row c1, g_up_row c3, g_up_row ab, g_up_row ac, g_up_row ba, g_up_row bc, g_up_row ca, g_up_row cb, g_up_row u1, g_up_row u3, g_up_row v1, g_up_row v3, g_up_row w1, g_up_row w3, g_up_r, r_up_at, r_up_ne, ne_eq, Int.reduceEq, not_false_eq_true, pn_grid, pn_add], by simp only [g_up_row d13, g_up_row d31, g_up_row d21, g_up_row d23, g_up_row a1, g_up_row a3, g_up_row b1, g_up_row b3, g_up_row c1, g_up_row c3, g_up_row ab, g_up_row ac, g_up_row ba, g_up_row bc, g_up_row ca, g_up_row cb, g_up_row u1, g_up_row u3, g_up_row v1, g_up_row v3, g_up_row w1, g_up_row w3, g_up_r, r_up_at, r_up_ne, ne_eq, Int.reduceEq, not_false_eq_true, pn_grid, pn_add], by simp only [g_up_row d13, g_up_row d31, g_up_row d21, g_up_row d23, g_up_row a1, g_up_row a3, g_up_row b1, g_up_row b3, g_up_row c1, g_up_row c3, g_up_row ab, g_up_row ac, g_up_row ba, g_up_row bc, g_up_row ca, g_up_row cb, g_up_row u1, g_up_row u3, g_up_row v1, g_up_row v3, g_up_row w1, g_up_row w3, g_up_r, r_up_at, r_up_ne, ne_eq, Int.reduceEq, not_false_eq_true, pn_grid, pn_add]⟩⟩
    simp only [t_item, hL, e0, e1, Int.reduceEq, if_true, if_false, Option.bind_some]
    exact if_neg hg
set_option maxRecDepth 20000 in
set_option maxHeartbeats 2000000 in
theorem l_item100 (hV : isText sh) (tx : gRw) (n p : Int) (hx : gi 2 = tx) (hn : gi 1 2 = n) (hp : gi 1 3 = p) (hp0 : 0 ≤ p ∧ p ≤ 500) (hn2 : n ≤ 200) (ht : t_tx tx n) (hP : isPlan sh a) (ha : 100 ≤ a) (hr : 0 ≤ gi a 2) (hL : t_at tx n p = 100) : Go mdX5_readItem 0 0 29 [some (vR 1), some (vR a), some (vI 100), some (vI 1), some (vI 0)] [] (g_up gi 1 3 (p + 1)) gl sh (t_rI tx n p gi gl sh a) := by
  obtain ⟨k0, r0, r1, k1, l1, k2, l2⟩ := id hV
  have d13 : (1 : Int) ≠ 3 := by decide
  have d31 : (3 : Int) ≠ 1 := by decide
  have d21 : (2 : Int) ≠ 1 := by decide
  have d23 : (2 : Int) ≠ 3 := by decide
  have a1 : a ≠ 1 := by omega
  have a3 : a ≠ 3 := by omega
  have b1 : a + 1 ≠ 1 := by omega
  have b3 : a + 1 ≠ 3 := by omega
  have c1 : a + 2 ≠ 1 := by omega
  have c3 : a + 2 ≠ 3 := by omega
  have ab : a ≠ a + 1 := by omega
  have ac : a ≠ a + 2 := by omega
  have ba : a + 1 ≠ a := by omega
  have bc : a + 1 ≠ a + 2 := by omega
  have ca : a + 2 ≠ a := by omega
  have cb : a + 2 ≠ a + 1 := by omega
  have u1 : (1 : Int) ≠ a := by omega
  have u3 : (3 : Int) ≠ a := by omega
  have v1 : (1 : Int) ≠ a + 1 := by omega
  have v3 : (3 : Int) ≠ a + 1 := by omega
  have w1 : (1 : Int) ≠ a + 2 := by omega
  have w3 : (3 : Int) ≠ a + 2 := by omega
  have hP0 := hP.1
  refine l_item_59 (gi := (g_up gi 1 3 (p + 1))) hV tx n (p + 1) (by simp only [g_up_row d13, g_up_row d31, g_up_row d21, g_up_row d23, g_up_row a1, g_up_row a3, g_up_row b1, g_up_row b3, g_up_row c1, g_up_row c3, g_up_row ab, g_up_row ac, g_up_row ba, g_up_row bc, g_up_row ca, g_up_row cb, g_up_row u1, g_up_row u3, g_up_row v1, g_up_row v3, g_up_row w1, g_up_row w3, g_up_r, r_up_at, r_up_ne, ne_eq, Int.reduceEq, not_false_eq_true, pn_grid, pn_add]; exact hx) (by simp only [g_up_row d13, g_up_row d31, g_up_row d21, g_up_row d23, g_up_row a1, g_up_row a3, g_up_row b1, g_up_row b3, g_up_row c1, g_up_row c3, g_up_row ab, g_up_row ac, g_up_row ba, g_up_row bc, g_up_row ca, g_up_row cb, g_up_row u1, g_up_row u3, g_up_row v1, g_up_row v3, g_up_row w1, g_up_row w3, g_up_r, r_up_at, r_up_ne, ne_eq, Int.reduceEq, not_false_eq_true, pn_grid, pn_add]; exact hn) (by simp only [g_up_row d13, g_up_row d31, g_up_row d21, g_up_row d23, g_up_row a1, g_up_row a3, g_up_row b1, g_up_row b3, g_up_row c1, g_up_row c3, g_up_row ab, g_up_row ac, g_up_row ba, g_up_row bc, g_up_row ca, g_up_row cb, g_up_row u1, g_up_row u3, g_up_row v1, g_up_row v3, g_up_row w1, g_up_row w3, g_up_r, r_up_at, r_up_ne, ne_eq, Int.reduceEq, not_false_eq_true, pn_grid, pn_add]) (by omega) hn2 ht 100 1 0 (by omega) (by decide) (fun x0 q0 e0 => ?_) (fun hno q => ⟨rfl, rfl, fun b z1 z3 za zb zc => by simp only [g_up_row z1, g_up_row z3, g_up_row za, g_up_row zb, g_up_row zc, pn_grid, pn_add], by simp only [g_up_row d13, g_up_row d31, g_up_row d21, g_up_row d23, g_up_row a1, g_up_row a3, g_up_row b1, g_up_row b3, g_up_row c1, g_up_row c3, g_up_row ab, g_up_row ac, g_up_row ba, g_up_row bc, g_up_row ca, g_up_row cb, g_up_row u1, g_up_row u3, g_up_row v1, g_up_row v3, g_up_row w1, g_up_row w3, g_up_r, r_up_at, r_up_ne, ne_eq, Int.reduceEq, not_false_eq_true, pn_grid, pn_add], Or.inl ⟨by simp [t_item, hL, hno], rfl, by simp only [g_up_row d13, g_up_row d31, g_up_row d21, g_up_row d23, g_up_row a1, g_up_row a3, g_up_row b1, g_up_row b3, g_up_row c1, g_up_row c3, g_up_row ab, g_up_row ac, g_up_row ba, g_up_row bc, g_up_row ca, g_up_row cb, g_up_row u1, g_up_row u3, g_up_row v1, g_up_row v3, g_up_row w1, g_up_row w3, g_up_r, r_up_at, r_up_ne, ne_eq, Int.reduceEq, not_false_eq_true, pn_grid, pn_add], by simp only [g_up_row d13, g_up_row d31, g_up_row d21, g_up_row d23, g_up_row a1, g_up_row a3, g_up_row b1, g_up_row b3, g_up_row c1, g_up_row c3, g_up_row ab, g_up_row ac, g_up_row ba, g_up_row bc, g_up_row ca, g_up_row cb, g_up_row u1, g_up_row u3, g_up_row v1, g_up_row v3, g_up_row w1, g_up_row w3, g_up_r, r_up_at, r_up_ne, ne_eq, Int.reduceEq, not_false_eq_true, pn_grid, pn_add], by simp only [g_up_row d13, g_up_row d31, g_up_row d21, g_up_row d23, g_up_row a1, g_up_row a3, g_up_row b1, g_up_row b3, g_up_row c1, g_up_row c3, g_up_row ab, g_up_row ac, g_up_row ba, g_up_row bc, g_up_row ca, g_up_row cb, g_up_row u1, g_up_row u3, g_up_row v1, g_up_row v3, g_up_row w1, g_up_row w3, g_up_r, r_up_at, r_up_ne, ne_eq, Int.reduceEq, not_false_eq_true, pn_grid, pn_add]⟩⟩)
  have f0 := t_num_b e0
  rw [show (0 : Int) + 1 = 1 from rfl]
  have v0 : ((g_up (g_up (g_up gi 1 3 (p + 1)) 1 3 q0) 3 0 x0)) 3 0 = x0 := by simp only [g_up_row d13, g_up_row d31, g_up_row d21, g_up_row d23, g_up_row a1, g_up_row a3, g_up_row b1, g_up_row b3, g_up_row c1, g_up_row c3, g_up_row ab, g_up_row ac, g_up_row ba, g_up_row bc, g_up_row ca, g_up_row cb, g_up_row u1, g_up_row u3, g_up_row v1, g_up_row v3, g_up_row w1, g_up_row w3, g_up_r, r_up_at, r_up_ne, ne_eq, Int.reduceEq, not_false_eq_true, pn_grid, pn_add]
  by_cases hg : 1 ≤ x0 ∧ x0 ≤ 9
  · refine l_itemEnd hV hP 100 1 1 (by decide) (c_takeItem_100 hP0 k2 l2 1 (Or.inr rfl) (c_takeDark1 _ hP0 (by rw [v0]; exact hg))) (Or.inr rfl) ?_
    rw [v0]
    refine ⟨rfl, rfl, fun b z1 z3 za zb zc => by simp only [g_up_row z1, g_up_row z3, g_up_row za, g_up_row zb, g_up_row zc, pn_grid, pn_add], by simp only [g_up_row d13, g_up_row d31, g_up_row d21, g_up_row d23, g_up_row a1, g_up_row a3, g_up_row b1, g_up_row b3, g_up_row c1, g_up_row c3, g_up_row ab, g_up_row ac, g_up_row ba, g_up_row bc, g_up_row ca, g_up_row cb, g_up_row u1, g_up_row u3, g_up_row v1, g_up_row v3, g_up_row w1, g_up_row w3, g_up_r, r_up_at, r_up_ne, ne_eq, Int.reduceEq, not_false_eq_true, pn_grid, pn_add], Or.inr ⟨q0, _, _, _, ?_, rfl, by simp only [g_up_row d13, g_up_row d31, g_up_row d21, g_up_row d23, g_up_row a1, g_up_row a3, g_up_row b1, g_up_row b3, g_up_row c1, g_up_row c3, g_up_row ab, g_up_row ac, g_up_row ba, g_up_row bc, g_up_row ca, g_up_row cb, g_up_row u1, g_up_row u3, g_up_row v1, g_up_row v3, g_up_row w1, g_up_row w3, g_up_r, r_up_at, r_up_ne, ne_eq, Int.reduceEq, not_false_eq_true, pn_grid, pn_add], rfl, rfl, rfl⟩⟩
    simp only [t_item, hL, e0, Int.reduceEq, if_true, if_false, Option.bind_some]
    rw [if_pos hg]
    simp only [g_up_row d13, g_up_row d31, g_up_row d21, g_up_row d23, g_up_row a1, g_up_row a3, g_up_row b1, g_up_row b3, g_up_row c1, g_up_row c3, g_up_row ab, g_up_row ac, g_up_row ba, g_up_row bc, g_up_row ca, g_up_row cb, g_up_row u1, g_up_row u3, g_up_row v1, g_up_row v3, g_up_row w1, g_up_row w3, g_up_r, r_up_at, r_up_ne, ne_eq, Int.reduceEq, not_false_eq_true, pn_grid, pn_add]
  · refine l_itemEnd hV hP 100 1 0 (by decide) (c_takeItem_100 hP0 k2 l2 0 (Or.inl rfl) (c_takeDark0 _ hP0 (by rw [v0]; exact hg))) (Or.inl rfl) ?_
    refine ⟨rfl, rfl, fun b z1 z3 za zb zc => by simp only [g_up_row z1, g_up_row z3, g_up_row za, g_up_row zb, g_up_row zc, pn_grid, pn_add], by simp only [g_up_row d13, g_up_row d31, g_up_row d21, g_up_row d23, g_up_row a1, g_up_row a3, g_up_row b1, g_up_row b3, g_up_row c1, g_up_row c3, g_up_row ab, g_up_row ac, g_up_row ba, g_up_row bc, g_up_row ca, g_up_row cb, g_up_row u1, g_up_row u3, g_up_row v1, g_up_row v3, g_up_row w1, g_up_row w3, g_up_r, r_up_at, r_up_ne, ne_eq, Int.reduceEq, not_false_eq_true, pn_grid, pn_add], Or.inl ⟨?_, rfl, by simp only [g_up_row d13, g_up_row d31, g_up_row d21, g_up_row d23, g_up_row a1, g_up_row a3, g_up_row b1, g_up_row b3, g_up_row c1, g_up_row c3, g_up_row ab, g_up_row ac, g_up_row ba, g_up_row bc, g_up_row ca, g_up_row cb, g_up_row u1, g_up_row u3, g_up_row v1, g_up_row v3, g_up_row w1, g_up_row w3, g_up_r, r_up_at, r_up_ne, ne_eq, Int.reduceEq, not_false_eq_true, pn_grid, pn_add], by simp only [g_up_row d13, g_up_row d31, g_up_row d21, g_up_row d23, g_up_row a1, g_up_row a3, g_up_row b1, g_up_row b3, g_up_row c1, g_up_row c3, g_up_row ab, g_up_row ac, g_up_row ba, g_up_row bc, g_up_row ca, g_up_row cb, g_up_row u1, g_up_row u3, g_up_row v1, g_up_row v3, g_up_row w1, g_up_row w3, g_up_r, r_up_at, r_up_ne, ne_eq, Int.reduceEq, not_false_eq_true, pn_grid, pn_add], by simp only [g_up_row d13, g_up_row d31, g_up_row d21, g_up_row d23, g_up_row a1, g_up_row a3, g_up_row b1, g_up_row b3, g_up_row c1, g_up_row c3, g_up_row ab, g_up_row ac, g_up_row ba, g_up_row bc, g_up_row ca, g_up_row cb, g_up_row u1, g_up_row u3, g_up_row v1, g_up_row v3, g_up_row w1, g_up_row w3, g_up_r, r_up_at, r_up_ne, ne_eq, Int.reduceEq, not_false_eq_true, pn_grid, pn_add]⟩⟩
    simp only [t_item, hL, e0, Int.reduceEq, if_true, if_false, Option.bind_some]
    exact if_neg hg
set_option maxRecDepth 20000 in
set_option maxHeartbeats 2000000 in
theorem l_item113 (hV : isText sh) (tx : gRw) (n p : Int) (hx : gi 2 = tx) (hn : gi 1 2 = n) (hp : gi 1 3 = p) (hp0 : 0 ≤ p ∧ p ≤ 500) (hn2 : n ≤ 200) (ht : t_tx tx n) (hP : isPlan sh a) (ha : 100 ≤ a) (hr : 0 ≤ gi a 2) (hL : t_at tx n p = 113) : Go mdX5_readItem 0 0 29 [some (vR 1), some (vR a), some (vI 113), some (vI 1), some (vI 0)] [] (g_up gi 1 3 (p + 1)) gl sh (t_rI tx n p gi gl sh a) := by
  obtain ⟨k0, r0, r1, k1, l1, k2, l2⟩ := id hV
  have d13 : (1 : Int) ≠ 3 := by decide
  have d31 : (3 : Int) ≠ 1 := by decide
  have d21 : (2 : Int) ≠ 1 := by decide
  have d23 : (2 : Int) ≠ 3 := by decide
  have a1 : a ≠ 1 := by omega
  have a3 : a ≠ 3 := by omega
  have b1 : a + 1 ≠ 1 := by omega
  have b3 : a + 1 ≠ 3 := by omega
  have c1 : a + 2 ≠ 1 := by omega
  have c3 : a + 2 ≠ 3 := by omega
  have ab : a ≠ a + 1 := by omega
  have ac : a ≠ a + 2 := by omega
  have ba : a + 1 ≠ a := by omega
  have bc : a + 1 ≠ a + 2 := by omega
  have ca : a + 2 ≠ a := by omega
  have cb : a + 2 ≠ a + 1 := by omega
  have u1 : (1 : Int) ≠ a := by omega
  have u3 : (3 : Int) ≠ a := by omega
  have v1 : (1 : Int) ≠ a + 1 := by omega
  have v3 : (3 : Int) ≠ a + 1 := by omega
  have w1 : (1 : Int) ≠ a + 2 := by omega
  have w3 : (3 : Int) ≠ a + 2 := by omega
  have hP0 := hP.1
  refine l_item_59 (gi := (g_up gi 1 3 (p + 1))) hV tx n (p + 1) (by simp only [g_up_row d13, g_up_row d31, g_up_row d21, g_up_row d23, g_up_row a1, g_up_row a3, g_up_row b1, g_up_row b3, g_up_row c1, g_up_row c3, g_up_row ab, g_up_row ac, g_up_row ba, g_up_row bc, g_up_row ca, g_up_row cb, g_up_row u1, g_up_row u3, g_up_row v1, g_up_row v3, g_up_row w1, g_up_row w3, g_up_r, r_up_at, r_up_ne, ne_eq, Int.reduceEq, not_false_eq_true, pn_grid, pn_add]; exact hx) (by simp only [g_up_row d13, g_up_row d31, g_up_row d21, g_up_row d23, g_up_row a1, g_up_row a3, g_up_row b1, g_up_row b3, g_up_row c1, g_up_row c3, g_up_row ab, g_up_row ac, g_up_row ba, g_up_row bc, g_up_row ca, g_up_row cb, g_up_row u1, g_up_row u3, g_up_row v1, g_up_row v3, g_up_row w1, g_up_row w3, g_up_r, r_up_at, r_up_ne, ne_eq, Int.reduceEq, not_false_eq_true, pn_grid, pn_add]; exact hn) (by simp only [g_up_row d13, g_up_row d31, g_up_row d21, g_up_row d23, g_up_row a1, g_up_row a3, g_up_row b1, g_up_row b3, g_up_row c1, g_up_row c3, g_up_row ab, g_up_row ac, g_up_row ba, g_up_row bc, g_up_row ca, g_up_row cb, g_up_row u1, g_up_row u3, g_up_row v1, g_up_row v3, g_up_row w1, g_up_row w3, g_up_r, r_up_at, r_up_ne, ne_eq, Int.reduceEq, not_false_eq_true, pn_grid, pn_add]) (by omega) hn2 ht 113 1 0 (by omega) (by decide) (fun x0 q0 e0 => ?_) (fun hno q => ⟨rfl, rfl, fun b z1 z3 za zb zc => by simp only [g_up_row z1, g_up_row z3, g_up_row za, g_up_row zb, g_up_row zc, pn_grid, pn_add], by simp only [g_up_row d13, g_up_row d31, g_up_row d21, g_up_row d23, g_up_row a1, g_up_row a3, g_up_row b1, g_up_row b3, g_up_row c1, g_up_row c3, g_up_row ab, g_up_row ac, g_up_row ba, g_up_row bc, g_up_row ca, g_up_row cb, g_up_row u1, g_up_row u3, g_up_row v1, g_up_row v3, g_up_row w1, g_up_row w3, g_up_r, r_up_at, r_up_ne, ne_eq, Int.reduceEq, not_false_eq_true, pn_grid, pn_add], Or.inl ⟨by simp [t_item, hL, hno], rfl, by simp only [g_up_row d13, g_up_row d31, g_up_row d21, g_up_row d23, g_up_row a1, g_up_row a3, g_up_row b1, g_up_row b3, g_up_row c1, g_up_row c3, g_up_row ab, g_up_row ac, g_up_row ba, g_up_row bc, g_up_row ca, g_up_row cb, g_up_row u1, g_up_row u3, g_up_row v1, g_up_row v3, g_up_row w1, g_up_row w3, g_up_r, r_up_at, r_up_ne, ne_eq, Int.reduceEq, not_false_eq_true, pn_grid, pn_add], by simp only [g_up_row d13, g_up_row d31, g_up_row d21, g_up_row d23, g_up_row a1, g_up_row a3, g_up_row b1, g_up_row b3, g_up_row c1, g_up_row c3, g_up_row ab, g_up_row ac, g_up_row ba, g_up_row bc, g_up_row ca, g_up_row cb, g_up_row u1, g_up_row u3, g_up_row v1, g_up_row v3, g_up_row w1, g_up_row w3, g_up_r, r_up_at, r_up_ne, ne_eq, Int.reduceEq, not_false_eq_true, pn_grid, pn_add], by simp only [g_up_row d13, g_up_row d31, g_up_row d21, g_up_row d23, g_up_row a1, g_up_row a3, g_up_row b1, g_up_row b3, g_up_row c1, g_up_row c3, g_up_row ab, g_up_row ac, g_up_row ba, g_up_row bc, g_up_row ca, g_up_row cb, g_up_row u1, g_up_row u3, g_up_row v1, g_up_row v3, g_up_row w1, g_up_row w3, g_up_r, r_up_at, r_up_ne, ne_eq, Int.reduceEq, not_false_eq_true, pn_grid, pn_add]⟩⟩)
  have f0 := t_num_b e0
  rw [show (0 : Int) + 1 = 1 from rfl]
  have v0 : ((g_up (g_up (g_up gi 1 3 (p + 1)) 1 3 q0) 3 0 x0)) 3 0 = x0 := by simp only [g_up_row d13, g_up_row d31, g_up_row d21, g_up_row d23, g_up_row a1, g_up_row a3, g_up_row b1, g_up_row b3, g_up_row c1, g_up_row c3, g_up_row ab, g_up_row ac, g_up_row ba, g_up_row bc, g_up_row ca, g_up_row cb, g_up_row u1, g_up_row u3, g_up_row v1, g_up_row v3, g_up_row w1, g_up_row w3, g_up_r, r_up_at, r_up_ne, ne_eq, Int.reduceEq, not_false_eq_true, pn_grid, pn_add]
  by_cases hg : 0 ≤ x0 ∧ x0 ≤ 9
  · refine l_itemEnd hV hP 113 1 1 (by decide) (c_takeItem_113 hP0 k2 l2 1 (Or.inr rfl) (c_takeRest1 _ hP0 (by rw [v0]; exact hg))) (Or.inr rfl) ?_
    rw [v0]
    refine ⟨rfl, rfl, fun b z1 z3 za zb zc => by simp only [g_up_row z1, g_up_row z3, g_up_row za, g_up_row zb, g_up_row zc, pn_grid, pn_add], by simp only [g_up_row d13, g_up_row d31, g_up_row d21, g_up_row d23, g_up_row a1, g_up_row a3, g_up_row b1, g_up_row b3, g_up_row c1, g_up_row c3, g_up_row ab, g_up_row ac, g_up_row ba, g_up_row bc, g_up_row ca, g_up_row cb, g_up_row u1, g_up_row u3, g_up_row v1, g_up_row v3, g_up_row w1, g_up_row w3, g_up_r, r_up_at, r_up_ne, ne_eq, Int.reduceEq, not_false_eq_true, pn_grid, pn_add], Or.inr ⟨q0, _, _, _, ?_, rfl, by simp only [g_up_row d13, g_up_row d31, g_up_row d21, g_up_row d23, g_up_row a1, g_up_row a3, g_up_row b1, g_up_row b3, g_up_row c1, g_up_row c3, g_up_row ab, g_up_row ac, g_up_row ba, g_up_row bc, g_up_row ca, g_up_row cb, g_up_row u1, g_up_row u3, g_up_row v1, g_up_row v3, g_up_row w1, g_up_row w3, g_up_r, r_up_at, r_up_ne, ne_eq, Int.reduceEq, not_false_eq_true, pn_grid, pn_add], rfl, rfl, rfl⟩⟩
    simp only [t_item, hL, e0, Int.reduceEq, if_true, if_false, Option.bind_some]
    rw [if_pos hg]
    simp only [g_up_row d13, g_up_row d31, g_up_row d21, g_up_row d23, g_up_row a1, g_up_row a3, g_up_row b1, g_up_row b3, g_up_row c1, g_up_row c3, g_up_row ab, g_up_row ac, g_up_row ba, g_up_row bc, g_up_row ca, g_up_row cb, g_up_row u1, g_up_row u3, g_up_row v1, g_up_row v3, g_up_row w1, g_up_row w3, g_up_r, r_up_at, r_up_ne, ne_eq, Int.reduceEq, not_false_eq_true, pn_grid, pn_add]
  · refine l_itemEnd hV hP 113 1 0 (by decide) (c_takeItem_113 hP0 k2 l2 0 (Or.inl rfl) (c_takeRest0 _ hP0 (by rw [v0]; exact hg))) (Or.inl rfl) ?_
    refine ⟨rfl, rfl, fun b z1 z3 za zb zc => by simp only [g_up_row z1, g_up_row z3, g_up_row za, g_up_row zb, g_up_row zc, pn_grid, pn_add], by simp only [g_up_row d13, g_up_row d31, g_up_row d21, g_up_row d23, g_up_row a1, g_up_row a3, g_up_row b1, g_up_row b3, g_up_row c1, g_up_row c3, g_up_row ab, g_up_row ac, g_up_row ba, g_up_row bc, g_up_row ca, g_up_row cb, g_up_row u1, g_up_row u3, g_up_row v1, g_up_row v3, g_up_row w1, g_up_row w3, g_up_r, r_up_at, r_up_ne, ne_eq, Int.reduceEq, not_false_eq_true, pn_grid, pn_add], Or.inl ⟨?_, rfl, by simp only [g_up_row d13, g_up_row d31, g_up_row d21, g_up_row d23, g_up_row a1, g_up_row a3, g_up_row b1, g_up_row b3, g_up_row c1, g_up_row c3, g_up_row ab, g_up_row ac, g_up_row ba, g_up_row bc, g_up_row ca, g_up_row cb, g_up_row u1, g_up_row u3, g_up_row v1, g_up_row v3, g_up_row w1, g_up_row w3, g_up_r, r_up_at, r_up_ne, ne_eq, Int.reduceEq, not_false_eq_true, pn_grid, pn_add], by simp only [g_up_row d13, g_up_row d31, g_up_row d21, g_up_row d23, g_up_row a1, g_up_row a3, g_up_row b1, g_up_row b3, g_up_row c1, g_up_row c3, g_up_row ab, g_up_row ac, g_up_row ba, g_up_row bc, g_up_row ca, g_up_row cb, g_up_row u1, g_up_row u3, g_up_row v1, g_up_row v3, g_up_row w1, g_up_row w3, g_up_r, r_up_at, r_up_ne, ne_eq, Int.reduceEq, not_false_eq_true, pn_grid, pn_add], by simp only [g_up_row d13, g_up_row d31, g_up_row d21, g_up_row d23, g_up_row a1, g_up_row a3, g_up_row b1, g_up_row b3, g_up_row c1, g_up_row c3, g_up_row ab, g_up_row ac, g_up_row ba, g_up_row bc, g_up_row ca, g_up_row cb, g_up_row u1, g_up_row u3, g_up_row v1, g_up_row v3, g_up_row w1, g_up_row w3, g_up_r, r_up_at, r_up_ne, ne_eq, Int.reduceEq, not_false_eq_true, pn_grid, pn_add]⟩⟩
    simp only [t_item, hL, e0, Int.reduceEq, if_true, if_false, Option.bind_some]
    exact if_neg hg
set_option maxRecDepth 20000 in
set_option maxHeartbeats 1000000 in
theorem c_readItem (hV : isText sh) (tx : gRw) (n p : Int) (hx : gi 2 = tx) (hn : gi 1 2 = n) (hp : gi 1 3 = p) (hp0 : 0 ≤ p ∧ p ≤ 500) (hn2 : n ≤ 200) (ht : t_tx tx n) (hP : isPlan sh a) (ha : 100 ≤ a) (hr : 0 ≤ gi a 2) : Ct mdX5_readItem 0 0 [vR 1, vR a] gi gl sh (t_rI tx n p gi gl sh a) := by
  show Go mdX5_readItem 0 0 0 [some (vR 1), some (vR a), none, none, none] [] gi gl sh _
  obtain ⟨k0, r0, r1, k1, l1, k2, l2⟩ := id hV
  refine g_aload_n dX5_readItem_0 rfl ?_
  refine g_cVi [] dX5_readItem_1 mlX5_35 mvX5_letterHere (by decide) (by assumption) (by decide) rfl rfl (Nat.le_of_ble_eq_true rfl) rfl (Nat.le_of_ble_eq_true rfl) (c_letterHere hV tx n p hx hn hp (by omega) hn2 ht) ?_
  refine n_istore_n (lN := [_, _, _, _, _]) dX5_readItem_4 (by decide) rfl ?_
  refine g_aload_n dX5_readItem_5 rfl ?_
  refine g_dup dX5_readItem_6 (fun _ h9 => by cases h9) ?_
  refine g_getI 3 dX5_readItem_7 flX5_28 rfl (by assumption) ?_
  refine g_iconst dX5_readItem_10 (by decide) ?_
  refine g_iadd dX5_readItem_11 (by rw [hp]; omega) (by rw [hp]; omega) ?_
  refine g_putI 3 dX5_readItem_12 flX5_28 rfl (by assumption) ?_
  rw [hp]
  refine g_iload_n dX5_readItem_15 rfl ?_
  refine g_cSi [_] dX5_readItem_16 mlX5_39 msX5_numbersBehind (by decide) rfl rfl (Nat.le_of_ble_eq_true rfl) rfl (Nat.le_of_ble_eq_true rfl) (c_numbersBehind _) ?_
  refine n_istore_n (lN := [_, _, _, _, _]) dX5_readItem_19 (by decide) rfl ?_
  refine g_iload_n dX5_readItem_20 rfl ?_
  refine g_if_ne 26 dX5_readItem_21 (by decide) (fun h21 => ?_) (fun h21 => ?_)
  · skip
    refine g_iconst dX5_readItem_26 (by decide) ?_
    refine n_istore (lN := [_, _, _, _, _]) dX5_readItem_27 (by decide) rfl ?_
    by_cases h1 : t_at tx n p = 103
    · rw [h1]; exact l_item103 hV tx n p hx hn hp hp0 hn2 ht hP ha hr h1
    by_cases h2 : t_at tx n p = 114
    · rw [h2]; exact l_item114 hV tx n p hx hn hp hp0 hn2 ht hP ha hr h2
    by_cases h3 : t_at tx n p = 100
    · rw [h3]; exact l_item100 hV tx n p hx hn hp hp0 hn2 ht hP ha hr h3
    by_cases h4 : t_at tx n p = 113
    · rw [h4]; exact l_item113 hV tx n p hx hn hp hp0 hn2 ht hP ha hr h4
    exact absurd (by simp [t_nb, h1, h2, h3, h4]) h21
  · skip
    refine g_iconst dX5_readItem_24 (by decide) ?_
    refine g_zreturn dX5_readItem_25 rfl (by omega) ?_
    refine ⟨rfl, rfl, fun b z1 z3 za zb zc => by rw [g_up_row z1], by rw [g_up_ne (by decide)], Or.inl ⟨?_, rfl, by rw [g_up_row (by omega)], by rw [g_up_row (by omega)], by rw [g_up_row (by omega)]⟩⟩
    have hl : t_nb (t_at tx n p) = 0 := Classical.byContradiction h21
    unfold t_nb at hl
    unfold t_item
    split at hl
    · exact absurd hl (by decide)
    · rename_i h1
      rw [if_neg h1]
      split at hl
      · exact absurd hl (by decide)
      · rename_i h2
        rw [if_neg h2]
        split at hl
        · exact absurd hl (by decide)
        · rename_i h3
          rw [if_neg h3]
          split at hl
          · exact absurd hl (by decide)
          · rename_i h4
            rw [if_neg h4]
end TEXT3
end
