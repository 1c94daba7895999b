-- ===== PART A: goes FIRST, ahead of the names: the tables' words, and 'selects' of the private methods out of them =====
/-- a private method of a class that the tables say can be made, by its rows of tables_1 -/
def lw_okq (q : MethodName × Nat) : Prop := (q.1.cls ≠ "java/lang/invoke/MethodHandle" ∧ q.1.cls ≠ "java/lang/invoke/VarHandle") ∧ Cond.instantiable q.1.cls q.2 ∈ tables_1 ∧ Cond.privateMethod q.1 ∈ tables_1 ∧ Cond.instanceMethod q.1 ∈ tables_1
theorem lw_p0 : lw_okq (⟨"ArmAgainstArm$Tokens", "takeWord", "()V"⟩, 6) := ⟨⟨by decide +kernel, by decide +kernel⟩, List.mem_of_getElem? (i := 221) (by decide +kernel), List.mem_of_getElem? (i := 288) (by decide +kernel), List.mem_of_getElem? (i := 289) (by decide +kernel)⟩
theorem lw_p1 : lw_okq (⟨"ArmAgainstArm$Tokens", "wordNumbe\x72", "(II)I"⟩, 6) := ⟨⟨by decide +kernel, by decide +kernel⟩, List.mem_of_getElem? (i := 221) (by decide +kernel), List.mem_of_getElem? (i := 292) (by decide +kernel), List.mem_of_getElem? (i := 293) (by decide +kernel)⟩
theorem lw_p2 : lw_okq (⟨"ArmAgainstArm$Tokens", "add", "(III)V"⟩, 6) := ⟨⟨by decide +kernel, by decide +kernel⟩, List.mem_of_getElem? (i := 221) (by decide +kernel), List.mem_of_getElem? (i := 300) (by decide +kernel), List.mem_of_getElem? (i := 301) (by decide +kernel)⟩
theorem lw_p3 : lw_okq (⟨"ArmAgainstArm$Tokens", "takeNumbe\x72", "()V"⟩, 6) := ⟨⟨by decide +kernel, by decide +kernel⟩, List.mem_of_getElem? (i := 221) (by decide +kernel), List.mem_of_getElem? (i := 308) (by decide +kernel), List.mem_of_getElem? (i := 309) (by decide +kernel)⟩
theorem lw_p4 : lw_okq (⟨"ArmAgainstArm$Tokens", "takeSign", "()V"⟩, 6) := ⟨⟨by decide +kernel, by decide +kernel⟩, List.mem_of_getElem? (i := 221) (by decide +kernel), List.mem_of_getElem? (i := 312) (by decide +kernel), List.mem_of_getElem? (i := 313) (by decide +kernel)⟩
theorem lw_p5 : lw_okq (⟨"ArmAgainstArm$Reade\x72", "expect", "(I)V"⟩, 4) := ⟨⟨by decide +kernel, by decide +kernel⟩, List.mem_of_getElem? (i := 215) (by decide +kernel), List.mem_of_getElem? (i := 376) (by decide +kernel), List.mem_of_getElem? (i := 377) (by decide +kernel)⟩
theorem lw_p6 : lw_okq (⟨"ArmAgainstArm$Reade\x72", "is", "(I)Z"⟩, 4) := ⟨⟨by decide +kernel, by decide +kernel⟩, List.mem_of_getElem? (i := 215) (by decide +kernel), List.mem_of_getElem? (i := 380) (by decide +kernel), List.mem_of_getElem? (i := 381) (by decide +kernel)⟩
theorem lw_p7 : lw_okq (⟨"ArmAgainstArm$Reade\x72", "fail", "()V"⟩, 4) := ⟨⟨by decide +kernel, by decide +kernel⟩, List.mem_of_getElem? (i := 215) (by decide +kernel), List.mem_of_getElem? (i := 388) (by decide +kernel), List.mem_of_getElem? (i := 389) (by decide +kernel)⟩
theorem lw_p8 : lw_okq (⟨"ArmAgainstArm$Reade\x72", "readLevel", "(II)V"⟩, 4) := ⟨⟨by decide +kernel, by decide +kernel⟩, List.mem_of_getElem? (i := 215) (by decide +kernel), List.mem_of_getElem? (i := 396) (by decide +kernel), List.mem_of_getElem? (i := 397) (by decide +kernel)⟩
theorem lw_p9 : lw_okq (⟨"ArmAgainstArm$Reade\x72", "readOne", "(I)V"⟩, 4) := ⟨⟨by decide +kernel, by decide +kernel⟩, List.mem_of_getElem? (i := 215) (by decide +kernel), List.mem_of_getElem? (i := 400) (by decide +kernel), List.mem_of_getElem? (i := 401) (by decide +kernel)⟩
theorem lw_p10 : lw_okq (⟨"ArmAgainstArm$Reade\x72", "opens", "(I)Z"⟩, 4) := ⟨⟨by decide +kernel, by decide +kernel⟩, List.mem_of_getElem? (i := 215) (by decide +kernel), List.mem_of_getElem? (i := 412) (by decide +kernel), List.mem_of_getElem? (i := 413) (by decide +kernel)⟩
theorem lw_p11 : lw_okq (⟨"ArmAgainstArm$Reade\x72", "readNot", "(I)V"⟩, 4) := ⟨⟨by decide +kernel, by decide +kernel⟩, List.mem_of_getElem? (i := 215) (by decide +kernel), List.mem_of_getElem? (i := 416) (by decide +kernel), List.mem_of_getElem? (i := 417) (by decide +kernel)⟩
theorem lw_p12 : lw_okq (⟨"ArmAgainstArm$Reade\x72", "isSignOf", "(I)Z"⟩, 4) := ⟨⟨by decide +kernel, by decide +kernel⟩, List.mem_of_getElem? (i := 215) (by decide +kernel), List.mem_of_getElem? (i := 420) (by decide +kernel), List.mem_of_getElem? (i := 421) (by decide +kernel)⟩
theorem lw_p13 : lw_okq (⟨"ArmAgainstArm", "isArm", "(I)Z"⟩, 11) := ⟨⟨by decide +kernel, by decide +kernel⟩, List.mem_of_getElem? (i := 22) (by decide +kernel), List.mem_of_getElem? (i := 595) (by decide +kernel), List.mem_of_getElem? (i := 596) (by decide +kernel)⟩
theorem lw_p14 : lw_okq (⟨"ArmAgainstArm$Text", "worth", "(II[I)I"⟩, 5) := ⟨⟨by decide +kernel, by decide +kernel⟩, List.mem_of_getElem? (i := 140) (by decide +kernel), List.mem_of_getElem? (i := 611) (by decide +kernel), List.mem_of_getElem? (i := 612) (by decide +kernel)⟩
theorem lw_p15 : lw_okq (⟨"ArmAgainstArm", "armComes", "(III)I"⟩, 11) := ⟨⟨by decide +kernel, by decide +kernel⟩, List.mem_of_getElem? (i := 22) (by decide +kernel), List.mem_of_getElem? (i := 628) (by decide +kernel), List.mem_of_getElem? (i := 629) (by decide +kernel)⟩
def lw_privs_1 : List (MethodName × Nat) := [(⟨"ArmAgainstArm$Tokens", "takeWord", "()V"⟩, 6), (⟨"ArmAgainstArm$Tokens", "wordNumbe\x72", "(II)I"⟩, 6), (⟨"ArmAgainstArm$Tokens", "add", "(III)V"⟩, 6), (⟨"ArmAgainstArm$Tokens", "takeNumbe\x72", "()V"⟩, 6), (⟨"ArmAgainstArm$Tokens", "takeSign", "()V"⟩, 6), (⟨"ArmAgainstArm$Reade\x72", "expect", "(I)V"⟩, 4), (⟨"ArmAgainstArm$Reade\x72", "is", "(I)Z"⟩, 4), (⟨"ArmAgainstArm$Reade\x72", "fail", "()V"⟩, 4), (⟨"ArmAgainstArm$Reade\x72", "readLevel", "(II)V"⟩, 4), (⟨"ArmAgainstArm$Reade\x72", "readOne", "(I)V"⟩, 4), (⟨"ArmAgainstArm$Reade\x72", "opens", "(I)Z"⟩, 4), (⟨"ArmAgainstArm$Reade\x72", "readNot", "(I)V"⟩, 4), (⟨"ArmAgainstArm$Reade\x72", "isSignOf", "(I)Z"⟩, 4), (⟨"ArmAgainstArm", "isArm", "(I)Z"⟩, 11), (⟨"ArmAgainstArm$Text", "worth", "(II[I)I"⟩, 5), (⟨"ArmAgainstArm", "armComes", "(III)I"⟩, 11)]
theorem lw_r1 : ∀ q ∈ lw_privs_1, lw_okq q := List.forall_mem_cons.mpr ⟨lw_p0, List.forall_mem_cons.mpr ⟨lw_p1, List.forall_mem_cons.mpr ⟨lw_p2, List.forall_mem_cons.mpr ⟨lw_p3, List.forall_mem_cons.mpr ⟨lw_p4, List.forall_mem_cons.mpr ⟨lw_p5, List.forall_mem_cons.mpr ⟨lw_p6, List.forall_mem_cons.mpr ⟨lw_p7, List.forall_mem_cons.mpr ⟨lw_p8, List.forall_mem_cons.mpr ⟨lw_p9, List.forall_mem_cons.mpr ⟨lw_p10, List.forall_mem_cons.mpr ⟨lw_p11, List.forall_mem_cons.mpr ⟨lw_p12, List.forall_mem_cons.mpr ⟨lw_p13, List.forall_mem_cons.mpr ⟨lw_p14, List.forall_mem_cons.mpr ⟨lw_p15, fun _ h => absurd h List.not_mem_nil⟩⟩⟩⟩⟩⟩⟩⟩⟩⟩⟩⟩⟩⟩⟩⟩
theorem lw_p16 : lw_okq (⟨"ArmAgainstArm", "tellsTwo", "(I)Z"⟩, 11) := ⟨⟨by decide +kernel, by decide +kernel⟩, List.mem_of_getElem? (i := 22) (by decide +kernel), List.mem_of_getElem? (i := 659) (by decide +kernel), List.mem_of_getElem? (i := 660) (by decide +kernel)⟩
theorem lw_p17 : lw_okq (⟨"ArmAgainstArm", "areTwo", "(II)Z"⟩, 11) := ⟨⟨by decide +kernel, by decide +kernel⟩, List.mem_of_getElem? (i := 22) (by decide +kernel), List.mem_of_getElem? (i := 663) (by decide +kernel), List.mem_of_getElem? (i := 664) (by decide +kernel)⟩
theorem lw_p18 : lw_okq (⟨"ArmAgainstArm", "\x6fpen", "(II)V"⟩, 11) := ⟨⟨by decide +kernel, by decide +kernel⟩, List.mem_of_getElem? (i := 22) (by decide +kernel), List.mem_of_getElem? (i := 667) (by decide +kernel), List.mem_of_getElem? (i := 668) (by decide +kernel)⟩
theorem lw_p19 : lw_okq (⟨"ArmAgainstArm", "winne\x72", "(II)I"⟩, 11) := ⟨⟨by decide +kernel, by decide +kernel⟩, List.mem_of_getElem? (i := 22) (by decide +kernel), List.mem_of_getElem? (i := 715) (by decide +kernel), List.mem_of_getElem? (i := 716) (by decide +kernel)⟩
theorem lw_p20 : lw_okq (⟨"ArmAgainstArm$Seeke\x72", "keep", "(I)V"⟩, 8) := ⟨⟨by decide +kernel, by decide +kernel⟩, List.mem_of_getElem? (i := 502) (by decide +kernel), List.mem_of_getElem? (i := 737) (by decide +kernel), List.mem_of_getElem? (i := 738) (by decide +kernel)⟩
theorem lw_p21 : lw_okq (⟨"ArmAgainstArm$Seeke\x72", "playFrom", "(I)V"⟩, 8) := ⟨⟨by decide +kernel, by decide +kernel⟩, List.mem_of_getElem? (i := 502) (by decide +kernel), List.mem_of_getElem? (i := 744) (by decide +kernel), List.mem_of_getElem? (i := 745) (by decide +kernel)⟩
theorem lw_p22 : lw_okq (⟨"ArmAgainstArm$Seeke\x72", "isBette\x72", "()Z"⟩, 8) := ⟨⟨by decide +kernel, by decide +kernel⟩, List.mem_of_getElem? (i := 502) (by decide +kernel), List.mem_of_getElem? (i := 749) (by decide +kernel), List.mem_of_getElem? (i := 750) (by decide +kernel)⟩
theorem lw_p23 : lw_okq (⟨"ArmAgainstArm$Seeke\x72", "take", "()V"⟩, 8) := ⟨⟨by decide +kernel, by decide +kernel⟩, List.mem_of_getElem? (i := 502) (by decide +kernel), List.mem_of_getElem? (i := 753) (by decide +kernel), List.mem_of_getElem? (i := 754) (by decide +kernel)⟩
theorem lw_p24 : lw_okq (⟨"ArmAgainstArm", "wouldWin", "(III)Z"⟩, 11) := ⟨⟨by decide +kernel, by decide +kernel⟩, List.mem_of_getElem? (i := 22) (by decide +kernel), List.mem_of_getElem? (i := 769) (by decide +kernel), List.mem_of_getElem? (i := 770) (by decide +kernel)⟩
theorem lw_p25 : lw_okq (⟨"ArmAgainstArm", "longestOrde\x72", "(IIIII)I"⟩, 11) := ⟨⟨by decide +kernel, by decide +kernel⟩, List.mem_of_getElem? (i := 22) (by decide +kernel), List.mem_of_getElem? (i := 786) (by decide +kernel), List.mem_of_getElem? (i := 787) (by decide +kernel)⟩
theorem lw_p26 : lw_okq (⟨"ArmAgainstArm", "beaten", "(I)I"⟩, 11) := ⟨⟨by decide +kernel, by decide +kernel⟩, List.mem_of_getElem? (i := 22) (by decide +kernel), List.mem_of_getElem? (i := 797) (by decide +kernel), List.mem_of_getElem? (i := 798) (by decide +kernel)⟩
theorem lw_p27 : lw_okq (⟨"ArmAgainstArm", "refusalOfTold", "(I)I"⟩, 11) := ⟨⟨by decide +kernel, by decide +kernel⟩, List.mem_of_getElem? (i := 22) (by decide +kernel), List.mem_of_getElem? (i := 809) (by decide +kernel), List.mem_of_getElem? (i := 810) (by decide +kernel)⟩
theorem lw_p28 : lw_okq (⟨"ArmAgainstArm", "firstOtherwise", "(LArmAgainstArm$Sheet;)I"⟩, 11) := ⟨⟨by decide +kernel, by decide +kernel⟩, List.mem_of_getElem? (i := 22) (by decide +kernel), List.mem_of_getElem? (i := 816) (by decide +kernel), List.mem_of_getElem? (i := 817) (by decide +kernel)⟩
theorem lw_p29 : lw_okq (⟨"ArmAgainstArm", "winnerDrawn", "(III)I"⟩, 11) := ⟨⟨by decide +kernel, by decide +kernel⟩, List.mem_of_getElem? (i := 22) (by decide +kernel), List.mem_of_getElem? (i := 859) (by decide +kernel), List.mem_of_getElem? (i := 860) (by decide +kernel)⟩
theorem lw_p30 : lw_okq (⟨"ArmAgainstArmModel", "next", "()V"⟩, 45) := ⟨⟨by decide +kernel, by decide +kernel⟩, List.mem_of_getElem? (i := 911) (by decide +kernel), List.mem_of_getElem? (i := 921) (by decide +kernel), List.mem_of_getElem? (i := 922) (by decide +kernel)⟩
theorem lw_p31 : lw_okq (⟨"ArmAgainstArmModel", "wordFrom", "(II)I"⟩, 45) := ⟨⟨by decide +kernel, by decide +kernel⟩, List.mem_of_getElem? (i := 911) (by decide +kernel), List.mem_of_getElem? (i := 928) (by decide +kernel), List.mem_of_getElem? (i := 929) (by decide +kernel)⟩
def lw_privs_2 : List (MethodName × Nat) := [(⟨"ArmAgainstArm", "tellsTwo", "(I)Z"⟩, 11), (⟨"ArmAgainstArm", "areTwo", "(II)Z"⟩, 11), (⟨"ArmAgainstArm", "\x6fpen", "(II)V"⟩, 11), (⟨"ArmAgainstArm", "winne\x72", "(II)I"⟩, 11), (⟨"ArmAgainstArm$Seeke\x72", "keep", "(I)V"⟩, 8), (⟨"ArmAgainstArm$Seeke\x72", "playFrom", "(I)V"⟩, 8), (⟨"ArmAgainstArm$Seeke\x72", "isBette\x72", "()Z"⟩, 8), (⟨"ArmAgainstArm$Seeke\x72", "take", "()V"⟩, 8), (⟨"ArmAgainstArm", "wouldWin", "(III)Z"⟩, 11), (⟨"ArmAgainstArm", "longestOrde\x72", "(IIIII)I"⟩, 11), (⟨"ArmAgainstArm", "beaten", "(I)I"⟩, 11), (⟨"ArmAgainstArm", "refusalOfTold", "(I)I"⟩, 11), (⟨"ArmAgainstArm", "firstOtherwise", "(LArmAgainstArm$Sheet;)I"⟩, 11), (⟨"ArmAgainstArm", "winnerDrawn", "(III)I"⟩, 11), (⟨"ArmAgainstArmModel", "next", "()V"⟩, 45), (⟨"ArmAgainstArmModel", "wordFrom", "(II)I"⟩, 45)]
theorem lw_r2 : ∀ q ∈ lw_privs_2, lw_okq q := List.forall_mem_cons.mpr ⟨lw_p16, List.forall_mem_cons.mpr ⟨lw_p17, List.forall_mem_cons.mpr ⟨lw_p18, List.forall_mem_cons.mpr ⟨lw_p19, List.forall_mem_cons.mpr ⟨lw_p20, List.forall_mem_cons.mpr ⟨lw_p21, List.forall_mem_cons.mpr ⟨lw_p22, List.forall_mem_cons.mpr ⟨lw_p23, List.forall_mem_cons.mpr ⟨lw_p24, List.forall_mem_cons.mpr ⟨lw_p25, List.forall_mem_cons.mpr ⟨lw_p26, List.forall_mem_cons.mpr ⟨lw_p27, List.forall_mem_cons.mpr ⟨lw_p28, List.forall_mem_cons.mpr ⟨lw_p29, List.forall_mem_cons.mpr ⟨lw_p30, List.forall_mem_cons.mpr ⟨lw_p31, fun _ h => absurd h List.not_mem_nil⟩⟩⟩⟩⟩⟩⟩⟩⟩⟩⟩⟩⟩⟩⟩⟩
theorem lw_p32 : lw_okq (⟨"ArmAgainstArmModel", "eRead", "()Z"⟩, 45) := ⟨⟨by decide +kernel, by decide +kernel⟩, List.mem_of_getElem? (i := 911) (by decide +kernel), List.mem_of_getElem? (i := 932) (by decide +kernel), List.mem_of_getElem? (i := 933) (by decide +kernel)⟩
theorem lw_p33 : lw_okq (⟨"ArmAgainstArmModel", "puts", "(I)V"⟩, 45) := ⟨⟨by decide +kernel, by decide +kernel⟩, List.mem_of_getElem? (i := 911) (by decide +kernel), List.mem_of_getElem? (i := 937) (by decide +kernel), List.mem_of_getElem? (i := 938) (by decide +kernel)⟩
theorem lw_p34 : lw_okq (⟨"ArmAgainstArmModel", "unwinds", "(I)V"⟩, 45) := ⟨⟨by decide +kernel, by decide +kernel⟩, List.mem_of_getElem? (i := 911) (by decide +kernel), List.mem_of_getElem? (i := 941) (by decide +kernel), List.mem_of_getElem? (i := 942) (by decide +kernel)⟩
theorem lw_p35 : lw_okq (⟨"ArmAgainstArmModel", "opensOne", "(I)Z"⟩, 45) := ⟨⟨by decide +kernel, by decide +kernel⟩, List.mem_of_getElem? (i := 911) (by decide +kernel), List.mem_of_getElem? (i := 948) (by decide +kernel), List.mem_of_getElem? (i := 949) (by decide +kernel)⟩
theorem lw_p36 : lw_okq (⟨"ArmAgainstArmModel", "holds", "(I)V"⟩, 45) := ⟨⟨by decide +kernel, by decide +kernel⟩, List.mem_of_getElem? (i := 911) (by decide +kernel), List.mem_of_getElem? (i := 952) (by decide +kernel), List.mem_of_getElem? (i := 953) (by decide +kernel)⟩
theorem lw_p37 : lw_okq (⟨"ArmAgainstArmModel", "signOf", "()I"⟩, 45) := ⟨⟨by decide +kernel, by decide +kernel⟩, List.mem_of_getElem? (i := 911) (by decide +kernel), List.mem_of_getElem? (i := 956) (by decide +kernel), List.mem_of_getElem? (i := 957) (by decide +kernel)⟩
theorem lw_p38 : lw_okq (⟨"ArmAgainstArmModel", "between", "(I)Z"⟩, 45) := ⟨⟨by decide +kernel, by decide +kernel⟩, List.mem_of_getElem? (i := 911) (by decide +kernel), List.mem_of_getElem? (i := 960) (by decide +kernel), List.mem_of_getElem? (i := 961) (by decide +kernel)⟩
theorem lw_p39 : lw_okq (⟨"ArmAgainstArmModel", "isArm", "(I)Z"⟩, 45) := ⟨⟨by decide +kernel, by decide +kernel⟩, List.mem_of_getElem? (i := 911) (by decide +kernel), List.mem_of_getElem? (i := 1120) (by decide +kernel), List.mem_of_getElem? (i := 1121) (by decide +kernel)⟩
theorem lw_p40 : lw_okq (⟨"ArmAgainstArmModel", "asksOf", "(IIIIII)I"⟩, 45) := ⟨⟨by decide +kernel, by decide +kernel⟩, List.mem_of_getElem? (i := 911) (by decide +kernel), List.mem_of_getElem? (i := 1124) (by decide +kernel), List.mem_of_getElem? (i := 1125) (by decide +kernel)⟩
theorem lw_p41 : lw_okq (⟨"ArmAgainstArmModel", "says", "(I)I"⟩, 45) := ⟨⟨by decide +kernel, by decide +kernel⟩, List.mem_of_getElem? (i := 911) (by decide +kernel), List.mem_of_getElem? (i := 1128) (by decide +kernel), List.mem_of_getElem? (i := 1129) (by decide +kernel)⟩
theorem lw_p42 : lw_okq (⟨"ArmAgainstArmModel", "lateOf", "(I)I"⟩, 45) := ⟨⟨by decide +kernel, by decide +kernel⟩, List.mem_of_getElem? (i := 911) (by decide +kernel), List.mem_of_getElem? (i := 1153) (by decide +kernel), List.mem_of_getElem? (i := 1154) (by decide +kernel)⟩
theorem lw_p43 : lw_okq (⟨"ArmAgainstArmModel", "tellTwo", "(I)Z"⟩, 45) := ⟨⟨by decide +kernel, by decide +kernel⟩, List.mem_of_getElem? (i := 911) (by decide +kernel), List.mem_of_getElem? (i := 1161) (by decide +kernel), List.mem_of_getElem? (i := 1162) (by decide +kernel)⟩
theorem lw_p44 : lw_okq (⟨"ArmAgainstArmModel", "areTwo", "(II)Z"⟩, 45) := ⟨⟨by decide +kernel, by decide +kernel⟩, List.mem_of_getElem? (i := 911) (by decide +kernel), List.mem_of_getElem? (i := 1165) (by decide +kernel), List.mem_of_getElem? (i := 1166) (by decide +kernel)⟩
theorem lw_p45 : lw_okq (⟨"ArmAgainstArmModel", "begins", "(III)V"⟩, 45) := ⟨⟨by decide +kernel, by decide +kernel⟩, List.mem_of_getElem? (i := 911) (by decide +kernel), List.mem_of_getElem? (i := 1169) (by decide +kernel), List.mem_of_getElem? (i := 1170) (by decide +kernel)⟩
theorem lw_p46 : lw_okq (⟨"ArmAgainstArmModel", "goesOn", "(III)V"⟩, 45) := ⟨⟨by decide +kernel, by decide +kernel⟩, List.mem_of_getElem? (i := 911) (by decide +kernel), List.mem_of_getElem? (i := 1173) (by decide +kernel), List.mem_of_getElem? (i := 1174) (by decide +kernel)⟩
theorem lw_p47 : lw_okq (⟨"ArmAgainstArmModel", "tenths", "(III)V"⟩, 45) := ⟨⟨by decide +kernel, by decide +kernel⟩, List.mem_of_getElem? (i := 911) (by decide +kernel), List.mem_of_getElem? (i := 1177) (by decide +kernel), List.mem_of_getElem? (i := 1178) (by decide +kernel)⟩
def lw_privs_3 : List (MethodName × Nat) := [(⟨"ArmAgainstArmModel", "eRead", "()Z"⟩, 45), (⟨"ArmAgainstArmModel", "puts", "(I)V"⟩, 45), (⟨"ArmAgainstArmModel", "unwinds", "(I)V"⟩, 45), (⟨"ArmAgainstArmModel", "opensOne", "(I)Z"⟩, 45), (⟨"ArmAgainstArmModel", "holds", "(I)V"⟩, 45), (⟨"ArmAgainstArmModel", "signOf", "()I"⟩, 45), (⟨"ArmAgainstArmModel", "between", "(I)Z"⟩, 45), (⟨"ArmAgainstArmModel", "isArm", "(I)Z"⟩, 45), (⟨"ArmAgainstArmModel", "asksOf", "(IIIIII)I"⟩, 45), (⟨"ArmAgainstArmModel", "says", "(I)I"⟩, 45), (⟨"ArmAgainstArmModel", "lateOf", "(I)I"⟩, 45), (⟨"ArmAgainstArmModel", "tellTwo", "(I)Z"⟩, 45), (⟨"ArmAgainstArmModel", "areTwo", "(II)Z"⟩, 45), (⟨"ArmAgainstArmModel", "begins", "(III)V"⟩, 45), (⟨"ArmAgainstArmModel", "goesOn", "(III)V"⟩, 45), (⟨"ArmAgainstArmModel", "tenths", "(III)V"⟩, 45)]
theorem lw_r3 : ∀ q ∈ lw_privs_3, lw_okq q := List.forall_mem_cons.mpr ⟨lw_p32, List.forall_mem_cons.mpr ⟨lw_p33, List.forall_mem_cons.mpr ⟨lw_p34, List.forall_mem_cons.mpr ⟨lw_p35, List.forall_mem_cons.mpr ⟨lw_p36, List.forall_mem_cons.mpr ⟨lw_p37, List.forall_mem_cons.mpr ⟨lw_p38, List.forall_mem_cons.mpr ⟨lw_p39, List.forall_mem_cons.mpr ⟨lw_p40, List.forall_mem_cons.mpr ⟨lw_p41, List.forall_mem_cons.mpr ⟨lw_p42, List.forall_mem_cons.mpr ⟨lw_p43, List.forall_mem_cons.mpr ⟨lw_p44, List.forall_mem_cons.mpr ⟨lw_p45, List.forall_mem_cons.mpr ⟨lw_p46, List.forall_mem_cons.mpr ⟨lw_p47, fun _ h => absurd h List.not_mem_nil⟩⟩⟩⟩⟩⟩⟩⟩⟩⟩⟩⟩⟩⟩⟩⟩
theorem lw_p48 : lw_okq (⟨"ArmAgainstArmModel", "forceOf", "(IIIII)I"⟩, 45) := ⟨⟨by decide +kernel, by decide +kernel⟩, List.mem_of_getElem? (i := 911) (by decide +kernel), List.mem_of_getElem? (i := 1184) (by decide +kernel), List.mem_of_getElem? (i := 1185) (by decide +kernel)⟩
theorem lw_p49 : lw_okq (⟨"ArmAgainstArmModel", "spentBy", "(IIIII)I"⟩, 45) := ⟨⟨by decide +kernel, by decide +kernel⟩, List.mem_of_getElem? (i := 911) (by decide +kernel), List.mem_of_getElem? (i := 1188) (by decide +kernel), List.mem_of_getElem? (i := 1189) (by decide +kernel)⟩
theorem lw_p50 : lw_okq (⟨"ArmAgainstArmModel", "bouts", "(II)V"⟩, 45) := ⟨⟨by decide +kernel, by decide +kernel⟩, List.mem_of_getElem? (i := 911) (by decide +kernel), List.mem_of_getElem? (i := 1196) (by decide +kernel), List.mem_of_getElem? (i := 1197) (by decide +kernel)⟩
theorem lw_p51 : lw_okq (⟨"ArmAgainstArmModel", "winne\x72", "(II)I"⟩, 45) := ⟨⟨by decide +kernel, by decide +kernel⟩, List.mem_of_getElem? (i := 911) (by decide +kernel), List.mem_of_getElem? (i := 1200) (by decide +kernel), List.mem_of_getElem? (i := 1201) (by decide +kernel)⟩
theorem lw_p52 : lw_okq (⟨"ArmAgainstArmModel", "findsBest", "(II)V"⟩, 45) := ⟨⟨by decide +kernel, by decide +kernel⟩, List.mem_of_getElem? (i := 911) (by decide +kernel), List.mem_of_getElem? (i := 1216) (by decide +kernel), List.mem_of_getElem? (i := 1217) (by decide +kernel)⟩
theorem lw_p53 : lw_okq (⟨"ArmAgainstArmModel", "couldBette\x72", "(II)Z"⟩, 45) := ⟨⟨by decide +kernel, by decide +kernel⟩, List.mem_of_getElem? (i := 911) (by decide +kernel), List.mem_of_getElem? (i := 1227) (by decide +kernel), List.mem_of_getElem? (i := 1228) (by decide +kernel)⟩
theorem lw_p54 : lw_okq (⟨"ArmAgainstArmModel", "takesOn", "(IIIII)V"⟩, 45) := ⟨⟨by decide +kernel, by decide +kernel⟩, List.mem_of_getElem? (i := 911) (by decide +kernel), List.mem_of_getElem? (i := 1246) (by decide +kernel), List.mem_of_getElem? (i := 1247) (by decide +kernel)⟩
theorem lw_p55 : lw_okq (⟨"ArmAgainstArmModel", "beatenBy", "(I)I"⟩, 45) := ⟨⟨by decide +kernel, by decide +kernel⟩, List.mem_of_getElem? (i := 911) (by decide +kernel), List.mem_of_getElem? (i := 1254) (by decide +kernel), List.mem_of_getElem? (i := 1255) (by decide +kernel)⟩
theorem lw_p56 : lw_okq (⟨"ArmAgainstArmModel", "winsBy", "(II)Z"⟩, 45) := ⟨⟨by decide +kernel, by decide +kernel⟩, List.mem_of_getElem? (i := 911) (by decide +kernel), List.mem_of_getElem? (i := 1258) (by decide +kernel), List.mem_of_getElem? (i := 1259) (by decide +kernel)⟩
theorem lw_p57 : lw_okq (⟨"ArmAgainstArmModel", "toldWrong", "(III)I"⟩, 45) := ⟨⟨by decide +kernel, by decide +kernel⟩, List.mem_of_getElem? (i := 911) (by decide +kernel), List.mem_of_getElem? (i := 1270) (by decide +kernel), List.mem_of_getElem? (i := 1271) (by decide +kernel)⟩
theorem lw_p58 : lw_okq (⟨"ArmAgainstArmModel", "sheetWrong", "(I)I"⟩, 45) := ⟨⟨by decide +kernel, by decide +kernel⟩, List.mem_of_getElem? (i := 911) (by decide +kernel), List.mem_of_getElem? (i := 1274) (by decide +kernel), List.mem_of_getElem? (i := 1275) (by decide +kernel)⟩
theorem lw_p59 : lw_okq (⟨"ArmAgainstArmModel", "unlikeNow", "(III)I"⟩, 45) := ⟨⟨by decide +kernel, by decide +kernel⟩, List.mem_of_getElem? (i := 911) (by decide +kernel), List.mem_of_getElem? (i := 1278) (by decide +kernel), List.mem_of_getElem? (i := 1279) (by decide +kernel)⟩
theorem lw_p60 : lw_okq (⟨"ArmAgainstArmModel", "unlike", "(III)I"⟩, 45) := ⟨⟨by decide +kernel, by decide +kernel⟩, List.mem_of_getElem? (i := 911) (by decide +kernel), List.mem_of_getElem? (i := 1282) (by decide +kernel), List.mem_of_getElem? (i := 1283) (by decide +kernel)⟩
theorem lw_p61 : lw_okq (⟨"ArmAgainstArmModel", "winnerBy", "(III)I"⟩, 45) := ⟨⟨by decide +kernel, by decide +kernel⟩, List.mem_of_getElem? (i := 911) (by decide +kernel), List.mem_of_getElem? (i := 1307) (by decide +kernel), List.mem_of_getElem? (i := 1308) (by decide +kernel)⟩
def lw_privs_4 : List (MethodName × Nat) := [(⟨"ArmAgainstArmModel", "forceOf", "(IIIII)I"⟩, 45), (⟨"ArmAgainstArmModel", "spentBy", "(IIIII)I"⟩, 45), (⟨"ArmAgainstArmModel", "bouts", "(II)V"⟩, 45), (⟨"ArmAgainstArmModel", "winne\x72", "(II)I"⟩, 45), (⟨"ArmAgainstArmModel", "findsBest", "(II)V"⟩, 45), (⟨"ArmAgainstArmModel", "couldBette\x72", "(II)Z"⟩, 45), (⟨"ArmAgainstArmModel", "takesOn", "(IIIII)V"⟩, 45), (⟨"ArmAgainstArmModel", "beatenBy", "(I)I"⟩, 45), (⟨"ArmAgainstArmModel", "winsBy", "(II)Z"⟩, 45), (⟨"ArmAgainstArmModel", "toldWrong", "(III)I"⟩, 45), (⟨"ArmAgainstArmModel", "sheetWrong", "(I)I"⟩, 45), (⟨"ArmAgainstArmModel", "unlikeNow", "(III)I"⟩, 45), (⟨"ArmAgainstArmModel", "unlike", "(III)I"⟩, 45), (⟨"ArmAgainstArmModel", "winnerBy", "(III)I"⟩, 45)]
theorem lw_r4 : ∀ q ∈ lw_privs_4, lw_okq q := List.forall_mem_cons.mpr ⟨lw_p48, List.forall_mem_cons.mpr ⟨lw_p49, List.forall_mem_cons.mpr ⟨lw_p50, List.forall_mem_cons.mpr ⟨lw_p51, List.forall_mem_cons.mpr ⟨lw_p52, List.forall_mem_cons.mpr ⟨lw_p53, List.forall_mem_cons.mpr ⟨lw_p54, List.forall_mem_cons.mpr ⟨lw_p55, List.forall_mem_cons.mpr ⟨lw_p56, List.forall_mem_cons.mpr ⟨lw_p57, List.forall_mem_cons.mpr ⟨lw_p58, List.forall_mem_cons.mpr ⟨lw_p59, List.forall_mem_cons.mpr ⟨lw_p60, List.forall_mem_cons.mpr ⟨lw_p61, fun _ h => absurd h List.not_mem_nil⟩⟩⟩⟩⟩⟩⟩⟩⟩⟩⟩⟩⟩⟩
def lw_privs : List (MethodName × Nat) := lw_privs_1 ++ (lw_privs_2 ++ (lw_privs_3 ++ (lw_privs_4)))
def lw_tbl : List Cond := k2_sels lw_privs ++ tables_1
theorem lw_privs_ok : ∀ q ∈ lw_privs, lw_okq q := by
  show ∀ q ∈ lw_privs_1 ++ (lw_privs_2 ++ (lw_privs_3 ++ (lw_privs_4))), lw_okq q
  exact List.forall_mem_append.mpr ⟨lw_r1, List.forall_mem_append.mpr ⟨lw_r2, List.forall_mem_append.mpr ⟨lw_r3, lw_r4⟩⟩⟩
/-- the words that keep, of all words of the tables -/
def TB : List Cond := lw_tbl.filter goodWord
theorem tb_in {w : Cond} (i : Nat) (h : lw_tbl[i]? = some w) (g : goodWord w = true) : w ∈ TB := List.mem_filter.mpr ⟨List.mem_of_getElem? h, g⟩
theorem tb_all (ws : List Cond) (ps : List Nat) (hp : ws = ps.filterMap (fun i => lw_tbl[i]?)) (hg : ws.all goodWord = true) : ∀ w ∈ ws, w ∈ TB := by
  intro w hw
  have h1 := List.all_eq_true.mp hg w hw
  rw [hp] at hw
  obtain ⟨i, -, hi⟩ := List.mem_filterMap.mp hw
  exact tb_in i hi h1
theorem tb_good {ws : List Cond} (h : ∀ w ∈ ws, w ∈ TB) : GoodIn TB ws := fun w hw => ⟨h w hw, good_of_word (List.mem_filter.mp (h w hw)).2⟩
/-- a method's words: its own code, and the table -/
def wT (y : MethodName) (b : ByteArray) (mL : Nat) (rt : Option FieldType) : List Cond := .code y b mL rt :: TB
theorem tb_wT {y : MethodName} {b : ByteArray} {mL : Nat} {rt : Option FieldType} (h : Cond.code y b mL rt ∈ TB) : ∀ w ∈ wT y b mL rt, w ∈ TB := by
  intro w hw
  rcases List.mem_cons.mp hw with e | e
  · rw [e]; exact h
  · exact e
theorem tb_gV {own C : String} {idx : Nat} {y : MethodName} {b : ByteArray} {mL : Nat} {rt : Option FieldType} (h1 : Cond.methodLink own idx y ∈ TB) (h2 : Cond.instanceMethod y ∈ TB) (h3 : Cond.selects C y y ∈ TB) (h4 : Cond.initialized C ∈ TB) (h5 : Cond.code y b mL rt ∈ TB) : GoodIn TB (wsV own idx C y (wT y b mL rt)) := by
  refine tb_good (fun w hw => ?_)
  rcases List.mem_append.mp hw with e | e
  · rcases List.mem_cons.mp e with e | e
    · rw [e]; exact h1
    rcases List.mem_cons.mp e with e | e
    · rw [e]; exact h2
    rcases List.mem_cons.mp e with e | e
    · rw [e]; exact h3
    rcases List.mem_cons.mp e with e | e
    · rw [e]; exact h4
    · exact absurd e List.not_mem_nil
  · exact tb_wT h5 w e
theorem tb_gS {own : String} {idx : Nat} {y : MethodName} {b : ByteArray} {mL : Nat} {rt : Option FieldType} (h1 : Cond.methodLink own idx y ∈ TB) (h2 : Cond.static y ∈ TB) (h4 : Cond.initialized own ∈ TB) (h5 : Cond.code y b mL rt ∈ TB) : GoodIn TB (wsS own idx y (wT y b mL rt)) := by
  refine tb_good (fun w hw => ?_)
  rcases List.mem_append.mp hw with e | e
  · rcases List.mem_cons.mp e with e | e
    · rw [e]; exact h1
    rcases List.mem_cons.mp e with e | e
    · rw [e]; exact h2
    rcases List.mem_cons.mp e with e | e
    · rw [e]; exact h4
    · exact absurd e List.not_mem_nil
  · exact tb_wT h5 w e
def R_Arm : String := "ArmAgainstArm$Arm"
def T_Arm : u_T := fun k => match k with
  | 0 => ("ArmAgainstArm$Arm", "kind", "I", false)
  | 1 => ("ArmAgainstArm$Arm", "told", "I", false)
  | 2 => ("ArmAgainstArm$Arm", "more", "I", false)
  | 3 => ("ArmAgainstArm$Arm", "late", "I", false)
  | 4 => ("ArmAgainstArm$Arm", "hold", "I", false)
  | 5 => ("ArmAgainstArm$Arm", "plan", "I", false)
  | 6 => ("ArmAgainstArm$Arm", "strong", "Z", false)
  | 7 => ("ArmAgainstArm$Arm", "top", "Z", false)
  | 8 => ("ArmAgainstArm$Arm", "hook", "Z", false)
  | _ => ("ArmAgainstArm$Arm", "heavy", "Z", false)
def t_Arm : Nat → FieldType := fun k => match k with
  | 0 => .int
  | 1 => .int
  | 2 => .int
  | 3 => .int
  | 4 => .int
  | 5 => .int
  | 6 => .boolean
  | 7 => .boolean
  | 8 => .boolean
  | _ => .boolean
theorem n_Arm : ∀ a, a < 10 → ∀ b, b < 10 → a ≠ b → (T_Arm a).2.1 ≠ (T_Arm b).2.1 := by decide +kernel
theorem t_Arm_ok : ∀ k, k < 10 → parseFieldDescriptor (T_Arm k).2.2.1 = some (t_Arm k) := by decide +kernel
theorem i_Arm : ∀ w ∈ u_ws R_Arm T_Arm 10, w ∈ TB := tb_all _ [163, 165, 167, 169, 171, 173, 175, 177, 179, 181] (by decide +kernel) (by decide +kernel)
def R_Bout : String := "ArmAgainstArm$Bout"
def T_Bout : u_T := fun k => match k with
  | 0 => ("ArmAgainstArm$Bout", "a", "LArmAgainstArm$Side;", true)
  | 1 => ("ArmAgainstArm$Bout", "b", "LArmAgainstArm$Side;", true)
  | 2 => ("ArmAgainstArm$Bout", "law", "LArmAgainstArm$Text;", false)
  | 3 => ("ArmAgainstArm$Bout", "angle", "I", false)
  | 4 => ("ArmAgainstArm$Bout", "tenth", "I", false)
  | 5 => ("ArmAgainstArm$Bout", "hurt", "I", false)
  | _ => ("ArmAgainstArm$Bout", "watched", "Z", false)
def t_Bout : Nat → FieldType := fun k => match k with
  | 0 => .object "ArmAgainstArm$Side"
  | 1 => .object "ArmAgainstArm$Side"
  | 2 => .object "ArmAgainstArm$Text"
  | 3 => .int
  | 4 => .int
  | 5 => .int
  | _ => .boolean
theorem n_Bout : ∀ a, a < 7 → ∀ b, b < 7 → a ≠ b → (T_Bout a).2.1 ≠ (T_Bout b).2.1 := by decide +kernel
theorem t_Bout_ok : ∀ k, k < 7 → parseFieldDescriptor (T_Bout k).2.2.1 = some (t_Bout k) := by decide +kernel
theorem i_Bout : ∀ w ∈ u_ws R_Bout T_Bout 7, w ∈ TB := tb_all _ [548, 550, 552, 554, 556, 558, 560] (by decide +kernel) (by decide +kernel)
def R_Image : String := "ArmAgainstArm$Image"
def T_Image : u_T := fun k => match k with
  | 0 => ("ArmAgainstArm$Image", "holds", "[I", true)
  | 1 => ("ArmAgainstArm$Image", "plans", "[I", true)
  | 2 => ("ArmAgainstArm$Image", "there", "Z", false)
  | 3 => ("ArmAgainstArm$Image", "armCount", "I", false)
  | _ => ("ArmAgainstArm$Image", "lawNumbe\x72", "I", false)
def t_Image : Nat → FieldType := fun k => match k with
  | 0 => .array .int
  | 1 => .array .int
  | 2 => .boolean
  | 3 => .int
  | _ => .int
theorem n_Image : ∀ a, a < 5 → ∀ b, b < 5 → a ≠ b → (T_Image a).2.1 ≠ (T_Image b).2.1 := by decide +kernel
theorem t_Image_ok : ∀ k, k < 5 → parseFieldDescriptor (T_Image k).2.2.1 = some (t_Image k) := by decide +kernel
theorem i_Image : ∀ w ∈ u_ws R_Image T_Image 5, w ∈ TB := tb_all _ [126, 128, 130, 132, 134] (by decide +kernel) (by decide +kernel)
def R_Reader : String := "ArmAgainstArm$Reade\x72"
def T_Reader : u_T := fun k => match k with
  | 0 => ("ArmAgainstArm$Reade\x72", "tokens", "LArmAgainstArm$Tokens;", true)
  | 1 => ("ArmAgainstArm$Reade\x72", "made", "LArmAgainstArm$Text;", false)
  | 2 => ("ArmAgainstArm$Reade\x72", "at", "I", false)
  | _ => ("ArmAgainstArm$Reade\x72", "fault", "I", false)
def t_Reader : Nat → FieldType := fun k => match k with
  | 0 => .object "ArmAgainstArm$Tokens"
  | 1 => .object "ArmAgainstArm$Text"
  | 2 => .int
  | _ => .int
theorem n_Reader : ∀ a, a < 4 → ∀ b, b < 4 → a ≠ b → (T_Reader a).2.1 ≠ (T_Reader b).2.1 := by decide +kernel
theorem t_Reader_ok : ∀ k, k < 4 → parseFieldDescriptor (T_Reader k).2.2.1 = some (t_Reader k) := by decide +kernel
theorem i_Reader : ∀ w ∈ u_ws R_Reader T_Reader 4, w ∈ TB := tb_all _ [313, 315, 317, 319] (by decide +kernel) (by decide +kernel)
def R_Seeker : String := "ArmAgainstArm$Seeke\x72"
def T_Seeker : u_T := fun k => match k with
  | 0 => ("ArmAgainstArm$Seeke\x72", "bout", "LArmAgainstArm$Bout;", true)
  | 1 => ("ArmAgainstArm$Seeke\x72", "angles", "[I", true)
  | 2 => ("ArmAgainstArm$Seeke\x72", "holdsA", "[I", true)
  | 3 => ("ArmAgainstArm$Seeke\x72", "holdsB", "[I", true)
  | 4 => ("ArmAgainstArm$Seeke\x72", "plan", "I", false)
  | 5 => ("ArmAgainstArm$Seeke\x72", "angle", "I", false)
  | 6 => ("ArmAgainstArm$Seeke\x72", "hold", "I", false)
  | _ => ("ArmAgainstArm$Seeke\x72", "ownAngle", "I", false)
def t_Seeker : Nat → FieldType := fun k => match k with
  | 0 => .object "ArmAgainstArm$Bout"
  | 1 => .array .int
  | 2 => .array .int
  | 3 => .array .int
  | 4 => .int
  | 5 => .int
  | 6 => .int
  | _ => .int
theorem n_Seeker : ∀ a, a < 8 → ∀ b, b < 8 → a ≠ b → (T_Seeker a).2.1 ≠ (T_Seeker b).2.1 := by decide +kernel
theorem t_Seeker_ok : ∀ k, k < 8 → parseFieldDescriptor (T_Seeker k).2.2.1 = some (t_Seeker k) := by decide +kernel
theorem i_Seeker : ∀ w ∈ u_ws R_Seeker T_Seeker 8, w ∈ TB := tb_all _ [581, 583, 585, 587, 589, 591, 593, 595] (by decide +kernel) (by decide +kernel)
def R_Sheet : String := "ArmAgainstArm$Sheet"
def T_Sheet : u_T := fun k => match k with
  | 0 => ("ArmAgainstArm$Sheet", "numbers", "[I", true)
  | 1 => ("ArmAgainstArm$Sheet", "sort", "I", false)
  | _ => ("ArmAgainstArm$Sheet", "size", "I", false)
def t_Sheet : Nat → FieldType := fun k => match k with
  | 0 => .array .int
  | 1 => .int
  | _ => .int
theorem n_Sheet : ∀ a, a < 3 → ∀ b, b < 3 → a ≠ b → (T_Sheet a).2.1 ≠ (T_Sheet b).2.1 := by decide +kernel
theorem t_Sheet_ok : ∀ k, k < 3 → parseFieldDescriptor (T_Sheet k).2.2.1 = some (t_Sheet k) := by decide +kernel
theorem i_Sheet : ∀ w ∈ u_ws R_Sheet T_Sheet 3, w ∈ TB := tb_all _ [195, 197, 199] (by decide +kernel) (by decide +kernel)
def R_Side : String := "ArmAgainstArm$Side"
def T_Side : u_T := fun k => match k with
  | 0 => ("ArmAgainstArm$Side", "names", "[I", true)
  | 1 => ("ArmAgainstArm$Side", "hold", "I", false)
  | 2 => ("ArmAgainstArm$Side", "plan", "I", false)
  | 3 => ("ArmAgainstArm$Side", "late", "I", false)
  | _ => ("ArmAgainstArm$Side", "arm", "LArmAgainstArm$Arm;", false)
def t_Side : Nat → FieldType := fun k => match k with
  | 0 => .array .int
  | 1 => .int
  | 2 => .int
  | 3 => .int
  | _ => .object "ArmAgainstArm$Arm"
theorem n_Side : ∀ a, a < 5 → ∀ b, b < 5 → a ≠ b → (T_Side a).2.1 ≠ (T_Side b).2.1 := by decide +kernel
theorem t_Side_ok : ∀ k, k < 5 → parseFieldDescriptor (T_Side k).2.2.1 = some (t_Side k) := by decide +kernel
theorem i_Side : ∀ w ∈ u_ws R_Side T_Side 5, w ∈ TB := tb_all _ [519, 521, 523, 525, 527] (by decide +kernel) (by decide +kernel)
def R_Tape : String := "ArmAgainstArm$Tape"
def T_Tape : u_T := fun k => match k with
  | 0 => ("ArmAgainstArm$Tape", "bytes", "[I", true)
  | _ => ("ArmAgainstArm$Tape", "size", "I", false)
def t_Tape : Nat → FieldType := fun k => match k with
  | 0 => .array .int
  | _ => .int
theorem n_Tape : ∀ a, a < 2 → ∀ b, b < 2 → a ≠ b → (T_Tape a).2.1 ≠ (T_Tape b).2.1 := by decide +kernel
theorem t_Tape_ok : ∀ k, k < 2 → parseFieldDescriptor (T_Tape k).2.2.1 = some (t_Tape k) := by decide +kernel
theorem i_Tape : ∀ w ∈ u_ws R_Tape T_Tape 2, w ∈ TB := tb_all _ [105, 107] (by decide +kernel) (by decide +kernel)
def R_Text : String := "ArmAgainstArm$Text"
def T_Text : u_T := fun k => match k with
  | 0 => ("ArmAgainstArm$Text", "stack", "[I", true)
  | 1 => ("ArmAgainstArm$Text", "steps", "[I", true)
  | 2 => ("ArmAgainstArm$Text", "used", "I", false)
  | 3 => ("ArmAgainstArm$Text", "forceEnd", "I", false)
  | _ => ("ArmAgainstArm$Text", "spendsEnd", "I", false)
def t_Text : Nat → FieldType := fun k => match k with
  | 0 => .array .int
  | 1 => .array .int
  | 2 => .int
  | 3 => .int
  | _ => .int
theorem n_Text : ∀ a, a < 5 → ∀ b, b < 5 → a ≠ b → (T_Text a).2.1 ≠ (T_Text b).2.1 := by decide +kernel
theorem t_Text_ok : ∀ k, k < 5 → parseFieldDescriptor (T_Text k).2.2.1 = some (t_Text k) := by decide +kernel
theorem i_Text : ∀ w ∈ u_ws R_Text T_Text 5, w ∈ TB := tb_all _ [212, 214, 216, 218, 220] (by decide +kernel) (by decide +kernel)
def R_Tokens : String := "ArmAgainstArm$Tokens"
def T_Tokens : u_T := fun k => match k with
  | 0 => ("ArmAgainstArm$Tokens", "tape", "LArmAgainstArm$Tape;", true)
  | 1 => ("ArmAgainstArm$Tokens", "kinds", "[I", true)
  | 2 => ("ArmAgainstArm$Tokens", "values", "[I", true)
  | 3 => ("ArmAgainstArm$Tokens", "places", "[I", true)
  | 4 => ("ArmAgainstArm$Tokens", "size", "I", false)
  | _ => ("ArmAgainstArm$Tokens", "next", "I", false)
def t_Tokens : Nat → FieldType := fun k => match k with
  | 0 => .object "ArmAgainstArm$Tape"
  | 1 => .array .int
  | 2 => .array .int
  | 3 => .array .int
  | 4 => .int
  | _ => .int
theorem n_Tokens : ∀ a, a < 6 → ∀ b, b < 6 → a ≠ b → (T_Tokens a).2.1 ≠ (T_Tokens b).2.1 := by decide +kernel
theorem t_Tokens_ok : ∀ k, k < 6 → parseFieldDescriptor (T_Tokens k).2.2.1 = some (t_Tokens k) := by decide +kernel
theorem i_Tokens : ∀ w ∈ u_ws R_Tokens T_Tokens 6, w ∈ TB := tb_all _ [294, 296, 298, 300, 302, 304] (by decide +kernel) (by decide +kernel)
def R_Main : String := "ArmAgainstArm"
def T_Main : u_T := fun k => match k with
  | 0 => ("ArmAgainstArm", "arms", "[LArmAgainstArm$Arm;", true)
  | 1 => ("ArmAgainstArm", "armCount", "I", false)
  | 2 => ("ArmAgainstArm", "texts", "[LArmAgainstArm$Text;", true)
  | 3 => ("ArmAgainstArm", "textCount", "I", false)
  | 4 => ("ArmAgainstArm", "lawNumbe\x72", "I", false)
  | 5 => ("ArmAgainstArm", "tape", "LArmAgainstArm$Tape;", true)
  | 6 => ("ArmAgainstArm", "reade\x72", "LArmAgainstArm$Reader;", true)
  | 7 => ("ArmAgainstArm", "bout", "LArmAgainstArm$Bout;", true)
  | 8 => ("ArmAgainstArm", "seeke\x72", "LArmAgainstArm$Seeker;", true)
  | 9 => ("ArmAgainstArm", "sheets", "[LArmAgainstArm$Sheet;", true)
  | _ => ("ArmAgainstArm", "kept", "LArmAgainstArm$Image;", true)
def t_Main : Nat → FieldType := fun k => match k with
  | 0 => .array (.object "ArmAgainstArm$Arm")
  | 1 => .int
  | 2 => .array (.object "ArmAgainstArm$Text")
  | 3 => .int
  | 4 => .int
  | 5 => .object "ArmAgainstArm$Tape"
  | 6 => .object "ArmAgainstArm$Reade\x72"
  | 7 => .object "ArmAgainstArm$Bout"
  | 8 => .object "ArmAgainstArm$Seeke\x72"
  | 9 => .array (.object "ArmAgainstArm$Sheet")
  | _ => .object "ArmAgainstArm$Image"
theorem n_Main : ∀ a, a < 11 → ∀ b, b < 11 → a ≠ b → (T_Main a).2.1 ≠ (T_Main b).2.1 := by decide +kernel
theorem t_Main_ok : ∀ k, k < 11 → parseFieldDescriptor (T_Main k).2.2.1 = some (t_Main k) := by decide +kernel
theorem i_Main : ∀ w ∈ u_ws R_Main T_Main 11, w ∈ TB := tb_all _ [609, 611, 613, 615, 617, 619, 621, 623, 625, 627, 629] (by decide +kernel) (by decide +kernel)
def R_Model : String := "ArmAgainstArmModel"
def T_Model : u_T := fun k => match k with
  | 0 => ("ArmAgainstArmModel", "arms", "I", false)
  | 1 => ("ArmAgainstArmModel", "kind", "[I", true)
  | 2 => ("ArmAgainstArmModel", "toldOf", "[I", true)
  | 3 => ("ArmAgainstArmModel", "moreOf", "[I", true)
  | 4 => ("ArmAgainstArmModel", "holdOf", "[I", true)
  | 5 => ("ArmAgainstArmModel", "planOf", "[I", true)
  | 6 => ("ArmAgainstArmModel", "tape", "[I", true)
  | 7 => ("ArmAgainstArmModel", "taped", "I", false)
  | 8 => ("ArmAgainstArmModel", "codes", "[I", true)
  | 9 => ("ArmAgainstArmModel", "starts", "[I", true)
  | 10 => ("ArmAgainstArmModel", "texts", "I", false)
  | 11 => ("ArmAgainstArmModel", "rule", "I", false)
  | 12 => ("ArmAgainstArmModel", "hasImage", "Z", false)
  | 13 => ("ArmAgainstArmModel", "imageArms", "I", false)
  | 14 => ("ArmAgainstArmModel", "imageRule", "I", false)
  | 15 => ("ArmAgainstArmModel", "imageHold", "[I", true)
  | 16 => ("ArmAgainstArmModel", "imagePlan", "[I", true)
  | 17 => ("ArmAgainstArmModel", "sheetSort", "[I", true)
  | 18 => ("ArmAgainstArmModel", "sheetSize", "[I", true)
  | 19 => ("ArmAgainstArmModel", "cells", "[I", true)
  | 20 => ("ArmAgainstArmModel", "law", "[I", true)
  | 21 => ("ArmAgainstArmModel", "at", "I", false)
  | 22 => ("ArmAgainstArmModel", "begun", "I", false)
  | 23 => ("ArmAgainstArmModel", "token", "I", false)
  | 24 => ("ArmAgainstArmModel", "value", "I", false)
  | 25 => ("ArmAgainstArmModel", "words", "[I", true)
  | 26 => ("ArmAgainstArmModel", "held", "[I", true)
  | 27 => ("ArmAgainstArmModel", "heldMany", "I", false)
  | 28 => ("ArmAgainstArmModel", "opens", "I", false)
  | 29 => ("ArmAgainstArmModel", "out", "I", false)
  | 30 => ("ArmAgainstArmModel", "stack", "[I", true)
  | 31 => ("ArmAgainstArmModel", "named", "[I", true)
  | 32 => ("ArmAgainstArmModel", "ove\x72", "I", false)
  | 33 => ("ArmAgainstArmModel", "holdA", "I", false)
  | 34 => ("ArmAgainstArmModel", "holdB", "I", false)
  | 35 => ("ArmAgainstArmModel", "hurt", "I", false)
  | 36 => ("ArmAgainstArmModel", "gone", "I", false)
  | 37 => ("ArmAgainstArmModel", "moreLateA", "I", false)
  | 38 => ("ArmAgainstArmModel", "moreLateB", "I", false)
  | 39 => ("ArmAgainstArmModel", "bestPlan", "I", false)
  | 40 => ("ArmAgainstArmModel", "bestOve\x72", "I", false)
  | 41 => ("ArmAgainstArmModel", "bestHold", "I", false)
  | 42 => ("ArmAgainstArmModel", "mostBeaten", "I", false)
  | 43 => ("ArmAgainstArmModel", "firstOrde\x72", "I", false)
  | _ => ("ArmAgainstArmModel", "beaten", "[I", true)
def t_Model : Nat → FieldType := fun k => match k with
  | 0 => .int
  | 1 => .array .int
  | 2 => .array .int
  | 3 => .array .int
  | 4 => .array .int
  | 5 => .array .int
  | 6 => .array .int
  | 7 => .int
  | 8 => .array .int
  | 9 => .array .int
  | 10 => .int
  | 11 => .int
  | 12 => .boolean
  | 13 => .int
  | 14 => .int
  | 15 => .array .int
  | 16 => .array .int
  | 17 => .array .int
  | 18 => .array .int
  | 19 => .array .int
  | 20 => .array .int
  | 21 => .int
  | 22 => .int
  | 23 => .int
  | 24 => .int
  | 25 => .array .int
  | 26 => .array .int
  | 27 => .int
  | 28 => .int
  | 29 => .int
  | 30 => .array .int
  | 31 => .array .int
  | 32 => .int
  | 33 => .int
  | 34 => .int
  | 35 => .int
  | 36 => .int
  | 37 => .int
  | 38 => .int
  | 39 => .int
  | 40 => .int
  | 41 => .int
  | 42 => .int
  | 43 => .int
  | _ => .array .int
theorem n_Model : ∀ a, a < 45 → ∀ b, b < 45 → a ≠ b → (T_Model a).2.1 ≠ (T_Model b).2.1 := by decide +kernel
theorem t_Model_ok : ∀ k, k < 45 → parseFieldDescriptor (T_Model k).2.2.1 = some (t_Model k) := by decide +kernel
theorem i_Model : ∀ w ∈ u_ws R_Model T_Model 45, w ∈ TB := tb_all _ [1070, 1072, 1074, 1076, 1078, 1080, 1082, 1084, 1086, 1088, 1090, 1092, 1094, 1096, 1098, 1100, 1102, 1104, 1106, 1108, 1110, 1112, 1114, 1116, 1118, 1120, 1122, 1124, 1126, 1128, 1130, 1132, 1134, 1136, 1138, 1140, 1142, 1144, 1146, 1148, 1150, 1152, 1154, 1156, 1158] (by decide +kernel) (by decide +kernel)
/-- all classes whose objects the worlds hold -/
abbrev CLS : List vw_C := [(R_Arm, T_Arm, 10), (R_Bout, T_Bout, 7), (R_Image, T_Image, 5), (R_Reader, T_Reader, 4), (R_Seeker, T_Seeker, 8), (R_Sheet, T_Sheet, 3), (R_Side, T_Side, 5), (R_Tape, T_Tape, 2), (R_Text, T_Text, 5), (R_Tokens, T_Tokens, 6), (R_Main, T_Main, 11), (R_Model, T_Model, 45)]
abbrev TYS (cA : Nat → ClassId) : List (ClassId × FieldType) := [(cA 0, .int), (cA 1, .object "ArmAgainstArm$Arm"), (cA 2, .object "ArmAgainstArm$Text"), (cA 3, .object "ArmAgainstArm$Sheet")]
