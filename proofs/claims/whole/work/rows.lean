section
-- ===== PART A: goes FIRST, ahead of the names: the tables' words, and 'selects' of the private methods out of them =====
/-- a private method of a class that the tables say can be made, by its rows of tables_1 -/
def lw_okq (q : MethodName × Nat) : Prop := (q.1.cls ≠ "java/lang/invoke/MethodHandle" ∧ q.1.cls ≠ "java/lang/invoke/VarHandle") ∧ Cond.instantiable q.1.cls q.2 ∈ tables_1 ∧ Cond.privateMethod q.1 ∈ tables_1 ∧ Cond.instanceMethod q.1 ∈ tables_1
theorem lw_p0 : lw_okq (⟨"ArmAgainstArm$Tokens", "takeWord", "()V"⟩, 6) := ⟨⟨by decide +kernel, by decide +kernel⟩, List.mem_of_getElem? (i := 221) (by decide +kernel), List.mem_of_getElem? (i := 288) (by decide +kernel), List.mem_of_getElem? (i := 289) (by decide +kernel)⟩
theorem lw_p1 : lw_okq (⟨"ArmAgainstArm$Tokens", "wordNumbe\x72", "(II)I"⟩, 6) := ⟨⟨by decide +kernel, by decide +kernel⟩, List.mem_of_getElem? (i := 221) (by decide +kernel), List.mem_of_getElem? (i := 292) (by decide +kernel), List.mem_of_getElem? (i := 293) (by decide +kernel)⟩
theorem lw_p2 : lw_okq (⟨"ArmAgainstArm$Tokens", "add", "(III)V"⟩, 6) := ⟨⟨by decide +kernel, by decide +kernel⟩, List.mem_of_getElem? (i := 221) (by decide +kernel), List.mem_of_getElem? (i := 300) (by decide +kernel), List.mem_of_getElem? (i := 301) (by decide +kernel)⟩
theorem lw_p3 : lw_okq (⟨"ArmAgainstArm$Tokens", "takeNumbe\x72", "()V"⟩, 6) := ⟨⟨by decide +kernel, by decide +kernel⟩, List.mem_of_getElem? (i := 221) (by decide +kernel), List.mem_of_getElem? (i := 308) (by decide +kernel), List.mem_of_getElem? (i := 309) (by decide +kernel)⟩
theorem lw_p4 : lw_okq (⟨"ArmAgainstArm$Tokens", "takeSign", "()V"⟩, 6) := ⟨⟨by decide +kernel, by decide +kernel⟩, List.mem_of_getElem? (i := 221) (by decide +kernel), List.mem_of_getElem? (i := 312) (by decide +kernel), List.mem_of_getElem? (i := 313) (by decide +kernel)⟩
theorem lw_p5 : lw_okq (⟨"ArmAgainstArm$Reade\x72", "expect", "(I)V"⟩, 4) := ⟨⟨by decide +kernel, by decide +kernel⟩, List.mem_of_getElem? (i := 215) (by decide +kernel), List.mem_of_getElem? (i := 376) (by decide +kernel), List.mem_of_getElem? (i := 377) (by decide +kernel)⟩
theorem lw_p6 : lw_okq (⟨"ArmAgainstArm$Reade\x72", "is", "(I)Z"⟩, 4) := ⟨⟨by decide +kernel, by decide +kernel⟩, List.mem_of_getElem? (i := 215) (by decide +kernel), List.mem_of_getElem? (i := 380) (by decide +kernel), List.mem_of_getElem? (i := 381) (by decide +kernel)⟩
theorem lw_p7 : lw_okq (⟨"ArmAgainstArm$Reade\x72", "fail", "()V"⟩, 4) := ⟨⟨by decide +kernel, by decide +kernel⟩, List.mem_of_getElem? (i := 215) (by decide +kernel), List.mem_of_getElem? (i := 388) (by decide +kernel), List.mem_of_getElem? (i := 389) (by decide +kernel)⟩
theorem lw_p8 : lw_okq (⟨"ArmAgainstArm$Reade\x72", "readLevel", "(II)V"⟩, 4) := ⟨⟨by decide +kernel, by decide +kernel⟩, List.mem_of_getElem? (i := 215) (by decide +kernel), List.mem_of_getElem? (i := 396) (by decide +kernel), List.mem_of_getElem? (i := 397) (by decide +kernel)⟩
theorem lw_p9 : lw_okq (⟨"ArmAgainstArm$Reade\x72", "readOne", "(I)V"⟩, 4) := ⟨⟨by decide +kernel, by decide +kernel⟩, List.mem_of_getElem? (i := 215) (by decide +kernel), List.mem_of_getElem? (i := 400) (by decide +kernel), List.mem_of_getElem? (i := 401) (by decide +kernel)⟩
theorem lw_p10 : lw_okq (⟨"ArmAgainstArm$Reade\x72", "opens", "(I)Z"⟩, 4) := ⟨⟨by decide +kernel, by decide +kernel⟩, List.mem_of_getElem? (i := 215) (by decide +kernel), List.mem_of_getElem? (i := 412) (by decide +kernel), List.mem_of_getElem? (i := 413) (by decide +kernel)⟩
theorem lw_p11 : lw_okq (⟨"ArmAgainstArm$Reade\x72", "readNot", "(I)V"⟩, 4) := ⟨⟨by decide +kernel, by decide +kernel⟩, List.mem_of_getElem? (i := 215) (by decide +kernel), List.mem_of_getElem? (i := 416) (by decide +kernel), List.mem_of_getElem? (i := 417) (by decide +kernel)⟩
theorem lw_p12 : lw_okq (⟨"ArmAgainstArm$Reade\x72", "isSignOf", "(I)Z"⟩, 4) := ⟨⟨by decide +kernel, by decide +kernel⟩, List.mem_of_getElem? (i := 215) (by decide +kernel), List.mem_of_getElem? (i := 420) (by decide +kernel), List.mem_of_getElem? (i := 421) (by decide +kernel)⟩
theorem lw_p13 : lw_okq (⟨"ArmAgainstArm", "isArm", "(I)Z"⟩, 11) := ⟨⟨by decide +kernel, by decide +kernel⟩, List.mem_of_getElem? (i := 22) (by decide +kernel), List.mem_of_getElem? (i := 595) (by decide +kernel), List.mem_of_getElem? (i := 596) (by decide +kernel)⟩
theorem lw_p14 : lw_okq (⟨"ArmAgainstArm$Text", "worth", "(II[I)I"⟩, 5) := ⟨⟨by decide +kernel, by decide +kernel⟩, List.mem_of_getElem? (i := 140) (by decide +kernel), List.mem_of_getElem? (i := 611) (by decide +kernel), List.mem_of_getElem? (i := 612) (by decide +kernel)⟩
theorem lw_p15 : lw_okq (⟨"ArmAgainstArm", "armComes", "(III)I"⟩, 11) := ⟨⟨by decide +kernel, by decide +kernel⟩, List.mem_of_getElem? (i := 22) (by decide +kernel), List.mem_of_getElem? (i := 628) (by decide +kernel), List.mem_of_getElem? (i := 629) (by decide +kernel)⟩
def lw_privs_1 : List (MethodName × Nat) := [(⟨"ArmAgainstArm$Tokens", "takeWord", "()V"⟩, 6), (⟨"ArmAgainstArm$Tokens", "wordNumbe\x72", "(II)I"⟩, 6), (⟨"ArmAgainstArm$Tokens", "add", "(III)V"⟩, 6), (⟨"ArmAgainstArm$Tokens", "takeNumbe\x72", "()V"⟩, 6), (⟨"ArmAgainstArm$Tokens", "takeSign", "()V"⟩, 6), (⟨"ArmAgainstArm$Reade\x72", "expect", "(I)V"⟩, 4), (⟨"ArmAgainstArm$Reade\x72", "is", "(I)Z"⟩, 4), (⟨"ArmAgainstArm$Reade\x72", "fail", "()V"⟩, 4), (⟨"ArmAgainstArm$Reade\x72", "readLevel", "(II)V"⟩, 4), (⟨"ArmAgainstArm$Reade\x72", "readOne", "(I)V"⟩, 4), (⟨"ArmAgainstArm$Reade\x72", "opens", "(I)Z"⟩, 4), (⟨"ArmAgainstArm$Reade\x72", "readNot", "(I)V"⟩, 4), (⟨"ArmAgainstArm$Reade\x72", "isSignOf", "(I)Z"⟩, 4), (⟨"ArmAgainstArm", "isArm", "(I)Z"⟩, 11), (⟨"ArmAgainstArm$Text", "worth", "(II[I)I"⟩, 5), (⟨"ArmAgainstArm", "armComes", "(III)I"⟩, 11)]
theorem lw_r1 : ∀ q ∈ lw_privs_1, lw_okq q := List.forall_mem_cons.mpr ⟨lw_p0, List.forall_mem_cons.mpr ⟨lw_p1, List.forall_mem_cons.mpr ⟨lw_p2, List.forall_mem_cons.mpr ⟨lw_p3, List.forall_mem_cons.mpr ⟨lw_p4, List.forall_mem_cons.mpr ⟨lw_p5, List.forall_mem_cons.mpr ⟨lw_p6, List.forall_mem_cons.mpr ⟨lw_p7, List.forall_mem_cons.mpr ⟨lw_p8, List.forall_mem_cons.mpr ⟨lw_p9, List.forall_mem_cons.mpr ⟨lw_p10, List.forall_mem_cons.mpr ⟨lw_p11, List.forall_mem_cons.mpr ⟨lw_p12, List.forall_mem_cons.mpr ⟨lw_p13, List.forall_mem_cons.mpr ⟨lw_p14, List.forall_mem_cons.mpr ⟨lw_p15, fun _ h => absurd h List.not_mem_nil⟩⟩⟩⟩⟩⟩⟩⟩⟩⟩⟩⟩⟩⟩⟩⟩
theorem lw_p16 : lw_okq (⟨"ArmAgainstArm", "tellsTwo", "(I)Z"⟩, 11) := ⟨⟨by decide +kernel, by decide +kernel⟩, List.mem_of_getElem? (i := 22) (by decide +kernel), List.mem_of_getElem? (i := 659) (by decide +kernel), List.mem_of_getElem? (i := 660) (by decide +kernel)⟩
theorem lw_p17 : lw_okq (⟨"ArmAgainstArm", "areTwo", "(II)Z"⟩, 11) := ⟨⟨by decide +kernel, by decide +kernel⟩, List.mem_of_getElem? (i := 22) (by decide +kernel), List.mem_of_getElem? (i := 663) (by decide +kernel), List.mem_of_getElem? (i := 664) (by decide +kernel)⟩
theorem lw_p18 : lw_okq (⟨"ArmAgainstArm", "\x6fpen", "(II)V"⟩, 11) := ⟨⟨by decide +kernel, by decide +kernel⟩, List.mem_of_getElem? (i := 22) (by decide +kernel), List.mem_of_getElem? (i := 667) (by decide +kernel), List.mem_of_getElem? (i := 668) (by decide +kernel)⟩
theorem lw_p19 : lw_okq (⟨"ArmAgainstArm", "winne\x72", "(II)I"⟩, 11) := ⟨⟨by decide +kernel, by decide +kernel⟩, List.mem_of_getElem? (i := 22) (by decide +kernel), List.mem_of_getElem? (i := 715) (by decide +kernel), List.mem_of_getElem? (i := 716) (by decide +kernel)⟩
theorem lw_p20 : lw_okq (⟨"ArmAgainstArm$Seeke\x72", "keep", "(I)V"⟩, 8) := ⟨⟨by decide +kernel, by decide +kernel⟩, List.mem_of_getElem? (i := 502) (by decide +kernel), List.mem_of_getElem? (i := 737) (by decide +kernel), List.mem_of_getElem? (i := 738) (by decide +kernel)⟩
theorem lw_p21 : lw_okq (⟨"ArmAgainstArm$Seeke\x72", "playFrom", "(I)V"⟩, 8) := ⟨⟨by decide +kernel, by decide +kernel⟩, List.mem_of_getElem? (i := 502) (by decide +kernel), List.mem_of_getElem? (i := 744) (by decide +kernel), List.mem_of_getElem? (i := 745) (by decide +kernel)⟩
theorem lw_p22 : lw_okq (⟨"ArmAgainstArm$Seeke\x72", "isBette\x72", "()Z"⟩, 8) := ⟨⟨by decide +kernel, by decide +kernel⟩, List.mem_of_getElem? (i := 502) (by decide +kernel), List.mem_of_getElem? (i := 749) (by decide +kernel), List.mem_of_getElem? (i := 750) (by decide +kernel)⟩
theorem lw_p23 : lw_okq (⟨"ArmAgainstArm$Seeke\x72", "take", "()V"⟩, 8) := ⟨⟨by decide +kernel, by decide +kernel⟩, List.mem_of_getElem? (i := 502) (by decide +kernel), List.mem_of_getElem? (i := 753) (by decide +kernel), List.mem_of_getElem? (i := 754) (by decide +kernel)⟩
theorem lw_p24 : lw_okq (⟨"ArmAgainstArm", "wouldWin", "(III)Z"⟩, 11) := ⟨⟨by decide +kernel, by decide +kernel⟩, List.mem_of_getElem? (i := 22) (by decide +kernel), List.mem_of_getElem? (i := 769) (by decide +kernel), List.mem_of_getElem? (i := 770) (by decide +kernel)⟩
theorem lw_p25 : lw_okq (⟨"ArmAgainstArm", "longestOrde\x72", "(IIIII)I"⟩, 11) := ⟨⟨by decide +kernel, by decide +kernel⟩, List.mem_of_getElem? (i := 22) (by decide +kernel), List.mem_of_getElem? (i := 786) (by decide +kernel), List.mem_of_getElem? (i := 787) (by decide +kernel)⟩
theorem lw_p26 : lw_okq (⟨"ArmAgainstArm", "beaten", "(I)I"⟩, 11) := ⟨⟨by decide +kernel, by decide +kernel⟩, List.mem_of_getElem? (i := 22) (by decide +kernel), List.mem_of_getElem? (i := 797) (by decide +kernel), List.mem_of_getElem? (i := 798) (by decide +kernel)⟩
theorem lw_p27 : lw_okq (⟨"ArmAgainstArm", "refusalOfTold", "(I)I"⟩, 11) := ⟨⟨by decide +kernel, by decide +kernel⟩, List.mem_of_getElem? (i := 22) (by decide +kernel), List.mem_of_getElem? (i := 809) (by decide +kernel), List.mem_of_getElem? (i := 810) (by decide +kernel)⟩
theorem lw_p28 : lw_okq (⟨"ArmAgainstArm", "firstOtherwise", "(LArmAgainstArm$Sheet;)I"⟩, 11) := ⟨⟨by decide +kernel, by decide +kernel⟩, List.mem_of_getElem? (i := 22) (by decide +kernel), List.mem_of_getElem? (i := 816) (by decide +kernel), List.mem_of_getElem? (i := 817) (by decide +kernel)⟩
theorem lw_p29 : lw_okq (⟨"ArmAgainstArm", "winnerDrawn", "(III)I"⟩, 11) := ⟨⟨by decide +kernel, by decide +kernel⟩, List.mem_of_getElem? (i := 22) (by decide +kernel), List.mem_of_getElem? (i := 859) (by decide +kernel), List.mem_of_getElem? (i := 860) (by decide +kernel)⟩
theorem lw_p30 : lw_okq (⟨"ArmAgainstArmModel", "next", "()V"⟩, 45) := ⟨⟨by decide +kernel, by decide +kernel⟩, List.mem_of_getElem? (i := 911) (by decide +kernel), List.mem_of_getElem? (i := 921) (by decide +kernel), List.mem_of_getElem? (i := 922) (by decide +kernel)⟩
theorem lw_p31 : lw_okq (⟨"ArmAgainstArmModel", "wordFrom", "(II)I"⟩, 45) := ⟨⟨by decide +kernel, by decide +kernel⟩, List.mem_of_getElem? (i := 911) (by decide +kernel), List.mem_of_getElem? (i := 928) (by decide +kernel), List.mem_of_getElem? (i := 929) (by decide +kernel)⟩
def lw_privs_2 : List (MethodName × Nat) := [(⟨"ArmAgainstArm", "tellsTwo", "(I)Z"⟩, 11), (⟨"ArmAgainstArm", "areTwo", "(II)Z"⟩, 11), (⟨"ArmAgainstArm", "\x6fpen", "(II)V"⟩, 11), (⟨"ArmAgainstArm", "winne\x72", "(II)I"⟩, 11), (⟨"ArmAgainstArm$Seeke\x72", "keep", "(I)V"⟩, 8), (⟨"ArmAgainstArm$Seeke\x72", "playFrom", "(I)V"⟩, 8), (⟨"ArmAgainstArm$Seeke\x72", "isBette\x72", "()Z"⟩, 8), (⟨"ArmAgainstArm$Seeke\x72", "take", "()V"⟩, 8), (⟨"ArmAgainstArm", "wouldWin", "(III)Z"⟩, 11), (⟨"ArmAgainstArm", "longestOrde\x72", "(IIIII)I"⟩, 11), (⟨"ArmAgainstArm", "beaten", "(I)I"⟩, 11), (⟨"ArmAgainstArm", "refusalOfTold", "(I)I"⟩, 11), (⟨"ArmAgainstArm", "firstOtherwise", "(LArmAgainstArm$Sheet;)I"⟩, 11), (⟨"ArmAgainstArm", "winnerDrawn", "(III)I"⟩, 11), (⟨"ArmAgainstArmModel", "next", "()V"⟩, 45), (⟨"ArmAgainstArmModel", "wordFrom", "(II)I"⟩, 45)]
theorem lw_r2 : ∀ q ∈ lw_privs_2, lw_okq q := List.forall_mem_cons.mpr ⟨lw_p16, List.forall_mem_cons.mpr ⟨lw_p17, List.forall_mem_cons.mpr ⟨lw_p18, List.forall_mem_cons.mpr ⟨lw_p19, List.forall_mem_cons.mpr ⟨lw_p20, List.forall_mem_cons.mpr ⟨lw_p21, List.forall_mem_cons.mpr ⟨lw_p22, List.forall_mem_cons.mpr ⟨lw_p23, List.forall_mem_cons.mpr ⟨lw_p24, List.forall_mem_cons.mpr ⟨lw_p25, List.forall_mem_cons.mpr ⟨lw_p26, List.forall_mem_cons.mpr ⟨lw_p27, List.forall_mem_cons.mpr ⟨lw_p28, List.forall_mem_cons.mpr ⟨lw_p29, List.forall_mem_cons.mpr ⟨lw_p30, List.forall_mem_cons.mpr ⟨lw_p31, fun _ h => absurd h List.not_mem_nil⟩⟩⟩⟩⟩⟩⟩⟩⟩⟩⟩⟩⟩⟩⟩⟩
theorem lw_p32 : lw_okq (⟨"ArmAgainstArmModel", "eRead", "()Z"⟩, 45) := ⟨⟨by decide +kernel, by decide +kernel⟩, List.mem_of_getElem? (i := 911) (by decide +kernel), List.mem_of_getElem? (i := 932) (by decide +kernel), List.mem_of_getElem? (i := 933) (by decide +kernel)⟩
theorem lw_p33 : lw_okq (⟨"ArmAgainstArmModel", "puts", "(I)V"⟩, 45) := ⟨⟨by decide +kernel, by decide +kernel⟩, List.mem_of_getElem? (i := 911) (by decide +kernel), List.mem_of_getElem? (i := 937) (by decide +kernel), List.mem_of_getElem? (i := 938) (by decide +kernel)⟩
theorem lw_p34 : lw_okq (⟨"ArmAgainstArmModel", "unwinds", "(I)V"⟩, 45) := ⟨⟨by decide +kernel, by decide +kernel⟩, List.mem_of_getElem? (i := 911) (by decide +kernel), List.mem_of_getElem? (i := 941) (by decide +kernel), List.mem_of_getElem? (i := 942) (by decide +kernel)⟩
theorem lw_p35 : lw_okq (⟨"ArmAgainstArmModel", "opensOne", "(I)Z"⟩, 45) := ⟨⟨by decide +kernel, by decide +kernel⟩, List.mem_of_getElem? (i := 911) (by decide +kernel), List.mem_of_getElem? (i := 948) (by decide +kernel), List.mem_of_getElem? (i := 949) (by decide +kernel)⟩
theorem lw_p36 : lw_okq (⟨"ArmAgainstArmModel", "holds", "(I)V"⟩, 45) := ⟨⟨by decide +kernel, by decide +kernel⟩, List.mem_of_getElem? (i := 911) (by decide +kernel), List.mem_of_getElem? (i := 952) (by decide +kernel), List.mem_of_getElem? (i := 953) (by decide +kernel)⟩
theorem lw_p37 : lw_okq (⟨"ArmAgainstArmModel", "signOf", "()I"⟩, 45) := ⟨⟨by decide +kernel, by decide +kernel⟩, List.mem_of_getElem? (i := 911) (by decide +kernel), List.mem_of_getElem? (i := 956) (by decide +kernel), List.mem_of_getElem? (i := 957) (by decide +kernel)⟩
theorem lw_p38 : lw_okq (⟨"ArmAgainstArmModel", "between", "(I)Z"⟩, 45) := ⟨⟨by decide +kernel, by decide +kernel⟩, List.mem_of_getElem? (i := 911) (by decide +kernel), List.mem_of_getElem? (i := 960) (by decide +kernel), List.mem_of_getElem? (i := 961) (by decide +kernel)⟩
theorem lw_p39 : lw_okq (⟨"ArmAgainstArmModel", "isArm", "(I)Z"⟩, 45) := ⟨⟨by decide +kernel, by decide +kernel⟩, List.mem_of_getElem? (i := 911) (by decide +kernel), List.mem_of_getElem? (i := 1120) (by decide +kernel), List.mem_of_getElem? (i := 1121) (by decide +kernel)⟩
theorem lw_p40 : lw_okq (⟨"ArmAgainstArmModel", "asksOf", "(IIIIII)I"⟩, 45) := ⟨⟨by decide +kernel, by decide +kernel⟩, List.mem_of_getElem? (i := 911) (by decide +kernel), List.mem_of_getElem? (i := 1124) (by decide +kernel), List.mem_of_getElem? (i := 1125) (by decide +kernel)⟩
theorem lw_p41 : lw_okq (⟨"ArmAgainstArmModel", "says", "(I)I"⟩, 45) := ⟨⟨by decide +kernel, by decide +kernel⟩, List.mem_of_getElem? (i := 911) (by decide +kernel), List.mem_of_getElem? (i := 1128) (by decide +kernel), List.mem_of_getElem? (i := 1129) (by decide +kernel)⟩
theorem lw_p42 : lw_okq (⟨"ArmAgainstArmModel", "lateOf", "(I)I"⟩, 45) := ⟨⟨by decide +kernel, by decide +kernel⟩, List.mem_of_getElem? (i := 911) (by decide +kernel), List.mem_of_getElem? (i := 1153) (by decide +kernel), List.mem_of_getElem? (i := 1154) (by decide +kernel)⟩
theorem lw_p43 : lw_okq (⟨"ArmAgainstArmModel", "tellTwo", "(I)Z"⟩, 45) := ⟨⟨by decide +kernel, by decide +kernel⟩, List.mem_of_getElem? (i := 911) (by decide +kernel), List.mem_of_getElem? (i := 1161) (by decide +kernel), List.mem_of_getElem? (i := 1162) (by decide +kernel)⟩
theorem lw_p44 : lw_okq (⟨"ArmAgainstArmModel", "areTwo", "(II)Z"⟩, 45) := ⟨⟨by decide +kernel, by decide +kernel⟩, List.mem_of_getElem? (i := 911) (by decide +kernel), List.mem_of_getElem? (i := 1165) (by decide +kernel), List.mem_of_getElem? (i := 1166) (by decide +kernel)⟩
theorem lw_p45 : lw_okq (⟨"ArmAgainstArmModel", "begins", "(III)V"⟩, 45) := ⟨⟨by decide +kernel, by decide +kernel⟩, List.mem_of_getElem? (i := 911) (by decide +kernel), List.mem_of_getElem? (i := 1169) (by decide +kernel), List.mem_of_getElem? (i := 1170) (by decide +kernel)⟩
theorem lw_p46 : lw_okq (⟨"ArmAgainstArmModel", "goesOn", "(III)V"⟩, 45) := ⟨⟨by decide +kernel, by decide +kernel⟩, List.mem_of_getElem? (i := 911) (by decide +kernel), List.mem_of_getElem? (i := 1173) (by decide +kernel), List.mem_of_getElem? (i := 1174) (by decide +kernel)⟩
theorem lw_p47 : lw_okq (⟨"ArmAgainstArmModel", "tenths", "(III)V"⟩, 45) := ⟨⟨by decide +kernel, by decide +kernel⟩, List.mem_of_getElem? (i := 911) (by decide +kernel), List.mem_of_getElem? (i := 1177) (by decide +kernel), List.mem_of_getElem? (i := 1178) (by decide +kernel)⟩
def lw_privs_3 : List (MethodName × Nat) := [(⟨"ArmAgainstArmModel", "eRead", "()Z"⟩, 45), (⟨"ArmAgainstArmModel", "puts", "(I)V"⟩, 45), (⟨"ArmAgainstArmModel", "unwinds", "(I)V"⟩, 45), (⟨"ArmAgainstArmModel", "opensOne", "(I)Z"⟩, 45), (⟨"ArmAgainstArmModel", "holds", "(I)V"⟩, 45), (⟨"ArmAgainstArmModel", "signOf", "()I"⟩, 45), (⟨"ArmAgainstArmModel", "between", "(I)Z"⟩, 45), (⟨"ArmAgainstArmModel", "isArm", "(I)Z"⟩, 45), (⟨"ArmAgainstArmModel", "asksOf", "(IIIIII)I"⟩, 45), (⟨"ArmAgainstArmModel", "says", "(I)I"⟩, 45), (⟨"ArmAgainstArmModel", "lateOf", "(I)I"⟩, 45), (⟨"ArmAgainstArmModel", "tellTwo", "(I)Z"⟩, 45), (⟨"ArmAgainstArmModel", "areTwo", "(II)Z"⟩, 45), (⟨"ArmAgainstArmModel", "begins", "(III)V"⟩, 45), (⟨"ArmAgainstArmModel", "goesOn", "(III)V"⟩, 45), (⟨"ArmAgainstArmModel", "tenths", "(III)V"⟩, 45)]
theorem lw_r3 : ∀ q ∈ lw_privs_3, lw_okq q := List.forall_mem_cons.mpr ⟨lw_p32, List.forall_mem_cons.mpr ⟨lw_p33, List.forall_mem_cons.mpr ⟨lw_p34, List.forall_mem_cons.mpr ⟨lw_p35, List.forall_mem_cons.mpr ⟨lw_p36, List.forall_mem_cons.mpr ⟨lw_p37, List.forall_mem_cons.mpr ⟨lw_p38, List.forall_mem_cons.mpr ⟨lw_p39, List.forall_mem_cons.mpr ⟨lw_p40, List.forall_mem_cons.mpr ⟨lw_p41, List.forall_mem_cons.mpr ⟨lw_p42, List.forall_mem_cons.mpr ⟨lw_p43, List.forall_mem_cons.mpr ⟨lw_p44, List.forall_mem_cons.mpr ⟨lw_p45, List.forall_mem_cons.mpr ⟨lw_p46, List.forall_mem_cons.mpr ⟨lw_p47, fun _ h => absurd h List.not_mem_nil⟩⟩⟩⟩⟩⟩⟩⟩⟩⟩⟩⟩⟩⟩⟩⟩
theorem lw_p48 : lw_okq (⟨"ArmAgainstArmModel", "forceOf", "(IIIII)I"⟩, 45) := ⟨⟨by decide +kernel, by decide +kernel⟩, List.mem_of_getElem? (i := 911) (by decide +kernel), List.mem_of_getElem? (i := 1184) (by decide +kernel), List.mem_of_getElem? (i := 1185) (by decide +kernel)⟩
theorem lw_p49 : lw_okq (⟨"ArmAgainstArmModel", "spentBy", "(IIIII)I"⟩, 45) := ⟨⟨by decide +kernel, by decide +kernel⟩, List.mem_of_getElem? (i := 911) (by decide +kernel), List.mem_of_getElem? (i := 1188) (by decide +kernel), List.mem_of_getElem? (i := 1189) (by decide +kernel)⟩
theorem lw_p50 : lw_okq (⟨"ArmAgainstArmModel", "bouts", "(II)V"⟩, 45) := ⟨⟨by decide +kernel, by decide +kernel⟩, List.mem_of_getElem? (i := 911) (by decide +kernel), List.mem_of_getElem? (i := 1196) (by decide +kernel), List.mem_of_getElem? (i := 1197) (by decide +kernel)⟩
theorem lw_p51 : lw_okq (⟨"ArmAgainstArmModel", "winne\x72", "(II)I"⟩, 45) := ⟨⟨by decide +kernel, by decide +kernel⟩, List.mem_of_getElem? (i := 911) (by decide +kernel), List.mem_of_getElem? (i := 1200) (by decide +kernel), List.mem_of_getElem? (i := 1201) (by decide +kernel)⟩
theorem lw_p52 : lw_okq (⟨"ArmAgainstArmModel", "findsBest", "(II)V"⟩, 45) := ⟨⟨by decide +kernel, by decide +kernel⟩, List.mem_of_getElem? (i := 911) (by decide +kernel), List.mem_of_getElem? (i := 1216) (by decide +kernel), List.mem_of_getElem? (i := 1217) (by decide +kernel)⟩
theorem lw_p53 : lw_okq (⟨"ArmAgainstArmModel", "couldBette\x72", "(II)Z"⟩, 45) := ⟨⟨by decide +kernel, by decide +kernel⟩, List.mem_of_getElem? (i := 911) (by decide +kernel), List.mem_of_getElem? (i := 1227) (by decide +kernel), List.mem_of_getElem? (i := 1228) (by decide +kernel)⟩
theorem lw_p54 : lw_okq (⟨"ArmAgainstArmModel", "takesOn", "(IIIII)V"⟩, 45) := ⟨⟨by decide +kernel, by decide +kernel⟩, List.mem_of_getElem? (i := 911) (by decide +kernel), List.mem_of_getElem? (i := 1246) (by decide +kernel), List.mem_of_getElem? (i := 1247) (by decide +kernel)⟩
theorem lw_p55 : lw_okq (⟨"ArmAgainstArmModel", "beatenBy", "(I)I"⟩, 45) := ⟨⟨by decide +kernel, by decide +kernel⟩, List.mem_of_getElem? (i := 911) (by decide +kernel), List.mem_of_getElem? (i := 1254) (by decide +kernel), List.mem_of_getElem? (i := 1255) (by decide +kernel)⟩
theorem lw_p56 : lw_okq (⟨"ArmAgainstArmModel", "winsBy", "(II)Z"⟩, 45) := ⟨⟨by decide +kernel, by decide +kernel⟩, List.mem_of_getElem? (i := 911) (by decide +kernel), List.mem_of_getElem? (i := 1258) (by decide +kernel), List.mem_of_getElem? (i := 1259) (by decide +kernel)⟩
theorem lw_p57 : lw_okq (⟨"ArmAgainstArmModel", "toldWrong", "(III)I"⟩, 45) := ⟨⟨by decide +kernel, by decide +kernel⟩, List.mem_of_getElem? (i := 911) (by decide +kernel), List.mem_of_getElem? (i := 1270) (by decide +kernel), List.mem_of_getElem? (i := 1271) (by decide +kernel)⟩
theorem lw_p58 : lw_okq (⟨"ArmAgainstArmModel", "sheetWrong", "(I)I"⟩, 45) := ⟨⟨by decide +kernel, by decide +kernel⟩, List.mem_of_getElem? (i := 911) (by decide +kernel), List.mem_of_getElem? (i := 1274) (by decide +kernel), List.mem_of_getElem? (i := 1275) (by decide +kernel)⟩
theorem lw_p59 : lw_okq (⟨"ArmAgainstArmModel", "unlikeNow", "(III)I"⟩, 45) := ⟨⟨by decide +kernel, by decide +kernel⟩, List.mem_of_getElem? (i := 911) (by decide +kernel), List.mem_of_getElem? (i := 1278) (by decide +kernel), List.mem_of_getElem? (i := 1279) (by decide +kernel)⟩
theorem lw_p60 : lw_okq (⟨"ArmAgainstArmModel", "unlike", "(III)I"⟩, 45) := ⟨⟨by decide +kernel, by decide +kernel⟩, List.mem_of_getElem? (i := 911) (by decide +kernel), List.mem_of_getElem? (i := 1282) (by decide +kernel), List.mem_of_getElem? (i := 1283) (by decide +kernel)⟩
theorem lw_p61 : lw_okq (⟨"ArmAgainstArmModel", "winnerBy", "(III)I"⟩, 45) := ⟨⟨by decide +kernel, by decide +kernel⟩, List.mem_of_getElem? (i := 911) (by decide +kernel), List.mem_of_getElem? (i := 1307) (by decide +kernel), List.mem_of_getElem? (i := 1308) (by decide +kernel)⟩
def lw_privs_4 : List (MethodName × Nat) := [(⟨"ArmAgainstArmModel", "forceOf", "(IIIII)I"⟩, 45), (⟨"ArmAgainstArmModel", "spentBy", "(IIIII)I"⟩, 45), (⟨"ArmAgainstArmModel", "bouts", "(II)V"⟩, 45), (⟨"ArmAgainstArmModel", "winne\x72", "(II)I"⟩, 45), (⟨"ArmAgainstArmModel", "findsBest", "(II)V"⟩, 45), (⟨"ArmAgainstArmModel", "couldBette\x72", "(II)Z"⟩, 45), (⟨"ArmAgainstArmModel", "takesOn", "(IIIII)V"⟩, 45), (⟨"ArmAgainstArmModel", "beatenBy", "(I)I"⟩, 45), (⟨"ArmAgainstArmModel", "winsBy", "(II)Z"⟩, 45), (⟨"ArmAgainstArmModel", "toldWrong", "(III)I"⟩, 45), (⟨"ArmAgainstArmModel", "sheetWrong", "(I)I"⟩, 45), (⟨"ArmAgainstArmModel", "unlikeNow", "(III)I"⟩, 45), (⟨"ArmAgainstArmModel", "unlike", "(III)I"⟩, 45), (⟨"ArmAgainstArmModel", "winnerBy", "(III)I"⟩, 45)]
theorem lw_r4 : ∀ q ∈ lw_privs_4, lw_okq q := List.forall_mem_cons.mpr ⟨lw_p48, List.forall_mem_cons.mpr ⟨lw_p49, List.forall_mem_cons.mpr ⟨lw_p50, List.forall_mem_cons.mpr ⟨lw_p51, List.forall_mem_cons.mpr ⟨lw_p52, List.forall_mem_cons.mpr ⟨lw_p53, List.forall_mem_cons.mpr ⟨lw_p54, List.forall_mem_cons.mpr ⟨lw_p55, List.forall_mem_cons.mpr ⟨lw_p56, List.forall_mem_cons.mpr ⟨lw_p57, List.forall_mem_cons.mpr ⟨lw_p58, List.forall_mem_cons.mpr ⟨lw_p59, List.forall_mem_cons.mpr ⟨lw_p60, List.forall_mem_cons.mpr ⟨lw_p61, fun _ h => absurd h List.not_mem_nil⟩⟩⟩⟩⟩⟩⟩⟩⟩⟩⟩⟩⟩⟩
def lw_privs : List (MethodName × Nat) := lw_privs_1 ++ (lw_privs_2 ++ (lw_privs_3 ++ (lw_privs_4)))
def lw_tbl : List Cond := k2_sels lw_privs ++ tables_1
theorem lw_privs_ok : ∀ q ∈ lw_privs, lw_okq q := by
  show ∀ q ∈ lw_privs_1 ++ (lw_privs_2 ++ (lw_privs_3 ++ (lw_privs_4))), lw_okq q
  exact List.forall_mem_append.mpr ⟨lw_r1, List.forall_mem_append.mpr ⟨lw_r2, List.forall_mem_append.mpr ⟨lw_r3, lw_r4⟩⟩⟩
/-- the words that keep, of all words of the tables -/
def TB : List Cond := lw_tbl.filter goodWord
theorem tb_in {w : Cond} (i : Nat) (h : lw_tbl[i]? = some w) (g : goodWord w = true) : w ∈ TB := List.mem_filter.mpr ⟨List.mem_of_getElem? h, g⟩
theorem tb_all (ws : List Cond) (ps : List Nat) (hp : ws = ps.filterMap (fun i => lw_tbl[i]?)) (hg : ws.all goodWord = true) : ∀ w ∈ ws, w ∈ TB := by
  intro w hw
  have h1 := List.all_eq_true.mp hg w hw
  rw [hp] at hw
  obtain ⟨i, -, hi⟩ := List.mem_filterMap.mp hw
  exact tb_in i hi h1
theorem tb_good {ws : List Cond} (h : ∀ w ∈ ws, w ∈ TB) : GoodIn TB ws := fun w hw => ⟨h w hw, good_of_word (List.mem_filter.mp (h w hw)).2⟩
/-- a method's words: its own code, and the table -/
def wT (y : MethodName) (b : ByteArray) (mL : Nat) (rt : Option FieldType) : List Cond := .code y b mL rt :: TB
theorem tb_wT {y : MethodName} {b : ByteArray} {mL : Nat} {rt : Option FieldType} (h : Cond.code y b mL rt ∈ TB) : ∀ w ∈ wT y b mL rt, w ∈ TB := by
  intro w hw
  rcases List.mem_cons.mp hw with e | e
  · rw [e]; exact h
  · exact e
theorem tb_gV {own C : String} {idx : Nat} {y : MethodName} {b : ByteArray} {mL : Nat} {rt : Option FieldType} (h1 : Cond.methodLink own idx y ∈ TB) (h2 : Cond.instanceMethod y ∈ TB) (h3 : Cond.selects C y y ∈ TB) (h4 : Cond.initialized C ∈ TB) (h5 : Cond.code y b mL rt ∈ TB) : GoodIn TB (wsV own idx C y (wT y b mL rt)) := by
  refine tb_good (fun w hw => ?_)
  rcases List.mem_append.mp hw with e | e
  · rcases List.mem_cons.mp e with e | e
    · rw [e]; exact h1
    rcases List.mem_cons.mp e with e | e
    · rw [e]; exact h2
    rcases List.mem_cons.mp e with e | e
    · rw [e]; exact h3
    rcases List.mem_cons.mp e with e | e
    · rw [e]; exact h4
    · exact absurd e List.not_mem_nil
  · exact tb_wT h5 w e
theorem tb_gS {own : String} {idx : Nat} {y : MethodName} {b : ByteArray} {mL : Nat} {rt : Option FieldType} (h1 : Cond.methodLink own idx y ∈ TB) (h2 : Cond.static y ∈ TB) (h4 : Cond.initialized own ∈ TB) (h5 : Cond.code y b mL rt ∈ TB) : GoodIn TB (wsS own idx y (wT y b mL rt)) := by
  refine tb_good (fun w hw => ?_)
  rcases List.mem_append.mp hw with e | e
  · rcases List.mem_cons.mp e with e | e
    · rw [e]; exact h1
    rcases List.mem_cons.mp e with e | e
    · rw [e]; exact h2
    rcases List.mem_cons.mp e with e | e
    · rw [e]; exact h4
    · exact absurd e List.not_mem_nil
  · exact tb_wT h5 w e
def R_Arm : String := "ArmAgainstArm$Arm"
def T_Arm : u_T := fun k => match k with
  | 0 => ("ArmAgainstArm$Arm", "kind", "I", false)
  | 1 => ("ArmAgainstArm$Arm", "told", "I", false)
  | 2 => ("ArmAgainstArm$Arm", "more", "I", false)
  | 3 => ("ArmAgainstArm$Arm", "late", "I", false)
  | 4 => ("ArmAgainstArm$Arm", "hold", "I", false)
  | 5 => ("ArmAgainstArm$Arm", "plan", "I", false)
  | 6 => ("ArmAgainstArm$Arm", "strong", "Z", false)
  | 7 => ("ArmAgainstArm$Arm", "top", "Z", false)
  | 8 => ("ArmAgainstArm$Arm", "hook", "Z", false)
  | _ => ("ArmAgainstArm$Arm", "heavy", "Z", false)
def t_Arm : Nat → FieldType := fun k => match k with
  | 0 => .int
  | 1 => .int
  | 2 => .int
  | 3 => .int
  | 4 => .int
  | 5 => .int
  | 6 => .boolean
  | 7 => .boolean
  | 8 => .boolean
  | _ => .boolean
theorem n_Arm : ∀ a, a < 10 → ∀ b, b < 10 → a ≠ b → (T_Arm a).2.1 ≠ (T_Arm b).2.1 := by decide +kernel
theorem t_Arm_ok : ∀ k, k < 10 → parseFieldDescriptor (T_Arm k).2.2.1 = some (t_Arm k) := by decide +kernel
theorem i_Arm : ∀ w ∈ u_ws R_Arm T_Arm 10, w ∈ TB := tb_all _ [163, 165, 167, 169, 171, 173, 175, 177, 179, 181] (by decide +kernel) (by decide +kernel)
def R_Bout : String := "ArmAgainstArm$Bout"
def T_Bout : u_T := fun k => match k with
  | 0 => ("ArmAgainstArm$Bout", "a", "LArmAgainstArm$Side;", true)
  | 1 => ("ArmAgainstArm$Bout", "b", "LArmAgainstArm$Side;", true)
  | 2 => ("ArmAgainstArm$Bout", "law", "LArmAgainstArm$Text;", false)
  | 3 => ("ArmAgainstArm$Bout", "angle", "I", false)
  | 4 => ("ArmAgainstArm$Bout", "tenth", "I", false)
  | 5 => ("ArmAgainstArm$Bout", "hurt", "I", false)
  | _ => ("ArmAgainstArm$Bout", "watched", "Z", false)
def t_Bout : Nat → FieldType := fun k => match k with
  | 0 => .object "ArmAgainstArm$Side"
  | 1 => .object "ArmAgainstArm$Side"
  | 2 => .object "ArmAgainstArm$Text"
  | 3 => .int
  | 4 => .int
  | 5 => .int
  | _ => .boolean
theorem n_Bout : ∀ a, a < 7 → ∀ b, b < 7 → a ≠ b → (T_Bout a).2.1 ≠ (T_Bout b).2.1 := by decide +kernel
theorem t_Bout_ok : ∀ k, k < 7 → parseFieldDescriptor (T_Bout k).2.2.1 = some (t_Bout k) := by decide +kernel
theorem i_Bout : ∀ w ∈ u_ws R_Bout T_Bout 7, w ∈ TB := tb_all _ [548, 550, 552, 554, 556, 558, 560] (by decide +kernel) (by decide +kernel)
def R_Image : String := "ArmAgainstArm$Image"
def T_Image : u_T := fun k => match k with
  | 0 => ("ArmAgainstArm$Image", "holds", "[I", true)
  | 1 => ("ArmAgainstArm$Image", "plans", "[I", true)
  | 2 => ("ArmAgainstArm$Image", "there", "Z", false)
  | 3 => ("ArmAgainstArm$Image", "armCount", "I", false)
  | _ => ("ArmAgainstArm$Image", "lawNumbe\x72", "I", false)
def t_Image : Nat → FieldType := fun k => match k with
  | 0 => .array .int
  | 1 => .array .int
  | 2 => .boolean
  | 3 => .int
  | _ => .int
theorem n_Image : ∀ a, a < 5 → ∀ b, b < 5 → a ≠ b → (T_Image a).2.1 ≠ (T_Image b).2.1 := by decide +kernel
theorem t_Image_ok : ∀ k, k < 5 → parseFieldDescriptor (T_Image k).2.2.1 = some (t_Image k) := by decide +kernel
theorem i_Image : ∀ w ∈ u_ws R_Image T_Image 5, w ∈ TB := tb_all _ [126, 128, 130, 132, 134] (by decide +kernel) (by decide +kernel)
def R_Reader : String := "ArmAgainstArm$Reade\x72"
def T_Reader : u_T := fun k => match k with
  | 0 => ("ArmAgainstArm$Reade\x72", "tokens", "LArmAgainstArm$Tokens;", true)
  | 1 => ("ArmAgainstArm$Reade\x72", "made", "LArmAgainstArm$Text;", false)
  | 2 => ("ArmAgainstArm$Reade\x72", "at", "I", false)
  | _ => ("ArmAgainstArm$Reade\x72", "fault", "I", false)
def t_Reader : Nat → FieldType := fun k => match k with
  | 0 => .object "ArmAgainstArm$Tokens"
  | 1 => .object "ArmAgainstArm$Text"
  | 2 => .int
  | _ => .int
theorem n_Reader : ∀ a, a < 4 → ∀ b, b < 4 → a ≠ b → (T_Reader a).2.1 ≠ (T_Reader b).2.1 := by decide +kernel
theorem t_Reader_ok : ∀ k, k < 4 → parseFieldDescriptor (T_Reader k).2.2.1 = some (t_Reader k) := by decide +kernel
theorem i_Reader : ∀ w ∈ u_ws R_Reader T_Reader 4, w ∈ TB := tb_all _ [313, 315, 317, 319] (by decide +kernel) (by decide +kernel)
def R_Seeker : String := "ArmAgainstArm$Seeke\x72"
def T_Seeker : u_T := fun k => match k with
  | 0 => ("ArmAgainstArm$Seeke\x72", "bout", "LArmAgainstArm$Bout;", true)
  | 1 => ("ArmAgainstArm$Seeke\x72", "angles", "[I", true)
  | 2 => ("ArmAgainstArm$Seeke\x72", "holdsA", "[I", true)
  | 3 => ("ArmAgainstArm$Seeke\x72", "holdsB", "[I", true)
  | 4 => ("ArmAgainstArm$Seeke\x72", "plan", "I", false)
  | 5 => ("ArmAgainstArm$Seeke\x72", "angle", "I", false)
  | 6 => ("ArmAgainstArm$Seeke\x72", "hold", "I", false)
  | _ => ("ArmAgainstArm$Seeke\x72", "ownAngle", "I", false)
def t_Seeker : Nat → FieldType := fun k => match k with
  | 0 => .object "ArmAgainstArm$Bout"
  | 1 => .array .int
  | 2 => .array .int
  | 3 => .array .int
  | 4 => .int
  | 5 => .int
  | 6 => .int
  | _ => .int
theorem n_Seeker : ∀ a, a < 8 → ∀ b, b < 8 → a ≠ b → (T_Seeker a).2.1 ≠ (T_Seeker b).2.1 := by decide +kernel
theorem t_Seeker_ok : ∀ k, k < 8 → parseFieldDescriptor (T_Seeker k).2.2.1 = some (t_Seeker k) := by decide +kernel
theorem i_Seeker : ∀ w ∈ u_ws R_Seeker T_Seeker 8, w ∈ TB := tb_all _ [581, 583, 585, 587, 589, 591, 593, 595] (by decide +kernel) (by decide +kernel)
def R_Sheet : String := "ArmAgainstArm$Sheet"
def T_Sheet : u_T := fun k => match k with
  | 0 => ("ArmAgainstArm$Sheet", "numbers", "[I", true)
  | 1 => ("ArmAgainstArm$Sheet", "sort", "I", false)
  | _ => ("ArmAgainstArm$Sheet", "size", "I", false)
def t_Sheet : Nat → FieldType := fun k => match k with
  | 0 => .array .int
  | 1 => .int
  | _ => .int
theorem n_Sheet : ∀ a, a < 3 → ∀ b, b < 3 → a ≠ b → (T_Sheet a).2.1 ≠ (T_Sheet b).2.1 := by decide +kernel
theorem t_Sheet_ok : ∀ k, k < 3 → parseFieldDescriptor (T_Sheet k).2.2.1 = some (t_Sheet k) := by decide +kernel
theorem i_Sheet : ∀ w ∈ u_ws R_Sheet T_Sheet 3, w ∈ TB := tb_all _ [195, 197, 199] (by decide +kernel) (by decide +kernel)
def R_Side : String := "ArmAgainstArm$Side"
def T_Side : u_T := fun k => match k with
  | 0 => ("ArmAgainstArm$Side", "names", "[I", true)
  | 1 => ("ArmAgainstArm$Side", "hold", "I", false)
  | 2 => ("ArmAgainstArm$Side", "plan", "I", false)
  | 3 => ("ArmAgainstArm$Side", "late", "I", false)
  | _ => ("ArmAgainstArm$Side", "arm", "LArmAgainstArm$Arm;", false)
def t_Side : Nat → FieldType := fun k => match k with
  | 0 => .array .int
  | 1 => .int
  | 2 => .int
  | 3 => .int
  | _ => .object "ArmAgainstArm$Arm"
theorem n_Side : ∀ a, a < 5 → ∀ b, b < 5 → a ≠ b → (T_Side a).2.1 ≠ (T_Side b).2.1 := by decide +kernel
theorem t_Side_ok : ∀ k, k < 5 → parseFieldDescriptor (T_Side k).2.2.1 = some (t_Side k) := by decide +kernel
theorem i_Side : ∀ w ∈ u_ws R_Side T_Side 5, w ∈ TB := tb_all _ [519, 521, 523, 525, 527] (by decide +kernel) (by decide +kernel)
def R_Tape : String := "ArmAgainstArm$Tape"
def T_Tape : u_T := fun k => match k with
  | 0 => ("ArmAgainstArm$Tape", "bytes", "[I", true)
  | _ => ("ArmAgainstArm$Tape", "size", "I", false)
def t_Tape : Nat → FieldType := fun k => match k with
  | 0 => .array .int
  | _ => .int
theorem n_Tape : ∀ a, a < 2 → ∀ b, b < 2 → a ≠ b → (T_Tape a).2.1 ≠ (T_Tape b).2.1 := by decide +kernel
theorem t_Tape_ok : ∀ k, k < 2 → parseFieldDescriptor (T_Tape k).2.2.1 = some (t_Tape k) := by decide +kernel
theorem i_Tape : ∀ w ∈ u_ws R_Tape T_Tape 2, w ∈ TB := tb_all _ [105, 107] (by decide +kernel) (by decide +kernel)
def R_Text : String := "ArmAgainstArm$Text"
def T_Text : u_T := fun k => match k with
  | 0 => ("ArmAgainstArm$Text", "stack", "[I", true)
  | 1 => ("ArmAgainstArm$Text", "steps", "[I", true)
  | 2 => ("ArmAgainstArm$Text", "used", "I", false)
  | 3 => ("ArmAgainstArm$Text", "forceEnd", "I", false)
  | _ => ("ArmAgainstArm$Text", "spendsEnd", "I", false)
def t_Text : Nat → FieldType := fun k => match k with
  | 0 => .array .int
  | 1 => .array .int
  | 2 => .int
  | 3 => .int
  | _ => .int
theorem n_Text : ∀ a, a < 5 → ∀ b, b < 5 → a ≠ b → (T_Text a).2.1 ≠ (T_Text b).2.1 := by decide +kernel
theorem t_Text_ok : ∀ k, k < 5 → parseFieldDescriptor (T_Text k).2.2.1 = some (t_Text k) := by decide +kernel
theorem i_Text : ∀ w ∈ u_ws R_Text T_Text 5, w ∈ TB := tb_all _ [212, 214, 216, 218, 220] (by decide +kernel) (by decide +kernel)
def R_Tokens : String := "ArmAgainstArm$Tokens"
def T_Tokens : u_T := fun k => match k with
  | 0 => ("ArmAgainstArm$Tokens", "tape", "LArmAgainstArm$Tape;", true)
  | 1 => ("ArmAgainstArm$Tokens", "kinds", "[I", true)
  | 2 => ("ArmAgainstArm$Tokens", "values", "[I", true)
  | 3 => ("ArmAgainstArm$Tokens", "places", "[I", true)
  | 4 => ("ArmAgainstArm$Tokens", "size", "I", false)
  | _ => ("ArmAgainstArm$Tokens", "next", "I", false)
def t_Tokens : Nat → FieldType := fun k => match k with
  | 0 => .object "ArmAgainstArm$Tape"
  | 1 => .array .int
  | 2 => .array .int
  | 3 => .array .int
  | 4 => .int
  | _ => .int
theorem n_Tokens : ∀ a, a < 6 → ∀ b, b < 6 → a ≠ b → (T_Tokens a).2.1 ≠ (T_Tokens b).2.1 := by decide +kernel
theorem t_Tokens_ok : ∀ k, k < 6 → parseFieldDescriptor (T_Tokens k).2.2.1 = some (t_Tokens k) := by decide +kernel
theorem i_Tokens : ∀ w ∈ u_ws R_Tokens T_Tokens 6, w ∈ TB := tb_all _ [294, 296, 298, 300, 302, 304] (by decide +kernel) (by decide +kernel)
def R_Main : String := "ArmAgainstArm"
def T_Main : u_T := fun k => match k with
  | 0 => ("ArmAgainstArm", "arms", "[LArmAgainstArm$Arm;", true)
  | 1 => ("ArmAgainstArm", "armCount", "I", false)
  | 2 => ("ArmAgainstArm", "texts", "[LArmAgainstArm$Text;", true)
  | 3 => ("ArmAgainstArm", "textCount", "I", false)
  | 4 => ("ArmAgainstArm", "lawNumbe\x72", "I", false)
  | 5 => ("ArmAgainstArm", "tape", "LArmAgainstArm$Tape;", true)
  | 6 => ("ArmAgainstArm", "reade\x72", "LArmAgainstArm$Reader;", true)
  | 7 => ("ArmAgainstArm", "bout", "LArmAgainstArm$Bout;", true)
  | 8 => ("ArmAgainstArm", "seeke\x72", "LArmAgainstArm$Seeker;", true)
  | 9 => ("ArmAgainstArm", "sheets", "[LArmAgainstArm$Sheet;", true)
  | _ => ("ArmAgainstArm", "kept", "LArmAgainstArm$Image;", true)
def t_Main : Nat → FieldType := fun k => match k with
  | 0 => .array (.object "ArmAgainstArm$Arm")
  | 1 => .int
  | 2 => .array (.object "ArmAgainstArm$Text")
  | 3 => .int
  | 4 => .int
  | 5 => .object "ArmAgainstArm$Tape"
  | 6 => .object "ArmAgainstArm$Reade\x72"
  | 7 => .object "ArmAgainstArm$Bout"
  | 8 => .object "ArmAgainstArm$Seeke\x72"
  | 9 => .array (.object "ArmAgainstArm$Sheet")
  | _ => .object "ArmAgainstArm$Image"
theorem n_Main : ∀ a, a < 11 → ∀ b, b < 11 → a ≠ b → (T_Main a).2.1 ≠ (T_Main b).2.1 := by decide +kernel
theorem t_Main_ok : ∀ k, k < 11 → parseFieldDescriptor (T_Main k).2.2.1 = some (t_Main k) := by decide +kernel
theorem i_Main : ∀ w ∈ u_ws R_Main T_Main 11, w ∈ TB := tb_all _ [609, 611, 613, 615, 617, 619, 621, 623, 625, 627, 629] (by decide +kernel) (by decide +kernel)
def R_Model : String := "ArmAgainstArmModel"
def T_Model : u_T := fun k => match k with
  | 0 => ("ArmAgainstArmModel", "arms", "I", false)
  | 1 => ("ArmAgainstArmModel", "kind", "[I", true)
  | 2 => ("ArmAgainstArmModel", "toldOf", "[I", true)
  | 3 => ("ArmAgainstArmModel", "moreOf", "[I", true)
  | 4 => ("ArmAgainstArmModel", "holdOf", "[I", true)
  | 5 => ("ArmAgainstArmModel", "planOf", "[I", true)
  | 6 => ("ArmAgainstArmModel", "tape", "[I", true)
  | 7 => ("ArmAgainstArmModel", "taped", "I", false)
  | 8 => ("ArmAgainstArmModel", "codes", "[I", true)
  | 9 => ("ArmAgainstArmModel", "starts", "[I", true)
  | 10 => ("ArmAgainstArmModel", "texts", "I", false)
  | 11 => ("ArmAgainstArmModel", "rule", "I", false)
  | 12 => ("ArmAgainstArmModel", "hasImage", "Z", false)
  | 13 => ("ArmAgainstArmModel", "imageArms", "I", false)
  | 14 => ("ArmAgainstArmModel", "imageRule", "I", false)
  | 15 => ("ArmAgainstArmModel", "imageHold", "[I", true)
  | 16 => ("ArmAgainstArmModel", "imagePlan", "[I", true)
  | 17 => ("ArmAgainstArmModel", "sheetSort", "[I", true)
  | 18 => ("ArmAgainstArmModel", "sheetSize", "[I", true)
  | 19 => ("ArmAgainstArmModel", "cells", "[I", true)
  | 20 => ("ArmAgainstArmModel", "law", "[I", true)
  | 21 => ("ArmAgainstArmModel", "at", "I", false)
  | 22 => ("ArmAgainstArmModel", "begun", "I", false)
  | 23 => ("ArmAgainstArmModel", "token", "I", false)
  | 24 => ("ArmAgainstArmModel", "value", "I", false)
  | 25 => ("ArmAgainstArmModel", "words", "[I", true)
  | 26 => ("ArmAgainstArmModel", "held", "[I", true)
  | 27 => ("ArmAgainstArmModel", "heldMany", "I", false)
  | 28 => ("ArmAgainstArmModel", "opens", "I", false)
  | 29 => ("ArmAgainstArmModel", "out", "I", false)
  | 30 => ("ArmAgainstArmModel", "stack", "[I", true)
  | 31 => ("ArmAgainstArmModel", "named", "[I", true)
  | 32 => ("ArmAgainstArmModel", "ove\x72", "I", false)
  | 33 => ("ArmAgainstArmModel", "holdA", "I", false)
  | 34 => ("ArmAgainstArmModel", "holdB", "I", false)
  | 35 => ("ArmAgainstArmModel", "hurt", "I", false)
  | 36 => ("ArmAgainstArmModel", "gone", "I", false)
  | 37 => ("ArmAgainstArmModel", "moreLateA", "I", false)
  | 38 => ("ArmAgainstArmModel", "moreLateB", "I", false)
  | 39 => ("ArmAgainstArmModel", "bestPlan", "I", false)
  | 40 => ("ArmAgainstArmModel", "bestOve\x72", "I", false)
  | 41 => ("ArmAgainstArmModel", "bestHold", "I", false)
  | 42 => ("ArmAgainstArmModel", "mostBeaten", "I", false)
  | 43 => ("ArmAgainstArmModel", "firstOrde\x72", "I", false)
  | _ => ("ArmAgainstArmModel", "beaten", "[I", true)
def t_Model : Nat → FieldType := fun k => match k with
  | 0 => .int
  | 1 => .array .int
  | 2 => .array .int
  | 3 => .array .int
  | 4 => .array .int
  | 5 => .array .int
  | 6 => .array .int
  | 7 => .int
  | 8 => .array .int
  | 9 => .array .int
  | 10 => .int
  | 11 => .int
  | 12 => .boolean
  | 13 => .int
  | 14 => .int
  | 15 => .array .int
  | 16 => .array .int
  | 17 => .array .int
  | 18 => .array .int
  | 19 => .array .int
  | 20 => .array .int
  | 21 => .int
  | 22 => .int
  | 23 => .int
  | 24 => .int
  | 25 => .array .int
  | 26 => .array .int
  | 27 => .int
  | 28 => .int
  | 29 => .int
  | 30 => .array .int
  | 31 => .array .int
  | 32 => .int
  | 33 => .int
  | 34 => .int
  | 35 => .int
  | 36 => .int
  | 37 => .int
  | 38 => .int
  | 39 => .int
  | 40 => .int
  | 41 => .int
  | 42 => .int
  | 43 => .int
  | _ => .array .int
theorem n_Model : ∀ a, a < 45 → ∀ b, b < 45 → a ≠ b → (T_Model a).2.1 ≠ (T_Model b).2.1 := by decide +kernel
theorem t_Model_ok : ∀ k, k < 45 → parseFieldDescriptor (T_Model k).2.2.1 = some (t_Model k) := by decide +kernel
theorem i_Model : ∀ w ∈ u_ws R_Model T_Model 45, w ∈ TB := tb_all _ [1070, 1072, 1074, 1076, 1078, 1080, 1082, 1084, 1086, 1088, 1090, 1092, 1094, 1096, 1098, 1100, 1102, 1104, 1106, 1108, 1110, 1112, 1114, 1116, 1118, 1120, 1122, 1124, 1126, 1128, 1130, 1132, 1134, 1136, 1138, 1140, 1142, 1144, 1146, 1148, 1150, 1152, 1154, 1156, 1158] (by decide +kernel) (by decide +kernel)
/-- all classes whose objects the worlds hold -/
abbrev CLS : List vw_C := [(R_Arm, T_Arm, 10), (R_Bout, T_Bout, 7), (R_Image, T_Image, 5), (R_Reader, T_Reader, 4), (R_Seeker, T_Seeker, 8), (R_Sheet, T_Sheet, 3), (R_Side, T_Side, 5), (R_Tape, T_Tape, 2), (R_Text, T_Text, 5), (R_Tokens, T_Tokens, 6), (R_Main, T_Main, 11), (R_Model, T_Model, 45)]
abbrev TYS (cA : Nat → ClassId) : List (ClassId × FieldType) := [(cA 0, .int), (cA 1, .object "ArmAgainstArm$Arm"), (cA 2, .object "ArmAgainstArm$Text"), (cA 3, .object "ArmAgainstArm$Sheet")]
end
section
/-! ===== one world for all methods: a store of ints and one of places, over a fixed shape ===== -/
/-- the store: cell, slot -> int; cell, slot -> place -/
abbrev St : Type := (Nat → Nat → Int32) × (Nat → Nat → Nat)
/-- a cell's shape: an object (its class, its fields: 0 an int, 1 a place of the store, k + 2 the cell k), a row of so many ints, a row of so many cells from one on (and its class) -/
abbrev Sh : Type := (Nat × List Nat) ⊕ (Nat ⊕ (Nat × Nat × Nat))
def s_fv (ad : Nat → Nat) (f : Nat → Int32) (g : Nat → Nat) (j k : Nat) : Value := match k with
  | 0 => .int (f j)
  | 1 => .ref (ad (g j))
  | k + 2 => .ref (ad k)
def s_fs (ad : Nat → Nat) (f : Nat → Int32) (g : Nat → Nat) (ks : List Nat) : List Value := ks.mapIdx (fun j k => s_fv ad f g j k)
def s_cell (cA : Nat → ClassId) (ad : Nat → Nat) (x : Sh) (f : Nat → Int32) (g : Nat → Nat) : va_E := match x with
  | .inl (ci, ks) => .inr (ci, s_fs ad f g ks)
  | .inr (.inl n) => .inl (cA 0, n, .inl f)
  | .inr (.inr (t, b, n)) => .inl (cA t, n, .inr (.inr (.inr (.inr (fun i => some (ad (b + i)))))))
def Wd (cA : Nat → ClassId) (ad : Nat → Nat) (sh : List Sh) (σ : St) : va_W := sh.mapIdx (fun p x => (ad p, s_cell cA ad x (σ.1 p) (σ.2 p)))
def up1 (σ : St) (p j : Nat) (x : Int32) : St := (fun q i => if q = p ∧ i = j then x else σ.1 q i, σ.2)
def up2 (σ : St) (p j : Nat) (r : Nat) : St := (σ.1, fun q i => if q = p ∧ i = j then r else σ.2 q i)
theorem Wd_at {cA : Nat → ClassId} {ad : Nat → Nat} {sh : List Sh} {σ : St} {p : Nat} {x : Sh} (h : sh[p]? = some x) : (Wd cA ad sh σ)[p]? = some (ad p, s_cell cA ad x (σ.1 p) (σ.2 p)) := by
  simp [Wd, List.getElem?_mapIdx, h]
theorem Wd_inv {cA : Nat → ClassId} {ad : Nat → Nat} {sh : List Sh} {σ : St} {p : Nat} {q : Nat × va_E} (h : (Wd cA ad sh σ)[p]? = some q) : ∃ x, sh[p]? = some x ∧ q = (ad p, s_cell cA ad x (σ.1 p) (σ.2 p)) := by
  rw [Wd, List.getElem?_mapIdx] at h
  cases hx : sh[p]? with
  | none => rw [hx] at h; cases h
  | some x => rw [hx] at h; exact ⟨x, rfl, (Option.some.inj h).symm⟩
theorem s_fs_set {ad : Nat → Nat} {f f2 : Nat → Int32} {g g2 : Nat → Nat} {ks : List Nat} {j : Nat} {v : Value} {k : Nat} (hk : ks[j]? = some k) (hv : v = s_fv ad f2 g2 j k) (ho : ∀ i k', i ≠ j → s_fv ad f2 g2 i k' = s_fv ad f g i k') : (s_fs ad f g ks).set j v = s_fs ad f2 g2 ks := by
  have hl := (List.getElem?_eq_some_iff.mp hk).1
  apply List.ext_getElem?
  intro i
  by_cases hi : i = j
  · subst hi
    rw [List.getElem?_set_self (by simp [s_fs]; exact hl)]
    simp [s_fs, List.getElem?_mapIdx, hk, hv]
  · rw [List.getElem?_set_ne (Ne.symm hi)]
    simp only [s_fs, List.getElem?_mapIdx]
    cases hq : ks[i]? with
    | none => rfl
    | some k' => simp [ho i k' hi]
theorem Wd_set {cA : Nat → ClassId} {ad : Nat → Nat} {sh : List Sh} {σ τ : St} {p : Nat} {x : Sh} {c : va_E} (h : sh[p]? = some x) (hc : c = s_cell cA ad x (τ.1 p) (τ.2 p)) (ho : ∀ q y, q ≠ p → s_cell cA ad y (τ.1 q) (τ.2 q) = s_cell cA ad y (σ.1 q) (σ.2 q)) : (Wd cA ad sh σ).set p (ad p, c) = Wd cA ad sh τ := by
  have hl := (List.getElem?_eq_some_iff.mp h).1
  apply List.ext_getElem?
  intro i
  by_cases hi : i = p
  · subst hi
    rw [List.getElem?_set_self (by simp [Wd]; exact hl), Wd_at h, hc]
  · rw [List.getElem?_set_ne (Ne.symm hi)]
    cases hq : sh[i]? with
    | none => simp [Wd, List.getElem?_mapIdx, hq]
    | some y => rw [Wd_at hq, Wd_at hq, ho i y hi]
theorem up1_ne {σ : St} {p j q : Nat} {x : Int32} (h : q ≠ p) : (up1 σ p j x).1 q = σ.1 q := by
  funext i; simp [up1, h]
theorem up2_ne {σ : St} {p j q : Nat} {x : Nat} (h : q ≠ p) : (up2 σ p j x).2 q = σ.2 q := by
  funext i; simp [up2, h]
theorem Wd_setI {cA : Nat → ClassId} {ad : Nat → Nat} {sh : List Sh} {σ : St} {p j ci : Nat} {ks : List Nat} {x : Int32} (h : sh[p]? = some (.inl (ci, ks))) (hk : ks[j]? = some 0) : (Wd cA ad sh σ).set p (ad p, .inr (ci, (s_fs ad (σ.1 p) (σ.2 p) ks).set j (.int x))) = Wd cA ad sh (up1 σ p j x) := by
  refine Wd_set h ?_ (fun q y hq => by rw [up1_ne hq]; rfl)
  show _ = Sum.inr (ci, s_fs ad _ _ ks)
  rw [s_fs_set (f2 := (up1 σ p j x).1 p) (g2 := σ.2 p) hk (by simp [s_fv, up1])]
  · rfl
  · intro i k' hi
    match k' with
    | 0 => simp [s_fv, up1, hi]
    | 1 => rfl
    | k + 2 => rfl
theorem Wd_setR {cA : Nat → ClassId} {ad : Nat → Nat} {sh : List Sh} {σ : St} {p j ci : Nat} {ks : List Nat} {r : Nat} (h : sh[p]? = some (.inl (ci, ks))) (hk : ks[j]? = some 1) : (Wd cA ad sh σ).set p (ad p, .inr (ci, (s_fs ad (σ.1 p) (σ.2 p) ks).set j (.ref (ad r)))) = Wd cA ad sh (up2 σ p j r) := by
  refine Wd_set h ?_ (fun q y hq => by rw [up2_ne hq]; rfl)
  show _ = Sum.inr (ci, s_fs ad _ _ ks)
  rw [s_fs_set (f2 := σ.1 p) (g2 := (up2 σ p j r).2 p) hk (by simp [s_fv, up2])]
  · rfl
  · intro i k' hi
    match k' with
    | 0 => rfl
    | 1 => simp [s_fv, up2, hi]
    | k + 2 => rfl
theorem Wd_setA {cA : Nat → ClassId} {ad : Nat → Nat} {sh : List Sh} {σ : St} {p j n : Nat} {x : Int32} (h : sh[p]? = some (.inr (.inl n))) : (Wd cA ad sh σ).set p (ad p, .inl (cA 0, n, .inl (upd (σ.1 p) j x))) = Wd cA ad sh (up1 σ p j x) := by
  refine Wd_set h ?_ (fun q y hq => by rw [up1_ne hq]; rfl)
  show Sum.inl (cA 0, n, Sum.inl (upd (σ.1 p) j x)) = Sum.inl (cA 0, n, Sum.inl ((up1 σ p j x).1 p))
  congr 4
  funext i
  simp [upd, up1]
theorem Wd_D {cA : Nat → ClassId} {ad : Nat → Nat} {sh : List Sh} {σ τ : St} {A : Nat → Prop} (h : va_D A (Wd cA ad sh σ)) : va_D A (Wd cA ad sh τ) := by
  have key : ∀ (k : Nat) (q : Nat × va_E), (Wd cA ad sh τ)[k]? = some q → ∃ q0, (Wd cA ad sh σ)[k]? = some q0 ∧ q0.1 = q.1 := by
    intro k q hk
    obtain ⟨x, h1, rfl⟩ := Wd_inv hk
    exact ⟨_, Wd_at h1, rfl⟩
  refine ⟨fun i j x y hi hj hxy => ?_, fun k q hk => ?_⟩
  · obtain ⟨x0, h1, h2⟩ := key i x hi
    obtain ⟨y0, h3, h4⟩ := key j y hj
    exact h.1 i j x0 y0 h1 h3 (h2.trans (hxy.trans h4.symm))
  · obtain ⟨q0, h1, h2⟩ := key k q hk
    rw [← h2]
    exact h.2 k q0 h1
theorem Wd_A {cA : Nat → ClassId} {ad : Nat → Nat} {sh : List Sh} {σ τ : St} {sz q : Nat} (h : va_A (Wd cA ad sh σ) sz q) : va_A (Wd cA ad sh τ) sz q := by
  rcases h with ⟨k, e, h⟩ | h
  · obtain ⟨x, h1, h2⟩ := Wd_inv h
    have : q = ad k := congrArg Prod.fst h2
    subst this
    exact Or.inl ⟨k, _, Wd_at h1⟩
  · exact Or.inr h
/-- what no method changes: the links between nest mates -/
def NWS : List Cond := [.methodLinkNest "ArmAgainstArm" 23 ⟨"ArmAgainstArm$Tape", "<init>", "()V"⟩ "ArmAgainstArm", .methodLinkNest "ArmAgainstArm" 36 ⟨"ArmAgainstArm$Image", "<init>", "()V"⟩ "ArmAgainstArm", .methodLinkNest "ArmAgainstArm" 41 ⟨"ArmAgainstArm$Arm", "<init>", "()V"⟩ "ArmAgainstArm", .methodLinkNest "ArmAgainstArm" 42 ⟨"ArmAgainstArm$Sheet", "<init>", "()V"⟩ "ArmAgainstArm", .methodLinkNest "ArmAgainstArm$Tape" 23 ⟨"ArmAgainstArm", "isWithin", "(III)Z"⟩ "ArmAgainstArm", .methodLinkNest "ArmAgainstArm$Text" 32 ⟨"ArmAgainstArm", "bounded", "(III)I"⟩ "ArmAgainstArm", .fieldLinkNest "ArmAgainstArm$Arm" 53 "ArmAgainstArm" "KIND_ABOVE" "[I" "ArmAgainstArm", .methodLinkNest "ArmAgainstArm$Arm" 57 ⟨"ArmAgainstArm", "isWithin", "(III)Z"⟩ "ArmAgainstArm", .methodLinkNest "ArmAgainstArm$Arm" 61 ⟨"ArmAgainstArm", "bounded", "(III)I"⟩ "ArmAgainstArm", .methodLinkNest "ArmAgainstArm$Side" 54 ⟨"ArmAgainstArm", "bounded", "(III)I"⟩ "ArmAgainstArm", .methodLinkNest "ArmAgainstArm$Bout" 80 ⟨"ArmAgainstArm", "bounded", "(III)I"⟩ "ArmAgainstArm", .methodLinkNest "ArmAgainstArm$Sheet" 26 ⟨"ArmAgainstArm", "isWithin", "(III)Z"⟩ "ArmAgainstArm", .methodLinkNest "ArmAgainstArm$Sheet" 19 ⟨"ArmAgainstArm", "bounded", "(III)I"⟩ "ArmAgainstArm"]
/-- the constant row, the three texts: their cells are ad 100, ad 101 .. 103, their bytes ad 104 .. 106 -/
def kaF : Nat → Int32 := fun j => match j with
  | 0 => -1
  | 3 => 1
  | 4 => 2
  | _ => 0
def STX0 : String := "force told + hard * 6 + hold ; spends hard ; hurts 0 - angle ;"
def STX1 : String := "force spends hurts or and not told more hold hard angle tenth "
def STX2 : String := "();+-*<="
def SLEN : List Nat := [62, 62, 8]
def SBYT : List (List Int32) := [[102, 111, 114, 99, 101, 32, 116, 111, 108, 100, 32, 43, 32, 104, 97, 114, 100, 32, 42, 32, 54, 32, 43, 32, 104, 111, 108, 100, 32, 59, 32, 115, 112, 101, 110, 100, 115, 32, 104, 97, 114, 100, 32, 59, 32, 104, 117, 114, 116, 115, 32, 48, 32, 45, 32, 97, 110, 103, 108, 101, 32, 59], [102, 111, 114, 99, 101, 32, 115, 112, 101, 110, 100, 115, 32, 104, 117, 114, 116, 115, 32, 111, 114, 32, 97, 110, 100, 32, 110, 111, 116, 32, 116, 111, 108, 100, 32, 109, 111, 114, 101, 32, 104, 111, 108, 100, 32, 104, 97, 114, 100, 32, 97, 110, 103, 108, 101, 32, 116, 101, 110, 116, 104, 32], [40, 41, 59, 43, 45, 42, 60, 61]]
def Cst (ad : Nat → Nat) (A : Nat → Prop) (s : State) (H : Heap) : Prop := (∀ w ∈ NWS, va_Nw w s) ∧ va_Z R_Main "KIND_ABOVE" "[I" (.ref (ad 100)) A s H ∧ va_T .int (ad 100) 6 (fun j => .int (kaF j)) A s H ∧ vk_S 3 SLEN SBYT (fun i => ad (101 + i)) (fun i => ad (104 + i)) A s H ∧ (vk_R R_Main 46 STX0 (ad 101) s ∧ vk_R R_Tokens 62 STX1 (ad 102) s ∧ vk_R R_Tokens 78 STX2 (ad 103) s) ∧ va_Z "java/lang/String" "COMPACT_STRINGS" "Z" (.int 1) A s H ∧ va_Zq "jdk/internal/util/Preconditions" "SIOOBE_FORMATTER" "Ljava/util/function/BiFunction;" A s H
theorem nw_warm {s U : State} (hW : s.WarmedH U.vm) (h : ∀ w ∈ NWS, va_Nw w s) : ∀ w ∈ NWS, va_Nw w U := by
  intro w hw
  have h1 := h w hw
  simp only [NWS, List.mem_cons, List.not_mem_nil, or_false] at hw
  rcases hw with rfl | rfl | rfl | rfl | rfl | rfl | rfl | rfl | rfl | rfl | rfl | rfl | rfl
  · exact va_Nw.warmM hW h1
  · exact va_Nw.warmM hW h1
  · exact va_Nw.warmM hW h1
  · exact va_Nw.warmM hW h1
  · exact va_Nw.warmM hW h1
  · exact va_Nw.warmM hW h1
  · exact va_Nw.warmF hW h1
  · exact va_Nw.warmM hW h1
  · exact va_Nw.warmM hW h1
  · exact va_Nw.warmM hW h1
  · exact va_Nw.warmM hW h1
  · exact va_Nw.warmM hW h1
  · exact va_Nw.warmM hW h1
theorem Cst.go {ad : Nat → Nat} {A B : Nat → Prop} {s U : State} {H : Heap} (hW : s.WarmedH U.vm) (h : Cst ad A s s.heap) (hAB : ∀ q, B q → A q) (hS : ∃ locs, va_S A s.heap H locs) : Cst ad B U H := by
  obtain ⟨h1, h2, h3, h4, ⟨h5, h6, h7⟩, h8, h9⟩ := h
  obtain ⟨locs, hS⟩ := hS
  have hq : ∀ a : Nat, a < s.heap.size → ¬ A a → H[a]? = s.heap[a]? := hS.2.1
  exact ⟨nw_warm hW h1, va_Z.moved hW.alike ((h2.kept hq).narrow hAB), va_T.moved hW.alike ((h3.kept hq).narrow hAB), vk_S.moved hW.alike ((h4.kept hq).narrow hAB), ⟨vk_R.warm hW h5, vk_R.warm hW h6, vk_R.warm hW h7⟩, va_Z.moved hW.alike ((h8.kept hq).narrow hAB), va_Zq.moved hW.alike ((h9.kept hq).narrow hAB)⟩
theorem Cst.vm {ad : Nat → Nat} {A : Nat → Prop} {s U : State} {H : Heap} (hv : U.vm = s.vm) (h : Cst ad A s H) : Cst ad A U H := by
  obtain ⟨h1, h2, h3, h4, ⟨h5, h6, h7⟩, h8, h9⟩ := h
  have ha : s.vm.Alike U.vm := by rw [hv]; exact Vm.Alike.refl _
  exact ⟨fun w hw => va_Nw.same (by simp only [NWS, List.mem_cons, List.not_mem_nil, or_false] at hw; rcases hw with rfl | rfl | rfl | rfl | rfl | rfl | rfl | rfl | rfl | rfl | rfl | rfl | rfl <;> rfl) hv.symm (h1 w hw), va_Z.moved ha h2, va_T.moved ha h3, vk_S.moved ha h4, ⟨vk_R.same hv h5, vk_R.same hv h6, vk_R.same hv h7⟩, va_Z.moved ha h8, va_Zq.moved ha h9⟩
/-- a world at a frame -/
def Wh (D : va_G) (cA : Nat → ClassId) (ad : Nat → Nat) (sh : List Sh) (A : Nat → Prop) (s : State) (σ : St) (H : Heap) (locs : List Loc) : Prop :=
  va_K D CLS (TYS cA) s ∧ va_P D CLS (Wd cA ad sh σ) H ∧ va_D A (Wd cA ad sh σ) ∧ va_S A s.heap H locs ∧ Cst ad A s s.heap ∧ (∀ q, s.heap.size ≤ q → A q)
/-- a method's start and end -/
def PreW (D : va_G) (cA : Nat → ClassId) (ad : Nat → Nat) (sh : List Sh) (σ : St) (sz : Nat) : State → Prop := fun U => U.heap.size = sz ∧ va_K D CLS (TYS cA) U ∧ va_P D CLS (Wd cA ad sh σ) U.heap ∧ va_D (fun _ => True) (Wd cA ad sh σ) ∧ Cst ad (va_A (Wd cA ad sh σ) sz) U U.heap
def AtW (D : va_G) (cA : Nat → ClassId) (ad : Nat → Nat) (sh : List Sh) (σ : St) (t : State) : Prop := va_P D CLS (Wd cA ad sh σ) t.heap ∧ va_K D CLS (TYS cA) t
def QcI (D : va_G) (cA : Nat → ClassId) (ad : Nat → Nat) (sh : List Sh) (A : Nat → Prop) (r : Int32) (σ : St) : Array Value → State → Outcome → State → Prop := va_Qi (fun x (_ : Unit) => x = r) (fun _ t => AtW D cA ad sh σ t) A
def QcL (D : va_G) (cA : Nat → ClassId) (ad : Nat → Nat) (sh : List Sh) (A : Nat → Prop) (r : Int64) (σ : St) : Array Value → State → Outcome → State → Prop := va_Ql (fun x (_ : Unit) => x = r) (fun _ t => AtW D cA ad sh σ t) A
def QcV (D : va_G) (cA : Nat → ClassId) (ad : Nat → Nat) (sh : List Sh) (A : Nat → Prop) (σ : St) : Array Value → State → Outcome → State → Prop := va_Qv (fun (_ : Unit) => True) (fun _ t => AtW D cA ad sh σ t) A
/-- contracts: an int, a long, nothing -/
def MI (l : Launch) (D : va_G) (cA : Nat → ClassId) (ad : Nat → Nat) (sh : List Sh) (y : MethodName) (ws : List Cond) (rm : Room) (av : List Value) (σ : St) (r : Int32) (τ : St) : Prop := ∀ sz, Met l y ws rm (va_Pc av (PreW D cA ad sh σ sz)) (QcI D cA ad sh (va_A (Wd cA ad sh σ) sz) r τ) 0 0 (va_A (Wd cA ad sh σ) sz)
def ML (l : Launch) (D : va_G) (cA : Nat → ClassId) (ad : Nat → Nat) (sh : List Sh) (y : MethodName) (ws : List Cond) (rm : Room) (av : List Value) (σ : St) (r : Int64) (τ : St) : Prop := ∀ sz, Met l y ws rm (va_Pc av (PreW D cA ad sh σ sz)) (QcL D cA ad sh (va_A (Wd cA ad sh σ) sz) r τ) 0 0 (va_A (Wd cA ad sh σ) sz)
def MV (l : Launch) (D : va_G) (cA : Nat → ClassId) (ad : Nat → Nat) (sh : List Sh) (y : MethodName) (ws : List Cond) (rm : Room) (av : List Value) (σ : St) (τ : St) : Prop := ∀ sz, Met l y ws rm (va_Pc av (PreW D cA ad sh σ sz)) (QcV D cA ad sh (va_A (Wd cA ad sh σ) sz) τ) 0 0 (va_A (Wd cA ad sh σ) sz)
/-- what is fixed at a frame -/
def Fx (p : Program) (s : State) (m : MethodId) (args : Array Value) (meth : Method) (c : Code) (cc : ByteArray) (nL : Nat) (own : String) (rt : Option FieldType) : Prop := CallFix p m c cc nL s args TB own ∧ meth.sig.returnType = rt ∧ meth.locks = false
section BW
variable {p : Program} {l : Launch} {e : Env} {R : Room} {s : State} {m : MethodId} {args : Array Value} {below : List Frame} {meth : Method} {c : Code} {H : Heap} {locs : List Loc} {Q : State → Prop}
variable {cc : ByteArray} {pc nL : Nat} {ls : Array Slot} {rest : List Value} {own : String} {rt : Option FieldType} {D : va_G} {cA : Nat → ClassId} {ad : Nat → Nat} {sh : List Sh} {A : Nat → Prop} {σ τ : St}
theorem Wh.next (h : Wh D cA ad sh A s σ H locs) {H1 : Heap} {locs1 : List Loc} (hP : va_P D CLS (Wd cA ad sh τ) H1) (hS : va_S A s.heap H1 locs1) : Wh D cA ad sh A s τ H1 locs1 := ⟨h.1, hP, Wd_D h.2.2.1, hS, h.2.2.2.2.1, h.2.2.2.2.2⟩
theorem Wh.free (h : Wh D cA ad sh A s σ H locs) : ∀ q, va_A (Wd cA ad sh σ) H.size q → A q := by
  intro q hq
  rcases hq with ⟨k, e, hk⟩ | hq
  · exact h.2.2.1.2 k (q, e) hk
  · exact h.2.2.2.2.2 q (Nat.le_trans h.2.2.2.1.1 hq)
/-- a call's start -/
theorem Wh.pre (h : Wh D cA ad sh A s σ H locs) (av : List Value) : FrameBlind (va_Pc av (PreW D cA ad sh σ H.size)) ∧ ∀ U : State, U.heap = H → s.WarmedH U.vm → va_Pc av (PreW D cA ad sh σ H.size) av.toArray U := by
  refine ⟨fun a U g mk q => ?_, fun U hU hW => ?_⟩
  · obtain ⟨q0, q1, qK, qP, qD, qC⟩ := q
    exact ⟨q0, q1, va_K.moved (u := U) (U := U.calling g mk a) (Vm.Alike.refl U.vm) qK, qP, qD, Cst.vm (s := U) (U := U.calling g mk a) rfl qC⟩
  · refine ⟨rfl, by rw [hU], va_K.moved hW.alike h.1, by rw [hU]; exact h.2.1, h.2.2.1.weaken (fun _ _ _ _ => trivial), ?_⟩
    rw [hU]
    exact Cst.go hW h.2.2.2.2.1 h.free ⟨locs, h.2.2.2.1⟩
theorem Wh.recv (h : Wh D cA ad sh A s σ H locs) {q ci N : Nat} {ks : List Nat} {C : String} {T : u_T} (hq : sh[q]? = some (.inl (ci, ks))) (hc : CLS[ci]? = some (C, T, N)) : ∃ cell : Cell, H[ad q]? = some cell ∧ cell.vm.isStatics = false ∧ s.vm.findClass C = some cell.cls := va_recv h.1 h.2.1 hc (Wd_at hq)
theorem r_callVI (K : Fx p s m args meth c cc nL own rt) (hw : Wh D cA ad sh A s σ H locs) (hl : ls.size = nL) {y : MethodName} {b : ByteArray} {mL n idx : Nat} {rt2 : Option FieldType} {rm : Room} {As st : List Value} {q : Nat} {r : Int32} (hM : MI l D cA ad sh y (wT y b mL rt2) rm (.ref (ad q) :: As) σ r τ) {ci N : Nat} {ks : List Nat} {C : String} {T : u_T} (hq : sh[q]? = some (.inl (ci, ks))) (hc : CLS[ci]? = some (C, T, N)) (g : GoodIn TB (wsV own idx C y (wT y b mL rt2)))
    (hd : y.cls = C ∧ y.cls ≠ "java/lang/invoke/MethodHandle" ∧ y.cls ≠ "java/lang/invoke/VarHandle" ∧ (parseMethodDescriptor y.desc).map (fun d => d.parameters.length) = some n) (hR : rm.cells = 0 ∧ rm.slots = 0 ∧ rm.frames + 1 ≤ R.frames ∧ 8 + (mL + 11) + rm.locals ≤ R.locals) (hn : As.length = n) (hst : st = As.reverse ++ .ref (ad q) :: rest) (hcat : (rest.map fun v => v.category).sum ≤ 8) (hdg : decode cc pc = .ok (.invokevirtual idx, 3))
    (kk : ∀ (H1 : Heap) (locs1 : List Loc), Wh D cA ad sh A s τ H1 locs1 → W p l e R s m args below meth c H1 locs1 0 0 Q (F0 m (pc + 3) ls (.int r :: rest))) : W p l e R s m args below meth c H locs 0 0 Q (F0 m pc ls st) := by
  have hp := hw.pre (.ref (ad q) :: As)
  refine va_calli (A0 := A) (va_runV (C := C) (As := As) (rest := rest) K.1 (hM H.size) (cwV n K.1.2.2.2.2 g rfl hR.1 hR.2.1 hd hR.2.2) ⟨hp.1, hw.recv hq hc, hp.2⟩ rfl hn hl hst (lv_room hcat) hdg ⟨Nat.zero_le _, Nat.zero_le _⟩) hw.2.2.2.1 (fun q _ h => hw.free q h) hw.free (fun r' u t H1 locs1 ht hvm hr hB hz hk hS => ?_)
  subst hr
  exact kk H1 locs1 (hw.next (by rw [← ht]; exact hB.1) hS)
theorem r_callVL (K : Fx p s m args meth c cc nL own rt) (hw : Wh D cA ad sh A s σ H locs) (hl : ls.size = nL) {y : MethodName} {b : ByteArray} {mL n idx : Nat} {rt2 : Option FieldType} {rm : Room} {As st : List Value} {q : Nat} {r : Int64} (hM : ML l D cA ad sh y (wT y b mL rt2) rm (.ref (ad q) :: As) σ r τ) {ci N : Nat} {ks : List Nat} {C : String} {T : u_T} (hq : sh[q]? = some (.inl (ci, ks))) (hc : CLS[ci]? = some (C, T, N)) (g : GoodIn TB (wsV own idx C y (wT y b mL rt2)))
    (hd : y.cls = C ∧ y.cls ≠ "java/lang/invoke/MethodHandle" ∧ y.cls ≠ "java/lang/invoke/VarHandle" ∧ (parseMethodDescriptor y.desc).map (fun d => d.parameters.length) = some n) (hR : rm.cells = 0 ∧ rm.slots = 0 ∧ rm.frames + 1 ≤ R.frames ∧ 8 + (mL + 11) + rm.locals ≤ R.locals) (hn : As.length = n) (hst : st = As.reverse ++ .ref (ad q) :: rest) (hcat : (rest.map fun v => v.category).sum ≤ 8) (hdg : decode cc pc = .ok (.invokevirtual idx, 3))
    (kk : ∀ (H1 : Heap) (locs1 : List Loc), Wh D cA ad sh A s τ H1 locs1 → W p l e R s m args below meth c H1 locs1 0 0 Q (F0 m (pc + 3) ls (.long r :: rest))) : W p l e R s m args below meth c H locs 0 0 Q (F0 m pc ls st) := by
  have hp := hw.pre (.ref (ad q) :: As)
  refine va_calll (A0 := A) (va_runV (C := C) (As := As) (rest := rest) K.1 (hM H.size) (cwV n K.1.2.2.2.2 g rfl hR.1 hR.2.1 hd hR.2.2) ⟨hp.1, hw.recv hq hc, hp.2⟩ rfl hn hl hst (lv_room hcat) hdg ⟨Nat.zero_le _, Nat.zero_le _⟩) hw.2.2.2.1 (fun q _ h => hw.free q h) hw.free (fun r' u t H1 locs1 ht hvm hr hB hz hk hS => ?_)
  subst hr
  exact kk H1 locs1 (hw.next (by rw [← ht]; exact hB.1) hS)
theorem r_callVV (K : Fx p s m args meth c cc nL own rt) (hw : Wh D cA ad sh A s σ H locs) (hl : ls.size = nL) {y : MethodName} {b : ByteArray} {mL n idx : Nat} {rt2 : Option FieldType} {rm : Room} {As st : List Value} {q : Nat} (hM : MV l D cA ad sh y (wT y b mL rt2) rm (.ref (ad q) :: As) σ τ) {ci N : Nat} {ks : List Nat} {C : String} {T : u_T} (hq : sh[q]? = some (.inl (ci, ks))) (hc : CLS[ci]? = some (C, T, N)) (g : GoodIn TB (wsV own idx C y (wT y b mL rt2)))
    (hd : y.cls = C ∧ y.cls ≠ "java/lang/invoke/MethodHandle" ∧ y.cls ≠ "java/lang/invoke/VarHandle" ∧ (parseMethodDescriptor y.desc).map (fun d => d.parameters.length) = some n) (hR : rm.cells = 0 ∧ rm.slots = 0 ∧ rm.frames + 1 ≤ R.frames ∧ 8 + (mL + 11) + rm.locals ≤ R.locals) (hn : As.length = n) (hst : st = As.reverse ++ .ref (ad q) :: rest) (hcat : (rest.map fun v => v.category).sum ≤ 8) (hdg : decode cc pc = .ok (.invokevirtual idx, 3))
    (kk : ∀ (H1 : Heap) (locs1 : List Loc), Wh D cA ad sh A s τ H1 locs1 → W p l e R s m args below meth c H1 locs1 0 0 Q (F0 m (pc + 3) ls rest)) : W p l e R s m args below meth c H locs 0 0 Q (F0 m pc ls st) := by
  have hp := hw.pre (.ref (ad q) :: As)
  refine va_callv (A0 := A) (va_runV (C := C) (As := As) (rest := rest) K.1 (hM H.size) (cwV n K.1.2.2.2.2 g rfl hR.1 hR.2.1 hd hR.2.2) ⟨hp.1, hw.recv hq hc, hp.2⟩ rfl hn hl hst (lv_room hcat) hdg ⟨Nat.zero_le _, Nat.zero_le _⟩) hw.2.2.2.1 (fun q _ h => hw.free q h) hw.free (fun u t H1 locs1 ht hvm hr hB hz hk hS => ?_)
  exact kk H1 locs1 (hw.next (by rw [← ht]; exact hB.1) hS)
theorem r_callSI (K : Fx p s m args meth c cc nL own rt) (hw : Wh D cA ad sh A s σ H locs) (hl : ls.size = nL) {y : MethodName} {b : ByteArray} {mL n idx : Nat} {rt2 : Option FieldType} {rm : Room} {As st : List Value} {r : Int32} (hM : MI l D cA ad sh y (wT y b mL rt2) rm As σ r τ) (g : GoodIn TB (wsS own idx y (wT y b mL rt2)))
    (hd : y.cls = own ∧ y.cls ≠ "java/lang/invoke/MethodHandle" ∧ y.cls ≠ "java/lang/invoke/VarHandle" ∧ (parseMethodDescriptor y.desc).map (fun d => d.parameters.length) = some n) (hR : rm.cells = 0 ∧ rm.slots = 0 ∧ rm.frames + 1 ≤ R.frames ∧ 8 + (mL + 11) + rm.locals ≤ R.locals) (hn : As.length = n) (hst : st = As.reverse ++ rest) (hcat : (rest.map fun v => v.category).sum ≤ 8) (hdg : decode cc pc = .ok (.invokestatic idx, 3))
    (kk : ∀ (H1 : Heap) (locs1 : List Loc), Wh D cA ad sh A s τ H1 locs1 → W p l e R s m args below meth c H1 locs1 0 0 Q (F0 m (pc + 3) ls (.int r :: rest))) : W p l e R s m args below meth c H locs 0 0 Q (F0 m pc ls st) := by
  have hp := hw.pre As
  refine va_calli (A0 := A) (va_runS (As := As) (rest := rest) K.1 (hM H.size) (cwS n K.1.2.2.2.2 g rfl hR.1 hR.2.1 hd hR.2.2) hp rfl hn hl hst (lv_room hcat) hdg ⟨Nat.zero_le _, Nat.zero_le _⟩) hw.2.2.2.1 (fun q _ h => hw.free q h) hw.free (fun r' u t H1 locs1 ht hvm hr hB hz hk hS => ?_)
  subst hr
  exact kk H1 locs1 (hw.next (by rw [← ht]; exact hB.1) hS)
theorem r_callSL (K : Fx p s m args meth c cc nL own rt) (hw : Wh D cA ad sh A s σ H locs) (hl : ls.size = nL) {y : MethodName} {b : ByteArray} {mL n idx : Nat} {rt2 : Option FieldType} {rm : Room} {As st : List Value} {r : Int64} (hM : ML l D cA ad sh y (wT y b mL rt2) rm As σ r τ) (g : GoodIn TB (wsS own idx y (wT y b mL rt2)))
    (hd : y.cls = own ∧ y.cls ≠ "java/lang/invoke/MethodHandle" ∧ y.cls ≠ "java/lang/invoke/VarHandle" ∧ (parseMethodDescriptor y.desc).map (fun d => d.parameters.length) = some n) (hR : rm.cells = 0 ∧ rm.slots = 0 ∧ rm.frames + 1 ≤ R.frames ∧ 8 + (mL + 11) + rm.locals ≤ R.locals) (hn : As.length = n) (hst : st = As.reverse ++ rest) (hcat : (rest.map fun v => v.category).sum ≤ 8) (hdg : decode cc pc = .ok (.invokestatic idx, 3))
    (kk : ∀ (H1 : Heap) (locs1 : List Loc), Wh D cA ad sh A s τ H1 locs1 → W p l e R s m args below meth c H1 locs1 0 0 Q (F0 m (pc + 3) ls (.long r :: rest))) : W p l e R s m args below meth c H locs 0 0 Q (F0 m pc ls st) := by
  have hp := hw.pre As
  refine va_calll (A0 := A) (va_runS (As := As) (rest := rest) K.1 (hM H.size) (cwS n K.1.2.2.2.2 g rfl hR.1 hR.2.1 hd hR.2.2) hp rfl hn hl hst (lv_room hcat) hdg ⟨Nat.zero_le _, Nat.zero_le _⟩) hw.2.2.2.1 (fun q _ h => hw.free q h) hw.free (fun r' u t H1 locs1 ht hvm hr hB hz hk hS => ?_)
  subst hr
  exact kk H1 locs1 (hw.next (by rw [← ht]; exact hB.1) hS)
/-- a static method of a nest mate -/
theorem r_callNI (K : Fx p s m args meth c cc nL own rt) (hw : Wh D cA ad sh A s σ H locs) (hl : ls.size = nL) {y : MethodName} {b : ByteArray} {mL n idx : Nat} {rt2 : Option FieldType} {rm : Room} {As st : List Value} {r : Int32} {host : String} (hM : MI l D cA ad sh y (wT y b mL rt2) rm As σ r τ) (hN : Cond.methodLinkNest own idx y host ∈ NWS) (h2 : Cond.static y ∈ TB) (h4 : Cond.initialized y.cls ∈ TB) (h5 : Cond.code y b mL rt2 ∈ TB)
    (hd : y.cls ≠ "java/lang/invoke/MethodHandle" ∧ y.cls ≠ "java/lang/invoke/VarHandle" ∧ (parseMethodDescriptor y.desc).map (fun d => d.parameters.length) = some n) (hR : rm.cells = 0 ∧ rm.slots = 0 ∧ rm.frames + 1 ≤ R.frames ∧ 8 + (mL + 11) + rm.locals ≤ R.locals) (hn : As.length = n) (hst : st = As.reverse ++ rest) (hcat : (rest.map fun v => v.category).sum ≤ 8) (hdg : decode cc pc = .ok (.invokestatic idx, 3))
    (kk : ∀ (H1 : Heap) (locs1 : List Loc), Wh D cA ad sh A s τ H1 locs1 → W p l e R s m args below meth c H1 locs1 0 0 Q (F0 m (pc + 3) ls (.int r :: rest))) : W p l e R s m args below meth c H locs 0 0 Q (F0 m pc ls st) := by
  have hp := hw.pre As
  have hts := K.1.2.2.2.2
  refine va_calli (A0 := A) (va_runSN (As := As) (rest := rest) K.1 (hM H.size) ⟨va_cnB (ret := rt2) n hts (tb_good (tb_wT h5)) rfl hR.1 hR.2.1 (hw.2.2.2.2.1.1 _ hN) (hts _ h4) hd hR.2.2, hts _ h2, trivial⟩ hp rfl hn hl hst (lv_room hcat) hdg ⟨Nat.zero_le _, Nat.zero_le _⟩) hw.2.2.2.1 (fun q _ h => hw.free q h) hw.free (fun r' u t H1 locs1 ht hvm hr hB hz hk hS => ?_)
  subst hr
  exact kk H1 locs1 (hw.next (by rw [← ht]; exact hB.1) hS)
/-- fields -/
theorem r_get (K : Fx p s m args meth c cc nL own rt) (hw : Wh D cA ad sh A s σ H locs) {C : String} {T : u_T} {N ci index q : Nat} {ks : List Nat} (hin : ∀ w ∈ u_ws C T N, w ∈ TB) (hq : sh[q]? = some (.inl (ci, ks))) (hc : CLS[ci]? = some (C, T, N)) (j : Nat) (hj : j < N) (hlink : Cond.fieldLink own index C (T j).2.1 (T j).2.2.1 ∈ TB) (hC : (T j).1 = C) {k : Nat} (hk : ks[j]? = some k) {v : Value} (hv : s_fv ad (σ.1 q) (σ.2 q) j k = v) (hdg : decode cc pc = .ok (.getfield index, 3))
    (kk : W p l e R s m args below meth c H locs 0 0 Q (F0 m (pc + 3) ls (v :: rest))) : W p l e R s m args below meth c H locs 0 0 Q (F0 m pc ls (.ref (ad q) :: rest)) := by
  refine va_get (D := D) (v := v) K.1.1 K.1.2.1 K.1.2.2.2.2 hin K.1.2.2.2.1 hw.1 hw.2.1 q (Wd_at hq) hc j hj (K.1.2.2.2.2 _ hlink) (fun _ h => by rw [hC] at h; exact h) ?_ hdg kk
  simp [s_fs, List.getElem?_mapIdx, hk, hv]
theorem r_putI (K : Fx p s m args meth c cc nL own rt) (hw : Wh D cA ad sh A s σ H locs) {C : String} {T : u_T} {N ci index q : Nat} {ks : List Nat} (hin : ∀ w ∈ u_ws C T N, w ∈ TB) (ty0 : Nat → FieldType) (hty : ∀ k, k < N → parseFieldDescriptor (T k).2.2.1 = some (ty0 k)) (hnm : ∀ a, a < N → ∀ b, b < N → a ≠ b → (T a).2.1 ≠ (T b).2.1) (hq : sh[q]? = some (.inl (ci, ks))) (hc : CLS[ci]? = some (C, T, N)) (j : Nat) (hj : j < N) (hlink : Cond.fieldLink own index C (T j).2.1 (T j).2.2.1 ∈ TB) (hC : (T j).1 = C) (hfin : (T j).2.2.2 = false) (hk : ks[j]? = some 0) {x : Int32} (hn : narrow (ty0 j) (.int x) = .int x) (hfit : fits (ty0 j) (.int x) = true) (hdg : decode cc pc = .ok (.putfield index, 3))
    (kk : ∀ (τ : St), τ = up1 σ q j x → ∀ (H1 : Heap) (locs1 : List Loc), Wh D cA ad sh A s τ H1 locs1 → W p l e R s m args below meth c H1 locs1 0 0 Q (F0 m (pc + 3) ls rest)) : W p l e R s m args below meth c H locs 0 0 Q (F0 m pc ls (.int x :: .ref (ad q) :: rest)) := by
  refine va_put (D := D) (ty := ty0 j) K.1.1 K.1.2.1 K.1.2.2.2.2 hin ty0 hty hnm K.1.2.2.2.1 hw.1 hw.2.1 hw.2.2.1 hw.2.2.2.1 q (Wd_at hq) hc j hj (K.1.2.2.2.2 _ hlink) (fun _ h => by rw [hC] at h; exact h) hfin (hty j hj) hn hfit ?_ hdg (fun H1 locs1 hP hD hS => kk _ rfl H1 locs1 (hw.next ?_ hS))
  · simp [s_fs]; exact (List.getElem?_eq_some_iff.mp hk).1
  · rw [Wd_setI hq hk] at hP
    exact hP
theorem r_putR (K : Fx p s m args meth c cc nL own rt) (hw : Wh D cA ad sh A s σ H locs) {C : String} {T : u_T} {N ci index q : Nat} {ks : List Nat} (hin : ∀ w ∈ u_ws C T N, w ∈ TB) (ty0 : Nat → FieldType) (hty : ∀ k, k < N → parseFieldDescriptor (T k).2.2.1 = some (ty0 k)) (hnm : ∀ a, a < N → ∀ b, b < N → a ≠ b → (T a).2.1 ≠ (T b).2.1) (hq : sh[q]? = some (.inl (ci, ks))) (hc : CLS[ci]? = some (C, T, N)) (j : Nat) (hj : j < N) (hlink : Cond.fieldLink own index C (T j).2.1 (T j).2.2.1 ∈ TB) (hC : (T j).1 = C) (hfin : (T j).2.2.2 = false) (hk : ks[j]? = some 1) {r : Nat} (hn : narrow (ty0 j) (.ref (ad r)) = .ref (ad r)) (hfit : fits (ty0 j) (.ref (ad r)) = true) (hdg : decode cc pc = .ok (.putfield index, 3))
    (kk : ∀ (τ : St), τ = up2 σ q j r → ∀ (H1 : Heap) (locs1 : List Loc), Wh D cA ad sh A s τ H1 locs1 → W p l e R s m args below meth c H1 locs1 0 0 Q (F0 m (pc + 3) ls rest)) : W p l e R s m args below meth c H locs 0 0 Q (F0 m pc ls (.ref (ad r) :: .ref (ad q) :: rest)) := by
  refine va_put (D := D) (ty := ty0 j) K.1.1 K.1.2.1 K.1.2.2.2.2 hin ty0 hty hnm K.1.2.2.2.1 hw.1 hw.2.1 hw.2.2.1 hw.2.2.2.1 q (Wd_at hq) hc j hj (K.1.2.2.2.2 _ hlink) (fun _ h => by rw [hC] at h; exact h) hfin (hty j hj) hn hfit ?_ hdg (fun H1 locs1 hP hD hS => kk _ rfl H1 locs1 (hw.next ?_ hS))
  · simp [s_fs]; exact (List.getElem?_eq_some_iff.mp hk).1
  · rw [Wd_setR hq hk] at hP
    exact hP
/-- rows -/
theorem r_iald (K : Fx p s m args meth c cc nL own rt) (hw : Wh D cA ad sh A s σ H locs) {q n : Nat} (hq : sh[q]? = some (.inr (.inl n))) {i : Int32} {k : Nat} (hi : i.toNatClampNeg = k) (hin : vp_in i n) (hdg : decode cc pc = .ok (.iaload, 1))
    (kk : W p l e R s m args below meth c H locs 0 0 Q (F0 m (pc + 1) ls (.int (σ.1 q k) :: rest))) : W p l e R s m args below meth c H locs 0 0 Q (F0 m pc ls (.int i :: .ref (ad q) :: rest)) := by
  subst hi
  exact va_iald (D := D) K.1.1 K.1.2.1 hw.1 hw.2.1 q 0 (Wd_at hq) rfl hin hdg kk
theorem r_iast (K : Fx p s m args meth c cc nL own rt) (hw : Wh D cA ad sh A s σ H locs) {q n : Nat} (hq : sh[q]? = some (.inr (.inl n))) {i x : Int32} {k : Nat} (hi : i.toNatClampNeg = k) (hin : vp_in i n) (hdg : decode cc pc = .ok (.iastore, 1))
    (kk : ∀ (τ : St), τ = up1 σ q k x → ∀ (H1 : Heap) (locs1 : List Loc), Wh D cA ad sh A s τ H1 locs1 → W p l e R s m args below meth c H1 locs1 0 0 Q (F0 m (pc + 1) ls rest)) : W p l e R s m args below meth c H locs 0 0 Q (F0 m pc ls (.int x :: .int i :: .ref (ad q) :: rest)) := by
  subst hi
  refine va_iast (D := D) K.1.1 K.1.2.1 hw.1 hw.2.1 hw.2.2.1 hw.2.2.2.1 q 0 (Wd_at hq) rfl hin hdg (fun H1 locs1 hP hD hS => kk _ rfl H1 locs1 (hw.next ?_ hS))
  rw [Wd_setA hq] at hP
  exact hP
theorem r_alen (K : Fx p s m args meth c cc nL own rt) (hw : Wh D cA ad sh A s σ H locs) {q n : Nat} (hq : sh[q]? = some (.inr (.inl n))) {v : Int32} (hv : Int32.ofNat n = v) (hdg : decode cc pc = .ok (.arraylength, 1))
    (kk : W p l e R s m args below meth c H locs 0 0 Q (F0 m (pc + 1) ls (.int v :: rest))) : W p l e R s m args below meth c H locs 0 0 Q (F0 m pc ls (.ref (ad q) :: rest)) :=
  va_alen (D := D) K.1.1 K.1.2.1 hw.1 hw.2.1 q 0 (Wd_at hq) (ty := .int) rfl hv hdg kk
theorem r_aald (K : Fx p s m args meth c cc nL own rt) (hw : Wh D cA ad sh A s σ H locs) {q t b n : Nat} (hq : sh[q]? = some (.inr (.inr (t, b, n)))) {C : String} (ht : (TYS cA)[t]? = some (cA t, .object C)) {i : Int32} {k : Nat} (hi : i.toNatClampNeg = k) (hin : vp_in i n) (hdg : decode cc pc = .ok (.aaload, 1))
    (kk : W p l e R s m args below meth c H locs 0 0 Q (F0 m (pc + 1) ls (.ref (ad (b + k)) :: rest))) : W p l e R s m args below meth c H locs 0 0 Q (F0 m pc ls (.int i :: .ref (ad q) :: rest)) := by
  subst hi
  exact va_aldq (D := D) K.1.1 K.1.2.1 hw.1 hw.2.1 q t (Wd_at hq) ht hin hdg kk
/-- ends -/
theorem r_iret (K : Fx p s m args meth c cc nL own (some .int)) (hw : Wh D cA ad sh A s σ H locs) {x : Int32} (hdg : decode cc pc = .ok (.ireturn, 1)) : W p l e R s m args below meth c H locs 0 0 (MQ below (QcI D cA ad sh A x σ) args s 0 0 A) (F0 m pc ls [.int x]) :=
  W.iret K.1.1 K.1.2.1 K.2.1 (fun t ht hW => ⟨⟨x, (), rfl, rfl, by rw [ht]; exact hw.2.1, va_K.moved hW.alike hw.1⟩, hw.2.2.2.1.F ht⟩) hw.2.2.2.1.2.2 hdg K.2.2
theorem r_zret (K : Fx p s m args meth c cc nL own (some .boolean)) (hw : Wh D cA ad sh A s σ H locs) {x : Int32} (hn : narrow .boolean (.int x) = .int x) (hdg : decode cc pc = .ok (.ireturn, 1)) : W p l e R s m args below meth c H locs 0 0 (MQ below (QcI D cA ad sh A x σ) args s 0 0 A) (F0 m pc ls [.int x]) :=
  W.zret K.1.1 K.1.2.1 K.2.1 hn (fun t ht hW => ⟨⟨x, (), rfl, rfl, by rw [ht]; exact hw.2.1, va_K.moved hW.alike hw.1⟩, hw.2.2.2.1.F ht⟩) hw.2.2.2.1.2.2 hdg K.2.2
theorem r_lret (K : Fx p s m args meth c cc nL own (some .long)) (hw : Wh D cA ad sh A s σ H locs) {x : Int64} (hdg : decode cc pc = .ok (.lreturn, 1)) : W p l e R s m args below meth c H locs 0 0 (MQ below (QcL D cA ad sh A x σ) args s 0 0 A) (F0 m pc ls [.long x]) :=
  W.lret K.1.1 K.1.2.1 K.2.1 (fun t ht hW => ⟨⟨x, (), rfl, rfl, by rw [ht]; exact hw.2.1, va_K.moved hW.alike hw.1⟩, hw.2.2.2.1.F ht⟩) hw.2.2.2.1.2.2 hdg K.2.2
theorem r_vret (K : Fx p s m args meth c cc nL own none) (hw : Wh D cA ad sh A s σ H locs) (hdg : decode cc pc = .ok (.return_, 1)) : W p l e R s m args below meth c H locs 0 0 (MQ below (QcV D cA ad sh A σ) args s 0 0 A) (F0 m pc ls []) :=
  W.vret K.1.1 K.1.2.1 K.2.1 (fun t ht hW => ⟨⟨(), rfl, trivial, by rw [ht]; exact hw.2.1, va_K.moved hW.alike hw.1⟩, hw.2.2.2.1.F ht⟩) hw.2.2.2.1.2.2 hdg K.2.2
end BW
/-- a method's start -/
theorem m_start {l : Launch} {D : va_G} {cA : Nat → ClassId} {ad : Nat → Nat} {sh : List Sh} {y : MethodName} {cc : ByteArray} {mL : Nat} {rt : Option FieldType} {rm : Room} {av : List Value} {σ : St} {sz : Nat} {Qc : (Nat → Prop) → Array Value → State → Outcome → State → Prop} (hy : plainName y.cls = true) (hcd : Cond.code y cc mL rt ∈ TB) (hlen : (lg_sl av).length ≤ mL)
    (body : ∀ p e s m below meth c ls, Fx p s m av.toArray meth c cc mL y.cls rt → lv_has ls mL (lv_args 0 av) → Wh D cA ad sh (va_A (Wd cA ad sh σ) sz) s σ s.heap [] → W p l e rm s m av.toArray below meth c s.heap [] 0 0 (MQ below (Qc (va_A (Wd cA ad sh σ) sz)) av.toArray s 0 0 (va_A (Wd cA ad sh σ) sz)) (F0 m 0 ls [])) : Met l y (wT y cc mL rt) rm (va_Pc av (PreW D cA ad sh σ sz)) (Qc (va_A (Wd cA ad sh σ) sz)) 0 0 (va_A (Wd cA ad sh σ) sz) := by
  refine Met.ofW (cc := cc) (maxL := mL) (ret := rt) hy rfl ?_
  intro p e s m args below meth c s₁ B hml hv
  obtain ⟨rfl, hsz, hK, hP, hD0, hC⟩ := hv
  have hts := atoms_spec (ws := wT y cc mL rt) B.pre
  have hown : s.vm.findClass y.cls = some m.cls := findClass_of_methodNamed B.named
  have hl := lv_entry av (n := mL) hlen
  rw [lg_entry_eq]
  subst hsz
  exact body p e s m below meth c _ ⟨⟨B.exec, B.bytes, hml, hown, fun w hw => hts w (List.mem_cons_of_mem _ hw)⟩, B.returns, B.notSynchronized⟩ hl ⟨hK, hP, hD0.self, va_S.rf, hC, fun q h => Or.inr h⟩
/-- the decompiled side: names for what is computed, guards, calls -/
def lt {α β : Type} (a : α) (f : α → β) : β := f a
theorem ltN {α β : Type} {a y : α} {f : α → β} {X : β} (h : lt a f = X) (e : y = a) : f y = X := by rw [e]; exact h
theorem ltE {α β : Type} {a : α} {f : α → β} {X : β} (h : lt a f = X) : ∃ z, z = a ∧ f z = X := ⟨a, rfl, h⟩
theorem ifT {α : Type} {c : Prop} [Decidable c] {a b X : α} (h : (if c then a else b) = X) (hc : c) : a = X := by rw [if_pos hc] at h; exact h
theorem ifF {α : Type} {c : Prop} [Decidable c] {a b X : α} (h : (if c then a else b) = X) (hc : ¬ c) : b = X := by rw [if_neg hc] at h; exact h
theorem ifG {α : Type} {c : Prop} [Decidable c] {a : Option α} {X : α} (h : (if c then a else none) = some X) : c ∧ a = some X := by
  by_cases hc : c
  · rw [if_pos hc] at h; exact ⟨hc, h⟩
  · rw [if_neg hc] at h; cases h
def ob1 {α γ : Type} (a : Option α) (f : α → Option γ) : Option γ := match a with
  | none => none
  | some x => f x
def ob2 {α β γ : Type} (a : Option (α × β)) (f : α → β → Option γ) : Option γ := match a with
  | none => none
  | some x => f x.1 x.2
theorem ob1E {α γ : Type} {a : Option α} {f : α → Option γ} {X : γ} (h : ob1 a f = some X) : ∃ x, a = some x ∧ f x = some X := by
  cases a with
  | none => cases h
  | some x => exact ⟨x, rfl, h⟩
theorem ob2E {α β γ : Type} {a : Option (α × β)} {f : α → β → Option γ} {X : γ} (h : ob2 a f = some X) : ∃ x y, a = some (x, y) ∧ f x y = some X := by
  cases a with
  | none => cases h
  | some x => exact ⟨x.1, x.2, rfl, h⟩
/-- a place inside a row -/
def inB (x : Int32) (n : Nat) : Bool := decide (¬ x < 0) && decide (x.toNatClampNeg < n)
theorem inB_vp {x : Int32} {n : Nat} (h : inB x n = true) : vp_in x n := by
  simp only [inB, Bool.and_eq_true, decide_eq_true_eq] at h
  exact fun q => q.elim h.1 (fun z => absurd h.2 (Nat.not_lt.mpr z))
theorem inB_lt {x : Int32} {n : Nat} (h : inB x n = true) : x.toNatClampNeg < n := by
  simp only [inB, Bool.and_eq_true, decide_eq_true_eq] at h
  exact h.2
abbrev jrem (x y : Int32) : Int32 := x - x / y * y
abbrev jremL (x y : Int64) : Int64 := x - x / y * y
abbrev jshl (x y : Int32) : Int32 := x <<< (y &&& 31)
abbrev jshr (x y : Int32) : Int32 := x >>> (y &&& 31)
theorem zN {x : Int32} (h : x = 0 ∨ x = 1) : narrow .boolean (.int x) = .int x := by rcases h with rfl | rfl <;> rfl
theorem zF {x : Int32} (h : x = 0 ∨ x = 1) : fits .boolean (.int x) = true := by rcases h with rfl | rfl <;> rfl
theorem ifN {α : Type} {c : Prop} [Decidable (¬ c)] {a b X : α} (h : (if ¬ c then a else b) = X) (hc : c) : b = X := by rw [if_neg (fun q => q hc)] at h; exact h
abbrev jushr (x y : Int32) : Int32 := (x.toUInt32 >>> (y.toUInt32 &&& Int32.toUInt32 31)).toInt32
end
section
/-- the class under proof: 50 cells -/
def shC : List Sh := [.inl (10, [3, 0, 4, 0, 0, 6, 8, 13, 18, 5, 22]), .inr (.inr (1, 24, 6)), .inr (.inr (2, 30, 6)), .inr (.inr (3, 42, 4)), .inl (7, [7, 0]), .inr (.inl 160), .inl (3, [9, 1, 0, 0]), .inl (9, [6, 10, 11, 12, 0, 0]), .inr (.inl 161), .inr (.inl 161), .inr (.inl 161), .inl (1, [14, 16, 1, 0, 0, 0, 0]), .inl (6, [15, 0, 0, 0, 1]), .inr (.inl 6), .inl (6, [17, 0, 0, 0, 1]), .inr (.inl 6), .inl (4, [13, 19, 20, 21, 0, 0, 0, 0]), .inr (.inl 4), .inr (.inl 4), .inr (.inl 4), .inl (2, [23, 24, 0, 0, 0]), .inr (.inl 6), .inr (.inl 6), .inr (.inl 160), .inl (0, [0, 0, 0, 0, 0, 0, 0, 0, 0, 0]), .inl (0, [0, 0, 0, 0, 0, 0, 0, 0, 0, 0]), .inl (0, [0, 0, 0, 0, 0, 0, 0, 0, 0, 0]), .inl (0, [0, 0, 0, 0, 0, 0, 0, 0, 0, 0]), .inl (0, [0, 0, 0, 0, 0, 0, 0, 0, 0, 0]), .inl (0, [0, 0, 0, 0, 0, 0, 0, 0, 0, 0]), .inl (8, [25, 38, 0, 0, 0]), .inl (8, [25, 39, 0, 0, 0]), .inl (8, [25, 40, 0, 0, 0]), .inl (8, [25, 41, 0, 0, 0]), .inl (8, [25, 42, 0, 0, 0]), .inl (8, [25, 43, 0, 0, 0]), .inr (.inl 160), .inr (.inl 160), .inr (.inl 160), .inr (.inl 160), .inr (.inl 160), .inr (.inl 160), .inl (5, [48, 0, 0]), .inl (5, [49, 0, 0]), .inl (5, [50, 0, 0]), .inl (5, [51, 0, 0]), .inr (.inl 40), .inr (.inl 40), .inr (.inl 40), .inr (.inl 40)]
/-- the reference: 20 cells -/
def shM : List Sh := [.inl (11, [0, 3, 4, 5, 6, 7, 8, 0, 9, 10, 0, 0, 0, 0, 0, 11, 12, 13, 14, 15, 16, 0, 0, 0, 0, 17, 18, 0, 0, 0, 19, 20, 0, 0, 0, 0, 0, 0, 0, 0, 0, 0, 0, 0, 21]), .inr (.inl 6), .inr (.inl 6), .inr (.inl 6), .inr (.inl 6), .inr (.inl 6), .inr (.inl 160), .inr (.inl 1200), .inr (.inl 24), .inr (.inl 6), .inr (.inl 6), .inr (.inl 4), .inr (.inl 4), .inr (.inl 160), .inr (.inl 62), .inr (.inl 96), .inr (.inl 200), .inr (.inl 200), .inr (.inl 6), .inr (.inl 6)]
abbrev P_Side (q : Nat) : Prop := q = 12 ∨ q = 14
abbrev P_names (q : Nat) : Prop := q = 13 ∨ q = 15
abbrev P_Arm (q : Nat) : Prop := 24 ≤ q ∧ q < 30
abbrev P_Text (q : Nat) : Prop := 30 ≤ q ∧ q < 36
abbrev P_Sheet (q : Nat) : Prop := 42 ≤ q ∧ q < 46
theorem sh_Main : shC[0]? = some (.inl (10, [3, 0, 4, 0, 0, 6, 8, 13, 18, 5, 22])) := rfl
theorem sh_Tape : shC[4]? = some (.inl (7, [7, 0])) := rfl
theorem sh_Reader : shC[6]? = some (.inl (3, [9, 1, 0, 0])) := rfl
theorem sh_Tokens : shC[7]? = some (.inl (9, [6, 10, 11, 12, 0, 0])) := rfl
theorem sh_Bout : shC[11]? = some (.inl (1, [14, 16, 1, 0, 0, 0, 0])) := rfl
theorem sh_Seeker : shC[16]? = some (.inl (4, [13, 19, 20, 21, 0, 0, 0, 0])) := rfl
theorem sh_Image : shC[20]? = some (.inl (2, [23, 24, 0, 0, 0])) := rfl
theorem sh_Model : shM[0]? = some (.inl (11, [0, 3, 4, 5, 6, 7, 8, 0, 9, 10, 0, 0, 0, 0, 0, 11, 12, 13, 14, 15, 16, 0, 0, 0, 0, 17, 18, 0, 0, 0, 19, 20, 0, 0, 0, 0, 0, 0, 0, 0, 0, 0, 0, 0, 21])) := rfl
theorem sh_Side {q : Nat} (h : P_Side q) : shC[q]? = some (.inl (6, [q + 3, 0, 0, 0, 1])) := by
  rcases (show q = 12 ∨ q = 14 by omega) with rfl | rfl <;> rfl
theorem sh_Arm {q : Nat} (h : P_Arm q) : shC[q]? = some (.inl (0, [0, 0, 0, 0, 0, 0, 0, 0, 0, 0])) := by
  rcases (show q = 24 ∨ q = 25 ∨ q = 26 ∨ q = 27 ∨ q = 28 ∨ q = 29 by omega) with rfl | rfl | rfl | rfl | rfl | rfl <;> rfl
theorem sh_Text {q : Nat} (h : P_Text q) : shC[q]? = some (.inl (8, [25, q + 8, 0, 0, 0])) := by
  rcases (show q = 30 ∨ q = 31 ∨ q = 32 ∨ q = 33 ∨ q = 34 ∨ q = 35 by omega) with rfl | rfl | rfl | rfl | rfl | rfl <;> rfl
theorem sh_Sheet {q : Nat} (h : P_Sheet q) : shC[q]? = some (.inl (5, [q + 6, 0, 0])) := by
  rcases (show q = 42 ∨ q = 43 ∨ q = 44 ∨ q = 45 by omega) with rfl | rfl | rfl | rfl <;> rfl
theorem sh_namesOf {q : Nat} (h : P_Side q) : shC[q + 1]? = some (.inr (.inl 6)) := by
  rcases (show q = 12 ∨ q = 14 by omega) with rfl | rfl <;> rfl
theorem sh_stepsOf {q : Nat} (h : P_Text q) : shC[q + 6]? = some (.inr (.inl 160)) := by
  rcases (show q = 30 ∨ q = 31 ∨ q = 32 ∨ q = 33 ∨ q = 34 ∨ q = 35 by omega) with rfl | rfl | rfl | rfl | rfl | rfl <;> rfl
theorem sh_numbersOf {q : Nat} (h : P_Sheet q) : shC[q + 4]? = some (.inr (.inl 40)) := by
  rcases (show q = 42 ∨ q = 43 ∨ q = 44 ∨ q = 45 by omega) with rfl | rfl | rfl | rfl <;> rfl
theorem sh_names {q : Nat} (h : P_names q) : shC[q]? = some (.inr (.inl 6)) := by
  rcases h with rfl | rfl <;> rfl
theorem P_namesOf {q : Nat} (h : P_Side q) : P_names (q + 1) := by omega
theorem P_Arm_of {x : Int32} (h : inB x 6 = true) : P_Arm (24 + x.toNatClampNeg) := by
  have := inB_lt h
  omega
theorem P_Text_of {x : Int32} (h : inB x 6 = true) : P_Text (30 + x.toNatClampNeg) := by
  have := inB_lt h
  omega
theorem P_Sheet_of {x : Int32} (h : inB x 4 = true) : P_Sheet (42 + x.toNatClampNeg) := by
  have := inB_lt h
  omega
def R_JInteger : String := "java/lang/Intege\x72"
def R_JString : String := "java/lang/String"
def R_JLatin1 : String := "java/lang/StringLatin1"
def R_JPrecond : String := "jdk/internal/util/Preconditions"
/-- how often a loop may go round -/
def FU : Nat := 1000
end
section
/-! ===== rows for what is constant: the static row, the texts, the library's methods over them ===== -/
section KW
variable {p : Program} {l : Launch} {e : Env} {R : Room} {s : State} {m : MethodId} {args : Array Value} {below : List Frame} {meth : Method} {c : Code} {H : Heap} {locs : List Loc} {Q : State → Prop}
variable {cc : ByteArray} {pc nL : Nat} {ls : Array Slot} {rest : List Value} {own : String} {rt : Option FieldType} {D : va_G} {cA : Nat → ClassId} {ad : Nat → Nat} {sh : List Sh} {A : Nat → Prop} {σ τ : St}
theorem k_gets (K : Fx p s m args meth c cc nL own rt) (hw : Wh D cA ad sh A s σ H locs) {idx : Nat} {host : String} (hN : Cond.fieldLinkNest own idx R_Main "KIND_ABOVE" "[I" host ∈ NWS) (hdg : decode cc pc = .ok (.getstatic idx, 3))
    (kk : W p l e R s m args below meth c H locs 0 0 Q (F0 m (pc + 3) ls (.ref (ad 100) :: rest))) : W p l e R s m args below meth c H locs 0 0 Q (F0 m pc ls rest) :=
  va_getsN K.1.1 K.1.2.1 hw.2.2.2.2.1.2.1 hw.2.2.2.1 K.1.2.2.2.1 (va_Nw.use rfl (hw.2.2.2.2.1.1 _ hN)) (fun _ h => h) hdg kk
theorem k_ald (K : Fx p s m args meth c cc nL own rt) (hw : Wh D cA ad sh A s σ H locs) {i : Int32} {k : Nat} (hi : i.toNatClampNeg = k) (hin : vp_in i 6) (hdg : decode cc pc = .ok (.iaload, 1))
    (kk : W p l e R s m args below meth c H locs 0 0 Q (F0 m (pc + 1) ls (.int (kaF k) :: rest))) : W p l e R s m args below meth c H locs 0 0 Q (F0 m pc ls (.int i :: .ref (ad 100) :: rest)) := by
  subst hi
  exact va_ti K.1.1 K.1.2.1 hw.2.2.2.2.1.2.2.1 hw.2.2.2.1 hin rfl hdg kk
theorem k_alen (K : Fx p s m args meth c cc nL own rt) (hw : Wh D cA ad sh A s σ H locs) (hdg : decode cc pc = .ok (.arraylength, 1))
    (kk : W p l e R s m args below meth c H locs 0 0 Q (F0 m (pc + 1) ls (.int 6 :: rest))) : W p l e R s m args below meth c H locs 0 0 Q (F0 m pc ls (.ref (ad 100) :: rest)) :=
  va_tlen K.1.1 K.1.2.1 hw.2.2.2.2.1.2.2.1 hw.2.2.2.1 rfl hdg kk
theorem k_ldc0 (K : Fx p s m args meth c cc nL R_Main rt) (hw : Wh D cA ad sh A s σ H locs) (hdg : decode cc pc = .ok (.ldc 46, 2))
    (kk : W p l e R s m args below meth c H locs 0 0 Q (F0 m (pc + 2) ls (.ref (ad (101 + 0)) :: rest))) : W p l e R s m args below meth c H locs 0 0 Q (F0 m pc ls rest) :=
  va_ldcS K.1.1 K.1.2.1 K.1.2.2.2.1 hw.2.2.2.2.1.2.2.2.2.1.1 hdg kk
theorem k_ldc1 (K : Fx p s m args meth c cc nL R_Tokens rt) (hw : Wh D cA ad sh A s σ H locs) (hdg : decode cc pc = .ok (.ldc 62, 2))
    (kk : W p l e R s m args below meth c H locs 0 0 Q (F0 m (pc + 2) ls (.ref (ad (101 + 1)) :: rest))) : W p l e R s m args below meth c H locs 0 0 Q (F0 m pc ls rest) :=
  va_ldcS K.1.1 K.1.2.1 K.1.2.2.2.1 hw.2.2.2.2.1.2.2.2.2.1.2.1 hdg kk
theorem k_ldc2 (K : Fx p s m args meth c cc nL R_Tokens rt) (hw : Wh D cA ad sh A s σ H locs) (hdg : decode cc pc = .ok (.ldc 78, 2))
    (kk : W p l e R s m args below meth c H locs 0 0 Q (F0 m (pc + 2) ls (.ref (ad (101 + 2)) :: rest))) : W p l e R s m args below meth c H locs 0 0 Q (F0 m pc ls rest) :=
  va_ldcS K.1.1 K.1.2.1 K.1.2.2.2.1 hw.2.2.2.2.1.2.2.2.2.1.2.2 hdg kk
theorem k_val (K : Fx p s m args meth c cc nL own rt) (hw : Wh D cA ad sh A s σ H locs) {i idx : Nat} (hi : i < 3) (hlink : Cond.fieldLink own idx "java/lang/String" "value" "[B" ∈ TB) (hdg : decode cc pc = .ok (.getfield idx, 3))
    (kk : W p l e R s m args below meth c H locs 0 0 Q (F0 m (pc + 3) ls (.ref (ad (104 + i)) :: rest))) : W p l e R s m args below meth c H locs 0 0 Q (F0 m pc ls (.ref (ad (101 + i)) :: rest)) :=
  vk_getf K.1.1 K.1.2.1 (hw.2.2.2.2.1.2.2.2.1.1 i hi).2.2.1 hw.2.2.2.1 K.1.2.2.2.1 (K.1.2.2.2.2 _ hlink) (fun _ h => h) hdg kk
theorem k_cod (K : Fx p s m args meth c cc nL own rt) (hw : Wh D cA ad sh A s σ H locs) {i idx : Nat} (hi : i < 3) (hlink : Cond.fieldLink own idx "java/lang/String" "coder" "B" ∈ TB) (hdg : decode cc pc = .ok (.getfield idx, 3))
    (kk : W p l e R s m args below meth c H locs 0 0 Q (F0 m (pc + 3) ls (.int 0 :: rest))) : W p l e R s m args below meth c H locs 0 0 Q (F0 m pc ls (.ref (ad (101 + i)) :: rest)) :=
  vk_getf K.1.1 K.1.2.1 (hw.2.2.2.2.1.2.2.2.1.1 i hi).2.1 hw.2.2.2.1 K.1.2.2.2.1 (K.1.2.2.2.2 _ hlink) (fun _ h => h) hdg kk
theorem k_cs (K : Fx p s m args meth c cc nL own rt) (hw : Wh D cA ad sh A s σ H locs) {idx : Nat} (hlink : Cond.fieldLink own idx "java/lang/String" "COMPACT_STRINGS" "Z" ∈ TB) (hdg : decode cc pc = .ok (.getstatic idx, 3))
    (kk : W p l e R s m args below meth c H locs 0 0 Q (F0 m (pc + 3) ls (.int 1 :: rest))) : W p l e R s m args below meth c H locs 0 0 Q (F0 m pc ls rest) :=
  va_gets K.1.1 K.1.2.1 hw.2.2.2.2.1.2.2.2.2.2.1 hw.2.2.2.1 K.1.2.2.2.1 (K.1.2.2.2.2 _ hlink) (fun _ h => h) hdg kk
theorem k_fm (K : Fx p s m args meth c cc nL own rt) (hw : Wh D cA ad sh A s σ H locs) {idx : Nat} (hlink : Cond.fieldLink own idx "jdk/internal/util/Preconditions" "SIOOBE_FORMATTER" "Ljava/util/function/BiFunction;" ∈ TB) (hdg : decode cc pc = .ok (.getstatic idx, 3))
    (kk : ∀ v : Value, (v = .null ∨ ∃ t, v = .ref t) → W p l e R s m args below meth c H locs 0 0 Q (F0 m (pc + 3) ls (v :: rest))) : W p l e R s m args below meth c H locs 0 0 Q (F0 m pc ls rest) := by
  rcases hw.2.2.2.2.1.2.2.2.2.2.2 with h | ⟨t, h⟩
  · exact va_gets K.1.1 K.1.2.1 h hw.2.2.2.1 K.1.2.2.2.1 (K.1.2.2.2.2 _ hlink) (fun _ h => h) hdg (kk _ (Or.inl rfl))
  · exact va_gets K.1.1 K.1.2.1 h hw.2.2.2.1 K.1.2.2.2.1 (K.1.2.2.2.2 _ hlink) (fun _ h => h) hdg (kk _ (Or.inr ⟨t, rfl⟩))
theorem k_blen (K : Fx p s m args meth c cc nL own rt) (hw : Wh D cA ad sh A s σ H locs) {i : Nat} (hi : i < 3) (hdg : decode cc pc = .ok (.arraylength, 1))
    (kk : W p l e R s m args below meth c H locs 0 0 Q (F0 m (pc + 1) ls (.int (nI (SLEN.getD i 0)) :: rest))) : W p l e R s m args below meth c H locs 0 0 Q (F0 m pc ls (.ref (ad (104 + i)) :: rest)) :=
  va_tlen K.1.1 K.1.2.1 (hw.2.2.2.2.1.2.2.2.1.1 i hi).2.2.2 hw.2.2.2.1 rfl hdg kk
theorem k_bald (K : Fx p s m args meth c cc nL own rt) (hw : Wh D cA ad sh A s σ H locs) {i : Nat} (hi : i < 3) {x : Int32} (hin : vp_in x (SLEN.getD i 0)) (hdg : decode cc pc = .ok (.baload, 1))
    (kk : W p l e R s m args below meth c H locs 0 0 Q (F0 m (pc + 1) ls (.int ((SBYT.getD i []).getD x.toNatClampNeg 0) :: rest))) : W p l e R s m args below meth c H locs 0 0 Q (F0 m pc ls (.int x :: .ref (ad (104 + i)) :: rest)) :=
  va_tb K.1.1 K.1.2.1 (hw.2.2.2.2.1.2.2.2.1.1 i hi).2.2.2 hw.2.2.2.1 hin rfl hdg kk
/-- a method of a text -/
theorem k_callVI (K : Fx p s m args meth c cc nL own rt) (hw : Wh D cA ad sh A s σ H locs) (hl : ls.size = nL) {y : MethodName} {b : ByteArray} {mL n idx : Nat} {rt2 : Option FieldType} {rm : Room} {As st : List Value} {i : Nat} {r : Int32} (hM : MI l D cA ad sh y (wT y b mL rt2) rm (.ref (ad (101 + i)) :: As) σ r τ) (hi : i < 3) (g : GoodIn TB (wsV own idx R_JString y (wT y b mL rt2)))
    (hd : y.cls = R_JString ∧ y.cls ≠ "java/lang/invoke/MethodHandle" ∧ y.cls ≠ "java/lang/invoke/VarHandle" ∧ (parseMethodDescriptor y.desc).map (fun d => d.parameters.length) = some n) (hR : rm.cells = 0 ∧ rm.slots = 0 ∧ rm.frames + 1 ≤ R.frames ∧ 8 + (mL + 11) + rm.locals ≤ R.locals) (hn : As.length = n) (hst : st = As.reverse ++ .ref (ad (101 + i)) :: rest) (hcat : (rest.map fun v => v.category).sum ≤ 8) (hdg : decode cc pc = .ok (.invokevirtual idx, 3))
    (kk : ∀ (H1 : Heap) (locs1 : List Loc), Wh D cA ad sh A s τ H1 locs1 → W p l e R s m args below meth c H1 locs1 0 0 Q (F0 m (pc + 3) ls (.int r :: rest))) : W p l e R s m args below meth c H locs 0 0 Q (F0 m pc ls st) := by
  have hp := hw.pre (.ref (ad (101 + i)) :: As)
  refine va_calli (A0 := A) (va_runV (C := R_JString) (As := As) (rest := rest) K.1 (hM H.size) (cwV n K.1.2.2.2.2 g rfl hR.1 hR.2.1 hd hR.2.2) ⟨hp.1, vk_recv hw.2.2.2.2.1.2.2.2.1 hi hw.2.2.2.1, hp.2⟩ rfl hn hl hst (lv_room hcat) hdg ⟨Nat.zero_le _, Nat.zero_le _⟩) hw.2.2.2.1 (fun q _ h => hw.free q h) hw.free (fun r' u t H1 locs1 ht hvm hr hB hz hk hS => ?_)
  subst hr
  exact kk H1 locs1 (hw.next (by rw [← ht]; exact hB.1) hS)
/-- a static method of any class -/
theorem k_callTI (K : Fx p s m args meth c cc nL own rt) (hw : Wh D cA ad sh A s σ H locs) (hl : ls.size = nL) {y : MethodName} {b : ByteArray} {mL n idx : Nat} {rt2 : Option FieldType} {rm : Room} {As st : List Value} {r : Int32} (hM : MI l D cA ad sh y (wT y b mL rt2) rm As σ r τ) (h1 : Cond.methodLink own idx y ∈ TB) (h2 : Cond.static y ∈ TB) (h4 : Cond.initialized y.cls ∈ TB) (h5 : Cond.code y b mL rt2 ∈ TB)
    (hd : y.cls ≠ "java/lang/invoke/MethodHandle" ∧ y.cls ≠ "java/lang/invoke/VarHandle" ∧ (parseMethodDescriptor y.desc).map (fun d => d.parameters.length) = some n) (hR : rm.cells = 0 ∧ rm.slots = 0 ∧ rm.frames + 1 ≤ R.frames ∧ 8 + (mL + 11) + rm.locals ≤ R.locals) (hn : As.length = n) (hst : st = As.reverse ++ rest) (hcat : (rest.map fun v => v.category).sum ≤ 8) (hdg : decode cc pc = .ok (.invokestatic idx, 3))
    (kk : ∀ (H1 : Heap) (locs1 : List Loc), Wh D cA ad sh A s τ H1 locs1 → W p l e R s m args below meth c H1 locs1 0 0 Q (F0 m (pc + 3) ls (.int r :: rest))) : W p l e R s m args below meth c H locs 0 0 Q (F0 m pc ls st) := by
  have hp := hw.pre As
  have hts := K.1.2.2.2.2
  refine va_calli (A0 := A) (va_runS (As := As) (rest := rest) K.1 (hM H.size) ⟨callB_of n hts (tb_good (tb_wT h5)) rfl hR.1 hR.2.1 (hts _ h4) (hts _ h1) hd hR.2.2, hts _ h2⟩ hp rfl hn hl hst (lv_room hcat) hdg ⟨Nat.zero_le _, Nat.zero_le _⟩) hw.2.2.2.1 (fun q _ h => hw.free q h) hw.free (fun r' u t H1 locs1 ht hvm hr hB hz hk hS => ?_)
  subst hr
  exact kk H1 locs1 (hw.next (by rw [← ht]; exact hB.1) hS)
theorem k_callTV (K : Fx p s m args meth c cc nL own rt) (hw : Wh D cA ad sh A s σ H locs) (hl : ls.size = nL) {y : MethodName} {b : ByteArray} {mL n idx : Nat} {rt2 : Option FieldType} {rm : Room} {As st : List Value} (hM : MV l D cA ad sh y (wT y b mL rt2) rm As σ τ) (h1 : Cond.methodLink own idx y ∈ TB) (h2 : Cond.static y ∈ TB) (h4 : Cond.initialized y.cls ∈ TB) (h5 : Cond.code y b mL rt2 ∈ TB)
    (hd : y.cls ≠ "java/lang/invoke/MethodHandle" ∧ y.cls ≠ "java/lang/invoke/VarHandle" ∧ (parseMethodDescriptor y.desc).map (fun d => d.parameters.length) = some n) (hR : rm.cells = 0 ∧ rm.slots = 0 ∧ rm.frames + 1 ≤ R.frames ∧ 8 + (mL + 11) + rm.locals ≤ R.locals) (hn : As.length = n) (hst : st = As.reverse ++ rest) (hcat : (rest.map fun v => v.category).sum ≤ 8) (hdg : decode cc pc = .ok (.invokestatic idx, 3))
    (kk : ∀ (H1 : Heap) (locs1 : List Loc), Wh D cA ad sh A s τ H1 locs1 → W p l e R s m args below meth c H1 locs1 0 0 Q (F0 m (pc + 3) ls rest)) : W p l e R s m args below meth c H locs 0 0 Q (F0 m pc ls st) := by
  have hp := hw.pre As
  have hts := K.1.2.2.2.2
  refine va_callv (A0 := A) (va_runS (As := As) (rest := rest) K.1 (hM H.size) ⟨callB_of n hts (tb_good (tb_wT h5)) rfl hR.1 hR.2.1 (hts _ h4) (hts _ h1) hd hR.2.2, hts _ h2⟩ hp rfl hn hl hst (lv_room hcat) hdg ⟨Nat.zero_le _, Nat.zero_le _⟩) hw.2.2.2.1 (fun q _ h => hw.free q h) hw.free (fun u t H1 locs1 ht hvm hr hB hz hk hS => ?_)
  exact kk H1 locs1 (hw.next (by rw [← ht]; exact hB.1) hS)
/-- a byte, a char at the end -/
theorem k_nret (K : Fx p s m args meth c cc nL own rt) (hw : Wh D cA ad sh A s σ H locs) {x : Int32} {ty : FieldType} (hty : rt = some ty) (hn : narrow ty (.int x) = .int x) (hdg : decode cc pc = .ok (.ireturn, 1)) : W p l e R s m args below meth c H locs 0 0 (MQ below (QcI D cA ad sh A x σ) args s 0 0 A) (F0 m pc ls [.int x]) :=
  W.zret (ty := ty) K.1.1 K.1.2.1 (K.2.1.trans hty) hn (fun t ht hW => ⟨⟨x, (), rfl, rfl, by rw [ht]; exact hw.2.1, va_K.moved hW.alike hw.1⟩, hw.2.2.2.1.F ht⟩) hw.2.2.2.1.2.2 hdg K.2.2
/-- a row's part comes to another one's, or its own -/
theorem k_copy (K : Fx p s m args meth c cc nL own rt) (hw : Wh D cA ad sh A s σ H locs) (hl : ls.size = nL) {idx : Nat} (hlink : Cond.methodLink own idx arraycopyName ∈ TB) (hnat : Cond.native arraycopyName ∈ TB) (hstat : Cond.static arraycopyName ∈ TB) (hini : Cond.initialized "java/lang/System" ∈ TB)
    {q0 q1 n0 n1 : Nat} (h0 : sh[q0]? = some (.inr (.inl n0))) (h1 : sh[q1]? = some (.inr (.inl n1))) {sp dp n : Int32} (g1 : ¬ sp < 0) (g2 : ¬ dp < 0) (g3 : ¬ n < 0) (g4 : sp.toNatClampNeg + n.toNatClampNeg ≤ n0) (g5 : dp.toNatClampNeg + n.toNatClampNeg ≤ n1)
    (hframes : 1 ≤ R.frames) (hlocals : (rest.map fun v => v.category).sum + (nativeFrameWords "java/lang/System" "arraycopy" 5 + 11) ≤ R.locals) (hdg : decode cc pc = .ok (.invokestatic idx, 3))
    (kk : ∀ (τ : St), τ = (fun q i => if q = q1 ∧ dp.toNatClampNeg ≤ i ∧ i < dp.toNatClampNeg + n.toNatClampNeg then σ.1 q0 (sp.toNatClampNeg + (i - dp.toNatClampNeg)) else σ.1 q i, σ.2) → ∀ (H1 : Heap) (locs1 : List Loc), Wh D cA ad sh A s τ H1 locs1 → W p l e R s m args below meth c H1 locs1 0 0 Q (F0 m (pc + 3) ls rest)) : W p l e R s m args below meth c H locs 0 0 Q (F0 m pc ls (.int n :: .int dp :: .ref (ad q1) :: .int sp :: .ref (ad q0) :: rest)) := by
  have hts := K.1.2.2.2.2
  refine va_copyi (D := D) K.1.1 K.1.2.1 (K.1.2.2.1.trans hl.symm) K.1.2.2.2.1 (hts _ hlink) (hts _ hnat) (hts _ hstat) (hts _ hini) hw.1 hw.2.1 hw.2.2.1 hw.2.2.2.1 q0 q1 0 0 (ty := .int) (Wd_at h0) (Wd_at h1) rfl rfl rfl g1 g2 g3 g4 g5 (fun _ _ => rfl) hframes hlocals hdg (fun H1 locs1 hP hD hS => kk _ rfl H1 locs1 (hw.next ?_ hS))
  rw [Wd_set (τ := (fun q i => if q = q1 ∧ dp.toNatClampNeg ≤ i ∧ i < dp.toNatClampNeg + n.toNatClampNeg then σ.1 q0 (sp.toNatClampNeg + (i - dp.toNatClampNeg)) else σ.1 q i, σ.2)) h1 ?_ ?_] at hP
  · exact hP
  · show Sum.inl (cA 0, n1, Sum.inl _) = Sum.inl (cA 0, n1, Sum.inl _)
    congr 4
    funext i
    simp [va_cpy]
  · intro q y hq
    have : ((fun q i => if q = q1 ∧ dp.toNatClampNeg ≤ i ∧ i < dp.toNatClampNeg + n.toNatClampNeg then σ.1 q0 (sp.toNatClampNeg + (i - dp.toNatClampNeg)) else σ.1 q i, σ.2) : St).1 q = σ.1 q := by
      funext i; simp [hq]
    rw [this]
end KW
end
