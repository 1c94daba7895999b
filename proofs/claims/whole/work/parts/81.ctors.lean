/-! ===== the small constructors ===== -/
theorem w_65 : Cond.initialized R_Image ∈ TB := tb_in 65 (by decide +kernel) (by decide +kernel)
theorem w_o2 : Cond.instanceMethod objectInit ∈ TB := tb_in 89 (by decide +kernel) (by decide +kernel)
theorem w_o3 : Cond.code objectInit ⟨#[0xb1]⟩ 1 none ∈ TB := tb_in 90 (by decide +kernel) (by decide +kernel)
/-! Arm<init> -/
abbrev b_Arm_init : ByteArray := prog_2_method_1_code
def y_Arm_init : MethodName := ⟨R_Arm, "<init>", "()V"⟩
theorem a_Arm_init : y_Arm_init.cls = R_Arm ∧ y_Arm_init.cls ≠ "java/lang/invoke/MethodHandle" ∧ y_Arm_init.cls ≠ "java/lang/invoke/VarHandle" ∧ (parseMethodDescriptor y_Arm_init.desc).map (fun d => d.parameters.length) = some 0 := by decide +kernel
abbrev rm_Arm_init : Room := { frames := 1, cells := 0, slots := 0, locals := 12 }
theorem w_mArm : Cond.instanceMethod y_Arm_init ∈ TB := tb_in 139 (by decide +kernel) (by decide +kernel)
theorem w_iArm : Cond.initialized y_Arm_init.cls ∈ TB := w_66
theorem w_cArm : Cond.code y_Arm_init b_Arm_init 1 none ∈ TB := tb_in 140 (by decide +kernel) (by decide +kernel)
theorem z_Arm : ∀ j, j < 10 → defaultValue (t_Arm j) = vp_V [.int 0, .int 0, .int 0, .int 0, .int 0, .int 0, .int 0, .int 0, .int 0, .int 0] j := fun j hj => match j, hj with | 0, _ => rfl | 1, _ => rfl | 2, _ => rfl | 3, _ => rfl | 4, _ => rfl | 5, _ => rfl | 6, _ => rfl | 7, _ => rfl | 8, _ => rfl | 9, _ => rfl | k + 10, h => absurd h (by omega)
theorem d_Arm_init_0 : decode b_Arm_init 0 = .ok (.aload_n 0, 1) := by decide +kernel
theorem d_Arm_init_1 : decode b_Arm_init 1 = .ok (.invokespecial 3, 3) := by decide +kernel
theorem d_Arm_init_4 : decode b_Arm_init 4 = .ok (.return_, 1) := by decide +kernel
/-! Image<init> -/
abbrev b_Image_init : ByteArray := prog_4_method_1_code
def y_Image_init : MethodName := ⟨R_Image, "<init>", "()V"⟩
theorem a_Image_init : y_Image_init.cls = R_Image ∧ y_Image_init.cls ≠ "java/lang/invoke/MethodHandle" ∧ y_Image_init.cls ≠ "java/lang/invoke/VarHandle" ∧ (parseMethodDescriptor y_Image_init.desc).map (fun d => d.parameters.length) = some 0 := by decide +kernel
abbrev rm_Image_init : Room := { frames := 1, cells := 2, slots := 12, locals := 12 }
theorem w_mImage : Cond.instanceMethod y_Image_init ∈ TB := tb_in 116 (by decide +kernel) (by decide +kernel)
theorem w_iImage : Cond.initialized y_Image_init.cls ∈ TB := w_65
theorem w_cImage : Cond.code y_Image_init b_Image_init 1 none ∈ TB := tb_in 117 (by decide +kernel) (by decide +kernel)
theorem z_Image : ∀ j, j < 5 → defaultValue (t_Image j) = vp_V [.null, .null, .int 0, .int 0, .int 0] j := fun j hj => match j, hj with | 0, _ => rfl | 1, _ => rfl | 2, _ => rfl | 3, _ => rfl | 4, _ => rfl | k + 5, h => absurd h (by omega)
theorem d_Image_init_0 : decode b_Image_init 0 = .ok (.aload_n 0, 1) := by decide +kernel
theorem d_Image_init_1 : decode b_Image_init 1 = .ok (.invokespecial 3, 3) := by decide +kernel
theorem d_Image_init_4 : decode b_Image_init 4 = .ok (.aload_n 0, 1) := by decide +kernel
theorem d_Image_init_5 : decode b_Image_init 5 = .ok (.bipush 6, 2) := by decide +kernel
theorem d_Image_init_7 : decode b_Image_init 7 = .ok (.newarray .int, 2) := by decide +kernel
theorem d_Image_init_9 : decode b_Image_init 9 = .ok (.putfield 9, 3) := by decide +kernel
theorem d_Image_init_12 : decode b_Image_init 12 = .ok (.aload_n 0, 1) := by decide +kernel
theorem d_Image_init_13 : decode b_Image_init 13 = .ok (.bipush 6, 2) := by decide +kernel
theorem d_Image_init_15 : decode b_Image_init 15 = .ok (.newarray .int, 2) := by decide +kernel
theorem d_Image_init_17 : decode b_Image_init 17 = .ok (.putfield 15, 3) := by decide +kernel
theorem d_Image_init_20 : decode b_Image_init 20 = .ok (.return_, 1) := by decide +kernel
/-! Sheet<init> -/
abbrev b_Sheet_init : ByteArray := prog_7_method_1_code
def y_Sheet_init : MethodName := ⟨R_Sheet, "<init>", "()V"⟩
theorem a_Sheet_init : y_Sheet_init.cls = R_Sheet ∧ y_Sheet_init.cls ≠ "java/lang/invoke/MethodHandle" ∧ y_Sheet_init.cls ≠ "java/lang/invoke/VarHandle" ∧ (parseMethodDescriptor y_Sheet_init.desc).map (fun d => d.parameters.length) = some 0 := by decide +kernel
abbrev rm_Sheet_init : Room := { frames := 1, cells := 1, slots := 40, locals := 12 }
theorem w_mSheet : Cond.instanceMethod y_Sheet_init ∈ TB := tb_in 186 (by decide +kernel) (by decide +kernel)
theorem w_iSheet : Cond.initialized y_Sheet_init.cls ∈ TB := w_67
theorem w_cSheet : Cond.code y_Sheet_init b_Sheet_init 1 none ∈ TB := tb_in 187 (by decide +kernel) (by decide +kernel)
theorem z_Sheet : ∀ j, j < 3 → defaultValue (t_Sheet j) = vp_V [.null, .int 0, .int 0] j := fun j hj => match j, hj with | 0, _ => rfl | 1, _ => rfl | 2, _ => rfl | k + 3, h => absurd h (by omega)
theorem d_Sheet_init_0 : decode b_Sheet_init 0 = .ok (.aload_n 0, 1) := by decide +kernel
theorem d_Sheet_init_1 : decode b_Sheet_init 1 = .ok (.invokespecial 3, 3) := by decide +kernel
theorem d_Sheet_init_4 : decode b_Sheet_init 4 = .ok (.aload_n 0, 1) := by decide +kernel
theorem d_Sheet_init_5 : decode b_Sheet_init 5 = .ok (.bipush 40, 2) := by decide +kernel
theorem d_Sheet_init_7 : decode b_Sheet_init 7 = .ok (.newarray .int, 2) := by decide +kernel
theorem d_Sheet_init_9 : decode b_Sheet_init 9 = .ok (.putfield 9, 3) := by decide +kernel
theorem d_Sheet_init_12 : decode b_Sheet_init 12 = .ok (.aload_n 0, 1) := by decide +kernel
theorem d_Sheet_init_13 : decode b_Sheet_init 13 = .ok (.iconst (-1), 1) := by decide +kernel
theorem d_Sheet_init_14 : decode b_Sheet_init 14 = .ok (.putfield 15, 3) := by decide +kernel
theorem d_Sheet_init_17 : decode b_Sheet_init 17 = .ok (.return_, 1) := by decide +kernel
/-! Tape<init> -/
abbrev b_Tape_init : ByteArray := prog_9_method_1_code
def y_Tape_init : MethodName := ⟨R_Tape, "<init>", "()V"⟩
theorem a_Tape_init : y_Tape_init.cls = R_Tape ∧ y_Tape_init.cls ≠ "java/lang/invoke/MethodHandle" ∧ y_Tape_init.cls ≠ "java/lang/invoke/VarHandle" ∧ (parseMethodDescriptor y_Tape_init.desc).map (fun d => d.parameters.length) = some 0 := by decide +kernel
abbrev rm_Tape_init : Room := { frames := 1, cells := 1, slots := 160, locals := 12 }
theorem w_mTape : Cond.instanceMethod y_Tape_init ∈ TB := tb_in 98 (by decide +kernel) (by decide +kernel)
theorem w_iTape : Cond.initialized y_Tape_init.cls ∈ TB := w_64
theorem w_cTape : Cond.code y_Tape_init b_Tape_init 1 none ∈ TB := tb_in 99 (by decide +kernel) (by decide +kernel)
theorem z_Tape : ∀ j, j < 2 → defaultValue (t_Tape j) = vp_V [.null, .int 0] j := fun j hj => match j, hj with | 0, _ => rfl | 1, _ => rfl | k + 2, h => absurd h (by omega)
theorem d_Tape_init_0 : decode b_Tape_init 0 = .ok (.aload_n 0, 1) := by decide +kernel
theorem d_Tape_init_1 : decode b_Tape_init 1 = .ok (.invokespecial 3, 3) := by decide +kernel
theorem d_Tape_init_4 : decode b_Tape_init 4 = .ok (.aload_n 0, 1) := by decide +kernel
theorem d_Tape_init_5 : decode b_Tape_init 5 = .ok (.sipush 160, 3) := by decide +kernel
theorem d_Tape_init_8 : decode b_Tape_init 8 = .ok (.newarray .int, 2) := by decide +kernel
theorem d_Tape_init_10 : decode b_Tape_init 10 = .ok (.putfield 9, 3) := by decide +kernel
theorem d_Tape_init_13 : decode b_Tape_init 13 = .ok (.return_, 1) := by decide +kernel
/-! Text<init> -/
abbrev b_Text_init : ByteArray := prog_10_method_1_code
def y_Text_init : MethodName := ⟨R_Text, "<init>", "([I)V"⟩
theorem a_Text_init : y_Text_init.cls = R_Text ∧ y_Text_init.cls ≠ "java/lang/invoke/MethodHandle" ∧ y_Text_init.cls ≠ "java/lang/invoke/VarHandle" ∧ (parseMethodDescriptor y_Text_init.desc).map (fun d => d.parameters.length) = some 1 := by decide +kernel
abbrev rm_Text_init : Room := { frames := 1, cells := 1, slots := 160, locals := 12 }
theorem w_mText : Cond.instanceMethod y_Text_init ∈ TB := tb_in 204 (by decide +kernel) (by decide +kernel)
theorem w_iText : Cond.initialized y_Text_init.cls ∈ TB := w_68
theorem w_cText : Cond.code y_Text_init b_Text_init 2 none ∈ TB := tb_in 205 (by decide +kernel) (by decide +kernel)
theorem z_Text : ∀ j, j < 5 → defaultValue (t_Text j) = vp_V [.null, .null, .int 0, .int 0, .int 0] j := fun j hj => match j, hj with | 0, _ => rfl | 1, _ => rfl | 2, _ => rfl | 3, _ => rfl | 4, _ => rfl | k + 5, h => absurd h (by omega)
theorem d_Text_init_0 : decode b_Text_init 0 = .ok (.aload_n 0, 1) := by decide +kernel
theorem d_Text_init_1 : decode b_Text_init 1 = .ok (.invokespecial 3, 3) := by decide +kernel
theorem d_Text_init_4 : decode b_Text_init 4 = .ok (.aload_n 0, 1) := by decide +kernel
theorem d_Text_init_5 : decode b_Text_init 5 = .ok (.sipush 160, 3) := by decide +kernel
theorem d_Text_init_8 : decode b_Text_init 8 = .ok (.newarray .int, 2) := by decide +kernel
theorem d_Text_init_10 : decode b_Text_init 10 = .ok (.putfield 9, 3) := by decide +kernel
theorem d_Text_init_13 : decode b_Text_init 13 = .ok (.aload_n 0, 1) := by decide +kernel
theorem d_Text_init_14 : decode b_Text_init 14 = .ok (.aload_n 1, 1) := by decide +kernel
theorem d_Text_init_15 : decode b_Text_init 15 = .ok (.putfield 15, 3) := by decide +kernel
theorem d_Text_init_18 : decode b_Text_init 18 = .ok (.return_, 1) := by decide +kernel
/-! Tokens<init> -/
abbrev b_Tokens_init : ByteArray := prog_11_method_1_code
def y_Tokens_init : MethodName := ⟨R_Tokens, "<init>", "(LArmAgainstArm$Tape;)V"⟩
theorem a_Tokens_init : y_Tokens_init.cls = R_Tokens ∧ y_Tokens_init.cls ≠ "java/lang/invoke/MethodHandle" ∧ y_Tokens_init.cls ≠ "java/lang/invoke/VarHandle" ∧ (parseMethodDescriptor y_Tokens_init.desc).map (fun d => d.parameters.length) = some 1 := by decide +kernel
abbrev rm_Tokens_init : Room := { frames := 1, cells := 3, slots := 483, locals := 12 }
theorem w_mTokens : Cond.instanceMethod y_Tokens_init ∈ TB := tb_in 285 (by decide +kernel) (by decide +kernel)
theorem w_iTokens : Cond.initialized y_Tokens_init.cls ∈ TB := w_74
theorem w_cTokens : Cond.code y_Tokens_init b_Tokens_init 2 none ∈ TB := tb_in 286 (by decide +kernel) (by decide +kernel)
theorem z_Tokens : ∀ j, j < 6 → defaultValue (t_Tokens j) = vp_V [.null, .null, .null, .null, .int 0, .int 0] j := fun j hj => match j, hj with | 0, _ => rfl | 1, _ => rfl | 2, _ => rfl | 3, _ => rfl | 4, _ => rfl | 5, _ => rfl | k + 6, h => absurd h (by omega)
theorem d_Tokens_init_0 : decode b_Tokens_init 0 = .ok (.aload_n 0, 1) := by decide +kernel
theorem d_Tokens_init_1 : decode b_Tokens_init 1 = .ok (.invokespecial 5, 3) := by decide +kernel
theorem d_Tokens_init_4 : decode b_Tokens_init 4 = .ok (.aload_n 0, 1) := by decide +kernel
theorem d_Tokens_init_5 : decode b_Tokens_init 5 = .ok (.sipush 161, 3) := by decide +kernel
theorem d_Tokens_init_8 : decode b_Tokens_init 8 = .ok (.newarray .int, 2) := by decide +kernel
theorem d_Tokens_init_10 : decode b_Tokens_init 10 = .ok (.putfield 11, 3) := by decide +kernel
theorem d_Tokens_init_13 : decode b_Tokens_init 13 = .ok (.aload_n 0, 1) := by decide +kernel
theorem d_Tokens_init_14 : decode b_Tokens_init 14 = .ok (.sipush 161, 3) := by decide +kernel
theorem d_Tokens_init_17 : decode b_Tokens_init 17 = .ok (.newarray .int, 2) := by decide +kernel
theorem d_Tokens_init_19 : decode b_Tokens_init 19 = .ok (.putfield 15, 3) := by decide +kernel
theorem d_Tokens_init_22 : decode b_Tokens_init 22 = .ok (.aload_n 0, 1) := by decide +kernel
theorem d_Tokens_init_23 : decode b_Tokens_init 23 = .ok (.sipush 161, 3) := by decide +kernel
theorem d_Tokens_init_26 : decode b_Tokens_init 26 = .ok (.newarray .int, 2) := by decide +kernel
theorem d_Tokens_init_28 : decode b_Tokens_init 28 = .ok (.putfield 18, 3) := by decide +kernel
theorem d_Tokens_init_31 : decode b_Tokens_init 31 = .ok (.aload_n 0, 1) := by decide +kernel
theorem d_Tokens_init_32 : decode b_Tokens_init 32 = .ok (.aload_n 1, 1) := by decide +kernel
theorem d_Tokens_init_33 : decode b_Tokens_init 33 = .ok (.putfield 21, 3) := by decide +kernel
theorem d_Tokens_init_36 : decode b_Tokens_init 36 = .ok (.return_, 1) := by decide +kernel
/-! Reader<init> -/
abbrev b_Reader_init : ByteArray := prog_5_method_1_code
def y_Reader_init : MethodName := ⟨R_Reader, "<init>", "(LArmAgainstArm$Tape;LArmAgainstArm$Text;)V"⟩
theorem a_Reader_init : y_Reader_init.cls = R_Reader ∧ y_Reader_init.cls ≠ "java/lang/invoke/MethodHandle" ∧ y_Reader_init.cls ≠ "java/lang/invoke/VarHandle" ∧ (parseMethodDescriptor y_Reader_init.desc).map (fun d => d.parameters.length) = some 2 := by decide +kernel
abbrev rm_Reader_init : Room := { frames := 2, cells := 4, slots := 489, locals := 33 }
theorem w_mReader : Cond.instanceMethod y_Reader_init ∈ TB := tb_in 279 (by decide +kernel) (by decide +kernel)
theorem w_iReader : Cond.initialized y_Reader_init.cls ∈ TB := w_73
theorem w_cReader : Cond.code y_Reader_init b_Reader_init 3 none ∈ TB := tb_in 280 (by decide +kernel) (by decide +kernel)
theorem z_Reader : ∀ j, j < 4 → defaultValue (t_Reader j) = vp_V [.null, .null, .int 0, .int 0] j := fun j hj => match j, hj with | 0, _ => rfl | 1, _ => rfl | 2, _ => rfl | 3, _ => rfl | k + 4, h => absurd h (by omega)
theorem d_Reader_init_0 : decode b_Reader_init 0 = .ok (.aload_n 0, 1) := by decide +kernel
theorem d_Reader_init_1 : decode b_Reader_init 1 = .ok (.invokespecial 3, 3) := by decide +kernel
theorem d_Reader_init_4 : decode b_Reader_init 4 = .ok (.aload_n 0, 1) := by decide +kernel
theorem d_Reader_init_5 : decode b_Reader_init 5 = .ok (.new 9, 3) := by decide +kernel
theorem d_Reader_init_8 : decode b_Reader_init 8 = .ok (.dup, 1) := by decide +kernel
theorem d_Reader_init_9 : decode b_Reader_init 9 = .ok (.aload_n 1, 1) := by decide +kernel
theorem d_Reader_init_10 : decode b_Reader_init 10 = .ok (.invokespecial 11, 3) := by decide +kernel
theorem d_Reader_init_13 : decode b_Reader_init 13 = .ok (.putfield 14, 3) := by decide +kernel
theorem d_Reader_init_16 : decode b_Reader_init 16 = .ok (.aload_n 0, 1) := by decide +kernel
theorem d_Reader_init_17 : decode b_Reader_init 17 = .ok (.aload_n 2, 1) := by decide +kernel
theorem d_Reader_init_18 : decode b_Reader_init 18 = .ok (.putfield 20, 3) := by decide +kernel
theorem d_Reader_init_21 : decode b_Reader_init 21 = .ok (.return_, 1) := by decide +kernel
/-! Side<init> -/
abbrev b_Side_init : ByteArray := prog_8_method_1_code
def y_Side_init : MethodName := ⟨R_Side, "<init>", "(LArmAgainstArm$Arm;)V"⟩
theorem a_Side_init : y_Side_init.cls = R_Side ∧ y_Side_init.cls ≠ "java/lang/invoke/MethodHandle" ∧ y_Side_init.cls ≠ "java/lang/invoke/VarHandle" ∧ (parseMethodDescriptor y_Side_init.desc).map (fun d => d.parameters.length) = some 1 := by decide +kernel
abbrev rm_Side_init : Room := { frames := 1, cells := 1, slots := 6, locals := 12 }
theorem w_mSide : Cond.instanceMethod y_Side_init ∈ TB := tb_in 505 (by decide +kernel) (by decide +kernel)
theorem w_iSide : Cond.initialized y_Side_init.cls ∈ TB := w_78
theorem w_cSide : Cond.code y_Side_init b_Side_init 2 none ∈ TB := tb_in 506 (by decide +kernel) (by decide +kernel)
theorem z_Side : ∀ j, j < 5 → defaultValue (t_Side j) = vp_V [.null, .int 0, .int 0, .int 0, .null] j := fun j hj => match j, hj with | 0, _ => rfl | 1, _ => rfl | 2, _ => rfl | 3, _ => rfl | 4, _ => rfl | k + 5, h => absurd h (by omega)
theorem d_Side_init_0 : decode b_Side_init 0 = .ok (.aload_n 0, 1) := by decide +kernel
theorem d_Side_init_1 : decode b_Side_init 1 = .ok (.invokespecial 3, 3) := by decide +kernel
theorem d_Side_init_4 : decode b_Side_init 4 = .ok (.aload_n 0, 1) := by decide +kernel
theorem d_Side_init_5 : decode b_Side_init 5 = .ok (.bipush 6, 2) := by decide +kernel
theorem d_Side_init_7 : decode b_Side_init 7 = .ok (.newarray .int, 2) := by decide +kernel
theorem d_Side_init_9 : decode b_Side_init 9 = .ok (.putfield 11, 3) := by decide +kernel
theorem d_Side_init_12 : decode b_Side_init 12 = .ok (.aload_n 0, 1) := by decide +kernel
theorem d_Side_init_13 : decode b_Side_init 13 = .ok (.aload_n 1, 1) := by decide +kernel
theorem d_Side_init_14 : decode b_Side_init 14 = .ok (.putfield 17, 3) := by decide +kernel
theorem d_Side_init_17 : decode b_Side_init 17 = .ok (.return_, 1) := by decide +kernel
/-! Bout<init> -/
abbrev b_Bout_init : ByteArray := prog_3_method_1_code
def y_Bout_init : MethodName := ⟨R_Bout, "<init>", "(LArmAgainstArm$Arm;LArmAgainstArm$Arm;LArmAgainstArm$Text;)V"⟩
theorem a_Bout_init : y_Bout_init.cls = R_Bout ∧ y_Bout_init.cls ≠ "java/lang/invoke/MethodHandle" ∧ y_Bout_init.cls ≠ "java/lang/invoke/VarHandle" ∧ (parseMethodDescriptor y_Bout_init.desc).map (fun d => d.parameters.length) = some 3 := by decide +kernel
abbrev rm_Bout_init : Room := { frames := 2, cells := 4, slots := 22, locals := 33 }
theorem w_mBout : Cond.instanceMethod y_Bout_init ∈ TB := tb_in 499 (by decide +kernel) (by decide +kernel)
theorem w_iBout : Cond.initialized y_Bout_init.cls ∈ TB := w_77
theorem w_cBout : Cond.code y_Bout_init b_Bout_init 4 none ∈ TB := tb_in 500 (by decide +kernel) (by decide +kernel)
theorem z_Bout : ∀ j, j < 7 → defaultValue (t_Bout j) = vp_V [.null, .null, .null, .int 0, .int 0, .int 0, .int 0] j := fun j hj => match j, hj with | 0, _ => rfl | 1, _ => rfl | 2, _ => rfl | 3, _ => rfl | 4, _ => rfl | 5, _ => rfl | 6, _ => rfl | k + 7, h => absurd h (by omega)
theorem d_Bout_init_0 : decode b_Bout_init 0 = .ok (.aload_n 0, 1) := by decide +kernel
theorem d_Bout_init_1 : decode b_Bout_init 1 = .ok (.invokespecial 3, 3) := by decide +kernel
theorem d_Bout_init_4 : decode b_Bout_init 4 = .ok (.aload_n 0, 1) := by decide +kernel
theorem d_Bout_init_5 : decode b_Bout_init 5 = .ok (.new 9, 3) := by decide +kernel
theorem d_Bout_init_8 : decode b_Bout_init 8 = .ok (.dup, 1) := by decide +kernel
theorem d_Bout_init_9 : decode b_Bout_init 9 = .ok (.aload_n 1, 1) := by decide +kernel
theorem d_Bout_init_10 : decode b_Bout_init 10 = .ok (.invokespecial 11, 3) := by decide +kernel
theorem d_Bout_init_13 : decode b_Bout_init 13 = .ok (.putfield 14, 3) := by decide +kernel
theorem d_Bout_init_16 : decode b_Bout_init 16 = .ok (.aload_n 0, 1) := by decide +kernel
theorem d_Bout_init_17 : decode b_Bout_init 17 = .ok (.new 9, 3) := by decide +kernel
theorem d_Bout_init_20 : decode b_Bout_init 20 = .ok (.dup, 1) := by decide +kernel
theorem d_Bout_init_21 : decode b_Bout_init 21 = .ok (.aload_n 2, 1) := by decide +kernel
theorem d_Bout_init_22 : decode b_Bout_init 22 = .ok (.invokespecial 11, 3) := by decide +kernel
theorem d_Bout_init_25 : decode b_Bout_init 25 = .ok (.putfield 20, 3) := by decide +kernel
theorem d_Bout_init_28 : decode b_Bout_init 28 = .ok (.aload_n 0, 1) := by decide +kernel
theorem d_Bout_init_29 : decode b_Bout_init 29 = .ok (.aload_n 3, 1) := by decide +kernel
theorem d_Bout_init_30 : decode b_Bout_init 30 = .ok (.putfield 23, 3) := by decide +kernel
theorem d_Bout_init_33 : decode b_Bout_init 33 = .ok (.return_, 1) := by decide +kernel
/-! Seeker<init> -/
abbrev b_Seeker_init : ByteArray := prog_6_method_1_code
def y_Seeker_init : MethodName := ⟨R_Seeker, "<init>", "(LArmAgainstArm$Bout;)V"⟩
theorem a_Seeker_init : y_Seeker_init.cls = R_Seeker ∧ y_Seeker_init.cls ≠ "java/lang/invoke/MethodHandle" ∧ y_Seeker_init.cls ≠ "java/lang/invoke/VarHandle" ∧ (parseMethodDescriptor y_Seeker_init.desc).map (fun d => d.parameters.length) = some 1 := by decide +kernel
abbrev rm_Seeker_init : Room := { frames := 1, cells := 3, slots := 12, locals := 12 }
theorem w_mSeeker : Cond.instanceMethod y_Seeker_init ∈ TB := tb_in 566 (by decide +kernel) (by decide +kernel)
theorem w_iSeeker : Cond.initialized y_Seeker_init.cls ∈ TB := w_79
theorem w_cSeeker : Cond.code y_Seeker_init b_Seeker_init 2 none ∈ TB := tb_in 567 (by decide +kernel) (by decide +kernel)
theorem z_Seeker : ∀ j, j < 8 → defaultValue (t_Seeker j) = vp_V [.null, .null, .null, .null, .int 0, .int 0, .int 0, .int 0] j := fun j hj => match j, hj with | 0, _ => rfl | 1, _ => rfl | 2, _ => rfl | 3, _ => rfl | 4, _ => rfl | 5, _ => rfl | 6, _ => rfl | 7, _ => rfl | k + 8, h => absurd h (by omega)
theorem d_Seeker_init_0 : decode b_Seeker_init 0 = .ok (.aload_n 0, 1) := by decide +kernel
theorem d_Seeker_init_1 : decode b_Seeker_init 1 = .ok (.invokespecial 3, 3) := by decide +kernel
theorem d_Seeker_init_4 : decode b_Seeker_init 4 = .ok (.aload_n 0, 1) := by decide +kernel
theorem d_Seeker_init_5 : decode b_Seeker_init 5 = .ok (.iconst 4, 1) := by decide +kernel
theorem d_Seeker_init_6 : decode b_Seeker_init 6 = .ok (.newarray .int, 2) := by decide +kernel
theorem d_Seeker_init_8 : decode b_Seeker_init 8 = .ok (.putfield 9, 3) := by decide +kernel
theorem d_Seeker_init_11 : decode b_Seeker_init 11 = .ok (.aload_n 0, 1) := by decide +kernel
theorem d_Seeker_init_12 : decode b_Seeker_init 12 = .ok (.iconst 4, 1) := by decide +kernel
theorem d_Seeker_init_13 : decode b_Seeker_init 13 = .ok (.newarray .int, 2) := by decide +kernel
theorem d_Seeker_init_15 : decode b_Seeker_init 15 = .ok (.putfield 15, 3) := by decide +kernel
theorem d_Seeker_init_18 : decode b_Seeker_init 18 = .ok (.aload_n 0, 1) := by decide +kernel
theorem d_Seeker_init_19 : decode b_Seeker_init 19 = .ok (.iconst 4, 1) := by decide +kernel
theorem d_Seeker_init_20 : decode b_Seeker_init 20 = .ok (.newarray .int, 2) := by decide +kernel
theorem d_Seeker_init_22 : decode b_Seeker_init 22 = .ok (.putfield 18, 3) := by decide +kernel
theorem d_Seeker_init_25 : decode b_Seeker_init 25 = .ok (.aload_n 0, 1) := by decide +kernel
theorem d_Seeker_init_26 : decode b_Seeker_init 26 = .ok (.aload_n 1, 1) := by decide +kernel
theorem d_Seeker_init_27 : decode b_Seeker_init 27 = .ok (.putfield 21, 3) := by decide +kernel
theorem d_Seeker_init_30 : decode b_Seeker_init 30 = .ok (.return_, 1) := by decide +kernel
theorem w_100 : Cond.methodLink R_Tape 3 objectInit ∈ TB := tb_in 100 (by decide +kernel) (by decide +kernel)
theorem w_118 : Cond.methodLink R_Image 3 objectInit ∈ TB := tb_in 118 (by decide +kernel) (by decide +kernel)
theorem w_119 : Cond.fieldLink R_Image 9 R_Image "holds" "[I" ∈ TB := tb_in 119 (by decide +kernel) (by decide +kernel)
theorem w_121 : Cond.fieldLink R_Image 15 R_Image "plans" "[I" ∈ TB := tb_in 121 (by decide +kernel) (by decide +kernel)
theorem w_141 : Cond.methodLink R_Arm 3 objectInit ∈ TB := tb_in 141 (by decide +kernel) (by decide +kernel)
theorem w_188 : Cond.methodLink R_Sheet 3 objectInit ∈ TB := tb_in 188 (by decide +kernel) (by decide +kernel)
theorem w_206 : Cond.methodLink R_Text 3 objectInit ∈ TB := tb_in 206 (by decide +kernel) (by decide +kernel)
theorem w_281 : Cond.methodLink R_Reader 3 objectInit ∈ TB := tb_in 281 (by decide +kernel) (by decide +kernel)
theorem w_282 : Cond.classLink R_Reader 9 R_Tokens ∈ TB := tb_in 282 (by decide +kernel) (by decide +kernel)
theorem w_283 : Cond.instantiable R_Tokens 6 ∈ TB := tb_in 283 (by decide +kernel) (by decide +kernel)
theorem w_284 : Cond.methodLink R_Reader 11 y_Tokens_init ∈ TB := tb_in 284 (by decide +kernel) (by decide +kernel)
theorem w_287 : Cond.methodLink R_Tokens 5 objectInit ∈ TB := tb_in 287 (by decide +kernel) (by decide +kernel)
theorem w_501 : Cond.methodLink R_Bout 3 objectInit ∈ TB := tb_in 501 (by decide +kernel) (by decide +kernel)
theorem w_502 : Cond.classLink R_Bout 9 R_Side ∈ TB := tb_in 502 (by decide +kernel) (by decide +kernel)
theorem w_503 : Cond.instantiable R_Side 5 ∈ TB := tb_in 503 (by decide +kernel) (by decide +kernel)
theorem w_504 : Cond.methodLink R_Bout 11 y_Side_init ∈ TB := tb_in 504 (by decide +kernel) (by decide +kernel)
theorem w_507 : Cond.methodLink R_Side 3 objectInit ∈ TB := tb_in 507 (by decide +kernel) (by decide +kernel)
theorem w_568 : Cond.methodLink R_Seeker 3 objectInit ∈ TB := tb_in 568 (by decide +kernel) (by decide +kernel)
set_option maxHeartbeats 4000000 in
theorem c_Arm_init {l : Launch} {D : va_G} {cA : Nat → ClassId}  : MC l D cA y_Arm_init (wT y_Arm_init b_Arm_init 1 none) rm_Arm_init [] (oB 0 [.int 0, .int 0, .int 0, .int 0, .int 0, .int 0, .int 0, .int 0, .int 0, .int 0]) (fun h0 u => [(h0, oB 0 [.int 0, .int 0, .int 0, .int 0, .int 0, .int 0, .int 0, .int 0, .int 0, .int 0])]) 0 0 := by
  refine c_start (by decide +kernel) rfl w_cArm (fun _ => Nat.le_of_ble_eq_true rfl) ?_
  intro h0 p e s m below meth c ls K hm hl hw
  have hx := K.1.1; have hb := K.1.2.1
  refine lv_aload_n hx hb d_Arm_init_0 rfl (lv_at hl 0 rfl) ?_
  refine n_obj K hl.1 w_141 w_o2 w_o3 (by decide) (by decide) d_Arm_init_1 ?_
  exact c_end (e0 := oB 0 [.int 0, .int 0, .int 0, .int 0, .int 0, .int 0, .int 0, .int 0, .int 0, .int 0]) (g := fun h0 u => [(h0, oB 0 [.int 0, .int 0, .int 0, .int 0, .int 0, .int 0, .int 0, .int 0, .int 0, .int 0])]) (mc := 0) (ms := 0) K hw (fun n => n) rfl (by decide) (by decide) d_Arm_init_4
set_option maxHeartbeats 4000000 in
theorem c_Image_init {l : Launch} {D : va_G} {cA : Nat → ClassId}  : MC l D cA y_Image_init (wT y_Image_init b_Image_init 1 none) rm_Image_init [] (oB 2 [.null, .null, .int 0, .int 0, .int 0]) (fun h0 u => [(h0, oB 2 [.ref (u 0), .ref (u 1), .int 0, .int 0, .int 0]), ((u 0), aI (cA 0) 6 (fun _ => 0)), ((u 1), aI (cA 0) 6 (fun _ => 0))]) 2 12 := by
  refine c_start (by decide +kernel) rfl w_cImage (fun _ => Nat.le_of_ble_eq_true rfl) ?_
  intro h0 p e s m below meth c ls K hm hl hw
  have hx := K.1.1; have hb := K.1.2.1
  refine lv_aload_n hx hb d_Image_init_0 rfl (lv_at hl 0 rfl) ?_
  refine n_obj K hl.1 w_118 w_o2 w_o3 (by decide) (by decide) d_Image_init_1 ?_
  refine lv_aload_n hx hb d_Image_init_4 rfl (lv_at hl 0 rfl) ?_
  refine lv_bipush (v := 6) hx hb d_Image_init_5 (by decide) ?_
  refine n_newi K hw 6 (by decide) (by decide) (by decide) (by decide) (by decide) d_Image_init_7 (fun q1 H hw => ?_)
  have hw : Wn D cA _ s [(h0, oB 2 [.null, .null, .int 0, .int 0, .int 0]), (q1, aI (cA 0) 6 (fun _ => 0))] H _ := hw
  refine n_putF K hm hw i_Image t_Image t_Image_ok n_Image 0 rfl rfl 0 (by decide) w_119 rfl rfl rfl rfl rfl (Nat.le_of_ble_eq_true rfl) d_Image_init_9 (fun H locs hw => ?_)
  have hw : Wn D cA _ s [(h0, oB 2 [.ref q1, .null, .int 0, .int 0, .int 0]), (q1, aI (cA 0) 6 (fun _ => 0))] H _ := hw
  refine lv_aload_n hx hb d_Image_init_12 rfl (lv_at hl 0 rfl) ?_
  refine lv_bipush (v := 6) hx hb d_Image_init_13 (by decide) ?_
  refine n_newi K hw 6 (by decide) (by decide) (by decide) (by decide) (by decide) d_Image_init_15 (fun q2 H hw => ?_)
  have hw : Wn D cA _ s [(h0, oB 2 [.ref q1, .null, .int 0, .int 0, .int 0]), (q1, aI (cA 0) 6 (fun _ => 0)), (q2, aI (cA 0) 6 (fun _ => 0))] H _ := hw
  refine n_putF K hm hw i_Image t_Image t_Image_ok n_Image 0 rfl rfl 1 (by decide) w_121 rfl rfl rfl rfl rfl (Nat.le_of_ble_eq_true rfl) d_Image_init_17 (fun H locs hw => ?_)
  have hw : Wn D cA _ s [(h0, oB 2 [.ref q1, .ref q2, .int 0, .int 0, .int 0]), (q1, aI (cA 0) 6 (fun _ => 0)), (q2, aI (cA 0) 6 (fun _ => 0))] H _ := hw
  exact c_end (e0 := oB 2 [.null, .null, .int 0, .int 0, .int 0]) (g := fun h0 u => [(h0, oB 2 [.ref (u 0), .ref (u 1), .int 0, .int 0, .int 0]), ((u 0), aI (cA 0) 6 (fun _ => 0)), ((u 1), aI (cA 0) 6 (fun _ => 0))]) (mc := 2) (ms := 12) K hw (fun n => match n with | 0 => q1 | _ => q2) rfl (by decide) (by decide) d_Image_init_20
set_option maxHeartbeats 4000000 in
theorem c_Sheet_init {l : Launch} {D : va_G} {cA : Nat → ClassId}  : MC l D cA y_Sheet_init (wT y_Sheet_init b_Sheet_init 1 none) rm_Sheet_init [] (oB 5 [.null, .int 0, .int 0]) (fun h0 u => [(h0, oB 5 [.ref (u 0), .int (-1), .int 0]), ((u 0), aI (cA 0) 40 (fun _ => 0))]) 1 40 := by
  refine c_start (by decide +kernel) rfl w_cSheet (fun _ => Nat.le_of_ble_eq_true rfl) ?_
  intro h0 p e s m below meth c ls K hm hl hw
  have hx := K.1.1; have hb := K.1.2.1
  refine lv_aload_n hx hb d_Sheet_init_0 rfl (lv_at hl 0 rfl) ?_
  refine n_obj K hl.1 w_188 w_o2 w_o3 (by decide) (by decide) d_Sheet_init_1 ?_
  refine lv_aload_n hx hb d_Sheet_init_4 rfl (lv_at hl 0 rfl) ?_
  refine lv_bipush (v := 40) hx hb d_Sheet_init_5 (by decide) ?_
  refine n_newi K hw 40 (by decide) (by decide) (by decide) (by decide) (by decide) d_Sheet_init_7 (fun q1 H hw => ?_)
  have hw : Wn D cA _ s [(h0, oB 5 [.null, .int 0, .int 0]), (q1, aI (cA 0) 40 (fun _ => 0))] H _ := hw
  refine n_putF K hm hw i_Sheet t_Sheet t_Sheet_ok n_Sheet 0 rfl rfl 0 (by decide) w_189 rfl rfl rfl rfl rfl (Nat.le_of_ble_eq_true rfl) d_Sheet_init_9 (fun H locs hw => ?_)
  have hw : Wn D cA _ s [(h0, oB 5 [.ref q1, .int 0, .int 0]), (q1, aI (cA 0) 40 (fun _ => 0))] H _ := hw
  refine lv_aload_n hx hb d_Sheet_init_12 rfl (lv_at hl 0 rfl) ?_
  refine lv_iconst (v := -1) hx hb d_Sheet_init_13 (by decide) ?_
  refine n_put K hw i_Sheet t_Sheet t_Sheet_ok n_Sheet 0 rfl rfl 1 (by decide) w_191 rfl rfl rfl rfl (Nat.le_of_ble_eq_true rfl) d_Sheet_init_14 (fun H locs hw => ?_)
  have hw : Wn D cA _ s [(h0, oB 5 [.ref q1, .int (-1), .int 0]), (q1, aI (cA 0) 40 (fun _ => 0))] H _ := hw
  exact c_end (e0 := oB 5 [.null, .int 0, .int 0]) (g := fun h0 u => [(h0, oB 5 [.ref (u 0), .int (-1), .int 0]), ((u 0), aI (cA 0) 40 (fun _ => 0))]) (mc := 1) (ms := 40) K hw (fun n => match n with  | _ => q1) rfl (by decide) (by decide) d_Sheet_init_17
set_option maxHeartbeats 4000000 in
theorem c_Tape_init {l : Launch} {D : va_G} {cA : Nat → ClassId}  : MC l D cA y_Tape_init (wT y_Tape_init b_Tape_init 1 none) rm_Tape_init [] (oB 7 [.null, .int 0]) (fun h0 u => [(h0, oB 7 [.ref (u 0), .int 0]), ((u 0), aI (cA 0) 160 (fun _ => 0))]) 1 160 := by
  refine c_start (by decide +kernel) rfl w_cTape (fun _ => Nat.le_of_ble_eq_true rfl) ?_
  intro h0 p e s m below meth c ls K hm hl hw
  have hx := K.1.1; have hb := K.1.2.1
  refine lv_aload_n hx hb d_Tape_init_0 rfl (lv_at hl 0 rfl) ?_
  refine n_obj K hl.1 w_100 w_o2 w_o3 (by decide) (by decide) d_Tape_init_1 ?_
  refine lv_aload_n hx hb d_Tape_init_4 rfl (lv_at hl 0 rfl) ?_
  refine lv_sipush (v := 160) hx hb d_Tape_init_5 (by decide) ?_
  refine n_newi K hw 160 (by decide) (by decide) (by decide) (by decide) (by decide) d_Tape_init_8 (fun q1 H hw => ?_)
  have hw : Wn D cA _ s [(h0, oB 7 [.null, .int 0]), (q1, aI (cA 0) 160 (fun _ => 0))] H _ := hw
  refine n_putF K hm hw i_Tape t_Tape t_Tape_ok n_Tape 0 rfl rfl 0 (by decide) w_101 rfl rfl rfl rfl rfl (Nat.le_of_ble_eq_true rfl) d_Tape_init_10 (fun H locs hw => ?_)
  have hw : Wn D cA _ s [(h0, oB 7 [.ref q1, .int 0]), (q1, aI (cA 0) 160 (fun _ => 0))] H _ := hw
  exact c_end (e0 := oB 7 [.null, .int 0]) (g := fun h0 u => [(h0, oB 7 [.ref (u 0), .int 0]), ((u 0), aI (cA 0) 160 (fun _ => 0))]) (mc := 1) (ms := 160) K hw (fun n => match n with  | _ => q1) rfl (by decide) (by decide) d_Tape_init_13
set_option maxHeartbeats 4000000 in
theorem c_Text_init {l : Launch} {D : va_G} {cA : Nat → ClassId} (x1 : Nat) : MC l D cA y_Text_init (wT y_Text_init b_Text_init 2 none) rm_Text_init [.ref x1] (oB 8 [.null, .null, .int 0, .int 0, .int 0]) (fun h0 u => [(h0, oB 8 [.ref x1, .ref (u 0), .int 0, .int 0, .int 0]), ((u 0), aI (cA 0) 160 (fun _ => 0))]) 1 160 := by
  refine c_start (by decide +kernel) rfl w_cText (fun _ => Nat.le_of_ble_eq_true rfl) ?_
  intro h0 p e s m below meth c ls K hm hl hw
  have hx := K.1.1; have hb := K.1.2.1
  refine lv_aload_n hx hb d_Text_init_0 rfl (lv_at hl 0 rfl) ?_
  refine n_obj K hl.1 w_206 w_o2 w_o3 (by decide) (by decide) d_Text_init_1 ?_
  refine lv_aload_n hx hb d_Text_init_4 rfl (lv_at hl 0 rfl) ?_
  refine lv_sipush (v := 160) hx hb d_Text_init_5 (by decide) ?_
  refine n_newi K hw 160 (by decide) (by decide) (by decide) (by decide) (by decide) d_Text_init_8 (fun q1 H hw => ?_)
  have hw : Wn D cA _ s [(h0, oB 8 [.null, .null, .int 0, .int 0, .int 0]), (q1, aI (cA 0) 160 (fun _ => 0))] H _ := hw
  refine n_putF K hm hw i_Text t_Text t_Text_ok n_Text 0 rfl rfl 1 (by decide) w_208 rfl rfl rfl rfl rfl (Nat.le_of_ble_eq_true rfl) d_Text_init_10 (fun H locs hw => ?_)
  have hw : Wn D cA _ s [(h0, oB 8 [.null, .ref q1, .int 0, .int 0, .int 0]), (q1, aI (cA 0) 160 (fun _ => 0))] H _ := hw
  refine lv_aload_n hx hb d_Text_init_13 rfl (lv_at hl 0 rfl) ?_
  refine lv_aload_n hx hb d_Text_init_14 rfl (lv_at hl 1 rfl) ?_
  refine n_putF K hm hw i_Text t_Text t_Text_ok n_Text 0 rfl rfl 0 (by decide) w_207 rfl rfl rfl rfl rfl (Nat.le_of_ble_eq_true rfl) d_Text_init_15 (fun H locs hw => ?_)
  have hw : Wn D cA _ s [(h0, oB 8 [.ref x1, .ref q1, .int 0, .int 0, .int 0]), (q1, aI (cA 0) 160 (fun _ => 0))] H _ := hw
  exact c_end (e0 := oB 8 [.null, .null, .int 0, .int 0, .int 0]) (g := fun h0 u => [(h0, oB 8 [.ref x1, .ref (u 0), .int 0, .int 0, .int 0]), ((u 0), aI (cA 0) 160 (fun _ => 0))]) (mc := 1) (ms := 160) K hw (fun n => match n with  | _ => q1) rfl (by decide) (by decide) d_Text_init_18
set_option maxHeartbeats 4000000 in
theorem c_Tokens_init {l : Launch} {D : va_G} {cA : Nat → ClassId} (x1 : Nat) : MC l D cA y_Tokens_init (wT y_Tokens_init b_Tokens_init 2 none) rm_Tokens_init [.ref x1] (oB 9 [.null, .null, .null, .null, .int 0, .int 0]) (fun h0 u => [(h0, oB 9 [.ref x1, .ref (u 0), .ref (u 1), .ref (u 2), .int 0, .int 0]), ((u 0), aI (cA 0) 161 (fun _ => 0)), ((u 1), aI (cA 0) 161 (fun _ => 0)), ((u 2), aI (cA 0) 161 (fun _ => 0))]) 3 483 := by
  refine c_start (by decide +kernel) rfl w_cTokens (fun _ => Nat.le_of_ble_eq_true rfl) ?_
  intro h0 p e s m below meth c ls K hm hl hw
  have hx := K.1.1; have hb := K.1.2.1
  refine lv_aload_n hx hb d_Tokens_init_0 rfl (lv_at hl 0 rfl) ?_
  refine n_obj K hl.1 w_287 w_o2 w_o3 (by decide) (by decide) d_Tokens_init_1 ?_
  refine lv_aload_n hx hb d_Tokens_init_4 rfl (lv_at hl 0 rfl) ?_
  refine lv_sipush (v := 161) hx hb d_Tokens_init_5 (by decide) ?_
  refine n_newi K hw 161 (by decide) (by decide) (by decide) (by decide) (by decide) d_Tokens_init_8 (fun q1 H hw => ?_)
  have hw : Wn D cA _ s [(h0, oB 9 [.null, .null, .null, .null, .int 0, .int 0]), (q1, aI (cA 0) 161 (fun _ => 0))] H _ := hw
  refine n_putF K hm hw i_Tokens t_Tokens t_Tokens_ok n_Tokens 0 rfl rfl 1 (by decide) w_289 rfl rfl rfl rfl rfl (Nat.le_of_ble_eq_true rfl) d_Tokens_init_10 (fun H locs hw => ?_)
  have hw : Wn D cA _ s [(h0, oB 9 [.null, .ref q1, .null, .null, .int 0, .int 0]), (q1, aI (cA 0) 161 (fun _ => 0))] H _ := hw
  refine lv_aload_n hx hb d_Tokens_init_13 rfl (lv_at hl 0 rfl) ?_
  refine lv_sipush (v := 161) hx hb d_Tokens_init_14 (by decide) ?_
  refine n_newi K hw 161 (by decide) (by decide) (by decide) (by decide) (by decide) d_Tokens_init_17 (fun q2 H hw => ?_)
  have hw : Wn D cA _ s [(h0, oB 9 [.null, .ref q1, .null, .null, .int 0, .int 0]), (q1, aI (cA 0) 161 (fun _ => 0)), (q2, aI (cA 0) 161 (fun _ => 0))] H _ := hw
  refine n_putF K hm hw i_Tokens t_Tokens t_Tokens_ok n_Tokens 0 rfl rfl 2 (by decide) w_290 rfl rfl rfl rfl rfl (Nat.le_of_ble_eq_true rfl) d_Tokens_init_19 (fun H locs hw => ?_)
  have hw : Wn D cA _ s [(h0, oB 9 [.null, .ref q1, .ref q2, .null, .int 0, .int 0]), (q1, aI (cA 0) 161 (fun _ => 0)), (q2, aI (cA 0) 161 (fun _ => 0))] H _ := hw
  refine lv_aload_n hx hb d_Tokens_init_22 rfl (lv_at hl 0 rfl) ?_
  refine lv_sipush (v := 161) hx hb d_Tokens_init_23 (by decide) ?_
  refine n_newi K hw 161 (by decide) (by decide) (by decide) (by decide) (by decide) d_Tokens_init_26 (fun q3 H hw => ?_)
  have hw : Wn D cA _ s [(h0, oB 9 [.null, .ref q1, .ref q2, .null, .int 0, .int 0]), (q1, aI (cA 0) 161 (fun _ => 0)), (q2, aI (cA 0) 161 (fun _ => 0)), (q3, aI (cA 0) 161 (fun _ => 0))] H _ := hw
  refine n_putF K hm hw i_Tokens t_Tokens t_Tokens_ok n_Tokens 0 rfl rfl 3 (by decide) w_291 rfl rfl rfl rfl rfl (Nat.le_of_ble_eq_true rfl) d_Tokens_init_28 (fun H locs hw => ?_)
  have hw : Wn D cA _ s [(h0, oB 9 [.null, .ref q1, .ref q2, .ref q3, .int 0, .int 0]), (q1, aI (cA 0) 161 (fun _ => 0)), (q2, aI (cA 0) 161 (fun _ => 0)), (q3, aI (cA 0) 161 (fun _ => 0))] H _ := hw
  refine lv_aload_n hx hb d_Tokens_init_31 rfl (lv_at hl 0 rfl) ?_
  refine lv_aload_n hx hb d_Tokens_init_32 rfl (lv_at hl 1 rfl) ?_
  refine n_putF K hm hw i_Tokens t_Tokens t_Tokens_ok n_Tokens 0 rfl rfl 0 (by decide) w_288 rfl rfl rfl rfl rfl (Nat.le_of_ble_eq_true rfl) d_Tokens_init_33 (fun H locs hw => ?_)
  have hw : Wn D cA _ s [(h0, oB 9 [.ref x1, .ref q1, .ref q2, .ref q3, .int 0, .int 0]), (q1, aI (cA 0) 161 (fun _ => 0)), (q2, aI (cA 0) 161 (fun _ => 0)), (q3, aI (cA 0) 161 (fun _ => 0))] H _ := hw
  exact c_end (e0 := oB 9 [.null, .null, .null, .null, .int 0, .int 0]) (g := fun h0 u => [(h0, oB 9 [.ref x1, .ref (u 0), .ref (u 1), .ref (u 2), .int 0, .int 0]), ((u 0), aI (cA 0) 161 (fun _ => 0)), ((u 1), aI (cA 0) 161 (fun _ => 0)), ((u 2), aI (cA 0) 161 (fun _ => 0))]) (mc := 3) (ms := 483) K hw (fun n => match n with | 0 => q1 | 1 => q2 | _ => q3) rfl (by decide) (by decide) d_Tokens_init_36
set_option maxHeartbeats 4000000 in
theorem c_Reader_init {l : Launch} {D : va_G} {cA : Nat → ClassId} (x1 : Nat) (x2 : Nat) : MC l D cA y_Reader_init (wT y_Reader_init b_Reader_init 3 none) rm_Reader_init [.ref x1, .ref x2] (oB 3 [.null, .null, .int 0, .int 0]) (fun h0 u => [(h0, oB 3 [.ref (u 0), .ref x2, .int 0, .int 0]), ((u 0), oB 9 [.ref x1, .ref (u 1), .ref (u 2), .ref (u 3), .int 0, .int 0]), ((u 1), aI (cA 0) 161 (fun _ => 0)), ((u 2), aI (cA 0) 161 (fun _ => 0)), ((u 3), aI (cA 0) 161 (fun _ => 0))]) 4 489 := by
  refine c_start (by decide +kernel) rfl w_cReader (fun _ => Nat.le_of_ble_eq_true rfl) ?_
  intro h0 p e s m below meth c ls K hm hl hw
  have hx := K.1.1; have hb := K.1.2.1
  refine lv_aload_n hx hb d_Reader_init_0 rfl (lv_at hl 0 rfl) ?_
  refine n_obj K hl.1 w_281 w_o2 w_o3 (by decide) (by decide) d_Reader_init_1 ?_
  refine lv_aload_n hx hb d_Reader_init_4 rfl (lv_at hl 0 rfl) ?_
  refine n_new (ci := 9) K hw i_Tokens t_Tokens t_Tokens_ok w_282 w_283 w_74 rfl [.null, .null, .null, .null, .int 0, .int 0] z_Tokens (by decide) (by decide) d_Reader_init_5 (fun q1 H hw => ?_)
  have hw : Wn D cA _ s [(h0, oB 3 [.null, .null, .int 0, .int 0]), (q1, oB 9 [.null, .null, .null, .null, .int 0, .int 0])] H _ := hw
  refine lv_dup hx hb d_Reader_init_8 rfl ?_
  refine lv_aload_n hx hb d_Reader_init_9 rfl (lv_at hl 1 rfl) ?_
  refine n_ctor (ws0 := [(h0, oB 3 [.null, .null, .int 0, .int 0])]) (As := [.ref x1]) (rest := [.ref q1, .ref h0]) K hl.1 hw (c_Tokens_init x1) w_284 w_mTokens w_iTokens w_cTokens rfl a_Tokens_init.2 (by decide) rfl rfl (Nat.le_of_ble_eq_true rfl) (by decide) d_Reader_init_10 (fun u2 H locs hw => ?_)
  have hw : Wn D cA _ s [(h0, oB 3 [.null, .null, .int 0, .int 0]), (q1, oB 9 [.ref x1, .ref (u2 0), .ref (u2 1), .ref (u2 2), .int 0, .int 0]), ((u2 0), aI (cA 0) 161 (fun _ => 0)), ((u2 1), aI (cA 0) 161 (fun _ => 0)), ((u2 2), aI (cA 0) 161 (fun _ => 0))] H _ := hw
  refine n_putF K hm hw i_Reader t_Reader t_Reader_ok n_Reader 0 rfl rfl 0 (by decide) w_308 rfl rfl rfl rfl rfl (Nat.le_of_ble_eq_true rfl) d_Reader_init_13 (fun H locs hw => ?_)
  have hw : Wn D cA _ s [(h0, oB 3 [.ref q1, .null, .int 0, .int 0]), (q1, oB 9 [.ref x1, .ref (u2 0), .ref (u2 1), .ref (u2 2), .int 0, .int 0]), ((u2 0), aI (cA 0) 161 (fun _ => 0)), ((u2 1), aI (cA 0) 161 (fun _ => 0)), ((u2 2), aI (cA 0) 161 (fun _ => 0))] H _ := hw
  refine lv_aload_n hx hb d_Reader_init_16 rfl (lv_at hl 0 rfl) ?_
  refine lv_aload_n hx hb d_Reader_init_17 rfl (lv_at hl 2 rfl) ?_
  refine n_put K hw i_Reader t_Reader t_Reader_ok n_Reader 0 rfl rfl 1 (by decide) w_309 rfl rfl rfl rfl (Nat.le_of_ble_eq_true rfl) d_Reader_init_18 (fun H locs hw => ?_)
  have hw : Wn D cA _ s [(h0, oB 3 [.ref q1, .ref x2, .int 0, .int 0]), (q1, oB 9 [.ref x1, .ref (u2 0), .ref (u2 1), .ref (u2 2), .int 0, .int 0]), ((u2 0), aI (cA 0) 161 (fun _ => 0)), ((u2 1), aI (cA 0) 161 (fun _ => 0)), ((u2 2), aI (cA 0) 161 (fun _ => 0))] H _ := hw
  exact c_end (e0 := oB 3 [.null, .null, .int 0, .int 0]) (g := fun h0 u => [(h0, oB 3 [.ref (u 0), .ref x2, .int 0, .int 0]), ((u 0), oB 9 [.ref x1, .ref (u 1), .ref (u 2), .ref (u 3), .int 0, .int 0]), ((u 1), aI (cA 0) 161 (fun _ => 0)), ((u 2), aI (cA 0) 161 (fun _ => 0)), ((u 3), aI (cA 0) 161 (fun _ => 0))]) (mc := 4) (ms := 489) K hw (fun n => match n with | 0 => q1 | 1 => (u2 0) | 2 => (u2 1) | _ => (u2 2)) rfl (by decide) (by decide) d_Reader_init_21
set_option maxHeartbeats 4000000 in
theorem c_Side_init {l : Launch} {D : va_G} {cA : Nat → ClassId} (x1 : Nat) : MC l D cA y_Side_init (wT y_Side_init b_Side_init 2 none) rm_Side_init [.ref x1] (oB 6 [.null, .int 0, .int 0, .int 0, .null]) (fun h0 u => [(h0, oB 6 [.ref (u 0), .int 0, .int 0, .int 0, .ref x1]), ((u 0), aI (cA 0) 6 (fun _ => 0))]) 1 6 := by
  refine c_start (by decide +kernel) rfl w_cSide (fun _ => Nat.le_of_ble_eq_true rfl) ?_
  intro h0 p e s m below meth c ls K hm hl hw
  have hx := K.1.1; have hb := K.1.2.1
  refine lv_aload_n hx hb d_Side_init_0 rfl (lv_at hl 0 rfl) ?_
  refine n_obj K hl.1 w_507 w_o2 w_o3 (by decide) (by decide) d_Side_init_1 ?_
  refine lv_aload_n hx hb d_Side_init_4 rfl (lv_at hl 0 rfl) ?_
  refine lv_bipush (v := 6) hx hb d_Side_init_5 (by decide) ?_
  refine n_newi K hw 6 (by decide) (by decide) (by decide) (by decide) (by decide) d_Side_init_7 (fun q1 H hw => ?_)
  have hw : Wn D cA _ s [(h0, oB 6 [.null, .int 0, .int 0, .int 0, .null]), (q1, aI (cA 0) 6 (fun _ => 0))] H _ := hw
  refine n_putF K hm hw i_Side t_Side t_Side_ok n_Side 0 rfl rfl 0 (by decide) w_508 rfl rfl rfl rfl rfl (Nat.le_of_ble_eq_true rfl) d_Side_init_9 (fun H locs hw => ?_)
  have hw : Wn D cA _ s [(h0, oB 6 [.ref q1, .int 0, .int 0, .int 0, .null]), (q1, aI (cA 0) 6 (fun _ => 0))] H _ := hw
  refine lv_aload_n hx hb d_Side_init_12 rfl (lv_at hl 0 rfl) ?_
  refine lv_aload_n hx hb d_Side_init_13 rfl (lv_at hl 1 rfl) ?_
  refine n_put K hw i_Side t_Side t_Side_ok n_Side 0 rfl rfl 4 (by decide) w_518 rfl rfl rfl rfl (Nat.le_of_ble_eq_true rfl) d_Side_init_14 (fun H locs hw => ?_)
  have hw : Wn D cA _ s [(h0, oB 6 [.ref q1, .int 0, .int 0, .int 0, .ref x1]), (q1, aI (cA 0) 6 (fun _ => 0))] H _ := hw
  exact c_end (e0 := oB 6 [.null, .int 0, .int 0, .int 0, .null]) (g := fun h0 u => [(h0, oB 6 [.ref (u 0), .int 0, .int 0, .int 0, .ref x1]), ((u 0), aI (cA 0) 6 (fun _ => 0))]) (mc := 1) (ms := 6) K hw (fun n => match n with  | _ => q1) rfl (by decide) (by decide) d_Side_init_17
set_option maxHeartbeats 4000000 in
theorem c_Bout_init {l : Launch} {D : va_G} {cA : Nat → ClassId} (x1 : Nat) (x2 : Nat) (x3 : Nat) : MC l D cA y_Bout_init (wT y_Bout_init b_Bout_init 4 none) rm_Bout_init [.ref x1, .ref x2, .ref x3] (oB 1 [.null, .null, .null, .int 0, .int 0, .int 0, .int 0]) (fun h0 u => [(h0, oB 1 [.ref (u 0), .ref (u 2), .ref x3, .int 0, .int 0, .int 0, .int 0]), ((u 0), oB 6 [.ref (u 1), .int 0, .int 0, .int 0, .ref x1]), ((u 1), aI (cA 0) 6 (fun _ => 0)), ((u 2), oB 6 [.ref (u 3), .int 0, .int 0, .int 0, .ref x2]), ((u 3), aI (cA 0) 6 (fun _ => 0))]) 4 22 := by
  refine c_start (by decide +kernel) rfl w_cBout (fun _ => Nat.le_of_ble_eq_true rfl) ?_
  intro h0 p e s m below meth c ls K hm hl hw
  have hx := K.1.1; have hb := K.1.2.1
  refine lv_aload_n hx hb d_Bout_init_0 rfl (lv_at hl 0 rfl) ?_
  refine n_obj K hl.1 w_501 w_o2 w_o3 (by decide) (by decide) d_Bout_init_1 ?_
  refine lv_aload_n hx hb d_Bout_init_4 rfl (lv_at hl 0 rfl) ?_
  refine n_new (ci := 6) K hw i_Side t_Side t_Side_ok w_502 w_503 w_78 rfl [.null, .int 0, .int 0, .int 0, .null] z_Side (by decide) (by decide) d_Bout_init_5 (fun q1 H hw => ?_)
  have hw : Wn D cA _ s [(h0, oB 1 [.null, .null, .null, .int 0, .int 0, .int 0, .int 0]), (q1, oB 6 [.null, .int 0, .int 0, .int 0, .null])] H _ := hw
  refine lv_dup hx hb d_Bout_init_8 rfl ?_
  refine lv_aload_n hx hb d_Bout_init_9 rfl (lv_at hl 1 rfl) ?_
  refine n_ctor (ws0 := [(h0, oB 1 [.null, .null, .null, .int 0, .int 0, .int 0, .int 0])]) (As := [.ref x1]) (rest := [.ref q1, .ref h0]) K hl.1 hw (c_Side_init x1) w_504 w_mSide w_iSide w_cSide rfl a_Side_init.2 (by decide) rfl rfl (Nat.le_of_ble_eq_true rfl) (by decide) d_Bout_init_10 (fun u2 H locs hw => ?_)
  have hw : Wn D cA _ s [(h0, oB 1 [.null, .null, .null, .int 0, .int 0, .int 0, .int 0]), (q1, oB 6 [.ref (u2 0), .int 0, .int 0, .int 0, .ref x1]), ((u2 0), aI (cA 0) 6 (fun _ => 0))] H _ := hw
  refine n_putF K hm hw i_Bout t_Bout t_Bout_ok n_Bout 0 rfl rfl 0 (by decide) w_530 rfl rfl rfl rfl rfl (Nat.le_of_ble_eq_true rfl) d_Bout_init_13 (fun H locs hw => ?_)
  have hw : Wn D cA _ s [(h0, oB 1 [.ref q1, .null, .null, .int 0, .int 0, .int 0, .int 0]), (q1, oB 6 [.ref (u2 0), .int 0, .int 0, .int 0, .ref x1]), ((u2 0), aI (cA 0) 6 (fun _ => 0))] H _ := hw
  refine lv_aload_n hx hb d_Bout_init_16 rfl (lv_at hl 0 rfl) ?_
  refine n_new (ci := 6) K hw i_Side t_Side t_Side_ok w_502 w_503 w_78 rfl [.null, .int 0, .int 0, .int 0, .null] z_Side (by decide) (by decide) d_Bout_init_17 (fun q3 H hw => ?_)
  have hw : Wn D cA _ s [(h0, oB 1 [.ref q1, .null, .null, .int 0, .int 0, .int 0, .int 0]), (q1, oB 6 [.ref (u2 0), .int 0, .int 0, .int 0, .ref x1]), ((u2 0), aI (cA 0) 6 (fun _ => 0)), (q3, oB 6 [.null, .int 0, .int 0, .int 0, .null])] H _ := hw
  refine lv_dup hx hb d_Bout_init_20 rfl ?_
  refine lv_aload_n hx hb d_Bout_init_21 rfl (lv_at hl 2 rfl) ?_
  refine n_ctor (ws0 := [(h0, oB 1 [.ref q1, .null, .null, .int 0, .int 0, .int 0, .int 0]), (q1, oB 6 [.ref (u2 0), .int 0, .int 0, .int 0, .ref x1]), ((u2 0), aI (cA 0) 6 (fun _ => 0))]) (As := [.ref x2]) (rest := [.ref q3, .ref h0]) K hl.1 hw (c_Side_init x2) w_504 w_mSide w_iSide w_cSide rfl a_Side_init.2 (by decide) rfl rfl (Nat.le_of_ble_eq_true rfl) (by decide) d_Bout_init_22 (fun u4 H locs hw => ?_)
  have hw : Wn D cA _ s [(h0, oB 1 [.ref q1, .null, .null, .int 0, .int 0, .int 0, .int 0]), (q1, oB 6 [.ref (u2 0), .int 0, .int 0, .int 0, .ref x1]), ((u2 0), aI (cA 0) 6 (fun _ => 0)), (q3, oB 6 [.ref (u4 0), .int 0, .int 0, .int 0, .ref x2]), ((u4 0), aI (cA 0) 6 (fun _ => 0))] H _ := hw
  refine n_putF K hm hw i_Bout t_Bout t_Bout_ok n_Bout 0 rfl rfl 1 (by decide) w_533 rfl rfl rfl rfl rfl (Nat.le_of_ble_eq_true rfl) d_Bout_init_25 (fun H locs hw => ?_)
  have hw : Wn D cA _ s [(h0, oB 1 [.ref q1, .ref q3, .null, .int 0, .int 0, .int 0, .int 0]), (q1, oB 6 [.ref (u2 0), .int 0, .int 0, .int 0, .ref x1]), ((u2 0), aI (cA 0) 6 (fun _ => 0)), (q3, oB 6 [.ref (u4 0), .int 0, .int 0, .int 0, .ref x2]), ((u4 0), aI (cA 0) 6 (fun _ => 0))] H _ := hw
  refine lv_aload_n hx hb d_Bout_init_28 rfl (lv_at hl 0 rfl) ?_
  refine lv_aload_n hx hb d_Bout_init_29 rfl (lv_at hl 3 rfl) ?_
  refine n_put K hw i_Bout t_Bout t_Bout_ok n_Bout 0 rfl rfl 2 (by decide) w_536 rfl rfl rfl rfl (Nat.le_of_ble_eq_true rfl) d_Bout_init_30 (fun H locs hw => ?_)
  have hw : Wn D cA _ s [(h0, oB 1 [.ref q1, .ref q3, .ref x3, .int 0, .int 0, .int 0, .int 0]), (q1, oB 6 [.ref (u2 0), .int 0, .int 0, .int 0, .ref x1]), ((u2 0), aI (cA 0) 6 (fun _ => 0)), (q3, oB 6 [.ref (u4 0), .int 0, .int 0, .int 0, .ref x2]), ((u4 0), aI (cA 0) 6 (fun _ => 0))] H _ := hw
  exact c_end (e0 := oB 1 [.null, .null, .null, .int 0, .int 0, .int 0, .int 0]) (g := fun h0 u => [(h0, oB 1 [.ref (u 0), .ref (u 2), .ref x3, .int 0, .int 0, .int 0, .int 0]), ((u 0), oB 6 [.ref (u 1), .int 0, .int 0, .int 0, .ref x1]), ((u 1), aI (cA 0) 6 (fun _ => 0)), ((u 2), oB 6 [.ref (u 3), .int 0, .int 0, .int 0, .ref x2]), ((u 3), aI (cA 0) 6 (fun _ => 0))]) (mc := 4) (ms := 22) K hw (fun n => match n with | 0 => q1 | 1 => (u2 0) | 2 => q3 | _ => (u4 0)) rfl (by decide) (by decide) d_Bout_init_33
set_option maxHeartbeats 4000000 in
theorem c_Seeker_init {l : Launch} {D : va_G} {cA : Nat → ClassId} (x1 : Nat) : MC l D cA y_Seeker_init (wT y_Seeker_init b_Seeker_init 2 none) rm_Seeker_init [.ref x1] (oB 4 [.null, .null, .null, .null, .int 0, .int 0, .int 0, .int 0]) (fun h0 u => [(h0, oB 4 [.ref x1, .ref (u 0), .ref (u 1), .ref (u 2), .int 0, .int 0, .int 0, .int 0]), ((u 0), aI (cA 0) 4 (fun _ => 0)), ((u 1), aI (cA 0) 4 (fun _ => 0)), ((u 2), aI (cA 0) 4 (fun _ => 0))]) 3 12 := by
  refine c_start (by decide +kernel) rfl w_cSeeker (fun _ => Nat.le_of_ble_eq_true rfl) ?_
  intro h0 p e s m below meth c ls K hm hl hw
  have hx := K.1.1; have hb := K.1.2.1
  refine lv_aload_n hx hb d_Seeker_init_0 rfl (lv_at hl 0 rfl) ?_
  refine n_obj K hl.1 w_568 w_o2 w_o3 (by decide) (by decide) d_Seeker_init_1 ?_
  refine lv_aload_n hx hb d_Seeker_init_4 rfl (lv_at hl 0 rfl) ?_
  refine lv_iconst (v := 4) hx hb d_Seeker_init_5 (by decide) ?_
  refine n_newi K hw 4 (by decide) (by decide) (by decide) (by decide) (by decide) d_Seeker_init_6 (fun q1 H hw => ?_)
  have hw : Wn D cA _ s [(h0, oB 4 [.null, .null, .null, .null, .int 0, .int 0, .int 0, .int 0]), (q1, aI (cA 0) 4 (fun _ => 0))] H _ := hw
  refine n_putF K hm hw i_Seeker t_Seeker t_Seeker_ok n_Seeker 0 rfl rfl 1 (by decide) w_570 rfl rfl rfl rfl rfl (Nat.le_of_ble_eq_true rfl) d_Seeker_init_8 (fun H locs hw => ?_)
  have hw : Wn D cA _ s [(h0, oB 4 [.null, .ref q1, .null, .null, .int 0, .int 0, .int 0, .int 0]), (q1, aI (cA 0) 4 (fun _ => 0))] H _ := hw
  refine lv_aload_n hx hb d_Seeker_init_11 rfl (lv_at hl 0 rfl) ?_
  refine lv_iconst (v := 4) hx hb d_Seeker_init_12 (by decide) ?_
  refine n_newi K hw 4 (by decide) (by decide) (by decide) (by decide) (by decide) d_Seeker_init_13 (fun q2 H hw => ?_)
  have hw : Wn D cA _ s [(h0, oB 4 [.null, .ref q1, .null, .null, .int 0, .int 0, .int 0, .int 0]), (q1, aI (cA 0) 4 (fun _ => 0)), (q2, aI (cA 0) 4 (fun _ => 0))] H _ := hw
  refine n_putF K hm hw i_Seeker t_Seeker t_Seeker_ok n_Seeker 0 rfl rfl 2 (by decide) w_571 rfl rfl rfl rfl rfl (Nat.le_of_ble_eq_true rfl) d_Seeker_init_15 (fun H locs hw => ?_)
  have hw : Wn D cA _ s [(h0, oB 4 [.null, .ref q1, .ref q2, .null, .int 0, .int 0, .int 0, .int 0]), (q1, aI (cA 0) 4 (fun _ => 0)), (q2, aI (cA 0) 4 (fun _ => 0))] H _ := hw
  refine lv_aload_n hx hb d_Seeker_init_18 rfl (lv_at hl 0 rfl) ?_
  refine lv_iconst (v := 4) hx hb d_Seeker_init_19 (by decide) ?_
  refine n_newi K hw 4 (by decide) (by decide) (by decide) (by decide) (by decide) d_Seeker_init_20 (fun q3 H hw => ?_)
  have hw : Wn D cA _ s [(h0, oB 4 [.null, .ref q1, .ref q2, .null, .int 0, .int 0, .int 0, .int 0]), (q1, aI (cA 0) 4 (fun _ => 0)), (q2, aI (cA 0) 4 (fun _ => 0)), (q3, aI (cA 0) 4 (fun _ => 0))] H _ := hw
  refine n_putF K hm hw i_Seeker t_Seeker t_Seeker_ok n_Seeker 0 rfl rfl 3 (by decide) w_572 rfl rfl rfl rfl rfl (Nat.le_of_ble_eq_true rfl) d_Seeker_init_22 (fun H locs hw => ?_)
  have hw : Wn D cA _ s [(h0, oB 4 [.null, .ref q1, .ref q2, .ref q3, .int 0, .int 0, .int 0, .int 0]), (q1, aI (cA 0) 4 (fun _ => 0)), (q2, aI (cA 0) 4 (fun _ => 0)), (q3, aI (cA 0) 4 (fun _ => 0))] H _ := hw
  refine lv_aload_n hx hb d_Seeker_init_25 rfl (lv_at hl 0 rfl) ?_
  refine lv_aload_n hx hb d_Seeker_init_26 rfl (lv_at hl 1 rfl) ?_
  refine n_putF K hm hw i_Seeker t_Seeker t_Seeker_ok n_Seeker 0 rfl rfl 0 (by decide) w_569 rfl rfl rfl rfl rfl (Nat.le_of_ble_eq_true rfl) d_Seeker_init_27 (fun H locs hw => ?_)
  have hw : Wn D cA _ s [(h0, oB 4 [.ref x1, .ref q1, .ref q2, .ref q3, .int 0, .int 0, .int 0, .int 0]), (q1, aI (cA 0) 4 (fun _ => 0)), (q2, aI (cA 0) 4 (fun _ => 0)), (q3, aI (cA 0) 4 (fun _ => 0))] H _ := hw
  exact c_end (e0 := oB 4 [.null, .null, .null, .null, .int 0, .int 0, .int 0, .int 0]) (g := fun h0 u => [(h0, oB 4 [.ref x1, .ref (u 0), .ref (u 1), .ref (u 2), .int 0, .int 0, .int 0, .int 0]), ((u 0), aI (cA 0) 4 (fun _ => 0)), ((u 1), aI (cA 0) 4 (fun _ => 0)), ((u 2), aI (cA 0) 4 (fun _ => 0))]) (mc := 3) (ms := 12) K hw (fun n => match n with | 0 => q1 | 1 => q2 | _ => q3) rfl (by decide) (by decide) d_Seeker_init_30
