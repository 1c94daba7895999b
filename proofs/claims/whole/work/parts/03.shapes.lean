/-- the class under proof: 50 cells -/
def shC : List Sh := [.inl (10, [3, 0, 4, 0, 0, 6, 8, 13, 18, 5, 22]), .inr (.inr (1, 24, 6)), .inr (.inr (2, 30, 6)), .inr (.inr (3, 42, 4)), .inl (7, [7, 0]), .inr (.inl 160), .inl (3, [9, 1, 0, 0]), .inl (9, [6, 10, 11, 12, 0, 0]), .inr (.inl 161), .inr (.inl 161), .inr (.inl 161), .inl (1, [14, 16, 1, 0, 0, 0, 0]), .inl (6, [15, 0, 0, 0, 1]), .inr (.inl 6), .inl (6, [17, 0, 0, 0, 1]), .inr (.inl 6), .inl (4, [13, 19, 20, 21, 0, 0, 0, 0]), .inr (.inl 4), .inr (.inl 4), .inr (.inl 4), .inl (2, [23, 24, 0, 0, 0]), .inr (.inl 6), .inr (.inl 6), .inr (.inl 160), .inl (0, [0, 0, 0, 0, 0, 0, 0, 0, 0, 0]), .inl (0, [0, 0, 0, 0, 0, 0, 0, 0, 0, 0]), .inl (0, [0, 0, 0, 0, 0, 0, 0, 0, 0, 0]), .inl (0, [0, 0, 0, 0, 0, 0, 0, 0, 0, 0]), .inl (0, [0, 0, 0, 0, 0, 0, 0, 0, 0, 0]), .inl (0, [0, 0, 0, 0, 0, 0, 0, 0, 0, 0]), .inl (8, [25, 38, 0, 0, 0]), .inl (8, [25, 39, 0, 0, 0]), .inl (8, [25, 40, 0, 0, 0]), .inl (8, [25, 41, 0, 0, 0]), .inl (8, [25, 42, 0, 0, 0]), .inl (8, [25, 43, 0, 0, 0]), .inr (.inl 160), .inr (.inl 160), .inr (.inl 160), .inr (.inl 160), .inr (.inl 160), .inr (.inl 160), .inl (5, [48, 0, 0]), .inl (5, [49, 0, 0]), .inl (5, [50, 0, 0]), .inl (5, [51, 0, 0]), .inr (.inl 40), .inr (.inl 40), .inr (.inl 40), .inr (.inl 40)]
/-- the reference: 20 cells -/
def shM : List Sh := [.inl (11, [0, 3, 4, 5, 6, 7, 8, 0, 9, 10, 0, 0, 0, 0, 0, 11, 12, 13, 14, 15, 16, 0, 0, 0, 0, 17, 18, 0, 0, 0, 19, 20, 0, 0, 0, 0, 0, 0, 0, 0, 0, 0, 0, 0, 21]), .inr (.inl 6), .inr (.inl 6), .inr (.inl 6), .inr (.inl 6), .inr (.inl 6), .inr (.inl 160), .inr (.inl 1200), .inr (.inl 24), .inr (.inl 6), .inr (.inl 6), .inr (.inl 4), .inr (.inl 4), .inr (.inl 160), .inr (.inl 62), .inr (.inl 96), .inr (.inl 200), .inr (.inl 200), .inr (.inl 6), .inr (.inl 6)]
abbrev P_Side (q : Nat) : Prop := q = 12 ∨ q = 14
abbrev P_names (q : Nat) : Prop := q = 13 ∨ q = 15
abbrev P_Arm (q : Nat) : Prop := 24 ≤ q ∧ q < 30
abbrev P_Text (q : Nat) : Prop := 30 ≤ q ∧ q < 36
abbrev P_Sheet (q : Nat) : Prop := 42 ≤ q ∧ q < 46
theorem sh_Main : shC[0]? = some (.inl (10, [3, 0, 4, 0, 0, 6, 8, 13, 18, 5, 22])) := rfl
theorem sh_Tape : shC[4]? = some (.inl (7, [7, 0])) := rfl
theorem sh_Reader : shC[6]? = some (.inl (3, [9, 1, 0, 0])) := rfl
theorem sh_Tokens : shC[7]? = some (.inl (9, [6, 10, 11, 12, 0, 0])) := rfl
theorem sh_Bout : shC[11]? = some (.inl (1, [14, 16, 1, 0, 0, 0, 0])) := rfl
theorem sh_Seeker : shC[16]? = some (.inl (4, [13, 19, 20, 21, 0, 0, 0, 0])) := rfl
theorem sh_Image : shC[20]? = some (.inl (2, [23, 24, 0, 0, 0])) := rfl
theorem sh_Model : shM[0]? = some (.inl (11, [0, 3, 4, 5, 6, 7, 8, 0, 9, 10, 0, 0, 0, 0, 0, 11, 12, 13, 14, 15, 16, 0, 0, 0, 0, 17, 18, 0, 0, 0, 19, 20, 0, 0, 0, 0, 0, 0, 0, 0, 0, 0, 0, 0, 21])) := rfl
theorem sh_Side {q : Nat} (h : P_Side q) : shC[q]? = some (.inl (6, [q + 3, 0, 0, 0, 1])) := by
  rcases (show q = 12 ∨ q = 14 by omega) with rfl | rfl <;> rfl
theorem sh_Arm {q : Nat} (h : P_Arm q) : shC[q]? = some (.inl (0, [0, 0, 0, 0, 0, 0, 0, 0, 0, 0])) := by
  rcases (show q = 24 ∨ q = 25 ∨ q = 26 ∨ q = 27 ∨ q = 28 ∨ q = 29 by omega) with rfl | rfl | rfl | rfl | rfl | rfl <;> rfl
theorem sh_Text {q : Nat} (h : P_Text q) : shC[q]? = some (.inl (8, [25, q + 8, 0, 0, 0])) := by
  rcases (show q = 30 ∨ q = 31 ∨ q = 32 ∨ q = 33 ∨ q = 34 ∨ q = 35 by omega) with rfl | rfl | rfl | rfl | rfl | rfl <;> rfl
theorem sh_Sheet {q : Nat} (h : P_Sheet q) : shC[q]? = some (.inl (5, [q + 6, 0, 0])) := by
  rcases (show q = 42 ∨ q = 43 ∨ q = 44 ∨ q = 45 by omega) with rfl | rfl | rfl | rfl <;> rfl
theorem sh_namesOf {q : Nat} (h : P_Side q) : shC[q + 1]? = some (.inr (.inl 6)) := by
  rcases (show q = 12 ∨ q = 14 by omega) with rfl | rfl <;> rfl
theorem sh_stepsOf {q : Nat} (h : P_Text q) : shC[q + 6]? = some (.inr (.inl 160)) := by
  rcases (show q = 30 ∨ q = 31 ∨ q = 32 ∨ q = 33 ∨ q = 34 ∨ q = 35 by omega) with rfl | rfl | rfl | rfl | rfl | rfl <;> rfl
theorem sh_numbersOf {q : Nat} (h : P_Sheet q) : shC[q + 4]? = some (.inr (.inl 40)) := by
  rcases (show q = 42 ∨ q = 43 ∨ q = 44 ∨ q = 45 by omega) with rfl | rfl | rfl | rfl <;> rfl
theorem sh_names {q : Nat} (h : P_names q) : shC[q]? = some (.inr (.inl 6)) := by
  rcases h with rfl | rfl <;> rfl
theorem P_namesOf {q : Nat} (h : P_Side q) : P_names (q + 1) := by omega
theorem P_Arm_of {x : Int32} (h : inB x 6 = true) : P_Arm (24 + x.toNatClampNeg) := by
  have := inB_lt h
  omega
theorem P_Text_of {x : Int32} (h : inB x 6 = true) : P_Text (30 + x.toNatClampNeg) := by
  have := inB_lt h
  omega
theorem P_Sheet_of {x : Int32} (h : inB x 4 = true) : P_Sheet (42 + x.toNatClampNeg) := by
  have := inB_lt h
  omega
def R_JInteger : String := "java/lang/Intege\x72"
def R_JString : String := "java/lang/String"
def R_JLatin1 : String := "java/lang/StringLatin1"
def R_JPrecond : String := "jdk/internal/util/Preconditions"
/-- how often a loop may go round -/
def FU : Nat := 1000
