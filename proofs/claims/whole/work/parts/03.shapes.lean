/-- the class under proof: 50 cells -/
def shC : List Sh := [.inl (7, [3, 0]), .inr (.inl 160), .inl (3, [5, 1, 0, 0]), .inl (9, [2, 6, 7, 8, 0, 0]), .inr (.inl 161), .inr (.inl 161), .inr (.inl 161), .inr (.inl 160), .inl (8, [9, 16, 0, 0, 0]), .inl (8, [9, 17, 0, 0, 0]), .inl (8, [9, 18, 0, 0, 0]), .inl (8, [9, 19, 0, 0, 0]), .inl (8, [9, 20, 0, 0, 0]), .inl (8, [9, 21, 0, 0, 0]), .inr (.inl 160), .inr (.inl 160), .inr (.inl 160), .inr (.inl 160), .inr (.inl 160), .inr (.inl 160), .inl (10, [23, 0, 24, 0, 0, 2, 4, 43, 48, 25, 26]), .inr (.inr (1, 27, 6)), .inr (.inr (2, 8, 6)), .inr (.inr (3, 33, 4)), .inl (2, [27, 28, 0, 0, 0]), .inr (.inl 6), .inr (.inl 6), .inl (0, [0, 0, 0, 0, 0, 0, 0, 0, 0, 0]), .inl (0, [0, 0, 0, 0, 0, 0, 0, 0, 0, 0]), .inl (0, [0, 0, 0, 0, 0, 0, 0, 0, 0, 0]), .inl (0, [0, 0, 0, 0, 0, 0, 0, 0, 0, 0]), .inl (0, [0, 0, 0, 0, 0, 0, 0, 0, 0, 0]), .inl (0, [0, 0, 0, 0, 0, 0, 0, 0, 0, 0]), .inl (5, [39, 0, 0]), .inl (5, [40, 0, 0]), .inl (5, [41, 0, 0]), .inl (5, [42, 0, 0]), .inr (.inl 40), .inr (.inl 40), .inr (.inl 40), .inr (.inl 40), .inl (1, [44, 46, 1, 0, 0, 0, 0]), .inl (6, [45, 0, 0, 0, 1]), .inr (.inl 6), .inl (6, [47, 0, 0, 0, 1]), .inr (.inl 6), .inl (4, [43, 49, 50, 51, 0, 0, 0, 0]), .inr (.inl 4), .inr (.inl 4), .inr (.inl 4)]
/-- the reference: 20 cells -/
def shM : List Sh := [.inl (11, [0, 3, 4, 5, 6, 7, 8, 0, 9, 10, 0, 0, 0, 0, 0, 11, 12, 13, 14, 15, 16, 0, 0, 0, 0, 17, 18, 0, 0, 0, 19, 20, 0, 0, 0, 0, 0, 0, 0, 0, 0, 0, 0, 0, 21]), .inr (.inl 6), .inr (.inl 6), .inr (.inl 6), .inr (.inl 6), .inr (.inl 6), .inr (.inl 160), .inr (.inl 1200), .inr (.inl 24), .inr (.inl 6), .inr (.inl 6), .inr (.inl 4), .inr (.inl 4), .inr (.inl 160), .inr (.inl 62), .inr (.inl 96), .inr (.inl 200), .inr (.inl 200), .inr (.inl 6), .inr (.inl 6)]
abbrev P_Side (q : Nat) : Prop := q = 42 ∨ q = 44
abbrev P_names (q : Nat) : Prop := q = 43 ∨ q = 45
abbrev P_Arm (q : Nat) : Prop := 27 ≤ q ∧ q < 33
abbrev P_Text (q : Nat) : Prop := 8 ≤ q ∧ q < 14
abbrev P_Sheet (q : Nat) : Prop := 33 ≤ q ∧ q < 37
theorem tk {n p : Nat} {x : Sh} (h : p < n) (hx : shC[p]? = some x) : (shC.take n)[p]? = some x := by
  rw [List.getElem?_take, if_pos h]
  exact hx
theorem sh_Main {n : Nat} (hn : 21 ≤ n) : (shC.take n)[20]? = some (.inl (10, [23, 0, 24, 0, 0, 2, 4, 43, 48, 25, 26])) := tk hn rfl
theorem sh_Tape {n : Nat} (hn : 1 ≤ n) : (shC.take n)[0]? = some (.inl (7, [3, 0])) := tk hn rfl
theorem sh_Reader {n : Nat} (hn : 3 ≤ n) : (shC.take n)[2]? = some (.inl (3, [5, 1, 0, 0])) := tk hn rfl
theorem sh_Tokens {n : Nat} (hn : 4 ≤ n) : (shC.take n)[3]? = some (.inl (9, [2, 6, 7, 8, 0, 0])) := tk hn rfl
theorem sh_Bout {n : Nat} (hn : 42 ≤ n) : (shC.take n)[41]? = some (.inl (1, [44, 46, 1, 0, 0, 0, 0])) := tk hn rfl
theorem sh_Seeker {n : Nat} (hn : 47 ≤ n) : (shC.take n)[46]? = some (.inl (4, [43, 49, 50, 51, 0, 0, 0, 0])) := tk hn rfl
theorem sh_Image {n : Nat} (hn : 25 ≤ n) : (shC.take n)[24]? = some (.inl (2, [27, 28, 0, 0, 0])) := tk hn rfl
theorem sh_Model : shM[0]? = some (.inl (11, [0, 3, 4, 5, 6, 7, 8, 0, 9, 10, 0, 0, 0, 0, 0, 11, 12, 13, 14, 15, 16, 0, 0, 0, 0, 17, 18, 0, 0, 0, 19, 20, 0, 0, 0, 0, 0, 0, 0, 0, 0, 0, 0, 0, 21])) := rfl
theorem sh_a1 {n : Nat} (hn : 2 ≤ n) : (shC.take n)[1]? = some (.inr (.inl 160)) := tk hn rfl
theorem sh_a4 {n : Nat} (hn : 5 ≤ n) : (shC.take n)[4]? = some (.inr (.inl 161)) := tk hn rfl
theorem sh_a5 {n : Nat} (hn : 6 ≤ n) : (shC.take n)[5]? = some (.inr (.inl 161)) := tk hn rfl
theorem sh_a6 {n : Nat} (hn : 7 ≤ n) : (shC.take n)[6]? = some (.inr (.inl 161)) := tk hn rfl
theorem sh_a7 {n : Nat} (hn : 8 ≤ n) : (shC.take n)[7]? = some (.inr (.inl 160)) := tk hn rfl
theorem sh_a14 {n : Nat} (hn : 15 ≤ n) : (shC.take n)[14]? = some (.inr (.inl 160)) := tk hn rfl
theorem sh_a15 {n : Nat} (hn : 16 ≤ n) : (shC.take n)[15]? = some (.inr (.inl 160)) := tk hn rfl
theorem sh_a16 {n : Nat} (hn : 17 ≤ n) : (shC.take n)[16]? = some (.inr (.inl 160)) := tk hn rfl
theorem sh_a17 {n : Nat} (hn : 18 ≤ n) : (shC.take n)[17]? = some (.inr (.inl 160)) := tk hn rfl
theorem sh_a18 {n : Nat} (hn : 19 ≤ n) : (shC.take n)[18]? = some (.inr (.inl 160)) := tk hn rfl
theorem sh_a19 {n : Nat} (hn : 20 ≤ n) : (shC.take n)[19]? = some (.inr (.inl 160)) := tk hn rfl
theorem sh_a21 {n : Nat} (hn : 22 ≤ n) : (shC.take n)[21]? = some (.inr (.inr (1, 27, 6))) := tk hn rfl
theorem sh_a22 {n : Nat} (hn : 23 ≤ n) : (shC.take n)[22]? = some (.inr (.inr (2, 8, 6))) := tk hn rfl
theorem sh_a23 {n : Nat} (hn : 24 ≤ n) : (shC.take n)[23]? = some (.inr (.inr (3, 33, 4))) := tk hn rfl
theorem sh_a25 {n : Nat} (hn : 26 ≤ n) : (shC.take n)[25]? = some (.inr (.inl 6)) := tk hn rfl
theorem sh_a26 {n : Nat} (hn : 27 ≤ n) : (shC.take n)[26]? = some (.inr (.inl 6)) := tk hn rfl
theorem sh_a37 {n : Nat} (hn : 38 ≤ n) : (shC.take n)[37]? = some (.inr (.inl 40)) := tk hn rfl
theorem sh_a38 {n : Nat} (hn : 39 ≤ n) : (shC.take n)[38]? = some (.inr (.inl 40)) := tk hn rfl
theorem sh_a39 {n : Nat} (hn : 40 ≤ n) : (shC.take n)[39]? = some (.inr (.inl 40)) := tk hn rfl
theorem sh_a40 {n : Nat} (hn : 41 ≤ n) : (shC.take n)[40]? = some (.inr (.inl 40)) := tk hn rfl
theorem sh_a43 {n : Nat} (hn : 44 ≤ n) : (shC.take n)[43]? = some (.inr (.inl 6)) := tk hn rfl
theorem sh_a45 {n : Nat} (hn : 46 ≤ n) : (shC.take n)[45]? = some (.inr (.inl 6)) := tk hn rfl
theorem sh_a47 {n : Nat} (hn : 48 ≤ n) : (shC.take n)[47]? = some (.inr (.inl 4)) := tk hn rfl
theorem sh_a48 {n : Nat} (hn : 49 ≤ n) : (shC.take n)[48]? = some (.inr (.inl 4)) := tk hn rfl
theorem sh_a49 {n : Nat} (hn : 50 ≤ n) : (shC.take n)[49]? = some (.inr (.inl 4)) := tk hn rfl
theorem sh_Side {q : Nat} (h : P_Side q) {n : Nat} (hn : 45 ≤ n) : (shC.take n)[q]? = some (.inl (6, [q + 3, 0, 0, 0, 1])) := by
  refine tk (by omega) ?_
  rcases (show q = 42 ∨ q = 44 by omega) with rfl | rfl <;> rfl
theorem sh_Arm {q : Nat} (h : P_Arm q) {n : Nat} (hn : 33 ≤ n) : (shC.take n)[q]? = some (.inl (0, [0, 0, 0, 0, 0, 0, 0, 0, 0, 0])) := by
  refine tk (by omega) ?_
  rcases (show q = 27 ∨ q = 28 ∨ q = 29 ∨ q = 30 ∨ q = 31 ∨ q = 32 by omega) with rfl | rfl | rfl | rfl | rfl | rfl <;> rfl
theorem sh_Text {q : Nat} (h : P_Text q) {n : Nat} (hn : 14 ≤ n) : (shC.take n)[q]? = some (.inl (8, [9, q + 8, 0, 0, 0])) := by
  refine tk (by omega) ?_
  rcases (show q = 8 ∨ q = 9 ∨ q = 10 ∨ q = 11 ∨ q = 12 ∨ q = 13 by omega) with rfl | rfl | rfl | rfl | rfl | rfl <;> rfl
theorem sh_Sheet {q : Nat} (h : P_Sheet q) {n : Nat} (hn : 37 ≤ n) : (shC.take n)[q]? = some (.inl (5, [q + 6, 0, 0])) := by
  refine tk (by omega) ?_
  rcases (show q = 33 ∨ q = 34 ∨ q = 35 ∨ q = 36 by omega) with rfl | rfl | rfl | rfl <;> rfl
theorem sh_namesOf {q : Nat} (h : P_Side q) {n : Nat} (hn : 46 ≤ n) : (shC.take n)[q + 1]? = some (.inr (.inl 6)) := by
  refine tk (by omega) ?_
  rcases (show q = 42 ∨ q = 44 by omega) with rfl | rfl <;> rfl
theorem sh_stepsOf {q : Nat} (h : P_Text q) {n : Nat} (hn : 20 ≤ n) : (shC.take n)[q + 6]? = some (.inr (.inl 160)) := by
  refine tk (by omega) ?_
  rcases (show q = 8 ∨ q = 9 ∨ q = 10 ∨ q = 11 ∨ q = 12 ∨ q = 13 by omega) with rfl | rfl | rfl | rfl | rfl | rfl <;> rfl
theorem sh_numbersOf {q : Nat} (h : P_Sheet q) {n : Nat} (hn : 41 ≤ n) : (shC.take n)[q + 4]? = some (.inr (.inl 40)) := by
  refine tk (by omega) ?_
  rcases (show q = 33 ∨ q = 34 ∨ q = 35 ∨ q = 36 by omega) with rfl | rfl | rfl | rfl <;> rfl
theorem sh_names {q : Nat} (h : P_names q) {n : Nat} (hn : 46 ≤ n) : (shC.take n)[q]? = some (.inr (.inl 6)) := by
  refine tk (by omega) ?_
  rcases h with rfl | rfl <;> rfl
theorem P_namesOf {q : Nat} (h : P_Side q) : P_names (q + 1) := by omega
theorem P_Arm_of {x : Int32} (h : inB x 6 = true) : P_Arm (27 + x.toNatClampNeg) := by
  have := inB_lt h
  omega
theorem P_Text_of {x : Int32} (h : inB x 6 = true) : P_Text (8 + x.toNatClampNeg) := by
  have := inB_lt h
  omega
theorem P_Sheet_of {x : Int32} (h : inB x 4 = true) : P_Sheet (33 + x.toNatClampNeg) := by
  have := inB_lt h
  omega
def R_JInteger : String := "java/lang/Intege\x72"
def R_JString : String := "java/lang/String"
def R_JLatin1 : String := "java/lang/StringLatin1"
def R_JPrecond : String := "jdk/internal/util/Preconditions"
/-- how often a loop may go round: a number that nothing computes -/
theorem FU_ex : ∃ n : Nat, n = 1000 := ⟨1000, rfl⟩
noncomputable def FU : Nat := Classical.choose FU_ex
theorem FU_eq : FU = 1000 := Classical.choose_spec FU_ex
