/-! ===== tokens: what both read off the tape, as numbers; the class's ===== -/
def tB (c : Nat) : Bool := c == 32 || c == 10
def tL (c : Nat) : Bool := decide (97 ≤ c) && decide (c ≤ 122)
def tD (c : Nat) : Bool := decide (48 ≤ c) && decide (c ≤ 57)
def tS (c : Nat) : Bool := c == 40 || c == 41 || c == 59 || c == 43 || c == 45 || c == 42 || c == 60 || c == 61
def scan (p : Nat → Bool) : Nat → Nat → Nat
  | 0, i => i
  | m + 1, i => if p i then scan p m (i + 1) else i
def segIs (g : Nat → Nat) : Nat → Nat → List Nat → Bool
  | p, e, [] => p == e
  | p, e, c :: w => decide (p < e) && g p == c && segIs g (p + 1) e w
def WORDS : List (List Nat) := [[102, 111, 114, 99, 101], [115, 112, 101, 110, 100, 115], [104, 117, 114, 116, 115], [111, 114], [97, 110, 100], [110, 111, 116], [116, 111, 108, 100], [109, 111, 114, 101], [104, 111, 108, 100], [104, 97, 114, 100], [97, 110, 103, 108, 101], [116, 101, 110, 116, 104]]
def WSTR : List Nat := WORDS.flatMap (fun w => w ++ [32])
def wordIx (g : Nat → Nat) (p e : Nat) : List (List Nat) → Nat → Option Nat
  | [], _ => none
  | w :: ws, k => if segIs g p e w then some k else wordIx g p e ws (k + 1)
def numV (g : Nat → Nat) (b : Nat) : Nat → Nat
  | 0 => 0
  | m + 1 => 10 * numV g b m + (g (b + m) - 48)
/-- a token's kind, its value, its place, where the next one is sought -/
def tokB (g : Nat → Nat) (n b : Nat) : Nat × Nat × Nat × Nat :=
  if n ≤ b then (0, 0, n, n)
  else if tL (g b) then (match wordIx g b (scan (fun i => tL (g i)) (n - b) b) WORDS 0 with
    | none => (1, 0, b, scan (fun i => tL (g i)) (n - b) b)
    | some k => if k < 6 then (10 + k, 0, b, scan (fun i => tL (g i)) (n - b) b) else (3, k - 6, b, scan (fun i => tL (g i)) (n - b) b))
  else if tD (g b) then (if scan (fun i => tD (g i)) (n - b) b - b ≤ 4 then (2, numV g b (scan (fun i => tD (g i)) (n - b) b - b), b, scan (fun i => tD (g i)) (n - b) b) else (1, 0, b, scan (fun i => tD (g i)) (n - b) b))
  else if tS (g b) then (g b, 0, b, b + 1) else (1, 0, b, b + 1)
def tokAt (g : Nat → Nat) (n a : Nat) : Nat × Nat × Nat × Nat := tokB g n (scan (fun i => tB (g i)) (n - a) a)
def posn (g : Nat → Nat) (n : Nat) : Nat → Nat
  | 0 => 0
  | j + 1 => (tokAt g n (posn g n j)).2.2.2
def Tk (g : Nat → Nat) (n j : Nat) : Nat × Nat × Nat × Nat := tokAt g n (posn g n j)
theorem scan_le (p : Nat → Bool) : ∀ (m i : Nat), i ≤ scan p m i ∧ scan p m i ≤ i + m := by
  intro m
  induction m with
  | zero => intro i; exact ⟨Nat.le_refl _, Nat.le_refl _⟩
  | succ m ih =>
    intro i
    rw [scan]
    split
    · have := ih (i + 1); omega
    · omega
theorem scan_all (p : Nat → Bool) : ∀ (m i j : Nat), i ≤ j → j < scan p m i → p j = true := by
  intro m
  induction m with
  | zero => intro i j h1 h2; rw [scan] at h2; omega
  | succ m ih =>
    intro i j h1 h2
    rw [scan] at h2
    by_cases c : p i = true
    · rw [if_pos c] at h2
      by_cases d : j = i
      · rw [d]; exact c
      · exact ih (i + 1) j (by omega) h2
    · rw [if_neg c] at h2; omega
theorem tok_end {g : Nat → Nat} {n a : Nat} (h : n ≤ a) : tokAt g n a = (0, 0, n, n) := by
  unfold tokAt tokB
  rw [show n - a = 0 by omega, scan, if_pos h]
theorem tok_blank {g : Nat → Nat} {n a : Nat} (h : a < n) (hb : tB (g a) = true) : tokAt g n a = tokAt g n (a + 1) := by
  unfold tokAt
  rw [show n - a = (n - (a + 1)) + 1 by omega, scan, if_pos hb]
theorem tok_here {g : Nat → Nat} {n a : Nat} (h : a < n) (hb : ¬ tB (g a) = true) : tokAt g n a = tokB g n a := by
  unfold tokAt
  rw [show n - a = (n - (a + 1)) + 1 by omega, scan, if_neg hb]
theorem tokB_next {g : Nat → Nat} {n b : Nat} (h : b ≤ n) : b ≤ (tokB g n b).2.2.2 ∧ (tokB g n b).2.2.2 ≤ n ∧ ((tokB g n b).1 ≠ 0 ∧ b < n → b < (tokB g n b).2.2.2) ∧ (tokB g n b).2.2.1 ≤ n := by
  have sL := scan_le (fun i => tL (g i)) (n - b) b
  have sD := scan_le (fun i => tD (g i)) (n - b) b
  unfold tokB
  by_cases c : n ≤ b
  · rw [if_pos c]
    exact ⟨h, Nat.le_refl _, fun q => absurd rfl q.1, Nat.le_refl _⟩
  rw [if_neg c]
  by_cases c1 : tL (g b) = true
  · rw [if_pos c1]
    have s1 : b < scan (fun i => tL (g i)) (n - b) b := by
      rw [show n - b = (n - (b + 1)) + 1 by omega, scan, if_pos c1]
      have := scan_le (fun i => tL (g i)) (n - (b + 1)) (b + 1)
      omega
    split
    · exact ⟨sL.1, by show scan _ _ _ ≤ n; omega, fun _ => s1, h⟩
    · split
      · exact ⟨sL.1, by show scan _ _ _ ≤ n; omega, fun _ => s1, h⟩
      · exact ⟨sL.1, by show scan _ _ _ ≤ n; omega, fun _ => s1, h⟩
  rw [if_neg c1]
  by_cases c2 : tD (g b) = true
  · rw [if_pos c2]
    have s1 : b < scan (fun i => tD (g i)) (n - b) b := by
      rw [show n - b = (n - (b + 1)) + 1 by omega, scan, if_pos c2]
      have := scan_le (fun i => tD (g i)) (n - (b + 1)) (b + 1)
      omega
    split
    · exact ⟨sD.1, by show scan _ _ _ ≤ n; omega, fun _ => s1, h⟩
    · exact ⟨sD.1, by show scan _ _ _ ≤ n; omega, fun _ => s1, h⟩
  rw [if_neg c2]
  split
  · exact ⟨by show b ≤ b + 1; omega, by show b + 1 ≤ n; omega, fun _ => by show b < b + 1; omega, h⟩
  · exact ⟨by show b ≤ b + 1; omega, by show b + 1 ≤ n; omega, fun _ => by show b < b + 1; omega, h⟩
theorem tok_next {g : Nat → Nat} {n a : Nat} (h : a ≤ n) : a ≤ (tokAt g n a).2.2.2 ∧ (tokAt g n a).2.2.2 ≤ n ∧ (tokAt g n a).2.2.1 ≤ n := by
  have s := scan_le (fun i => tB (g i)) (n - a) a
  have := tokB_next (g := g) (n := n) (b := scan (fun i => tB (g i)) (n - a) a) (by omega)
  unfold tokAt
  omega
theorem posn_le (g : Nat → Nat) (n : Nat) : ∀ j, posn g n j ≤ n := by
  intro j
  induction j with
  | zero => exact Nat.zero_le _
  | succ j ih => exact (tok_next ih).2.1
/-- behind the end all is the end -/
theorem Tk_end {g : Nat → Nat} {n s : Nat} (h : Tk g n s = (0, 0, n, n)) : ∀ j, s ≤ j → Tk g n j = (0, 0, n, n) := by
  intro j hj
  by_cases c : j = s
  · rw [c]; exact h
  · have : ∀ d, Tk g n (s + d) = (0, 0, n, n) := by
      intro d
      induction d with
      | zero => exact h
      | succ d ih =>
        have e : posn g n (s + (d + 1)) = n := by
          show (tokAt g n (posn g n (s + d))).2.2.2 = n
          unfold Tk at ih
          rw [ih]
        unfold Tk
        rw [e]
        exact tok_end (Nat.le_refl _)
    have := this (j - s)
    rw [show s + (j - s) = j by omega] at this
    exact this
/-- the tape, as both hold it -/
def TpC (σ : St) (g : Nat → Nat) (n : Nat) : Prop := n ≤ 160 ∧ σ.1 0 1 = nI n ∧ ∀ i, i < n → g i < 256 ∧ σ.1 1 i = nI (g i)
def bI : Bool → Int32
  | true => 1
  | false => 0
theorem iw_b {c a b : Nat} (hc : c < 2 ^ 31) (ha : a < 2 ^ 31) (hb : b < 2 ^ 31) : F_Main_isWithin (nI c) (nI a) (nI b) = bI (decide (a ≤ c) && decide (c ≤ b)) := by
  rw [iw]
  simp only [nI_leI ha hc, nI_leI hc hb]
  by_cases h1 : a ≤ c <;> by_cases h2 : c ≤ b <;> simp [h1, h2, bI]
theorem tape_at {σ : St} {g : Nat → Nat} {n i : Nat} (h : TpC σ g n) (hi : i < n) : F_Tape_at σ (nI i) = some (nI (g i)) := by
  obtain ⟨h1, h2, h3⟩ := h
  unfold F_Tape_at F_Tape_at_0
  rw [if_neg (nI_pos (by omega)), h2, if_neg (nI_ge hi (by omega)), if_neg (show ¬ (160 : Int32) ≤ nI i from nI_ge (a := i) (b := 160) (by omega) (by decide)), if_pos (inB_nI (by omega) (by decide)), nI_clamp (by omega), (h3 i hi).2]
theorem blank_at {σ : St} {g : Nat → Nat} {n i : Nat} (h : TpC σ g n) (hi : i < n) : F_Tape_isBlank σ (nI i) = some (bI (tB (g i))) := by
  have hg := (h.2.2 i hi).1
  unfold F_Tape_isBlank F_Tape_isBlank_0
  rw [tape_at h hi]
  simp only [ob1_some]
  have e1 : nI (g i) = 32 ↔ g i = 32 := nI_eq (b := 32) (by omega) (by decide)
  have e2 : nI (g i) = 10 ↔ g i = 10 := nI_eq (b := 10) (by omega) (by decide)
  unfold tB
  by_cases c1 : g i = 32
  · rw [if_pos (e1.mpr c1), c1]; rfl
  · rw [if_neg (fun q => c1 (e1.mp q))]
    by_cases c2 : g i = 10
    · rw [if_neg (not_not_intro (e2.mpr c2)), c2]; rfl
    · rw [if_pos (fun q => c2 (e2.mp q)), show (g i == 32 || g i == 10) = false by simp [c1, c2]]
      rfl
theorem bI01 (b : Bool) : bI b = 0 ∨ bI b = 1 := by cases b <;> simp [bI]
theorem letter_at {σ : St} {g : Nat → Nat} {n i : Nat} (h : TpC σ g n) (hi : i < n) : F_Tape_isLetter σ (nI i) = some (bI (tL (g i))) := by
  have hg := (h.2.2 i hi).1
  unfold F_Tape_isLetter F_Tape_isLetter_0
  rw [tape_at h hi]
  simp only [ob1_some]
  rw [show F_Main_isWithin (nI (g i)) 97 122 = bI (tL (g i)) from iw_b (a := 97) (b := 122) (by omega) (by decide) (by decide), if_pos (bI01 _)]
theorem digit_at {σ : St} {g : Nat → Nat} {n i : Nat} (h : TpC σ g n) (hi : i < n) : F_Tape_isDigit σ (nI i) = some (bI (tD (g i))) := by
  have hg := (h.2.2 i hi).1
  unfold F_Tape_isDigit F_Tape_isDigit_0
  rw [tape_at h hi]
  simp only [ob1_some]
  rw [show F_Main_isWithin (nI (g i)) 48 57 = bI (tD (g i)) from iw_b (a := 48) (b := 57) (by omega) (by decide) (by decide), if_pos (bI01 _)]
/-- the row of words, the row of signs -/
theorem wch_t0 : ∀ i, i < 62 → (SBYT.getD 1 []).getD i 0 = nI (WSTR.getD i 0) := by decide +kernel
theorem wch_t1 : ∀ i, i < 62 → ((nI (WSTR.getD i 0) &&& 255).toUInt32 % 65536).toInt32 = nI (WSTR.getD i 0) := by decide +kernel
theorem wch_t2 : ∀ i, i < 62 → ((nI (WSTR.getD i 0)).toUInt32 % 65536).toInt32 = nI (WSTR.getD i 0) := by decide +kernel
theorem char_at (σ : St) {i : Nat} (hi : i < 62) : F_JString_charAt σ 1 (nI i) = some (nI (WSTR.getD i 0), σ) := by
  unfold F_JString_charAt F_JString_charAt_0
  rw [if_neg (show ¬ F_JString_isLatin1 1 = 0 by decide +kernel)]
  unfold F_JLatin1_charAt F_JLatin1_charAt_0 F_JString_checkIndex F_JString_checkIndex_0 F_JPrecond_checkIndex F_JPrecond_checkIndex_0
  rw [if_neg (nI_pos (by omega)), if_pos (show nI i < nI (SLEN.getD 1 0) from nI_lt (b := 62) hi (by decide))]
  simp only [ob1_some]
  rw [if_pos (show inB (nI i) (SLEN.getD 1 0) = true from inB_nI (n := 62) hi (by decide)), nI_clamp (by omega), wch_t0 i hi, wch_t1 i hi, if_pos (wch_t2 i hi)]
  simp only [ob2_some]
  rw [if_pos (wch_t2 i hi)]
theorem sig_tab : ∀ c, c < 256 → (match F_JLatin1_indexOfChar_7 9 2 8 ((nI c).toInt8.toInt32) 0 with
    | some r => (decide (r < 0) == !(tS c))
    | none => false) = true := by decide +kernel
theorem sig_fuel : ∀ (n v0 : Nat) (x y z r : Int32), F_JLatin1_indexOfChar_7 n v0 x y z = some r → F_JLatin1_indexOfChar_7 (n + 1) v0 x y z = some r := by
  intro n
  induction n with
  | zero => intro v0 x y z r h; cases h
  | succ n ih =>
    intro v0 x y z r h
    rw [F_JLatin1_indexOfChar_7] at h ⊢
    by_cases c1 : x ≤ z
    · rw [if_pos c1] at h ⊢; exact h
    rw [if_neg c1] at h ⊢
    by_cases c2 : inB z (SLEN.getD v0 0) = true
    · rw [if_pos c2] at h ⊢
      by_cases c3 : ¬ (SBYT.getD v0 []).getD z.toNatClampNeg 0 = y
      · rw [if_pos c3] at h ⊢; exact ih _ _ _ _ _ h
      · rw [if_neg c3] at h ⊢; exact h
    · rw [if_neg c2] at h; cases h
theorem sign_at {c : Nat} (hc : c < 256) : ∃ r, F_JString_indexOf 2 (((nI c).toUInt32 % 65536).toInt32) = some r ∧ (r < 0 ↔ tS c = false) := by
  have e : ((nI c).toUInt32 % 65536).toInt32 = nI c := by
    rw [pk_char, pk_tn (by omega)]
    congr 1
    omega
  have t := sig_tab c hc
  cases h : F_JLatin1_indexOfChar_7 9 2 8 ((nI c).toInt8.toInt32) 0 with
  | none => rw [h] at t; cases t
  | some r =>
    rw [h] at t
    have hf : F_JLatin1_indexOfChar_7 FU 2 8 ((nI c).toInt8.toInt32) 0 = some r := by
      rw [FU_eq]
      have : ∀ d, F_JLatin1_indexOfChar_7 (9 + d) 2 8 ((nI c).toInt8.toInt32) 0 = some r := by
        intro d
        induction d with
        | zero => exact h
        | succ d ih => exact sig_fuel _ _ _ _ _ _ ih
      exact this 991
    refine ⟨r, ?_, ?_⟩
    · unfold F_JString_indexOf F_JString_indexOf_0 F_JString_indexFrom F_JString_indexFrom_0
      rw [e, if_neg (show ¬ F_JString_isLatin1 2 = 0 by decide +kernel), show F_JString_length 2 = 8 by decide +kernel]
      unfold F_JLatin1_indexOf F_JLatin1_indexOf_0 F_JLatin1_canEncode F_JLatin1_canEncode_0
      rw [if_neg (nI_pos (by omega)), if_neg (show ¬ (255 : Int32) < nI c from nI_nlt (a := 255) (b := c) (by omega) (by decide)), if_pos one_ne]
      simp only [lt]
      rw [show (if (0 : Int32) < 0 then (0 : Int32) else 0) = 0 by decide +kernel, show (if nI (SLEN.getD 2 0) < (8 : Int32) then nI (SLEN.getD 2 0) else 8) = 8 by decide +kernel, if_pos (by decide)]
      unfold F_JLatin1_indexOfChar F_JLatin1_indexOfChar_0
      rw [hf]
      rfl
    · have t2 : (decide (r < 0) == !(tS c)) = true := t
      by_cases c1 : r < 0
      · simp [c1] at t2 ⊢; exact t2
      · simp [c1] at t2 ⊢; exact t2
def chOk : Nat → List Nat → Bool
  | i, [] => WSTR.getD i 0 == 32 && decide (i < 62)
  | i, c :: w => WSTR.getD i 0 == c && c != 32 && decide (i < 62) && decide (c < 256) && chOk (i + 1) w
def locB : Nat → List (List Nat) → Bool
  | i, [] => i == 62
  | i, w :: ws => chOk i w && locB (i + w.length + 1) ws
theorem loc_ok : locB 0 WORDS = true := by decide +kernel
theorem chOk_lt : ∀ (w : List Nat) (i : Nat), chOk i w = true → i + w.length < 62 := by
  intro w
  induction w with
  | nil => intro i h; simp [chOk] at h; simpa using h.2
  | cons c w ih =>
    intro i h
    simp [chOk] at h
    have := ih (i + 1) h.2
    simp only [List.length_cons]
    omega
theorem len1_62 : F_JString_length 1 = nI 62 := by decide +kernel
theorem word_run {σ : St} {g : Nat → Nat} {n p e : Nat} (hT : TpC σ g n) (he : e ≤ n) : ∀ (w : List Nat) (k a i : Nat) (al : Bool) (m M : Nat), chOk i w = true → a + w.length < 1000 → M = m + w.length + 1 → F_Tokens_wordNumber_11 M σ (nI p) (nI e) (nI k) (nI a) (bI al) (nI i) = if (al && segIs g a e w) = true then some (nI k, σ) else F_Tokens_wordNumber_11 m σ (nI p) (nI e) (nI (k + 1)) (nI p) 1 (nI (i + w.length + 1)) := by
  intro w
  have hn := hT.1
  induction w with
  | nil =>
    intro k a i al m M h ha hM
    simp [chOk] at h
    have hM' : M = m + 1 := hM
    subst hM'
    rw [F_Tokens_wordNumber_11, len1_62, if_neg (nI_ge h.2 (by decide)), char_at σ h.2, List.getD_eq_getElem?_getD, h.1]
    simp only [ob2_some]
    rw [if_pos (show nI 32 = 32 from rfl)]
    unfold F_Tokens_wordNumber_88 F_Tokens_wordNumber_97
    rw [nI_1, nI_1]
    cases al with
    | false => rw [if_pos (show bI false = 0 from rfl)]; simp
    | true =>
      rw [if_neg (show ¬ bI true = 0 by decide)]
      by_cases c : a = e
      · subst c
        rw [if_neg (not_not_intro rfl)]
        simp [segIs]
      · rw [if_pos (fun q => c ((nI_eq (by simp at ha; omega) (by omega)).mp q))]
        simp [segIs, c]
  | cons c w ih =>
    intro k a i al m M h ha hM
    have h0 := h
    simp [chOk] at h
    obtain ⟨⟨⟨⟨h1, h2⟩, h3⟩, h4⟩, h5⟩ := h
    have hM' : M = (m + w.length + 1) + 1 := by rw [hM]; rfl
    subst hM'
    simp only [List.length_cons] at ha
    rw [F_Tokens_wordNumber_11, len1_62, if_neg (nI_ge h3 (by decide)), char_at σ h3, List.getD_eq_getElem?_getD, h1]
    simp only [ob2_some]
    rw [if_neg (show ¬ nI c = 32 from fun q => h2 ((nI_eq (b := 32) (by omega) (by decide)).mp q))]
    unfold F_Tokens_wordNumber_66 F_Tokens_wordNumber_67 F_Tokens_wordNumber_97
    rw [nI_1, nI_1]
    have fail : F_Tokens_wordNumber_11 (m + w.length + 1) σ (nI p) (nI e) (nI k) (nI (a + 1)) 0 (nI (i + 1)) = F_Tokens_wordNumber_11 m σ (nI p) (nI e) (nI (k + 1)) (nI p) 1 (nI (i + (c :: w).length + 1)) := by
      have := ih k (a + 1) (i + 1) false m (m + w.length + 1) h5 (by omega) rfl
      rw [show bI false = 0 from rfl] at this
      rw [this]
      simp only [Bool.false_and, List.length_cons]
      rw [if_neg (by decide), show i + 1 + w.length + 1 = i + (w.length + 1) + 1 by omega]
    cases al with
    | false =>
      rw [if_pos (show bI false = 0 from rfl)]
      refine fail.trans ?_
      simp
    | true =>
      rw [if_neg (show ¬ bI true = 0 by decide)]
      by_cases ce : e ≤ a
      · rw [if_pos (nI_le ce (by omega))]
        refine fail.trans ?_
        have : ¬ a < e := by omega
        simp [segIs, this]
      · rw [if_neg (nI_ge (by omega) (by omega)), tape_at hT (by omega)]
        simp only [ob1_some]
        have hg := (hT.2.2 a (by omega)).1
        by_cases cc : g a = c
        · rw [if_neg (not_not_intro (show nI (g a) = nI c by rw [cc]))]
          have := ih k (a + 1) (i + 1) true m (m + w.length + 1) h5 (by omega) rfl
          rw [show bI true = 1 from rfl] at this
          rw [this]
          have h7 : a < e := by omega
          simp only [Bool.true_and, List.length_cons, segIs, cc, h7, decide_true, beq_self_eq_true]
          rw [show i + 1 + w.length + 1 = i + (w.length + 1) + 1 by omega]
        · rw [if_pos (fun q => cc ((nI_eq (by omega) (by omega)).mp q)), fail]
          simp [segIs, cc]
def woR : Option Nat → Int32
  | none => -1
  | some k => nI k
theorem words_run {σ : St} {g : Nat → Nat} {n p e : Nat} (hT : TpC σ g n) (he : e ≤ n) (hp : p ≤ n) : ∀ (ws : List (List Nat)) (k i M : Nat), locB i ws = true → i ≤ 62 → 62 - i < M → F_Tokens_wordNumber_11 M σ (nI p) (nI e) (nI k) (nI p) 1 (nI i) = some (woR (wordIx g p e ws k), σ) := by
  intro ws
  have hn := hT.1
  induction ws with
  | nil =>
    intro k i M h hi hM
    obtain ⟨m, rfl⟩ : ∃ m, M = m + 1 := ⟨M - 1, by omega⟩
    have h62 : i = 62 := by simpa [locB] using h
    rw [F_Tokens_wordNumber_11, len1_62, h62, if_pos (Int32.le_refl _)]
    rfl
  | cons w ws ih =>
    intro k i M h hi hM
    have h' : chOk i w = true ∧ locB (i + w.length + 1) ws = true := by simpa [locB] using h
    have hlt := chOk_lt w i h'.1
    have := word_run hT he (p := p) w k p i true (M - w.length - 1) M h'.1 (by omega) (by omega)
    rw [show bI true = 1 from rfl] at this
    rw [this, Bool.true_and, wordIx]
    by_cases c : segIs g p e w = true
    · rw [if_pos c, if_pos c]; rfl
    · rw [if_neg c, if_neg c]
      exact ih (k + 1) _ _ h'.2 (by omega) (by omega)
theorem wordNo_at {σ : St} {g : Nat → Nat} {n p e : Nat} (hT : TpC σ g n) (he : e ≤ n) (hp : p ≤ n) : F_Tokens_wordNumber σ (nI p) (nI e) = some (woR (wordIx g p e WORDS 0), σ) := by
  unfold F_Tokens_wordNumber F_Tokens_wordNumber_0
  exact words_run hT he hp WORDS 0 0 FU loc_ok (by omega) (by rw [FU_eq]; omega)
theorem wordIx_lt (g : Nat → Nat) (p e : Nat) : ∀ (ws : List (List Nat)) (k r : Nat), wordIx g p e ws k = some r → k ≤ r ∧ r < k + ws.length := by
  intro ws
  induction ws with
  | nil => intro k r h; cases h
  | cons w ws ih =>
    intro k r h
    rw [wordIx] at h
    simp only [List.length_cons]
    by_cases c : segIs g p e w = true
    · rw [if_pos c] at h
      cases h
      omega
    · rw [if_neg c] at h
      have := ih _ _ h
      omega
/-- what reading tokens writes -/
def FrT (σ τ : St) : Prop := τ.2 = σ.2 ∧ ∀ p c, ¬ (p = 3 ∧ (c = 4 ∨ c = 5)) → p ≠ 4 → p ≠ 5 → p ≠ 6 → τ.1 p c = σ.1 p c
theorem FrT.rf {σ : St} : FrT σ σ := ⟨rfl, fun _ _ _ _ _ _ => rfl⟩
theorem FrT.tr {a b c : St} (h : FrT a b) (k : FrT b c) : FrT a c := ⟨k.1.trans h.1, fun p q h1 h2 h3 h4 => (k.2 p q h1 h2 h3 h4).trans (h.2 p q h1 h2 h3 h4)⟩
theorem TpC.fr {σ τ : St} {g : Nat → Nat} {n : Nat} (h : TpC σ g n) (f : FrT σ τ) : TpC τ g n := ⟨h.1, (f.2 _ _ (by omega) (by omega) (by omega) (by omega)).trans h.2.1, fun i hi => ⟨(h.2.2 i hi).1, (f.2 _ _ (by omega) (by omega) (by omega) (by omega)).trans (h.2.2 i hi).2⟩⟩
def TokC (σ : St) (g : Nat → Nat) (n s : Nat) : Prop := σ.1 3 4 = nI s ∧ ∀ j, j < s → σ.1 4 j = nI (Tk g n j).1 ∧ ((Tk g n j).1 = 2 ∨ (Tk g n j).1 = 3 → σ.1 5 j = nI (Tk g n j).2.1) ∧ σ.1 6 j = nI (Tk g n j).2.2.1
theorem add_tok {σ : St} {g : Nat → Nat} {n s : Nat} (h : TokC σ g n s) (hs : s < 161) {k v p : Int32} (e1 : k = nI (Tk g n s).1) (e2 : (Tk g n s).1 = 2 ∨ (Tk g n s).1 = 3 → v = nI (Tk g n s).2.1) (e3 : p = nI (Tk g n s).2.2.1) : ∃ τ, F_Tokens_add σ k v p = some τ ∧ TokC τ g n (s + 1) ∧ FrT σ τ ∧ τ.1 3 5 = σ.1 3 5 := by
  obtain ⟨h1, h2⟩ := h
  have i161 := inB_nI (k := s) (n := 161) hs (by decide)
  have cl : (nI s).toNatClampNeg = s := nI_clamp (by omega)
  unfold F_Tokens_add F_Tokens_add_0
  rw [h1, if_pos (show nI s < 161 from nI_lt (b := 161) hs (by decide)), if_pos i161, cl]
  simp only [lt]
  have a1 : (up1 σ 4 s k).1 3 4 = nI s := (up1_off (by omega)).trans h1
  rw [a1, if_pos i161, cl]
  have a2 : (up1 (up1 σ 4 s k) 5 s v).1 3 4 = nI s := (up1_off (by omega)).trans a1
  rw [a2, if_pos i161, cl]
  have a3 : (up1 (up1 (up1 σ 4 s k) 5 s v) 6 s p).1 3 4 = nI s := (up1_off (by omega)).trans a2
  rw [a3, nI_1]
  refine ⟨_, rfl, ⟨up1_on, fun j hj => ?_⟩, ⟨rfl, fun q c g1 g2 g3 g4 => ?_⟩, ?_⟩
  · by_cases c : j = s
    · subst c
      refine ⟨?_, fun q => ?_, ?_⟩
      · rw [up1_off (by omega), up1_off (by omega), up1_off (by omega), up1_on, e1]
      · rw [up1_off (by omega), up1_off (by omega), up1_on, e2 q]
      · rw [up1_off (by omega), up1_on, e3]
    · obtain ⟨b1, b2, b3⟩ := h2 j (by omega)
      refine ⟨?_, fun q => ?_, ?_⟩
      · rw [up1_off (by omega), up1_off (by omega), up1_off (by omega), up1_off (by omega)]; exact b1
      · rw [up1_off (by omega), up1_off (by omega), up1_off (by omega), up1_off (by omega)]; exact b2 q
      · rw [up1_off (by omega), up1_off (by omega), up1_off (by omega), up1_off (by omega)]; exact b3
  · rw [up1_off (by omega), up1_off (by omega), up1_off (by omega), up1_off (by omega)]
  · rw [up1_off (by omega), up1_off (by omega), up1_off (by omega), up1_off (by omega)]
theorem TokC.fr {σ τ : St} {g : Nat → Nat} {n s : Nat} (h : TokC σ g n s) (f : ∀ p c, ¬ (p = 3 ∧ c = 5) → τ.1 p c = σ.1 p c) : TokC τ g n s := ⟨(f _ _ (by omega)).trans h.1, fun j hj => by rw [f _ _ (by omega), f _ _ (by omega), f _ _ (by omega)]; exact h.2 j hj⟩
