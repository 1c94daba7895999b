/-! ===== arms, holds, plans, images ===== -/
def s00 : St := (fun _ _ => 0, fun _ _ => 0)
theorem isOf_any (σ τ : St) : ∀ (n : Nat) (x y z : Int32), F_Arm_isOf_7 σ n x y z = F_Arm_isOf_7 τ n x y z := by
  intro n
  induction n with
  | zero => intro x y z; rfl
  | succ n ih =>
    intro x y z
    rw [F_Arm_isOf_7, F_Arm_isOf_7, ih]
    rfl
def isUn (k w : Nat) : Bool := w == 0 || k == w || (w == 1 && k == 3) || (w == 2 && k == 4)
theorem isOf_tab : ∀ k, k < 6 → ∀ w, w < 6 → F_Arm_isOf_7 s00 7 (nI w) (nI k) 0 = some (if isUn k w then 1 else 0) := by decide +kernel
theorem isOf_fuel (σ : St) : ∀ (n : Nat) (x y z : Int32) (r : Int32), F_Arm_isOf_7 σ n x y z = some r → F_Arm_isOf_7 σ (n + 1) x y z = some r := by
  intro n
  induction n with
  | zero => intro x y z r h; cases h
  | succ n ih =>
    intro x y z r h
    rw [F_Arm_isOf_7] at h ⊢
    by_cases c1 : (6 : Int32) ≤ z
    · rw [if_pos c1] at h ⊢; exact h
    rw [if_neg c1] at h ⊢
    by_cases c2 : y = x
    · rw [if_pos c2] at h ⊢; exact h
    rw [if_neg c2] at h ⊢
    by_cases c3 : F_Main_isWithin y 0 5 = 0
    · rw [if_pos c3] at h ⊢; exact h
    rw [if_neg c3] at h ⊢
    by_cases c4 : inB y 6 = true
    · rw [if_pos c4] at h ⊢; exact ih _ _ _ _ h
    · rw [if_neg c4] at h; cases h
theorem isOf_at {σ : St} {q k w : Nat} {x : Int32} (hx : x = nI w) (hk : k < 6) (hw : w < 6) (h : σ.1 q 0 = nI k) : F_Arm_isOf σ q x = some (if isUn k w then 1 else 0) := by
  subst hx
  unfold F_Arm_isOf F_Arm_isOf_0
  rw [h, isOf_any σ s00, FU_eq]
  have h7 := isOf_tab k hk w hw
  have : ∀ d, F_Arm_isOf_7 s00 (7 + d) (nI w) (nI k) 0 = some (if isUn k w then 1 else 0) := by
    intro d
    induction d with
    | zero => exact h7
    | succ d ih => exact isOf_fuel _ _ _ _ _ _ ih
  exact this 993
theorem set01 {c : Bool} : ((if c then (1 : Int32) else 0) = 0 ∨ (if c then (1 : Int32) else 0) = 1) := by cases c <;> simp
theorem late_no : ∀ k, k < 6 → (if isUn k 2 then (1 : Int32) else 0) = 0 → ∀ m, m < 10 → (2 : Int32) = nI (lateN k m) := by decide +kernel
theorem late_yes : ∀ k, k < 6 → ¬ (if isUn k 2 then (1 : Int32) else 0) = 0 → ∀ m, m < 10 → (if (0 : Int32) < (1 : Int32) - nI m / 5 then (1 : Int32) - nI m / 5 else 0) = nI (lateN k m) := by decide +kernel
/-- an arm begins -/
theorem become_at (σ : St) {q k t m : Nat} (hk : k < 6) (ht : t < 100) (hm : m < 10) : ∃ τ, F_Arm_become σ q (nI k) (nI t) (nI m) = some τ ∧ τ.2 = σ.2 ∧ (∀ p j, p ≠ q → τ.1 p j = σ.1 p j) ∧ ArmOk (τ.1 q) ∧ τ.1 q 0 = nI k ∧ τ.1 q 1 = nI t ∧ τ.1 q 2 = nI m ∧ τ.1 q 4 = 24 ∧ τ.1 q 5 = 1111 := by
  unfold F_Arm_become F_Arm_become_0
  simp only [lt]
  rw [isOf_at (k := k) (w := 1) (x := 1) rfl hk (by decide) (by simp [up1_at])]
  simp only [ob1]
  rw [if_pos set01]
  rw [isOf_at (k := k) (w := 3) (x := 3) rfl hk (by decide) (by simp [up1_at])]
  simp only [ob1]
  rw [if_pos set01]
  rw [isOf_at (k := k) (w := 4) (x := 4) rfl hk (by decide) (by simp [up1_at])]
  simp only [ob1]
  rw [if_pos set01]
  rw [isOf_at (k := k) (w := 5) (x := 5) rfl hk (by decide) (by simp [up1_at])]
  simp only [ob1]
  rw [if_pos set01]
  rw [isOf_at (k := k) (w := 2) (x := 2) rfl hk (by decide) (by simp [up1_at])]
  simp only [ob1]
  unfold F_Arm_become_89
  simp only [lt]
  have key : ∀ x : Int32, x = nI (lateN k m) → ∃ τ, some (up1 (up1 (up1 (up1 (up1 (up1 (up1 (up1 (up1 (up1 σ q 0 (nI k)) q 1 (nI t)) q 2 (nI m)) q 4 24) q 5 1111) q 6 (if isUn k 1 then 1 else 0)) q 7 (if isUn k 3 then 1 else 0)) q 8 (if isUn k 4 then 1 else 0)) q 9 (if isUn k 5 then 1 else 0)) q 3 x) = some τ ∧ τ.2 = σ.2 ∧ (∀ p j, p ≠ q → τ.1 p j = σ.1 p j) ∧ ArmOk (τ.1 q) ∧ τ.1 q 0 = nI k ∧ τ.1 q 1 = nI t ∧ τ.1 q 2 = nI m ∧ τ.1 q 4 = 24 ∧ τ.1 q 5 = 1111 := by
    intro x hx
    refine ⟨_, rfl, rfl, fun p j hp => by simp [up1_at, hp], ⟨k, t, m, hk, ht, hm, by simp [up1_at], by simp [up1_at], by simp [up1_at], by simp [up1_at, hx], ?_, ?_, ?_, ?_⟩, by simp [up1_at], by simp [up1_at], by simp [up1_at], by simp [up1_at], by simp [up1_at]⟩
    all_goals (simp only [up1_at]; revert hk; revert k; intro k _ hk; match k, hk with
      | 0, _ => rfl
      | 1, _ => rfl
      | 2, _ => rfl
      | 3, _ => rfl
      | 4, _ => rfl
      | 5, _ => rfl
      | k + 6, h => exact absurd h (by omega))
  have hm2 : (up1 (up1 (up1 (up1 (up1 (up1 (up1 (up1 (up1 σ q 0 (nI k)) q 1 (nI t)) q 2 (nI m)) q 4 24) q 5 1111) q 6 (if isUn k 1 then 1 else 0)) q 7 (if isUn k 3 then 1 else 0)) q 8 (if isUn k 4 then 1 else 0)) q 9 (if isUn k 5 then 1 else 0)).1 q 2 = nI m := by simp [up1_at]
  rw [hm2]
  by_cases c : (if isUn k 2 then (1 : Int32) else 0) = 0
  · rw [if_pos c]
    exact key _ (late_no k hk c m hm)
  · rw [if_neg c]
    exact key _ (late_yes k hk c m hm)
/-- arm(), and as of armsBy() -/
theorem armComes_op {σ μ : St} {na nt : Nat} (h : Rel σ μ na nt) (x y z : Int32) : ∃ r σ' μ' na', F_Main_armComes σ x y z = some (r, σ') ∧ F_Model_arm μ x y z = some (r, μ') ∧ Rel σ' μ' na' nt ∧ (∀ p j, 33 ≤ p → σ'.1 p j = σ.1 p j) ∧ (∀ p j, 11 ≤ p → μ'.1 p j = μ.1 p j) := by
  unfold F_Main_armComes F_Model_arm F_Main_armComes_0 F_Model_arm_0
  simp only [in_eq]
  by_cases c1 : F_Main_isWithin x 0 5 = 0
  · rw [if_pos c1, if_pos c1]; exact ⟨_, _, _, na, rfl, rfl, h, fun _ _ _ => rfl, fun _ _ _ => rfl⟩
  rw [if_neg c1, if_neg c1]
  by_cases c2 : F_Main_isWithin y 0 99 = 0
  · rw [if_pos c2, if_pos c2]; exact ⟨_, _, _, na, rfl, rfl, h, fun _ _ _ => rfl, fun _ _ _ => rfl⟩
  rw [if_neg c2, if_neg c2]
  by_cases c3 : F_Main_isWithin z 0 9 = 0
  · rw [if_neg (not_not_intro c3), if_neg (not_not_intro c3)]; exact ⟨_, _, _, na, rfl, rfl, h, fun _ _ _ => rfl, fun _ _ _ => rfl⟩
  rw [if_pos c3, if_pos c3]
  obtain ⟨k, hk, rfl⟩ := iw_some (b := 5) (by decide) c1
  obtain ⟨t, ht, rfl⟩ := iw_some (b := 99) (by decide) c2
  obtain ⟨m, hm, rfl⟩ := iw_some (b := 9) (by decide) c3
  obtain ⟨⟨a0, a1, a2, a3, a4⟩, hT, hS, hX, hI, hM⟩ := id h
  rw [a1, a2]
  by_cases c : na = 6
  · subst c
    rw [if_neg (by decide), if_neg (by decide)]
    exact ⟨_, _, _, 6, rfl, rfl, h, fun _ _ _ => rfl, fun _ _ _ => rfl⟩
  · have hn : na < 6 := by omega
    have c4 : nI na < 6 := nI_lt (b := 6) hn (by decide)
    have c5 : ¬ nI na = 6 := fun q => c ((nI_eq (b := 6) (by omega) (by decide)).mp q)
    rw [if_pos c4, if_pos c5, if_pos (inB_nI hn (by decide)), if_pos (inB_nI hn (by decide)), nI_clamp (by omega)]
    obtain ⟨τ, e, t2, t3, t4, t5, t6, t7, t8, t9⟩ := become_at σ (q := 27 + na) (k := k) (t := t) (m := m) (by omega) (by omega) (by omega)
    rw [e]
    simp only [ob1, lt]
    have b0 : (up1 μ 1 na (nI k)).1 0 0 = nI na := by simp [up1_at, a2]
    have b1 : (up1 (up1 μ 1 na (nI k)) 2 na (nI t)).1 0 0 = nI na := by simp [up1_at, a2]
    have b2 : (up1 (up1 (up1 μ 1 na (nI k)) 2 na (nI t)) 3 na (nI m)).1 0 0 = nI na := by simp [up1_at, a2]
    have b3 : (up1 (up1 (up1 (up1 μ 1 na (nI k)) 2 na (nI t)) 3 na (nI m)) 4 na 24).1 0 0 = nI na := by simp [up1_at, a2]
    have b4 : (up1 (up1 (up1 (up1 (up1 μ 1 na (nI k)) 2 na (nI t)) 3 na (nI m)) 4 na 24) 5 na 1111).1 0 0 = nI na := by simp [up1_at, a2]
    have i6 := inB_nI (k := na) (n := 6) hn (by decide)
    have cl : (nI na).toNatClampNeg = na := nI_clamp (by omega)
    simp only [b0, b1, b2, b3, b4, i6, cl, if_true]
    have c0 : τ.1 20 1 = nI na := by rw [t3 20 1 (by omega), a1]
    rw [c0]
    have u0 : (up1 τ 20 1 (nI na + 1)).1 20 1 = nI na + 1 := up1_on
    rw [u0, up1_on]
    refine ⟨_, _, _, na + 1, rfl, rfl, ⟨⟨by omega, by rw [up1_on]; exact nI_1 na, by rw [up1_on]; exact nI_1 na, fun i hi => ?_, fun i hi => ?_⟩, ?_, ?_, ?_, ?_, ?_⟩, ?_, ?_⟩
    · have e1 : (up1 τ 20 1 (nI na + 1)).1 (27 + i) = τ.1 (27 + i) := up1_ne (by omega)
      rw [e1]
      by_cases ci : i = na
      · subst ci; exact t4
      · have e2 : τ.1 (27 + i) = σ.1 (27 + i) := funext fun j => t3 _ _ (by omega)
        rw [e2]
        exact a3 i (by omega)
    · have e1 : (up1 τ 20 1 (nI na + 1)).1 (27 + i) = τ.1 (27 + i) := up1_ne (by omega)
      rw [e1]
      by_cases ci : i = na
      · subst ci
        rw [t5, t6, t7, t8, t9]
        simp [up1_at]
        exact ⟨⟨24, by omega, rfl⟩, ⟨1111, by omega, rfl, by decide, by decide, by decide⟩⟩
      · have e2 : τ.1 (27 + i) = σ.1 (27 + i) := funext fun j => t3 _ _ (by omega)
        rw [e2]
        simp [up1_at, ci]
        exact a4 i hi
    · exact hT.congr (fun p j q => (up1_off (by omega)).trans (t3 _ _ (by omega))) (fun p j q => by iterate 6 rw [up1_off (by omega)])
    · exact hS.congr (fun p j q => (up1_off (by omega)).trans (t3 _ _ (by omega))) (fun p j q => by iterate 6 rw [up1_off (by omega)])
    · exact hX.congr (fun p j q => (up1_off (by omega)).trans (t3 _ _ (by omega))) (fun p j q => by iterate 6 rw [up1_off (by omega)])
    · exact (hI.congr (fun p j q => (up1_off (by omega)).trans (t3 _ _ (by omega))) (fun p j q => by iterate 6 rw [up1_off (by omega)])).more (by omega) (by omega)
    · exact hM.congr (fun p j q => by iterate 6 rw [up1_off (by omega)])
    · exact fun p j hp => (up1_off (by omega)).trans (t3 _ _ (by omega))
    · exact fun p j hp => by iterate 6 rw [up1_off (by omega)]
theorem op_arm {σ μ : St} {na nt : Nat} (h : Rel σ μ na nt) (x y z : Int32) : ∃ r σ' μ' na', F_Main_arm σ x y z = some (r, σ') ∧ F_Model_arm μ x y z = some (r, μ') ∧ Rel σ' μ' na' nt := by
  obtain ⟨r, σ', μ', na', e1, e2, e3, -⟩ := armComes_op h x y z
  refine ⟨r, σ', μ', na', ?_, e2, e3⟩
  unfold F_Main_arm F_Main_arm_0
  rw [e1]
  rfl
