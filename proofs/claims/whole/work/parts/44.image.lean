/-! ===== image, back, taken ===== -/
theorem image_loopC : ∀ (n i : Nat) (σ : St), i ≤ 6 → 6 - i < n → ∃ τ, F_Main_image_32 n σ (nI i) = some (σ.1 20 1, τ) ∧ (∀ j, i ≤ j → j < 6 → τ.1 25 j = σ.1 (27 + j) 4 ∧ τ.1 26 j = σ.1 (27 + j) 5) ∧ ∀ p k, (¬ ((p = 25 ∨ p = 26) ∧ i ≤ k ∧ k < 6)) → τ.1 p k = σ.1 p k := by
  intro n
  induction n with
  | zero => intro i σ hi hn; omega
  | succ n ih =>
    intro i σ hi hn
    rw [F_Main_image_32]
    by_cases c : i = 6
    · subst c
      rw [if_pos (by decide)]
      exact ⟨σ, rfl, fun j h1 h2 => by omega, fun _ _ _ => rfl⟩
    · rw [if_neg (show ¬ (6 : Int32) ≤ nI i from nI_ge (a := i) (b := 6) (by omega) (by decide))]
      have i6 := inB_nI (k := i) (n := 6) (by omega) (by decide)
      have cl : (nI i).toNatClampNeg = i := nI_clamp (by omega)
      simp only [i6, cl, if_true, lt]
      obtain ⟨τ, e, t2, t3⟩ := ih (i + 1) (up1 (up1 σ 25 i (σ.1 (27 + i) 4)) 26 i ((up1 σ 25 i (σ.1 (27 + i) 4)).1 (27 + i) 5)) (by omega) (by omega)
      rw [nI_1, e]
      refine ⟨τ, by rw [up1_off (by omega), up1_off (by omega)], fun j h1 h2 => ?_, fun p k h => ?_⟩
      · by_cases ji : j = i
        · subst ji
          rw [t3 _ _ (by omega), t3 _ _ (by omega), up1_off (by omega), up1_on, up1_on, up1_off (by omega)]
          exact ⟨rfl, rfl⟩
        · obtain ⟨g1, g2⟩ := t2 j (by omega) h2
          rw [g1, g2]
          iterate 4 rw [up1_off (by omega)]
          exact ⟨rfl, rfl⟩
      · rw [t3 _ _ (by omega), up1_off (by omega), up1_off (by omega)]
theorem image_loopM : ∀ (n i : Nat) (σ : St), i ≤ 6 → 6 - i < n → ∃ τ, F_Model_image_23 n σ (nI i) = some (σ.1 0 0, τ) ∧ (∀ j, i ≤ j → j < 6 → τ.1 9 j = σ.1 4 j ∧ τ.1 10 j = σ.1 5 j) ∧ ∀ p k, (¬ ((p = 9 ∨ p = 10) ∧ i ≤ k ∧ k < 6)) → τ.1 p k = σ.1 p k := by
  intro n
  induction n with
  | zero => intro i σ hi hn; omega
  | succ n ih =>
    intro i σ hi hn
    rw [F_Model_image_23]
    by_cases c : i = 6
    · subst c
      rw [if_pos (by decide)]
      exact ⟨σ, rfl, fun j h1 h2 => by omega, fun _ _ _ => rfl⟩
    · rw [if_neg (show ¬ (6 : Int32) ≤ nI i from nI_ge (a := i) (b := 6) (by omega) (by decide))]
      have i6 := inB_nI (k := i) (n := 6) (by omega) (by decide)
      have cl : (nI i).toNatClampNeg = i := nI_clamp (by omega)
      simp only [i6, cl, if_true, lt]
      obtain ⟨τ, e, t2, t3⟩ := ih (i + 1) (up1 (up1 σ 9 i (σ.1 4 i)) 10 i ((up1 σ 9 i (σ.1 4 i)).1 5 i)) (by omega) (by omega)
      rw [nI_1, e]
      refine ⟨τ, by rw [up1_off (by omega), up1_off (by omega)], fun j h1 h2 => ?_, fun p k h => ?_⟩
      · by_cases ji : j = i
        · subst ji
          rw [t3 _ _ (by omega), t3 _ _ (by omega), up1_off (by omega), up1_on, up1_on, up1_off (by omega)]
          exact ⟨rfl, rfl⟩
        · obtain ⟨g1, g2⟩ := t2 j (by omega) h2
          rw [g1, g2]
          iterate 4 rw [up1_off (by omega)]
          exact ⟨rfl, rfl⟩
      · rw [t3 _ _ (by omega), up1_off (by omega), up1_off (by omega)]
theorem op_image {σ μ : St} {na nt : Nat} (h : Rel σ μ na nt) : ∃ r σ' μ', F_Main_image σ = some (r, σ') ∧ F_Model_image μ = some (r, μ') ∧ Rel σ' μ' na nt := by
  unfold F_Main_image F_Model_image F_Main_image_0 F_Model_image_0
  simp only [lt]
  obtain ⟨⟨a0, a1, a2, a3, a4⟩, hT, hS, hX, hI, hM⟩ := id h
  obtain ⟨x0, x1, x2, ⟨lw, l0, l1, l2⟩, x3⟩ := id hX
  obtain ⟨τ, e1, t2, t3⟩ := image_loopC FU 0 (up1 (up1 (up1 σ 24 2 1) 24 3 ((up1 σ 24 2 1).1 20 1)) 24 4 ((up1 (up1 σ 24 2 1) 24 3 ((up1 σ 24 2 1).1 20 1)).1 20 4)) (by omega) (by rw [FU_eq]; omega)
  obtain ⟨υ, e2, u2, u3⟩ := image_loopM FU 0 (up1 (up1 (up1 μ 0 12 1) 0 13 ((up1 μ 0 12 1).1 0 0)) 0 14 ((up1 (up1 μ 0 12 1) 0 13 ((up1 μ 0 12 1).1 0 0)).1 0 11)) (by omega) (by rw [FU_eq]; omega)
  rw [show (0 : Int32) = nI 0 from rfl, e1, e2]
  have g1 : ∀ p j, ¬ (24 ≤ p ∧ p ≤ 26) → τ.1 p j = σ.1 p j := by
    intro p j hp
    rw [t3 _ _ (by omega)]
    iterate 3 rw [up1_off (by omega)]
  have g2 : ∀ p j, ¬ ((p = 0 ∧ (j = 12 ∨ j = 13 ∨ j = 14)) ∨ p = 9 ∨ p = 10) → υ.1 p j = μ.1 p j := by
    intro p j hp
    rw [u3 _ _ (by omega)]
    iterate 3 rw [up1_off (by omega)]
  refine ⟨_, _, _, rfl, ?_, ⟨a0, (g1 _ _ (by omega)).trans a1, (g2 _ _ (by omega)).trans a2, fun i hi => ?_, fun i hi => ?_⟩, hT.congr (fun p j q => g1 _ _ (by omega)) (fun p j q => g2 _ _ (by omega)), hS.congr (fun p j q => g1 _ _ (by omega)) (fun p j q => g2 _ _ (by omega)), hX.congr (fun p j q => g1 _ _ (by omega)) (fun p j q => g2 _ _ (by omega)), ⟨?_, Or.inr ⟨?_, ⟨na, Nat.le_refl _, ?_, ?_⟩, ⟨lw, l0, ?_, ?_⟩, fun i hi => ?_⟩⟩, hM.congr (fun p j q => g2 _ _ (by omega))⟩
  · rw [up1_off (by omega), up1_off (by omega), up1_off (by omega), up1_off (by omega), up1_off (by omega), up1_off (by omega), a1, a2]
  · have : τ.1 (27 + i) = σ.1 (27 + i) := funext fun j => g1 _ _ (by omega)
    rw [this]; exact a3 i hi
  · have : τ.1 (27 + i) = σ.1 (27 + i) := funext fun j => g1 _ _ (by omega)
    rw [this, g2 1 i (by omega), g2 2 i (by omega), g2 3 i (by omega), g2 4 i (by omega), g2 5 i (by omega)]
    exact a4 i hi
  · rw [t3 _ _ (by omega), u3 _ _ (by omega)]
    simp [up1_at]
  · rw [u3 _ _ (by omega)]
    simp [up1_at]
  · rw [t3 _ _ (by omega)]
    simp [up1_at, a1]
  · rw [u3 _ _ (by omega)]
    simp [up1_at, a2]
  · rw [t3 _ _ (by omega)]
    simp [up1_at, l1]
  · rw [u3 _ _ (by omega)]
    simp [up1_at, l2]
  · obtain ⟨b0, b1, b2, b3, b4, b5, b6⟩ := a4 i hi
    obtain ⟨g3, g4⟩ := t2 i (by omega) hi
    obtain ⟨g5, g6⟩ := u2 i (by omega) hi
    rw [g3, g4, g5, g6]
    iterate 12 rw [up1_off (by omega)]
    exact ⟨b3, b4, b5, b6⟩
theorem back_loopC : ∀ (n i : Nat) (σ : St), i ≤ 6 → 6 - i < n → ∃ τ, F_Main_back_37 n σ (nI i) = some (σ.1 20 1, τ) ∧ (∀ j, i ≤ j → j < 6 → τ.1 (27 + j) 4 = σ.1 25 j ∧ τ.1 (27 + j) 5 = σ.1 26 j) ∧ ∀ p k, (¬ ((k = 4 ∨ k = 5) ∧ 27 + i ≤ p ∧ p < 33)) → τ.1 p k = σ.1 p k := by
  intro n
  induction n with
  | zero => intro i σ hi hn; omega
  | succ n ih =>
    intro i σ hi hn
    rw [F_Main_back_37]
    by_cases c : i = 6
    · subst c
      rw [if_pos (by decide)]
      exact ⟨σ, rfl, fun j h1 h2 => by omega, fun _ _ _ => rfl⟩
    · rw [if_neg (show ¬ (6 : Int32) ≤ nI i from nI_ge (a := i) (b := 6) (by omega) (by decide))]
      have i6 := inB_nI (k := i) (n := 6) (by omega) (by decide)
      have cl : (nI i).toNatClampNeg = i := nI_clamp (by omega)
      simp only [i6, cl, if_true, lt]
      obtain ⟨τ, e, t2, t3⟩ := ih (i + 1) (up1 (up1 σ (27 + i) 4 (σ.1 25 i)) (27 + i) 5 ((up1 σ (27 + i) 4 (σ.1 25 i)).1 26 i)) (by omega) (by omega)
      rw [nI_1, e]
      refine ⟨τ, by rw [up1_off (by omega), up1_off (by omega)], fun j h1 h2 => ?_, fun p k h => ?_⟩
      · by_cases ji : j = i
        · subst ji
          rw [t3 _ _ (by omega), t3 _ _ (by omega), up1_off (by omega), up1_on, up1_on, up1_off (by omega)]
          exact ⟨rfl, rfl⟩
        · obtain ⟨g1, g2⟩ := t2 j (by omega) h2
          rw [g1, g2]
          iterate 4 rw [up1_off (by omega)]
          exact ⟨rfl, rfl⟩
      · rw [t3 _ _ (by omega), up1_off (by omega), up1_off (by omega)]
theorem back_loopM : ∀ (n i : Nat) (σ : St), i ≤ 6 → 6 - i < n → ∃ τ, F_Model_back_28 n σ (nI i) = some (σ.1 0 0, τ) ∧ (∀ j, i ≤ j → j < 6 → τ.1 4 j = σ.1 9 j ∧ τ.1 5 j = σ.1 10 j) ∧ ∀ p k, (¬ ((p = 4 ∨ p = 5) ∧ i ≤ k ∧ k < 6)) → τ.1 p k = σ.1 p k := by
  intro n
  induction n with
  | zero => intro i σ hi hn; omega
  | succ n ih =>
    intro i σ hi hn
    rw [F_Model_back_28]
    by_cases c : i = 6
    · subst c
      rw [if_pos (by decide)]
      exact ⟨σ, rfl, fun j h1 h2 => by omega, fun _ _ _ => rfl⟩
    · rw [if_neg (show ¬ (6 : Int32) ≤ nI i from nI_ge (a := i) (b := 6) (by omega) (by decide))]
      have i6 := inB_nI (k := i) (n := 6) (by omega) (by decide)
      have cl : (nI i).toNatClampNeg = i := nI_clamp (by omega)
      simp only [i6, cl, if_true, lt]
      obtain ⟨τ, e, t2, t3⟩ := ih (i + 1) (up1 (up1 σ 4 i (σ.1 9 i)) 5 i ((up1 σ 4 i (σ.1 9 i)).1 10 i)) (by omega) (by omega)
      rw [nI_1, e]
      refine ⟨τ, by rw [up1_off (by omega), up1_off (by omega)], fun j h1 h2 => ?_, fun p k h => ?_⟩
      · by_cases ji : j = i
        · subst ji
          rw [t3 _ _ (by omega), t3 _ _ (by omega), up1_off (by omega), up1_on, up1_on, up1_off (by omega)]
          exact ⟨rfl, rfl⟩
        · obtain ⟨g1, g2⟩ := t2 j (by omega) h2
          rw [g1, g2]
          iterate 4 rw [up1_off (by omega)]
          exact ⟨rfl, rfl⟩
      · rw [t3 _ _ (by omega), up1_off (by omega), up1_off (by omega)]
theorem op_back {σ μ : St} {na nt : Nat} (h : Rel σ μ na nt) : ∃ r σ' μ' na', F_Main_back σ = some (r, σ') ∧ F_Model_back μ = some (r, μ') ∧ Rel σ' μ' na' nt := by
  unfold F_Main_back F_Model_back F_Main_back_0 F_Model_back_0
  simp only [lt]
  obtain ⟨⟨a0, a1, a2, a3, a4⟩, hT, hS, hX, hI, hM⟩ := id h
  obtain ⟨x0, x1, x2, ⟨lw, l0, l1, l2⟩, x3⟩ := id hX
  obtain ⟨i1, i2⟩ := id hI
  rw [i1]
  rcases i2 with i2 | ⟨i2, ⟨ni, n1, n2, n3⟩, ⟨li, m1, m2, m3⟩, i3⟩
  · rw [i2, if_neg (by decide), if_neg (by decide)]
    exact ⟨_, _, _, na, rfl, rfl, h⟩
  · rw [i2, if_pos (by decide), if_pos (by decide)]
    obtain ⟨τ, e1, t2, t3⟩ := back_loopC FU 0 (up1 (up1 σ 20 1 (σ.1 24 3)) 20 4 ((up1 σ 20 1 (σ.1 24 3)).1 24 4)) (by omega) (by rw [FU_eq]; omega)
    obtain ⟨υ, e2, u2, u3⟩ := back_loopM FU 0 (up1 (up1 μ 0 0 (μ.1 0 13)) 0 11 ((up1 μ 0 0 (μ.1 0 13)).1 0 14)) (by omega) (by rw [FU_eq]; omega)
    rw [show (0 : Int32) = nI 0 from rfl, e1, e2]
    have g1 : ∀ p j, ¬ (p = 20 ∧ (j = 1 ∨ j = 4)) → ¬ ((j = 4 ∨ j = 5) ∧ 27 ≤ p ∧ p < 33) → τ.1 p j = σ.1 p j := by
      intro p j hp hq
      rw [t3 _ _ (by omega), up1_off (by omega), up1_off (by omega)]
    have g2 : ∀ p j, ¬ (p = 0 ∧ (j = 0 ∨ j = 11)) → p ≠ 4 → p ≠ 5 → υ.1 p j = μ.1 p j := by
      intro p j hp h4 h5
      rw [u3 _ _ (by omega), up1_off (by omega), up1_off (by omega)]
    have f4 : ∀ i, i < 6 → τ.1 (27 + i) 4 = σ.1 25 i := by
      intro i hi
      rw [(t2 i (by omega) hi).1, up1_off (by omega), up1_off (by omega)]
    have f5 : ∀ i, i < 6 → τ.1 (27 + i) 5 = σ.1 26 i := by
      intro i hi
      rw [(t2 i (by omega) hi).2, up1_off (by omega), up1_off (by omega)]
    have k4 : ∀ i, i < 6 → υ.1 4 i = μ.1 9 i := by
      intro i hi
      rw [(u2 i (by omega) hi).1, up1_off (by omega), up1_off (by omega)]
    have k5 : ∀ i, i < 6 → υ.1 5 i = μ.1 10 i := by
      intro i hi
      rw [(u2 i (by omega) hi).2, up1_off (by omega), up1_off (by omega)]
    have s1 : τ.1 20 1 = nI ni := by
      rw [t3 _ _ (by omega), up1_off (by omega), up1_on, n2]
    have s4 : τ.1 20 4 = nI li := by
      rw [t3 _ _ (by omega), up1_on, up1_off (by omega), m2]
    have v0 : υ.1 0 0 = nI ni := by
      rw [u3 _ _ (by omega), up1_off (by omega), up1_on, n3]
    have v4 : υ.1 0 11 = nI li := by
      rw [u3 _ _ (by omega), up1_on, up1_off (by omega), m3]
    refine ⟨_, _, _, ni, rfl, ?_, ⟨by omega, s1, v0, fun i hi => ?_, fun i hi => ?_⟩, hT.congr (fun p j q => g1 _ _ (by omega) (by omega)) (fun p j q => g2 _ _ (by omega) (by omega) (by omega)), hS.congr (fun p j q => g1 _ _ (by omega) (by omega)) (fun p j q => g2 _ _ (by omega) (by omega) (by omega)), ⟨x0, (g1 _ _ (by omega) (by omega)).trans x1, (g2 _ _ (by omega) (by omega) (by omega)).trans x2, ⟨li, m1, s4, v4⟩, fun t ht => ?_⟩, ⟨?_, Or.inr ⟨?_, ⟨ni, Nat.le_refl _, (g1 _ _ (by omega) (by omega)).trans n2, (g2 _ _ (by omega) (by omega) (by omega)).trans n3⟩, ⟨li, m1, (g1 _ _ (by omega) (by omega)).trans m2, (g2 _ _ (by omega) (by omega) (by omega)).trans m3⟩, fun i hi => ?_⟩⟩, hM.congr (fun p j q => g2 _ _ (by omega) (by omega) (by omega))⟩
    · rw [up1_off (by omega), up1_on, up1_off (by omega), up1_on, n2, n3]
    · obtain ⟨k', t, m, h1, h2, h3, h4, h5, h6, h7, h8, h9, h10, h11⟩ := a3 i (by omega)
      exact ⟨k', t, m, h1, h2, h3, (g1 _ _ (by omega) (by omega)).trans h4, (g1 _ _ (by omega) (by omega)).trans h5, (g1 _ _ (by omega) (by omega)).trans h6, (g1 _ _ (by omega) (by omega)).trans h7, (g1 _ _ (by omega) (by omega)).trans h8, (g1 _ _ (by omega) (by omega)).trans h9, (g1 _ _ (by omega) (by omega)).trans h10, (g1 _ _ (by omega) (by omega)).trans h11⟩
    · obtain ⟨b0, b1, b2, b3, b4, b5, b6⟩ := a4 i hi
      obtain ⟨c1, c2, c3, c4⟩ := i3 i hi
      rw [f4 i hi, f5 i hi, k4 i hi, k5 i hi, g1 _ 0 (by omega) (by omega), g1 _ 1 (by omega) (by omega), g1 _ 2 (by omega) (by omega), g2 1 i (by omega) (by omega) (by omega), g2 2 i (by omega) (by omega) (by omega), g2 3 i (by omega) (by omega) (by omega)]
      exact ⟨b0, b1, b2, c1, c2, c3, c4⟩
    · have e1 : τ.1 (14 + t) = σ.1 (14 + t) := funext fun j => g1 _ _ (by omega) (by omega)
      have e2 : τ.1 (8 + t) = σ.1 (8 + t) := funext fun j => g1 _ _ (by omega) (by omega)
      have e3 : υ.1 7 = μ.1 7 := funext fun j => g2 _ _ (by omega) (by omega) (by omega)
      have e4 : υ.1 8 = μ.1 8 := funext fun j => g2 _ _ (by omega) (by omega) (by omega)
      rw [e1, e2, e3, e4]
      exact x3 t ht
    · rw [g1 _ _ (by omega) (by omega), g2 _ _ (by omega) (by omega) (by omega), i1]
    · rw [g2 _ _ (by omega) (by omega) (by omega), i2]
    · obtain ⟨c1, c2, c3, c4⟩ := i3 i hi
      rw [g1 25 i (by omega) (by omega), g1 26 i (by omega) (by omega), g2 9 i (by omega) (by omega) (by omega), g2 10 i (by omega) (by omega) (by omega)]
      exact ⟨c1, c2, c3, c4⟩
