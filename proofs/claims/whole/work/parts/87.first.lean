/-! ===== the two first stores ===== -/
def lawG (i : Nat) : Nat := (LAWL.getD i 0).toNatClampNeg
theorem lawG_ok : ∀ i, i < 62 → lawG i < 256 ∧ LAWL.getD i 0 = nI (lawG i) := by decide +kernel
theorem law_good : goodP lawG 62 = true := by decide +kernel
theorem sgF_0 {k p c : Nat} (h : 2 ≤ p) (h2 : p < 33 ∨ 37 ≤ p) : sgF k p c = 0 := by
  unfold sgF
  split <;> first | rfl | omega
theorem sgF_1 {k p : Nat} (h : 33 ≤ p) (h2 : p < 37) (c : Nat) : sgF k p c = if c = 1 then -1 else 0 := by
  rcases (show p = 33 ∨ p = 34 ∨ p = 35 ∨ p = 36 by omega) with rfl | rfl | rfl | rfl <;> rfl
theorem muF_0 {k p c : Nat} (h : p ≠ 6 ∧ p ≠ 11 ∧ p ≠ 14 ∧ p ≠ 15) : muF k p c = 0 := by
  unfold muF
  split <;> first | rfl | omega
theorem muB_1 {p c : Nat} (h : p ≠ 0) : muB.1 p c = muF 62 p c := up1_off (fun q => h q.1)
theorem muB_0 {c : Nat} (h : c ≠ 7) : muB.1 0 c = 0 := (up1_off (fun q => h q.2)).trans rfl
theorem sgZ_1 {ρ : St} {p c : Nat} (h : 21 ≤ p) : (sgZ ρ).1 p c = sgF 62 p c := by
  show (if p < 20 then ρ.1 p else if p = 20 then (fun j => if j = 3 then 1 else 0) else sgF 62 p) c = _
  rw [if_neg (by omega), if_neg (by omega)]
theorem sgZ_0 {ρ : St} {p c : Nat} (h : p < 20) : (sgZ ρ).1 p c = ρ.1 p c := by
  show (if p < 20 then ρ.1 p else if p = 20 then (fun j => if j = 3 then 1 else 0) else sgF 62 p) c = _
  rw [if_pos h]
theorem m1L : ∀ s, s < 4 → M1L.getD s 0 = -1 := by decide +kernel
theorem first_rel : ∃ r τ ρ r' μ', F_Reader_read (sgT 62) = some (r, τ) ∧ F_Tape_empty τ = ρ ∧ ρ.2 2 1 = 8 ∧ F_Model_text muB = some (r', μ') ∧ Rel (sgZ ρ) μ' 0 1 := by
  obtain ⟨r, τ, υ, e1, e2, f1, f2, z10, ok1, -⟩ := text_read (g := lawG) (n := 62) (q := 8) (t := 0) (σ := sgT 62) (μ := muB) (by omega) rfl
    ⟨by decide, rfl, fun i hi => ⟨(lawG_ok i hi).1, (tkF_at hi).trans (lawG_ok i hi).2⟩⟩
    ⟨by decide, rfl, fun i hi => ⟨(lawG_ok i hi).1, ((muB_1 (p := 6) (by decide)).trans (tkF_at hi)).trans (lawG_ok i hi).2⟩⟩
    (fun i hi => ((muB_1 (p := 15) (by decide)).trans (tkF_at hi)).trans rfl) (by decide) (muB_0 (by decide))
  obtain ⟨rfl, e0, e1', e2', i0, i1, i2, a0, a1, a2, s0, s1, s2, s3, hE, g0, g1, g2⟩ := ok1 law_good
  have hT : F_Tape_empty τ = up1 τ 0 1 0 := rfl
  have hX : F_Model_text muB = some (0, up1 (up1 (up1 υ 8 3 (υ.1 0 29)) 0 7 0) 0 10 1) := by
    unfold F_Model_text F_Model_text_0
    rw [show muB.1 0 10 = nI 0 from muB_0 (by decide), if_pos (show ¬ nI 0 = 6 by decide)]
    simp only [lt]
    rw [e2]
    unfold F_Model_text_122
    simp only [lt]
    rw [z10, law_good, show (4 : Int32) * nI 0 + 3 = nI 3 by decide, if_pos (inB_nI (by decide) (by decide)), nI_clamp (by decide), if_pos (show ¬ bI true = 0 by decide)]
    have u10 : (up1 (up1 υ 8 3 (υ.1 0 29)) 0 7 0).1 0 10 = nI 0 := by rw [up1_off (by omega), up1_off (by omega), z10]
    rw [u10, nI_1, up1_on]
    rfl
  refine ⟨-1, τ, up1 τ 0 1 0, 0, _, e1, hT, ?_, hX, ?_⟩
  · show τ.2 2 1 = 8
    rw [f1.1]
    rfl
  have fc : ∀ p c, ¬ (2 ≤ p ∧ p ≤ 6) → ¬ (p = 8 ∧ 2 ≤ c) → p ≠ 14 → ¬ (p = 0 ∧ c = 1) → (up1 τ 0 1 0).1 p c = (sgT 62).1 p c := fun p c g1 g2 g3 g4 => (up1_off g4).trans (f1.2 p c g1 g2 (by omega))
  have fm : ∀ p c, ¬ (p = 0 ∧ 21 ≤ c ∧ c ≤ 29) → p ≠ 7 → ¬ (p = 8 ∧ c < 4) → p ≠ 16 → ¬ (p = 0 ∧ c = 7) → ¬ (p = 0 ∧ c = 10) → (up1 (up1 (up1 υ 8 3 (υ.1 0 29)) 0 7 0) 0 10 1).1 p c = muB.1 p c := fun p c g1 g2 g3 g4 g5 g6 => (up1_off g6).trans ((up1_off g5).trans ((up1_off (by omega)).trans (f2.2 p c g1 (by omega) (by omega) g4)))
  have u8 : ∀ c, (up1 (up1 (up1 υ 8 3 (υ.1 0 29)) 0 7 0) 0 10 1).1 8 c = if c = 3 then υ.1 0 29 else υ.1 8 c := fun c => by
    rw [up1_off (by omega), up1_off (by omega), up1_at]
    by_cases g : c = 3
    · rw [if_pos ⟨rfl, g⟩, if_pos g]
    · rw [if_neg (fun q => g q.2), if_neg g]
  have u7 : ∀ c, (up1 (up1 (up1 υ 8 3 (υ.1 0 29)) 0 7 0) 0 10 1).1 7 c = υ.1 7 c := fun c => by rw [up1_off (by omega), up1_off (by omega), up1_off (by omega)]
  have u77 : (up1 (up1 (up1 υ 8 3 (υ.1 0 29)) 0 7 0) 0 10 1).1 0 7 = 0 := by rw [up1_off (by omega), up1_on]
  have u10 : (up1 (up1 (up1 υ 8 3 (υ.1 0 29)) 0 7 0) 0 10 1).1 0 10 = 1 := up1_on
  have t8 : ∀ p c, p ≠ 0 → (up1 τ 0 1 0).1 p c = τ.1 p c := fun p c h => up1_off (fun q => h q.1)
  have t01 : (up1 τ 0 1 0).1 0 1 = 0 := up1_on
  generalize up1 (up1 (up1 υ 8 3 (υ.1 0 29)) 0 7 0) 0 10 1 = μ' at fm u8 u7 u77 u10 ⊢
  generalize up1 τ 0 1 0 = ρ at fc t8 t01 ⊢
  have az : ∀ p c, 21 ≤ p → (p < 33 ∨ 37 ≤ p) → (sgZ ρ).1 p c = 0 := fun p c h1 h2 => (sgZ_1 h1).trans (sgF_0 (by omega) h2)
  have bz : ∀ p c, p ≠ 0 → p ≠ 6 → p ≠ 7 → p ≠ 8 → p ≠ 11 → p ≠ 14 → p ≠ 15 → p ≠ 16 → μ'.1 p c = 0 := fun p c h0 h6 h7 h8 h11 h14 h15 h16 => (fm p c (by omega) h7 (by omega) h16 (by omega) (by omega)).trans ((muB_1 h0).trans (muF_0 ⟨h6, h11, h14, h15⟩))
  have b0 : ∀ c, ¬ (21 ≤ c ∧ c ≤ 29) → c ≠ 7 → c ≠ 10 → μ'.1 0 c = 0 := fun c h1 h2 h3 => (fm 0 c (by omega) (by omega) (by omega) (by omega) (by omega) (by omega)).trans (muB_0 h2)
  refine ⟨⟨by decide, rfl, b0 0 (by omega) (by decide) (by decide), fun i hi => absurd hi (Nat.not_lt_zero i), fun i hi => ?_⟩, ⟨0, by decide, (sgZ_0 (by decide)).trans t01, u77, fun i hi => absurd hi (Nat.not_lt_zero i)⟩, fun s hs => ?_, ⟨by decide, rfl, u10, ⟨0, by decide, rfl, b0 11 (by omega) (by decide) (by decide)⟩, fun t ht => ?_⟩, ⟨?_, Or.inl (b0 12 (by omega) (by decide) (by decide))⟩, b0 37 (by omega) (by decide) (by decide), b0 38 (by omega) (by decide) (by decide), fun i hi => ?_⟩
  · rw [az (27 + i) 0 (by omega) (by omega), az (27 + i) 1 (by omega) (by omega), az (27 + i) 2 (by omega) (by omega), az (27 + i) 4 (by omega) (by omega), az (27 + i) 5 (by omega) (by omega), bz 1 i (by decide) (by decide) (by decide) (by decide) (by decide) (by decide) (by decide) (by decide), bz 2 i (by decide) (by decide) (by decide) (by decide) (by decide) (by decide) (by decide) (by decide), bz 3 i (by decide) (by decide) (by decide) (by decide) (by decide) (by decide) (by decide) (by decide), bz 4 i (by decide) (by decide) (by decide) (by decide) (by decide) (by decide) (by decide) (by decide), bz 5 i (by decide) (by decide) (by decide) (by decide) (by decide) (by decide) (by decide) (by decide)]
    exact ⟨rfl, rfl, rfl, rfl, rfl, ⟨0, by decide, rfl⟩, ⟨0, by decide, rfl, by decide, by decide, by decide⟩⟩
  · have q1 : (sgZ ρ).1 (33 + s) 1 = -1 := by rw [sgZ_1 (by omega), sgF_1 (by omega) (by omega), if_pos rfl]
    have q2 : (sgZ ρ).1 (33 + s) 2 = 0 := by rw [sgZ_1 (by omega), sgF_1 (by omega) (by omega), if_neg (by decide)]
    have q3 : μ'.1 11 s = -1 := by
      rw [fm 11 s (by omega) (by omega) (by omega) (by omega) (by omega) (by omega), muB_1 (by decide)]
      exact (tkF_at hs).trans (m1L s hs)
    have q4 : μ'.1 12 s = 0 := bz 12 s (by decide) (by decide) (by decide) (by decide) (by decide) (by decide) (by decide) (by decide)
    rw [q1, q2, q3, q4]
    refine ⟨rfl, rfl, Or.inl rfl, ⟨0, by decide, rfl⟩, fun i hi => ?_⟩
    rw [az (37 + s) i (by omega) (by omega), bz 13 (40 * s + i) (by decide) (by decide) (by decide) (by decide) (by decide) (by decide) (by decide) (by decide)]
  · have e : t = 0 := by omega
    subst e
    have y1 : (sgZ ρ).1 (14 + 0) = τ.1 (8 + 6) := funext fun c => by rw [sgZ_0 (by decide), t8 _ _ (by decide)]
    have y2 : ∀ c, (sgZ ρ).1 (8 + 0) c = τ.1 8 c := fun c => by rw [sgZ_0 (by decide), t8 _ _ (by decide)]
    refine ⟨e0, e1', e2', i0, i1, i2, (y2 3).trans a0, (y2 4).trans a1, (y2 2).trans a2, ?_, ?_, ?_, ?_, fun i hi => ?_, ?_, ?_, ?_⟩
    · show μ'.1 8 (4 * 0 + 0) = 0
      rw [u8, if_neg (by decide)]; exact s0
    · show μ'.1 8 (4 * 0 + 1) = _
      rw [u8, if_neg (by decide)]; exact s1
    · show μ'.1 8 (4 * 0 + 2) = _
      rw [u8, if_neg (by decide)]; exact s2
    · show μ'.1 8 (4 * 0 + 3) = _
      rw [u8, if_pos (by decide)]; exact s3
    · show Enc _ (μ'.1 7 (200 * 0 + i))
      rw [y1, u7]
      exact hE i hi
    · rw [y1]; exact g0
    · rw [y1]; exact g1
    · rw [y1]; exact g2
  · exact (az 24 2 (by decide) (by decide)).trans (b0 12 (by omega) (by decide) (by decide)).symm
  · rw [fm 15 i (by omega) (by omega) (by omega) (by omega) (by omega) (by omega), muB_1 (by decide)]
    exact (tkF_at hi).trans rfl
