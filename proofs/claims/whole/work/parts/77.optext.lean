/-! ===== text() ===== -/
theorem text_old {σ μ σ' μ' : St} {na nt t : Nat} (h : Rel σ μ na nt) (ht : t < nt) (f1 : ∀ c, σ'.1 (8 + t) c = σ.1 (8 + t) c) (f2 : ∀ c, σ'.1 (14 + t) c = σ.1 (14 + t) c) (f3 : ∀ i, i < 160 → μ'.1 7 (200 * t + i) = μ.1 7 (200 * t + i)) (f4 : ∀ i, i < 4 → μ'.1 8 (4 * t + i) = μ.1 8 (4 * t + i)) : TextOk (σ'.1 (14 + t)) (σ'.1 (8 + t)) (fun i => μ'.1 7 (200 * t + i)) (fun j => μ'.1 8 (4 * t + j)) := by
  obtain ⟨e0, e1, e2, h0, h1, h2, a0, a1, a2, s0, s1, s2, s3, hE, g0, g1, g2⟩ := h.2.2.2.1.2.2.2.2 t ht
  have x1 : σ'.1 (8 + t) = σ.1 (8 + t) := funext f1
  have x2 : σ'.1 (14 + t) = σ.1 (14 + t) := funext f2
  rw [x1, x2]
  exact ⟨e0, e1, e2, h0, h1, h2, a0, a1, a2, (f4 0 (by omega)).trans s0, (f4 1 (by omega)).trans s1, (f4 2 (by omega)).trans s2, (f4 3 (by omega)).trans s3, fun i hi => by
    show Enc _ (μ'.1 7 (200 * t + i))
    rw [f3 i (by omega)]
    exact hE i hi, g0, g1, g2⟩
theorem op_text {σ μ : St} {na nt : Nat} (h : Rel σ μ na nt) : ∃ r σ' μ' nt', F_Main_text σ = some (r, σ') ∧ F_Model_text μ = some (r, μ') ∧ Rel σ' μ' na nt' := by
  unfold F_Main_text F_Model_text F_Main_text_0 F_Model_text_0
  obtain ⟨hA, ⟨n, n0, n1, n2, n3⟩, hS, hX, hI, hM⟩ := id h
  obtain ⟨hx0, hx1, hx2, ⟨lw, l0, l1, l2⟩, hx3⟩ := id hX
  rw [hx1, hx2]
  by_cases c6 : nt = 6
  · subst c6
    rw [if_neg (by decide), if_neg (not_not_intro (show nI 6 = 6 from rfl))]
    exact ⟨_, _, _, 6, rfl, rfl, h⟩
  have hn6 : nt < 6 := by omega
  rw [if_pos (show nI nt < 6 from nI_lt (b := 6) hn6 (by decide)), if_pos (inB_nI hn6 (by decide)), if_pos (show ¬ nI nt = 6 from fun z => c6 ((nI_eq (b := 6) (by omega) (by decide)).mp z)), nI_clamp (by omega)]
  simp only [lt]
  have gb : ∀ i, i < n → (μ.1 6 i).toNatClampNeg < 256 ∧ μ.1 6 i = nI (μ.1 6 i).toNatClampNeg := by
    intro i hi
    obtain ⟨-, c, hc, e⟩ := n3 i hi
    rw [e, nI_clamp (by omega)]
    exact ⟨hc, rfl⟩
  obtain ⟨r, τ, υ, e1, e2, f1, f2, z10, ok1, ok2⟩ := text_read (g := fun i => (μ.1 6 i).toNatClampNeg) (n := n) (q := 8 + nt) (t := nt) (σ := up2 σ 2 1 (8 + nt)) (μ := μ) (by omega) (by rw [up2_at, if_pos ⟨rfl, rfl⟩]) ⟨n0, n1, fun i hi => ⟨(gb i hi).1, ((n3 i hi).1).trans (gb i hi).2⟩⟩ ⟨n0, n2, fun i hi => gb i hi⟩ hM.2.2 hn6 hx2
  rw [e1, e2]
  simp only [ob2_some]
  unfold F_Tape_empty F_Tape_empty_0 F_Model_text_122
  simp only [lt]
  rw [z10, show (4 : Int32) * nI nt + 3 = nI (4 * nt + 3) from by rw [show (4 : Int32) = nI 4 from rfl, show (3 : Int32) = nI 3 from rfl, pk_mul, nI_add], if_pos (inB_nI (by omega) (by decide)), nI_clamp (by omega)]
  -- both frames
  have fc : ∀ p c, ¬ (2 ≤ p ∧ p ≤ 6) → ¬ (p = 8 + nt ∧ 2 ≤ c) → p ≠ 14 + nt → ¬ (p = 0 ∧ c = 1) → (up1 τ 0 1 0).1 p c = σ.1 p c := fun p c g1 g2 g3 g4 => (up1_off g4).trans (f1.2 p c g1 g2 (by omega))
  have fm : ∀ p c, ¬ (p = 0 ∧ 21 ≤ c ∧ c ≤ 29) → ¬ (p = 7 ∧ 200 * nt ≤ c ∧ c < 200 * nt + 200) → ¬ (p = 8 ∧ 4 * nt ≤ c ∧ c < 4 * nt + 4) → p ≠ 16 → ¬ (p = 0 ∧ c = 7) → (up1 (up1 υ 8 (4 * nt + 3) (υ.1 0 29)) 0 7 0).1 p c = μ.1 p c := fun p c g1 g2 g3 g4 g5 => (up1_off g5).trans ((up1_off (by omega)).trans (f2.2 p c g1 g2 g3 g4))
  have t20 : (up1 τ 0 1 0).1 20 3 = nI nt := (fc 20 3 (by omega) (by omega) (by omega) (by omega)).trans hx1
  have u10 : (up1 (up1 υ 8 (4 * nt + 3) (υ.1 0 29)) 0 7 0).1 0 10 = nI nt := (fm 0 10 (by omega) (by omega) (by omega) (by omega) (by omega)).trans hx2
  have u22 : (up1 (up1 υ 8 (4 * nt + 3) (υ.1 0 29)) 0 7 0).1 0 22 = υ.1 0 22 := by rw [up1_off (by omega), up1_off (by omega)]
  have u8 : ∀ c, (up1 (up1 υ 8 (4 * nt + 3) (υ.1 0 29)) 0 7 0).1 8 c = if c = 4 * nt + 3 then υ.1 0 29 else υ.1 8 c := fun c => by
    rw [up1_off (by omega), up1_at]
    by_cases g : c = 4 * nt + 3
    · rw [if_pos ⟨rfl, g⟩, if_pos g]
    · rw [if_neg (fun q => g q.2), if_neg g]
  have u7 : ∀ c, (up1 (up1 υ 8 (4 * nt + 3) (υ.1 0 29)) 0 7 0).1 7 c = υ.1 7 c := fun c => by rw [up1_off (by omega), up1_off (by omega)]
  have ta : (up1 τ 0 1 0).1 0 1 = 0 := up1_on
  have ua : (up1 (up1 υ 8 (4 * nt + 3) (υ.1 0 29)) 0 7 0).1 0 7 = 0 := up1_on
  have tq : ∀ p c, p ≠ 0 → (up1 τ 0 1 0).1 p c = τ.1 p c := fun p c hp => up1_off (by omega)
  generalize up1 τ 0 1 0 = τ' at fc t20 ta tq ⊢
  generalize up1 (up1 υ 8 (4 * nt + 3) (υ.1 0 29)) 0 7 0 = υ' at fm u10 u22 u8 u7 ua ⊢
  have hold : ∀ (σ' μ' : St), (∀ p c, ¬ (p = 20 ∧ c = 3) → σ'.1 p c = τ'.1 p c) → (∀ p c, ¬ (p = 0 ∧ c = 10) → μ'.1 p c = υ'.1 p c) → ∀ t, t < nt → TextOk (σ'.1 (14 + t)) (σ'.1 (8 + t)) (fun i => μ'.1 7 (200 * t + i)) (fun j => μ'.1 8 (4 * t + j)) := fun σ' μ' g1 g2 t ht => text_old h ht (fun c => (g1 _ _ (by omega)).trans (fc _ _ (by omega) (by omega) (by omega) (by omega))) (fun c => (g1 _ _ (by omega)).trans (fc _ _ (by omega) (by omega) (by omega) (by omega))) (fun i hi => (g2 _ _ (by omega)).trans (fm _ _ (by omega) (by omega) (by omega) (by omega) (by omega))) (fun i hi => (g2 _ _ (by omega)).trans (fm _ _ (by omega) (by omega) (by omega) (by omega) (by omega)))
  have rest : ∀ (σ' μ' : St), (∀ p c, ¬ (p = 20 ∧ c = 3) → σ'.1 p c = τ'.1 p c) → (∀ p c, ¬ (p = 0 ∧ c = 10) → μ'.1 p c = υ'.1 p c) → RArm σ'.1 μ'.1 na ∧ RTape σ'.1 μ'.1 ∧ RSheet σ'.1 μ'.1 ∧ RImg σ'.1 μ'.1 na nt ∧ RMisc μ'.1 := by
    intro σ' μ' g1 g2
    have F : ∀ p c, ¬ (2 ≤ p ∧ p ≤ 6) → ¬ (p = 8 + nt ∧ 2 ≤ c) → p ≠ 14 + nt → ¬ (p = 0 ∧ c = 1) → ¬ (p = 20 ∧ c = 3) → σ'.1 p c = σ.1 p c := fun p c q1 q2 q3 q4 q5 => (g1 p c q5).trans (fc p c q1 q2 q3 q4)
    have G : ∀ p c, ¬ (p = 0 ∧ 21 ≤ c ∧ c ≤ 29) → p ≠ 7 → p ≠ 8 → p ≠ 16 → ¬ (p = 0 ∧ c = 7) → ¬ (p = 0 ∧ c = 10) → μ'.1 p c = μ.1 p c := fun p c q1 q2 q3 q4 q5 q6 => (g2 p c q6).trans (fm p c q1 (by omega) (by omega) q4 q5)
    exact ⟨hA.congr (fun p j q => F p j (by omega) (by omega) (by omega) (by omega) (by omega)) (fun p j q => G p j (by omega) (by omega) (by omega) (by omega) (by omega) (by omega)), ⟨0, by omega, (g1 0 1 (by omega)).trans ta, (g2 0 7 (by omega)).trans ua, fun i hi => absurd hi (Nat.not_lt_zero i)⟩, hS.congr (fun p j q => F p j (by omega) (by omega) (by omega) (by omega) (by omega)) (fun p j q => G p j (by omega) (by omega) (by omega) (by omega) (by omega) (by omega)), hI.congr (fun p j q => F p j (by omega) (by omega) (by omega) (by omega) (by omega)) (fun p j q => G p j (by omega) (by omega) (by omega) (by omega) (by omega) (by omega)), hM.congr (fun p j q => G p j (by omega) (by omega) (by omega) (by omega) (by omega) (by omega))⟩
  have t24 : τ'.1 20 4 = nI lw := (fc 20 4 (by omega) (by omega) (by omega) (by omega)).trans l1
  have u11 : υ'.1 0 11 = nI lw := (fm 0 11 (by omega) (by omega) (by omega) (by omega) (by omega)).trans l2
  cases hg : goodP (fun i => (μ.1 6 i).toNatClampNeg) n with
  | false =>
    obtain ⟨pl, p160, rfl, p22⟩ := ok2 hg
    rw [if_neg (m1_ne pl p160), if_neg (not_not_intro (show bI false = 0 from rfl)), u22, p22]
    obtain ⟨q1, q2, q3, q4, q5⟩ := rest τ' υ' (fun _ _ _ => rfl) (fun _ _ _ => rfl)
    exact ⟨_, _, _, nt, rfl, rfl, q1, q2, q3, ⟨hx0, t20, u10, ⟨lw, l0, t24, u11⟩, hold τ' υ' (fun _ _ _ => rfl) (fun _ _ _ => rfl)⟩, q4, q5⟩
  | true =>
    obtain ⟨rfl, e0, e1', e2', i0, i1, i2, a0, a1, a2, s0, s1, s2, s3, hE, g0, g1, g2⟩ := ok1 hg
    rw [if_pos rfl, if_pos (show ¬ bI true = 0 by decide), t20, u10, nI_1, up1_on, up1_on]
    obtain ⟨q1, q2, q3, q4, q5⟩ := rest (up1 τ' 20 3 (nI (nt + 1))) (up1 υ' 0 10 (nI (nt + 1))) (fun p c g => up1_off g) (fun p c g => up1_off g)
    refine ⟨_, _, _, nt + 1, rfl, rfl, q1, q2, q3, ⟨by omega, up1_on, up1_on, ⟨lw, by omega, (up1_off (by omega)).trans t24, (up1_off (by omega)).trans u11⟩, fun t ht => ?_⟩, q4.more (Nat.le_refl _) (by omega), q5⟩
    by_cases ct : t = nt
    · subst ct
      have y1 : (up1 τ' 20 3 (nI (t + 1))).1 (14 + t) = τ.1 (8 + t + 6) := funext fun c => by rw [up1_off (by omega), tq _ _ (by omega), show 8 + t + 6 = 14 + t by omega]
      have y2 : ∀ c, (up1 τ' 20 3 (nI (t + 1))).1 (8 + t) c = τ.1 (8 + t) c := fun c => by rw [up1_off (by omega), tq _ _ (by omega)]
      have y8 : ∀ c, (up1 υ' 0 10 (nI (t + 1))).1 8 c = if c = 4 * t + 3 then υ.1 0 29 else υ.1 8 c := fun c => by rw [up1_off (by omega), u8]
      refine ⟨e0, e1', e2', i0, i1, i2, (y2 3).trans a0, (y2 4).trans a1, (y2 2).trans a2, ?_, ?_, ?_, ?_, fun i hi => ?_, ?_, ?_, ?_⟩
      · show (up1 υ' 0 10 (nI (t + 1))).1 8 (4 * t + 0) = 0
        rw [y8, if_neg (by omega)]; exact s0
      · show (up1 υ' 0 10 (nI (t + 1))).1 8 (4 * t + 1) = _
        rw [y8, if_neg (by omega)]; exact s1
      · show (up1 υ' 0 10 (nI (t + 1))).1 8 (4 * t + 2) = _
        rw [y8, if_neg (by omega)]; exact s2
      · show (up1 υ' 0 10 (nI (t + 1))).1 8 (4 * t + 3) = _
        rw [y8, if_pos rfl]; exact s3
      · show Enc _ ((up1 υ' 0 10 (nI (t + 1))).1 7 (200 * t + i))
        rw [y1, up1_off (by omega), u7]
        exact hE i hi
      · rw [y1]; exact g0
      · rw [y1]; exact g1
      · rw [y1]; exact g2
    · exact hold _ _ (fun p c g => up1_off g) (fun p c g => up1_off g) t (by omega)
