/-! ===== set, rest, image, back, taken ===== -/
theorem isPlan_eq (v : Int32) : F_Model_isPlan v = 0 ↔ F_Main_isPlan v = 0 := by
  unfold F_Model_isPlan F_Main_isPlan F_Model_isPlan_0 F_Main_isPlan_0
  rw [in_eq]
  by_cases c : F_Main_isWithin v 0 3333 = 0
  · rw [if_pos c, if_pos c]
  · rw [if_neg c, if_neg c]
    have e : ∀ x : Int32, (4 : Int32) ≤ x ↔ (3 : Int32) < x := by
      intro x
      rw [Int32.le_iff_toInt_le, Int32.lt_iff_toInt_lt]
      have e4 : (4 : Int32).toInt = 4 := rfl
      have e3 : (3 : Int32).toInt = 3 := rfl
      omega
    simp only [e]
    by_cases c1 : (3 : Int32) < jrem v 10 <;> by_cases c2 : (3 : Int32) < jrem (v / 10) 10 <;> by_cases c3 : (3 : Int32) < jrem (v / 100) 10 <;> simp [c1, c2, c3]
theorem isPlan_ok {v : Int32} (h : ¬ F_Main_isPlan v = 0) : PlanOk v := by
  unfold F_Main_isPlan F_Main_isPlan_0 at h
  by_cases c : F_Main_isWithin v 0 3333 = 0
  · rw [if_pos c] at h; exact absurd rfl h
  · rw [if_neg c] at h
    obtain ⟨p, hp, rfl⟩ := iw_some (b := 3333) (by decide) c
    refine ⟨p, hp, rfl, ?_⟩
    have d10 : ∀ a : Nat, a < 2 ^ 31 → nI a / 10 = nI (a / 10) := fun a ha => pk_div (d := 10) ha (by decide) (by decide)
    have d100 : ∀ a : Nat, a < 2 ^ 31 → nI a / 100 = nI (a / 100) := fun a ha => pk_div (d := 100) ha (by decide) (by decide)
    have r10 : ∀ a : Nat, a < 2 ^ 31 → jrem (nI a) 10 = nI (a % 10) := fun a ha => pk_rem (d := 10) ha (by decide) (by decide)
    have lt3 : ∀ a : Nat, a < 10 → ((3 : Int32) < nI a ↔ 3 < a) := fun a ha => nI_ltI (a := 3) (by decide) (by omega)
    rw [d10 p (by omega), d100 p (by omega), r10 _ (by omega), r10 _ (by omega), r10 _ (by omega)] at h
    simp only [lt3 _ (Nat.mod_lt _ (show 0 < 10 by decide))] at h
    by_cases c1 : 3 < p / 100 % 10
    · rw [if_pos c1] at h; exact absurd rfl h
    rw [if_neg c1] at h
    by_cases c2 : 3 < p / 10 % 10
    · rw [if_pos c2] at h; exact absurd rfl h
    rw [if_neg c2] at h
    by_cases c3 : 3 < p % 10
    · rw [if_pos c3] at h; exact absurd rfl h
    omega
/-- one arm's hold, plan becomes another -/
theorem Rel.hold {σ μ : St} {na nt : Nat} (h : Rel σ μ na nt) {k : Nat} (hk : k < 6) {x : Int32} (hx : HoldOk x) : Rel (up1 σ (27 + k) 4 x) (up1 μ 4 k x) na nt := by
  obtain ⟨⟨a0, a1, a2, a3, a4⟩, hT, hS, hX, hI, hM⟩ := h
  refine ⟨⟨a0, (up1_off (by omega)).trans a1, (up1_off (by omega)).trans a2, fun i hi => ?_, fun i hi => ?_⟩, hT.congr (fun p j q => up1_off (by omega)) (fun p j q => up1_off (by omega)), hS.congr (fun p j q => up1_off (by omega)) (fun p j q => up1_off (by omega)), hX.congr (fun p j q => up1_off (by omega)) (fun p j q => up1_off (by omega)), hI.congr (fun p j q => up1_off (by omega)) (fun p j q => up1_off (by omega)), hM.congr (fun p j q => up1_off (by omega))⟩
  · obtain ⟨k', t, m, h1, h2, h3, h4, h5, h6, h7, h8, h9, h10, h11⟩ := a3 i hi
    exact ⟨k', t, m, h1, h2, h3, (up1_off (by omega)).trans h4, (up1_off (by omega)).trans h5, (up1_off (by omega)).trans h6, (up1_off (by omega)).trans h7, (up1_off (by omega)).trans h8, (up1_off (by omega)).trans h9, (up1_off (by omega)).trans h10, (up1_off (by omega)).trans h11⟩
  · obtain ⟨b0, b1, b2, b3, b4, b5, b6⟩ := a4 i hi
    by_cases c : i = k
    · subst c
      exact ⟨by rw [up1_off (by omega), up1_off (by omega)]; exact b0, by rw [up1_off (by omega), up1_off (by omega)]; exact b1, by rw [up1_off (by omega), up1_off (by omega)]; exact b2, by rw [up1_on, up1_on], by rw [up1_off (by omega), up1_off (by omega)]; exact b4, by rw [up1_on]; exact hx, by rw [up1_off (by omega)]; exact b6⟩
    · refine ⟨?_, ?_, ?_, ?_, ?_, ?_, ?_⟩
      all_goals (iterate 2 (try rw [up1_off (by omega)]))
      · exact b0
      · exact b1
      · exact b2
      · exact b3
      · exact b4
      · exact b5
      · exact b6
theorem Rel.plan {σ μ : St} {na nt : Nat} (h : Rel σ μ na nt) {k : Nat} (hk : k < 6) {x : Int32} (hx : PlanOk x) : Rel (up1 σ (27 + k) 5 x) (up1 μ 5 k x) na nt := by
  obtain ⟨⟨a0, a1, a2, a3, a4⟩, hT, hS, hX, hI, hM⟩ := h
  refine ⟨⟨a0, (up1_off (by omega)).trans a1, (up1_off (by omega)).trans a2, fun i hi => ?_, fun i hi => ?_⟩, hT.congr (fun p j q => up1_off (by omega)) (fun p j q => up1_off (by omega)), hS.congr (fun p j q => up1_off (by omega)) (fun p j q => up1_off (by omega)), hX.congr (fun p j q => up1_off (by omega)) (fun p j q => up1_off (by omega)), hI.congr (fun p j q => up1_off (by omega)) (fun p j q => up1_off (by omega)), hM.congr (fun p j q => up1_off (by omega))⟩
  · obtain ⟨k', t, m, h1, h2, h3, h4, h5, h6, h7, h8, h9, h10, h11⟩ := a3 i hi
    exact ⟨k', t, m, h1, h2, h3, (up1_off (by omega)).trans h4, (up1_off (by omega)).trans h5, (up1_off (by omega)).trans h6, (up1_off (by omega)).trans h7, (up1_off (by omega)).trans h8, (up1_off (by omega)).trans h9, (up1_off (by omega)).trans h10, (up1_off (by omega)).trans h11⟩
  · obtain ⟨b0, b1, b2, b3, b4, b5, b6⟩ := a4 i hi
    by_cases c : i = k
    · subst c
      exact ⟨by rw [up1_off (by omega), up1_off (by omega)]; exact b0, by rw [up1_off (by omega), up1_off (by omega)]; exact b1, by rw [up1_off (by omega), up1_off (by omega)]; exact b2, by rw [up1_off (by omega), up1_off (by omega)]; exact b3, by rw [up1_on, up1_on], by rw [up1_off (by omega)]; exact b5, by rw [up1_on]; exact hx⟩
    · refine ⟨?_, ?_, ?_, ?_, ?_, ?_, ?_⟩
      all_goals (iterate 2 (try rw [up1_off (by omega)]))
      · exact b0
      · exact b1
      · exact b2
      · exact b3
      · exact b4
      · exact b5
      · exact b6
theorem op_set {σ μ : St} {na nt : Nat} (h : Rel σ μ na nt) (v w x : Int32) : ∃ r σ' μ', F_Main_set σ v w x = some (r, σ') ∧ F_Model_set μ v w x = some (r, μ') ∧ Rel σ' μ' na nt := by
  unfold F_Main_set F_Model_set F_Main_set_0 F_Model_set_0
  rcases armC h v with ⟨k, hk, rfl, e1, e2⟩ | ⟨e1, e2, -⟩
  · rw [e1, e2]
    have hA := h.1
    have hk6 : k < 6 := by have := hA.1; omega
    obtain ⟨b0, b1, b2, b3, b4, b5, b6⟩ := hA.2.2.2.2 k hk6
    have i6 := inB_nI (k := k) (n := 6) hk6 (by decide)
    have cl : (nI k).toNatClampNeg = k := nI_clamp (by omega)
    simp only [ob1, i6, cl, if_true]
    unfold F_Main_set_49 F_Model_set_47
    simp only [lt, i6, cl, if_true, in_eq]
    unfold F_Model_set_66
    simp only [lt, i6, cl, if_true]
    unfold F_Model_set_87
    simp only [lt, i6, cl, if_true]
    unfold F_Model_set_108
    simp only [lt, i6, cl, if_true]
    have wa : ¬ F_Main_isWithin 0 0 1 = 0 := by decide
    have wb : ¬ F_Main_isWithin 1 0 1 = 0 := by decide
    have z1 : ¬ (0 : Int32) = 1 := by decide
    have z2 : ¬ (1 : Int32) = 0 := by decide
    by_cases c0 : w = 0
    · subst c0
      by_cases c : F_Main_isWithin x 0 24 = 0
      · simp only [c, wa, z1, z2, if_true, if_false, not_true_eq_false, not_false_eq_true]
        exact ⟨_, _, _, rfl, rfl, h⟩
      · simp only [c, wa, z1, z2, if_true, if_false, not_true_eq_false, not_false_eq_true]
        obtain ⟨j, hj, rfl⟩ := iw_some (b := 24) (by decide) c
        have h2 := h.hold hk6 (x := nI j) ⟨j, hj, rfl⟩
        have e4 : up1 (up1 μ 4 k (nI j)) 5 k ((up1 μ 4 k (nI j)).1 5 k) = up1 μ 4 k (nI j) := by
          refine Prod.ext ?_ rfl
          funext p i
          rw [up1_at]
          split
          · rename_i g; rw [g.1, g.2]
          · rfl
        rw [e4, b3]
        exact ⟨_, _, _, rfl, rfl, h2⟩
    · by_cases c1 : w = 1
      · subst c1
        by_cases c : F_Main_isPlan x = 0
        · have c' := (isPlan_eq x).mpr c
          simp only [c, c', wb, z1, z2, if_true, if_false, not_true_eq_false, not_false_eq_true]
          exact ⟨_, _, _, rfl, rfl, h⟩
        · have c' : ¬ F_Model_isPlan x = 0 := fun q => c ((isPlan_eq x).mp q)
          simp only [c, c', wb, z1, z2, if_true, if_false, not_true_eq_false, not_false_eq_true]
          have e4 : up1 μ 4 k (μ.1 4 k) = μ := by
            refine Prod.ext ?_ rfl
            funext p i
            rw [up1_at]
            split
            · rename_i g; rw [g.1, g.2]
            · rfl
          rw [e4, b4]
          exact ⟨_, _, _, rfl, rfl, h.plan hk6 (isPlan_ok c)⟩
      · have : F_Main_isWithin w 0 1 = 0 := by
          rw [iw, if_neg]
          intro q
          obtain ⟨j, -, hj, rfl⟩ := rng (a := 0) (b := 1) (by decide) (by decide) q.1 q.2
          match j, hj with
          | 0, _ => exact c0 rfl
          | 1, _ => exact c1 rfl
        simp only [c0, c1, this, if_true, if_false, not_true_eq_false, not_false_eq_true]
        exact ⟨_, _, _, rfl, rfl, h⟩
  · rw [e1, e2]
    exact ⟨_, _, _, rfl, rfl, h⟩
/-- rest -/
theorem rest_loop {v : Nat} (hv : v ≤ 24) : ∀ (n i : Nat) (x : Int32) (σ μ : St) (na nt : Nat), Rel σ μ na nt → i ≤ na → na - i < n → ∃ r σ' μ', F_Main_rest_17 n σ (nI v) x (nI i) = some (r, σ') ∧ F_Model_rest_17 n μ (nI v) x (nI i) = some (r, μ') ∧ Rel σ' μ' na nt := by
  intro n
  induction n with
  | zero => intro i x σ μ na nt h hi hn; omega
  | succ n ih =>
    intro i x σ μ na nt h hi hn
    have hA := h.1
    have ha6 := hA.1
    rw [F_Main_rest_17, F_Model_rest_17, hA.2.1, hA.2.2.1]
    by_cases c : i = na
    · subst c
      rw [if_pos (nI_le (Nat.le_refl _) (by omega)), if_pos (nI_le (Nat.le_refl _) (by omega))]
      exact ⟨_, _, _, rfl, rfl, h⟩
    · have hlt : i < na := by omega
      obtain ⟨b0, b1, b2, b3, b4, ⟨g, hg, b5⟩, b6⟩ := hA.2.2.2.2 i (by omega)
      have i6 := inB_nI (k := i) (n := 6) (by omega) (by decide)
      have cl : (nI i).toNatClampNeg = i := nI_clamp (by omega)
      rw [if_neg (nI_ge hlt (by omega)), if_neg (nI_ge hlt (by omega))]
      simp only [i6, cl, if_true, lt, within_eq]
      rw [b3, b5, nI_add]
      have e : (if nI (g + v) < 24 then nI (g + v) else 24) = F_Main_bounded (nI (g + v)) 0 24 := by
        unfold F_Main_bounded F_Main_bounded_0
        rw [if_pos (show (0 : Int32) ≤ nI (g + v) from nI_pos' (by omega))]
        by_cases q : g + v < 24
        · rw [if_pos (show nI (g + v) < 24 from nI_lt (b := 24) q (by decide)), if_pos (show nI (g + v) ≤ 24 from nI_le (b := 24) (by omega) (by decide))]
        · by_cases q2 : g + v = 24
          · rw [q2]; rfl
          · rw [if_neg (show ¬ nI (g + v) < 24 from nI_nlt (a := g + v) (b := 24) (by omega) (by omega)), if_neg (show ¬ nI (g + v) ≤ 24 from nI_ge (a := 24) (b := g + v) (by omega) (by omega))]
      rw [e]
      have hh : HoldOk (F_Main_bounded (nI (g + v)) 0 24) := by
        rw [← e]
        by_cases q : g + v < 24
        · rw [if_pos (show nI (g + v) < 24 from nI_lt (b := 24) q (by decide))]; exact ⟨_, by omega, rfl⟩
        · rw [if_neg (show ¬ nI (g + v) < 24 from nI_nlt (a := g + v) (b := 24) (by omega) (by omega))]; exact ⟨24, by omega, rfl⟩
      rw [up1_on, up1_on, nI_1]
      exact ih (i + 1) _ _ _ na nt (h.hold (by omega) hh) (by omega) (by omega)
theorem op_rest {σ μ : St} {na nt : Nat} (h : Rel σ μ na nt) (v : Int32) : ∃ r σ' μ', F_Main_rest σ v = some (r, σ') ∧ F_Model_rest μ v = some (r, μ') ∧ Rel σ' μ' na nt := by
  unfold F_Main_rest F_Model_rest F_Main_rest_0 F_Model_rest_0
  simp only [in_eq]
  by_cases c : F_Main_isWithin v 0 24 = 0
  · rw [if_neg (not_not_intro c), if_neg (not_not_intro c)]
    exact ⟨_, _, _, rfl, rfl, h⟩
  · rw [if_pos c, if_pos c]
    obtain ⟨k, hk, rfl⟩ := iw_some (b := 24) (by decide) c
    have := h.1.1
    exact rest_loop hk FU 0 0 σ μ na nt h (Nat.zero_le _) (by rw [FU_eq]; omega)
