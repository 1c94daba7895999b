/-! ===== told bouts: judge, left, whom, laws, film ===== -/
theorem CtxM.fr {b b' : Nat → Nat → Int32} {i j lw : Nat} {L : Law} {A B : Sd} (h : CtxM b i j lw L A B) (o : ∀ p k, (p = 0 ∧ (k = 11 ∨ k = 37 ∨ k = 38)) ∨ (1 ≤ p ∧ p ≤ 8) → b' p k = b p k) : CtxM b' i j lw L A B := by
  obtain ⟨h1, h2, h3, h4, ⟨g0, g1, g2, g3, g4, g5⟩, ⟨a1, ⟨a2, a3, a4⟩, a5, a6⟩, ⟨b1, ⟨b2, b3, b4⟩, b5, b6⟩⟩ := h
  exact ⟨h1, h2, h3, (o _ _ (by omega)).trans h4, ⟨g0, (o _ _ (by omega)).trans g1, (o _ _ (by omega)).trans g2, (o _ _ (by omega)).trans g3, (o _ _ (by omega)).trans g4, fun k hk => by rw [o _ _ (by omega)]; exact g5 k hk⟩, ⟨a1, ⟨(o _ _ (by omega)).trans a2, (o _ _ (by omega)).trans a3, (o _ _ (by omega)).trans a4⟩, (o _ _ (by omega)).trans a5, by rw [o _ _ (by omega)]; exact a6⟩, ⟨b1, ⟨(o _ _ (by omega)).trans b2, (o _ _ (by omega)).trans b3, (o _ _ (by omega)).trans b4⟩, (o _ _ (by omega)).trans b5, by rw [o _ _ (by omega)]; exact b6⟩⟩
theorem CtxC.fr {σ τ : St} {pa pb q : Nat} {L : Law} {A B : Sd} (h : CtxC σ pa pb q L A B) (o1 : τ.2 = σ.2) (o2 : ∀ p k, (8 ≤ p ∧ p < 33) ∨ 42 ≤ p → τ.1 p k = σ.1 p k) : CtxC τ pa pb q L A B := by
  obtain ⟨h1, h2, h3, h4, h5, h6, ⟨g0, g1, g2, g3, g4⟩, ⟨a1, a2, a3, a4, a5⟩, ⟨b1, b2, b3, b4, b5⟩⟩ := h
  have f : ∀ p, (8 ≤ p ∧ p < 33) → τ.1 p = σ.1 p := fun p hp => funext fun j => o2 p j (by omega)
  exact ⟨h1, h2, h3, by rw [o1, h4], by rw [o1, h5], by rw [o1, h6], ⟨g0, by rw [f _ (by omega), g1], by rw [f _ (by omega), g2], by rw [f _ (by omega), g3], by rw [f _ (by omega), g4]⟩, ⟨by rw [f _ (by omega), a1], by rw [o2 _ _ (by omega), a2], by rw [o2 _ _ (by omega), a3], by rw [o2 _ _ (by omega), a4], by rw [o2 _ _ (by omega), a5]⟩, ⟨by rw [f _ (by omega), b1], by rw [o2 _ _ (by omega), b2], by rw [o2 _ _ (by omega), b3], by rw [o2 _ _ (by omega), b4], by rw [o2 _ _ (by omega), b5]⟩⟩
/-- a told row, as both see it -/
def Told (σ μ : St) (s z : Nat) : Prop := s < 4 ∧ z ≤ 8 ∧ σ.1 (33 + s) 2 = nI z ∧ μ.1 12 s = nI z ∧ ∀ c, c < z → σ.1 (37 + s) c = μ.1 13 (40 * s + c)
theorem Told.same {σ μ σ' μ' : St} {s z : Nat} (h : Told σ μ s z) (hc : SameC σ σ') (hm : ∀ p j, p = 12 ∨ p = 13 → μ'.1 p j = μ.1 p j) : Told σ' μ' s z := by
  obtain ⟨h1, h2, h3, h4, h5⟩ := h
  refine ⟨h1, h2, (hc _ _ (by unfold ScC; omega)).trans h3, (hm _ _ (by omega)).trans h4, fun c hcz => ?_⟩
  rw [hc _ _ (by unfold ScC; omega), hm _ _ (by omega)]
  exact h5 c hcz
theorem told_loop {s i j z : Nat} : ∀ (n k : Nat) (σ μ : St) (v : BS) (t : Nat), Told σ μ s z → Bc σ μ i j → VwC σ.1 v t false → VwM μ.1 v t → VOk v → t ≤ 40 → k ≤ z → z - k < n → ∃ r σ' μ', F_Main_firstOtherwise_2 n σ (33 + s) (nI k) = some (r, σ') ∧ F_Model_unlike_3 n μ (nI s) (nI i) (nI j) (nI k) = some (r, μ') ∧ OffC σ σ' ∧ OffM μ μ' := by
  intro n
  induction n with
  | zero => intro k σ μ v t _ _ _ _ _ _ _ h; omega
  | succ n ih =>
    intro k σ μ v t ht b vc vm ok t40 hk hn
    obtain ⟨hs, hz, h3, h4, h5⟩ := id ht
    rw [F_Main_firstOtherwise_2, F_Model_unlike_3, h3, if_pos (inB_nI hs (by decide)), nI_clamp (by omega), h4]
    by_cases c : k = z
    · subst c
      rw [if_pos (nI_le (Nat.le_refl _) (by omega)), if_pos (nI_le (Nat.le_refl _) (by omega))]
      exact ⟨_, _, _, rfl, rfl, OffC.rf, OffM.rf⟩
    · rw [if_neg (nI_ge (show k < z by omega) (by omega)), if_neg (nI_ge (show k < z by omega) (by omega))]
      have e5 : (5 : Int32) * (nI k + 1) = nI (5 * (k + 1)) := by rw [nI_1, show (5 : Int32) = nI 5 from rfl, pk_mul]
      have e6 : (5 : Int32) * nI k + 5 = nI (5 * (k + 1)) := by rw [show (5 : Int32) = nI 5 from rfl, pk_mul, nI_add]; congr 1
      obtain ⟨τ, υ, v', t', g1, g2, b', wc, wm, ok', t40', oc, om⟩ := b.play vc vm ok t40 (e := 5 * (k + 1)) (by omega) rfl
      rw [e5, e6, g1, g2]
      simp only [ob1_some]
      have ht' := ht.same oc.same (fun p j hp => om p j (by omega) (by omega) (by omega))
      obtain ⟨-, -, h3', h4', h5'⟩ := id ht'
      rw [at_C (by omega) h3' (by omega), show (40 : Int32) * nI s + nI k = nI (40 * s + k) from by rw [show (40 : Int32) = nI 40 from rfl, pk_mul, nI_add], if_pos (inB_nI (by omega) (by decide)), nI_clamp (by omega)]
      simp only [ob1_some]
      rw [show 33 + s + 4 = 37 + s by omega, h5' k (by omega), wc.1, wm.1, nI_1]
      by_cases d : v'.1 = υ.1 13 (40 * s + k)
      · rw [if_pos d, if_pos d.symm]
        obtain ⟨r, σ', μ', f1, f2, f3, f4⟩ := ih (k + 1) τ υ v' t' ht' b' wc wm ok' t40' (by omega) (by omega)
        exact ⟨r, σ', μ', f1, f2, oc.tr f3, om.tr f4⟩
      · rw [if_neg d, if_neg (fun q => d q.symm)]
        exact ⟨_, _, _, rfl, rfl, oc, om⟩
theorem told_at {σ μ : St} {s i j z : Nat} {v : BS} (ht : Told σ μ s z) (b : Bc σ μ i j) (vc : VwC σ.1 v 0 false) (vm : VwM μ.1 v 0) (ok : VOk v) : ∃ r σ' μ', F_Main_firstOtherwise σ (33 + s) = some (r, σ') ∧ F_Model_unlike μ (nI s) (nI i) (nI j) = some (r, μ') ∧ OffC σ σ' ∧ OffM μ μ' := by
  unfold F_Main_firstOtherwise F_Main_firstOtherwise_0 F_Model_unlike F_Model_unlike_0
  exact told_loop FU 0 σ μ v 0 ht b vc vm ok (by omega) (Nat.zero_le _) (by have := ht.2.1; rw [FU_eq]; omega)
theorem refusal_at {σ μ : St} {na nt : Nat} (h : Rel σ μ na nt) (v : Int32) : (∃ r, ¬ r = 0 ∧ F_Main_refusalOfTold σ v = some r ∧ F_Model_sheetWrong μ v = some r) ∨ ∃ s z, v = nI s ∧ Told σ μ s z ∧ F_Main_refusalOfTold σ v = some 0 ∧ F_Model_sheetWrong μ v = some 0 := by
  unfold F_Main_refusalOfTold F_Main_refusalOfTold_0 F_Model_sheetWrong F_Model_sheetWrong_0
  simp only [in_eq]
  rw [isSheet_eq]
  simp only [ob1_some]
  by_cases c1 : F_Main_isWithin v 0 3 = 0
  · rw [if_neg (not_not_intro c1), if_neg (not_not_intro c1)]; exact Or.inl ⟨_, by decide, rfl, rfl⟩
  rw [if_pos c1, if_pos c1]
  obtain ⟨s, hs, rfl⟩ := iw_some (b := 3) (by decide) c1
  have s4 := inB_nI (k := s) (n := 4) (by omega) (by decide)
  have cl : (nI s).toNatClampNeg = s := nI_clamp (by omega)
  obtain ⟨h1, h2, h3, ⟨z, hz, h4⟩, h5⟩ := h.2.2.1 s (by omega)
  simp only [s4, if_true, cl]
  rw [h1, h2]
  by_cases c2 : μ.1 11 s = -1
  · rw [if_neg (not_not_intro c2)]; exact Or.inl ⟨_, by decide, rfl, rfl⟩
  rw [if_pos c2, h4]
  by_cases c3 : z ≤ 8
  · rw [if_pos (show nI z ≤ 8 from nI_le (b := 8) c3 (by decide))]
    exact Or.inr ⟨s, z, rfl, ⟨by omega, c3, h2.trans h4, h4, fun c hc => h5 c (by omega)⟩, rfl, rfl⟩
  · rw [if_neg (show ¬ nI z ≤ 8 from nI_ge (a := 8) (by omega) (by omega))]
    exact Or.inl ⟨_, by decide, rfl, rfl⟩
theorem refusal2 {σ μ : St} {na nt : Nat} (h : Rel σ μ na nt) (v a b : Int32) : (∃ r, ¬ r = 0 ∧ F_Model_toldWrong μ v a b = some r ∧ ((F_Main_refusalOfTold σ v = some r) ∨ (F_Main_refusalOfTold σ v = some 0 ∧ r = -5 ∧ F_Main_areTwo σ a b = some 0))) ∨ ∃ s z i j, v = nI s ∧ Told σ μ s z ∧ F_Main_refusalOfTold σ v = some 0 ∧ F_Model_toldWrong μ v a b = some 0 ∧ i < na ∧ j < na ∧ a = nI i ∧ b = nI j ∧ F_Main_areTwo σ a b = some 1 := by
  unfold F_Model_toldWrong F_Model_toldWrong_0
  rcases refusal_at h v with ⟨r, hr, e1, e2⟩ | ⟨s, z, rfl, ht, e1, e2⟩
  · rw [e1, e2]
    simp only [ob1_some]
    rw [if_neg hr]
    exact Or.inl ⟨r, hr, (by first | rfl | trivial), Or.inl (by first | rfl | trivial)⟩
  · rw [e1, e2]
    simp only [ob1_some]
    rw [if_pos trivial]
    rcases twoC h a b with ⟨i, j, hi, hj, hij, rfl, rfl, e3, e4⟩ | ⟨e3, e4⟩
    · rw [e3, e4]
      simp only [ob1_some]
      rw [if_neg one_ne]
      exact Or.inr ⟨s, z, i, j, rfl, ht, (by first | rfl | trivial), (by first | rfl | trivial), hi, hj, rfl, rfl, (by first | rfl | trivial)⟩
    · rw [e3, e4]
      simp only [ob1_some]
      rw [if_pos trivial]
      exact Or.inl ⟨-5, by decide, (by first | rfl | trivial), Or.inr ⟨(by first | rfl | trivial), (by first | rfl | trivial), (by first | rfl | trivial)⟩⟩
theorem op_judge {σ μ : St} {na nt : Nat} (h : Rel σ μ na nt) (v a b : Int32) : ∃ r σ' μ', F_Main_judge σ v a b = some (r, σ') ∧ F_Model_judge μ v a b = some (r, μ') ∧ Rel σ' μ' na nt := by
  unfold F_Main_judge F_Model_judge F_Main_judge_0 F_Model_judge_0
  rcases refusal2 h v a b with ⟨r, hr, e1, e2⟩ | ⟨s, z, i, j, rfl, ht, e2, e1, hi, hj, rfl, rfl, e3⟩
  · rw [e1]
    simp only [ob1_some]
    rw [if_pos hr]
    rcases e2 with e2 | ⟨e2, rfl, e3⟩
    · rw [e2]
      simp only [ob1_some]
      rw [if_neg hr]
      exact ⟨_, _, _, rfl, rfl, h⟩
    · rw [e2, e3]
      exact ⟨_, _, _, rfl, rfl, h⟩
  · rw [e1, e2]
    simp only [ob1_some, if_true, not_true_eq_false, if_false]
    rw [e3]
    simp only [ob1_some]
    rw [if_pos one_ne]
    obtain ⟨σ0, μ0, f1, f2, bb, vc, vm, sc, sm, k1, k2, k3⟩ := h.begin2 hi hj 0
    unfold F_Model_unlikeNow F_Model_unlikeNow_0
    rw [f1, f2]
    simp only [ob1_some]
    rw [if_pos (inB_nI ht.1 (by decide)), nI_clamp (by have := ht.1; omega)]
    obtain ⟨r, σ1, μ1, g1, g2, oc, om⟩ := told_at (ht.same sc (fun p k hp => sm p k (by unfold ScM; omega))) bb vc vm (ok0 k1 k2)
    rw [g1, g2]
    exact ⟨_, _, _, rfl, rfl, h.scr (sc.tr oc.same) (sm.tr om.same)⟩
theorem left_loop {σ μ : St} {na nt s z i j : Nat} (h : Rel σ μ na nt) (ht : Told σ μ s z) (hi : i < na) (hj : j < na) : ∀ (n k : Nat) (acc : Int32) (σ1 μ1 : St), SameC σ σ1 → SameM μ μ1 → k ≤ 25 → 25 - k < n → BothG σ μ (F_Main_left_33 n σ1 (nI s) (nI i) (nI j) acc (nI k)) (F_Model_left_23 n μ1 (nI s) (nI i) (nI j) acc (nI k)) := by
  intro n
  induction n with
  | zero => intro k acc σ1 μ1 _ _ _ h; omega
  | succ n ih =>
    intro k acc σ1 μ1 sc sm hk hn
    rw [F_Main_left_33, F_Model_left_23]
    by_cases c : k = 25
    · subst c
      rw [if_pos (by decide), if_pos (by decide)]
      exact ⟨_, _, _, rfl, rfl, sc, sm⟩
    · rw [if_neg (show ¬ (24 : Int32) < nI k from nI_nlt (a := 24) (b := k) (by omega) (by omega)), if_neg (show ¬ (24 : Int32) < nI k from nI_nlt (a := 24) (b := k) (by omega) (by omega))]
      have hr : Rel σ1 μ1 na nt := h.scr sc sm
      have ht1 := ht.same sc (μ' := μ1) (fun p k hp => sm p k (by unfold ScM; omega))
      obtain ⟨σ0, μ0, f1, f2, bb, vc, vm, s1, s2, k1, k2, k3⟩ := hr.begin2 hi hj 0
      rw [f1, f2]
      simp only [ob1_some, lt]
      rw [if_pos (inB_nI ht.1 (by decide)), nI_clamp (show s < 2 ^ 31 by have := ht.1; omega)]
      have o1 : OffC σ0 (up1 σ0 44 1 (nI k)) := ⟨rfl, fun p j _ _ _ g _ => up1_off (by omega)⟩
      have o2 : OffM μ0 (up1 μ0 0 34 (nI k)) := fun p j g _ _ => up1_off (by omega)
      obtain ⟨v1, v2, v3, v4, v5, v6⟩ := vc
      obtain ⟨w1, w2, w3, w4, w5⟩ := vm
      have ht2 := ht1.same (s1.tr o1.same) (μ' := up1 μ0 0 34 (nI k)) (fun p q hp => (up1_off (by omega)).trans (s2 p q (by unfold ScM; omega)))
      obtain ⟨r, σ2, μ2, g1, g2, oc, om⟩ := told_at (v := (0, σ1.1 (27 + i) 4, nI k, 0)) ht2 (bb.go o1 o2) ⟨(up1_off (by omega)).trans v1, (up1_off (by omega)).trans v2, up1_on, (fun q => by cases q), (up1_off (by omega)).trans v5, (up1_off (by omega)).trans v6⟩ ⟨(up1_off (by omega)).trans w1, (up1_off (by omega)).trans w2, up1_on, (up1_off (by omega)).trans w4, (up1_off (by omega)).trans w5⟩ (ok0 k1 ⟨k, by omega, rfl⟩)
      rw [g1, g2]
      simp only [ob2_some]
      unfold F_Main_left_81 F_Model_left_64
      have nx : ∀ acc', BothG σ μ (F_Main_left_33 n σ2 (nI s) (nI i) (nI j) acc' (nI k + 1)) (F_Model_left_23 n μ2 (nI s) (nI i) (nI j) acc' (nI k + 1)) := by
        intro acc'
        rw [nI_1]
        exact ih (k + 1) acc' σ2 μ2 (((sc.tr s1).tr o1.same).tr oc.same) (((sm.tr s2).tr o2.same).tr om.same) (by omega) (by omega)
      by_cases d : r = -1
      · rw [if_neg (not_not_intro d), if_neg (not_not_intro d)]
        exact nx _
      · rw [if_pos d, if_pos d, Int32.or_zero]
        exact nx _
theorem op_left {σ μ : St} {na nt : Nat} (h : Rel σ μ na nt) (v a b : Int32) : ∃ r σ' μ', F_Main_left σ v a b = some (r, σ') ∧ F_Model_left μ v a b = some (r, μ') ∧ Rel σ' μ' na nt := by
  unfold F_Main_left F_Model_left F_Main_left_0 F_Model_left_0
  rcases refusal2 h v a b with ⟨r, hr, e1, e2⟩ | ⟨s, z, i, j, rfl, ht, e2, e1, hi, hj, rfl, rfl, e3⟩
  · rw [e1]
    simp only [ob1_some]
    rw [if_neg hr]
    rcases e2 with e2 | ⟨e2, rfl, e3⟩
    · rw [e2]
      simp only [ob1_some]
      rw [if_neg hr]
      exact ⟨_, _, _, rfl, rfl, h⟩
    · rw [e2, e3]
      exact ⟨_, _, _, rfl, rfl, h⟩
  · rw [e1, e2]
    simp only [ob1_some, if_true]
    rw [e3]
    simp only [ob1_some]
    rw [if_pos one_ne]
    obtain ⟨r, σ', μ', f1, f2, sc, sm⟩ := left_loop h ht hi hj FU 0 0 σ μ SameC.rf SameM.rf (by omega) (by rw [FU_eq]; omega)
    exact ⟨r, σ', μ', f1, f2, h.scr sc sm⟩
theorem whom_loop {σ μ : St} {na nt s z i : Nat} (h : Rel σ μ na nt) (ht : Told σ μ s z) (hi : i < na) : ∀ (n k : Nat) (acc : Int32) (σ1 μ1 : St), SameC σ σ1 → SameM μ μ1 → k ≤ na → na - k < n → BothG σ μ (F_Main_whom_29 n σ1 (nI s) (nI i) acc (nI k)) (F_Model_whom_35 n μ1 (nI s) (nI i) acc (nI k)) := by
  intro n
  induction n with
  | zero => intro k acc σ1 μ1 _ _ _ h; omega
  | succ n ih =>
    intro k acc σ1 μ1 sc sm hk hn
    have hr : Rel σ1 μ1 na nt := h.scr sc sm
    have hn6 := hr.1.1
    rw [F_Main_whom_29, F_Model_whom_35, hr.1.2.1, hr.1.2.2.1]
    by_cases c : na ≤ k
    · rw [if_pos (nI_le c (by omega)), if_pos (nI_le c (by omega))]
      exact ⟨_, _, _, rfl, rfl, sc, sm⟩
    · rw [if_neg (nI_ge (Nat.not_le.mp c) (by omega)), if_neg (nI_ge (Nat.not_le.mp c) (by omega))]
      unfold F_Main_whom_77 F_Model_whom_71 F_Model_whom_72
      by_cases ci : k = i
      · subst ci
        rw [if_neg (not_not_intro rfl), if_pos rfl, Int32.or_zero, nI_1]
        exact ih (k + 1) acc σ1 μ1 sc sm (by omega) (by omega)
      · have cn : ¬ nI k = nI i := fun q => ci ((nI_eq (by omega) (by omega)).mp q)
        rw [if_pos cn, if_neg cn]
        have ht1 := ht.same sc (μ' := μ1) (fun p k hp => sm p k (by unfold ScM; omega))
        obtain ⟨σ0, μ0, f1, f2, bb, vc, vm, s1, s2, k1, k2, k3⟩ := hr.begin2 hi (j := k) (by omega) 0
        unfold F_Model_unlikeNow F_Model_unlikeNow_0
        rw [f1, f2]
        simp only [ob1_some]
        rw [if_pos (inB_nI ht.1 (by decide)), nI_clamp (show s < 2 ^ 31 by have := ht.1; omega)]
        obtain ⟨r, σ2, μ2, g1, g2, oc, om⟩ := told_at (ht1.same s1 (fun p k hp => s2 p k (by unfold ScM; omega))) bb vc vm (ok0 k1 k2)
        rw [g1, g2]
        simp only [ob2_some]
        have nx : ∀ acc', BothG σ μ (F_Main_whom_29 n σ2 (nI s) (nI i) acc' (nI k + 1)) (F_Model_whom_35 n μ2 (nI s) (nI i) acc' (nI k + 1)) := by
          intro acc'
          rw [nI_1]
          exact ih (k + 1) acc' σ2 μ2 ((sc.tr s1).tr oc.same) ((sm.tr s2).tr om.same) (by omega) (by omega)
        by_cases d : r = -1
        · rw [if_neg (not_not_intro d), if_neg (not_not_intro d)]
          exact nx _
        · rw [if_pos d, if_pos d, Int32.or_zero]
          exact nx _
theorem op_whom {σ μ : St} {na nt : Nat} (h : Rel σ μ na nt) (v a : Int32) : ∃ r σ' μ', F_Main_whom σ v a = some (r, σ') ∧ F_Model_whom μ v a = some (r, μ') ∧ Rel σ' μ' na nt := by
  unfold F_Main_whom F_Model_whom F_Main_whom_0 F_Model_whom_0 F_Model_whom_18
  have hn6 := h.1.1
  rcases refusal_at h v with ⟨r, hr, e1, e2⟩ | ⟨s, z, rfl, ht, e1, e2⟩
  · rw [e1, e2]
    simp only [ob1_some]
    rw [if_neg hr, if_pos hr, if_neg hr]
    exact ⟨_, _, _, rfl, rfl, h⟩
  · rw [e1, e2]
    simp only [ob1_some, if_true, not_true_eq_false, if_false]
    rcases armC h a with ⟨i, hi, rfl, e3, e4⟩ | ⟨e3, e4, -⟩
    · rw [e3, e4]
      simp only [ob1_some]
      rw [if_pos one_ne, if_pos one_ne]
      obtain ⟨r, σ', μ', f1, f2, sc, sm⟩ := whom_loop h ht hi FU 0 0 σ μ SameC.rf SameM.rf (by omega) (by rw [FU_eq]; omega)
      exact ⟨r, σ', μ', f1, f2, h.scr sc sm⟩
    · rw [e3, e4]
      exact ⟨_, _, _, rfl, rfl, h⟩
