/-! ===== sheets ===== -/
theorem Rel.sheetTo {σ μ σ' μ' : St} {na nt : Nat} (h : Rel σ μ na nt) {s : Nat} (hs : s < 4) (fc : ∀ p j, ¬ (p = 33 + s ∧ (j = 1 ∨ j = 2)) → p ≠ 37 + s → ¬ ScC p → σ'.1 p j = σ.1 p j) (fm : ∀ p j, ¬ ((p = 11 ∨ p = 12) ∧ j = s) → ¬ (p = 13 ∧ 40 * s ≤ j ∧ j < 40 * s + 40) → ¬ ScM p j → μ'.1 p j = μ.1 p j) (e1 : σ'.1 (33 + s) 1 = μ'.1 11 s) (e2 : σ'.1 (33 + s) 2 = μ'.1 12 s) (ex : μ'.1 11 s = -1 ∨ μ'.1 11 s = 0 ∨ μ'.1 11 s = 1 ∨ μ'.1 11 s = 2) (ez : ∃ z : Nat, z ≤ 40 ∧ μ'.1 12 s = nI z) (ec : ∀ i, i < 40 → σ'.1 (37 + s) i = μ'.1 13 (40 * s + i)) : Rel σ' μ' na nt := by
  obtain ⟨hA, hT, hS, hX, hI, hM⟩ := h
  have fc' : ∀ p j, ¬ ScC p → ¬ (33 ≤ p ∧ p ≤ 40) → σ'.1 p j = σ.1 p j := fun p j h1 h2 => fc p j (by omega) (by omega) h1
  have fm' : ∀ p j, ¬ ScM p j → ¬ (11 ≤ p ∧ p ≤ 13) → μ'.1 p j = μ.1 p j := fun p j h1 h2 => fm p j (by omega) (by omega) h1
  refine ⟨hA.congr (fun p j q => fc' p j (by unfold ScC; omega) (by omega)) (fun p j q => fm' p j (by unfold ScM; omega) (by omega)), hT.congr (fun p j q => fc' p j (by unfold ScC; omega) (by omega)) (fun p j q => fm' p j (by unfold ScM; omega) (by omega)), fun t ht => ?_, hX.congr (fun p j q => fc' p j (by unfold ScC; omega) (by omega)) (fun p j q => fm' p j (by unfold ScM; omega) (by omega)), hI.congr (fun p j q => fc' p j (by unfold ScC; omega) (by omega)) (fun p j q => fm' p j (by unfold ScM; omega) (by omega)), hM.congr (fun p j q => fm' p j (by unfold ScM; omega) (by omega))⟩
  by_cases c : t = s
  · subst c
    exact ⟨e1, e2, ex, ez, ec⟩
  · obtain ⟨h1, h2, h3, h4, h5⟩ := hS t ht
    rw [fc _ _ (by omega) (by omega) (by unfold ScC; omega), fc _ 2 (by omega) (by omega) (by unfold ScC; omega), fm 11 t (by omega) (by omega) (by unfold ScM; omega), fm 12 t (by omega) (by omega) (by unfold ScM; omega)]
    refine ⟨h1, h2, h3, h4, fun i hi => ?_⟩
    rw [fc _ _ (by omega) (by omega) (by unfold ScC; omega), fm 13 _ (by omega) (by omega) (by unfold ScM; omega)]
    exact h5 i hi
theorem isSheet_eq (v : Int32) : F_Main_isSheet v = some (F_Main_isWithin v 0 3) := by
  show (if _ then _ else _) = _
  rw [if_pos (iw01 _ _ _)]
theorem become_loop {q : Nat} : ∀ (n i : Nat) (σ : St), i ≤ 40 → 40 - i < n → ∃ τ, F_Sheet_become_18 n σ q (nI i) = some τ ∧ τ.2 = σ.2 ∧ (∀ k, i ≤ k → k < 40 → τ.1 (q + 4) k = 0) ∧ ∀ p k, ¬ (p = q + 4 ∧ i ≤ k ∧ k < 40) → τ.1 p k = σ.1 p k := by
  intro n
  induction n with
  | zero => intro i σ _ h; omega
  | succ n ih =>
    intro i σ hi hn
    rw [F_Sheet_become_18]
    by_cases c : i = 40
    · subst c
      rw [if_pos (by decide)]
      exact ⟨σ, rfl, rfl, fun k h1 h2 => by omega, fun _ _ _ => rfl⟩
    · rw [if_neg (show ¬ (40 : Int32) ≤ nI i from nI_ge (a := i) (b := 40) (by omega) (by decide)), if_pos (inB_nI (by omega) (by decide)), nI_clamp (by omega)]
      simp only [lt]
      obtain ⟨τ, e, t1, t2, t3⟩ := ih (i + 1) (up1 σ (q + 4) i 0) (by omega) (by omega)
      rw [nI_1, e]
      refine ⟨τ, rfl, t1, fun k h1 h2 => ?_, fun p k h => ?_⟩
      · by_cases ki : k = i
        · subst ki
          rw [t3 _ _ (by omega), up1_on]
        · exact t2 k (by omega) h2
      · rw [t3 _ _ (by omega), up1_off (by omega)]
theorem become_C (σ : St) (q : Nat) (x : Int32) {z : Nat} (hz : z ≤ 40) : ∃ τ, F_Sheet_become σ q x (nI z) = some τ ∧ τ.2 = σ.2 ∧ τ.1 q 1 = x ∧ τ.1 q 2 = nI z ∧ (∀ k, k < 40 → τ.1 (q + 4) k = 0) ∧ ∀ p k, ¬ (p = q ∧ (k = 1 ∨ k = 2)) → p ≠ q + 4 → τ.1 p k = σ.1 p k := by
  unfold F_Sheet_become F_Sheet_become_0
  simp only [lt]
  have e : F_Main_bounded (nI z) 0 40 = nI z := by
    unfold F_Main_bounded F_Main_bounded_0
    rw [if_pos (show (0 : Int32) ≤ nI z from nI_pos' (by omega)), if_pos (show nI z ≤ 40 from nI_le (b := 40) hz (by decide))]
  rw [e]
  obtain ⟨τ, e1, t1, t2, t3⟩ := become_loop (q := q) FU 0 (up1 (up1 σ q 1 x) q 2 (nI z)) (by omega) (by rw [FU_eq]; omega)
  refine ⟨τ, e1, t1, ?_, ?_, fun k hk => t2 k (by omega) hk, fun p k h1 h2 => ?_⟩
  · rw [t3 _ _ (by omega), up1_off (by omega), up1_on]
  · rw [t3 _ _ (by omega), up1_on]
  · rw [t3 _ _ (by omega), up1_off (by omega), up1_off (by omega)]
theorem sheet_loopM {s : Nat} (hs : s < 4) : ∀ (n i : Nat) (σ : St), i ≤ 40 → 40 - i < n → ∃ τ, F_Model_sheet_70 n σ (nI s) (nI i) = some (1, τ) ∧ (∀ k, i ≤ k → k < 40 → τ.1 13 (40 * s + k) = 0) ∧ ∀ p k, ¬ (p = 13 ∧ 40 * s + i ≤ k ∧ k < 40 * s + 40) → τ.1 p k = σ.1 p k := by
  intro n
  induction n with
  | zero => intro i σ _ h; omega
  | succ n ih =>
    intro i σ hi hn
    rw [F_Model_sheet_70]
    by_cases c : i = 40
    · subst c
      rw [if_pos (by decide)]
      exact ⟨σ, rfl, fun k h1 h2 => by omega, fun _ _ _ => rfl⟩
    · rw [if_neg (show ¬ (40 : Int32) ≤ nI i from nI_ge (a := i) (b := 40) (by omega) (by decide)), show (40 : Int32) * nI s + nI i = nI (40 * s + i) from by rw [show (40 : Int32) = nI 40 from rfl, pk_mul, nI_add], if_pos (inB_nI (by omega) (by decide)), nI_clamp (by omega)]
      simp only [lt]
      obtain ⟨τ, e, t2, t3⟩ := ih (i + 1) (up1 σ 13 (40 * s + i) 0) (by omega) (by omega)
      rw [nI_1, e]
      refine ⟨τ, rfl, fun k h1 h2 => ?_, fun p k h => ?_⟩
      · by_cases ki : k = i
        · subst ki
          rw [t3 _ _ (by omega), up1_on]
        · exact t2 k (by omega) h2
      · rw [t3 _ _ (by omega), up1_off (by omega)]
theorem iwm1 {x : Int32} (h : ¬ F_Main_isWithin x (-1) 2 = 0) : x = -1 ∨ x = 0 ∨ x = 1 ∨ x = 2 := by
  rw [iw] at h
  by_cases c : (-1 : Int32) ≤ x ∧ x ≤ 2
  · have a1 := Int32.le_iff_toInt_le.mp c.1
    have a2 := Int32.le_iff_toInt_le.mp c.2
    have e1 : (-1 : Int32).toInt = -1 := by decide
    have e2 : (2 : Int32).toInt = 2 := by decide
    have hx : x = Int32.ofInt x.toInt := (Int32.ofInt_toInt x).symm
    have : x.toInt = -1 ∨ x.toInt = 0 ∨ x.toInt = 1 ∨ x.toInt = 2 := by omega
    rcases this with g | g | g | g <;> rw [g] at hx
    · exact Or.inl (hx.trans (by decide))
    · exact Or.inr (Or.inl (hx.trans (by decide)))
    · exact Or.inr (Or.inr (Or.inl (hx.trans (by decide))))
    · exact Or.inr (Or.inr (Or.inr (hx.trans (by decide))))
  · rw [if_neg c] at h; exact absurd rfl h
theorem op_sheet {σ μ : St} {na nt : Nat} (h : Rel σ μ na nt) (v w x : Int32) : ∃ r σ' μ', F_Main_sheet σ v w x = some (r, σ') ∧ F_Model_sheet μ v w x = some (r, μ') ∧ Rel σ' μ' na nt := by
  unfold F_Main_sheet F_Model_sheet F_Main_sheet_0 F_Model_sheet_0
  simp only [in_eq]
  rw [isSheet_eq]
  simp only [ob1_some]
  by_cases c1 : F_Main_isWithin v 0 3 = 0
  · rw [if_pos c1, if_pos c1]; exact ⟨_, _, _, rfl, rfl, h⟩
  rw [if_neg c1, if_neg c1]
  by_cases c2 : F_Main_isWithin w (-1) 2 = 0
  · rw [if_neg (not_not_intro c2), if_pos c2]; exact ⟨_, _, _, rfl, rfl, h⟩
  rw [if_pos c2, if_neg c2]
  obtain ⟨s, hs, rfl⟩ := iw_some (b := 3) (by decide) c1
  have hw := iwm1 c2
  have s4 := inB_nI (k := s) (n := 4) (by omega) (by decide)
  have cl : (nI s).toNatClampNeg = s := nI_clamp (by omega)
  have both : ∀ z : Nat, z ≤ 40 → ∃ τ υ, F_Sheet_become σ (33 + s) w (nI z) = some τ ∧ F_Model_sheet_70 FU (up1 (up1 μ 11 s w) 12 s (nI z)) (nI s) 0 = some (1, υ) ∧ Rel τ υ na nt := by
    intro z hz
    obtain ⟨τ, e1, t1, t2, t3, t4, t5⟩ := become_C σ (33 + s) w hz
    obtain ⟨υ, e2, u1, u2⟩ := sheet_loopM (s := s) (by omega) FU 0 (up1 (up1 μ 11 s w) 12 s (nI z)) (by omega) (by rw [FU_eq]; omega)
    have v1 : υ.1 11 s = w := by rw [u2 _ _ (by omega), up1_off (by omega), up1_on]
    have v2 : υ.1 12 s = nI z := by rw [u2 _ _ (by omega), up1_on]
    refine ⟨τ, υ, e1, e2, h.sheetTo (s := s) (by omega) (fun p j g1 g2 _ => t5 p j g1 (by omega)) (fun p j g1 g2 _ => ?_) (by rw [t2, v1]) (by rw [t3, v2]) (by rw [v1]; exact hw) ⟨z, hz, v2⟩ (fun i hi => ?_)⟩
    · rw [u2 _ _ (by omega), up1_off (by omega), up1_off (by omega)]
    · rw [u1 i (by omega) hi, show 37 + s = 33 + s + 4 by omega, t4 i hi]
  by_cases c3 : w = -1
  · rw [if_neg (not_not_intro c3), if_pos c3, if_pos s4, cl]
    obtain ⟨τ, υ, e1, e2, hr⟩ := both 0 (by omega)
    unfold F_Model_sheet_32 F_Model_sheet_44 F_Model_sheet_66
    rw [if_pos c3, if_pos s4, cl]
    simp only [lt]
    rw [if_neg (not_not_intro c3), if_pos s4]
    rw [c3] at e1 e2 ⊢
    rw [show (0 : Int32) = nI 0 from rfl, e1]
    exact ⟨_, _, _, rfl, e2, hr⟩
  · rw [if_pos c3, if_neg c3]
    by_cases c4 : x ≤ 40
    · rw [if_pos c4, if_pos c4]
      unfold F_Model_sheet_32
      rw [if_neg c3]
      by_cases c5 : 0 ≤ x
      · rw [if_pos c5, if_pos c5, if_pos s4, cl]
        unfold F_Model_sheet_44 F_Model_sheet_66
        rw [if_pos s4, cl]
        simp only [lt]
        rw [if_pos c3, if_pos s4]
        obtain ⟨z, -, hz, rfl⟩ := rng (a := 0) (b := 40) (by decide) (by decide) c5 c4
        obtain ⟨τ, υ, e1, e2, hr⟩ := both z hz
        rw [e1]
        exact ⟨_, _, _, rfl, e2, hr⟩
      · rw [if_neg c5, if_neg c5]; exact ⟨_, _, _, rfl, rfl, h⟩
    · rw [if_neg c4, if_neg c4]; exact ⟨_, _, _, rfl, rfl, h⟩
/-- a sheet that an argument names -/
theorem place_C {σ : St} {q z : Nat} (hz : z ≤ 40) (h : σ.1 q 2 = nI z) (v : Int32) : F_Sheet_hasPlace σ q v = some (F_Main_isWithin v 0 (nI z - 1)) := by
  show (if _ then _ else _) = _
  rw [if_pos (iw01 _ _ _), h]
theorem iw_lt {v : Int32} {z : Nat} (hz : z ≤ 40) (h : ¬ F_Main_isWithin v 0 (nI z - 1) = 0) : ∃ k, k < z ∧ v = nI k := by
  by_cases c : z = 0
  · subst c
    exfalso
    rw [iw] at h
    apply h
    rw [if_neg]
    intro q
    have q1 := Int32.le_iff_toInt_le.mp q.1
    have q2 := Int32.le_iff_toInt_le.mp q.2
    have e3 : (nI 0 - 1).toInt = -1 := by decide
    have e4 : (0 : Int32).toInt = 0 := rfl
    omega
  · rw [show nI z - 1 = nI (z - 1) from by rw [show (1 : Int32) = nI 1 from rfl, pk_sub (by omega)]] at h
    obtain ⟨k, hk, rfl⟩ := iw_some (by omega) h
    exact ⟨k, by omega, rfl⟩
theorem op_cell {σ μ : St} {na nt : Nat} (h : Rel σ μ na nt) (v w x : Int32) : ∃ r σ' μ', F_Main_cell σ v w x = some (r, σ') ∧ F_Model_cell μ v w x = some (r, μ') ∧ Rel σ' μ' na nt := by
  unfold F_Main_cell F_Model_cell F_Main_cell_0 F_Model_cell_0
  simp only [in_eq]
  rw [isSheet_eq]
  simp only [ob1_some]
  by_cases c1 : F_Main_isWithin v 0 3 = 0
  · rw [if_neg (not_not_intro c1), if_neg (not_not_intro c1)]; exact ⟨_, _, _, rfl, rfl, h⟩
  rw [if_pos c1, if_pos c1]
  obtain ⟨s, hs, rfl⟩ := iw_some (b := 3) (by decide) c1
  have s4 := inB_nI (k := s) (n := 4) (by omega) (by decide)
  have cl : (nI s).toNatClampNeg = s := nI_clamp (by omega)
  obtain ⟨h1, h2, h3, ⟨z, hz, h4⟩, h5⟩ := h.2.2.1 s (by omega)
  simp only [s4, if_true, cl]
  rw [h1]
  by_cases c2 : μ.1 11 s = -1
  · rw [if_neg (not_not_intro c2), if_neg (not_not_intro c2)]; exact ⟨_, _, _, rfl, rfl, h⟩
  rw [if_pos c2, if_pos c2, place_C hz (h2.trans h4), h4]
  simp only [ob1_some]
  by_cases c3 : F_Main_isWithin w 0 (nI z - 1) = 0
  · rw [if_neg (not_not_intro c3), if_neg (not_not_intro c3)]; exact ⟨_, _, _, rfl, rfl, h⟩
  rw [if_pos c3, if_pos c3]
  obtain ⟨k, hk, rfl⟩ := iw_lt hz c3
  have k40 := inB_nI (k := k) (n := 40) (by omega) (by decide)
  have kl : (nI k).toNatClampNeg = k := nI_clamp (by omega)
  unfold F_Sheet_put F_Sheet_put_0
  rw [place_C hz (h2.trans h4)]
  simp only [ob1_some]
  rw [if_neg c3, if_pos (show nI k < 40 from nI_lt (b := 40) (by omega) (by decide)), h1]
  simp only [k40, if_true, kl, lt]
  have i1 : (40 : Int32) * nI s + nI k = nI (40 * s + k) := by rw [show (40 : Int32) = nI 40 from rfl, pk_mul, nI_add]
  have fin : ∀ y : Int32, ∃ μ', F_Model_cell_84 μ (40 * nI s + nI k) y = some (1, μ') ∧ Rel (up1 σ (33 + s + 4) k y) μ' na nt := by
    intro y
    unfold F_Model_cell_84
    rw [i1, if_pos (inB_nI (by omega) (by decide)), nI_clamp (by omega)]
    simp only [lt]
    refine ⟨_, rfl, h.sheetTo (s := s) (by omega) (fun p j g1 g2 _ => up1_off (by omega)) (fun p j g1 g2 _ => up1_off (by omega)) (by rw [up1_off (by omega), up1_off (by omega), h1]) (by rw [up1_off (by omega), up1_off (by omega), h2]) (by rw [up1_off (by omega)]; exact h3) ⟨z, hz, by rw [up1_off (by omega)]; exact h4⟩ (fun i hi => ?_)⟩
    by_cases ci : i = k
    · subst ci
      rw [show 37 + s = 33 + s + 4 by omega, up1_on, up1_on]
    · rw [up1_off (by omega), up1_off (by omega)]
      exact h5 i hi
  by_cases d0 : μ.1 11 s = 0
  · rw [if_neg (not_not_intro d0), if_neg (not_not_intro d0)]
    obtain ⟨μ', e, hr⟩ := fin x.toInt8.toInt32
    exact ⟨_, _, _, rfl, e, hr⟩
  · rw [if_pos d0, if_pos d0]
    by_cases d1 : μ.1 11 s = 1
    · rw [if_neg (not_not_intro d1), if_neg (not_not_intro d1)]
      obtain ⟨μ', e, hr⟩ := fin x.toInt16.toInt32
      exact ⟨_, _, _, rfl, e, hr⟩
    · rw [if_pos d1, if_pos d1]
      obtain ⟨μ', e, hr⟩ := fin x
      exact ⟨_, _, _, rfl, e, hr⟩
