/-! ===== copy, armsBy, taken, feed, asks ===== -/
theorem places_iff {σ : St} {q z : Nat} (hz : z ≤ 40) (h : σ.1 q 2 = nI z) (v w : Int32) : ¬ F_Sheet_hasPlaces σ q v w = 0 ↔ ∃ i n : Nat, v = nI i ∧ w = nI n ∧ i + n ≤ z := by
  unfold F_Sheet_hasPlaces F_Sheet_hasPlaces_0
  rw [h]
  constructor
  · intro g
    by_cases c1 : v < 0
    · rw [if_pos c1] at g; exact absurd rfl g
    rw [if_neg c1] at g
    by_cases c2 : F_Main_isWithin w 0 (nI z) = 0
    · rw [if_pos c2] at g; exact absurd rfl g
    rw [if_neg c2] at g
    obtain ⟨n, hn, rfl⟩ := iw_some (by omega) c2
    rw [pk_sub hn] at g
    obtain ⟨i, hi, rfl⟩ := nI_of c1
    by_cases c3 : nI (z - n) < nI i
    · rw [if_pos c3] at g; exact absurd rfl g
    · refine ⟨i, n, rfl, rfl, ?_⟩
      have : ¬ z - n < i := fun q => c3 (nI_lt q hi)
      omega
  · rintro ⟨i, n, rfl, rfl, hin⟩
    rw [if_neg (nI_pos (by omega)), if_neg (by rw [show (0 : Int32) = nI 0 from rfl, iw_nI (Nat.zero_le _) (by omega) (by omega)]; exact one_ne), pk_sub (by omega), if_neg (nI_nlt (by omega) (by omega))]
    exact one_ne
def CpI (σ : St) (a b m k : Nat) (τ : St) : Prop := (∀ p j, p ≠ 13 → τ.1 p j = σ.1 p j) ∧ ∀ j, τ.1 13 j = if (b ≤ a ∧ b ≤ j ∧ j < b + k) ∨ (¬ b ≤ a ∧ b + (m - k) ≤ j ∧ j < b + m) then σ.1 13 (a + (j - b)) else σ.1 13 j
theorem copy_loop {σ : St} {a b m : Nat} (ha : a + m ≤ 160) (hb : b + m ≤ 160) : ∀ (n k : Nat) (τ : St), k ≤ m → m - k < n → CpI σ a b m k τ → ∃ υ, F_Model_copy_147 n τ (nI m) (nI a) (nI b) (nI k) = some (nI m, υ) ∧ CpI σ a b m m υ := by
  intro n
  induction n with
  | zero => intro k τ _ h; omega
  | succ n ih =>
    intro k τ hk hn hI
    rw [F_Model_copy_147]
    by_cases c : k = m
    · subst c
      rw [if_pos (nI_le (Nat.le_refl _) (by omega))]
      exact ⟨τ, rfl, hI⟩
    · rw [if_neg (nI_ge (show k < m by omega) (by omega))]
      obtain ⟨i1, i2⟩ := hI
      unfold F_Model_copy_173
      by_cases d : b ≤ a
      · rw [if_pos (nI_le d (by omega)), nI_add, nI_add, if_pos (inB_nI (by omega) (by decide)), if_pos (inB_nI (by omega) (by decide)), nI_clamp (by omega), nI_clamp (by omega)]
        simp only [lt]
        rw [nI_1]
        refine ih (k + 1) _ (by omega) (by omega) ⟨fun p j hp => (up1_off (by omega)).trans (i1 p j hp), fun j => ?_⟩
        by_cases e : j = b + k
        · subst e
          rw [up1_on, i2 (a + k), if_neg (by omega), if_pos (by omega), show b + k - b = k by omega]
        · rw [up1_off (by omega), i2 j]
          by_cases f : b ≤ j ∧ j < b + k
          · rw [if_pos (by omega), if_pos (by omega)]
          · rw [if_neg (by omega), if_neg (by omega)]
      · rw [if_neg (nI_ge (Nat.not_le.mp d) (by omega)), show nI m - 1 - nI k = nI (m - 1 - k) from by rw [show (1 : Int32) = nI 1 from rfl, pk_sub (by omega), pk_sub (by omega)], nI_add, nI_add, if_pos (inB_nI (by omega) (by decide)), if_pos (inB_nI (by omega) (by decide)), nI_clamp (by omega), nI_clamp (by omega)]
        simp only [lt]
        rw [nI_1]
        refine ih (k + 1) _ (by omega) (by omega) ⟨fun p j hp => (up1_off (by omega)).trans (i1 p j hp), fun j => ?_⟩
        by_cases e : j = b + (m - 1 - k)
        · subst e
          rw [up1_on, i2 (a + (m - 1 - k)), if_neg (by omega), if_pos (by omega), show b + (m - 1 - k) - b = m - 1 - k by omega]
        · rw [up1_off (by omega), i2 j]
          by_cases f : b + (m - k) ≤ j ∧ j < b + m
          · rw [if_pos (by omega), if_pos (by omega)]
          · rw [if_neg (by omega), if_neg (by omega)]
theorem op_copy {σ μ : St} {na nt : Nat} (h : Rel σ μ na nt) (v w x y z : Int32) : ∃ r σ' μ', F_Main_copy σ v w x y z = some (r, σ') ∧ F_Model_copy μ v w x y z = some (r, μ') ∧ Rel σ' μ' na nt := by
  unfold F_Main_copy F_Model_copy F_Main_copy_0 F_Model_copy_0
  simp only [in_eq]
  rw [isSheet_eq, isSheet_eq]
  simp only [ob1_some]
  by_cases c1 : F_Main_isWithin v 0 3 = 0
  · rw [if_pos c1, if_pos c1]; exact ⟨_, _, _, rfl, rfl, h⟩
  rw [if_neg c1, if_neg c1]
  by_cases c2 : F_Main_isWithin x 0 3 = 0
  · rw [if_neg (not_not_intro c2), if_neg (not_not_intro c2)]; exact ⟨_, _, _, rfl, rfl, h⟩
  rw [if_pos c2, if_pos c2]
  obtain ⟨s, hs, rfl⟩ := iw_some (b := 3) (by decide) c1
  obtain ⟨o, ho, rfl⟩ := iw_some (b := 3) (by decide) c2
  have s4 := inB_nI (k := s) (n := 4) (by omega) (by decide)
  have cl : (nI s).toNatClampNeg = s := nI_clamp (by omega)
  have o4 := inB_nI (k := o) (n := 4) (by omega) (by decide)
  have col : (nI o).toNatClampNeg = o := nI_clamp (by omega)
  obtain ⟨h1, h2, h3, ⟨zs, hzs, h4⟩, h5⟩ := h.2.2.1 s (by omega)
  obtain ⟨g1, g2, g3, ⟨zo, hzo, g4⟩, g5⟩ := h.2.2.1 o (by omega)
  simp only [s4, o4, if_true, cl, col]
  rw [h1, g1]
  by_cases c3 : μ.1 11 s = -1
  · rw [if_pos c3, if_pos c3]; exact ⟨_, _, _, rfl, rfl, h⟩
  rw [if_neg c3, if_neg c3]
  by_cases c4 : μ.1 11 o = -1
  · rw [if_neg (not_not_intro c4), if_neg (not_not_intro c4)]; exact ⟨_, _, _, rfl, rfl, h⟩
  rw [if_pos c4, if_pos c4]
  by_cases c5 : μ.1 11 s = μ.1 11 o
  rotate_left
  · rw [if_neg c5, if_neg c5]; exact ⟨_, _, _, rfl, rfl, h⟩
  rw [if_pos c5, if_pos c5, h4, g4]
  have p1 := places_iff hzs (h2.trans h4) w z
  have p2 := places_iff hzo (g2.trans g4) y z
  by_cases good : ∃ i j n : Nat, w = nI i ∧ y = nI j ∧ z = nI n ∧ i + n ≤ zs ∧ j + n ≤ zo
  · obtain ⟨i, j, n, rfl, rfl, rfl, hi, hj⟩ := good
    have ci : (nI i).toNatClampNeg = i := nI_clamp (by omega)
    have cj : (nI j).toNatClampNeg = j := nI_clamp (by omega)
    have cn : (nI n).toNatClampNeg = n := nI_clamp (by omega)
    rw [if_neg (p1.mpr ⟨i, n, rfl, rfl, hi⟩), if_pos (p2.mpr ⟨j, n, rfl, rfl, hj⟩), if_pos (nI_pos (by omega)), if_pos (nI_pos (by omega)), if_pos (nI_pos (by omega)), ci, cj, cn, if_pos (by omega), if_pos (by omega)]
    rw [if_neg (nI_pos (by omega)), if_neg (nI_pos (by omega)), if_neg (nI_pos (by omega)), if_neg (nI_nlt (by omega) (by omega)), if_neg (nI_nlt (by omega) (by omega)), pk_sub (by omega), pk_sub (by omega), if_neg (nI_nlt (by omega) (by omega)), if_pos (nI_le (by omega) (by omega))]
    have e1 : (40 : Int32) * nI s + nI i = nI (40 * s + i) := by rw [show (40 : Int32) = nI 40 from rfl, pk_mul, nI_add]
    have e2 : (40 : Int32) * nI o + nI j = nI (40 * o + j) := by rw [show (40 : Int32) = nI 40 from rfl, pk_mul, nI_add]
    rw [e1, e2]
    obtain ⟨υ, e3, u1, u2⟩ := copy_loop (σ := μ) (a := 40 * s + i) (b := 40 * o + j) (m := n) (by omega) (by omega) FU 0 μ (Nat.zero_le _) (by rw [FU_eq]; omega) ⟨fun _ _ _ => rfl, fun k => by rw [if_neg (by omega)]⟩
    have e3' : F_Model_copy_147 FU μ (nI n) (nI (40 * s + i)) (nI (40 * o + j)) (0 : Int32) = _ := e3
    rw [e3']
    simp only [lt]
    have off : ∀ p k, p ≠ 37 + o → (cpS σ (33 + s + 4) (33 + o + 4) (nI i) (nI j) (nI n)).1 p k = σ.1 p k := by
      intro p k hp
      unfold cpS
      dsimp only
      rw [if_neg (by omega)]
    refine ⟨_, _, _, rfl, rfl, h.sheetTo (s := o) (by omega) (fun p k q1 q2 _ => off p k q2) (fun p k q1 q2 _ => ?_) (by rw [off _ _ (by omega), u1 _ _ (by omega), g1]) (by rw [off _ _ (by omega), u1 _ _ (by omega), g2]) (by rw [u1 _ _ (by omega)]; exact g3) ⟨zo, hzo, by rw [u1 _ _ (by omega)]; exact g4⟩ (fun k hk => ?_)⟩
    · by_cases c : p = 13
      · subst c
        rw [u2 k, if_neg (by omega)]
      · exact u1 p k c
    · rw [u2]
      unfold cpS
      dsimp only
      rw [ci, cj, cn]
      by_cases c : j ≤ k ∧ k < j + n
      · rw [if_pos (by omega), if_pos (by omega), show 33 + s + 4 = 37 + s by omega, h5 _ (by omega), show 40 * o + k - (40 * o + j) = k - j by omega, Nat.add_assoc]
      · rw [if_neg (by omega), if_neg (by omega)]
        exact g5 k hk
  · have eC : ∀ X : Option (Int32 × St), (if F_Sheet_hasPlaces σ (33 + s) w z = 0 then some (-12, σ) else if ¬ F_Sheet_hasPlaces σ (33 + o) y z = 0 then X else some (-12, σ)) = some (-12, σ) := by
      intro X
      by_cases d1 : F_Sheet_hasPlaces σ (33 + s) w z = 0
      · rw [if_pos d1]
      · rw [if_neg d1]
        by_cases d2 : F_Sheet_hasPlaces σ (33 + o) y z = 0
        · rw [if_neg (not_not_intro d2)]
        · exfalso
          obtain ⟨i, n, rfl, rfl, hi⟩ := p1.mp d1
          obtain ⟨j, n', rfl, e, hj⟩ := p2.mp d2
          have : n = n' := (nI_eq (by omega) (by omega)).mp e
          subst this
          exact good ⟨i, j, n, rfl, rfl, rfl, hi, hj⟩
    rw [eC]
    refine ⟨-12, σ, μ, rfl, ?_, h⟩
    by_cases d1 : z < 0
    · rw [if_pos d1]
    rw [if_neg d1]
    by_cases d2 : w < 0
    · rw [if_pos d2]
    rw [if_neg d2]
    by_cases d3 : y < 0
    · rw [if_pos d3]
    rw [if_neg d3]
    obtain ⟨n, hn, rfl⟩ := nI_of d1
    obtain ⟨i, hi, rfl⟩ := nI_of d2
    obtain ⟨j, hj, rfl⟩ := nI_of d3
    by_cases d4 : nI zs < nI i
    · rw [if_pos d4]
    rw [if_neg d4]
    have f4 : i ≤ zs := by
      rcases Nat.lt_or_ge zs i with q | q
      · exact absurd (nI_lt q hi) d4
      · exact q
    by_cases d5 : nI zo < nI j
    · rw [if_pos d5]
    rw [if_neg d5]
    have f5 : j ≤ zo := by
      rcases Nat.lt_or_ge zo j with q | q
      · exact absurd (nI_lt q hj) d5
      · exact q
    rw [pk_sub f4, pk_sub f5]
    by_cases d6 : nI (zs - i) < nI n
    · rw [if_pos d6]
    rw [if_neg d6]
    have f6 : n ≤ zs - i := by
      rcases Nat.lt_or_ge (zs - i) n with q | q
      · exact absurd (nI_lt q hn) d6
      · exact q
    by_cases d7 : nI n ≤ nI (zo - j)
    · exfalso
      have f7 := (nI_leI hn (by omega)).mp d7
      exact good ⟨i, j, n, rfl, rfl, rfl, by omega, by omega⟩
    · rw [if_neg d7]
/-! armsBy -/
theorem at_C {σ : St} {q z k : Nat} (hz : z ≤ 40) (h : σ.1 q 2 = nI z) (hk : k < z) : F_Sheet_at σ q (nI k) = some (σ.1 (q + 4) k) := by
  unfold F_Sheet_at F_Sheet_at_0
  rw [place_C hz h]
  simp only [ob1_some]
  have : F_Main_isWithin (nI k) 0 (nI z - 1) = 1 := by
    rw [show nI z - 1 = nI (z - 1) from by rw [show (1 : Int32) = nI 1 from rfl, pk_sub (by omega)]]
    exact iw_nI (a := 0) (Nat.zero_le _) (by omega) (by omega)
  rw [this, if_neg one_ne, if_neg (show ¬ (40 : Int32) ≤ nI k from nI_ge (a := k) (b := 40) (by omega) (by decide)), if_pos (inB_nI (by omega) (by decide)), nI_clamp (by omega)]
theorem armsBy_loop {s m z : Nat} (hs : s < 4) (hm : m ≤ 6) (hz : z ≤ 40) {v3 : Int32} : ∀ (n k : Nat) (came v7 : Int32) (σ μ : St) (na nt : Nat), Rel σ μ na nt → μ.1 12 s = nI z → k ≤ m → m - k < n → v7 = v3 + 3 * nI k → (k = 0 ∨ ∃ a, v3 = nI a ∧ a + 3 * k ≤ z) → ∃ r σ' μ' na', F_Main_armsBy_71 n σ (nI m) (33 + s) came v7 (nI k) = some (r, σ') ∧ F_Model_armsBy_64 n μ (nI s) v3 (nI m) came (nI k) = some (r, μ') ∧ Rel σ' μ' na' nt := by
  intro n
  induction n with
  | zero => intro k _ _ _ _ _ _ _ _ _ h; omega
  | succ n ih =>
    intro k came v7 σ μ na nt h hzM hk hn h7 ha
    rw [F_Main_armsBy_71, F_Model_armsBy_64]
    by_cases c : k = m
    · subst c
      rw [if_pos (nI_le (Nat.le_refl _) (by omega)), if_pos (nI_le (Nat.le_refl _) (by omega))]
      exact ⟨_, _, _, na, rfl, rfl, h⟩
    · rw [if_neg (nI_ge (show k < m by omega) (by omega)), if_neg (nI_ge (show k < m by omega) (by omega))]
      obtain ⟨h1, h2, h3, -, h5⟩ := h.2.2.1 s hs
      have hzC := h2.trans hzM
      have s4 := inB_nI (k := s) (n := 4) (by omega) (by decide)
      have cl : (nI s).toNatClampNeg = s := nI_clamp (by omega)
      rw [if_pos s4, cl, hzM, ← h7]
      have p := places_iff hz hzC v7 3
      by_cases good : ∃ a : Nat, v3 = nI a ∧ a + 3 * k + 3 ≤ z
      · obtain ⟨a, rfl, haz⟩ := good
        clear ha
        have e7 : v7 = nI (a + 3 * k) := by rw [h7, show (3 : Int32) = nI 3 from rfl, pk_mul, nI_add]
        subst e7
        rw [if_pos (p.mpr ⟨a + 3 * k, 3, rfl, rfl, by omega⟩), if_neg (nI_pos (by omega)), if_neg (nI_nlt (by omega) (by omega)), if_pos (show nI (a + 3 * k) ≤ nI z - 3 from by rw [show (3 : Int32) = nI 3 from rfl, pk_sub (by omega)]; exact nI_le (by omega) (by omega))]
        rw [at_C hz hzC (by omega), nI_1, at_C hz hzC (by omega), show nI (a + 3 * k) + 2 = nI (a + 3 * k + 2) from nI_add _ 2, at_C hz hzC (by omega)]
        simp only [ob1_some, lt]
        rw [show (40 : Int32) * nI s + nI (a + 3 * k) = nI (40 * s + (a + 3 * k)) from by rw [show (40 : Int32) = nI 40 from rfl, pk_mul, nI_add], nI_1, show nI (40 * s + (a + 3 * k)) + 2 = nI (40 * s + (a + 3 * k) + 2) from nI_add _ 2, if_pos (inB_nI (by omega) (by decide)), if_pos (inB_nI (by omega) (by decide)), if_pos (inB_nI (by omega) (by decide)), nI_clamp (by omega), nI_clamp (by omega), nI_clamp (by omega)]
        rw [show 33 + s + 4 = 37 + s by omega, h5 _ (by omega), h5 _ (by omega), h5 _ (by omega), show 40 * s + (a + 3 * k + 1) = 40 * s + (a + 3 * k) + 1 by omega, show 40 * s + (a + 3 * k + 2) = 40 * s + (a + 3 * k) + 2 by omega]
        obtain ⟨r, σ1, μ1, na1, e1, e2, hr, f1, f2⟩ := armComes_op h (μ.1 13 (40 * s + (a + 3 * k))) (μ.1 13 (40 * s + (a + 3 * k) + 1)) (μ.1 13 (40 * s + (a + 3 * k) + 2))
        rw [e1, e2]
        simp only [ob2_some]
        unfold F_Main_armsBy_127 F_Model_armsBy_153
        have q1 : k + 1 ≤ m := by omega
        have q2 : m - (k + 1) < n := by omega
        have q3 : a + 3 * (k + 1) ≤ z := by omega
        have nx : ∀ came' : Int32, ∃ r σ' μ' na', F_Main_armsBy_71 n σ1 (nI m) (33 + s) came' (nI (a + 3 * k) + 3) (nI k + 1) = some (r, σ') ∧ F_Model_armsBy_64 n μ1 (nI s) (nI a) (nI m) came' (nI k + 1) = some (r, μ') ∧ Rel σ' μ' na' nt := by
          intro came'
          rw [nI_1]
          exact ih (k + 1) came' _ σ1 μ1 na1 nt hr ((f2 12 s (by decide)).trans hzM) q1 q2 (by rw [show (3 : Int32) = nI 3 from rfl, pk_mul, nI_add, nI_add]; congr 1) (Or.inr ⟨a, rfl, q3⟩)
        by_cases cr : r < 0
        · rw [if_pos cr, if_pos cr, Int32.add_zero]
          exact nx _
        · rw [if_neg cr, if_neg cr]
          exact nx _
      · refine ⟨-12, σ, μ, na, ?_, ?_, h⟩
        · rw [if_neg]
          intro q
          obtain ⟨i, n', e, e3, hin⟩ := p.mp q
          have : 3 = n' := by
            by_cases big : n' < 2 ^ 31
            · exact (nI_eq (a := 3) (by decide) big).mp e3
            · omega
          subst this
          apply good
          rcases ha with rfl | ⟨a, rfl, ha⟩
          · refine ⟨i, ?_, by omega⟩
            rw [← e, h7]
            show v3 = v3 + 3 * 0
            rw [Int32.mul_zero, Int32.add_zero]
          · refine ⟨a, rfl, ?_⟩
            have : nI (a + 3 * k) = nI i := by
              rw [← e, h7, show (3 : Int32) = nI 3 from rfl, pk_mul, nI_add]
            have := (nI_eq (by omega) (by omega)).mp this
            omega
        · by_cases d1 : v3 < 0
          · rw [if_pos d1]
          rw [if_neg d1]
          obtain ⟨a, ha2, rfl⟩ := nI_of d1
          by_cases d2 : v7 < nI a
          · rw [if_pos d2]
          rw [if_neg d2, if_neg]
          intro q
          apply good
          refine ⟨a, rfl, ?_⟩
          have e7 : v7 = nI (a + 3 * k) := by rw [h7, show (3 : Int32) = nI 3 from rfl, pk_mul, nI_add]
          have hs2 : a + 3 * k < 2 ^ 31 := by
            rcases ha with rfl | ⟨a', e, ha⟩
            · omega
            · have := (nI_eq ha2 (by omega)).mp e
              omega
          rw [e7] at q
          by_cases z3 : 3 ≤ z
          · rw [show (3 : Int32) = nI 3 from rfl, pk_sub z3] at q
            have := (nI_leI hs2 (by omega)).mp q
            omega
          · exfalso
            have q1 := Int32.le_iff_toInt_le.mp q
            rw [nI_toInt hs2] at q1
            have : (nI z - 3).toInt = (z : Int) - 3 := pk_sub_toInt (b := 3) (by omega) (by decide)
            omega
theorem op_armsBy {σ μ : St} {na nt : Nat} (h : Rel σ μ na nt) (v w x y : Int32) : ∃ r σ' μ' na', F_Main_armsBy σ v w x y = some (r, σ') ∧ F_Model_armsBy μ v w x y = some (r, μ') ∧ Rel σ' μ' na' nt := by
  unfold F_Main_armsBy F_Model_armsBy F_Main_armsBy_0 F_Model_armsBy_0
  simp only [in_eq]
  rw [isSheet_eq]
  simp only [ob1_some]
  by_cases c1 : F_Main_isWithin v 0 3 = 0
  · rw [if_pos c1, if_pos c1]; exact ⟨_, _, _, na, rfl, rfl, h⟩
  rw [if_neg c1, if_neg c1]
  by_cases c2 : F_Main_isWithin w 0 2 = 0
  · rw [if_pos c2, if_pos c2]; exact ⟨_, _, _, na, rfl, rfl, h⟩
  rw [if_neg c2, if_neg c2]
  by_cases c3 : F_Main_isWithin y 0 6 = 0
  · rw [if_neg (not_not_intro c3), if_neg (not_not_intro c3)]; exact ⟨_, _, _, na, rfl, rfl, h⟩
  rw [if_pos c3, if_pos c3]
  obtain ⟨s, hs, rfl⟩ := iw_some (b := 3) (by decide) c1
  obtain ⟨m, hm, rfl⟩ := iw_some (b := 6) (by decide) c3
  have s4 := inB_nI (k := s) (n := 4) (by omega) (by decide)
  have cl : (nI s).toNatClampNeg = s := nI_clamp (by omega)
  obtain ⟨h1, h2, h3, ⟨z, hz, h4⟩, h5⟩ := h.2.2.1 s (by omega)
  simp only [s4, if_true, cl]
  rw [h1]
  by_cases c4 : μ.1 11 s = -1
  · rw [if_neg (not_not_intro c4), if_neg (not_not_intro c4)]; exact ⟨_, _, _, na, rfl, rfl, h⟩
  rw [if_pos c4, if_pos c4]
  by_cases c5 : μ.1 11 s = w
  rotate_left
  · rw [if_neg c5, if_neg c5]; exact ⟨_, _, _, na, rfl, rfl, h⟩
  rw [if_pos c5, if_pos c5]
  exact armsBy_loop (s := s) (m := m) (z := z) (by omega) hm hz FU 0 0 x σ μ na nt h h4 (Nat.zero_le _) (by rw [FU_eq]; omega) (by rw [show nI 0 = (0 : Int32) from rfl, Int32.mul_zero, Int32.add_zero]) (Or.inl rfl)
/-! taken -/
theorem isUnder_tab : ∀ k, k < 6 → ∀ w, w < 6 → F_Model_isUnder (nI k) (nI w) = (if isUn k w then 1 else 0) := by decide +kernel
theorem op_taken {σ μ : St} {na nt : Nat} (h : Rel σ μ na nt) (v w : Int32) : ∃ r, F_Main_taken σ v w = some r ∧ F_Model_taken μ v w = some r := by
  unfold F_Main_taken F_Model_taken F_Main_taken_0 F_Model_taken_0
  simp only [in_eq]
  by_cases c1 : F_Main_isWithin w 0 6 = 0
  · rw [if_neg (not_not_intro c1), if_neg (not_not_intro c1)]; exact ⟨_, rfl, rfl⟩
  rw [if_pos c1, if_pos c1]
  by_cases c2 : F_Main_isWithin v 0 11 = 0
  · rw [if_neg (not_not_intro c2), if_neg (not_not_intro c2)]; exact ⟨_, rfl, rfl⟩
  rw [if_pos c2, if_pos c2]
  obtain ⟨k, hk, rfl⟩ := iw_some (b := 6) (by decide) c1
  obtain ⟨i, hi, rfl⟩ := iw_some (b := 11) (by decide) c2
  have hA := h.1
  have hn6 := hA.1
  rw [show jrem (nI i) 6 = nI (i % 6) from pk_rem (d := 6) (by omega) (by decide) (by decide), hA.2.2.1]
  have k6 : nI k = 6 ↔ k = 6 := nI_eq (b := 6) (by omega) (by decide)
  have key : ∀ j t : Nat, j < 6 → ∃ r, F_Main_taken_42 σ (nI k) (nI j) (nI t) = some r ∧ ((j < na ∧ ((t = 0 ∧ r = (if k = 6 then -13 else if (∃ kd, kd < 6 ∧ μ.1 1 j = nI kd ∧ isUn kd k = true) then nI j else -13)) ∨ (t ≠ 0 ∧ t < 2 ∧ r = (if μ.1 4 j = 0 then -11 else if k = 6 then μ.1 4 j else -13)) ∨ 2 ≤ t)) ∨ (na ≤ j ∧ r = -11)) := by
    intro j t hj
    unfold F_Main_taken_42
    rcases armC h (nI j) with ⟨j', hj', e, e1, e2⟩ | ⟨e1, e2, e3⟩
    · have : j = j' := (nI_eq (by omega) (by omega)).mp e
      subst this
      rw [e1]
      simp only [ob1_some]
      rw [if_neg one_ne]
      obtain ⟨b0, b1, b2, b3, b4, -⟩ := hA.2.2.2.2 j hj
      obtain ⟨kd, td, md, hkd, -, -, a0, -⟩ := hA.2.2.2.1 j hj'
      have j6 := inB_nI (k := j) (n := 6) hj (by decide)
      have cl : (nI j).toNatClampNeg = j := nI_clamp (by omega)
      unfold F_Main_taken_72
      simp only [j6, cl, if_true]
      rcases Nat.lt_or_ge t 2 with ht | ht
      · match t, ht with
        | 0, _ =>
          rw [if_pos (show nI 0 = 0 from rfl), if_pos (show nI 0 = 0 from rfl)]
          by_cases d : k = 6
          · rw [if_pos (k6.mpr d)]
            exact ⟨_, rfl, Or.inl ⟨hj', Or.inl ⟨rfl, by rw [if_pos d]⟩⟩⟩
          · rw [if_neg (fun q => d (k6.mp q)), isOf_at (k := kd) (w := k) rfl hkd (by omega) a0]
            simp only [ob1_some]
            cases u : isUn kd k with
            | true =>
              rw [if_neg (show ¬ (if (true = true) then (1 : Int32) else 0) = 0 by decide)]
              exact ⟨_, rfl, Or.inl ⟨hj', Or.inl ⟨trivial, by rw [if_neg d, if_pos ⟨kd, hkd, b0.symm.trans a0, u⟩]⟩⟩⟩
            | false =>
              rw [if_pos (show (if (false = true) then (1 : Int32) else 0) = 0 by decide)]
              refine ⟨_, rfl, Or.inl ⟨hj', Or.inl ⟨trivial, ?_⟩⟩⟩
              rw [if_neg d, if_neg]
              rintro ⟨kd', hk', e', u'⟩
              have : kd = kd' := (nI_eq (by omega) (by omega)).mp (a0.symm.trans (b0.trans e'))
              subst this
              rw [u] at u'; cases u'
        | 1, _ =>
          rw [if_neg (show ¬ nI 1 = 0 by decide), if_neg (show ¬ nI 1 = 0 by decide), b3]
          by_cases d : μ.1 4 j = 0
          · rw [if_neg (not_not_intro d)]
            exact ⟨_, rfl, Or.inl ⟨hj', Or.inr (Or.inl ⟨by decide, by decide, by rw [if_pos d]⟩)⟩⟩
          · rw [if_pos d]
            by_cases d2 : k = 6
            · rw [if_neg (not_not_intro (k6.mpr d2))]
              exact ⟨_, rfl, Or.inl ⟨hj', Or.inr (Or.inl ⟨by decide, by decide, by rw [if_neg d, if_pos d2]⟩)⟩⟩
            · rw [if_pos (fun q => d2 (k6.mp q))]
              exact ⟨_, rfl, Or.inl ⟨hj', Or.inr (Or.inl ⟨by decide, by decide, by rw [if_neg d, if_neg d2]⟩)⟩⟩
        | t + 2, ht => omega
      · have := isOf_at (σ := σ) (q := 27 + j) (k := kd) (w := 0) (x := 0) rfl hkd (by decide) a0
        by_cases t0 : nI t = 0
        · rw [if_pos t0, if_pos t0]
          by_cases d : k = 6
          · rw [if_pos (k6.mpr d)]
            exact ⟨_, rfl, Or.inl ⟨hj', Or.inr (Or.inr ht)⟩⟩
          · rw [if_neg (fun q => d (k6.mp q)), isOf_at (k := kd) (w := k) rfl hkd (by omega) a0]
            simp only [ob1_some]
            split <;> exact ⟨_, rfl, Or.inl ⟨hj', Or.inr (Or.inr ht)⟩⟩
        · rw [if_neg t0, if_neg t0]
          repeat' split
          all_goals exact ⟨_, rfl, Or.inl ⟨hj', Or.inr (Or.inr ht)⟩⟩
    · rw [e1]
      refine ⟨-11, rfl, Or.inr ⟨?_, rfl⟩⟩
      rcases Nat.lt_or_ge j na with q | q
      · exact absurd rfl (e3 j q)
      · exact q
  by_cases c : i < 6
  · rw [if_pos (show nI i < 6 from nI_lt (b := 6) c (by decide)), if_neg (show ¬ (6 : Int32) ≤ nI i from nI_ge (a := i) (b := 6) c (by decide)), Nat.mod_eq_of_lt c]
    obtain ⟨r, e, q⟩ := key i 0 c
    have e' : F_Main_taken_42 σ (nI k) (nI i) (0 : Int32) = _ := e
    rw [e']
    refine ⟨r, rfl, ?_⟩
    rcases q with ⟨q1, q2⟩ | ⟨q1, q2⟩
    · rw [if_pos (nI_lt q1 (by omega))]
      rcases q2 with ⟨-, q2⟩ | ⟨q2, -⟩ | q2
      · by_cases d : k = 6
        · rw [if_pos d] at q2
          subst d
          rw [if_pos (by decide), q2]
        · rw [if_neg d] at q2
          rw [if_neg (show ¬ (6 : Int32) ≤ nI k from nI_ge (a := k) (b := 6) (by omega) (by decide)), if_pos (inB_nI (by omega) (by decide)), nI_clamp (by omega)]
          obtain ⟨kd, td, md, hkd, -, -, a0, -⟩ := hA.2.2.2.1 i q1
          obtain ⟨b0, -⟩ := hA.2.2.2.2 i (by omega)
          have bk : μ.1 1 i = nI kd := b0.symm.trans a0
          rw [bk, isUnder_tab kd hkd k (by omega)]
          cases u : isUn kd k with
          | true =>
            rw [if_pos ⟨kd, hkd, bk, u⟩] at q2
            rw [if_neg (show ¬ (if (true = true) then (1 : Int32) else 0) = 0 by decide), q2]
          | false =>
            rw [if_neg] at q2
            · rw [if_pos (show (if (false = true) then (1 : Int32) else 0) = 0 by decide), q2]
            · rintro ⟨kd', hk', e', u'⟩
              have : kd = kd' := (nI_eq (by omega) (by omega)).mp (bk.symm.trans e')
              subst this
              rw [u] at u'; cases u'
      · exact absurd rfl q2
      · omega
    · rw [if_neg (nI_nlt q1 (by omega)), q2]
  · rw [if_neg (show ¬ nI i < 6 from nI_nlt (a := i) (b := 6) (by omega) (by omega)), if_pos (show (6 : Int32) ≤ nI i from nI_le (a := 6) (by omega) (by omega)), show i % 6 = i - 6 by omega, show nI i - 6 = nI (i - 6) from pk_sub (b := 6) (by omega)]
    obtain ⟨r, e, q⟩ := key (i - 6) 1 (by omega)
    have e' : F_Main_taken_42 σ (nI k) (nI (i - 6)) (1 : Int32) = _ := e
    rw [e']
    refine ⟨r, rfl, ?_⟩
    unfold F_Model_taken_95
    rcases q with ⟨q1, q2⟩ | ⟨q1, q2⟩
    · rw [if_neg (nI_ge q1 (by omega)), if_pos (inB_nI (by omega) (by decide)), nI_clamp (by omega)]
      rcases q2 with ⟨q2, -⟩ | ⟨-, -, q2⟩ | q2
      · omega
      · by_cases d : μ.1 4 (i - 6) = 0
        · rw [if_neg (not_not_intro d)]
          rw [if_pos d] at q2
          rw [q2]
        · rw [if_pos d]
          rw [if_neg d] at q2
          by_cases d2 : k = 6
          · rw [if_neg (not_not_intro (k6.mpr d2)), q2, if_pos d2]
          · rw [if_pos (fun q => d2 (k6.mp q)), q2, if_neg d2]
      · omega
    · rw [if_pos (nI_le q1 (by omega)), q2]
      rfl
