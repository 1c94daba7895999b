/-! ===== laws, film ===== -/
def SameL (μ τ : St) : Prop := ∀ p j, ¬ ScM p j → ¬ (p = 0 ∧ j = 11) → τ.1 p j = μ.1 p j
theorem laws_loop {σ μ : St} {na nt s z i j : Nat} (h : Rel σ μ na nt) (ht : Told σ μ s z) (hi : i < na) (hj : j < na) (was : Int32) : ∀ (n t : Nat) (acc : Int32) (σ1 μ1 : St), SameC σ σ1 → SameL μ μ1 → t ≤ nt → nt - t < n → ∃ r σ' μ', F_Main_laws_33 n σ1 (nI s) (nI i) (nI j) acc (nI t) = some (r, σ') ∧ F_Model_laws_29 n μ1 (nI s) (nI i) (nI j) was acc (nI t) = some (r, μ') ∧ SameC σ σ' ∧ SameL μ μ' ∧ μ'.1 0 11 = was := by
  intro n
  induction n with
  | zero => intro t acc σ1 μ1 _ _ _ h; omega
  | succ n ih =>
    intro t acc σ1 μ1 sc sl htn hn
    have hn6 := h.1.1
    have hx := h.2.2.2.1
    have ht6 := hx.1
    have hs4 := ht.1
    obtain ⟨m1, m2, -⟩ := h.2.2.2.2.2
    have hr : Rel σ1 μ na nt := h.scr sc SameM.rf
    rw [F_Main_laws_33, F_Model_laws_29, sc 20 3 (by unfold ScC; omega), sl 0 10 (by unfold ScM; omega) (by omega), hx.2.1, hx.2.2.1]
    by_cases c : nt ≤ t
    · rw [if_pos (nI_le c (by omega)), if_pos (nI_le c (by omega))]
      simp only [lt]
      exact ⟨_, _, _, rfl, rfl, sc, fun p j h1 h2 => (up1_off h2).trans (sl p j h1 h2), up1_on⟩
    · rw [if_neg (nI_ge (by omega) (by omega)), if_neg (nI_ge (by omega) (by omega))]
      obtain ⟨σ0, lw, l0, l1, l2, e0, s0, ⟨c1, c2, c3⟩, vc, ⟨a1, a2, a3, a4⟩, ⟨b1, b2, b3, b4⟩, k1, k2⟩ := hr.open1 hi hj
      rw [e0]
      simp only [ob1_some, lt]
      rw [if_pos (inB_nI (by omega) (by decide)), nI_clamp (show t < 2 ^ 31 by omega), if_pos (inB_nI hs4 (by decide)), nI_clamp (show s < 2 ^ 31 by omega)]
      obtain ⟨ν, n1, n2, w⟩ := begins1 (ν := up1 μ1 0 11 (nI t)) (i := i) (j := j) (by omega) (by omega) 0
      unfold F_Model_unlikeNow F_Model_unlikeNow_0
      rw [n1]
      simp only [ob1_some]
      have nM : ∀ p k, ¬ ScM p k → ¬ (p = 0 ∧ k = 11) → ν.1 p k = μ.1 p k := fun p k g1 g2 => (n2 p k (by unfold ScM at g1; omega) (by unfold ScM at g1; omega) (by unfold ScM at g1; omega)).trans ((up1_off g2).trans (sl p k g1 g2))
      have CC := hr.ctxC (t := t) (by omega) hi hj (σ1 := up2 σ0 41 2 (8 + t)) (x := 0) (y := 0) (by rw [up2_at, if_neg (by omega)]; exact c1) (by rw [up2_at, if_neg (by omega)]; exact c2) (by rw [up2_at, if_pos ⟨rfl, rfl⟩]) (fun p k hp => s0 p k hp) a1 (by rw [Int32.add_zero]; exact a2) a3 a4 b1 (by rw [Int32.add_zero]; exact b2) b3 b4
      have CM := hr.ctxM (t := t) (by omega) hi hj (ν := ν) (x := 0) (y := 0) (fun p k g1 g2 => nM p k g1 (by omega)) ((n2 _ _ (by omega) (by omega) (by omega)).trans up1_on) ((nM 0 37 (by unfold ScM; omega) (by omega)).trans m1) ((nM 0 38 (by unfold ScM; omega) (by omega)).trans m2)
      have q1 : (up1 μ1 0 11 (nI t)).1 4 i = σ1.1 (27 + i) 4 := (up1_off (by omega)).trans ((sl 4 i (by unfold ScM; omega) (by omega)).trans (hr.1.2.2.2.2 i (by omega)).2.2.2.1.symm)
      have q2 : (up1 μ1 0 11 (nI t)).1 4 j = σ1.1 (27 + j) 4 := (up1_off (by omega)).trans ((sl 4 j (by unfold ScM; omega) (by omega)).trans (hr.1.2.2.2.2 j (by omega)).2.2.2.1.symm)
      rw [q1, q2] at w
      have sc2 : SameC σ (up2 σ0 41 2 (8 + t)) := fun p k hp => sc.tr s0 p k hp
      obtain ⟨r, σ2, μ2, g1, g2, oc, om⟩ := told_at (σ := up2 σ0 41 2 (8 + t)) (μ := ν) (ht.same sc2 (fun p k hp => nM p k (by unfold ScM; omega) (by omega))) ⟨8 + t, t, _, _, _, CC, CM⟩ vc w (ok0 k1 k2)
      rw [g1, g2]
      simp only [ob2_some]
      unfold F_Main_laws_85 F_Model_laws_65
      have nx : ∀ acc', ∃ r σ' μ', F_Main_laws_33 n σ2 (nI s) (nI i) (nI j) acc' (nI t + 1) = some (r, σ') ∧ F_Model_laws_29 n μ2 (nI s) (nI i) (nI j) was acc' (nI t + 1) = some (r, μ') ∧ SameC σ σ' ∧ SameL μ μ' ∧ μ'.1 0 11 = was := by
        intro acc'
        rw [nI_1]
        exact ih (t + 1) acc' σ2 μ2 (sc2.tr oc.same) (fun p k g1 g2 => (om p k (by unfold ScM at g1; omega) (by unfold ScM at g1; omega) (by unfold ScM at g1; omega)).trans (nM p k g1 g2)) (by omega) (by omega)
      by_cases d : r = -1
      · rw [if_neg (not_not_intro d), if_neg (not_not_intro d)]
        exact nx _
      · rw [if_pos d, if_pos d, Int32.or_zero]
        exact nx _
theorem op_laws {σ μ : St} {na nt : Nat} (h : Rel σ μ na nt) (v a b : Int32) : ∃ r σ' μ', F_Main_laws σ v a b = some (r, σ') ∧ F_Model_laws μ v a b = some (r, μ') ∧ Rel σ' μ' na nt := by
  unfold F_Main_laws F_Model_laws F_Main_laws_0 F_Model_laws_0
  rcases refusal2 h v a b with ⟨r, hr, e1, e2⟩ | ⟨s, z, i, j, rfl, ht, e2, e1, hi, hj, rfl, rfl, e3⟩
  · rw [e1]
    simp only [ob1_some]
    rw [if_neg hr]
    rcases e2 with e2 | ⟨e2, rfl, e3⟩
    · rw [e2]
      simp only [ob1_some]
      rw [if_neg hr]
      exact ⟨_, _, _, rfl, rfl, h⟩
    · rw [e2]
      simp only [ob1_some, if_true]
      rw [e3]
      exact ⟨_, _, _, rfl, rfl, h⟩
  · rw [e1, e2]
    simp only [ob1_some, if_true]
    rw [e3]
    simp only [ob1_some]
    rw [if_pos one_ne]
    have ht6 := h.2.2.2.1.1
    obtain ⟨r, σ', μ', f1, f2, sc, sl, e⟩ := laws_loop h ht hi hj (μ.1 0 11) FU 0 0 σ μ SameC.rf (fun _ _ _ _ => rfl) (by omega) (by rw [FU_eq]; omega)
    refine ⟨r, σ', μ', f1, f2, h.scr sc (fun p k g => ?_)⟩
    by_cases c : p = 0 ∧ k = 11
    · rw [c.1, c.2]; exact e
    · exact sl p k g c
/-- a told row is filmed -/
theorem put_C {σ : St} {q z k : Nat} (hz : z ≤ 40) (hk : k < z) (h2 : σ.1 q 2 = nI z) (h1 : σ.1 q 1 = 2) (x : Int32) : F_Sheet_put σ q (nI k) x = some (up1 σ (q + 4) k x) := by
  unfold F_Sheet_put F_Sheet_put_0
  rw [place_C hz h2]
  simp only [ob1_some]
  have e : F_Main_isWithin (nI k) 0 (nI z - 1) = 1 := by
    rw [show nI z - 1 = nI (z - 1) from by rw [show (1 : Int32) = nI 1 from rfl, pk_sub (by omega)]]
    exact iw_nI (a := 0) (Nat.zero_le _) (by omega) (by omega)
  rw [e, if_neg one_ne, if_pos (show nI k < 40 from nI_lt (b := 40) (by omega) (by decide)), h1, if_pos (by decide), if_pos (by decide), if_pos (inB_nI (by omega) (by decide)), nI_clamp (by omega)]
  rfl
def FilmI (σ μ σ1 μ1 : St) (s i j n k : Nat) : Prop := (∀ p c, ¬ (p = 33 + s ∧ (c = 1 ∨ c = 2)) → p ≠ 37 + s → ¬ ScC p → σ1.1 p c = σ.1 p c) ∧ (∀ p c, ¬ ((p = 11 ∨ p = 12) ∧ c = s) → ¬ (p = 13 ∧ 40 * s ≤ c ∧ c < 40 * s + 40) → ¬ ScM p c → μ1.1 p c = μ.1 p c) ∧ Bc σ1 μ1 i j ∧ (∃ v t, VwC σ1.1 v t false ∧ VwM μ1.1 v t ∧ VOk v ∧ t ≤ 40) ∧ (σ1.1 (33 + s) 1 = 2 ∧ σ1.1 (33 + s) 2 = nI n) ∧ (μ1.1 11 s = 2 ∧ μ1.1 12 s = nI n) ∧ (∀ c, c < k → σ1.1 (37 + s) c = μ1.1 13 (40 * s + c)) ∧ ∀ c, k ≤ c → c < 40 → σ1.1 (37 + s) c = 0
theorem film_tail {s n : Nat} (hs : s < 4) {v2 : Int32} : ∀ (m k : Nat) (μ : St), n ≤ k → k ≤ 40 → 40 - k < m → ∃ τ, F_Model_film_66 m μ (nI s) v2 (nI n) (nI k) = some (nI n, τ) ∧ (∀ c, k ≤ c → c < 40 → τ.1 13 (40 * s + c) = 0) ∧ ∀ p c, ¬ (p = 13 ∧ 40 * s + k ≤ c ∧ c < 40 * s + 40) → τ.1 p c = μ.1 p c := by
  intro m
  induction m with
  | zero => intro k μ _ _ h; omega
  | succ m ih =>
    intro k μ h1 h2 h3
    rw [F_Model_film_66]
    by_cases c : k = 40
    · subst c
      rw [if_pos (by decide)]
      exact ⟨μ, rfl, fun c g1 g2 => by omega, fun _ _ _ => rfl⟩
    · rw [if_neg (show ¬ (40 : Int32) ≤ nI k from nI_ge (a := k) (b := 40) (by omega) (by decide)), if_pos (nI_le h1 (by omega))]
      unfold F_Model_film_97 F_Model_film_122
      rw [if_pos (nI_le h1 (by omega)), show (40 : Int32) * nI s + nI k = nI (40 * s + k) from by rw [show (40 : Int32) = nI 40 from rfl, pk_mul, nI_add], if_pos (inB_nI (by omega) (by decide)), nI_clamp (by omega)]
      simp only [lt]
      rw [nI_1]
      obtain ⟨τ, e, t2, t3⟩ := ih (k + 1) (up1 μ 13 (40 * s + k) 0) (by omega) (by omega) (by omega)
      rw [e]
      refine ⟨τ, rfl, fun c g1 g2 => ?_, fun p c g => ?_⟩
      · by_cases ck : c = k
        · subst ck
          rw [t3 _ _ (by omega), up1_on]
        · exact t2 c (by omega) g2
      · rw [t3 _ _ (by omega), up1_off (by omega)]
theorem film_loop {σ μ : St} {s i j n : Nat} (hs : s < 4) (hn : n ≤ 8) {w : Int32} (e1 : w / 10 = nI i) (e2 : jrem w 10 = nI j) : ∀ (m k : Nat) (σ1 μ1 : St), FilmI σ μ σ1 μ1 s i j n k → k ≤ n → 40 - k < m → ∃ σ' μ', F_Main_film_60 m σ1 (nI s) (nI n) (nI k) = some (nI n, σ') ∧ F_Model_film_66 m μ1 (nI s) w (nI n) (nI k) = some (nI n, μ') ∧ FilmI σ μ σ' μ' s i j n 40 := by
  intro m
  induction m with
  | zero => intro k σ1 μ1 _ _ h; omega
  | succ m ih =>
    intro k σ1 μ1 hI hk hm
    by_cases c : n ≤ k
    · obtain ⟨h1, h2, h3, ⟨v, t, v1, v2, v3, v4⟩, h5, h6, h7, h8⟩ := hI
      obtain ⟨τ, f1, f2, f3⟩ := film_tail (n := n) hs (v2 := w) (m + 1) k μ1 c (by omega) hm
      rw [f1, F_Main_film_60, if_pos (nI_le c (by omega))]
      obtain ⟨q, lw, L, A, B, CC, CM⟩ := h3
      refine ⟨σ1, τ, rfl, rfl, h1, fun p c' g1 g2 g3 => (f3 p c' (by omega)).trans (h2 p c' g1 g2 g3), ⟨q, lw, L, A, B, CC, CM.fr (fun p c' g => f3 p c' (by omega))⟩, ⟨v, t, v1, ?_, v3, v4⟩, h5, ⟨(f3 _ _ (by omega)).trans h6.1, (f3 _ _ (by omega)).trans h6.2⟩, fun c' hc' => ?_, fun c' g1 g2 => by omega⟩
      · obtain ⟨w1, w2, w3, w4, w5⟩ := v2
        exact ⟨(f3 _ _ (by omega)).trans w1, (f3 _ _ (by omega)).trans w2, (f3 _ _ (by omega)).trans w3, (f3 _ _ (by omega)).trans w4, (f3 _ _ (by omega)).trans w5⟩
      · by_cases d : c' < k
        · rw [f3 _ _ (by omega)]
          exact h7 c' d
        · rw [f2 c' (by omega) hc', h8 c' (by omega) hc']
    · obtain ⟨h1, h2, h3, ⟨v, t, v1, v2, v3, v4⟩, h5, h6, h7, h8⟩ := hI
      rw [F_Main_film_60, F_Model_film_66, if_neg (nI_ge (by omega) (by omega)), if_neg (show ¬ (40 : Int32) ≤ nI k from nI_ge (a := k) (b := 40) (by omega) (by decide)), if_neg (nI_ge (by omega) (by omega)), e1, e2]
      have x5 : (5 : Int32) * (nI k + 1) = nI (5 * (k + 1)) := by rw [nI_1, show (5 : Int32) = nI 5 from rfl, pk_mul]
      have x6 : (5 : Int32) * nI k + 5 = nI (5 * (k + 1)) := by rw [show (5 : Int32) = nI 5 from rfl, pk_mul, nI_add]; congr 1
      obtain ⟨τ, υ, v', t', g1, g2, b', wc, wm, ok', t40', oc, om⟩ := h3.play v1 v2 v3 v4 (e := 5 * (k + 1)) (by omega) rfl
      rw [x5, x6, g1, g2]
      simp only [ob1_some]
      have sC := oc.same
      have sM := om.same
      rw [if_pos (inB_nI hs (by decide)), nI_clamp (show s < 2 ^ 31 by omega), put_C (z := n) (by omega) (by omega) ((sC (33 + s) 2 (by unfold ScC; omega)).trans h5.2) ((sC (33 + s) 1 (by unfold ScC; omega)).trans h5.1)]
      simp only [ob1_some]
      unfold F_Model_film_97 F_Model_film_122
      rw [if_neg (nI_ge (by omega) (by omega)), show (40 : Int32) * nI s + nI k = nI (40 * s + k) from by rw [show (40 : Int32) = nI 40 from rfl, pk_mul, nI_add], if_pos (inB_nI (by omega) (by decide)), nI_clamp (by omega)]
      simp only [lt]
      rw [nI_1, wc.1, wm.1]
      obtain ⟨q, lw, L, A, B, CC, CM⟩ := b'
      refine ih (k + 1) _ _ ⟨fun p c' g1 g2 g3 => ?_, fun p c' g1 g2 g3 => ?_, ⟨q, lw, L, A, B, CC.fr rfl (fun p c' g => up1_off (by omega)), CM.fr (fun p c' g => up1_off (by omega))⟩, ⟨v', t', ?_, ?_, ok', t40'⟩, ⟨?_, ?_⟩, ⟨?_, ?_⟩, fun c' hc' => ?_, fun c' g1 g2 => ?_⟩ (by omega) (by omega)
      · rw [up1_off (by omega), sC p c' g3]; exact h1 p c' g1 g2 g3
      · rw [up1_off (by omega), sM p c' g3]; exact h2 p c' g1 g2 g3
      · obtain ⟨w1, w2, w3, w4, w5, w6⟩ := wc
        exact ⟨(up1_off (by omega)).trans w1, (up1_off (by omega)).trans w2, (up1_off (by omega)).trans w3, (fun q => by cases q), (up1_off (by omega)).trans w5, (up1_off (by omega)).trans w6⟩
      · obtain ⟨w1, w2, w3, w4, w5⟩ := wm
        exact ⟨(up1_off (by omega)).trans w1, (up1_off (by omega)).trans w2, (up1_off (by omega)).trans w3, (up1_off (by omega)).trans w4, (up1_off (by omega)).trans w5⟩
      · rw [up1_off (by omega), sC _ _ (by unfold ScC; omega)]; exact h5.1
      · rw [up1_off (by omega), sC _ _ (by unfold ScC; omega)]; exact h5.2
      · rw [up1_off (by omega), sM _ _ (by unfold ScM; omega)]; exact h6.1
      · rw [up1_off (by omega), sM _ _ (by unfold ScM; omega)]; exact h6.2
      · rw [show 37 + s = 33 + s + 4 by omega]
        by_cases d : c' = k
        · subst d
          rw [up1_on, up1_on]
        · rw [up1_off (by omega), up1_off (by omega), sC _ _ (by unfold ScC; omega), sM _ _ (by unfold ScM; omega), show 33 + s + 4 = 37 + s by omega]
          exact h7 c' (by omega)
      · rw [up1_off (by omega), sC _ _ (by unfold ScC; omega)]
        exact h8 c' (by omega) g2
theorem op_film {σ μ : St} {na nt : Nat} (h : Rel σ μ na nt) (v w x : Int32) : ∃ r σ' μ', F_Main_film σ v w x = some (r, σ') ∧ F_Model_film μ v w x = some (r, μ') ∧ Rel σ' μ' na nt := by
  unfold F_Main_film F_Model_film F_Main_film_0 F_Model_film_0
  simp only [in_eq]
  rw [isSheet_eq]
  simp only [ob1_some]
  by_cases c1 : F_Main_isWithin v 0 3 = 0
  · rw [if_neg (not_not_intro c1), if_neg (not_not_intro c1)]; exact ⟨_, _, _, rfl, rfl, h⟩
  rw [if_pos c1, if_pos c1]
  rcases tellC h w with ⟨i, j, hi, hj, hij, e1, e2, e3, e4⟩ | ⟨e3, e4⟩
  rotate_left
  · rw [e3, e4]; exact ⟨_, _, _, rfl, rfl, h⟩
  rw [e3, e4]
  simp only [ob1_some]
  rw [if_pos one_ne, if_pos one_ne]
  by_cases c3 : F_Main_isWithin x 0 8 = 0
  · rw [if_neg (not_not_intro c3), if_neg (not_not_intro c3)]; exact ⟨_, _, _, rfl, rfl, h⟩
  rw [if_pos c3, if_pos c3]
  obtain ⟨s, hs, rfl⟩ := iw_some (b := 3) (by decide) c1
  obtain ⟨n, hn, rfl⟩ := iw_some (b := 8) (by decide) c3
  have s4 := inB_nI (k := s) (n := 4) (by omega) (by decide)
  have cl : (nI s).toNatClampNeg = s := nI_clamp (by omega)
  rw [e1, e2]
  simp only [s4, if_true, cl, lt]
  have hn6 := h.1.1
  obtain ⟨σ0, μ0, f1, f2, bb, vc, vm, sc, sm, k1, k2, k3⟩ := h.begin2 hi hj 0
  rw [f1]
  simp only [ob1_some]
  obtain ⟨τ, g1, t1, t2, t3, t4, t5⟩ := become_C σ0 (33 + s) 2 (z := n) (by omega)
  rw [g1]
  simp only [ob1_some]
  obtain ⟨ν, n1, n2, nw⟩ := begins1 (ν := up1 (up1 μ 11 s 2) 12 s (nI n)) (i := i) (j := j) (by omega) (by omega) 0
  rw [n1]
  simp only [ob1_some]
  have q1 : ∀ k, k < 6 → (up1 (up1 μ 11 s 2) 12 s (nI n)).1 4 k = σ.1 (27 + k) 4 := fun k hk => (up1_off (by omega)).trans ((up1_off (by omega)).trans (h.1.2.2.2.2 k hk).2.2.2.1.symm)
  rw [q1 i (by omega), q1 j (by omega)] at nw
  obtain ⟨q, lw, L, A, B, CC, CM⟩ := bb
  have fN : ∀ p c, ¬ ((p = 11 ∨ p = 12) ∧ c = s) → ¬ ScM p c → ν.1 p c = μ.1 p c := fun p c g1 g2 => (n2 p c (by unfold ScM at g2; omega) (by unfold ScM at g2; omega) (by unfold ScM at g2; omega)).trans ((up1_off (by omega)).trans (up1_off (by omega)))
  have hv : VwC τ.1 (0, σ.1 (27 + i) 4, σ.1 (27 + j) 4, 0) 0 false := by
    obtain ⟨w1, w2, w3, w4, w5, w6⟩ := vc
    exact ⟨(t5 _ _ (by omega) (by omega)).trans w1, (t5 _ _ (by omega) (by omega)).trans w2, (t5 _ _ (by omega) (by omega)).trans w3, (fun q => by cases q), (t5 _ _ (by omega) (by omega)).trans w5, (t5 _ _ (by omega) (by omega)).trans w6⟩
  have hn1 : ν.1 11 s = 2 := by rw [n2 _ _ (by omega) (by omega) (by omega), up1_off (by omega), up1_on]
  have hn2 : ν.1 12 s = nI n := by rw [n2 _ _ (by omega) (by omega) (by omega), up1_on]
  have hz : ∀ c, 0 ≤ c → c < 40 → τ.1 (37 + s) c = 0 := fun c _ g2 => by
    rw [show 37 + s = 33 + s + 4 by omega]
    exact t4 c g2
  have hF : FilmI σ μ τ ν s i j n 0 := ⟨fun p c g1 g2 g3 => (t5 p c g1 (by omega)).trans (sc p c g3), fun p c g1 g2 g3 => fN p c g1 g3, ⟨q, lw, L, A, B, CC.fr t1 (fun p c g => t5 p c (by omega) (by omega)), CM.fr (fun p c g => (fN p c (by omega) (by unfold ScM; omega)).trans (sm p c (by unfold ScM; omega)).symm)⟩, ⟨_, 0, hv, nw, ok0 k1 k2, by omega⟩, ⟨t2, t3⟩, ⟨hn1, hn2⟩, fun c g => absurd g (Nat.not_lt_zero c), hz⟩
  obtain ⟨σ', μ', r1, r2, h1, h2, h3, h4, h5, h6, h7, h8⟩ := film_loop (by omega) hn (w := w) e1 e2 FU 0 τ ν hF (Nat.zero_le _) (by rw [FU_eq]; omega)
  exact ⟨nI n, σ', μ', r1, r2, h.sheetTo (s := s) (by omega) h1 h2 (h5.1.trans h6.1.symm) (h5.2.trans h6.2.symm) (Or.inr (Or.inr (Or.inr h6.1))) ⟨n, by omega, h6.2⟩ h7⟩
