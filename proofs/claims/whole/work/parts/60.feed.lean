/-! ===== feed, asks ===== -/
theorem Rel.tapeAdd {σ μ : St} {na nt : Nat} (h : Rel σ μ na nt) {m : Nat} (hm : m < 160) (e1 : σ.1 0 1 = nI m) (e2 : μ.1 0 7 = nI m) {c : Nat} (hc : c < 256) : Rel (up1 (up1 σ 1 m (nI c)) 0 1 (nI (m + 1))) (up1 (up1 μ 6 m (nI c)) 0 7 (nI (m + 1))) na nt := by
  obtain ⟨hA, ⟨n, n0, n1, n2, n3⟩, hS, hX, hI, hM⟩ := h
  have : n = m := (nI_eq (by omega) (by omega)).mp (n1.symm.trans e1)
  subst this
  have fc : ∀ p j, ¬ (p = 0 ∧ j = 1) → p ≠ 1 → (up1 (up1 σ 1 n (nI c)) 0 1 (nI (n + 1))).1 p j = σ.1 p j := fun p j h1 h2 => by rw [up1_off (by omega), up1_off (by omega)]
  have fm : ∀ p j, ¬ (p = 0 ∧ j = 7) → p ≠ 6 → (up1 (up1 μ 6 n (nI c)) 0 7 (nI (n + 1))).1 p j = μ.1 p j := fun p j h1 h2 => by rw [up1_off (by omega), up1_off (by omega)]
  refine ⟨hA.congr (fun p j q => fc p j (by omega) (by omega)) (fun p j q => fm p j (by omega) (by omega)), ⟨n + 1, by omega, up1_on, up1_on, fun i hi => ?_⟩, hS.congr (fun p j q => fc p j (by omega) (by omega)) (fun p j q => fm p j (by omega) (by omega)), hX.congr (fun p j q => fc p j (by omega) (by omega)) (fun p j q => fm p j (by omega) (by omega)), hI.congr (fun p j q => fc p j (by omega) (by omega)) (fun p j q => fm p j (by omega) (by omega)), hM.congr (fun p j q => fm p j (by omega) (by omega))⟩
  by_cases ci : i = n
  · subst ci
    rw [up1_off (by omega), up1_on, up1_off (by omega), up1_on]
    exact ⟨rfl, c, hc, rfl⟩
  · rw [up1_off (by omega), up1_off (by omega), up1_off (by omega), up1_off (by omega)]
    exact n3 i (by omega)
theorem feed_push {σ μ : St} {na nt : Nat} (h : Rel σ μ na nt) {m : Nat} (hm : m < 160) (e1 : σ.1 0 1 = nI m) (e2 : μ.1 0 7 = nI m) {x : Int32} (hx : ∃ c : Nat, c < 256 ∧ x = nI c) : ∃ σ' μ', F_Tape_add σ x = some σ' ∧ (∀ (K : St → Int32 → Int32 → Int32 → Int32 → Int32 → Int32 → Int32 → Option (Int32 × St)) (v1 v2 v3 v4 v5 v6 v7 : Int32), F_Model_feed_125 K μ v1 v2 v3 v4 v5 v6 v7 (μ.1 0 7) x = K μ' v1 v2 v3 v4 v5 v6 (v7 + 1)) ∧ Rel σ' μ' na nt ∧ σ'.1 0 1 = nI (m + 1) ∧ μ'.1 0 7 = nI (m + 1) := by
  obtain ⟨c, hc, rfl⟩ := hx
  refine ⟨_, _, ?_, fun K v1 v2 v3 v4 v5 v6 v7 => ?_, h.tapeAdd hm e1 e2 hc, up1_on, up1_on⟩
  · unfold F_Tape_add F_Tape_add_0
    rw [e1, if_pos (show nI m < 160 from nI_lt (b := 160) hm (by decide)), if_pos (inB_nI hm (by decide)), nI_clamp (by omega)]
    simp only [lt]
    rw [up1_off (by omega), e1, nI_1]
  · unfold F_Model_feed_125
    rw [e2, if_pos (inB_nI hm (by decide)), nI_clamp (by omega)]
    simp only [lt]
    rw [up1_off (by omega), e2, nI_1]
theorem iw_byte {x : Int32} (h : ¬ F_Main_isWithin x 0 255 = 0) : ∃ c : Nat, c < 256 ∧ x = nI c := by
  obtain ⟨c, hc, e⟩ := iw_some (b := 255) (by decide) h
  exact ⟨c, by omega, e⟩
theorem op_feed {σ μ : St} {na nt : Nat} (h : Rel σ μ na nt) (v a b c d e : Int32) : ∃ r σ' μ', F_Main_feed σ v a b c d e = some (r, σ') ∧ F_Model_feed μ v a b c d e = some (r, μ') ∧ Rel σ' μ' na nt := by
  unfold F_Main_feed F_Model_feed F_Main_feed_0 F_Model_feed_0
  simp only [in_eq, iwB, iwBM, ob1_some]
  by_cases c0 : F_Main_isWithin v 1 5 = 0
  · rw [if_neg (not_not_intro c0), if_pos c0]; exact ⟨_, _, _, rfl, rfl, h⟩
  rw [if_pos c0, if_neg c0]
  by_cases ca : F_Main_isWithin a 0 255 = 0
  · rw [if_pos ca, if_pos ca]; exact ⟨_, _, _, rfl, rfl, h⟩
  rw [if_neg ca, if_neg ca]
  by_cases cb : F_Main_isWithin b 0 255 = 0
  · rw [if_pos cb, if_pos cb]; exact ⟨_, _, _, rfl, rfl, h⟩
  rw [if_neg cb, if_neg cb]
  by_cases cc : F_Main_isWithin c 0 255 = 0
  · rw [if_pos cc, if_pos cc]; exact ⟨_, _, _, rfl, rfl, h⟩
  rw [if_neg cc, if_neg cc]
  by_cases cd : F_Main_isWithin d 0 255 = 0
  · rw [if_pos cd, if_pos cd]; exact ⟨_, _, _, rfl, rfl, h⟩
  rw [if_neg cd, if_neg cd]
  by_cases ce : F_Main_isWithin e 0 255 = 0
  · rw [if_neg (not_not_intro ce), if_neg (not_not_intro ce)]; exact ⟨_, _, _, rfl, rfl, h⟩
  rw [if_pos ce, if_pos ce]
  have hn : ∃ n : Nat, 1 ≤ n ∧ n ≤ 5 ∧ v = nI n := by
    rw [iw] at c0
    by_cases q : (1 : Int32) ≤ v ∧ v ≤ 5
    · exact rng (a := 1) (b := 5) (by decide) (by decide) q.1 q.2
    · rw [if_neg q] at c0; exact absurd rfl c0
  obtain ⟨n, n1, n5, rfl⟩ := hn
  obtain ⟨m, hm, e1, e2, -⟩ := h.2.1
  rw [e1, e2, show (160 : Int32) - nI m = nI (160 - m) from pk_sub (a := 160) hm, nI_add]
  by_cases full : m + n ≤ 160
  rotate_left
  · rw [if_neg (nI_ge (by omega) (by omega)), if_neg (show ¬ nI (m + n) ≤ 160 from nI_ge (a := 160) (by omega) (by omega))]
    exact ⟨_, _, _, rfl, rfl, h⟩
  rw [if_pos (nI_le (by omega) (by omega)), if_pos (show nI (m + n) ≤ 160 from nI_le (b := 160) full (by decide))]
  have hF : FU = 994 + 6 := FU_eq
  rw [hF]
  obtain ⟨σ1, μ1, p1, q1, h1, s1, t1⟩ := feed_push h (by omega) e1 e2 (iw_byte ca)
  rw [p1, F_Model_feed_68, if_neg (show ¬ nI n ≤ 0 from nI_ge (a := 0) (by omega) (by omega)), if_neg (by decide), q1]
  simp only [ob1_some]
  unfold F_Main_feed_92 F_Main_feed_106 F_Main_feed_120 F_Main_feed_134
  match n, n1, n5, full with
  | 1, _, _, _ =>
    rw [if_pos (by decide), if_pos (by decide), if_pos (by decide), if_pos (by decide), F_Model_feed_68, if_pos (by decide), s1, t1]
    exact ⟨_, _, _, rfl, rfl, h1⟩
  | n + 2, _, n5, full =>
    obtain ⟨σ2, μ2, p2, q2, h2, s2, t2⟩ := feed_push h1 (by omega) s1 t1 (iw_byte cb)
    rw [if_neg (show ¬ nI (n + 2) ≤ 1 from nI_ge (a := 1) (by omega) (by omega)), p2, F_Model_feed_68, if_neg (show ¬ nI (n + 2) ≤ 0 + 1 from nI_ge (a := 1) (by omega) (by omega)), if_pos (by decide), if_neg (by decide), q2]
    simp only [ob1_some]
    match n, n5, full with
    | 0, _, _ =>
      rw [if_pos (by decide), if_pos (by decide), if_pos (by decide), F_Model_feed_68, if_pos (by decide), s2, t2]
      exact ⟨_, _, _, rfl, rfl, h2⟩
    | n + 1, n5, full =>
      obtain ⟨σ3, μ3, p3, q3, h3, s3, t3⟩ := feed_push h2 (by omega) s2 t2 (iw_byte cc)
      rw [if_neg (show ¬ nI (n + 1 + 2) ≤ 2 from nI_ge (a := 2) (by omega) (by omega)), p3, F_Model_feed_68, if_neg (show ¬ nI (n + 1 + 2) ≤ 0 + 1 + 1 from nI_ge (a := 2) (by omega) (by omega)), if_pos (by decide), if_pos (by decide), if_neg (by decide), q3]
      simp only [ob1_some]
      match n, n5, full with
      | 0, _, _ =>
        rw [if_pos (by decide), if_pos (by decide), F_Model_feed_68, if_pos (by decide), s3, t3]
        exact ⟨_, _, _, rfl, rfl, h3⟩
      | n + 1, n5, full =>
        obtain ⟨σ4, μ4, p4, q4, h4, s4, t4⟩ := feed_push h3 (by omega) s3 t3 (iw_byte cd)
        rw [if_neg (show ¬ nI (n + 1 + 1 + 2) ≤ 3 from nI_ge (a := 3) (by omega) (by omega)), p4, F_Model_feed_68, if_neg (show ¬ nI (n + 1 + 1 + 2) ≤ 0 + 1 + 1 + 1 from nI_ge (a := 3) (by omega) (by omega)), if_pos (by decide), if_pos (by decide), if_pos (by decide), if_neg (by decide), q4]
        simp only [ob1_some]
        match n, n5, full with
        | 0, _, _ =>
          rw [if_pos (by decide), F_Model_feed_68, if_pos (by decide), s4, t4]
          exact ⟨_, _, _, rfl, rfl, h4⟩
        | 1, n5, full =>
          obtain ⟨σ5, μ5, p5, q5, h5, s5, t5⟩ := feed_push h4 (by omega) s4 t4 (iw_byte ce)
          rw [if_neg (by decide), p5, F_Model_feed_68, if_neg (by decide), if_pos (by decide), if_pos (by decide), if_pos (by decide), if_pos (by decide), q5]
          simp only [ob1_some]
          rw [F_Model_feed_68, if_pos (by decide), s5, t5]
          exact ⟨_, _, _, rfl, rfl, h5⟩
        | n + 2, n5, _ => exact absurd n5 (by omega)
theorem op_asks {σ μ : St} {na nt : Nat} (h : Rel σ μ na nt) (pt v hh an te : Int32) : ∃ r σ' μ', F_Main_asks σ pt v hh an te = some (r, σ') ∧ F_Model_asks μ pt v hh an te = some (r, μ') ∧ Rel σ' μ' na nt := by
  unfold F_Main_asks F_Model_asks F_Main_asks_0 F_Model_asks_0
  simp only [in_eq]
  have bad : ∃ r σ' μ', some ((-7 : Int32), σ) = some (r, σ') ∧ F_Model_asks_66 μ pt v hh an te = some (r, μ') ∧ Rel σ' μ' na nt := ⟨_, _, _, rfl, rfl, h⟩
  rcases armC h v with ⟨i, hi, rfl, e1, e2⟩ | ⟨e1, e2, -⟩
  · rw [e1, e2]
    simp only [ob1_some]
    rw [if_pos one_ne, if_pos one_ne]
    by_cases c1 : F_Main_isWithin pt 0 2 = 0
    · rw [if_neg (not_not_intro c1), if_pos c1]; exact bad
    rw [if_pos c1, if_neg c1]
    by_cases c2 : F_Main_isWithin hh 0 243 = 0
    · rw [if_pos c2, if_pos c2]; exact bad
    rw [if_neg c2, if_neg c2]
    have lt4 : (4 : Int32) ≤ jrem hh 10 ↔ ¬ jrem hh 10 ≤ 3 := by
      rw [Int32.le_iff_toInt_le, Int32.le_iff_toInt_le]
      have e4 : (4 : Int32).toInt = 4 := rfl
      have e3 : (3 : Int32).toInt = 3 := rfl
      omega
    by_cases c3 : jrem hh 10 ≤ 3
    rotate_left
    · rw [if_neg c3, if_pos (lt4.mpr c3)]; exact bad
    rw [if_pos c3, if_neg (fun q => lt4.mp q c3)]
    by_cases c4 : F_Main_isWithin an (-30) 30 = 0
    · rw [if_pos c4, if_pos c4]; exact bad
    rw [if_neg c4, if_neg c4]
    by_cases c5 : F_Main_isWithin te 0 40 = 0
    · rw [if_neg (not_not_intro c5), if_pos c5]; exact bad
    rw [if_pos c5, if_neg c5]
    have hA := h.1
    have hn6 := hA.1
    have ht6 := h.2.2.2.1.1
    obtain ⟨p, hp, rfl⟩ := iw_some (b := 2) (by decide) c1
    obtain ⟨-, -, -, ⟨lw, l0, l1, l2⟩, -⟩ := h.2.2.2.1
    obtain ⟨p1, p2, p3, p4, p5, p6, p7⟩ := hA.2.2.2.2 i (by omega)
    rw [if_pos (inB_nI (by omega) (by decide)), nI_clamp (by omega)]
    simp only [lt]
    obtain ⟨b0, b1, b2, b3, b4, b5, b6, b7⟩ := sbegin_at σ (s := 42) (pa := 27 + i) (Or.inl rfl) (by omega)
    generalize F_Side_begin σ 42 (27 + i) = σ0 at b0 b1 b2 b3 b4 b5 b6 b7 ⊢
    obtain ⟨k1, k2, k3, k4, k5, k6⟩ := looks_C (up1 σ0 42 1 (hh / 10)) (q := 42) (Or.inl rfl) (jrem hh 10) an te
    generalize F_Side_looks (up1 σ0 42 1 (hh / 10)) 42 (jrem hh 10) an te = σ1 at k1 k2 k3 k4 k5 k6 ⊢
    have sc : SameC σ σ1 := fun p j hp => by
      unfold ScC at hp
      rw [k2 _ _ (by omega), up1_off (by omega), b2 _ _ (by omega) (by omega)]
    have fC : ∀ p, ¬ ScC p → σ1.1 p = σ.1 p := fun p hp => funext fun k => sc p k hp
    obtain ⟨⟨g0, g1, g2, g3, g4⟩, lM⟩ := lawT_ok h l0
    have lC : LawC σ1.1 (8 + lw) (lawT σ lw) := ⟨g0, by rw [fC _ (by unfold ScC; omega), g1], by rw [fC _ (by unfold ScC; omega), g2], by rw [fC _ (by unfold ScC; omega), g3], by rw [fC _ (by unfold ScC; omega), g4]⟩
    rw [fC 20 (by unfold ScC; omega), l1, if_pos (inB_nI (by omega) (by decide)), nI_clamp (by omega)]
    obtain ⟨τ, f1, f2, f3⟩ := says_C (part := p) (x := nI p) rfl (q := 8 + lw) (nc := 43) (by omega) (by decide) (by omega) lC
    rw [f1]
    unfold F_Model_asks_67
    rw [if_neg one_ne]
    obtain ⟨υ, u1, u2, u3⟩ := asks_M (part := p) (x := nI p) (L := lawT σ lw) (lw := lw) (i := i) (f := σ.1 (27 + i)) (by omega) (by omega) (by omega) rfl l2 lM p2.symm p3.symm (hh / 10) (jrem hh 10) an te
    rw [u1]
    simp only [ob2_some]
    have nA : ∀ j, j < 6 → σ1.1 43 j = nmV (σ.1 (27 + i)) (hh / 10) (jrem hh 10) an te j := by
      intro j hj
      match j, hj with
      | 0, _ => exact (k2 43 0 (by omega)).trans ((up1_off (by omega)).trans b6)
      | 1, _ => exact (k2 43 1 (by omega)).trans ((up1_off (by omega)).trans b7)
      | 2, _ => exact k3.trans up1_on
      | 3, _ => exact k4
      | 4, _ => exact k5
      | 5, _ => exact k6
      | j + 6, h => exact absurd h (by omega)
    rw [sayL_congr nA]
    exact ⟨_, _, _, rfl, rfl, h.scr (sc.tr (fun q j hq => f3 q j (by unfold ScC at hq; omega))) (fun q j hq => u3 q j (by unfold ScM at hq; omega) (by unfold ScM at hq; omega))⟩
  · rw [e1, e2]
    exact ⟨_, _, _, rfl, rfl, h⟩
