/-! ===== starts by lot: drawn, odds ===== -/
theorem lot_at {σ μ : St} {na nt : Nat} (h : Rel σ μ na nt) {i j : Nat} (hi : i < na) (hj : j < na) (seed : Int32) {σ1 μ1 : St} (sc : SameC σ σ1) (sm : SameM μ μ1) : ∃ r σ' μ', F_Main_winnerDrawn σ1 seed (nI i) (nI j) = some (r, σ') ∧ F_Model_winnerBy μ1 seed (nI i) (nI j) = some (r, μ') ∧ SameC σ σ' ∧ SameM μ μ' := by
  have hr : Rel σ1 μ1 na nt := h.scr sc sm
  have hn6 := h.1.1
  have ht6 := h.2.2.2.1.1
  obtain ⟨m1, m2, -⟩ := hr.2.2.2.2.2
  unfold F_Main_winnerDrawn F_Model_winnerBy F_Main_winnerDrawn_0 F_Model_winnerBy_0 F_Main_lotBehind F_Main_lotBehind_0
  simp only [lt]
  generalize (jremL (jremL ((seed.toInt64 + 1) * 48271) 2147483647) 4).toInt32 = x
  generalize (jremL (jremL (jremL ((seed.toInt64 + 1) * 48271) 2147483647 * 48271) 2147483647) 4).toInt32 = y
  obtain ⟨σ0, lw, l0, l1, l2, e0, s0, ⟨c1, c2, c3⟩, vc, ⟨a1, a2, a3, a4⟩, ⟨b1, b2, b3, b4⟩, k1, k2⟩ := hr.open1 hi hj
  rw [e0]
  simp only [ob1_some]
  obtain ⟨ν, n1, n2, w⟩ := begins1 (ν := up1 (up1 μ1 0 37 x) 0 38 y) (i := i) (j := j) (by omega) (by omega) 0
  unfold F_Model_bouts F_Model_bouts_0
  rw [n1]
  simp only [ob1_some]
  have nM : ∀ p k, ¬ ScM p k → ¬ (p = 0 ∧ (k = 37 ∨ k = 38)) → ν.1 p k = μ1.1 p k := fun p k g1 g2 => (n2 p k (by unfold ScM at g1; omega) (by unfold ScM at g1; omega) (by unfold ScM at g1; omega)).trans ((up1_off (by omega)).trans (up1_off (by omega)))
  have e43 : ∀ p k, ¬ ((p = 42 ∨ p = 44) ∧ k = 3) → (up1 (up1 σ0 42 3 (σ0.1 42 3 + x)) 44 3 ((up1 σ0 42 3 (σ0.1 42 3 + x)).1 44 3 + y)).1 p k = σ0.1 p k := fun p k g => by rw [up1_off (by omega), up1_off (by omega)]
  have e3a : (up1 (up1 σ0 42 3 (σ0.1 42 3 + x)) 44 3 ((up1 σ0 42 3 (σ0.1 42 3 + x)).1 44 3 + y)).1 42 3 = σ1.1 (27 + i) 3 + x := by rw [up1_off (by omega), up1_on, a2]
  have e3b : (up1 (up1 σ0 42 3 (σ0.1 42 3 + x)) 44 3 ((up1 σ0 42 3 (σ0.1 42 3 + x)).1 44 3 + y)).1 44 3 = σ1.1 (27 + j) 3 + y := by rw [up1_on, up1_off (by omega), b2]
  have e2a : (up1 (up1 σ0 42 3 (σ0.1 42 3 + x)) 44 3 ((up1 σ0 42 3 (σ0.1 42 3 + x)).1 44 3 + y)).2 = σ0.2 := rfl
  generalize up1 (up1 σ0 42 3 (σ0.1 42 3 + x)) 44 3 ((up1 σ0 42 3 (σ0.1 42 3 + x)).1 44 3 + y) = τ at e43 e3a e3b e2a ⊢
  have s1 : SameC σ1 τ := fun p k g => (e43 p k (by unfold ScC at g; omega)).trans (s0 p k g)
  have CC := hr.ctxC (t := lw) l0 hi hj (σ1 := τ) (x := x) (y := y) (by rw [e2a]; exact c1) (by rw [e2a]; exact c2) (by rw [e2a]; exact c3) s1 ((e43 _ _ (by omega)).trans a1) e3a ((e43 _ _ (by omega)).trans a3) ((e43 _ _ (by omega)).trans a4) ((e43 _ _ (by omega)).trans b1) e3b ((e43 _ _ (by omega)).trans b3) ((e43 _ _ (by omega)).trans b4)
  have CM := hr.ctxM (t := lw) l0 hi hj (ν := ν) (x := x) (y := y) (fun p k g1 g2 => nM p k g1 (by omega)) ((nM 0 11 (by unfold ScM; omega) (by omega)).trans l2) ((n2 _ _ (by omega) (by omega) (by omega)).trans ((up1_off (by omega)).trans up1_on)) ((n2 _ _ (by omega) (by omega) (by omega)).trans up1_on)
  have q1 : ∀ k, k < 6 → (up1 (up1 μ1 0 37 x) 0 38 y).1 4 k = σ1.1 (27 + k) 4 := fun k hk => (up1_off (by omega)).trans ((up1_off (by omega)).trans (hr.1.2.2.2.2 k hk).2.2.2.1.symm)
  rw [q1 i (by omega), q1 j (by omega)] at w
  obtain ⟨v1, v2, v3, v4, v5, v6⟩ := vc
  obtain ⟨τ', υ, v', t', g1, g2, b', wc, wm, ok, -, oc, om⟩ := Bc.play (σ := τ) (μ := ν) (i := i) (j := j) ⟨8 + lw, lw, _, _, _, CC, CM⟩ (w := false) ⟨(e43 _ _ (by omega)).trans v1, (e43 _ _ (by omega)).trans v2, (e43 _ _ (by omega)).trans v3, (fun q => by cases q), (e43 _ _ (by omega)).trans v5, (e43 _ _ (by omega)).trans v6⟩ w (ok0 k1 k2) (Nat.zero_le _) (e := 40) (Nat.le_refl _) (x := 40) rfl
  rw [g1, g2]
  simp only [ob1_some]
  have sC : SameC σ τ' := (sc.tr s1).tr oc.same
  have sM : SameM μ (up1 (up1 υ 0 37 0) 0 38 0) := fun p k g => by
    by_cases g7 : p = 0 ∧ k = 37
    · rw [g7.1, g7.2, up1_off (by omega), up1_on, ← sm 0 37 (by unfold ScM; omega), m1]
    · by_cases g8 : p = 0 ∧ k = 38
      · rw [g8.1, g8.2, up1_on, ← sm 0 38 (by unfold ScM; omega), m2]
      · rw [up1_off g8, up1_off g7, om.same p k g, nM p k g (by omega), sm p k g]
  refine ⟨_, _, _, rfl, ?_, sC, sM⟩
  rw [winner_eq (τ := τ') (υ := up1 (up1 υ 0 37 0) 0 38 0) (by rw [up1_off (by omega), up1_off (by omega)]; exact wc.1.trans wm.1.symm)]
theorem op_drawn {σ μ : St} {na nt : Nat} (h : Rel σ μ na nt) (v a b : Int32) : ∃ r σ' μ', F_Main_drawn σ v a b = some (r, σ') ∧ F_Model_drawn μ v a b = some (r, μ') ∧ Rel σ' μ' na nt := by
  unfold F_Main_drawn F_Model_drawn F_Main_drawn_0 F_Model_drawn_0
  simp only [in_eq]
  rcases twoC h a b with ⟨i, j, hi, hj, hij, rfl, rfl, e1, e2⟩ | ⟨e1, e2⟩
  · rw [e1, e2]
    simp only [ob1_some]
    rw [if_pos one_ne, if_pos one_ne]
    by_cases c : F_Main_isWithin v 0 99999 = 0
    · rw [if_neg (not_not_intro c), if_pos c]; exact ⟨_, _, _, rfl, rfl, h⟩
    · rw [if_pos c, if_neg c]
      obtain ⟨r, σ', μ', f1, f2, sc, sm⟩ := lot_at h hi hj v SameC.rf SameM.rf
      rw [f1, f2]
      exact ⟨_, _, _, rfl, rfl, h.scr sc sm⟩
  · rw [e1, e2]
    exact ⟨_, _, _, rfl, rfl, h⟩
theorem jrem_nI {a b : Nat} (ha : a < 2 ^ 31) (h0 : 0 < b) (hb : b < 2 ^ 31) : jrem (nI a) (nI b) = nI (a % b) := pk_rem ha h0 hb
theorem odds_gcd {n k part : Nat} (hn : 1 ≤ n) (hn30 : n ≤ 30) (hk : k ≤ n) : ∀ (m d c : Nat) (σ : St), 2 ≤ d → d ≤ n + 1 → n + 1 - d < m → 1 ≤ c → c ∣ k → c ∣ n → (∀ e, 1 ≤ e → e < d → e ∣ k → e ∣ n → e ≤ c) → F_Main_odds_99 m σ (nI n) (nI part) (nI k) (nI c) (nI d) = some ((if nI part = 0 then nI (k / Nat.gcd k n) else nI (n / Nat.gcd k n)).toInt64, σ) := by
  intro m
  induction m with
  | zero => intro d c σ _ _ h; omega
  | succ m ih =>
    intro d c σ h2 h3 h4 h5 h6 h7 h8
    have cn : c ≤ n := Nat.le_of_dvd hn h7
    rw [F_Main_odds_99]
    by_cases cd : n < d
    · rw [if_pos (nI_lt cd (by omega))]
      have g0 : 0 < Nat.gcd k n := Nat.gcd_pos_of_pos_right _ hn
      have g1 : Nat.gcd k n ≤ n := Nat.le_of_dvd hn (Nat.gcd_dvd_right k n)
      have g2 : Nat.gcd k n ≤ c := h8 _ g0 (by omega) (Nat.gcd_dvd_left k n) (Nat.gcd_dvd_right k n)
      have g3 : c ≤ Nat.gcd k n := Nat.le_of_dvd g0 (Nat.dvd_gcd h6 h7)
      have g4 : Nat.gcd k n = c := Nat.le_antisymm g2 g3
      have c0 : ¬ nI c = 0 := nI_ne0 h5 (by omega)
      rw [g4, if_pos c0, if_pos c0, pk_div (by omega) h5 (by omega), pk_div (by omega) h5 (by omega)]
      by_cases p0 : nI part = 0
      · rw [if_neg (not_not_intro p0), if_pos p0]
      · rw [if_pos p0, if_neg p0]
    · rw [if_neg (nI_nlt (by omega) (by omega)), if_pos (nI_ne0 (by omega) (by omega)), if_pos (nI_ne0 (show 0 < d by omega) (by omega)), jrem_nI (by omega) (by omega) (by omega), jrem_nI (by omega) (by omega) (by omega)]
      unfold F_Main_odds_124
      rw [nI_1]
      have z : ∀ a : Nat, a < 2 ^ 31 → (nI (a % d) = 0 ↔ d ∣ a) := fun a ha => by
        have := Nat.mod_lt a (show 0 < d by omega)
        rw [show (0 : Int32) = nI 0 from rfl, nI_eq (by omega) (by decide)]
        exact (Nat.dvd_iff_mod_eq_zero).symm
      by_cases c1 : d ∣ k
      · rw [if_neg (not_not_intro ((z k (by omega)).mpr c1))]
        by_cases c2 : d ∣ n
        · rw [if_neg (not_not_intro ((z n (by omega)).mpr c2))]
          exact ih (d + 1) d σ (by omega) (by omega) (by omega) (by omega) c1 c2 (fun e g1 g2 _ _ => by omega)
        · rw [if_pos (fun q => c2 ((z n (by omega)).mp q))]
          refine ih (d + 1) c σ (by omega) (by omega) (by omega) h5 h6 h7 (fun e g1 g2 g3 g4 => ?_)
          by_cases ed : e = d
          · subst ed; exact absurd g4 c2
          · exact h8 e g1 (by omega) g3 g4
      · rw [if_pos (fun q => c1 ((z k (by omega)).mp q))]
        refine ih (d + 1) c σ (by omega) (by omega) (by omega) h5 h6 h7 (fun e g1 g2 g3 g4 => ?_)
        by_cases ed : e = d
        · subst ed; exact absurd g3 c1
        · exact h8 e g1 (by omega) g3 g4
theorem lN0 : (0 : Int64) = lN 0 := rfl
theorem low_gcd {v0 v2 : Nat} {p4 : Int32} (h0 : v0 < 2 ^ 63) (h2 : v2 < 2 ^ 63) : ∀ (m a b : Nat), b < m → a < 2 ^ 63 → b < 2 ^ 63 → 0 < Nat.gcd a b → Nat.gcd a b < 2 ^ 63 → F_Model_lowest_16 m (lN v0) (lN v2) p4 (lN a) (lN b) = some (if p4 = 0 then lN (v0 / Nat.gcd a b) else lN (v2 / Nat.gcd a b)) := by
  intro m
  induction m with
  | zero => intro a b h; omega
  | succ m ih =>
    intro a b hm ha hb hg hg2
    rw [F_Model_lowest_16]
    by_cases c : b = 0
    · subst c
      rw [Nat.gcd_zero_right] at hg hg2 ⊢
      rw [if_pos ((lg_cmp_eq (lN 0) 0).mpr rfl)]
      unfold F_Model_lowest_51
      have a0 : ¬ lN a = 0 := fun q => by
        have := (pk_lEQ ha (show 0 < 2 ^ 63 by decide)).mp (q.trans lN0)
        omega
      rw [if_pos a0, if_pos a0, pk_lDiv h0 hg ha, pk_lDiv h2 hg ha]
      by_cases p0 : p4 = 0
      · rw [if_neg (not_not_intro p0), if_pos p0]
      · rw [if_pos p0, if_neg p0]
    · have b0 : ¬ lN b = 0 := fun q => c ((pk_lEQ hb (show 0 < 2 ^ 63 by decide)).mp (q.trans lN0))
      have lt' := Nat.mod_lt a (show 0 < b by omega)
      have eg : Nat.gcd b (a % b) = Nat.gcd a b := by
        rw [Nat.gcd_comm b, ← Nat.gcd_rec, Nat.gcd_comm]
      rw [if_neg (fun q => b0 ((lg_cmp_eq _ _).mp q)), if_pos b0, show jremL (lN a) (lN b) = lN (a % b) from pk_lRem ha (by omega) hb, ih b (a % b) (by omega) hb (by omega) (by rw [eg]; exact hg) (by rw [eg]; exact hg2), eg]
theorem odds_end {n k part : Nat} (hn : 1 ≤ n) (hn30 : n ≤ 30) (hk : k ≤ n) (hp : part ≤ 1) (σ : St) : ∃ r, F_Main_odds_99 FU σ (nI n) (nI part) (nI k) 1 2 = some (r, σ) ∧ F_Model_lowest (lN k) ((nI n).toInt64) (nI part) = some r := by
  have e := odds_gcd (part := part) hn hn30 hk FU 2 1 σ (by omega) (by omega) (by rw [FU_eq]; omega) (by omega) (Nat.one_dvd _) (Nat.one_dvd _) (fun e g1 g2 _ _ => by omega)
  refine ⟨_, e, ?_⟩
  unfold F_Model_lowest F_Model_lowest_0
  have g0 : 0 < Nat.gcd k n := Nat.gcd_pos_of_pos_right _ hn
  have g1 : Nat.gcd k n ≤ n := Nat.le_of_dvd hn (Nat.gcd_dvd_right k n)
  by_cases c : k = 0
  · subst c
    rw [if_neg (not_not_intro ((lg_cmp_eq (lN 0) 0).mpr rfl)), Nat.gcd_zero_left, Nat.zero_div, Nat.div_self hn]
    match part, hp with
    | 0, _ => rfl
    | 1, _ => rfl
    | p + 2, h => exact absurd h (by omega)
  · have k0 : ¬ lN k = 0 := fun q => c ((pk_lEQ (by omega) (show 0 < 2 ^ 63 by decide)).mp (q.trans lN0))
    rw [if_pos (fun q => k0 ((lg_cmp_eq _ _).mp q)), nI_l (by omega), low_gcd (by omega) (by omega) FU k n (by rw [FU_eq]; omega) (by omega) (by omega) g0 (by omega)]
    have d1 : k / Nat.gcd k n ≤ k := Nat.div_le_self _ _
    have d2 : n / Nat.gcd k n ≤ n := Nat.div_le_self _ _
    by_cases p0 : nI part = 0
    · rw [if_pos p0, if_pos p0, nI_l (by omega)]
    · rw [if_neg p0, if_neg p0, nI_l (by omega)]
theorem odds_loop {σ μ : St} {na nt i j n part : Nat} {ab : Int32} (h : Rel σ μ na nt) (hi : i < na) (hj : j < na) (hn : 1 ≤ n) (hn30 : n ≤ 30) (hp : part ≤ 1) (e1 : ab / 10 = nI i) (e2 : jrem ab 10 = nI j) (seed : Int32) : ∀ (m q k : Nat) (σ1 μ1 : St), SameC σ σ1 → SameM μ μ1 → q ≤ n → k ≤ q → n - q < m → ∃ r σ' μ', F_Main_odds_59 m σ1 seed (nI n) ab (nI part) (nI i) (nI k) (nI q) = some (r, σ') ∧ F_Model_odds_49 m μ1 seed (nI n) ab (nI part) (lN k) (nI q) = some (r, μ') ∧ SameC σ σ' ∧ SameM μ μ' := by
  intro m
  induction m with
  | zero => intro q k σ1 μ1 _ _ _ _ h; omega
  | succ m ih =>
    intro q k σ1 μ1 sc sm hq hk hm
    rw [F_Main_odds_59, F_Model_odds_49]
    by_cases c : n ≤ q
    · rw [if_pos (nI_le c (by omega)), if_pos (nI_le c (by omega))]
      obtain ⟨r, f1, f2⟩ := odds_end hn hn30 (show k ≤ n by omega) hp σ1
      rw [f1, f2]
      exact ⟨_, _, _, rfl, rfl, sc, sm⟩
    · rw [if_neg (nI_ge (by omega) (by omega)), if_neg (nI_ge (by omega) (by omega)), e1, e2]
      obtain ⟨r, σ', μ', f1, f2, s1, s2⟩ := lot_at h hi hj (seed + nI q) sc sm
      rw [f1, f2]
      simp only [ob2_some]
      unfold F_Main_odds_87 F_Model_odds_85
      rw [nI_1]
      by_cases d : r = nI i
      · rw [if_neg (not_not_intro d), if_neg (not_not_intro d), nI_1, lN_1]
        exact ih (q + 1) (k + 1) σ' μ' s1 s2 (by omega) (by omega) (by omega)
      · rw [if_pos d, if_pos d, Int64.add_zero]
        exact ih (q + 1) k σ' μ' s1 s2 (by omega) (by omega) (by omega)
theorem op_odds {σ μ : St} {na nt : Nat} (h : Rel σ μ na nt) (v w ab x : Int32) : ∃ r σ' μ', F_Main_odds σ v w ab x = some (r, σ') ∧ F_Model_odds μ v w ab x = some (r, μ') ∧ Rel σ' μ' na nt := by
  unfold F_Main_odds F_Model_odds F_Main_odds_0 F_Model_odds_0 F_Main_odds_21 F_Main_odds_43 F_Model_odds_39
  simp only [in_eq]
  by_cases c1 : F_Main_isWithin v 0 99999 = 0
  · rw [if_pos c1, if_pos c1]; exact ⟨_, _, _, rfl, rfl, h⟩
  rw [if_neg c1, if_neg c1]
  by_cases c2 : F_Main_isWithin w 1 30 = 0
  · rw [if_neg (not_not_intro c2), if_pos c2]; exact ⟨_, _, _, rfl, rfl, h⟩
  rw [if_pos c2, if_neg c2]
  rcases tellC h ab with ⟨i, j, hi, hj, hij, e1, e2, e3, e4⟩ | ⟨e3, e4⟩
  rotate_left
  · rw [e3, e4]; exact ⟨_, _, _, rfl, rfl, h⟩
  rw [e3, e4]
  simp only [ob1_some]
  rw [if_neg one_ne, if_neg one_ne]
  by_cases c3 : F_Main_isWithin x 0 1 = 0
  · rw [if_neg (not_not_intro c3), if_neg (not_not_intro c3)]; exact ⟨_, _, _, rfl, rfl, h⟩
  rw [if_pos c3, if_pos c3]
  have hw : ∃ n : Nat, 1 ≤ n ∧ n ≤ 30 ∧ w = nI n := by
    rw [iw] at c2
    by_cases q : (1 : Int32) ≤ w ∧ w ≤ 30
    · exact rng (a := 1) (b := 30) (by decide) (by decide) q.1 q.2
    · rw [if_neg q] at c2; exact absurd rfl c2
  obtain ⟨n, n1, n30, rfl⟩ := hw
  obtain ⟨part, hp, rfl⟩ := iw_some (b := 1) (by decide) c3
  obtain ⟨r, σ', μ', f1, f2, s1, s2⟩ := odds_loop h hi hj n1 n30 hp e1 e2 v FU 0 0 σ μ SameC.rf SameM.rf (by omega) (by omega) (by rw [FU_eq]; omega)
  rw [e1]
  exact ⟨r, σ', μ', f1, f2, h.scr s1 s2⟩
