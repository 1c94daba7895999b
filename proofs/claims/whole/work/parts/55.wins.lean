/-! ===== match, wins, line, needs, beats ===== -/
theorem ob1_some {α γ : Type} (x : α) (f : α → Option γ) : ob1 (some x) f = f x := rfl
theorem ob2_some {α β γ : Type} (x : α) (y : β) (f : α → β → Option γ) : ob2 (some (x, y)) f = f x y := rfl
theorem one_ne : ¬ (1 : Int32) = 0 := by decide
theorem tellC {σ μ : St} {na nt : Nat} (h : Rel σ μ na nt) (v : Int32) : (∃ i j : Nat, i < na ∧ j < na ∧ i ≠ j ∧ v / 10 = nI i ∧ jrem v 10 = nI j ∧ F_Main_tellsTwo σ v = some 1 ∧ F_Model_tellTwo μ v = some 1) ∨ (F_Main_tellsTwo σ v = some 0 ∧ F_Model_tellTwo μ v = some 0) := by
  unfold F_Main_tellsTwo F_Model_tellTwo F_Main_tellsTwo_0 F_Model_tellTwo_0
  by_cases c : v < 0
  · right
    rw [if_pos c, if_pos c]
    exact ⟨rfl, rfl⟩
  · rw [if_neg c, if_neg c]
    rcases twoC h (v / 10) (jrem v 10) with ⟨i, j, hi, hj, hij, e1, e2, e3, e4⟩ | ⟨e3, e4⟩
    · left
      rw [e3, e4]
      exact ⟨i, j, hi, hj, hij, e1, e2, rfl, rfl⟩
    · right
      rw [e3, e4]
      exact ⟨rfl, rfl⟩
theorem watch1 {σ : St} {v : BS} {t : Nat} (h : VwC σ.1 v t false) (h5 : σ.1 41 5 = v.2.2.2) : VwC (up1 σ 41 6 1).1 v t true := by
  obtain ⟨v1, v2, v3, v4, v5, v6⟩ := h
  exact ⟨(up1_off (by omega)).trans v1, (up1_off (by omega)).trans v2, (up1_off (by omega)).trans v3, fun _ => (up1_off (by omega)).trans h5, up1_on, (up1_off (by omega)).trans v6⟩
theorem watch0 {σ : St} {v : BS} {t : Nat} (h : VwC σ.1 v t false) : VwC (up1 σ 41 6 0).1 v t false := by
  obtain ⟨v1, v2, v3, v4, v5, v6⟩ := h
  exact ⟨(up1_off (by omega)).trans v1, (up1_off (by omega)).trans v2, (up1_off (by omega)).trans v3, (fun q => by cases q), up1_on, (up1_off (by omega)).trans v6⟩
theorem op_match {σ μ : St} {na nt : Nat} (h : Rel σ μ na nt) (ab n what : Int32) : ∃ r σ' μ', F_Main_match σ ab n what = some (r, σ') ∧ F_Model_match μ ab n what = some (r, μ') ∧ Rel σ' μ' na nt := by
  unfold F_Main_match F_Model_match F_Main_match_0 F_Model_match_0
  simp only [in_eq]
  rcases tellC h ab with ⟨i, j, hi, hj, hij, e1, e2, e3, e4⟩ | ⟨e3, e4⟩
  · rw [e3, e4]
    simp only [ob1_some]
    rw [if_pos one_ne, if_pos one_ne]
    by_cases c1 : F_Main_isWithin n 0 40 = 0
    · rw [if_pos c1, if_pos c1]; exact ⟨_, _, _, rfl, rfl, h⟩
    rw [if_neg c1, if_neg c1]
    by_cases c2 : F_Main_isWithin what 0 3 = 0
    · rw [if_neg (not_not_intro c2), if_neg (not_not_intro c2)]; exact ⟨_, _, _, rfl, rfl, h⟩
    rw [if_pos c2, if_pos c2, e1, e2]
    obtain ⟨e, he, rfl⟩ := iw_some (b := 40) (by decide) c1
    obtain ⟨σ0, μ0, f1, f2, b, vc, vm, sc, sm, k1, k2, k3⟩ := h.begin2 hi hj 0
    rw [f1, f2]
    simp only [ob1_some]
    have oc1 : ∀ x, OffC σ0 (up1 σ0 41 6 x) := fun x => ⟨rfl, fun p j _ g _ _ _ => up1_off (by omega)⟩
    have c : ∀ (x : Int32) (w : Bool), (x = 0 ∨ x = 1) → VwC (up1 σ0 41 6 x).1 (0, σ.1 (27 + i) 4, σ.1 (27 + j) 4, 0) 0 w → (w = false → ¬ what = 3) → ∃ r σ' μ', F_Main_match_60 σ0 (nI e) what x = some (r, σ') ∧ (ob1 (F_Model_goesOn μ0 (nI i) (nI j) (nI e)) (fun s_6 => (if ¬ what = 0 then (if ¬ what = (1 : Int32) then (if ¬ what = (2 : Int32) then (some ((s_6.1 0 35), s_6)) else (some ((s_6.1 0 34), s_6))) else (some ((s_6.1 0 33), s_6))) else (some ((s_6.1 0 32), s_6))))) = some (r, μ') ∧ Rel σ' μ' na nt := by
      intro x w hx hv hw
      unfold F_Main_match_60
      rw [if_pos hx]
      simp only [lt]
      obtain ⟨τ, υ, v', t', g1, g2, b', wc, wm, ok, -, oc, om⟩ := (b.go (oc1 x) OffM.rf).play hv vm (ok0 k1 k2) (Nat.zero_le _) he (x := nI e) rfl
      rw [g1, g2]
      simp only [ob1_some]
      have hr : Rel τ υ na nt := h.scr ((sc.tr (oc1 x).same).tr oc.same) (sm.tr om.same)
      by_cases w0 : what = 0
      · rw [if_pos w0, if_neg (not_not_intro w0), wc.1, wm.1]; exact ⟨_, _, _, rfl, rfl, hr⟩
      rw [if_neg w0, if_pos w0]
      by_cases w1 : what = 1
      · rw [if_pos w1, if_neg (not_not_intro w1), wc.2.1, wm.2.1]; exact ⟨_, _, _, rfl, rfl, hr⟩
      rw [if_neg w1, if_pos w1]
      by_cases w2 : what = 2
      · rw [if_pos w2, if_neg (not_not_intro w2), wc.2.2.1, wm.2.2.1]; exact ⟨_, _, _, rfl, rfl, hr⟩
      rw [if_neg w2, if_pos w2]
      have hwt : w = true := by
        cases w with
        | true => rfl
        | false =>
          exfalso
          obtain ⟨k, hk, rfl⟩ := iw_some (b := 3) (by decide) c2
          match k, hk with
          | 0, _ => exact w0 rfl
          | 1, _ => exact w1 rfl
          | 2, _ => exact w2 rfl
          | 3, _ => exact hw rfl rfl
          | k + 4, h => exact absurd h (by omega)
      rw [wc.2.2.2.1 hwt, wm.2.2.2.1]
      exact ⟨_, _, _, rfl, rfl, hr⟩
    by_cases w3 : what = 3
    · rw [if_neg (not_not_intro w3)]
      exact c 1 true (Or.inr rfl) (watch1 vc k3) (fun q => by cases q)
    · rw [if_pos w3]
      exact c 0 false (Or.inl rfl) (watch0 vc) (fun _ => w3)
  · rw [e3, e4]
    exact ⟨_, _, _, rfl, rfl, h⟩
theorem winner_eq {τ υ : St} (e : τ.1 41 3 = υ.1 0 32) (v w : Int32) : F_Main_winner τ v w = F_Model_winner υ v w := by
  unfold F_Main_winner F_Model_winner F_Main_winner_0 F_Model_winner_0
  rw [e]
  generalize υ.1 0 32 = x
  by_cases c : x = 0
  · subst c
    rw [if_neg (by decide), if_pos (by decide), if_pos (by decide)]
  · rw [if_pos c]
    by_cases c2 : x ≤ 0
    · rw [if_pos c2, if_pos c2, if_neg]
      intro q
      exact c (Int32.le_antisymm c2 q)
    · rw [if_neg c2, if_neg c2]
theorem ang30 {x : Int32} (h : AngOk x) : F_Main_isWithin x (-29) 29 = 0 ↔ (x = 30 ∨ x = -30) := by
  obtain ⟨h1, h2⟩ := h
  have a1 := Int32.le_iff_toInt_le.mp h1
  have a2 := Int32.le_iff_toInt_le.mp h2
  have e1 : (-30 : Int32).toInt = -30 := by decide
  have e2 : (30 : Int32).toInt = 30 := by decide
  have e3 : (-29 : Int32).toInt = -29 := by decide
  have e4 : (29 : Int32).toInt = 29 := by decide
  rw [iw]
  constructor
  · intro q
    by_cases c : -29 ≤ x ∧ x ≤ 29
    · rw [if_pos c] at q; exact absurd q one_ne
    · have : ¬ ((-29 : Int32).toInt ≤ x.toInt ∧ x.toInt ≤ (29 : Int32).toInt) := fun z => c ⟨Int32.le_iff_toInt_le.mpr z.1, Int32.le_iff_toInt_le.mpr z.2⟩
      have z : x.toInt = 30 ∨ x.toInt = -30 := by omega
      rcases z with z | z
      · exact Or.inl (Int32.toInt_inj.mp (by rw [z, e2]))
      · exact Or.inr (Int32.toInt_inj.mp (by rw [z, e1]))
  · rintro (rfl | rfl) <;> decide
theorem op_wins {σ μ : St} {na nt : Nat} (h : Rel σ μ na nt) (v w what : Int32) : ∃ r σ' μ', F_Main_wins σ v w what = some (r, σ') ∧ F_Model_wins μ v w what = some (r, μ') ∧ Rel σ' μ' na nt := by
  unfold F_Main_wins F_Model_wins F_Main_wins_0 F_Model_wins_0
  simp only [in_eq]
  rcases twoC h v w with ⟨i, j, hi, hj, hij, rfl, rfl, e1, e2⟩ | ⟨e1, e2⟩
  · rw [e1, e2]
    simp only [ob1]
    rw [if_pos one_ne, if_pos one_ne]
    by_cases c2 : F_Main_isWithin what 0 1 = 0
    · rw [if_neg (not_not_intro c2), if_neg (not_not_intro c2)]; exact ⟨_, _, _, rfl, rfl, h⟩
    rw [if_pos c2, if_pos c2]
    obtain ⟨σ0, μ0, f1, f2, b, vc, vm, sc, sm, k1, k2, k3⟩ := h.begin2 hi hj 0
    unfold F_Model_bouts F_Model_bouts_0
    rw [f1, f2]
    simp only [ob1]
    obtain ⟨τ, υ, v', t', g1, g2, b', wc, wm, ok, -, oc, om⟩ := b.play vc vm (ok0 k1 k2) (Nat.zero_le _) (e := 40) (Nat.le_refl _) (x := 40) rfl
    rw [g1, g2]
    simp only []
    have hr : Rel τ υ na nt := h.scr (sc.tr oc.same) (sm.tr om.same)
    have hw := winner_eq (wc.1.trans wm.1.symm) (nI i) (nI j)
    unfold F_Model_wins_48 F_Model_wins_53
    have ov := over_C τ
    rw [wc.1] at ov
    rw [wm.1, hw]
    by_cases w0 : what = 0
    · rw [if_neg (not_not_intro w0)]
      by_cases c30 : v'.1 = 30
      · rw [if_pos c30, if_neg (not_not_intro w0)]; exact ⟨_, _, _, rfl, rfl, hr⟩
      · rw [if_neg c30]
        by_cases m30 : v'.1 = -30
        · rw [if_neg (not_not_intro m30), if_neg (not_not_intro w0)]; exact ⟨_, _, _, rfl, rfl, hr⟩
        · rw [if_pos m30, if_neg (not_not_intro w0)]; exact ⟨_, _, _, rfl, rfl, hr⟩
    · rw [if_pos w0]
      have a30 := ang30 ok.1
      by_cases c : F_Main_isWithin v'.1 (-29) 29 = 0
      · rw [if_neg (fun q => (ov.mp q) c), wc.2.2.2.2.2, wm.2.2.2.2]
        rcases a30.mp c with z | z
        · rw [if_pos z, if_pos w0, if_neg one_ne]; exact ⟨_, _, _, rfl, rfl, hr⟩
        · rw [z, if_neg (by decide), if_neg (by decide), if_pos w0, if_neg one_ne]; exact ⟨_, _, _, rfl, rfl, hr⟩
      · rw [if_pos (ov.mpr c), if_neg (fun q => c (a30.mpr (Or.inl q))), if_pos (fun q => c (a30.mpr (Or.inr q))), if_pos w0, if_pos rfl]
        exact ⟨_, _, _, rfl, rfl, hr⟩
  · rw [e1, e2]
    exact ⟨_, _, _, rfl, rfl, h⟩
theorem line_at : ∀ k, k ≤ 59 → (((30 : Int32) ≤ nI k - 29 ↔ k = 59) ∧ (-30 : Int32) ≤ nI k - 29 ∧ nI k - 29 ≤ 30) := by decide +kernel
theorem line_next (k : Nat) : nI k - 29 + 1 = nI (k + 1) - 29 := by
  rw [← nI_1, Int32.sub_eq_add_neg, Int32.sub_eq_add_neg, Int32.add_assoc, Int32.add_comm (-29) 1, ← Int32.add_assoc]
theorem line_loop {i j : Nat} : ∀ (n k : Nat) (σ μ : St) (na nt : Nat), Rel σ μ na nt → i < na → j < na → k ≤ 59 → 59 - k < n → ∃ r σ' μ', F_Main_line_15 n σ (nI i) (nI j) (nI k - 29) = some (r, σ') ∧ F_Model_line_15 n μ (nI i) (nI j) (nI k - 29) = some (r, μ') ∧ Rel σ' μ' na nt := by
  intro n
  induction n with
  | zero => intro k σ μ na nt _ _ _ _ h; omega
  | succ n ih =>
    intro k σ μ na nt h hi hj hk hn
    obtain ⟨l1, l2, l3⟩ := line_at k hk
    rw [F_Main_line_15, F_Model_line_15]
    by_cases c : (30 : Int32) ≤ nI k - 29
    · rw [if_pos c, if_pos c]; exact ⟨_, _, _, rfl, rfl, h⟩
    · rw [if_neg c, if_neg c]
      have hk2 : k < 59 := by
        rcases Nat.lt_or_ge k 59 with q | q
        · exact q
        · exact absurd (l1.mpr (by omega)) c
      obtain ⟨σ0, μ0, f1, f2, b, vc, vm, sc, sm, k1, k2, k3⟩ := h.begin2 hi hj (nI k - 29)
      rw [f1, f2]
      simp only [ob1, lt]
      have o1 : OffC σ0 (up1 σ0 41 3 (nI k - 29)) := ⟨rfl, fun p j _ g _ _ _ => up1_off (by omega)⟩
      have vc2 : VwC (up1 σ0 41 3 (nI k - 29)).1 (nI k - 29, σ.1 (27 + i) 4, σ.1 (27 + j) 4, 0) 0 false := by
        obtain ⟨v1, v2, v3, v4, v5, v6⟩ := vc
        exact ⟨up1_on, (up1_off (by omega)).trans v2, (up1_off (by omega)).trans v3, (fun q => by cases q), (up1_off (by omega)).trans v5, (up1_off (by omega)).trans v6⟩
      obtain ⟨τ, υ, v', t', g1, g2, b', wc, wm, ok, -, oc, om⟩ := (b.go o1 OffM.rf).play vc2 vm ⟨⟨l2, l3⟩, k1, k2⟩ (Nat.zero_le _) (e := 40) (Nat.le_refl _) (x := 40) rfl
      rw [g1, g2]
      simp only []
      rw [wc.1, wm.1]
      have hr : Rel τ υ na nt := h.scr ((sc.tr o1.same).tr oc.same) (sm.tr om.same)
      by_cases c2 : v'.1 ≤ 0
      · rw [if_pos c2, if_pos c2, line_next]
        exact ih (k + 1) τ υ na nt hr hi hj (by omega) (by omega)
      · rw [if_neg c2, if_neg c2]
        exact ⟨_, _, _, rfl, rfl, hr⟩
theorem op_line {σ μ : St} {na nt : Nat} (h : Rel σ μ na nt) (v w : Int32) : ∃ r σ' μ', F_Main_line σ v w = some (r, σ') ∧ F_Model_line μ v w = some (r, μ') ∧ Rel σ' μ' na nt := by
  unfold F_Main_line F_Model_line F_Main_line_0 F_Model_line_0
  rcases twoC h v w with ⟨i, j, hi, hj, hij, rfl, rfl, e1, e2⟩ | ⟨e1, e2⟩
  · rw [e1, e2]
    simp only [ob1]
    rw [if_pos one_ne, if_pos one_ne, show (-29 : Int32) = nI 0 - 29 from rfl]
    exact line_loop FU 0 σ μ na nt h hi hj (by omega) (by rw [FU_eq]; omega)
  · rw [e1, e2]
    exact ⟨_, _, _, rfl, rfl, h⟩
/-- with how much hold a would win -/
theorem would2 {σ μ : St} {na nt : Nat} (h : Rel σ μ na nt) {i j : Nat} (hi : i < na) (hj : j < na) {x : Int32} (hx : HoldOk x) : ∃ σ' μ' ν v' t' r, F_Main_wouldWin σ (nI i) (nI j) x = some (r, σ') ∧ F_Model_begins μ (nI i) (nI j) 0 = some ν ∧ F_Model_goesOn (up1 ν 0 33 x) (nI i) (nI j) 40 = some μ' ∧ VwC σ'.1 v' t' false ∧ VwM μ'.1 v' t' ∧ VOk v' ∧ r = (if v'.1 ≤ 0 then 0 else 1) ∧ Rel σ' μ' na nt ∧ SameC σ σ' ∧ SameM μ μ' := by
  unfold F_Main_wouldWin F_Main_wouldWin_0
  obtain ⟨σ0, μ0, f1, f2, b, vc, vm, sc, sm, k1, k2, k3⟩ := h.begin2 hi hj 0
  rw [f1]
  simp only [ob1, lt]
  have o1 : OffC σ0 (up1 σ0 42 1 x) := ⟨rfl, fun p j _ _ g _ _ => up1_off (by omega)⟩
  have o2 : OffM μ0 (up1 μ0 0 33 x) := fun p j g _ _ => up1_off (by omega)
  obtain ⟨v1, v2, v3, v4, v5, v6⟩ := vc
  obtain ⟨w1, w2, w3, w4, w5⟩ := vm
  obtain ⟨τ, υ, v', t', g1, g2, b', wc, wm, ok, -, oc, om⟩ := (b.go o1 o2).play (v := (0, x, σ.1 (27 + j) 4, 0)) (t := 0) (w := false) ⟨(up1_off (by omega)).trans v1, up1_on, (up1_off (by omega)).trans v3, (fun q => by cases q), (up1_off (by omega)).trans v5, (up1_off (by omega)).trans v6⟩ ⟨(up1_off (by omega)).trans w1, up1_on, (up1_off (by omega)).trans w3, (up1_off (by omega)).trans w4, (up1_off (by omega)).trans w5⟩ (ok0 hx k2) (Nat.zero_le _) (e := 40) (Nat.le_refl _) (x := 40) rfl
  rw [g1]
  simp only []
  have s1 : SameC σ τ := (sc.tr o1.same).tr oc.same
  have s2 : SameM μ υ := (sm.tr o2.same).tr om.same
  have hr : Rel τ υ na nt := h.scr s1 s2
  rw [wc.1]
  by_cases c : v'.1 ≤ 0
  · rw [if_pos c]
    exact ⟨τ, υ, μ0, v', t', 0, rfl, f2, g2, wc, wm, ok, by rw [if_pos c], hr, s1, s2⟩
  · rw [if_neg c]
    exact ⟨τ, υ, μ0, v', t', 1, rfl, f2, g2, wc, wm, ok, by rw [if_neg c], hr, s1, s2⟩
theorem needs_loop {i j : Nat} : ∀ (n k : Nat) (σ μ : St) (na nt : Nat), Rel σ μ na nt → i < na → j < na → k ≤ 25 → 25 - k < n → ∃ r σ' μ', F_Main_needs_14 n σ (nI i) (nI j) (nI k) = some (r, σ') ∧ F_Model_needs_14 n μ (nI i) (nI j) (nI k) = some (r, μ') ∧ Rel σ' μ' na nt := by
  intro n
  induction n with
  | zero => intro k σ μ na nt _ _ _ _ h; omega
  | succ n ih =>
    intro k σ μ na nt h hi hj hk hn
    rw [F_Main_needs_14, F_Model_needs_14]
    by_cases c : k = 25
    · subst c
      rw [if_pos (by decide), if_pos (by decide)]; exact ⟨_, _, _, rfl, rfl, h⟩
    · rw [if_neg (show ¬ (24 : Int32) < nI k from nI_nlt (a := 24) (b := k) (by omega) (by omega)), if_neg (show ¬ (24 : Int32) < nI k from nI_nlt (a := 24) (b := k) (by omega) (by omega))]
      obtain ⟨σ', μ', ν, v', t', r, e1, e2, e3, wc, wm, ok, er, hr, -, -⟩ := would2 h hi hj (x := nI k) ⟨k, by omega, rfl⟩
      rw [e1, e2]
      simp only [ob1, ob2, lt]
      rw [e3]
      simp only []
      rw [wm.1, er]
      by_cases c2 : v'.1 ≤ 0
      · rw [if_pos c2, if_pos rfl, if_pos c2, nI_1]
        exact ih (k + 1) σ' μ' na nt hr hi hj (by omega) (by omega)
      · rw [if_neg c2, if_neg one_ne, if_neg c2]
        exact ⟨_, _, _, rfl, rfl, hr⟩
theorem op_needs {σ μ : St} {na nt : Nat} (h : Rel σ μ na nt) (v w : Int32) : ∃ r σ' μ', F_Main_needs σ v w = some (r, σ') ∧ F_Model_needs μ v w = some (r, μ') ∧ Rel σ' μ' na nt := by
  unfold F_Main_needs F_Model_needs F_Main_needs_0 F_Model_needs_0
  rcases twoC h v w with ⟨i, j, hi, hj, hij, rfl, rfl, e1, e2⟩ | ⟨e1, e2⟩
  · rw [e1, e2]
    simp only [ob1]
    rw [if_pos one_ne, if_pos one_ne]
    exact needs_loop FU 0 σ μ na nt h hi hj (by omega) (by rw [FU_eq]; omega)
  · rw [e1, e2]
    exact ⟨_, _, _, rfl, rfl, h⟩
