/-! ===== how hard: best, even ===== -/
theorem play_fuel {L : Law} {A B : Sd} {e : Nat} : ∀ (n m t : Nat) (v : BS), e - t < n → e - t < m → playV L A B n t e v = playV L A B m t e v := by
  intro n
  induction n with
  | zero => intro m t v h; omega
  | succ n ih =>
    intro m t v h1 h2
    obtain ⟨m', rfl⟩ : ∃ m', m = m' + 1 := ⟨m - 1, by omega⟩
    rw [playV, playV]
    by_cases c : e ≤ t
    · rw [if_pos c, if_pos c]
    · rw [if_neg c, if_neg c]
      by_cases c2 : F_Main_isWithin v.1 (-29) 29 = 0
      · rw [if_pos c2, if_pos c2]
      · rw [if_neg c2, if_neg c2]
        exact ih m' (t + 1) _ (by omega) (by omega)
theorem play_over {L : Law} {A B : Sd} {n t e : Nat} {v : BS} (h : F_Main_isWithin v.1 (-29) 29 = 0) : (playV L A B n t e v).1 = v := by
  cases n with
  | zero => rfl
  | succ n =>
    rw [playV]
    by_cases c : e ≤ t
    · rw [if_pos c]
    · rw [if_neg c, if_pos h]
theorem play_split {L : Law} {A B : Sd} {e1 e2 : Nat} (h12 : e1 ≤ e2) : ∀ (n1 t n n2 : Nat) (v : BS), t ≤ e1 → e1 - t < n1 → e2 - t < n → e2 - e1 < n2 → (playV L A B n2 e1 e2 (playV L A B n1 t e1 v).1).1 = (playV L A B n t e2 v).1 := by
  intro n1
  induction n1 with
  | zero => intro t n n2 v _ h; omega
  | succ n1 ih =>
    intro t n n2 v ht g1 g2 g3
    obtain ⟨n', rfl⟩ : ∃ n', n = n' + 1 := ⟨n - 1, by omega⟩
    rw [playV]
    by_cases c : e1 ≤ t
    · rw [if_pos c]
      have : t = e1 := by omega
      subst this
      rw [play_fuel n2 (n' + 1) t v g3 g2]
    · rw [if_neg c]
      by_cases c2 : F_Main_isWithin v.1 (-29) 29 = 0
      · rw [if_pos c2, play_over c2, play_over c2]
      · rw [if_neg c2, ih (t + 1) n' n2 _ (by omega) (by omega) (by omega) g3]
        conv => rhs; rw [playV, if_neg (show ¬ e2 ≤ t by omega), if_neg c2]
theorem play_end {L : Law} {A B : Sd} {e : Nat} : ∀ (n t : Nat) (v : BS), t ≤ e → e - t < n → ((playV L A B n t e v).2 = e ∨ F_Main_isWithin (playV L A B n t e v).1.1 (-29) 29 = 0) ∧ (playV L A B n t e v).2 ≤ e := by
  intro n
  induction n with
  | zero => intro t v _ h; omega
  | succ n ih =>
    intro t v ht hn
    rw [playV]
    by_cases c : e ≤ t
    · rw [if_pos c]; exact ⟨Or.inl (show t = e by omega), ht⟩
    · rw [if_neg c]
      by_cases c2 : F_Main_isWithin v.1 (-29) 29 = 0
      · rw [if_pos c2]; exact ⟨Or.inr c2, ht⟩
      · rw [if_neg c2]
        exact ih (t + 1) _ (by omega) (by omega)
theorem play_plan {L : Law} {f : Nat → Int32} {P P' late : Int32} {B : Sd} {e : Nat} : ∀ (n t : Nat) (v : BS), (∀ u, u < e → F_Model_hardIn P (nI u) = F_Model_hardIn P' (nI u)) → playV L (f, P, late) B n t e v = playV L (f, P', late) B n t e v := by
  intro n
  induction n with
  | zero => intro t v _; rfl
  | succ n ih =>
    intro t v h
    rw [playV, playV]
    by_cases c : e ≤ t
    · rw [if_pos c, if_pos c]
    · rw [if_neg c, if_neg c]
      have es : stepV L (f, P, late) B (nI t) v = stepV L (f, P', late) B (nI t) v := by
        have eh : hardV P late (nI t) = hardV P' late (nI t) := by
          unfold hardV
          rw [h t (by omega)]
        unfold stepV
        rw [eh]
      rw [ih (t + 1) _ h, es]
theorem hardIn_r (P : Int32) {u : Nat} (hu : u < 40) : F_Model_hardIn P (nI u) = F_Model_hardIn P (nI (10 * (u / 10))) := by
  have e : ∀ a : Nat, a < 2 ^ 31 → nI a / 10 = nI (a / 10) := fun a ha => pk_div (d := 10) ha (by decide) (by decide)
  unfold F_Model_hardIn F_Model_hardIn_0
  rw [e u (by omega), e (10 * (u / 10)) (by omega), show 10 * (u / 10) / 10 = u / 10 by omega]
def fo (k : Nat) : Nat := if k % 64 = 0 then 0 else if k % 16 = 0 then 1 else if k % 4 = 0 then 2 else 3
theorem fo3 (k : Nat) : fo k ≤ 3 := by
  unfold fo
  (repeat' split) <;> omega
noncomputable def pl (k : Nat) : Int32 := F_Model_planNumber (nI k)
theorem best_fo : ∀ k, k < 256 → F_Seeker_firstOther (nI k) = nI (fo k) := by decide +kernel
theorem best_t1 : ∀ k, k < 255 → ∀ r, r < fo (k + 1) → F_Model_hardIn (F_Model_planNumber (nI (k + 1))) (nI (10 * r)) = F_Model_hardIn (F_Model_planNumber (nI k)) (nI (10 * r)) := by decide +kernel
theorem best_t2 : ∀ k, k < 256 → ¬ F_Model_planNumber (nI k) = -1 := by decide +kernel
theorem best_t3 : ∀ a, a < 4 → ∀ b, b < 4 → ∀ c, c < 4 → ∀ d, d < 4 → F_Model_planNumber (nI (64 * a + 16 * b + 4 * c + d)) = nI (1000 * a + 100 * b + 10 * c + d) := by decide +kernel
theorem plan_k {x : Int32} (h : PlanOk x) : ∃ k, k < 256 ∧ pl k = x := by
  obtain ⟨p, h1, rfl, h2, h3, h4⟩ := h
  have ha : p / 1000 < 4 := by omega
  refine ⟨64 * (p / 1000) + 16 * (p / 100 % 10) + 4 * (p / 10 % 10) + p % 10, by omega, ?_⟩
  unfold pl
  rw [best_t3 (p / 1000) ha (p / 100 % 10) (by omega) (p / 10 % 10) (by omega) (p % 10) (by omega)]
  congr 1
  omega
theorem CtxC.fr2 {σ τ : St} {pa pb q : Nat} {L : Law} {A B : Sd} (h : CtxC σ pa pb q L A B) (o1 : τ.2 = σ.2) (o2 : ∀ p k, (8 ≤ p ∧ p < 33) ∨ ((p = 42 ∨ p = 44) ∧ 2 ≤ k) ∨ ((p = 43 ∨ p = 45) ∧ k ≤ 1) → τ.1 p k = σ.1 p k) : CtxC τ pa pb q L A B := by
  obtain ⟨h1, h2, h3, h4, h5, h6, ⟨g0, g1, g2, g3, g4⟩, ⟨a1, a2, a3, a4, a5⟩, ⟨b1, b2, b3, b4, b5⟩⟩ := h
  have f : ∀ p, (8 ≤ p ∧ p < 33) → τ.1 p = σ.1 p := fun p hp => funext fun j => o2 p j (by omega)
  exact ⟨h1, h2, h3, by rw [o1, h4], by rw [o1, h5], by rw [o1, h6], ⟨g0, by rw [f _ (by omega), g1], by rw [f _ (by omega), g2], by rw [f _ (by omega), g3], by rw [f _ (by omega), g4]⟩, ⟨by rw [f _ (by omega), a1], by rw [o2 _ _ (by omega), a2], by rw [o2 _ _ (by omega), a3], by rw [o2 _ _ (by omega), a4], by rw [o2 _ _ (by omega), a5]⟩, ⟨by rw [f _ (by omega), b1], by rw [o2 _ _ (by omega), b2], by rw [o2 _ _ (by omega), b3], by rw [o2 _ _ (by omega), b4], by rw [o2 _ _ (by omega), b5]⟩⟩
theorem CtxC.plan {σ : St} {pa pb q : Nat} {L : Law} {f : Nat → Int32} {P late : Int32} {B : Sd} (h : CtxC σ pa pb q L (f, P, late) B) (P' : Int32) : CtxC (up1 σ 42 2 P') pa pb q L (f, P', late) B := by
  obtain ⟨h1, h2, h3, h4, h5, h6, ⟨g0, g1, g2, g3, g4⟩, ⟨a1, a2, a3, a4, a5⟩, ⟨b1, b2, b3, b4, b5⟩⟩ := h
  have f : ∀ p, (8 ≤ p ∧ p < 33) → (up1 σ 42 2 P').1 p = σ.1 p := fun p hp => up1_ne (by omega)
  exact ⟨h1, h2, h3, h4, h5, h6, ⟨g0, by rw [f _ (by omega), g1], by rw [f _ (by omega), g2], by rw [f _ (by omega), g3], by rw [f _ (by omega), g4]⟩, ⟨by rw [f _ (by omega)]; exact a1, up1_on, (up1_off (by omega)).trans a3, (up1_off (by omega)).trans a4, (up1_off (by omega)).trans a5⟩, ⟨by rw [f _ (by omega), b1], (up1_off (by omega)).trans b2, (up1_off (by omega)).trans b3, (up1_off (by omega)).trans b4, (up1_off (by omega)).trans b5⟩⟩
theorem CtxM.plan {b b' : Nat → Nat → Int32} {i j lw : Nat} {L : Law} {A B : Sd} (h : CtxM b i j lw L A B) (hij : i ≠ j) {P : Int32} (o : ∀ p k, (p = 0 ∧ (k = 11 ∨ k = 37 ∨ k = 38)) ∨ (1 ≤ p ∧ p ≤ 8) → ¬ (p = 5 ∧ k = i) → b' p k = b p k) (e : b' 5 i = P) : CtxM b' i j lw L (A.1, P, A.2.2) B := by
  obtain ⟨h1, h2, h3, h4, ⟨g0, g1, g2, g3, g4, g5⟩, ⟨a1, ⟨a2, a3, a4⟩, a5, a6⟩, ⟨b1, ⟨b2, b3, b4⟩, b5, b6⟩⟩ := h
  exact ⟨h1, h2, h3, (o _ _ (by omega) (by omega)).trans h4, ⟨g0, (o _ _ (by omega) (by omega)).trans g1, (o _ _ (by omega) (by omega)).trans g2, (o _ _ (by omega) (by omega)).trans g3, (o _ _ (by omega) (by omega)).trans g4, fun k hk => by rw [o _ _ (by omega) (by omega)]; exact g5 k hk⟩, ⟨a1, ⟨(o _ _ (by omega) (by omega)).trans a2, (o _ _ (by omega) (by omega)).trans a3, (o _ _ (by omega) (by omega)).trans a4⟩, e, by show A.1 3 + b' 0 37 = A.2.2; rw [o _ _ (by omega) (by omega)]; exact a6⟩, ⟨b1, ⟨(o _ _ (by omega) (by omega)).trans b2, (o _ _ (by omega) (by omega)).trans b3, (o _ _ (by omega) (by omega)).trans b4⟩, (o _ _ (by omega) (by omega)).trans b5, by rw [o _ _ (by omega) (by omega)]; exact b6⟩⟩
section SK
variable {σ μ : St} {na nt lw i j : Nat}
/-- both sides of a bout under the plan of a number; how it stands behind so many parts -/
noncomputable def seekA (σ : St) (i k : Nat) : Sd := (σ.1 (27 + i), pl k, σ.1 (27 + i) 3 + 0)
noncomputable def seekX (σ : St) (lw i j k r : Nat) : BS := (playV (lawT σ lw) (seekA σ i k) (sdT σ j 0) FU 0 (10 * r) (0, σ.1 (27 + i) 4, σ.1 (27 + j) 4, 0)).1
theorem seekX_0 (k : Nat) : seekX σ lw i j k 0 = (0, σ.1 (27 + i) 4, σ.1 (27 + j) 4, 0) := by
  unfold seekX
  rw [FU_eq, playV, if_pos (by omega)]
theorem seekX_next {k r : Nat} (hk : k < 256) (hr : r ≤ fo (k + 1)) : seekX σ lw i j (k + 1) r = seekX σ lw i j k r := by
  unfold seekX seekA
  rw [play_plan (P := pl (k + 1)) (P' := pl k)]
  intro u hu
  have r3 := fo3 (k + 1)
  by_cases c : k = 255
  · subst c
    have : fo (255 + 1) = 0 := by decide
    omega
  · rw [hardIn_r _ (show u < 40 by omega), hardIn_r (pl k) (show u < 40 by omega)]
    exact best_t1 k (by omega) (u / 10) (by omega)
theorem seekX_succ {k r : Nat} (hr : r < 4) (t : Nat) (ht : t ≤ 10 * r) (hor : t = 10 * r ∨ F_Main_isWithin (seekX σ lw i j k r).1 (-29) 29 = 0) : (playV (lawT σ lw) (seekA σ i k) (sdT σ j 0) FU t (10 * (r + 1)) (seekX σ lw i j k r)).1 = seekX σ lw i j k (r + 1) := by
  have e : (playV (lawT σ lw) (seekA σ i k) (sdT σ j 0) FU (10 * r) (10 * (r + 1)) (seekX σ lw i j k r)).1 = seekX σ lw i j k (r + 1) := by
    unfold seekX
    exact play_split (by omega) FU 0 FU FU _ (by omega) (by rw [FU_eq]; omega) (by rw [FU_eq]; omega) (by rw [FU_eq]; omega)
  rcases hor with rfl | ho
  · exact e
  · rw [← e, play_over ho, play_over ho]
/-- the class's side at a number, all parts kept below one -/
def SkC (σ : St) (lw i j k : Nat) (τ : St) : Prop := SameC σ τ ∧ CtxC τ (27 + i) (27 + j) (8 + lw) (lawT σ lw) (seekA σ i k) (sdT σ j 0) ∧ τ.1 41 6 = 0
def SkV (σ : St) (lw i j k r : Nat) (τ : St) : Prop := τ.1 41 3 = (seekX σ lw i j k r).1 ∧ τ.1 42 1 = (seekX σ lw i j k r).2.1 ∧ τ.1 44 1 = (seekX σ lw i j k r).2.2.1
def SkK (σ : St) (lw i j k r : Nat) (τ : St) : Prop := τ.1 47 r = (seekX σ lw i j k r).1 ∧ τ.1 48 r = (seekX σ lw i j k r).2.1 ∧ τ.1 49 r = (seekX σ lw i j k r).2.2.1
theorem keep_at (σ : St) {r : Nat} (hr : r < 4) : ∃ τ, F_Seeker_keep σ (nI r) = some τ ∧ τ.2 = σ.2 ∧ τ.1 47 r = σ.1 41 3 ∧ τ.1 48 r = σ.1 42 1 ∧ τ.1 49 r = σ.1 44 1 ∧ ∀ p k, ¬ (47 ≤ p ∧ p ≤ 49 ∧ k = r) → τ.1 p k = σ.1 p k := by
  unfold F_Seeker_keep F_Seeker_keep_0
  simp only [inB_nI hr (show 4 < 2 ^ 31 by decide), if_true, nI_clamp (show r < 2 ^ 31 by omega), lt]
  refine ⟨_, rfl, rfl, ?_, ?_, ?_, fun p k h => ?_⟩
  · rw [up1_off (by omega), up1_off (by omega), up1_on]
  · rw [up1_off (by omega), up1_on, up1_off (by omega)]
  · rw [up1_on, up1_off (by omega), up1_off (by omega)]
  · rw [up1_off (by omega), up1_off (by omega), up1_off (by omega)]
theorem from_loop {k : Nat} : ∀ (n r t : Nat) (τ : St), SkC σ lw i j k τ → SkV σ lw i j k r τ → (∀ r', r' < r → SkK σ lw i j k r' τ) → τ.1 41 4 = nI t → t ≤ 10 * r → (t = 10 * r ∨ F_Main_isWithin (seekX σ lw i j k r).1 (-29) 29 = 0) → r ≤ 4 → 4 - r < n → ∃ τ', F_Seeker_playFrom_58 n τ (nI r) = some τ' ∧ SkC σ lw i j k τ' ∧ SkV σ lw i j k 4 τ' ∧ (∀ r', r' < 4 → SkK σ lw i j k r' τ') ∧ (∀ c, τ'.1 46 c = τ.1 46 c) := by
  intro n
  induction n with
  | zero => intro r t τ _ _ _ _ _ _ _ h; omega
  | succ n ih =>
    intro r t τ hC hV hK ht ht2 hor hr hn
    rw [F_Seeker_playFrom_58]
    by_cases c : r = 4
    · subst c
      rw [if_pos (by decide)]
      exact ⟨τ, rfl, hC, hV, hK, fun _ => rfl⟩
    · rw [if_neg (show ¬ (4 : Int32) ≤ nI r from nI_ge (a := r) (b := 4) (by omega) (by decide))]
      obtain ⟨τ1, e1, k0, k1, k2, k3, k4⟩ := keep_at τ (r := r) (by omega)
      rw [e1]
      simp only [ob1_some]
      have C1 := hC.2.1.fr2 (τ := τ1) k0 (fun p q g => k4 p q (by omega))
      have V1 : VwC τ1.1 (seekX σ lw i j k r) t false := ⟨(k4 _ _ (by omega)).trans hV.1, (k4 _ _ (by omega)).trans hV.2.1, (k4 _ _ (by omega)).trans hV.2.2, (fun q => by cases q), (k4 _ _ (by omega)).trans hC.2.2, (k4 _ _ (by omega)).trans ht⟩
      obtain ⟨τ2, e2, o2, w2, w3⟩ := play_C (e := 10 * (r + 1)) (by omega) FU τ1 _ t C1 V1 (by omega) (by rw [FU_eq]; omega)
      have e3 : F_Bout_playTo τ1 ((nI r + 1) * 10) = some τ2 := by
        unfold F_Bout_playTo F_Bout_playTo_0
        rw [V1.2.2.2.2.2, nI_1, show (10 : Int32) = nI 10 from rfl, pk_mul, show (r + 1) * 10 = 10 * (r + 1) by omega]
        exact e2
      rw [e3]
      simp only [ob1_some]
      have pe := play_end (L := lawT σ lw) (A := seekA σ i k) (B := sdT σ j 0) (e := 10 * (r + 1)) FU t (seekX σ lw i j k r) (by omega) (by rw [FU_eq]; omega)
      rw [seekX_succ (by omega) t ht2 hor] at w2 pe
      rw [nI_1]
      have oS := o2.same
      have hK2 : ∀ r', r' < r + 1 → SkK σ lw i j k r' τ2 := by
        intro r' hr'
        have o47 : ∀ p, 47 ≤ p → τ2.1 p r' = τ1.1 p r' := fun p hp => o2.2 p r' (by omega) (by omega) (by omega) (by omega) (by omega)
        by_cases cr : r' = r
        · subst cr
          exact ⟨by rw [o47 _ (by omega), k1]; exact hV.1, by rw [o47 _ (by omega), k2]; exact hV.2.1, by rw [o47 _ (by omega), k3]; exact hV.2.2⟩
        · obtain ⟨g1, g2, g3⟩ := hK r' (by omega)
          exact ⟨by rw [o47 _ (by omega), k4 _ _ (by omega)]; exact g1, by rw [o47 _ (by omega), k4 _ _ (by omega)]; exact g2, by rw [o47 _ (by omega), k4 _ _ (by omega)]; exact g3⟩
      obtain ⟨τ3, f1, f2, f3, f4, f5⟩ := ih (r + 1) _ τ2 ⟨(hC.1.tr (fun p q g => k4 p q (by unfold ScC at g; omega))).tr oS, C1.go o2, w2.2.2.2.2.1⟩ ⟨w2.1, w2.2.1, w2.2.2.1⟩ hK2 w2.2.2.2.2.2 pe.2 pe.1 (by omega) (by omega)
      exact ⟨τ3, f1, f2, f3, f4, fun c => (f5 c).trans ((o2.2 46 c (by omega) (by omega) (by omega) (by omega) (by omega)).trans (k4 46 c (by omega)))⟩
theorem from_at {k : Nat} {τ : St} (hC : SkC σ lw i j k τ) (hK : ∀ r, r ≤ fo k → SkK σ lw i j k r τ) : ∃ τ', F_Seeker_playFrom τ (nI (fo k)) = some τ' ∧ SkC σ lw i j k τ' ∧ SkV σ lw i j k 4 τ' ∧ (∀ r', r' < 4 → SkK σ lw i j k r' τ') ∧ (∀ c, τ'.1 46 c = τ.1 46 c) := by
  have f3 := fo3 k
  unfold F_Seeker_playFrom F_Seeker_playFrom_0
  simp only [inB_nI (show fo k < 4 by omega) (show 4 < 2 ^ 31 by decide), if_true, nI_clamp (show fo k < 2 ^ 31 by omega), lt]
  generalize er : fo k = r at *
  obtain ⟨g1, g2, g3⟩ := hK r (Nat.le_refl _)
  have o : ∀ p q, ¬ (p = 41 ∧ (q = 3 ∨ q = 4)) → ¬ (p = 42 ∧ q = 1) → ¬ (p = 44 ∧ q = 1) → (up1 (up1 (up1 (up1 τ 41 4 (nI r * 10)) 41 3 ((up1 τ 41 4 (nI r * 10)).1 47 r)) 42 1 ((up1 (up1 τ 41 4 (nI r * 10)) 41 3 ((up1 τ 41 4 (nI r * 10)).1 47 r)).1 48 r)) 44 1 ((up1 (up1 (up1 τ 41 4 (nI r * 10)) 41 3 ((up1 τ 41 4 (nI r * 10)).1 47 r)) 42 1 ((up1 (up1 τ 41 4 (nI r * 10)) 41 3 ((up1 τ 41 4 (nI r * 10)).1 47 r)).1 48 r)).1 49 r)).1 p q = τ.1 p q := fun p q h1 h2 h3 => by rw [up1_off (by omega), up1_off (by omega), up1_off (by omega), up1_off (by omega)]
  refine (from_loop FU r (10 * r) _ ⟨hC.1.tr (fun p q g => o p q (by unfold ScC at g; omega) (by unfold ScC at g; omega) (by unfold ScC at g; omega)), hC.2.1.fr2 rfl (fun p q g => o p q (by omega) (by omega) (by omega)), (o _ _ (by omega) (by omega) (by omega)).trans hC.2.2⟩ ⟨?_, ?_, ?_⟩ (fun r' hr' => ?_) ?_ (Nat.le_refl _) (Or.inl rfl) (by omega) (by rw [FU_eq]; omega)).imp (fun τ' x => ⟨x.1, x.2.1, x.2.2.1, x.2.2.2.1, fun c => (x.2.2.2.2 c).trans (o 46 c (by omega) (by omega) (by omega))⟩)
  · rw [up1_off (by omega), up1_off (by omega), up1_on, up1_off (by omega)]; exact g1
  · rw [up1_off (by omega), up1_on, up1_off (by omega), up1_off (by omega)]; exact g2
  · rw [up1_on, up1_off (by omega), up1_off (by omega), up1_off (by omega)]; exact g3
  · obtain ⟨x1, x2, x3⟩ := hK r' (by omega)
    exact ⟨(o _ _ (by omega) (by omega) (by omega)).trans x1, (o _ _ (by omega) (by omega) (by omega)).trans x2, (o _ _ (by omega) (by omega) (by omega)).trans x3⟩
  · rw [up1_off (by omega), up1_off (by omega), up1_off (by omega), up1_on, show (10 : Int32) = nI 10 from rfl, pk_mul, show r * 10 = 10 * r by omega]
/-- both at a number -/
def SeekI (σ μ : St) (lw i j : Nat) (own : Int32) (k : Nat) (τ υ : St) : Prop := SameC σ τ ∧ (∀ p c, ¬ ScM p c → ¬ (p = 5 ∧ c = i) → υ.1 p c = μ.1 p c) ∧ (∃ P, CtxC τ (27 + i) (27 + j) (8 + lw) (lawT σ lw) (σ.1 (27 + i), P, σ.1 (27 + i) 3 + 0) (sdT σ j 0)) ∧ τ.1 41 6 = 0 ∧ (∀ r, r ≤ fo k → SkK σ lw i j k r τ) ∧ (k = 0 → υ.1 0 39 = -1) ∧ (1 ≤ k → (∃ k', k' < 256 ∧ υ.1 0 39 = pl k') ∧ τ.1 46 4 = υ.1 0 39 ∧ τ.1 46 5 = υ.1 0 40 ∧ τ.1 46 6 = υ.1 0 41) ∧ ∀ k', k' < k → pl k' = own → τ.1 46 7 = (seekX σ lw i j k' 4).1
theorem seek_loop (h : Rel σ μ na nt) (hl : lw < nt) (hm : μ.1 0 11 = nI lw) (hi : i < na) (hj : j < na) (hij : i ≠ j) (own was : Int32) : ∀ (n k : Nat) (τ υ : St), SeekI σ μ lw i j own k τ υ → k ≤ 256 → 256 - k < n → ∃ τ' υ', F_Seeker_seek_18 n τ own (nI k) = some τ' ∧ F_Model_findsBest_15 n υ (nI i) (nI j) was (nI k) = some (up1 υ' 5 i was) ∧ SeekI σ μ lw i j own 256 τ' υ' := by
  intro n
  induction n with
  | zero => intro k τ υ _ _ h; omega
  | succ n ih =>
    intro k τ υ hI hk hn
    have hn6 := h.1.1
    have i6 := inB_nI (k := i) (n := 6) (by omega) (by decide)
    have cl : (nI i).toNatClampNeg = i := nI_clamp (by omega)
    rw [F_Seeker_seek_18, F_Model_findsBest_15]
    by_cases c : k = 256
    · subst c
      rw [if_pos (by decide), if_pos (by decide), if_pos i6, cl]
      exact ⟨τ, υ, rfl, rfl, hI⟩
    · have c256 : ¬ (256 : Int32) ≤ nI k := nI_ge (a := k) (b := 256) (by omega) (by decide)
      rw [if_neg c256, if_neg c256, if_pos i6, cl]
      simp only [lt]
      obtain ⟨s1, s2, ⟨P, s3⟩, s4, s5, s6, s7, s8⟩ := hI
      have hC : SkC σ lw i j k (up1 τ 42 2 (F_Model_planNumber (nI k))) := ⟨s1.tr (fun p q g => up1_off (by unfold ScC at g; omega)), s3.plan _, (up1_off (by omega)).trans s4⟩
      obtain ⟨τ1, e1, C1, V1, K1, f1⟩ := from_at hC (fun r hr => by
        obtain ⟨x1, x2, x3⟩ := s5 r hr
        exact ⟨(up1_off (by omega)).trans x1, (up1_off (by omega)).trans x2, (up1_off (by omega)).trans x3⟩)
      have e1' : F_Seeker_playFrom (up1 τ 42 2 (((((nI k / 64) * 1000) + ((jrem (nI k / 16) 4) * 100)) + ((jrem (nI k / 4) 4) * 10)) + (jrem (nI k) 4))) (F_Seeker_firstOther (nI k)) = some τ1 := by
        rw [best_fo k (by omega)]
        exact e1
      rw [e1']
      simp only [ob1_some]
      -- the reference's bout
      obtain ⟨ν, n1, n2, w⟩ := begins1 (ν := up1 υ 5 i (F_Model_planNumber (nI k))) (i := i) (j := j) (by omega) (by omega) 0
      have q1 : ∀ k', k' < 6 → (up1 υ 5 i (F_Model_planNumber (nI k))).1 4 k' = σ.1 (27 + k') 4 := fun k' hk' => (up1_off (by omega)).trans ((s2 4 k' (by unfold ScM; omega) (by omega)).trans (h.1.2.2.2.2 k' hk').2.2.2.1.symm)
      rw [q1 i (by omega), q1 j (by omega)] at w
      obtain ⟨m1, m2, -⟩ := h.2.2.2.2.2
      have CM0 := h.ctxM (t := lw) hl hi hj (ν := μ) (x := 0) (y := 0) (fun _ _ _ _ => rfl) hm m1 m2
      have nM : ∀ p c', ¬ ScM p c' → ¬ (p = 5 ∧ c' = i) → ν.1 p c' = μ.1 p c' := fun p c' g1 g2 => (n2 p c' (by unfold ScM at g1; omega) (by unfold ScM at g1; omega) (by unfold ScM at g1; omega)).trans ((up1_off g2).trans (s2 p c' g1 g2))
      have CM := CM0.plan hij (b' := ν.1) (P := pl k) (fun p c' g1 g2 => nM p c' (by unfold ScM; omega) g2) ((n2 5 i (by omega) (by omega) (by omega)).trans up1_on)
      obtain ⟨υ1, g1, g2, g3, -⟩ := goes_M (e := 40) (Nat.le_refl _) FU ν _ 0 CM w (Nat.zero_le _) (by rw [FU_eq]; omega)
      have e2 : F_Model_bouts (up1 υ 5 i (F_Model_planNumber (nI k))) (nI i) (nI j) = some υ1 := by
        unfold F_Model_bouts F_Model_bouts_0
        rw [n1]
        simp only [ob1_some]
        have g1' : F_Model_goesOn ν (nI i) (nI j) 40 = some υ1 := g1
        rw [g1']
        rfl
      rw [e2]
      simp only [ob1_some]
      have wX : VwM υ1.1 (seekX σ lw i j k 4) (playV (lawT σ lw) (seekA σ i k) (sdT σ j 0) FU 0 40 (0, σ.1 (27 + i) 4, σ.1 (27 + j) 4, 0)).2 := g3
      have uM : ∀ p c', ¬ ScM p c' → ¬ (p = 5 ∧ c' = i) → υ1.1 p c' = μ.1 p c' := fun p c' x1 x2 => (g2.same p c' x1).trans (nM p c' x1 x2)
      have u5 : υ1.1 5 i = pl k := (g2 5 i (by omega) (by omega) (by omega)).trans ((n2 5 i (by omega) (by omega) (by omega)).trans up1_on)
      have u39 : ∀ c', 39 ≤ c' → υ1.1 0 c' = υ.1 0 c' := fun c' hc' => (g2 0 c' (by omega) (by omega) (by omega)).trans ((n2 0 c' (by omega) (by omega) (by omega)).trans (up1_off (by omega)))
      have t2 : τ1.1 42 2 = pl k := C1.2.1.2.2.2.2.2.2.2.1.2.1
      -- on to the next number
      have hk1 : k + 1 ≤ 256 := by omega
      have hn1 : 256 - (k + 1) < n := by omega
      have nx : ∀ (τ2 υ2 : St), (∀ p c', p ≠ 46 → τ2.1 p c' = τ1.1 p c') → τ2.2 = τ1.2 → (∀ p c', ¬ (p = 0 ∧ 39 ≤ c') → υ2.1 p c' = υ1.1 p c') → (∃ k', k' < 256 ∧ υ2.1 0 39 = pl k') → τ2.1 46 4 = υ2.1 0 39 → τ2.1 46 5 = υ2.1 0 40 → τ2.1 46 6 = υ2.1 0 41 → τ2.1 46 7 = τ.1 46 7 → ∃ τ' υ', F_Seeker_seek_89 (fun z0 zv1 zv2 => F_Seeker_seek_18 n z0 zv1 zv2) τ2 own (nI k) = some τ' ∧ F_Model_findsBest_107 (fun z0 zv1 zv2 zv3 zv4 => F_Model_findsBest_15 n z0 zv1 zv2 zv3 zv4) υ2 (nI i) (nI j) was (nI k) = some (up1 υ' 5 i was) ∧ SeekI σ μ lw i j own 256 τ' υ' := by
        intro τ2 υ2 y1 y1b y2 y3 y4 y5 y6 y7
        unfold F_Seeker_seek_89 F_Seeker_seek_114 F_Model_findsBest_107
        rw [nI_1]
        have base : ∀ τ3 : St, (∀ p c', p ≠ 46 → τ3.1 p c' = τ2.1 p c') → τ3.2 = τ2.2 → (∀ c', c' < 7 → τ3.1 46 c' = τ2.1 46 c') → (∀ k', k' < k + 1 → pl k' = own → τ3.1 46 7 = (seekX σ lw i j k' 4).1) → SeekI σ μ lw i j own (k + 1) τ3 υ2 := by
          intro τ3 z1 z1b z2 z3
          have zz : ∀ p c', p ≠ 46 → τ3.1 p c' = τ1.1 p c' := fun p c' hp => (z1 p c' hp).trans (y1 p c' hp)
          refine ⟨C1.1.tr (fun p c' g => zz p c' (by unfold ScC at g; omega)), fun p c' x1 x2 => (y2 p c' (by unfold ScM at x1; omega)).trans (uM p c' x1 x2), ⟨pl k, C1.2.1.fr2 (z1b.trans y1b) (fun p c' g => zz p c' (by omega))⟩, (zz _ _ (by omega)).trans C1.2.2, fun r hr => ?_, fun q => by omega, fun _ => ⟨y3, (z2 4 (by omega)).trans y4, (z2 5 (by omega)).trans y5, (z2 6 (by omega)).trans y6⟩, z3⟩
          have r3 := fo3 (k + 1)
          obtain ⟨x1, x2, x3⟩ := K1 r (by omega)
          unfold SkK
          rw [seekX_next (by omega) hr, zz 47 r (by omega), zz 48 r (by omega), zz 49 r (by omega)]
          exact ⟨x1, x2, x3⟩
        have pk : τ2.1 42 2 = pl k := (y1 _ _ (by omega)).trans t2
        rw [pk]
        by_cases co : pl k = own
        · rw [if_neg (not_not_intro co)]
          simp only [lt]
          refine ih (k + 1) _ υ2 (base _ (fun p c' hp => up1_off (by omega)) rfl (fun c' hc' => up1_off (by omega)) (fun k' hk' ho => ?_)) hk1 hn1
          rw [up1_on, y1 _ _ (by omega), V1.1]
          have : seekX σ lw i j k 4 = seekX σ lw i j k' 4 := by
            unfold seekX seekA
            rw [co, ho]
          rw [this]
        · rw [if_pos co]
          refine ih (k + 1) _ υ2 (base _ (fun _ _ _ => rfl) rfl (fun _ _ => rfl) (fun k' hk' ho => ?_)) hk1 hn1
          by_cases ck : k' = k
          · subst ck; exact absurd ho co
          · exact y7.trans (s8 k' (by omega) ho)
      have take : ∃ τ' υ', F_Seeker_seek_85 (fun z0 zv1 zv2 => F_Seeker_seek_18 n z0 zv1 zv2) τ1 own (nI k) = some τ' ∧ F_Model_findsBest_81 (fun z0 zv1 zv2 zv3 zv4 => F_Model_findsBest_15 n z0 zv1 zv2 zv3 zv4) υ1 (nI i) (nI j) was (nI k) = some (up1 υ' 5 i was) ∧ SeekI σ μ lw i j own 256 τ' υ' := by
        unfold F_Seeker_seek_85 F_Model_findsBest_81 F_Seeker_take F_Seeker_take_0
        rw [if_pos i6, cl]
        simp only [lt]
        refine nx _ _ (fun p c' hp => by rw [up1_off (by omega), up1_off (by omega), up1_off (by omega)]) rfl (fun p c' hp => by rw [up1_off (by omega), up1_off (by omega), up1_off (by omega)]) ⟨k, by omega, ?_⟩ ?_ ?_ ?_ ?_
        · rw [up1_off (by omega), up1_off (by omega), up1_on, u5]
        · rw [up1_off (by omega), up1_off (by omega), up1_on, up1_off (by omega), up1_off (by omega), up1_on, t2, u5]
        · rw [up1_off (by omega), up1_on, up1_off (by omega), up1_off (by omega), up1_on, up1_off (by omega), V1.1, wX.1]
        · rw [up1_on, up1_off (by omega), up1_off (by omega), up1_on, up1_off (by omega), up1_off (by omega), V1.2.1, wX.2.1]
        · rw [up1_off (by omega), up1_off (by omega), up1_off (by omega), f1, up1_off (by omega)]
      by_cases c0 : k = 0
      · have z : υ1.1 0 39 = -1 := (u39 39 (by omega)).trans (s6 c0)
        rw [if_pos (show nI k = 0 by rw [c0]; rfl), if_pos z]
        exact take
      · obtain ⟨⟨k', hk', y0⟩, y4, y5, y6⟩ := s7 (by omega)
        have z : ¬ υ1.1 0 39 = -1 := by
          rw [u39 39 (by omega), y0]
          exact best_t2 k' hk'
        have leave : ∃ τ' υ', F_Seeker_seek_89 (fun z0 zv1 zv2 => F_Seeker_seek_18 n z0 zv1 zv2) τ1 own (nI k) = some τ' ∧ F_Model_findsBest_107 (fun z0 zv1 zv2 zv3 zv4 => F_Model_findsBest_15 n z0 zv1 zv2 zv3 zv4) υ1 (nI i) (nI j) was (nI k) = some (up1 υ' 5 i was) ∧ SeekI σ μ lw i j own 256 τ' υ' := by
          have t46 : ∀ c', τ1.1 46 c' = τ.1 46 c' := fun c' => (f1 c').trans (up1_off (by omega))
          exact nx τ1 υ1 (fun _ _ _ => rfl) rfl (fun _ _ _ => rfl) ⟨k', hk', (u39 39 (by omega)).trans y0⟩ ((t46 4).trans (y4.trans (u39 39 (by omega)).symm)) ((t46 5).trans (y5.trans (u39 40 (by omega)).symm)) ((t46 6).trans (y6.trans (u39 41 (by omega)).symm)) (t46 7)
        have b5 : τ1.1 46 5 = υ1.1 0 40 := ((f1 5).trans (up1_off (by omega))).trans (y5.trans (u39 40 (by omega)).symm)
        have b6 : τ1.1 46 6 = υ1.1 0 41 := ((f1 6).trans (up1_off (by omega))).trans (y6.trans (u39 41 (by omega)).symm)
        rw [if_neg (show ¬ nI k = 0 from nI_ne0 (by omega) (by omega)), if_neg z]
        unfold F_Seeker_isBetter F_Seeker_isBetter_0
        rw [b5, b6, V1.1, V1.2.1, wX.1, wX.2.1]
        by_cases d1 : υ1.1 0 40 < (seekX σ lw i j k 4).1
        · rw [if_pos d1, if_neg one_ne, if_pos d1]
          exact take
        · rw [if_neg d1, if_neg d1]
          by_cases d2 : (seekX σ lw i j k 4).1 = υ1.1 0 40
          · rw [if_neg (not_not_intro d2), if_neg (not_not_intro d2)]
            by_cases d3 : (seekX σ lw i j k 4).2.1 ≤ υ1.1 0 41
            · rw [if_pos d3, if_pos rfl, if_pos d3]
              exact leave
            · rw [if_neg d3, if_neg one_ne, if_neg d3]
              exact take
          · rw [if_pos d2, if_pos rfl, if_pos d2]
            exact leave
theorem seek_at (h : Rel σ μ na nt) (hl : lw < nt) (hs : σ.1 20 4 = nI lw) (hm : μ.1 0 11 = nI lw) (hi : i < na) (hj : j < na) (hij : i ≠ j) : ∃ σ0 τ υ, F_Main_opn σ (nI i) (nI j) = some σ0 ∧ F_Seeker_seek σ0 = some τ ∧ F_Model_findsBest μ (nI i) (nI j) = some υ ∧ SameC σ τ ∧ SameM μ υ ∧ τ.1 46 4 = υ.1 0 39 ∧ τ.1 46 5 = υ.1 0 40 ∧ τ.1 46 6 = υ.1 0 41 ∧ τ.1 46 7 = (endV σ lw i j 0 0 (0, σ.1 (27 + i) 4, σ.1 (27 + j) 4, 0)).1 := by
  have hn6 := h.1.1
  have ht6 := h.2.2.2.1.1
  obtain ⟨σ0, lw', l0, l1, l2, e0, sc, ⟨c1, c2, c3⟩, ⟨v1, v2, v3, v4, v5, v6⟩, ⟨a1, a2, a3, a4⟩, ⟨b1, b2, b3, b4⟩, k1, k2⟩ := h.open1 hi hj
  have : lw' = lw := (nI_eq (by omega) (by omega)).mp (l1.symm.trans hs)
  subst this
  have z : ∀ q : Int32, q + 0 = q := Int32.add_zero
  have CC := h.ctxC l0 hi hj (σ1 := σ0) (x := 0) (y := 0) c1 c2 c3 sc a1 (by rw [z]; exact a2) a3 a4 b1 (by rw [z]; exact b2) b3 b4
  obtain ⟨τ0, e1, d0, d1, d2, d3, d4⟩ := keep_at σ0 (r := 0) (by decide)
  have i6 := inB_nI (k := i) (n := 6) (by omega) (by decide)
  have cl : (nI i).toNatClampNeg = i := nI_clamp (by omega)
  obtain ⟨τ, υ, g1, g2, s1, s2, s3, s4, s5, s6, s7, s8⟩ := seek_loop h l0 hm hi hj hij (σ0.1 42 2) (μ.1 5 i) FU 0 τ0 (up1 μ 0 39 (-1)) ⟨sc.tr (fun p q g => d4 p q (by unfold ScC at g; omega)), fun p c g1 g2 => up1_off (by unfold ScM at g1; omega), ⟨_, CC.fr2 d0 (fun p q g => d4 p q (by omega))⟩, (d4 _ _ (by omega)).trans v5, fun r hr => by
    have : r = 0 := by
      have : fo 0 = 0 := rfl
      omega
    subst this
    unfold SkK
    rw [seekX_0]
    exact ⟨d1.trans v1, d2.trans v2, d3.trans v3⟩, fun _ => up1_on, fun q => by omega, fun k' hk' => absurd hk' (Nat.not_lt_zero _)⟩ (by omega) (by rw [FU_eq]; omega)
  obtain ⟨-, s7a, s7b, s7c⟩ := s7 (by omega)
  refine ⟨σ0, τ, up1 υ 5 i (μ.1 5 i), e0, ?_, ?_, s1, fun p c g => ?_, ?_, ?_, ?_, ?_⟩
  · unfold F_Seeker_seek F_Seeker_seek_0
    rw [show (0 : Int32) = nI 0 from rfl, e1]
    exact g1
  · unfold F_Model_findsBest F_Model_findsBest_0
    rw [if_pos i6, cl]
    simp only [lt]
    exact g2
  · by_cases c5 : p = 5 ∧ c = i
    · rw [c5.1, c5.2, up1_on]
    · rw [up1_off c5]
      exact s2 p c g c5
  · rw [up1_off (by omega)]; exact s7a
  · rw [up1_off (by omega)]; exact s7b
  · rw [up1_off (by omega)]; exact s7c
  · obtain ⟨p1, p2, p3, p4, p5, p6, p7⟩ := h.1.2.2.2.2 i (by omega)
    obtain ⟨k', hk', ek⟩ := plan_k (x := σ.1 (27 + i) 5) (by rw [p5]; exact p7)
    rw [s8 k' (by omega) (ek.trans a1.symm)]
    unfold seekX seekA endV sdT
    rw [ek]
theorem op_best (h : Rel σ μ na nt) (v w x : Int32) : ∃ r σ' μ', F_Main_best σ v w x = some (r, σ') ∧ F_Model_best μ v w x = some (r, μ') ∧ Rel σ' μ' na nt := by
  unfold F_Main_best F_Model_best F_Main_best_0 F_Model_best_0
  simp only [in_eq]
  rcases twoC h v w with ⟨i, j, hi, hj, hij, rfl, rfl, e1, e2⟩ | ⟨e1, e2⟩
  rotate_left
  · rw [e1, e2]; exact ⟨_, _, _, rfl, rfl, h⟩
  rw [e1, e2]
  simp only [ob1_some]
  rw [if_pos one_ne, if_pos one_ne]
  by_cases c : F_Main_isWithin x 0 2 = 0
  · rw [if_neg (not_not_intro c), if_neg (not_not_intro c)]; exact ⟨_, _, _, rfl, rfl, h⟩
  rw [if_pos c, if_pos c]
  obtain ⟨-, -, -, ⟨lw, l0, l1, l2⟩, -⟩ := h.2.2.2.1
  obtain ⟨σ0, τ, υ, f1, f2, f3, sc, sm, g4, g5, g6, -⟩ := seek_at h l0 l1 l2 hi hj hij
  rw [f1]
  simp only [ob1_some]
  rw [f2, f3]
  simp only [ob1_some]
  rw [g4, g5, g6]
  have hr : Rel τ υ na nt := h.scr sc sm
  by_cases c0 : x = 0
  · rw [if_neg (not_not_intro c0), if_neg (not_not_intro c0)]; exact ⟨_, _, _, rfl, rfl, hr⟩
  rw [if_pos c0, if_pos c0]
  by_cases c1 : x = 1
  · rw [if_neg (not_not_intro c1), if_neg (not_not_intro c1)]; exact ⟨_, _, _, rfl, rfl, hr⟩
  rw [if_pos c1, if_pos c1]; exact ⟨_, _, _, rfl, rfl, hr⟩
theorem could_at (h : Rel σ μ na nt) (hl : lw < nt) (hs : σ.1 20 4 = nI lw) (hm : μ.1 0 11 = nI lw) (hi : i < na) (hj : j < na) (hij : i ≠ j) : ∃ σ0 τ υ, F_Main_opn σ (nI i) (nI j) = some σ0 ∧ F_Seeker_seek σ0 = some τ ∧ F_Model_couldBetter μ (nI i) (nI j) = some ((if τ.1 46 5 ≤ τ.1 46 7 then 0 else 1), υ) ∧ Rel τ υ na nt ∧ SameC σ τ ∧ SameM μ υ := by
  have hn6 := h.1.1
  obtain ⟨m1, m2, -⟩ := h.2.2.2.2.2
  obtain ⟨ν, n1, n2, w⟩ := begins1 (ν := μ) (i := i) (j := j) (by omega) (by omega) 0
  have q1 : ∀ k', k' < 6 → μ.1 4 k' = σ.1 (27 + k') 4 := fun k' hk' => (h.1.2.2.2.2 k' hk').2.2.2.1.symm
  rw [q1 i (by omega), q1 j (by omega)] at w
  have CM := h.ctxM (t := lw) hl hi hj (ν := ν) (x := 0) (y := 0) (fun p k g1 _ => n2 p k (by unfold ScM at g1; omega) (by unfold ScM at g1; omega) (by unfold ScM at g1; omega)) ((n2 _ _ (by omega) (by omega) (by omega)).trans hm) ((n2 _ _ (by omega) (by omega) (by omega)).trans m1) ((n2 _ _ (by omega) (by omega) (by omega)).trans m2)
  obtain ⟨υ1, g1, g2, g3, -⟩ := goes_M (e := 40) (Nat.le_refl _) FU ν _ 0 CM w (Nat.zero_le _) (by rw [FU_eq]; omega)
  have e2 : F_Model_bouts μ (nI i) (nI j) = some υ1 := by
    unfold F_Model_bouts F_Model_bouts_0
    rw [n1]
    simp only [ob1_some]
    have g1' : F_Model_goesOn ν (nI i) (nI j) 40 = some υ1 := g1
    rw [g1']
    rfl
  have sm1 : SameM μ υ1 := n2.same.tr g2.same
  obtain ⟨σ0, τ, υ, f1, f2, f3, sc, sm, k4, k5, k6, k7⟩ := seek_at (h.scr SameC.rf sm1) hl hs ((sm1 0 11 (by unfold ScM; omega)).trans hm) hi hj hij
  refine ⟨σ0, τ, υ, f1, f2, ?_, h.scr sc (sm1.tr sm), sc, sm1.tr sm⟩
  unfold F_Model_couldBetter F_Model_couldBetter_0
  rw [e2]
  simp only [ob1_some]
  rw [f3]
  simp only [ob1_some]
  have x1 : υ1.1 0 32 = τ.1 46 7 := by
    rw [k7]
    exact g3.1
  rw [x1, k5]
  split <;> rfl
theorem op_even (h : Rel σ μ na nt) (v w : Int32) : ∃ r σ' μ', F_Main_even σ v w = some (r, σ') ∧ F_Model_even μ v w = some (r, μ') ∧ Rel σ' μ' na nt := by
  unfold F_Main_even F_Model_even F_Main_even_0 F_Model_even_0
  rcases twoC h v w with ⟨i, j, hi, hj, hij, rfl, rfl, e1, e2⟩ | ⟨e1, e2⟩
  rotate_left
  · rw [e1, e2]; exact ⟨_, _, _, rfl, rfl, h⟩
  rw [e1, e2]
  simp only [ob1_some]
  rw [if_pos one_ne, if_pos one_ne]
  obtain ⟨-, -, -, ⟨lw, l0, l1, l2⟩, -⟩ := h.2.2.2.1
  obtain ⟨σ0, τ, υ, f1, f2, f3, hr, sc, sm⟩ := could_at h l0 l1 l2 hi hj hij
  rw [f1]
  simp only [ob1_some]
  rw [f2, f3]
  simp only [ob1_some, ob2_some]
  by_cases c : τ.1 46 5 ≤ τ.1 46 7
  rotate_left
  · rw [if_neg c, if_neg c, if_pos one_ne]; exact ⟨_, _, _, rfl, rfl, hr⟩
  rw [if_pos c, if_pos c, if_neg (not_not_intro rfl)]
  obtain ⟨σ1, τ1, υ1, f4, f5, f6, hr1, sc1, sm1⟩ := could_at hr l0 ((sc 20 4 (by unfold ScC; omega)).trans l1) ((sm 0 11 (by unfold ScM; omega)).trans l2) hj hi (Ne.symm hij)
  rw [f4]
  simp only [ob1_some]
  rw [f5, f6]
  simp only [ob1_some, ob2_some]
  by_cases d : τ1.1 46 5 ≤ τ1.1 46 7
  · rw [if_pos d, if_pos d, if_pos rfl]; exact ⟨_, _, _, rfl, rfl, hr1⟩
  · rw [if_neg d, if_neg d, if_neg one_ne]; exact ⟨_, _, _, rfl, rfl, hr1⟩
end SK
