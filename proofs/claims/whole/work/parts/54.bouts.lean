/-! ===== bouts of both, from their beginning ===== -/
def AngOk (x : Int32) : Prop := -30 ≤ x ∧ x ≤ 30
def VOk (v : BS) : Prop := AngOk v.1 ∧ HoldOk v.2.1 ∧ HoldOk v.2.2.1
theorem bnd_hold (x : Int32) : HoldOk (F_Main_bounded x 0 24) := by
  unfold F_Main_bounded F_Main_bounded_0
  by_cases c : (0 : Int32) ≤ x
  · rw [if_pos c]
    by_cases c2 : x ≤ 24
    · rw [if_pos c2]
      obtain ⟨k, -, hk, rfl⟩ := rng (a := 0) (b := 24) (by decide) (by decide) c c2
      exact ⟨k, hk, rfl⟩
    · rw [if_neg c2]; exact ⟨24, by omega, rfl⟩
  · rw [if_neg c]; exact ⟨0, by omega, rfl⟩
theorem bnd_ang (x : Int32) : AngOk (F_Main_bounded x (-30) 30) := by
  unfold F_Main_bounded F_Main_bounded_0
  by_cases c : (-30 : Int32) ≤ x
  · rw [if_pos c]
    by_cases c2 : x ≤ 30
    · rw [if_pos c2]; exact ⟨c, c2⟩
    · rw [if_neg c2]; exact ⟨by decide, by decide⟩
  · rw [if_neg c]; exact ⟨by decide, by decide⟩
theorem playV_ok {L : Law} {A B : Sd} : ∀ (n t e : Nat) (v : BS), VOk v → VOk (playV L A B n t e v).1 := by
  intro n
  induction n with
  | zero => intro t e v h; exact h
  | succ n ih =>
    intro t e v h
    rw [playV]
    by_cases c : e ≤ t
    · rw [if_pos c]; exact h
    · rw [if_neg c]
      by_cases c2 : F_Main_isWithin v.1 (-29) 29 = 0
      · rw [if_pos c2]; exact h
      · rw [if_neg c2]
        exact ih _ _ _ ⟨bnd_ang _, bnd_hold _, bnd_hold _⟩
/-- the same two under the same law -/
def Bc (σ μ : St) (i j : Nat) : Prop := ∃ (q lw : Nat) (L : Law) (A B : Sd), CtxC σ (27 + i) (27 + j) q L A B ∧ CtxM μ.1 i j lw L A B
theorem Bc.go {σ μ τ υ : St} {i j : Nat} (h : Bc σ μ i j) (oc : OffC σ τ) (om : OffM μ υ) : Bc τ υ i j := by
  obtain ⟨q, lw, L, A, B, h1, h2⟩ := h
  exact ⟨q, lw, L, A, B, h1.go oc, h2.go om⟩
theorem OffM.rf {μ : St} : OffM μ μ := fun _ _ _ _ _ => rfl
theorem OffC.same {σ τ : St} (h : OffC σ τ) : SameC σ τ := fun p j hp => by
  unfold ScC at hp
  exact h.2 p j (by omega) (by omega) (by omega) (by omega) (by omega)
theorem OffM.same {σ τ : St} (h : OffM σ τ) : SameM σ τ := fun p j hp => by
  unfold ScM at hp
  exact h p j (by omega) (by omega) (by omega)
theorem Bc.play {σ μ : St} {i j e : Nat} (b : Bc σ μ i j) {v : BS} {t : Nat} {w : Bool} (vc : VwC σ.1 v t w) (vm : VwM μ.1 v t) (ok : VOk v) (ht : t ≤ 40) (he : e ≤ 40) {x : Int32} (hx : x = nI e) :
    ∃ τ υ v' t', F_Bout_playTo σ x = some τ ∧ F_Model_goesOn μ (nI i) (nI j) x = some υ ∧ Bc τ υ i j ∧ VwC τ.1 v' t' w ∧ VwM υ.1 v' t' ∧ VOk v' ∧ t' ≤ 40 ∧ OffC σ τ ∧ OffM μ υ := by
  subst hx
  obtain ⟨q, lw, L, A, B, h1, h2⟩ := id b
  obtain ⟨τ, e1, o1, w1, t1⟩ := play_C he FU σ v t h1 vc ht (by rw [FU_eq]; omega)
  obtain ⟨υ, e2, o2, w2, -⟩ := goes_M he FU μ v t h2 vm ht (by rw [FU_eq]; omega)
  refine ⟨τ, υ, _, _, ?_, e2, b.go o1 o2, w1, w2, playV_ok _ _ _ _ ok, t1, o1, o2⟩
  unfold F_Bout_playTo F_Bout_playTo_0
  rw [vc.2.2.2.2.2]
  exact e1
/-- what a side begins with -/
theorem sbegin_at (σ : St) {s pa : Nat} (hs : P_Side s) (hp : 27 ≤ pa ∧ pa < 33) : (F_Side_begin σ s pa).2 s 4 = pa ∧ (∀ p j, ¬ (p = s ∧ j = 4) → (F_Side_begin σ s pa).2 p j = σ.2 p j) ∧ (∀ p j, p ≠ s → p ≠ s + 1 → (F_Side_begin σ s pa).1 p j = σ.1 p j) ∧ (F_Side_begin σ s pa).1 s 1 = σ.1 pa 4 ∧ (F_Side_begin σ s pa).1 s 2 = σ.1 pa 5 ∧ (F_Side_begin σ s pa).1 s 3 = σ.1 pa 3 ∧ (F_Side_begin σ s pa).1 (s + 1) 0 = σ.1 pa 1 ∧ (F_Side_begin σ s pa).1 (s + 1) 1 = σ.1 pa 2 := by
  unfold F_Side_begin F_Side_begin_0
  simp only [lt]
  have hne : ∀ k, pa ≠ s ∧ pa ≠ s + 1 := fun _ => by omega
  refine ⟨?_, fun p j h => ?_, fun p j h1 h2 => ?_, ?_, ?_, ?_, ?_, ?_⟩
  · simp [up1_2, up2_at]
  · simp only [up1_2, up2_at]; rw [if_neg h]
  · iterate 5 rw [up1_off (by omega)]
    rfl
  · iterate 4 rw [up1_off (by omega)]
    rw [up1_on]
    rfl
  · iterate 3 rw [up1_off (by omega)]
    rw [up1_on, up1_off (by omega)]
    rfl
  · iterate 2 rw [up1_off (by omega)]
    rw [up1_on]
    iterate 2 rw [up1_off (by omega)]
    rfl
  · rw [up1_off (by omega), up1_on]
    iterate 3 rw [up1_off (by omega)]
    rfl
  · rw [up1_on]
    iterate 4 rw [up1_off (by omega)]
    rfl
theorem bbegin_at (σ : St) {pa pb q : Nat} (ha : 27 ≤ pa ∧ pa < 33) (hb : 27 ≤ pb ∧ pb < 33) : ∃ τ, F_Bout_begin σ pa pb q = τ ∧ τ.2 42 4 = pa ∧ τ.2 44 4 = pb ∧ τ.2 41 2 = q ∧ (∀ p j, ¬ (41 ≤ p ∧ p ≤ 45) → τ.1 p j = σ.1 p j) ∧ (τ.1 42 1 = σ.1 pa 4 ∧ τ.1 42 2 = σ.1 pa 5 ∧ τ.1 42 3 = σ.1 pa 3 ∧ τ.1 43 0 = σ.1 pa 1 ∧ τ.1 43 1 = σ.1 pa 2) ∧ (τ.1 44 1 = σ.1 pb 4 ∧ τ.1 44 2 = σ.1 pb 5 ∧ τ.1 44 3 = σ.1 pb 3 ∧ τ.1 45 0 = σ.1 pb 1 ∧ τ.1 45 1 = σ.1 pb 2) ∧ τ.1 41 3 = 0 ∧ τ.1 41 4 = 0 ∧ τ.1 41 5 = 0 ∧ τ.1 41 6 = 0 := by
  refine ⟨_, rfl, ?_⟩
  unfold F_Bout_begin F_Bout_begin_0
  simp only [lt]
  obtain ⟨a0, a1, a2, a3, a4, a5, a6, a7⟩ := sbegin_at σ (s := 42) (Or.inl rfl) ha
  generalize F_Side_begin σ 42 pa = σ1 at a0 a1 a2 a3 a4 a5 a6 a7 ⊢
  obtain ⟨b0, b1, b2, b3, b4, b5, b6, b7⟩ := sbegin_at σ1 (s := 44) (Or.inr rfl) hb
  generalize F_Side_begin σ1 44 pb = σ2 at b0 b1 b2 b3 b4 b5 b6 b7 ⊢
  have g : ∀ j, σ1.1 pb j = σ.1 pb j := fun j => a2 _ _ (by omega) (by omega)
  have k4 : ∀ p j, ¬ (p = 41) → (up1 (up1 (up1 (up1 (up2 σ2 41 2 q) 41 3 0) 41 4 0) 41 5 0) 41 6 0).1 p j = σ2.1 p j := by
    intro p j hp
    iterate 4 rw [up1_off (by omega)]
    rfl
  refine ⟨?_, ?_, ?_, fun p j h => ?_, ⟨?_, ?_, ?_, ?_, ?_⟩, ⟨?_, ?_, ?_, ?_, ?_⟩, ?_, ?_, ?_, ?_⟩
  · simp only [up1_2, up2_at]; rw [if_neg (by omega), b1 _ _ (by omega), a0]
  · simp only [up1_2, up2_at]; rw [if_neg (by omega), b0]
  · simp [up1_2, up2_at]
  · rw [k4 _ _ (by omega), b2 _ _ (by omega) (by omega), a2 _ _ (by omega) (by omega)]
  · rw [k4 _ _ (by omega), b2 _ _ (by omega) (by omega), a3]
  · rw [k4 _ _ (by omega), b2 _ _ (by omega) (by omega), a4]
  · rw [k4 _ _ (by omega), b2 _ _ (by omega) (by omega), a5]
  · rw [k4 _ _ (by omega), b2 _ _ (by omega) (by omega), a6]
  · rw [k4 _ _ (by omega), b2 _ _ (by omega) (by omega), a7]
  · rw [k4 _ _ (by omega), b3, g]
  · rw [k4 _ _ (by omega), b4, g]
  · rw [k4 _ _ (by omega), b5, g]
  · rw [k4 _ _ (by omega), b6, g]
  · rw [k4 _ _ (by omega), b7, g]
  · iterate 3 rw [up1_off (by omega)]
    rw [up1_on]
  · iterate 2 rw [up1_off (by omega)]
    rw [up1_on]
  · rw [up1_off (by omega), up1_on]
  · rw [up1_on]
/-- both begin -/
theorem Rel.begin2 {σ μ : St} {na nt : Nat} (h : Rel σ μ na nt) {i j : Nat} (hi : i < na) (hj : j < na) (an : Int32) : ∃ σ0 μ0, F_Main_opn σ (nI i) (nI j) = some σ0 ∧ F_Model_begins μ (nI i) (nI j) an = some μ0 ∧ Bc σ0 μ0 i j ∧ VwC σ0.1 (0, σ.1 (27 + i) 4, σ.1 (27 + j) 4, 0) 0 false ∧ VwM μ0.1 (an, σ.1 (27 + i) 4, σ.1 (27 + j) 4, 0) 0 ∧ SameC σ σ0 ∧ SameM μ μ0 ∧ HoldOk (σ.1 (27 + i) 4) ∧ HoldOk (σ.1 (27 + j) 4) ∧ σ0.1 41 5 = 0 := by
  have hA := h.1
  have hn6 := hA.1
  obtain ⟨x0, x1, x2, ⟨lw, l0, l1, l2⟩, -⟩ := h.2.2.2.1
  obtain ⟨L, hLC, hLM⟩ := law_of h l0
  obtain ⟨p1, p2, p3, p4, p5, p6, p7⟩ := hA.2.2.2.2 i (by omega)
  obtain ⟨r1, r2, r3, r4, r5, r6, r7⟩ := hA.2.2.2.2 j (by omega)
  obtain ⟨m1, m2, -⟩ := h.2.2.2.2.2
  obtain ⟨σ0, e0, c1, c2, c3, c4, ⟨c5, c6, c7, c8, c9⟩, ⟨d5, d6, d7, d8, d9⟩, d1, d2, d3, d4⟩ := bbegin_at σ (pa := 27 + i) (pb := 27 + j) (q := 8 + lw) (by omega) (by omega)
  have fC : ∀ p, p < 41 → σ0.1 p = σ.1 p := fun p hp => funext fun k => c4 p k (by omega)
  have e1 : F_Main_opn σ (nI i) (nI j) = some σ0 := by
    unfold F_Main_opn F_Main_opn_0
    rw [if_pos (inB_nI (by omega) (by decide)), if_pos (inB_nI (by omega) (by decide)), l1, if_pos (inB_nI (by omega) (by decide)), nI_clamp (by omega), nI_clamp (by omega), nI_clamp (by omega), e0]
    rfl
  have e2 : F_Model_begins μ (nI i) (nI j) an = some (up1 (up1 (up1 (up1 (up1 μ 0 32 an) 0 33 (μ.1 4 i)) 0 34 (μ.1 4 j)) 0 35 0) 0 36 0) := by
    unfold F_Model_begins F_Model_begins_0
    simp only [lt, inB_nI (show i < 6 by omega) (show 6 < 2 ^ 31 by decide), inB_nI (show j < 6 by omega) (show 6 < 2 ^ 31 by decide), if_true, nI_clamp (show i < 2 ^ 31 by omega), nI_clamp (show j < 2 ^ 31 by omega)]
    rw [up1_off (σ := μ) (by omega), up1_off (by omega), up1_off (by omega)]
  have fM : ∀ p k, ¬ (p = 0 ∧ 32 ≤ k ∧ k ≤ 36) → (up1 (up1 (up1 (up1 (up1 μ 0 32 an) 0 33 (μ.1 4 i)) 0 34 (μ.1 4 j)) 0 35 0) 0 36 0).1 p k = μ.1 p k := by
    intro p k hp
    iterate 5 rw [up1_off (by omega)]
  refine ⟨σ0, _, e1, e2, ⟨8 + lw, lw, L, (σ.1 (27 + i), σ.1 (27 + i) 5, σ.1 (27 + i) 3), (σ.1 (27 + j), σ.1 (27 + j) 5, σ.1 (27 + j) 3), ⟨by omega, by omega, by omega, c1, c2, c3, ?_, ⟨fC _ (by omega), c6, c7, c8, c9⟩, ⟨fC _ (by omega), d6, d7, d8, d9⟩⟩, ⟨by omega, by omega, by omega, (fM _ _ (by omega)).trans l2, ?_, ⟨hA.2.2.2.1 i hi, ⟨(fM _ _ (by omega)).trans p1.symm, (fM _ _ (by omega)).trans p2.symm, (fM _ _ (by omega)).trans p3.symm⟩, (fM _ _ (by omega)).trans p5.symm, ?_⟩, ⟨hA.2.2.2.1 j hj, ⟨(fM _ _ (by omega)).trans r1.symm, (fM _ _ (by omega)).trans r2.symm, (fM _ _ (by omega)).trans r3.symm⟩, (fM _ _ (by omega)).trans r5.symm, ?_⟩⟩⟩, ⟨d1, c5, d5, fun hw => (by cases hw), d4, d2⟩, ⟨?_, ?_, ?_, ?_, ?_⟩, fun p k hp => c4 _ _ (by unfold ScC at hp; omega), fun p k hp => fM _ _ (by unfold ScM at hp; omega), by rw [p4]; exact p6, by rw [r4]; exact r6, d3⟩
  · obtain ⟨g0, g1, g2, g3, g4⟩ := hLC
    exact ⟨g0, by rw [fC _ (by omega), g1], by rw [fC _ (by omega), g2], by rw [fC _ (by omega), g3], by rw [fC _ (by omega), g4]⟩
  · obtain ⟨g0, g1, g2, g3, g4, g5⟩ := hLM
    exact ⟨g0, (fM _ _ (by omega)).trans g1, (fM _ _ (by omega)).trans g2, (fM _ _ (by omega)).trans g3, (fM _ _ (by omega)).trans g4, fun k hk => by rw [fM _ _ (by omega)]; exact g5 k hk⟩
  · rw [fM _ _ (by omega), m1]; exact Int32.add_zero _
  · rw [fM _ _ (by omega), m2]; exact Int32.add_zero _
  · iterate 4 rw [up1_off (by omega)]
    rw [up1_on]
  · iterate 3 rw [up1_off (by omega)]
    rw [up1_on, p4]
  · iterate 2 rw [up1_off (by omega)]
    rw [up1_on, r4]
  · rw [up1_off (by omega), up1_on]
  · rw [up1_on]; rfl
theorem ok0 {x y u : Int32} (hx : HoldOk x) (hy : HoldOk y) : VOk (0, x, y, u) := ⟨⟨show (-30 : Int32) ≤ 0 by decide, show (0 : Int32) ≤ 30 by decide⟩, hx, hy⟩
/-- the two of whom an argument speaks -/
theorem twoC {σ μ : St} {na nt : Nat} (h : Rel σ μ na nt) (v w : Int32) : (∃ i j : Nat, i < na ∧ j < na ∧ i ≠ j ∧ v = nI i ∧ w = nI j ∧ F_Main_areTwo σ v w = some 1 ∧ F_Model_areTwo μ v w = some 1) ∨ (F_Main_areTwo σ v w = some 0 ∧ F_Model_areTwo μ v w = some 0) := by
  unfold F_Main_areTwo F_Model_areTwo F_Main_areTwo_0 F_Model_areTwo_0
  have hn6 := h.1.1
  rcases armC h v with ⟨i, hi, rfl, e1, e2⟩ | ⟨e1, e2, -⟩
  · rw [e1, e2]
    simp only [ob1]
    rw [if_neg (show ¬ (1 : Int32) = 0 by decide), if_neg (show ¬ (1 : Int32) = 0 by decide)]
    rcases armC h w with ⟨j, hj, rfl, e3, e4⟩ | ⟨e3, e4, -⟩
    · rw [e3, e4]
      simp only []
      by_cases c : i = j
      · subst c
        right
        rw [if_pos rfl]
        exact ⟨rfl, rfl⟩
      · left
        rw [if_neg (fun q => c ((nI_eq (by omega) (by omega)).mp q))]
        exact ⟨i, j, hi, hj, c, rfl, rfl, rfl, rfl⟩
    · rw [e3, e4]
      right
      exact ⟨rfl, rfl⟩
  · rw [e1, e2]
    right
    exact ⟨rfl, rfl⟩
theorem op_fight {σ μ : St} {na nt : Nat} (h : Rel σ μ na nt) (v w : Int32) : ∃ r σ' μ', F_Main_fight σ v w = some (r, σ') ∧ F_Model_fight μ v w = some (r, μ') ∧ Rel σ' μ' na nt := by
  unfold F_Main_fight F_Model_fight F_Main_fight_0 F_Model_fight_0
  have hn6 := h.1.1
  rcases twoC h v w with ⟨i, j, hi, hj, hij, rfl, rfl, e1, e2⟩ | ⟨e1, e2⟩
  · rw [e1, e2]
    simp only [ob1]
    rw [if_pos (show ¬ (1 : Int32) = 0 by decide), if_pos (show ¬ (1 : Int32) = 0 by decide)]
    obtain ⟨σ0, μ0, f1, f2, b, vc, vm, sc, sm, k1, k2, k3⟩ := h.begin2 hi hj 0
    unfold F_Model_bouts F_Model_bouts_0
    rw [f1, f2]
    simp only [ob1]
    obtain ⟨τ, υ, v', t', g1, g2, b', wc, wm, ok, -, oc, om⟩ := b.play vc vm (ok0 k1 k2) (Nat.zero_le _) (e := 40) (Nat.le_refl _) (x := 40) rfl
    rw [g1, g2]
    simp only [inB_nI (show i < 6 by omega) (show 6 < 2 ^ 31 by decide), inB_nI (show j < 6 by omega) (show 6 < 2 ^ 31 by decide), if_true, nI_clamp (show i < 2 ^ 31 by omega), nI_clamp (show j < 2 ^ 31 by omega), lt]
    have h1 : Rel τ υ na nt := h.scr (sc.tr oc.same) (sm.tr om.same)
    have h2 := h1.hold (k := i) (by omega) (x := v'.2.1) ok.2.1
    have h3 := h2.hold (k := j) (by omega) (x := v'.2.2.1) ok.2.2
    rw [wc.2.1, wm.2.1, up1_off (σ := τ) (by omega), wc.2.2.1, up1_off (σ := υ) (by omega), wm.2.2.1]
    rw [up1_off (by omega), up1_off (by omega), wc.1, up1_off (by omega), up1_off (by omega), wm.1]
    exact ⟨_, _, _, rfl, rfl, h3⟩
  · rw [e1, e2]
    exact ⟨_, _, _, rfl, rfl, h⟩
