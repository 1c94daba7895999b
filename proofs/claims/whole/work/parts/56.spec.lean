/-! ===== what a bout comes to, by what isn't scratch ===== -/
def lawT (σ : St) (t : Nat) : Law := (σ.1 (14 + t), (σ.1 (8 + t) 3).toNatClampNeg, (σ.1 (8 + t) 4).toNatClampNeg, (σ.1 (8 + t) 2).toNatClampNeg)
def sdT (σ : St) (i : Nat) (x : Int32) : Sd := (σ.1 (27 + i), σ.1 (27 + i) 5, σ.1 (27 + i) 3 + x)
theorem lawT_same {σ τ : St} (h : SameC σ τ) {t : Nat} (ht : t < 6) : lawT τ t = lawT σ t := by
  unfold lawT
  rw [h (8 + t) 3 (by unfold ScC; omega), h (8 + t) 4 (by unfold ScC; omega), h (8 + t) 2 (by unfold ScC; omega), show τ.1 (14 + t) = σ.1 (14 + t) from funext fun j => h _ _ (by unfold ScC; omega)]
theorem sdT_same {σ τ : St} (h : SameC σ τ) {i : Nat} (hi : i < 6) (x : Int32) : sdT τ i x = sdT σ i x := by
  unfold sdT
  rw [h (27 + i) 5 (by unfold ScC; omega), h (27 + i) 3 (by unfold ScC; omega), show τ.1 (27 + i) = σ.1 (27 + i) from funext fun j => h _ _ (by unfold ScC; omega)]
theorem lawT_ok {σ μ : St} {na nt : Nat} (h : Rel σ μ na nt) {t : Nat} (ht : t < nt) : LawC σ.1 (8 + t) (lawT σ t) ∧ LawM μ.1 t (lawT σ t) := by
  obtain ⟨L, h1, h2⟩ := law_of h ht
  have e : L = lawT σ t := by
    obtain ⟨⟨g0, g1, g2, -⟩, a0, a1, a2, a3⟩ := h1
    obtain ⟨l0, l1, l2, l3⟩ := L
    dsimp only at g0 g1 g2 a0 a1 a2 a3
    unfold lawT
    rw [a1, a2, a3, nI_clamp (by omega), nI_clamp (by omega), nI_clamp (by omega), ← a0, show 14 + t = 8 + t + 6 by omega]
  rw [← e]
  exact ⟨h1, h2⟩
theorem Rel.ctxC {σ μ : St} {na nt : Nat} (h : Rel σ μ na nt) {t i j : Nat} (ht : t < nt) (hi : i < na) (hj : j < na) {σ1 : St} {x y : Int32} (c1 : σ1.2 42 4 = 27 + i) (c2 : σ1.2 44 4 = 27 + j) (c3 : σ1.2 41 2 = 8 + t) (f : SameC σ σ1) (a1 : σ1.1 42 2 = σ.1 (27 + i) 5) (a2 : σ1.1 42 3 = σ.1 (27 + i) 3 + x) (a3 : σ1.1 43 0 = σ.1 (27 + i) 1) (a4 : σ1.1 43 1 = σ.1 (27 + i) 2) (b1 : σ1.1 44 2 = σ.1 (27 + j) 5) (b2 : σ1.1 44 3 = σ.1 (27 + j) 3 + y) (b3 : σ1.1 45 0 = σ.1 (27 + j) 1) (b4 : σ1.1 45 1 = σ.1 (27 + j) 2) : CtxC σ1 (27 + i) (27 + j) (8 + t) (lawT σ t) (sdT σ i x) (sdT σ j y) := by
  have hn6 := h.1.1
  have ht6 := h.2.2.2.1.1
  obtain ⟨⟨g0, g1, g2, g3, g4⟩, -⟩ := lawT_ok h ht
  have fC : ∀ p, ¬ ScC p → σ1.1 p = σ.1 p := fun p hp => funext fun k => f p k hp
  exact ⟨by omega, by omega, by omega, c1, c2, c3, ⟨g0, by rw [fC _ (by unfold ScC; omega), g1], by rw [fC _ (by unfold ScC; omega), g2], by rw [fC _ (by unfold ScC; omega), g3], by rw [fC _ (by unfold ScC; omega), g4]⟩, ⟨fC _ (by unfold ScC; omega), a1, a2, a3, a4⟩, ⟨fC _ (by unfold ScC; omega), b1, b2, b3, b4⟩⟩
theorem Rel.ctxM {σ μ : St} {na nt : Nat} (h : Rel σ μ na nt) {t i j : Nat} (ht : t < nt) (hi : i < na) (hj : j < na) {ν : St} {x y : Int32} (f : ∀ p k, ¬ ScM p k → ¬ (p = 0 ∧ (k = 11 ∨ k = 37 ∨ k = 38)) → ν.1 p k = μ.1 p k) (c1 : ν.1 0 11 = nI t) (c2 : ν.1 0 37 = x) (c3 : ν.1 0 38 = y) : CtxM ν.1 i j t (lawT σ t) (sdT σ i x) (sdT σ j y) := by
  have hA := h.1
  have hn6 := hA.1
  have ht6 := h.2.2.2.1.1
  obtain ⟨-, ⟨g0, g1, g2, g3, g4, g5⟩⟩ := lawT_ok h ht
  obtain ⟨p1, p2, p3, p4, p5, p6, p7⟩ := hA.2.2.2.2 i (by omega)
  obtain ⟨r1, r2, r3, r4, r5, r6, r7⟩ := hA.2.2.2.2 j (by omega)
  have fM : ∀ p k, 1 ≤ p → p ≤ 15 → ν.1 p k = μ.1 p k := fun p k h1 h2 => f p k (by unfold ScM; omega) (by omega)
  exact ⟨by omega, by omega, by omega, c1, ⟨g0, (fM _ _ (by omega) (by omega)).trans g1, (fM _ _ (by omega) (by omega)).trans g2, (fM _ _ (by omega) (by omega)).trans g3, (fM _ _ (by omega) (by omega)).trans g4, fun k hk => by rw [fM _ _ (by omega) (by omega)]; exact g5 k hk⟩, ⟨hA.2.2.2.1 i hi, ⟨(fM _ _ (by omega) (by omega)).trans p1.symm, (fM _ _ (by omega) (by omega)).trans p2.symm, (fM _ _ (by omega) (by omega)).trans p3.symm⟩, (fM _ _ (by omega) (by omega)).trans p5.symm, by rw [c2]; rfl⟩, ⟨hA.2.2.2.1 j hj, ⟨(fM _ _ (by omega) (by omega)).trans r1.symm, (fM _ _ (by omega) (by omega)).trans r2.symm, (fM _ _ (by omega) (by omega)).trans r3.symm⟩, (fM _ _ (by omega) (by omega)).trans r5.symm, by rw [c3]; rfl⟩⟩
/-- opened: the class's side alone -/
theorem Rel.open1 {σ μ : St} {na nt : Nat} (h : Rel σ μ na nt) {i j : Nat} (hi : i < na) (hj : j < na) : ∃ σ0 lw, lw < nt ∧ σ.1 20 4 = nI lw ∧ μ.1 0 11 = nI lw ∧ F_Main_opn σ (nI i) (nI j) = some σ0 ∧ SameC σ σ0 ∧ (σ0.2 42 4 = 27 + i ∧ σ0.2 44 4 = 27 + j ∧ σ0.2 41 2 = 8 + lw) ∧ VwC σ0.1 (0, σ.1 (27 + i) 4, σ.1 (27 + j) 4, 0) 0 false ∧ (σ0.1 42 2 = σ.1 (27 + i) 5 ∧ σ0.1 42 3 = σ.1 (27 + i) 3 ∧ σ0.1 43 0 = σ.1 (27 + i) 1 ∧ σ0.1 43 1 = σ.1 (27 + i) 2) ∧ (σ0.1 44 2 = σ.1 (27 + j) 5 ∧ σ0.1 44 3 = σ.1 (27 + j) 3 ∧ σ0.1 45 0 = σ.1 (27 + j) 1 ∧ σ0.1 45 1 = σ.1 (27 + j) 2) ∧ HoldOk (σ.1 (27 + i) 4) ∧ HoldOk (σ.1 (27 + j) 4) := by
  have hA := h.1
  have hn6 := hA.1
  obtain ⟨x0, x1, x2, ⟨lw, l0, l1, l2⟩, -⟩ := h.2.2.2.1
  obtain ⟨p1, p2, p3, p4, p5, p6, p7⟩ := hA.2.2.2.2 i (by omega)
  obtain ⟨r1, r2, r3, r4, r5, r6, r7⟩ := hA.2.2.2.2 j (by omega)
  obtain ⟨σ0, e0, c1, c2, c3, c4, ⟨c5, c6, c7, c8, c9⟩, ⟨d5, d6, d7, d8, d9⟩, d1, d2, d3, d4⟩ := bbegin_at σ (pa := 27 + i) (pb := 27 + j) (q := 8 + lw) (by omega) (by omega)
  refine ⟨σ0, lw, l0, l1, l2, ?_, fun p k hp => c4 _ _ (by unfold ScC at hp; omega), ⟨c1, c2, c3⟩, ⟨d1, c5, d5, fun q => (by cases q), d4, d2⟩, ⟨c6, c7, c8, c9⟩, ⟨d6, d7, d8, d9⟩, by rw [p4]; exact p6, by rw [r4]; exact r6⟩
  unfold F_Main_opn F_Main_opn_0
  rw [if_pos (inB_nI (by omega) (by decide)), if_pos (inB_nI (by omega) (by decide)), l1, if_pos (inB_nI (by omega) (by decide)), nI_clamp (by omega), nI_clamp (by omega), nI_clamp (by omega), e0]
  rfl
/-- begun: the reference's side alone -/
theorem begins1 {ν : St} {i j : Nat} (hi : i < 6) (hj : j < 6) (an : Int32) : ∃ ν0, F_Model_begins ν (nI i) (nI j) an = some ν0 ∧ OffM ν ν0 ∧ VwM ν0.1 (an, ν.1 4 i, ν.1 4 j, 0) 0 := by
  refine ⟨up1 (up1 (up1 (up1 (up1 ν 0 32 an) 0 33 (ν.1 4 i)) 0 34 (ν.1 4 j)) 0 35 0) 0 36 0, ?_, fun p k hp _ _ => ?_, ?_, ?_, ?_, ?_, ?_⟩
  · unfold F_Model_begins F_Model_begins_0
    simp only [lt, inB_nI hi (show 6 < 2 ^ 31 by decide), inB_nI hj (show 6 < 2 ^ 31 by decide), if_true, nI_clamp (show i < 2 ^ 31 by omega), nI_clamp (show j < 2 ^ 31 by omega)]
    rw [up1_off (σ := ν) (by omega), up1_off (by omega), up1_off (by omega)]
  · iterate 5 rw [up1_off (by omega)]
  · iterate 4 rw [up1_off (by omega)]
    rw [up1_on]
  · iterate 3 rw [up1_off (by omega)]
    rw [up1_on]
  · iterate 2 rw [up1_off (by omega)]
    rw [up1_on]
  · rw [up1_off (by omega), up1_on]
  · rw [up1_on]; rfl
/-- what a bout to the end tells -/
noncomputable def endV (σ : St) (t i j : Nat) (x y : Int32) (v : BS) : BS := (playV (lawT σ t) (sdT σ i x) (sdT σ j y) FU 0 40 v).1
theorem endV_same {σ τ : St} (h : SameC σ τ) {t i j : Nat} (ht : t < 6) (hi : i < 6) (hj : j < 6) (x y : Int32) (v : BS) : endV τ t i j x y v = endV σ t i j x y v := by
  unfold endV
  rw [lawT_same h ht, sdT_same h hi, sdT_same h hj]
/-- who would win, having so much hold -/
theorem would3 {σ μ : St} {na nt : Nat} (h : Rel σ μ na nt) {i j lw : Nat} (hlw : σ.1 20 4 = nI lw) (hl : lw < nt) (hi : i < na) (hj : j < na) {x : Int32} (hx : HoldOk x) : ∃ σ' μ' ν t', F_Main_wouldWin σ (nI i) (nI j) x = some ((if (endV σ lw i j 0 0 (0, x, σ.1 (27 + j) 4, 0)).1 ≤ 0 then 0 else 1), σ') ∧ F_Model_begins μ (nI i) (nI j) 0 = some ν ∧ ν.1 0 33 = σ.1 (27 + i) 4 ∧ F_Model_goesOn (up1 ν 0 33 x) (nI i) (nI j) 40 = some μ' ∧ VwC σ'.1 (endV σ lw i j 0 0 (0, x, σ.1 (27 + j) 4, 0)) t' false ∧ VwM μ'.1 (endV σ lw i j 0 0 (0, x, σ.1 (27 + j) 4, 0)) t' ∧ VOk (endV σ lw i j 0 0 (0, x, σ.1 (27 + j) 4, 0)) ∧ SameC σ σ' ∧ OffM μ μ' := by
  have hA := h.1
  have hn6 := hA.1
  have ht6 := h.2.2.2.1.1
  obtain ⟨m1, m2, -⟩ := h.2.2.2.2.2
  obtain ⟨p1, p2, p3, p4, p5, p6, p7⟩ := hA.2.2.2.2 i (by omega)
  obtain ⟨r1, r2, r3, r4, r5, r6, r7⟩ := hA.2.2.2.2 j (by omega)
  obtain ⟨σ0, lw', l0, l1, l2, e0, sc, ⟨c1, c2, c3⟩, ⟨v1, v2, v3, v4, v5, v6⟩, ⟨a1, a2, a3, a4⟩, ⟨b1, b2, b3, b4⟩, k1, k2⟩ := h.open1 hi hj
  have : lw' = lw := (nI_eq (by omega) (by omega)).mp (l1.symm.trans hlw)
  subst this
  obtain ⟨ν, n1, n2, w1, w2, w3, w4, w5⟩ := begins1 (ν := μ) (i := i) (j := j) (by omega) (by omega) 0
  have z : ∀ q : Int32, q + 0 = q := Int32.add_zero
  have CC := h.ctxC l0 hi hj (σ1 := σ0) (x := 0) (y := 0) c1 c2 c3 sc a1 (by rw [z]; exact a2) a3 a4 b1 (by rw [z]; exact b2) b3 b4
  have CM := h.ctxM l0 hi hj (ν := ν) (x := 0) (y := 0) (fun p k g1 _ => n2 p k (by unfold ScM at g1; omega) (by unfold ScM at g1; omega) (by unfold ScM at g1; omega)) ((n2 _ _ (by omega) (by omega) (by omega)).trans l2) ((n2 _ _ (by omega) (by omega) (by omega)).trans m1) ((n2 _ _ (by omega) (by omega) (by omega)).trans m2)
  have o1 : OffC σ0 (up1 σ0 42 1 x) := ⟨rfl, fun p j _ _ g _ _ => up1_off (by omega)⟩
  have o2 : OffM ν (up1 ν 0 33 x) := fun p j g _ _ => up1_off (by omega)
  obtain ⟨τ, g1, o3, u1, -⟩ := play_C (e := 40) (Nat.le_refl _) (w := false) FU (up1 σ0 42 1 x) (0, x, σ.1 (27 + j) 4, 0) 0 (CC.go o1) ⟨(up1_off (by omega)).trans v1, up1_on, (up1_off (by omega)).trans v3, (fun q => by cases q), (up1_off (by omega)).trans v5, (up1_off (by omega)).trans v6⟩ (Nat.zero_le _) (by rw [FU_eq]; omega)
  obtain ⟨υ, g2, o4, u2, -⟩ := goes_M (e := 40) (Nat.le_refl _) FU (up1 ν 0 33 x) (0, x, σ.1 (27 + j) 4, 0) 0 (CM.go o2) ⟨(up1_off (by omega)).trans w1, up1_on, (up1_off (by omega)).trans (w3.trans r4.symm), (up1_off (by omega)).trans w4, (up1_off (by omega)).trans w5⟩ (Nat.zero_le _) (by rw [FU_eq]; omega)
  refine ⟨τ, υ, ν, _, ?_, n1, w2.trans p4.symm, g2, u1, u2, playV_ok _ _ _ _ (ok0 hx k2), (sc.tr o1.same).tr o3.same, n2.tr (o2.tr o4)⟩
  unfold F_Main_wouldWin F_Main_wouldWin_0
  rw [e0]
  simp only [ob1_some, lt]
  unfold F_Bout_playTo F_Bout_playTo_0
  rw [show (up1 σ0 42 1 x).1 41 4 = nI 0 from (up1_off (by omega)).trans v6, show (40 : Int32) = nI 40 from rfl, g1]
  simp only [ob1_some]
  have e9 : τ.1 41 3 = (endV σ lw' i j 0 0 (0, x, σ.1 (27 + j) 4, 0)).1 := u1.1
  rw [e9]
  split <;> rfl
/-- the reference, with its own hold -/
theorem wins3 {σ μ : St} {na nt : Nat} (h : Rel σ μ na nt) {i j lw : Nat} (hlw : σ.1 20 4 = nI lw) (hl : lw < nt) (hi : i < na) (hj : j < na) : ∃ σ' μ', F_Main_wouldWin σ (nI i) (nI j) (σ.1 (27 + i) 4) = some ((if (endV σ lw i j 0 0 (0, σ.1 (27 + i) 4, σ.1 (27 + j) 4, 0)).1 ≤ 0 then 0 else 1), σ') ∧ F_Model_winsBy μ (nI i) (nI j) = some ((if (endV σ lw i j 0 0 (0, σ.1 (27 + i) 4, σ.1 (27 + j) 4, 0)).1 ≤ 0 then 0 else 1), μ') ∧ SameC σ σ' ∧ OffM μ μ' := by
  have hn6 := h.1.1
  obtain ⟨p1, p2, p3, p4, p5, p6, p7⟩ := h.1.2.2.2.2 i (by omega)
  obtain ⟨σ', μ', ν, t', e1, e2, e3, e4, wc, wm, ok, sc, sm⟩ := would3 h hlw hl hi hj (x := σ.1 (27 + i) 4) (by rw [p4]; exact p6)
  refine ⟨σ', μ', e1, ?_, sc, sm⟩
  unfold F_Model_winsBy F_Model_winsBy_0 F_Model_bouts F_Model_bouts_0
  rw [e2]
  have e5 : up1 ν 0 33 (σ.1 (27 + i) 4) = ν := by
    refine Prod.ext ?_ rfl
    funext p k
    rw [up1_at]
    split
    · rename_i g; rw [g.1, g.2, e3]
    · rfl
  rw [e5] at e4
  simp only [ob1_some]
  rw [e4]
  simp only [ob1_some]
  rw [wm.1]
  split <;> rfl
