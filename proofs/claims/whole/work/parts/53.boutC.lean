/-! ===== the class's bout ===== -/
def CtxC (σ : St) (pa pb q : Nat) (L : Law) (A B : Sd) : Prop := (27 ≤ pa ∧ pa < 33) ∧ (27 ≤ pb ∧ pb < 33) ∧ (8 ≤ q ∧ q < 14) ∧ σ.2 42 4 = pa ∧ σ.2 44 4 = pb ∧ σ.2 41 2 = q ∧ LawC σ.1 q L ∧ (σ.1 pa = A.1 ∧ σ.1 42 2 = A.2.1 ∧ σ.1 42 3 = A.2.2 ∧ σ.1 43 0 = A.1 1 ∧ σ.1 43 1 = A.1 2) ∧ (σ.1 pb = B.1 ∧ σ.1 44 2 = B.2.1 ∧ σ.1 44 3 = B.2.2 ∧ σ.1 45 0 = B.1 1 ∧ σ.1 45 1 = B.1 2)
def VwC (a : Nat → Nat → Int32) (v : BS) (t : Nat) (w : Bool) : Prop := a 41 3 = v.1 ∧ a 42 1 = v.2.1 ∧ a 44 1 = v.2.2.1 ∧ (w = true → a 41 5 = v.2.2.2) ∧ a 41 6 = (if w then 1 else 0) ∧ a 41 4 = nI t
def OffC (σ τ : St) : Prop := τ.2 = σ.2 ∧ ∀ p j, p ≠ 7 → ¬ (p = 41 ∧ 3 ≤ j ∧ j ≤ 6) → ¬ (p = 42 ∧ j = 1) → ¬ (p = 44 ∧ j = 1) → ¬ ((p = 43 ∨ p = 45) ∧ 2 ≤ j) → τ.1 p j = σ.1 p j
theorem OffC.rf {σ : St} : OffC σ σ := ⟨rfl, fun _ _ _ _ _ _ _ => rfl⟩
theorem OffC.tr {a b c : St} (h : OffC a b) (g : OffC b c) : OffC a c := ⟨g.1.trans h.1, fun p j h1 h2 h3 h4 h5 => (g.2 p j h1 h2 h3 h4 h5).trans (h.2 p j h1 h2 h3 h4 h5)⟩
theorem CtxC.go {σ τ : St} {pa pb q : Nat} {L : Law} {A B : Sd} (h : CtxC σ pa pb q L A B) (o : OffC σ τ) : CtxC τ pa pb q L A B := by
  obtain ⟨h1, h2, h3, h4, h5, h6, ⟨g0, g1, g2, g3, g4⟩, ⟨a1, a2, a3, a4, a5⟩, ⟨b1, b2, b3, b4, b5⟩⟩ := h
  obtain ⟨o1, o2⟩ := o
  have f : ∀ p, p < 41 → p ≠ 7 → τ.1 p = σ.1 p := fun p hp h7 => funext fun j => o2 p j h7 (by omega) (by omega) (by omega) (by omega)
  exact ⟨h1, h2, h3, by rw [o1, h4], by rw [o1, h5], by rw [o1, h6], ⟨g0, by rw [f _ (by omega) (by omega), g1], by rw [f _ (by omega) (by omega), g2], by rw [f _ (by omega) (by omega), g3], by rw [f _ (by omega) (by omega), g4]⟩, ⟨by rw [f _ (by omega) (by omega), a1], by rw [o2 _ _ (by omega) (by omega) (by omega) (by omega) (by omega), a2], by rw [o2 _ _ (by omega) (by omega) (by omega) (by omega) (by omega), a3], by rw [o2 _ _ (by omega) (by omega) (by omega) (by omega) (by omega), a4], by rw [o2 _ _ (by omega) (by omega) (by omega) (by omega) (by omega), a5]⟩, ⟨by rw [f _ (by omega) (by omega), b1], by rw [o2 _ _ (by omega) (by omega) (by omega) (by omega) (by omega), b2], by rw [o2 _ _ (by omega) (by omega) (by omega) (by omega) (by omega), b3], by rw [o2 _ _ (by omega) (by omega) (by omega) (by omega) (by omega), b4], by rw [o2 _ _ (by omega) (by omega) (by omega) (by omega) (by omega), b5]⟩⟩
theorem hardAt_C {σ : St} {q : Nat} (t : Int32) : F_Side_hardAt σ q t = hardV (σ.1 q 2) (σ.1 q 3) t := by
  unfold F_Side_hardAt F_Side_hardAt_0 hardV F_Model_hardIn F_Model_hardIn_0 F_Model_hardIn_42
  by_cases c : σ.1 q 3 ≤ t
  · rw [if_pos c, if_pos c]
    by_cases c0 : t / 10 = 0
    · rw [if_pos c0, if_neg (not_not_intro c0)]
    · rw [if_neg c0, if_pos c0]
      by_cases c1 : t / 10 = 1
      · rw [if_pos c1, if_neg (not_not_intro c1)]
      · rw [if_neg c1, if_pos c1]
        by_cases c2 : t / 10 = 2
        · rw [if_pos c2, if_neg (not_not_intro c2)]
        · rw [if_neg c2, if_pos c2]
  · rw [if_neg c, if_neg c]
theorem looks_C (σ : St) {q : Nat} (hq : P_Side q) (x y z : Int32) : (F_Side_looks σ q x y z).2 = σ.2 ∧ (∀ p j, ¬ (p = q + 1 ∧ 2 ≤ j) → (F_Side_looks σ q x y z).1 p j = σ.1 p j) ∧ (F_Side_looks σ q x y z).1 (q + 1) 2 = σ.1 q 1 ∧ (F_Side_looks σ q x y z).1 (q + 1) 3 = x ∧ (F_Side_looks σ q x y z).1 (q + 1) 4 = y ∧ (F_Side_looks σ q x y z).1 (q + 1) 5 = z := by
  unfold F_Side_looks F_Side_looks_0
  simp only [lt]
  refine ⟨rfl, fun p j h => ?_, ?_, ?_, ?_, ?_⟩
  · iterate 4 rw [up1_off (by omega)]
  · iterate 3 rw [up1_off (by omega)]
    rw [up1_on]
  · iterate 2 rw [up1_off (by omega)]
    rw [up1_on]
  · rw [up1_off (by omega), up1_on]
  · rw [up1_on]
theorem presses_C {σ : St} {q s pa : Nat} {L : Law} (hs : P_Side s) (hq : 8 ≤ q ∧ q < 14) (hpa : 27 ≤ pa ∧ pa < 33) (hl : LawC σ.1 q L) (ha : σ.2 s 4 = pa) : ∃ τ, F_Side_presses σ s q = some (forceV (σ.1 pa) (sayL L 0 (σ.1 (s + 1))) (σ.1 s 1) (σ.1 (s + 1) 4), τ) ∧ τ.2 = σ.2 ∧ ∀ p j, p ≠ 7 → τ.1 p j = σ.1 p j := by
  unfold F_Side_presses F_Side_presses_0
  rw [ha, if_pos hpa]
  obtain ⟨τ, e, t2, t3⟩ := says_C (part := 0) (x := 0) rfl hq.1 (nc := s + 1) (by omega) (by decide) hl
  rw [e]
  simp only [ob2]
  refine ⟨τ, ?_, t2, t3⟩
  rw [forceV_C, t3 s 1 (by omega), t3 (s + 1) 4 (by omega), show τ.1 pa = σ.1 pa from funext fun j => t3 _ _ (by omega)]
theorem tires_C {σ : St} {q s pa : Nat} {L : Law} (hs : P_Side s) (hq : 8 ≤ q ∧ q < 14) (hpa : 27 ≤ pa ∧ pa < 33) (hl : LawC σ.1 q L) (ha : σ.2 s 4 = pa) : ∃ τ, F_Side_tires σ s q = some τ ∧ τ.2 = σ.2 ∧ (∀ p j, p ≠ 7 → ¬ (p = s ∧ j = 1) → τ.1 p j = σ.1 p j) ∧ τ.1 s 1 = F_Main_bounded (σ.1 s 1 + (if σ.1 (s + 1) 3 = 0 then 1 else -(spendV (σ.1 pa) (sayL L 1 (σ.1 (s + 1))) (σ.1 (s + 1) 3)))) 0 24 := by
  unfold F_Side_tires F_Side_tires_0
  by_cases c : σ.1 (s + 1) 3 = 0
  · rw [if_neg (not_not_intro c), if_pos c]
    unfold F_Side_tires_33
    simp only [lt]
    exact ⟨_, rfl, rfl, fun p j _ h => up1_off h, up1_on⟩
  · rw [if_pos c, if_neg c, ha, if_pos hpa]
    obtain ⟨τ, e, t2, t3⟩ := says_C (part := 1) (x := 1) rfl hq.1 (nc := s + 1) (by omega) (by decide) hl
    rw [e]
    simp only [ob2]
    unfold F_Side_tires_33
    simp only [lt]
    refine ⟨_, rfl, t2, fun p j h7 h => (up1_off h).trans (t3 p j h7), ?_⟩
    rw [up1_on, spendV_C, t3 s 1 (by omega), show τ.1 pa = σ.1 pa from funext fun j => t3 _ _ (by omega)]
theorem over_C (σ : St) : (F_Bout_isOver σ = 0) ↔ ¬ F_Main_isWithin (σ.1 41 3) (-29) 29 = 0 := by
  unfold F_Bout_isOver F_Bout_isOver_0
  rw [iw]
  have e1 : ∀ x : Int32, x ≤ -30 ↔ ¬ (-29 : Int32) ≤ x := by
    intro x
    rw [Int32.le_iff_toInt_le, Int32.le_iff_toInt_le]
    have a1 : (-30 : Int32).toInt = -30 := by decide
    have a2 : (-29 : Int32).toInt = -29 := by decide
    omega
  have e2 : ∀ x : Int32, x < 30 ↔ x ≤ 29 := by
    intro x
    rw [Int32.le_iff_toInt_le, Int32.lt_iff_toInt_lt]
    have a1 : (30 : Int32).toInt = 30 := by decide
    have a2 : (29 : Int32).toInt = 29 := by decide
    omega
  by_cases c1 : (-29 : Int32) ≤ σ.1 41 3
  · rw [if_neg (fun q => (e1 _).mp q c1)]
    by_cases c2 : σ.1 41 3 ≤ 29
    · rw [if_pos ((e2 _).mpr c2), if_pos ⟨c1, c2⟩]; decide
    · rw [if_neg (fun q => c2 ((e2 _).mp q)), if_neg (fun q => c2 q.2)]; decide
  · rw [if_pos ((e1 _).mpr c1), if_neg (fun q => c1 q.1)]; decide
/-- one tenth, up to its end -/
theorem tenth_C {σ : St} {pa pb q : Nat} {L : Law} {A B : Sd} (h : CtxC σ pa pb q L A B) {v : BS} {t : Nat} {w : Bool} (hv : VwC σ.1 v t w) (e : Int32) (k : St → Int32 → Int32 → Option St) :
    ∃ τ, OffC σ τ ∧ VwC τ.1 (stepV L A B (nI t) v) (t + 1) w ∧
      (lt (F_Side_looks σ 42 (F_Side_hardAt σ 42 (nI t)) (σ.1 41 3) (nI t)) (fun s_4 => (lt (F_Side_looks s_4 44 (F_Side_hardAt s_4 44 (nI t)) (-(s_4.1 41 3)) (nI t)) (fun s_5 => (if P_Text (s_5.2 41 2) then (ob2 (F_Side_presses s_5 42 (s_5.2 41 2)) (fun r_7 s_8 => (if P_Text (s_8.2 41 2) then (ob2 (F_Side_presses s_8 44 (s_8.2 41 2)) (fun r_10 s_11 => (if (s_11.1 41 6) = 0 then (F_Bout_playTo_124 k s_11 e (nI t) ((r_7 - r_10) / (10 : Int32))) else (if P_Text (s_11.2 41 2) then (ob2 (F_Text_says s_11 (s_11.2 41 2) (2 : Int32) 43) (fun r_20 s_21 => (lt (up1 s_21 41 5 (if (s_11.1 41 5) < r_20 then r_20 else (s_11.1 41 5))) (fun s_22 => (F_Bout_playTo_124 k s_22 e (nI t) ((r_7 - r_10) / (10 : Int32))))))) else none)))) else none))) else none))))) = k τ e (nI t + 1) := by
  obtain ⟨v1, v2, v3, v4, v5, v6⟩ := hv
  obtain ⟨h1, h2, h3, h4, h5, h6, h7, ⟨a1, a2, a3, a4, a5⟩, ⟨b1, b2, b3, b4, b5⟩⟩ := id h
  simp only [lt]
  rw [hardAt_C, a2, a3, v1]
  generalize eA : hardV A.2.1 A.2.2 (nI t) = hA
  obtain ⟨l1, l2, l3, l4, l5, l6⟩ := looks_C σ (q := 42) (Or.inl rfl) hA v.1 (nI t)
  generalize F_Side_looks σ 42 hA v.1 (nI t) = σ1 at l1 l2 l3 l4 l5 l6 ⊢
  rw [hardAt_C, l2 44 2 (by omega), l2 44 3 (by omega), b2, b3, l2 41 3 (by omega), v1]
  generalize eB : hardV B.2.1 B.2.2 (nI t) = hB
  obtain ⟨m1, m2, m3, m4, m5, m6⟩ := looks_C σ1 (q := 44) (Or.inr rfl) hB (-v.1) (nI t)
  generalize F_Side_looks σ1 44 hB (-v.1) (nI t) = σ2 at m1 m2 m3 m4 m5 m6 ⊢
  have o2 : OffC σ σ2 := ⟨m1.trans l1, fun p j g1 g2 g3 g4 g5 => (m2 _ _ (by omega)).trans (l2 _ _ (by omega))⟩
  have c2 := h.go o2
  have nA : ∀ j, j < 6 → σ2.1 43 j = nmV A.1 v.2.1 hA v.1 (nI t) j := by
    intro j hj
    rw [m2 43 j (by omega)]
    match j, hj with
    | 0, _ => exact (l2 43 0 (by omega)).trans a4
    | 1, _ => exact (l2 43 1 (by omega)).trans a5
    | 2, _ => exact l3.trans v2
    | 3, _ => exact l4
    | 4, _ => exact l5
    | 5, _ => exact l6
    | j + 6, h => exact absurd h (by omega)
  have nB : ∀ j, j < 6 → σ2.1 45 j = nmV B.1 v.2.2.1 hB (-v.1) (nI t) j := by
    intro j hj
    match j, hj with
    | 0, _ => exact (m2 45 0 (by omega)).trans ((l2 45 0 (by omega)).trans b4)
    | 1, _ => exact (m2 45 1 (by omega)).trans ((l2 45 1 (by omega)).trans b5)
    | 2, _ => exact m3.trans ((l2 44 1 (by omega)).trans v3)
    | 3, _ => exact m4
    | 4, _ => exact m5
    | 5, _ => exact m6
    | j + 6, h => exact absurd h (by omega)
  have w2 : σ2.1 41 3 = v.1 ∧ σ2.1 42 1 = v.2.1 ∧ σ2.1 44 1 = v.2.2.1 ∧ (w = true → σ2.1 41 5 = v.2.2.2) ∧ σ2.1 41 6 = (if w then 1 else 0) := by
    refine ⟨?_, ?_, ?_, fun hw => ?_, ?_⟩
    · rw [m2 _ _ (by omega), l2 _ _ (by omega), v1]
    · rw [m2 _ _ (by omega), l2 _ _ (by omega), v2]
    · rw [m2 _ _ (by omega), l2 _ _ (by omega), v3]
    · rw [m2 _ _ (by omega), l2 _ _ (by omega), v4 hw]
    · rw [m2 _ _ (by omega), l2 _ _ (by omega), v5]
  have eL : σ2.2 41 2 = q := c2.2.2.2.2.2.1
  rw [eL, if_pos h3]
  obtain ⟨σ3, e3, p2, p3⟩ := presses_C (s := 42) (Or.inl rfl) h3 h1 c2.2.2.2.2.2.2.1 c2.2.2.2.1
  rw [e3]
  simp only [ob2]
  rw [p2, eL, if_pos h3]
  have o3 : OffC σ σ3 := o2.tr ⟨p2, fun p j g1 _ _ _ _ => p3 p j g1⟩
  have c3 := h.go o3
  obtain ⟨σ4, e4, r2, r3⟩ := presses_C (s := 44) (Or.inr rfl) h3 h2 c3.2.2.2.2.2.2.1 c3.2.2.2.2.1
  rw [e4]
  simp only [ob2]
  have o4 : OffC σ σ4 := o3.tr ⟨r2, fun p j g1 _ _ _ _ => r3 p j g1⟩
  have c4 := h.go o4
  have f4 : ∀ p j, p ≠ 7 → σ4.1 p j = σ2.1 p j := fun p j hp => (r3 p j hp).trans (p3 p j hp)
  -- what both press
  have fA : forceV (σ2.1 pa) (sayL L 0 (σ2.1 (42 + 1))) (σ2.1 42 1) (σ2.1 (42 + 1) 4) = forceV A.1 (sayL L 0 (nmV A.1 v.2.1 hA v.1 (nI t))) v.2.1 v.1 := by
    rw [c2.2.2.2.2.2.2.2.1.1, sayL_congr nA, w2.2.1, nA 4 (by decide)]
    rfl
  have fB : forceV (σ3.1 pb) (sayL L 0 (σ3.1 (44 + 1))) (σ3.1 44 1) (σ3.1 (44 + 1) 4) = forceV B.1 (sayL L 0 (nmV B.1 v.2.2.1 hB (-v.1) (nI t))) v.2.2.1 (-v.1) := by
    rw [c3.2.2.2.2.2.2.2.2.1, sayL_congr (fun j hj => (p3 45 j (by omega)).trans (nB j hj)), p3 44 1 (by omega), w2.2.2.1, p3 45 4 (by omega), nB 4 (by decide)]
    rfl
  rw [fA, fB]
  -- both tire, the angle, the tenth
  have last : ∀ (σ5 : St), OffC σ σ5 → (∀ p j, p ≠ 7 → ¬ (p = 41 ∧ j = 5) → σ5.1 p j = σ2.1 p j) → σ5.2 = σ2.2 → (w = true → σ5.1 41 5 = hurtV L A.1 v.2.1 hA v.1 (nI t) v.2.2.2) → ∃ τ, OffC σ τ ∧ VwC τ.1 (stepV L A B (nI t) v) (t + 1) w ∧ F_Bout_playTo_124 k σ5 e (nI t) ((forceV A.1 (sayL L 0 (nmV A.1 v.2.1 hA v.1 (nI t))) v.2.1 v.1 - forceV B.1 (sayL L 0 (nmV B.1 v.2.2.1 hB (-v.1) (nI t))) v.2.2.1 (-v.1)) / 10) = k τ e (nI t + 1) := by
    intro σ5 o5 f5 g5 hu
    have c5 := h.go o5
    unfold F_Bout_playTo_124
    rw [g5, eL, if_pos h3]
    obtain ⟨σ6, e6, x1, x2, x3⟩ := tires_C (s := 42) (Or.inl rfl) h3 h1 c5.2.2.2.2.2.2.1 c5.2.2.2.1
    rw [e6]
    simp only [ob1]
    have o6 : OffC σ σ6 := o5.tr ⟨x1, fun p j g1 _ g3 _ _ => x2 p j g1 (by omega)⟩
    have c6 := h.go o6
    rw [x1, g5, eL, if_pos h3]
    obtain ⟨σ7, e7, y1, y2, y3⟩ := tires_C (s := 44) (Or.inr rfl) h3 h2 c6.2.2.2.2.2.2.1 c6.2.2.2.2.1
    rw [e7]
    simp only [ob1, lt]
    have o7 : OffC σ σ7 := o6.tr ⟨y1, fun p j g1 _ _ g4 _ => y2 p j g1 (by omega)⟩
    refine ⟨_, ?_, ?_, rfl⟩
    · refine o7.tr ⟨rfl, fun p j g1 g2 _ _ _ => ?_⟩
      rw [up1_off (by omega), up1_off (by omega)]
    · refine ⟨?_, ?_, ?_, fun hw => ?_, ?_, ?_⟩
      · rw [up1_off (by omega), up1_on, y2 _ _ (by omega) (by omega), x2 _ _ (by omega) (by omega), f5 _ _ (by omega) (by omega), w2.1]
        unfold stepV
        rw [eA, eB]
        rfl
      · rw [up1_off (by omega), up1_off (by omega), y2 _ _ (by omega) (by omega), x3, f5 42 1 (by omega) (by omega), f5 (42 + 1) 3 (by omega) (by omega), w2.2.1, nA 3 (by decide), c5.2.2.2.2.2.2.2.1.1, sayL_congr (fun j hj => (f5 43 j (by omega) (by omega)).trans (nA j hj))]
        unfold stepV
        rw [eA]
        rfl
      · rw [up1_off (by omega), up1_off (by omega), y3, x2 44 1 (by omega) (by omega), x2 (44 + 1) 3 (by omega) (by omega), f5 44 1 (by omega) (by omega), f5 (44 + 1) 3 (by omega) (by omega), w2.2.2.1, nB 3 (by decide), c6.2.2.2.2.2.2.2.2.1, sayL_congr (fun j hj => (x2 45 j (by omega) (by omega)).trans ((f5 45 j (by omega) (by omega)).trans (nB j hj)))]
        unfold stepV
        rw [eB]
        rfl
      · rw [up1_off (by omega), up1_off (by omega), y2 _ _ (by omega) (by omega), x2 _ _ (by omega) (by omega), hu hw]
        unfold stepV
        rw [eA]
      · rw [up1_off (by omega), up1_off (by omega), y2 _ _ (by omega) (by omega), x2 _ _ (by omega) (by omega), f5 _ _ (by omega) (by omega), w2.2.2.2.2]
      · rw [up1_on, nI_1]
  rw [f4 41 6 (by omega), w2.2.2.2.2]
  cases w with
  | false =>
    rw [if_pos (show (if (false = true) then (1 : Int32) else 0) = 0 from rfl)]
    exact last σ4 o4 (fun p j hp _ => f4 p j hp) (r2.trans p2) (fun hw => by cases hw)
  | true =>
    rw [if_neg (show ¬ (if (true = true) then (1 : Int32) else 0) = 0 by decide), r2, p2, eL, if_pos h3]
    obtain ⟨σ5, e5, s2, s3⟩ := says_C (part := 2) (x := 2) rfl h3.1 (nc := 43) (by decide) (by decide) c4.2.2.2.2.2.2.1
    rw [e5]
    simp only [ob2]
    rw [f4 41 5 (by omega), w2.2.2.2.1 rfl, sayL_congr (fun j hj => (f4 43 j (by omega)).trans (nA j hj))]
    refine last _ (o4.tr ⟨s2, fun p j g1 g2 _ _ _ => (up1_off (by omega)).trans (s3 p j g1)⟩) (fun p j hp h5 => (up1_off h5).trans ((s3 p j hp).trans (f4 p j hp))) (s2.trans (r2.trans p2)) (fun _ => ?_)
    rw [up1_on]
    rfl
/-- the class's bout goes on -/
theorem play_C {pa pb q e : Nat} {L : Law} {A B : Sd} {w : Bool} (he : e ≤ 40) : ∀ (n : Nat) (σ : St) (v : BS) (t : Nat), CtxC σ pa pb q L A B → VwC σ.1 v t w → t ≤ 40 → 40 - t < n → ∃ τ, F_Bout_playTo_5 n σ (nI e) (nI t) = some τ ∧ OffC σ τ ∧ VwC τ.1 (playV L A B n t e v).1 (playV L A B n t e v).2 w ∧ (playV L A B n t e v).2 ≤ 40 := by
  intro n
  induction n with
  | zero => intro σ v t _ _ _ h; omega
  | succ n ih =>
    intro σ v t hc hv ht hn
    rw [F_Bout_playTo_5, playV]
    by_cases c : e ≤ t
    · rw [if_pos (nI_le c (by omega)), if_pos c]
      exact ⟨σ, rfl, OffC.rf, hv, ht⟩
    · rw [if_neg (nI_ge (Nat.not_le.mp c) (by omega)), if_neg c, if_neg (show ¬ (40 : Int32) ≤ nI t from nI_ge (a := t) (b := 40) (by omega) (by decide))]
      have ov := over_C σ
      rw [hv.1] at ov
      by_cases c2 : F_Main_isWithin v.1 (-29) 29 = 0
      · rw [if_pos (fun q => (ov.mp q) c2), if_pos c2]
        exact ⟨σ, rfl, OffC.rf, hv, ht⟩
      · rw [if_neg (not_not_intro (ov.mpr c2)), if_neg c2]
        obtain ⟨τ, o1, w1, e1⟩ := tenth_C hc hv (nI e) (fun z0 zv1 zv2 => F_Bout_playTo_5 n z0 zv1 zv2)
        rw [e1, nI_1]
        obtain ⟨υ, e3, o3, w6, w7⟩ := ih τ (stepV L A B (nI t) v) (t + 1) (hc.go o1) w1 (by omega) (by omega)
        exact ⟨υ, e3, o1.tr o3, w6, w7⟩
