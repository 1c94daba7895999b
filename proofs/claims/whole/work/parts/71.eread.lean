/-! ===== the reference reads an E ===== -/
def KL : List Nat := [0, 1, 2, 3, 10, 11, 12, 13, 14, 15, 40, 41, 42, 43, 45, 59, 60, 61]
theorem kl_tab : ∀ k, k ∈ KL → (tokR k = 59 ↔ k = 59) ∧ (tokR k = 41 ↔ k = 41) ∧ (tokR k = 1 ↔ k = 2) ∧ (tokR k = 2 ↔ k = 3) ∧ (tokR k = 6 ↔ k = 15) ∧ (tokR k = 45 ↔ k = 45) ∧ (tokR k = 40 ↔ k = 40) ∧ (tokR k = 0 ↔ k = 0) ∧ (tokR k = 3 ↔ (k = 10 ∨ k = 11 ∨ k = 12)) := by decide +kernel
theorem kl_sign : ∀ k, k ∈ KL → F_Model_signOf (fun _ _ => tokR k, fun _ _ => 0) = (if sgn k = 0 then -1 else nI (sgn k)) := by decide +kernel
theorem kl_sgn : ∀ k, k ∈ KL → sgn k ≠ 0 → sgn k < 20 ∧ 1 ≤ rankN (sgn k) ∧ rankN (sgn k) ≤ 6 ∧ opB (sgn k) = 0 ∧ ¬ nI (sgn k) = -1 ∧ 11 ≤ sgn k ∧ sgn k ≠ 13 := by decide +kernel
theorem sign_of {τ : St} {k : Nat} (hk : k ∈ KL) (h : τ.1 0 23 = tokR k) : F_Model_signOf τ = (if sgn k = 0 then -1 else nI (sgn k)) := by
  rw [← kl_sign k hk, ← h]
  rfl
theorem tB_kl (g : Nat → Nat) (n b : Nat) : (tokB g n b).1 ∈ KL := by
  unfold tokB
  split
  · exact (by decide : (0 : Nat) ∈ KL)
  · split
    · split
      · exact (by decide : (1 : Nat) ∈ KL)
      · split
        · rename_i k _ h6
          show 10 + k ∈ KL
          have : ∀ k, k < 6 → 10 + k ∈ KL := by decide +kernel
          exact this k h6
        · exact (by decide : (3 : Nat) ∈ KL)
    · split
      · split
        · exact (by decide : (2 : Nat) ∈ KL)
        · exact (by decide : (1 : Nat) ∈ KL)
      · split
        · rename_i h
          show g b ∈ KL
          simp [tS] at h
          rcases h with ((((((h | h) | h) | h) | h) | h) | h) | h <;> rw [h] <;> decide
        · exact (by decide : (1 : Nat) ∈ KL)
theorem tk_kl (g : Nat → Nat) (n j : Nat) : (Tk g n j).1 ∈ KL := by
  unfold Tk tokAt
  exact tB_kl _ _ _
section ER
variable {g : Nat → Nat} {n : Nat}
def MS (μ : St) (t : Nat) (h o : List Nat) : Prop := MSO μ t o ∧ MSH μ h ∧ μ.1 0 28 = nI (opN h) ∧ ∀ x ∈ h, x < 20
theorem MS.fr {μ τ : St} {t : Nat} {h o : List Nat} (hM : MS μ t h o) (f : ∀ p c, (p = 0 ∧ (c = 10 ∨ 25 ≤ c)) ∨ p = 7 ∨ p = 16 → τ.1 p c = μ.1 p c) : MS τ t h o := by
  obtain ⟨⟨a1, a2, a3⟩, ⟨b1, b2⟩, c1, d1⟩ := hM
  exact ⟨⟨(f _ _ (by omega)).trans a1, (f _ _ (by omega)).trans a2, fun i hi => (f _ _ (by omega)).trans (a3 i hi)⟩, ⟨(f _ _ (by omega)).trans b1, fun i x hx => (f _ _ (by omega)).trans (b2 i x hx)⟩, (f _ _ (by omega)).trans c1, d1⟩
theorem unw_ms {μ : St} {t r : Nat} {h o : List Nat} (ht : t < 6) (hr : 1 ≤ r) (hr7 : r ≤ 7) (hM : MS μ t h o) (hl : o.length + h.length < 200) : ∃ τ, F_Model_unwinds μ (nI r) = some τ ∧ MS τ t (unw r h o).1 (unw r h o).2 ∧ FrE t μ τ ∧ ∀ c, 21 ≤ c → c ≤ 24 → τ.1 0 c = μ.1 0 c := by
  obtain ⟨a, b, c, d⟩ := hM
  have := opN_le h
  obtain ⟨τ, q1, q2, q3, q4, q5, q6⟩ := unw_at ht hr hr7 h o μ FU a b c d hl (by omega) (by rw [FU_eq]; omega)
  exact ⟨τ, q1, ⟨q2, q3, q4, fun x hx => d x (unw_mem h o x hx)⟩, q5, q6⟩
theorem opd_at {μ : St} {t : Nat} {h o : List Nat} (ht : t < 6) (hM : MS μ t h o) (hl : o.length + h.length < 199) (x : Nat) : ∃ τ, (∀ (k10 : St → Int32 → Int32 → Option (Int32 × St)) (v2 : Int32), F_Model_eRead_61 k10 μ v2 (nI x) = k10 τ 0 v2) ∧ MS τ t (unw 7 h (o ++ [x])).1 (unw 7 h (o ++ [x])).2 ∧ FrE t μ τ ∧ ∀ c, 21 ≤ c → c ≤ 24 → τ.1 0 c = μ.1 0 c := by
  obtain ⟨a, b, c, d⟩ := hM
  obtain ⟨τ1, p1, p2, p3, p4⟩ := puts_at ht (by omega) a x
  have hM1 : MS τ1 t h (o ++ [x]) := ⟨p2, ⟨(p4 _ _ (by omega) (by omega)).trans b.1, fun i y hy => (p4 _ _ (by omega) (by omega)).trans (b.2 i y hy)⟩, (p4 _ _ (by omega) (by omega)).trans c, d⟩
  obtain ⟨τ, q1, q2, q3, q4⟩ := unw_ms (r := 7) ht (by omega) (by omega) hM1 (by simp only [List.length_append, List.length_cons, List.length_nil]; omega)
  refine ⟨τ, fun k10 v2 => ?_, q2, p3.tr q3, fun c g1 g2 => (q4 c g1 g2).trans (p4 0 c (by omega) (by omega))⟩
  unfold F_Model_eRead_61
  rw [p1]
  simp only [ob1_some]
  have q1' : F_Model_unwinds τ1 7 = some τ := q1
  rw [q1']
  rfl
theorem opens_at {μ : St} {t : Nat} {h o : List Nat} (hM : MS μ t h o) (hl : h.length < 199) {x : Nat} (hx : x < 20) (hb : opB x = 1) : (opN h = 5 → F_Model_opensOne μ (nI x) = some (0, μ)) ∧ (opN h ≠ 5 → ∃ τ, F_Model_opensOne μ (nI x) = some (1, τ) ∧ MS τ t (x :: h) o ∧ FrE t μ τ ∧ ∀ c, 21 ≤ c → c ≤ 24 → τ.1 0 c = μ.1 0 c) := by
  obtain ⟨a, b, c, d⟩ := hM
  have hop := opN_le h
  unfold F_Model_opensOne F_Model_opensOne_0
  rw [c]
  refine ⟨fun q => ?_, fun q => ?_⟩
  · rw [q, if_neg (not_not_intro (show nI 5 = 5 from rfl))]
  · rw [if_pos (show ¬ nI (opN h) = 5 from fun z => q ((nI_eq (b := 5) (by omega) (by decide)).mp z))]
    simp only [lt]
    rw [nI_1]
    obtain ⟨τ, p1, p2, p3, p4⟩ := holds_at (μ := up1 μ 0 28 (nI (opN h + 1))) (h := h) (by omega) ⟨(up1_off (by omega)).trans b.1, fun i y hy => (up1_off (by omega)).trans (b.2 i y hy)⟩ x
    rw [p1]
    simp only [ob1_some]
    have f : ∀ p c, ¬ (p = 0 ∧ (c = 27 ∨ c = 28)) → p ≠ 16 → τ.1 p c = μ.1 p c := fun p c g1 g2 => (p4 p c (by omega) g2).trans (up1_off (by omega))
    refine ⟨τ, rfl, ⟨⟨(f _ _ (by omega) (by omega)).trans a.1, (f _ _ (by omega) (by omega)).trans a.2.1, fun i hi => (f _ _ (by omega) (by omega)).trans (a.2.2 i hi)⟩, p2, ?_, fun y hy => ?_⟩, ⟨p3, fun p c g1 _ g3 => f p c (by omega) g3⟩, fun c g1 g2 => f 0 c (by omega) (by omega)⟩
    · rw [p4 _ _ (by omega) (by omega), up1_on]
      have : opN (x :: h) = opN h + opB x := rfl
      rw [this, hb]
    · rcases List.mem_cons.mp hy with rfl | hy
      · exact hx
      · exact d y hy
theorem between_at {μ : St} {t s : Nat} {h o : List Nat} (ht : t < 6) (hM : MS μ t h o) (hl : o.length + h.length < 199) (hs : s < 20) (hr1 : 1 ≤ rankN s) (hr6 : rankN s ≤ 6) (hb : opB s = 0) : (rankN s = 4 ∧ top4 (unw 5 h o).1 = true → ∃ τ, F_Model_between μ (nI s) = some (0, τ) ∧ FrE t μ τ ∧ ∀ c, 21 ≤ c → c ≤ 24 → τ.1 0 c = μ.1 0 c) ∧ (¬ (rankN s = 4 ∧ top4 (unw 5 h o).1 = true) → ∃ τ, F_Model_between μ (nI s) = some (1, τ) ∧ MS τ t (s :: (unw (if rankN s = 4 then 5 else rankN s) h o).1) (unw (if rankN s = 4 then 5 else rankN s) h o).2 ∧ FrE t μ τ ∧ ∀ c, 21 ≤ c → c ≤ 24 → τ.1 0 c = μ.1 0 c) := by
  unfold F_Model_between F_Model_between_0
  rw [rank_ok s hs]
  have fin : ∀ (τ1 : St) (h1 o1 : List Nat), MS τ1 t h1 o1 → h1.length < 200 → FrE t μ τ1 → (∀ c, 21 ≤ c → c ≤ 24 → τ1.1 0 c = μ.1 0 c) → ∃ τ, F_Model_between_55 τ1 (nI s) = some (1, τ) ∧ MS τ t (s :: h1) o1 ∧ FrE t μ τ ∧ ∀ c, 21 ≤ c → c ≤ 24 → τ.1 0 c = μ.1 0 c := by
    intro τ1 h1 o1 hM1 hl1 f1 f2
    obtain ⟨a, b, c, d⟩ := hM1
    obtain ⟨τ, p1, p2, p3, p4⟩ := holds_at hl1 b s
    unfold F_Model_between_55
    rw [p1]
    refine ⟨τ, rfl, ⟨⟨(p4 _ _ (by omega) (by omega)).trans a.1, (p4 _ _ (by omega) (by omega)).trans a.2.1, fun i hi => (p4 _ _ (by omega) (by omega)).trans (a.2.2 i hi)⟩, p2, ?_, fun y hy => ?_⟩, f1.tr ⟨p3, fun p c g1 _ g3 => p4 p c (by omega) g3⟩, fun c g1 g2 => (p4 0 c (by omega) (by omega)).trans (f2 c g1 g2)⟩
    · rw [p4 _ _ (by omega) (by omega), c]
      have : opN (s :: h1) = opN h1 + opB s := rfl
      rw [this, hb, Nat.add_zero]
    · rcases List.mem_cons.mp hy with rfl | hy
      · exact hs
      · exact d y hy
  by_cases c4 : rankN s = 4
  · have n4 : nI (rankN s) = 4 := by rw [c4]; rfl
    rw [if_neg (not_not_intro n4), if_pos c4]
    obtain ⟨τ1, q1, q2, q3, q4⟩ := unw_ms (r := 5) ht (by omega) (by omega) hM (by omega)
    have ul := unw_len 5 h o
    have q1' : F_Model_unwinds μ 5 = some τ1 := q1
    unfold F_Model_between_17
    rw [q1', rank_ok s hs]
    simp only [ob1_some]
    rw [if_neg (not_not_intro n4)]
    generalize hu : unw 5 h o = u at *
    cases hh : u.1 with
    | nil =>
      have e27 : τ1.1 0 27 = nI 0 := by
        have := q2.2.1.1
        rw [hh] at this
        exact this
      rw [e27, if_pos (by decide)]
      refine ⟨fun z => absurd z.2 (by simp [top4]), fun _ => ?_⟩
      rw [← hh]
      exact fin τ1 u.1 u.2 q2 (by omega) q3 q4
    | cons y r =>
      have hyl : u.1.length = r.length + 1 := by rw [hh]; rfl
      have e27 : τ1.1 0 27 = nI (r.length + 1) := by
        rw [← hyl]
        exact q2.2.1.1
      have etop : τ1.1 16 r.length = nI y := by
        have := q2.2.1.2 0 y (by rw [hh]; rfl)
        rw [hyl] at this
        simpa using this
      have y20 : y < 20 := q2.2.2.2 y (by rw [hh]; exact List.mem_cons_self)
      rw [e27, if_neg (nI_nle (by omega) (by omega)), nI_pred, if_pos (inB_nI (by omega) (by decide)), nI_clamp (by omega), etop, rank_ok y y20]
      have ry := rank_le y
      by_cases c5 : rankN y = 4
      · rw [if_neg (not_not_intro (show nI (rankN y) = 4 by rw [c5]; rfl))]
        exact ⟨fun _ => ⟨τ1, rfl, q3, q4⟩, fun z => absurd (show (rankN s = 4 ∧ top4 (y :: r) = true) from ⟨c4, by simp [top4, c5]⟩) z⟩
      · rw [if_pos (show ¬ nI (rankN y) = 4 from fun z => c5 ((nI_eq (b := 4) (by omega) (by decide)).mp z))]
        refine ⟨fun z => absurd z.2 (by simp [top4, c5]), fun _ => ?_⟩
        rw [← hh]
        exact fin τ1 u.1 u.2 q2 (by omega) q3 q4
  · have n4 : ¬ nI (rankN s) = 4 := fun z => c4 ((nI_eq (b := 4) (by omega) (by decide)).mp z)
    rw [if_pos n4, if_neg c4]
    obtain ⟨τ1, q1, q2, q3, q4⟩ := unw_ms (r := rankN s) ht hr1 (by omega) hM (by omega)
    have ul := unw_len (rankN s) h o
    unfold F_Model_between_17
    rw [q1, rank_ok s hs]
    simp only [ob1_some]
    rw [if_pos n4]
    exact ⟨fun z => absurd z.1 c4, fun _ => fin τ1 _ _ q2 (by omega) q3 q4⟩
def TT (g : Nat → Nat) (n j : Nat) : Nat × Nat := ((Tk g n j).1, (Tk g n j).2.1)
theorem eread_at {t N : Nat} (ht : t < 6) (hN : N ≤ 160) (hend : ∀ i, N ≤ i → (Tk g n i).1 = 0) : ∀ (M j : Nat) (w mn : Bool) (h o : List Nat) (μ : St) (ok : Bool) (j' : Nat) (o' : List Nat), TpM μ g n → (∀ i, i < 96 → μ.1 15 i = wordsF i) → μ.1 0 21 = nI (posn g n j) → MS μ t h o → o.length + h.length ≤ j → j ≤ N → run (TT g n) M j w mn h o = some (ok, j', o') → ∃ τ, F_Model_eRead_14 M μ (bI w) (bI mn) = some (bI ok, τ) ∧ FrE t μ τ ∧ (ok = true → τ.1 0 21 = nI (posn g n (j' + 1)) ∧ MSO τ t o') ∧ τ.1 0 22 = nI (Tk g n j').2.2.1 := by
  intro M
  induction M with
  | zero => intro j w mn h o μ ok j' o' _ _ _ _ _ _ hr; cases hr
  | succ M ih =>
    intro j w mn h o μ ok j' o' hT hW h21 hM hl hj hr
    obtain ⟨τ0, e0, f0, x21, x22, x23, x24, -⟩ := next_at hT hW h21
    have hk := tk_kl g n j
    obtain ⟨t59, t41, t1, t2, t6, t45, t40, -, -⟩ := kl_tab _ hk
    have hM0 : MS τ0 t h o := hM.fr (fun p c q => f0.2 p c (by omega))
    have hT0 := hT.fr f0
    have hW0 : ∀ i, i < 96 → τ0.1 15 i = wordsF i := fun i hi => (f0.2 _ _ (by omega)).trans (hW i hi)
    have hjn : ∀ q, (Tk g n j).1 = q → q ≠ 0 → j < N := by
      intro q h1 h2
      rcases Nat.lt_or_ge j N with z | z
      · exact z
      · exact absurd (h1.symm.trans (hend j z)) h2
    -- on to the next token
    have nx : ∀ (τ : St) (w' mn' : Bool) (h' o1 : List Nat), FrE t τ0 τ → (∀ c, 21 ≤ c → c ≤ 24 → τ.1 0 c = τ0.1 0 c) → MS τ t h' o1 → o1.length + h'.length ≤ j + 1 → j < N → run (TT g n) M (j + 1) w' mn' h' o1 = some (ok, j', o') → ∃ υ, F_Model_eRead_14 M τ (bI w') (bI mn') = some (bI ok, υ) ∧ FrE t μ υ ∧ (ok = true → υ.1 0 21 = nI (posn g n (j' + 1)) ∧ MSO υ t o') ∧ υ.1 0 22 = nI (Tk g n j').2.2.1 := by
      intro τ w' mn' h' o1 a1 a2 a3 a4 a5 a6
      obtain ⟨υ, b1, b2, b3, b4⟩ := ih (j + 1) w' mn' h' o1 τ ok j' o' ⟨hT0.1, (a1.2 _ _ (by omega) (by omega) (by omega)).trans hT0.2.1, fun i hi => ⟨(hT0.2.2 i hi).1, (a1.2 _ _ (by omega) (by omega) (by omega)).trans (hT0.2.2 i hi).2⟩⟩ (fun i hi => (a1.2 _ _ (by omega) (by omega) (by omega)).trans (hW0 i hi)) ((a2 21 (by omega) (by omega)).trans x21) a3 a4 (by omega) a6
      exact ⟨υ, b1, f0.fe.tr (a1.tr b2), b3, b4⟩
    have stop : ∀ (τ : St) (oo : List Nat), FrE t τ0 τ → (∀ c, 21 ≤ c → c ≤ 24 → τ.1 0 c = τ0.1 0 c) → some (false, j, oo) = some (ok, j', o') → ∃ υ, some ((0 : Int32), τ) = some (bI ok, υ) ∧ FrE t μ υ ∧ (ok = true → υ.1 0 21 = nI (posn g n (j' + 1)) ∧ MSO υ t o') ∧ υ.1 0 22 = nI (Tk g n j').2.2.1 := by
      intro τ oo a1 a2 a3
      cases a3
      exact ⟨τ, rfl, f0.fe.tr a1, fun q => (by cases q), (a2 22 (by omega) (by omega)).trans x22⟩
    rw [F_Model_eRead_14, e0]
    simp only [ob1_some]
    rw [x23]
    cases w with
    | true =>
      rw [if_neg (show ¬ bI true = 0 by decide)]
      rw [run] at hr
      have kT : (TT g n j).1 = (Tk g n j).1 := rfl
      have vT : (TT g n j).2 = (Tk g n j).2.1 := rfl
      rw [kT, vT] at hr
      by_cases c2 : (Tk g n j).1 = 2
      · rw [if_pos c2] at hr
        rw [if_pos (t1.mpr c2)]
        unfold F_Model_eRead_38
        rw [x23, if_neg (not_not_intro (t1.mpr c2)), x24 (Or.inl c2), show (100000 : Int32) + nI (Tk g n j).2.1 = nI (100000 + (Tk g n j).2.1) from nI_add 100000 _]
        have jN := hjn 2 c2 (by decide)
        obtain ⟨τ, p1, p2, p3, p4⟩ := opd_at ht hM0 (by omega) (100000 + (Tk g n j).2.1)
        rw [p1]
        have ul := unw_len 7 h (o ++ [100000 + (Tk g n j).2.1])
        exact nx τ false mn _ _ p3 p4 p2 (by simp only [List.length_append, List.length_cons, List.length_nil] at ul; omega) jN hr
      rw [if_neg c2] at hr
      rw [if_neg (fun q => c2 (t1.mp q))]
      by_cases c3 : (Tk g n j).1 = 3
      · rw [if_pos c3] at hr
        rw [if_neg (not_not_intro (t2.mpr c3))]
        unfold F_Model_eRead_38
        rw [x23, if_pos (fun q => c2 (t1.mp q)), x24 (Or.inr c3)]
        have jN := hjn 3 c3 (by decide)
        obtain ⟨τ, p1, p2, p3, p4⟩ := opd_at ht hM0 (by omega) (Tk g n j).2.1
        rw [p1]
        have ul := unw_len 7 h (o ++ [(Tk g n j).2.1])
        exact nx τ false mn _ _ p3 p4 p2 (by simp only [List.length_append, List.length_cons, List.length_nil] at ul; omega) jN hr
      rw [if_neg c3] at hr
      rw [if_pos (fun q => c3 (t2.mp q))]
      -- not, -, (
      have opn : ∀ (x : Nat) (q : Nat) (mn' : Bool), (Tk g n j).1 = q → q ≠ 0 → x < 20 → opB x = 1 → (if opN h = 5 then some (false, j, o) else run (TT g n) M (j + 1) true mn' (x :: h) o) = some (ok, j', o') → ∃ υ, (ob2 (F_Model_opensOne τ0 (nI x)) (fun r_34 s_35 => (if ¬ r_34 = 0 then (F_Model_eRead_14 M s_35 1 (bI mn')) else (some ((0 : Int32), s_35))))) = some (bI ok, υ) ∧ FrE t μ υ ∧ (ok = true → υ.1 0 21 = nI (posn g n (j' + 1)) ∧ MSO υ t o') ∧ υ.1 0 22 = nI (Tk g n j').2.2.1 := by
        intro x q mn' hq q0 hx hb hr'
        have jN := hjn q hq q0
        obtain ⟨z1, z2⟩ := opens_at hM0 (by omega) hx hb
        by_cases c5 : opN h = 5
        · rw [if_pos c5] at hr'
          rw [z1 c5]
          simp only [ob2_some]
          rw [if_neg (not_not_intro trivial)]
          exact stop τ0 o FrE.rf (fun _ _ _ => rfl) hr'
        · rw [if_neg c5] at hr'
          obtain ⟨τ, p1, p2, p3, p4⟩ := z2 c5
          rw [p1]
          simp only [ob2_some]
          rw [if_pos one_ne]
          exact nx τ true mn' _ _ p3 p4 p2 (by simp only [List.length_cons]; omega) jN hr'
      have rest99 : ¬ ((Tk g n j).1 = 15 ∧ mn = true) → ∃ υ, F_Model_eRead_99 (fun z0 zv1 zv2 => F_Model_eRead_14 M z0 zv1 zv2) τ0 1 = some (bI ok, υ) ∧ FrE t μ υ ∧ (ok = true → υ.1 0 21 = nI (posn g n (j' + 1)) ∧ MSO υ t o') ∧ υ.1 0 22 = nI (Tk g n j').2.2.1 := by
        intro c15
        rw [if_neg c15] at hr
        unfold F_Model_eRead_99
        rw [x23]
        by_cases c45 : (Tk g n j).1 = 45
        · rw [if_pos c45] at hr
          rw [if_neg (not_not_intro (t45.mpr c45))]
          exact opn 19 45 false c45 (by decide) (by decide) (by decide) hr
        · rw [if_neg c45] at hr
          rw [if_pos (fun q => c45 (t45.mp q))]
          by_cases c40 : (Tk g n j).1 = 40
          · rw [if_pos c40] at hr
            rw [if_neg (not_not_intro (t40.mpr c40))]
            exact opn 0 40 true c40 (by decide) (by decide) (by decide) hr
          · rw [if_neg c40] at hr
            rw [if_pos (fun q => c40 (t40.mp q))]
            exact stop τ0 o FrE.rf (fun _ _ _ => rfl) hr
      by_cases c15 : (Tk g n j).1 = 15
      · rw [if_neg (not_not_intro (t6.mpr c15))]
        cases mn with
        | true =>
          rw [if_pos ⟨c15, rfl⟩] at hr
          rw [if_neg (show ¬ bI true = 0 by decide)]
          exact opn 13 15 true c15 (by decide) (by decide) (by decide) hr
        | false =>
          rw [if_pos (show bI false = 0 from rfl)]
          exact rest99 (fun q => by cases q.2)
      · rw [if_pos (fun q => c15 (t6.mp q))]
        exact rest99 (fun q => c15 q.1)
    | false =>
      rw [if_pos (show bI false = 0 from rfl)]
      rw [run] at hr
      have kT : (TT g n j).1 = (Tk g n j).1 := rfl
      rw [kT] at hr
      by_cases c59 : (Tk g n j).1 = 59
      · rw [if_pos c59] at hr
        rw [if_neg (not_not_intro (t59.mpr c59))]
        obtain ⟨τ, p1, p2, p3, p4⟩ := unw_ms (r := 1) ht (by omega) (by omega) hM0 (by omega)
        have p1' : F_Model_unwinds τ0 1 = some τ := p1
        rw [p1']
        simp only [ob1_some]
        rw [p2.2.1.1]
        cases hr
        have y21 : τ.1 0 21 = nI (posn g n (j + 1)) := (p4 21 (by omega) (by omega)).trans x21
        have y22 : τ.1 0 22 = nI (Tk g n j).2.2.1 := (p4 22 (by omega) (by omega)).trans x22
        cases hu : (unw 1 h o).1 with
        | nil =>
          rw [if_neg (not_not_intro (show nI ([] : List Nat).length = 0 from rfl))]
          exact ⟨τ, rfl, f0.fe.tr p3, fun _ => ⟨y21, p2.1⟩, y22⟩
        | cons y r =>
          have ul := unw_len 1 h o
          rw [hu] at ul
          simp only [List.length_cons] at ul
          rw [if_pos (show ¬ nI (y :: r).length = 0 from nI_ne0 (by simp) (by simp only [List.length_cons]; omega))]
          exact ⟨τ, rfl, f0.fe.tr p3, fun q => (by simp at q), y22⟩
      rw [if_neg c59] at hr
      rw [if_pos (fun q => c59 (t59.mp q))]
      by_cases c41 : (Tk g n j).1 = 41
      · rw [if_pos c41] at hr
        rw [if_neg (not_not_intro (t41.mpr c41))]
        have jN := hjn 41 c41 (by decide)
        obtain ⟨τ, p1, p2, p3, p4⟩ := unw_ms (r := 1) ht (by omega) (by omega) hM0 (by omega)
        have p1' : F_Model_unwinds τ0 1 = some τ := p1
        rw [p1']
        simp only [ob1_some]
        have ul := unw_len 1 h o
        have e27 := p2.2.1.1
        cases hu : (unw 1 h o).1 with
        | nil =>
          rw [hu] at hr e27
          rw [e27, if_neg (not_not_intro (show nI ([] : List Nat).length = 0 from rfl))]
          exact stop τ o p3 p4 hr
        | cons y r =>
          rw [hu] at hr e27 ul p2
          simp only [List.length_cons] at ul
          rw [e27, if_pos (show ¬ nI (y :: r).length = 0 from nI_ne0 (by simp) (by simp only [List.length_cons]; omega))]
          obtain ⟨a, b, c, d⟩ := p2
          have y0 : rankN y = 0 := by
            have : ∀ (h o : List Nat) y r, (unw 1 h o).1 = y :: r → ¬ 1 ≤ rankN y := by
              intro h
              induction h with
              | nil => intro o y r z; cases z
              | cons x h ih =>
                intro o y r z
                rw [unw] at z
                split at z
                · exact ih _ _ _ z
                · rename_i q
                  cases z
                  exact q
            have := this h o y r hu
            omega
          have yz : y = 0 := by
            have y20 : y < 20 := d y List.mem_cons_self
            have : ∀ y, y < 20 → rankN y = 0 → y = 0 := by decide +kernel
            exact this y y20 y0
          have e28 : τ.1 0 28 = nI (opN r + 1) := by
            rw [c, yz]
            rfl
          have e27' : τ.1 0 27 = nI (r.length + 1) := e27
          simp only [lt]
          rw [show nI (y :: r).length - 1 = nI r.length from nI_pred _, up1_off (σ := τ) (by omega), e28, nI_pred]
          have f2 : ∀ p q, ¬ (p = 0 ∧ (q = 27 ∨ q = 28)) → (up1 (up1 τ 0 27 (nI r.length)) 0 28 (nI (opN r))).1 p q = τ.1 p q := fun p q z => by rw [up1_off (by omega), up1_off (by omega)]
          have hM2 : MS (up1 (up1 τ 0 27 (nI r.length)) 0 28 (nI (opN r))) t r (unw 1 h o).2 := by
            refine ⟨⟨(f2 _ _ (by omega)).trans a.1, (f2 _ _ (by omega)).trans a.2.1, fun i hi => (f2 _ _ (by omega)).trans (a.2.2 i hi)⟩, ⟨by rw [up1_off (by omega), up1_on], fun i z hz => ?_⟩, up1_on, fun z hz => d z (List.mem_cons_of_mem _ hz)⟩
            have hil := (List.getElem?_eq_some_iff.mp hz).1
            have := b.2 (i + 1) z (by simpa using hz)
            rw [show (y :: r).length - 1 - (i + 1) = r.length - 1 - i by simp only [List.length_cons]; omega] at this
            exact (f2 _ _ (by omega)).trans this
          have f3 : FrE t τ (up1 (up1 τ 0 27 (nI r.length)) 0 28 (nI (opN r))) := ⟨rfl, fun p q g1 _ _ => f2 p q (by omega)⟩
          obtain ⟨τ3, q1, q2, q3, q4⟩ := unw_ms (r := 7) ht (by omega) (by omega) hM2 (by omega)
          have q1' : F_Model_unwinds (up1 (up1 τ 0 27 (nI r.length)) 0 28 (nI (opN r))) 7 = some τ3 := q1
          rw [q1']
          have ul2 := unw_len 7 r (unw 1 h o).2
          exact nx τ3 false mn _ _ (p3.tr (f3.tr q3)) (fun c g1 g2 => (q4 c g1 g2).trans ((f2 0 c (by omega)).trans (p4 c g1 g2))) q2 (by omega) jN hr
      rw [if_neg c41] at hr
      rw [if_pos (fun q => c41 (t41.mp q)), sign_of hk x23]
      by_cases cs : sgn (Tk g n j).1 = 0
      · rw [if_pos cs] at hr
        rw [if_pos cs, if_pos rfl]
        exact stop τ0 o FrE.rf (fun _ _ _ => rfl) hr
      · rw [if_neg cs] at hr
        obtain ⟨s20, s1, s6, sb, sm1, s11, -⟩ := kl_sgn _ hk cs
        rw [if_neg cs, if_neg sm1]
        have jN : j < N := by
          rcases Nat.lt_or_ge j N with z | z
          · exact z
          · exfalso
            apply cs
            rw [hend j z]
            rfl
        obtain ⟨z1, z2⟩ := between_at ht hM0 (by omega) s20 s1 s6 sb
        by_cases c4 : rankN (sgn (Tk g n j).1) = 4 ∧ top4 (unw 5 h o).1 = true
        · rw [if_pos c4] at hr
          obtain ⟨τ, p1, p2, p3⟩ := z1 c4
          rw [p1]
          simp only [ob2_some]
          rw [if_neg (not_not_intro trivial)]
          exact stop τ o p2 p3 hr
        · rw [if_neg c4] at hr
          obtain ⟨τ, p1, p2, p3, p4⟩ := z2 c4
          rw [p1]
          simp only [ob2_some]
          rw [if_pos one_ne]
          unfold F_Model_eRead_262
          have ul := unw_len (if rankN (sgn (Tk g n j).1) = 4 then 5 else rankN (sgn (Tk g n j).1)) h o
          by_cases c12 : sgn (Tk g n j).1 ≤ 12
          · rw [if_neg (show ¬ (12 : Int32) < nI (sgn (Tk g n j).1) from nI_nlt (a := 12) c12 (by decide))]
            rw [show decide (sgn (Tk g n j).1 ≤ 12) = true by simpa using c12] at hr
            exact nx τ true true _ _ p3 p4 p2 (by simp only [List.length_cons]; omega) jN hr
          · rw [if_pos (show (12 : Int32) < nI (sgn (Tk g n j).1) from nI_lt (a := 12) (by omega) (by omega))]
            rw [show decide (sgn (Tk g n j).1 ≤ 12) = false by simpa using c12] at hr
            exact nx τ true false _ _ p3 p4 p2 (by simp only [List.length_cons]; omega) jN hr
end ER
