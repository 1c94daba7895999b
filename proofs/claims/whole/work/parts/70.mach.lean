/-! ===== signs that wait: the reference's reading as a machine over lists ===== -/
def rankN (x : Nat) : Nat := if x = 0 then 0 else if x = 11 then 1 else if x = 12 then 2 else if x = 13 then 3 else if x ≤ 15 then 4 else if x ≤ 17 then 5 else if x = 18 then 6 else 7
theorem rank_ok : ∀ x, x < 20 → F_Model_rank (nI x) = nI (rankN x) := by decide +kernel
theorem rank_le : ∀ x, rankN x ≤ 7 := by
  intro x
  unfold rankN
  (repeat' split) <;> omega
def opB (x : Nat) : Nat := if x = 0 ∨ x = 13 ∨ x = 19 then 1 else 0
def opN : List Nat → Nat
  | [] => 0
  | x :: h => opN h + opB x
def unw (r : Nat) : List Nat → List Nat → List Nat × List Nat
  | [], o => ([], o)
  | x :: h, o => if r ≤ rankN x then unw r h (o ++ [x]) else (x :: h, o)
def sgn (k : Nat) : Nat := if k = 13 then 11 else if k = 14 then 12 else if k = 60 then 14 else if k = 61 then 15 else if k = 43 then 16 else if k = 45 then 17 else if k = 42 then 18 else 0
def top4 (h : List Nat) : Bool := match h with
  | [] => false
  | x :: _ => rankN x == 4
def run (T : Nat → Nat × Nat) : Nat → Nat → Bool → Bool → List Nat → List Nat → Option (Bool × Nat × List Nat)
  | 0, _, _, _, _, _ => none
  | m + 1, j, true, mn, h, o =>
    if (T j).1 = 2 then run T m (j + 1) false mn (unw 7 h (o ++ [100000 + (T j).2])).1 (unw 7 h (o ++ [100000 + (T j).2])).2
    else if (T j).1 = 3 then run T m (j + 1) false mn (unw 7 h (o ++ [(T j).2])).1 (unw 7 h (o ++ [(T j).2])).2
    else if (T j).1 = 15 ∧ mn = true then (if opN h = 5 then some (false, j, o) else run T m (j + 1) true mn (13 :: h) o)
    else if (T j).1 = 45 then (if opN h = 5 then some (false, j, o) else run T m (j + 1) true false (19 :: h) o)
    else if (T j).1 = 40 then (if opN h = 5 then some (false, j, o) else run T m (j + 1) true true (0 :: h) o)
    else some (false, j, o)
  | m + 1, j, false, mn, h, o =>
    if (T j).1 = 59 then some ((unw 1 h o).1 == [], j, (unw 1 h o).2)
    else if (T j).1 = 41 then (match (unw 1 h o).1 with
      | [] => some (false, j, o)
      | _ :: h' => run T m (j + 1) false mn (unw 7 h' (unw 1 h o).2).1 (unw 7 h' (unw 1 h o).2).2)
    else if sgn (T j).1 = 0 then some (false, j, o)
    else if rankN (sgn (T j).1) = 4 ∧ top4 (unw 5 h o).1 = true then some (false, j, o)
    else run T m (j + 1) true (decide (sgn (T j).1 ≤ 12)) (sgn (T j).1 :: (unw (if rankN (sgn (T j).1) = 4 then 5 else rankN (sgn (T j).1)) h o).1) (unw (if rankN (sgn (T j).1) = 4 then 5 else rankN (sgn (T j).1)) h o).2
/-- the reference's state of it -/
def MSO (μ : St) (t : Nat) (o : List Nat) : Prop := μ.1 0 10 = nI t ∧ μ.1 0 29 = nI o.length ∧ ∀ i, i < o.length → μ.1 7 (200 * t + i) = nI (o.getD i 0)
def MSH (μ : St) (h : List Nat) : Prop := μ.1 0 27 = nI h.length ∧ ∀ i x, h[i]? = some x → μ.1 16 (h.length - 1 - i) = nI x
def FrE (t : Nat) (μ τ : St) : Prop := τ.2 = μ.2 ∧ ∀ p c, ¬ (p = 0 ∧ 21 ≤ c ∧ c ≤ 29) → ¬ (p = 7 ∧ 200 * t ≤ c ∧ c < 200 * t + 200) → p ≠ 16 → τ.1 p c = μ.1 p c
theorem FrE.rf {t : Nat} {μ : St} : FrE t μ μ := ⟨rfl, fun _ _ _ _ _ => rfl⟩
theorem FrE.tr {t : Nat} {a b c : St} (h : FrE t a b) (k : FrE t b c) : FrE t a c := ⟨k.1.trans h.1, fun p q h1 h2 h3 => (k.2 p q h1 h2 h3).trans (h.2 p q h1 h2 h3)⟩
theorem FrN.fe {t : Nat} {μ τ : St} (h : FrN μ τ) : FrE t μ τ := ⟨h.1, fun p c h1 _ _ => h.2 p c (by omega)⟩
theorem getD_app {o : List Nat} {x i : Nat} (h : i < o.length + 1) : (o ++ [x]).getD i 0 = if i = o.length then x else o.getD i 0 := by
  by_cases c : i = o.length
  · subst c
    rw [if_pos rfl]
    simp
  · rw [if_neg c]
    simp [List.getElem?_append_left (show i < o.length by omega)]
theorem puts_at {μ : St} {t : Nat} {o : List Nat} (ht : t < 6) (ho : o.length < 200) (h : MSO μ t o) (x : Nat) : ∃ τ, F_Model_puts μ (nI x) = some τ ∧ MSO τ t (o ++ [x]) ∧ FrE t μ τ ∧ (∀ p c, ¬ (p = 0 ∧ c = 29) → p ≠ 7 → τ.1 p c = μ.1 p c) := by
  obtain ⟨h1, h2, h3⟩ := h
  unfold F_Model_puts F_Model_puts_0
  rw [h1, h2, show (200 : Int32) * nI t + nI o.length = nI (200 * t + o.length) from by rw [show (200 : Int32) = nI 200 from rfl, pk_mul, nI_add], if_pos (inB_nI (by omega) (by decide)), nI_clamp (by omega)]
  simp only [lt]
  rw [up1_off (σ := μ) (by omega), h2, nI_1]
  refine ⟨_, rfl, ⟨?_, ?_, fun i hi => ?_⟩, ⟨rfl, fun p c g1 g2 g3 => ?_⟩, fun p c g1 g2 => ?_⟩
  · rw [up1_off (by omega), up1_off (by omega), h1]
  · rw [up1_on]; simp
  · simp only [List.length_append, List.length_cons, List.length_nil] at hi
    rw [getD_app (by omega)]
    by_cases c : i = o.length
    · rw [if_pos c, c, up1_off (by omega), up1_on]
    · rw [if_neg c, up1_off (by omega), up1_off (by omega)]
      exact h3 i (by omega)
  · rw [up1_off (by omega), up1_off (by omega)]
  · rw [up1_off (by omega), up1_off (by omega)]
theorem holds_at {μ : St} {h : List Nat} (hh : h.length < 200) (hM : MSH μ h) (x : Nat) : ∃ τ, F_Model_holds μ (nI x) = some τ ∧ MSH τ (x :: h) ∧ τ.2 = μ.2 ∧ (∀ p c, ¬ (p = 0 ∧ c = 27) → p ≠ 16 → τ.1 p c = μ.1 p c) := by
  obtain ⟨h1, h2⟩ := hM
  unfold F_Model_holds F_Model_holds_0
  rw [h1, if_pos (inB_nI (by omega) (by decide)), nI_clamp (by omega)]
  simp only [lt]
  rw [up1_off (σ := μ) (by omega), h1, nI_1]
  refine ⟨_, rfl, ⟨by rw [up1_on]; rfl, fun i y hi => ?_⟩, rfl, fun p c g1 g2 => by rw [up1_off (by omega), up1_off (by omega)]⟩
  rw [up1_off (by omega)]
  cases i with
  | zero =>
    cases hi
    simp only [List.length_cons, Nat.sub_zero, Nat.add_sub_cancel]
    rw [up1_on]
  | succ i =>
    have hi2 : h[i]? = some y := by simpa using hi
    have hl := (List.getElem?_eq_some_iff.mp hi2).1
    rw [show (x :: h).length - 1 - (i + 1) = h.length - 1 - i by simp only [List.length_cons]; omega, up1_off (by omega)]
    exact h2 i y hi2
theorem unw_at {t : Nat} (ht : t < 6) {r : Nat} (hr : 1 ≤ r) (hr7 : r ≤ 7) : ∀ (h : List Nat) (o : List Nat) (μ : St) (M : Nat), MSO μ t o → MSH μ h → μ.1 0 28 = nI (opN h) → (∀ x ∈ h, x < 20) → o.length + h.length < 200 → opN h < 2 ^ 31 → h.length < M → ∃ τ, F_Model_unwinds_0 M μ (nI r) = some τ ∧ MSO τ t (unw r h o).2 ∧ MSH τ (unw r h o).1 ∧ τ.1 0 28 = nI (opN (unw r h o).1) ∧ FrE t μ τ ∧ ∀ c, 21 ≤ c → c ≤ 24 → τ.1 0 c = μ.1 0 c := by
  intro h
  induction h with
  | nil =>
    intro o μ M hO hH h28 _ _ _ hM
    obtain ⟨M, rfl⟩ : ∃ M', M = M' + 1 := ⟨M - 1, by omega⟩
    rw [F_Model_unwinds_0, hH.1, if_pos (by decide)]
    exact ⟨μ, rfl, hO, hH, h28, FrE.rf, fun _ _ _ => rfl⟩
  | cons x h ih =>
    intro o μ M hO hH h28 h20 hl hop hM
    obtain ⟨M, rfl⟩ : ∃ M', M = M' + 1 := ⟨M - 1, by omega⟩
    simp only [List.length_cons] at hl hM
    have x20 := h20 x List.mem_cons_self
    have htop : μ.1 16 h.length = nI x := by
      have := hH.2 0 x rfl
      simpa using this
    have e27 : μ.1 0 27 = nI (h.length + 1) := hH.1
    rw [F_Model_unwinds_0, e27, if_neg (nI_nle (by omega) (by omega)), nI_pred, if_pos (inB_nI (by omega) (by decide)), nI_clamp (by omega), htop, rank_ok x x20, unw]
    by_cases c : r ≤ rankN x
    · rw [if_neg (nI_nlt c (by have := rank_le x; omega)), if_pos c]
      simp only [lt]
      have a27 : (up1 μ 0 27 (nI h.length)).1 0 27 = nI h.length := up1_on
      have a28 : (up1 μ 0 27 (nI h.length)).1 0 28 = nI (opN h + opB x) := (up1_off (by omega)).trans h28
      have a16 : (up1 μ 0 27 (nI h.length)).1 16 h.length = nI x := (up1_off (by omega)).trans htop
      rw [a27, if_pos (inB_nI (by omega) (by decide)), nI_clamp (by omega), a16, a28]
      have x0 : x ≠ 0 := by
        intro z
        rw [z] at c
        have : rankN 0 = 0 := rfl
        omega
      have go : ∀ y : Int32, y = nI (opN h) → ∃ τ, (lt (up1 (up1 μ 0 27 (nI h.length)) 0 28 y) (fun s_7 => (ob1 (F_Model_puts s_7 (nI x)) (fun s_8 => F_Model_unwinds_0 M s_8 (nI r))))) = some τ ∧ MSO τ t (unw r h (o ++ [x])).2 ∧ MSH τ (unw r h (o ++ [x])).1 ∧ τ.1 0 28 = nI (opN (unw r h (o ++ [x])).1) ∧ FrE t μ τ ∧ ∀ c, 21 ≤ c → c ≤ 24 → τ.1 0 c = μ.1 0 c := by
        intro y hy
        simp only [lt]
        have b1 : MSO (up1 (up1 μ 0 27 (nI h.length)) 0 28 y) t o := ⟨by rw [up1_off (by omega), up1_off (by omega)]; exact hO.1, by rw [up1_off (by omega), up1_off (by omega)]; exact hO.2.1, fun i hi => by rw [up1_off (by omega), up1_off (by omega)]; exact hO.2.2 i hi⟩
        obtain ⟨τ1, p1, p2, p3, p4⟩ := puts_at ht (by omega) b1 x
        rw [p1]
        simp only [ob1_some]
        have b2 : MSH τ1 h := by
          refine ⟨(p4 0 27 (by omega) (by omega)).trans ((up1_off (by omega)).trans up1_on), fun i z hi => ?_⟩
          have hil := (List.getElem?_eq_some_iff.mp hi).1
          have := hH.2 (i + 1) z (by simpa using hi)
          rw [show (x :: h).length - 1 - (i + 1) = h.length - 1 - i by simp only [List.length_cons]; omega] at this
          rw [p4 16 _ (by omega) (by omega), up1_off (by omega), up1_off (by omega)]
          exact this
        obtain ⟨τ, q1, q2, q3, q4, q5, q6⟩ := ih (o ++ [x]) τ1 M p2 b2 ((p4 0 28 (by omega) (by omega)).trans (up1_on.trans hy)) (fun z hz => h20 z (List.mem_cons_of_mem _ hz)) (by simp only [List.length_append, List.length_cons, List.length_nil]; omega) (by have : opN (x :: h) = opN h + opB x := rfl; omega) (by omega)
        refine ⟨τ, q1, q2, q3, q4, FrE.tr ?_ (p3.tr q5), fun c g1 g2 => ?_⟩
        · exact ⟨rfl, fun p c g1 g2 g3 => by rw [up1_off (by omega), up1_off (by omega)]⟩
        · rw [q6 c g1 g2, p4 0 c (by omega) (by omega), up1_off (by omega), up1_off (by omega)]
      unfold F_Model_unwinds_62 F_Model_unwinds_67
      by_cases d1 : x = 13
      · rw [if_pos (show nI x = 13 by rw [d1]; rfl)]
        refine go _ ?_
        have : opB x = 1 := by rw [d1]; rfl
        rw [this]
        exact nI_pred _
      · rw [if_neg (show ¬ nI x = 13 from fun q => d1 ((nI_eq (b := 13) (by omega) (by decide)).mp q))]
        by_cases d2 : x = 19
        · rw [if_neg (not_not_intro (show nI x = 19 by rw [d2]; rfl))]
          refine go _ ?_
          have : opB x = 1 := by rw [d2]; rfl
          rw [this]
          exact nI_pred _
        · rw [if_pos (show ¬ nI x = 19 from fun q => d2 ((nI_eq (b := 19) (by omega) (by decide)).mp q))]
          refine go _ ?_
          have : opB x = 0 := by
            unfold opB
            rw [if_neg (by omega)]
          rw [this, Nat.add_zero]
          exact Int32.sub_zero _
    · rw [if_pos (nI_lt (by omega) (by omega)), if_neg c]
      exact ⟨μ, rfl, hO, hH, h28, FrE.rf, fun _ _ _ => rfl⟩
theorem unw_len (r : Nat) : ∀ (h o : List Nat), (unw r h o).1.length + (unw r h o).2.length = h.length + o.length := by
  intro h
  induction h with
  | nil => intro o; rfl
  | cons x h ih =>
    intro o
    rw [unw]
    split
    · rw [ih]
      simp only [List.length_append, List.length_cons, List.length_nil]
      omega
    · rfl
theorem unw_mem {r : Nat} : ∀ (h o : List Nat) (x : Nat), x ∈ (unw r h o).1 → x ∈ h := by
  intro h
  induction h with
  | nil => intro o x hx; exact hx
  | cons y h ih =>
    intro o x hx
    rw [unw] at hx
    split at hx
    · exact List.mem_cons_of_mem _ (ih _ _ hx)
    · exact hx
theorem opN_le : ∀ h : List Nat, opN h ≤ h.length := by
  intro h
  induction h with
  | nil => exact Nat.le_refl _
  | cons x h ih =>
    have : opB x ≤ 1 := by unfold opB; split <;> omega
    have e : opN (x :: h) = opN h + opB x := rfl
    simp only [List.length_cons]
    omega
