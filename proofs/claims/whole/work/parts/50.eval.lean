/-! ===== what a text says: both machines over one list ===== -/
noncomputable def evL (st nm : Nat → Int32) : Nat → Nat → List Int32 → List Int32
  | 0, _, l => l
  | n + 1, i, l => if -6 ≤ st i then evL st nm n (i + 1) ((if 0 ≤ st i then st i else nm (-1 - st i).toNatClampNeg) :: l) else if -12 ≤ st i then evL st nm n (i + 1) (F_Text_ofOne (st i) (l.headD 0) :: l.tail) else evL st nm n (i + 1) (F_Text_ofTwo (st i) (l.tail.headD 0) (l.headD 0) :: l.tail.tail)
def Stk (f : Nat → Int32) (l : List Int32) : Prop := ∀ (j : Nat) (x : Int32), l[j]? = some x → f (l.length - 1 - j) = x
theorem Stk.push {f g : Nat → Int32} {l : List Int32} {x : Int32} (h : Stk f l) (hg : ∀ i, i < l.length → g i = f i) (hx : g l.length = x) : Stk g (x :: l) := by
  intro j y hj
  cases j with
  | zero => cases hj; simpa using hx
  | succ j =>
    have hj2 : l[j]? = some y := by simpa using hj
    have hl := (List.getElem?_eq_some_iff.mp hj2).1
    have := h j y hj2
    rw [show (x :: l).length - 1 - (j + 1) = l.length - 1 - j by simp only [List.length_cons]; omega, hg _ (by omega)]
    exact this
theorem Stk.tail {f : Nat → Int32} {x : Int32} {l : List Int32} (h : Stk f (x :: l)) : Stk f l := by
  intro j y hj
  have hl := (List.getElem?_eq_some_iff.mp hj).1
  have := h (j + 1) y (by simpa using hj)
  rw [show (x :: l).length - 1 - (j + 1) = l.length - 1 - j by simp only [List.length_cons]; omega] at this
  exact this
theorem Stk.head {f : Nat → Int32} {x : Int32} {l : List Int32} (h : Stk f (x :: l)) : f l.length = x := by
  have := h 0 x rfl
  simpa using this
theorem m6_name {x : Int32} (h1 : -6 ≤ x) (h2 : ¬ 0 ≤ x) : ∃ k : Nat, k < 6 ∧ -1 - x = nI k := by
  have a1 := Int32.le_iff_toInt_le.mp h1
  have a2 : ¬ (0 : Int32).toInt ≤ x.toInt := fun q => h2 (Int32.le_iff_toInt_le.mpr q)
  have e6 : (-6 : Int32).toInt = -6 := by decide
  have e0 : (0 : Int32).toInt = 0 := rfl
  have hx : x = Int32.ofInt x.toInt := (Int32.ofInt_toInt x).symm
  rw [e6] at a1
  rw [e0] at a2
  have : x.toInt = -6 ∨ x.toInt = -5 ∨ x.toInt = -4 ∨ x.toInt = -3 ∨ x.toInt = -2 ∨ x.toInt = -1 := by omega
  rcases this with h | h | h | h | h | h <;> rw [h] at hx <;> rw [hx]
  · exact ⟨5, by decide, by decide⟩
  · exact ⟨4, by decide, by decide⟩
  · exact ⟨3, by decide, by decide⟩
  · exact ⟨2, by decide, by decide⟩
  · exact ⟨1, by decide, by decide⟩
  · exact ⟨0, by decide, by decide⟩
theorem worth_at {q nc : Nat} (hq : 8 ≤ q) (hnc : nc ≠ 7) : ∀ (n : Nat) (σ : St) (i : Nat) (l : List Int32) (to : Nat), hgt (σ.1 (q + 6)) (to - i) i l.length = some 1 → i ≤ to → to ≤ 160 → l.length ≤ i → Stk (σ.1 7) l → to - i < n →
    ∃ τ, F_Text_worth_6 n σ q (nI to) nc (nI l.length) (nI i) = some ((evL (σ.1 (q + 6)) (σ.1 nc) (to - i) i l).headD 0, τ) ∧ τ.2 = σ.2 ∧ ∀ p j, p ≠ 7 → τ.1 p j = σ.1 p j := by
  intro n
  induction n with
  | zero => intro σ i l to _ _ _ _ _ h; omega
  | succ n ih =>
    intro σ i l to hh hi hto hl hS hn
    rw [F_Text_worth_6]
    by_cases c : i = to
    · subst c
      rw [if_pos (nI_le (Nat.le_refl _) (by omega))]
      rw [Nat.sub_self] at hh ⊢
      have hl1 : l.length = 1 := by simpa [hgt] using hh
      obtain ⟨x, rfl⟩ : ∃ x, l = [x] := List.length_eq_one_iff.mp hl1
      unfold F_Text_worth_167
      have e1 : nI [x].length - 1 = nI 0 := nI_pred 0
      rw [if_pos (show (1 : Int32) ≤ nI [x].length from (by decide : (1 : Int32) ≤ nI 1)), e1, if_pos (inB_nI (by decide) (by decide)), nI_clamp (by decide)]
      have := hS.head
      exact ⟨σ, by rw [show σ.1 7 0 = x from this]; rfl, rfl, fun _ _ _ => rfl⟩
    · have hlt : i < to := by omega
      rw [if_neg (nI_ge hlt (by omega)), if_neg (show ¬ (160 : Int32) ≤ nI i from nI_ge (a := i) (b := 160) (by omega) (by decide)), if_pos (inB_nI (by omega) (by decide)), nI_clamp (by omega)]
      obtain ⟨d, hd⟩ : ∃ d, to - i = d + 1 := ⟨to - i - 1, by omega⟩
      have hd2 : to - (i + 1) = d := by omega
      rw [hd] at hh ⊢
      rw [hgt] at hh
      rw [evL]
      have kq : ∀ (k : Nat) (x : Int32), (up1 σ 7 k x).1 (q + 6) = σ.1 (q + 6) := fun k x => up1_ne (by omega)
      have kn : ∀ (k : Nat) (x : Int32), (up1 σ 7 k x).1 nc = σ.1 nc := fun k x => up1_ne hnc
      have fin : ∀ (k : Nat) (x : Int32) (l' : List Int32), hgt (σ.1 (q + 6)) d (i + 1) l'.length = some 1 → l'.length ≤ i + 1 → Stk ((up1 σ 7 k x).1 7) l' → ∃ τ, F_Text_worth_6 n (up1 σ 7 k x) q (nI to) nc (nI l'.length) (nI i + 1) = some ((evL (σ.1 (q + 6)) (σ.1 nc) d (i + 1) l').headD 0, τ) ∧ τ.2 = σ.2 ∧ ∀ p j, p ≠ 7 → τ.1 p j = σ.1 p j := by
        intro k x l' g1 g2 g3
        obtain ⟨τ, e, t2, t3⟩ := ih (up1 σ 7 k x) (i + 1) l' to (by rw [kq, hd2]; exact g1) (by omega) hto g2 g3 (by omega)
        rw [kq, kn, hd2] at e
        rw [nI_1, e]
        exact ⟨τ, rfl, t2, fun p j hp => (t3 p j hp).trans (up1_off (by omega))⟩
      by_cases c6 : -6 ≤ σ.1 (q + 6) i
      · rw [if_neg (Int32.not_lt.mpr c6), if_pos c6]
        rw [if_pos c6] at hh
        have hin : inB (nI l.length) 160 = true := inB_nI (by omega) (by decide)
        rw [if_pos (show nI l.length < 160 from nI_lt (a := l.length) (b := 160) (by omega) (by decide))]
        have push : ∀ x : Int32, ∃ τ, F_Text_worth_72 (fun z0 zv0 zv2 zv3 zv4 zv5 => F_Text_worth_6 n z0 zv0 zv2 zv3 zv4 zv5) σ q (nI to) nc (nI l.length) (nI i) (nI l.length) x = some ((evL (σ.1 (q + 6)) (σ.1 nc) d (i + 1) (x :: l)).headD 0, τ) ∧ τ.2 = σ.2 ∧ ∀ p j, p ≠ 7 → τ.1 p j = σ.1 p j := by
          intro x
          unfold F_Text_worth_72 F_Text_worth_161
          rw [if_pos hin, nI_clamp (by omega)]
          simp only [lt]
          rw [show nI l.length + 1 = nI (x :: l).length from nI_1 _]
          exact fin _ _ _ hh (by simp; omega) (hS.push (fun k hk => up1_off (by omega)) up1_on)
        by_cases c0 : 0 ≤ σ.1 (q + 6) i
        · rw [if_neg (Int32.not_lt.mpr c0), if_pos c0]
          exact push _
        · rw [if_pos (Int32.not_le.mp c0), if_neg c0]
          obtain ⟨k, hk, e⟩ := m6_name c6 c0
          rw [e, if_pos (inB_nI hk (by decide))]
          exact push _
      · rw [if_pos (Int32.not_le.mp c6), if_neg c6]
        rw [if_neg c6] at hh
        by_cases c12 : -12 ≤ σ.1 (q + 6) i
        · rw [if_neg (Int32.not_lt.mpr c12), if_pos c12]
          rw [if_pos c12] at hh
          match l, hh, hl, hS with
          | [], hh, _, _ => simp at hh
          | x :: r, hh, hl, hS =>
            rw [if_pos (by simp)] at hh
            have hl' : r.length + 1 ≤ i := hl
            have e1 : nI (x :: r).length - 1 = nI r.length := nI_pred _
            have hin : inB (nI r.length) 160 = true := inB_nI (by omega) (by decide)
            rw [if_pos (show (1 : Int32) ≤ nI (x :: r).length from nI_le (a := 1) (by simp) (by simp only [List.length_cons]; omega)), e1, if_pos hin, if_pos hin, nI_clamp (by omega)]
            simp only [lt]
            unfold F_Text_worth_161
            rw [hS.head]
            exact fin _ _ (F_Text_ofOne (σ.1 (q + 6) i) x :: r) hh (by simp only [List.length_cons]; omega) (hS.tail.push (fun k hk => up1_off (by omega)) up1_on)
        · rw [if_pos (Int32.not_le.mp c12), if_neg c12]
          rw [if_neg c12] at hh
          match l, hh, hl, hS with
          | [], hh, _, _ => simp at hh
          | [x], hh, _, _ => simp at hh
          | y :: x :: r, hh, hl, hS =>
            rw [if_pos (by simp)] at hh
            have hl' : r.length + 2 ≤ i := hl
            have e1 : nI (y :: x :: r).length + (-1) = nI (r.length + 1) := pk_m1 _
            have e2 : nI (r.length + 1) - 1 = nI r.length := nI_pred _
            have hin : inB (nI r.length) 160 = true := inB_nI (by omega) (by decide)
            have hin2 : inB (nI (r.length + 1)) 160 = true := inB_nI (by omega) (by decide)
            rw [if_pos (show (2 : Int32) ≤ nI (y :: x :: r).length from nI_le (a := 2) (by simp) (by simp only [List.length_cons]; omega)), e1, e2, if_pos hin, if_pos hin2, if_pos hin, nI_clamp (by omega), nI_clamp (by omega)]
            simp only [lt]
            unfold F_Text_worth_161
            have s1 : σ.1 7 (r.length + 1) = y := hS.head
            have s2 : σ.1 7 r.length = x := hS.tail.head
            rw [s1, s2]
            exact fin _ _ (F_Text_ofTwo (σ.1 (q + 6) i) x y :: r) hh (by simp only [List.length_cons]; omega) (hS.tail.tail.push (fun k hk => up1_off (by omega)) up1_on)
/-- a text's part -/
theorem worth_part {q nc : Nat} (hq : 8 ≤ q) (hnc : nc ≠ 7) (σ : St) {a b : Nat} (h : hgt (σ.1 (q + 6)) (b - a) a 0 = some 1) (hab : a ≤ b) (hb : b ≤ 160) : ∃ τ, F_Text_worth σ q (nI a) (nI b) nc = some ((evL (σ.1 (q + 6)) (σ.1 nc) (b - a) a []).headD 0, τ) ∧ τ.2 = σ.2 ∧ ∀ p j, p ≠ 7 → τ.1 p j = σ.1 p j := by
  unfold F_Text_worth F_Text_worth_0
  exact worth_at hq hnc FU σ a [] b h hab hb (Nat.zero_le _) (fun j x hj => by simp at hj) (by rw [FU_eq]; omega)
theorem name_m : ∀ k, k < 6 → (-6 : Int32) ≤ -1 - nI k ∧ ¬ (0 : Int32) ≤ -1 - nI k ∧ -1 - (-1 - nI k) = nI k := by decide +kernel
theorem len1 {st : Nat → Int32} {d i : Nat} {l : List Int32} (h : (if 1 ≤ l.length then hgt st d i l.length else none) = some 1) : ∃ x r, l = x :: r := by
  cases l with
  | nil => simp at h
  | cons x r => exact ⟨x, r, rfl⟩
theorem len2 {st : Nat → Int32} {d i : Nat} {l : List Int32} (h : (if 2 ≤ l.length then hgt st d i (l.length - 1) else none) = some 1) : ∃ y x r, l = y :: x :: r := by
  cases l with
  | nil => simp at h
  | cons y l => cases l with
    | nil => simp at h
    | cons x r => exact ⟨y, x, r, rfl⟩
/-- the reference -/
theorem evL_push {st nm : Nat → Int32} {n i : Nat} {l : List Int32} (h : -6 ≤ st i) : evL st nm (n + 1) i l = evL st nm n (i + 1) ((if 0 ≤ st i then st i else nm (-1 - st i).toNatClampNeg) :: l) := by
  rw [evL, if_pos h]
theorem evL_one {st nm : Nat → Int32} {n i : Nat} {l : List Int32} (h : ¬ -6 ≤ st i) (h2 : -12 ≤ st i) : evL st nm (n + 1) i l = evL st nm n (i + 1) (F_Text_ofOne (st i) (l.headD 0) :: l.tail) := by
  rw [evL, if_neg h, if_pos h2]
theorem evL_two {st nm : Nat → Int32} {n i : Nat} {l : List Int32} (h : ¬ -6 ≤ st i) (h2 : ¬ -12 ≤ st i) : evL st nm (n + 1) i l = evL st nm n (i + 1) (F_Text_ofTwo (st i) (l.tail.headD 0) (l.headD 0) :: l.tail.tail) := by
  rw [evL, if_neg h, if_neg h2]
theorem two_eq {s c : Int32} (h : (s = -27 ∧ c = 11) ∨ (s = -26 ∧ c = 12) ∨ (s = -24 ∧ c = 14) ∨ (s = -25 ∧ c = 15) ∨ (s = -21 ∧ c = 16) ∨ (s = -22 ∧ c = 17) ∨ (s = -23 ∧ c = 18)) (x y : Int32) : F_Model_two c x y = F_Text_ofTwo s x y := by
  rcases h with ⟨rfl, rfl⟩ | ⟨rfl, rfl⟩ | ⟨rfl, rfl⟩ | ⟨rfl, rfl⟩ | ⟨rfl, rfl⟩ | ⟨rfl, rfl⟩ | ⟨rfl, rfl⟩ <;> rfl
theorem says_at {lw part to : Nat} (hlw : lw < 6) (hp : part < 3) (hto : to ≤ 160) {st nm : Nat → Int32} : ∀ (n : Nat) (μ : St) (i : Nat) (l : List Int32), μ.1 0 11 = nI lw → μ.1 8 (4 * lw + part + 1) = nI to → (∀ j, j < to → Enc (st j) (μ.1 7 (200 * lw + j))) → μ.1 18 = nm → hgt st (to - i) i l.length = some 1 → i ≤ to → l.length ≤ i → Stk (μ.1 17) l → to - i < n →
    ∃ τ, F_Model_says_16 n μ (nI part) (nI l.length) (nI i) = some ((evL st nm (to - i) i l).headD 0, τ) ∧ τ.2 = μ.2 ∧ ∀ p j, p ≠ 17 → τ.1 p j = μ.1 p j := by
  intro n
  induction n with
  | zero => intro μ i l _ _ _ _ _ _ _ _ h; omega
  | succ n ih =>
    intro μ i l hL hE hC hN hh hi hl hS hn
    rw [F_Model_says_16, hL]
    have i1 : (4 : Int32) * nI lw + nI part + 1 = nI (4 * lw + part + 1) := by
      rw [show (4 : Int32) = nI 4 from rfl, pk_mul, nI_add, nI_1]
    rw [i1, if_pos (inB_nI (by omega) (by decide)), nI_clamp (by omega), hE]
    by_cases c : i = to
    · subst c
      rw [if_pos (nI_le (Nat.le_refl _) (by omega))]
      rw [Nat.sub_self] at hh ⊢
      have hl1 : l.length = 1 := by simpa [hgt] using hh
      obtain ⟨x, rfl⟩ : ∃ x, l = [x] := List.length_eq_one_iff.mp hl1
      have := hS.head
      exact ⟨μ, by rw [show μ.1 17 0 = x from this]; rfl, rfl, fun _ _ _ => rfl⟩
    · have hlt : i < to := by omega
      have i2 : (200 : Int32) * nI lw + nI i = nI (200 * lw + i) := by
        rw [show (200 : Int32) = nI 200 from rfl, pk_mul, nI_add]
      rw [if_neg (nI_ge hlt (by omega)), i2, if_pos (inB_nI (by omega) (by decide)), nI_clamp (by omega)]
      simp only [lt]
      obtain ⟨d, hd⟩ : ∃ d, to - i = d + 1 := ⟨to - i - 1, by omega⟩
      have hd2 : to - (i + 1) = d := by omega
      rw [hd] at hh ⊢
      rw [hgt] at hh
      have fin : ∀ (k : Nat) (x : Int32) (l' : List Int32), hgt st d (i + 1) l'.length = some 1 → l'.length ≤ i + 1 → Stk ((up1 μ 17 k x).1 17) l' → ∃ τ, F_Model_says_16 n (up1 μ 17 k x) (nI part) (nI l'.length) (nI i + 1) = some ((evL st nm d (i + 1) l').headD 0, τ) ∧ τ.2 = μ.2 ∧ ∀ p j, p ≠ 17 → τ.1 p j = μ.1 p j := by
        intro k x l' g1 g2 g3
        obtain ⟨τ, e, t2, t3⟩ := ih (up1 μ 17 k x) (i + 1) l' ((up1_off (by omega)).trans hL) ((up1_off (by omega)).trans hE) (fun j hj => by rw [up1_off (by omega)]; exact hC j hj) ((up1_ne (by omega)).trans hN) (by rw [hd2]; exact g1) (by omega) g2 g3 (by omega)
        rw [hd2] at e
        rw [nI_1, e]
        exact ⟨τ, rfl, t2, fun p j hp => (t3 p j hp).trans (up1_off (by omega))⟩
      have hin : inB (nI l.length) 200 = true := inB_nI (by omega) (by decide)
      have push : ∀ x : Int32, -6 ≤ st i → ∃ τ, F_Model_says_93 (fun z0 zv1 zv2 zv3 => F_Model_says_16 n z0 zv1 zv2 zv3) μ (nI part) (nI l.length) (nI i) (nI l.length) x = some ((evL st nm d (i + 1) (x :: l)).headD 0, τ) ∧ τ.2 = μ.2 ∧ ∀ p j, p ≠ 17 → τ.1 p j = μ.1 p j := by
        intro x c6
        rw [if_pos c6] at hh
        unfold F_Model_says_93 F_Model_says_191
        rw [if_pos hin, nI_clamp (by omega)]
        simp only [lt]
        rw [show nI l.length + 1 = nI (x :: l).length from nI_1 _]
        exact fin _ _ _ hh (by simp; omega) (hS.push (fun k hk => up1_off (by omega)) up1_on)
      have two : ∀ (s w : Int32), ((s = -27 ∧ w = 11) ∨ (s = -26 ∧ w = 12) ∨ (s = -24 ∧ w = 14) ∨ (s = -25 ∧ w = 15) ∨ (s = -21 ∧ w = 16) ∨ (s = -22 ∧ w = 17) ∨ (s = -23 ∧ w = 18)) → st i = s → ¬ -6 ≤ s → ¬ -12 ≤ s → ∃ τ, (if inB (nI l.length + (-1) - 1) 200 = true then (if inB (nI l.length + (-1)) 200 = true then (if inB (nI l.length + (-1) - 1) 200 = true then F_Model_says_191 (fun z0 zv1 zv2 zv3 => F_Model_says_16 n z0 zv1 zv2 zv3) (up1 μ 17 (nI l.length + (-1) - 1).toNatClampNeg (F_Model_two w (μ.1 17 (nI l.length + (-1) - 1).toNatClampNeg) (μ.1 17 (nI l.length + (-1)).toNatClampNeg))) (nI part) (nI l.length + (-1)) (nI i) else none) else none) else none) = some ((evL st nm (d + 1) i l).headD 0, τ) ∧ τ.2 = μ.2 ∧ ∀ p j, p ≠ 17 → τ.1 p j = μ.1 p j := by
        intro s w hsw hs g6 g12
        rw [hs] at hh
        rw [if_neg g6, if_neg g12] at hh
        rw [evL_two (by rw [hs]; exact g6) (by rw [hs]; exact g12), hs]
        obtain ⟨y, x, r, rfl⟩ := len2 hh
        · skip
          rw [if_pos (by simp)] at hh
          have hl' : r.length + 2 ≤ i := hl
          have e1 : nI (y :: x :: r).length + (-1) = nI (r.length + 1) := pk_m1 _
          have e2 : nI (r.length + 1) - 1 = nI r.length := nI_pred _
          have hin : inB (nI r.length) 200 = true := inB_nI (by omega) (by decide)
          have hin2 : inB (nI (r.length + 1)) 200 = true := inB_nI (by omega) (by decide)
          rw [e1, e2, if_pos hin, if_pos hin2, if_pos hin, nI_clamp (by omega), nI_clamp (by omega)]
          unfold F_Model_says_191
          have s1 : μ.1 17 (r.length + 1) = y := hS.head
          have s2 : μ.1 17 r.length = x := hS.tail.head
          rw [s1, s2, two_eq hsw]
          exact fin _ _ (F_Text_ofTwo s x y :: r) hh (by simp only [List.length_cons]; omega) (hS.tail.tail.push (fun k hk => up1_off (by omega)) up1_on)
      rcases hC i hlt with ⟨v, hv, hs, hc⟩ | ⟨k, hk, hs, hc⟩ | ⟨hs, hc⟩ | ⟨hs, hc⟩ | ⟨hs, hc⟩ | ⟨hs, hc⟩ | ⟨hs, hc⟩ | ⟨hs, hc⟩ | ⟨hs, hc⟩ | ⟨hs, hc⟩ | ⟨hs, hc⟩
      · have g0 : 0 ≤ st i := by rw [hs]; exact nI_pos' (by omega)
        have g6 : -6 ≤ st i := Int32.le_trans (by decide) g0
        rw [evL_push g6, if_pos g0, hc]
        rw [if_pos (show (100000 : Int32) ≤ nI (100000 + v) from nI_le (a := 100000) (by omega) (by omega))]
        unfold F_Model_says_66
        rw [if_pos (show (11 : Int32) ≤ nI (100000 + v) from nI_le (a := 11) (by omega) (by omega)), show nI (100000 + v) - 100000 = st i from hs ▸ ((pk_sub (a := 100000 + v) (b := 100000) (by omega)).trans (congrArg nI (Nat.add_sub_cancel_left 100000 v)))]
        exact push _ g6
      · have g : -6 ≤ st i ∧ ¬ 0 ≤ st i ∧ -1 - st i = nI k := by
          rw [hs]
          exact name_m k hk
        rw [evL_push g.1, if_neg g.2.1, g.2.2, hc]
        rw [if_neg (show ¬ (100000 : Int32) ≤ nI k from nI_ge (a := k) (b := 100000) (by omega) (by decide)), if_neg (show ¬ (11 : Int32) ≤ nI k from nI_ge (a := k) (b := 11) (by omega) (by decide))]
        unfold F_Model_says_66
        rw [if_neg (show ¬ (11 : Int32) ≤ nI k from nI_ge (a := k) (b := 11) (by omega) (by decide)), if_pos (inB_nI hk (by decide)), hN]
        exact push _ g.1
      · rw [hc, if_neg (by decide), if_pos (by decide), if_neg (by decide)]
        rw [hs] at hh
        rw [if_neg (by decide), if_pos (by decide)] at hh
        rw [evL_one (by rw [hs]; decide) (by rw [hs]; decide), hs]
        obtain ⟨x, r, rfl⟩ := len1 hh
        · skip
          rw [if_pos (by simp)] at hh
          have hl' : r.length + 1 ≤ i := hl
          have e1 : nI (x :: r).length - 1 = nI r.length := nI_pred _
          have hin : inB (nI r.length) 200 = true := inB_nI (by omega) (by decide)
          rw [e1, if_pos hin, nI_clamp (by omega), hS.head]
          unfold F_Model_says_130
          simp only [lt, hin, if_true]
          unfold F_Model_says_191
          rw [nI_clamp (by omega)]
          by_cases cx : x = 0
          · rw [if_neg (not_not_intro cx), show F_Text_ofOne (-12) ((x :: r).headD 0) = 1 from by rw [cx]; rfl]
            exact fin _ _ (1 :: r) hh (by simp only [List.length_cons]; omega) (hS.tail.push (fun k hk => up1_off (by omega)) up1_on)
          · rw [if_pos cx, show F_Text_ofOne (-12) ((x :: r).headD 0) = 0 from if_pos cx]
            exact fin _ _ (0 :: r) hh (by simp only [List.length_cons]; omega) (hS.tail.push (fun k hk => up1_off (by omega)) up1_on)
      · rw [hc, if_neg (by decide), if_pos (by decide), if_pos (by decide), if_neg (by decide)]
        rw [hs] at hh
        rw [if_neg (by decide), if_pos (by decide)] at hh
        rw [evL_one (by rw [hs]; decide) (by rw [hs]; decide), hs]
        obtain ⟨x, r, rfl⟩ := len1 hh
        · skip
          rw [if_pos (by simp)] at hh
          have hl' : r.length + 1 ≤ i := hl
          have e1 : nI (x :: r).length - 1 = nI r.length := nI_pred _
          have hin : inB (nI r.length) 200 = true := inB_nI (by omega) (by decide)
          rw [e1, if_pos hin, if_pos hin, nI_clamp (by omega), hS.head]
          unfold F_Model_says_191
          exact fin _ _ (F_Text_ofOne (-11) x :: r) hh (by simp only [List.length_cons]; omega) (hS.tail.push (fun k hk => up1_off (by omega)) up1_on)
      all_goals (rw [hc, if_neg (by decide), if_pos (by decide), if_pos (by decide), if_pos (by decide)])
      · exact two (-27) 11 (by decide) hs (by decide) (by decide)
      · exact two (-26) 12 (by decide) hs (by decide) (by decide)
      · exact two (-24) 14 (by decide) hs (by decide) (by decide)
      · exact two (-25) 15 (by decide) hs (by decide) (by decide)
      · exact two (-21) 16 (by decide) hs (by decide) (by decide)
      · exact two (-22) 17 (by decide) hs (by decide) (by decide)
      · exact two (-23) 18 (by decide) hs (by decide) (by decide)
