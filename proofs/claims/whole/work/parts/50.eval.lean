/-! ===== what a text says: both machines over one list ===== -/
noncomputable def evL (st nm : Nat → Int32) : Nat → Nat → List Int32 → List Int32
  | 0, _, l => l
  | n + 1, i, l => if -6 ≤ st i then evL st nm n (i + 1) ((if 0 ≤ st i then st i else nm (-1 - st i).toNatClampNeg) :: l) else if -12 ≤ st i then evL st nm n (i + 1) (F_Text_ofOne (st i) (l.headD 0) :: l.tail) else evL st nm n (i + 1) (F_Text_ofTwo (st i) (l.tail.headD 0) (l.headD 0) :: l.tail.tail)
def Stk (f : Nat → Int32) (l : List Int32) : Prop := ∀ (j : Nat) (x : Int32), l[j]? = some x → f (l.length - 1 - j) = x
theorem Stk.push {f g : Nat → Int32} {l : List Int32} {x : Int32} (h : Stk f l) (hg : ∀ i, i < l.length → g i = f i) (hx : g l.length = x) : Stk g (x :: l) := by
  intro j y hj
  cases j with
  | zero => cases hj; simpa using hx
  | succ j =>
    have hj2 : l[j]? = some y := by simpa using hj
    have hl := (List.getElem?_eq_some_iff.mp hj2).1
    have := h j y hj2
    rw [show (x :: l).length - 1 - (j + 1) = l.length - 1 - j by simp only [List.length_cons]; omega, hg _ (by omega)]
    exact this
theorem Stk.tail {f : Nat → Int32} {x : Int32} {l : List Int32} (h : Stk f (x :: l)) : Stk f l := by
  intro j y hj
  have hl := (List.getElem?_eq_some_iff.mp hj).1
  have := h (j + 1) y (by simpa using hj)
  rw [show (x :: l).length - 1 - (j + 1) = l.length - 1 - j by simp only [List.length_cons]; omega] at this
  exact this
theorem Stk.head {f : Nat → Int32} {x : Int32} {l : List Int32} (h : Stk f (x :: l)) : f l.length = x := by
  have := h 0 x rfl
  simpa using this
theorem m6_name {x : Int32} (h1 : -6 ≤ x) (h2 : ¬ 0 ≤ x) : ∃ k : Nat, k < 6 ∧ -1 - x = nI k := by
  have a1 := Int32.le_iff_toInt_le.mp h1
  have a2 : ¬ (0 : Int32).toInt ≤ x.toInt := fun q => h2 (Int32.le_iff_toInt_le.mpr q)
  have e6 : (-6 : Int32).toInt = -6 := by decide
  have e0 : (0 : Int32).toInt = 0 := rfl
  have hx : x = Int32.ofInt x.toInt := (Int32.ofInt_toInt x).symm
  rw [e6] at a1
  rw [e0] at a2
  have : x.toInt = -6 ∨ x.toInt = -5 ∨ x.toInt = -4 ∨ x.toInt = -3 ∨ x.toInt = -2 ∨ x.toInt = -1 := by omega
  rcases this with h | h | h | h | h | h <;> rw [h] at hx <;> rw [hx]
  · exact ⟨5, by decide, by decide⟩
  · exact ⟨4, by decide, by decide⟩
  · exact ⟨3, by decide, by decide⟩
  · exact ⟨2, by decide, by decide⟩
  · exact ⟨1, by decide, by decide⟩
  · exact ⟨0, by decide, by decide⟩
theorem worth_at {q nc : Nat} (hq : 8 ≤ q) (hnc : nc ≠ 7) : ∀ (n : Nat) (σ : St) (i : Nat) (l : List Int32) (to : Nat), hgt (σ.1 (q + 6)) (to - i) i l.length = some 1 → i ≤ to → to ≤ 160 → l.length ≤ i → Stk (σ.1 7) l → to - i < n →
    ∃ τ, F_Text_worth_6 n σ q (nI to) nc (nI l.length) (nI i) = some ((evL (σ.1 (q + 6)) (σ.1 nc) (to - i) i l).headD 0, τ) ∧ τ.2 = σ.2 ∧ ∀ p j, p ≠ 7 → τ.1 p j = σ.1 p j := by
  intro n
  induction n with
  | zero => intro σ i l to _ _ _ _ _ h; omega
  | succ n ih =>
    intro σ i l to hh hi hto hl hS hn
    rw [F_Text_worth_6]
    by_cases c : i = to
    · subst c
      rw [if_pos (nI_le (Nat.le_refl _) (by omega))]
      rw [Nat.sub_self] at hh ⊢
      have hl1 : l.length = 1 := by simpa [hgt] using hh
      obtain ⟨x, rfl⟩ : ∃ x, l = [x] := List.length_eq_one_iff.mp hl1
      unfold F_Text_worth_167
      have e1 : nI [x].length - 1 = nI 0 := by decide
      rw [if_pos (show (1 : Int32) ≤ nI [x].length by decide), e1, if_pos (inB_nI (by decide) (by decide)), nI_clamp (by decide)]
      have := hS.head
      exact ⟨σ, by rw [show σ.1 7 0 = x from this]; rfl, rfl, fun _ _ _ => rfl⟩
    · have hlt : i < to := by omega
      rw [if_neg (nI_ge hlt (by omega)), if_neg (show ¬ (160 : Int32) ≤ nI i from nI_ge (a := i) (b := 160) (by omega) (by decide)), if_pos (inB_nI (by omega) (by decide)), nI_clamp (by omega)]
      obtain ⟨d, hd⟩ : ∃ d, to - i = d + 1 := ⟨to - i - 1, by omega⟩
      have hd2 : to - (i + 1) = d := by omega
      rw [hd] at hh ⊢
      rw [hgt] at hh
      rw [evL]
      have kq : ∀ (k : Nat) (x : Int32), (up1 σ 7 k x).1 (q + 6) = σ.1 (q + 6) := fun k x => up1_ne (by omega)
      have kn : ∀ (k : Nat) (x : Int32), (up1 σ 7 k x).1 nc = σ.1 nc := fun k x => up1_ne hnc
      have fin : ∀ (k : Nat) (x : Int32) (l' : List Int32), hgt (σ.1 (q + 6)) d (i + 1) l'.length = some 1 → l'.length ≤ i + 1 → Stk ((up1 σ 7 k x).1 7) l' → ∃ τ, F_Text_worth_6 n (up1 σ 7 k x) q (nI to) nc (nI l'.length) (nI i + 1) = some ((evL (σ.1 (q + 6)) (σ.1 nc) d (i + 1) l').headD 0, τ) ∧ τ.2 = σ.2 ∧ ∀ p j, p ≠ 7 → τ.1 p j = σ.1 p j := by
        intro k x l' g1 g2 g3
        obtain ⟨τ, e, t2, t3⟩ := ih (up1 σ 7 k x) (i + 1) l' to (by rw [kq, hd2]; exact g1) (by omega) hto g2 g3 (by omega)
        rw [kq, kn, hd2] at e
        rw [nI_1, e]
        exact ⟨τ, rfl, t2, fun p j hp => (t3 p j hp).trans (up1_off (by omega))⟩
      by_cases c6 : -6 ≤ σ.1 (q + 6) i
      · rw [if_neg (Int32.not_lt.mpr c6), if_pos c6]
        rw [if_pos c6] at hh
        have hin : inB (nI l.length) 160 = true := inB_nI (by omega) (by decide)
        rw [if_pos (show nI l.length < 160 from nI_lt (a := l.length) (b := 160) (by omega) (by decide))]
        have push : ∀ x : Int32, ∃ τ, F_Text_worth_72 (fun z0 zv0 zv2 zv3 zv4 zv5 => F_Text_worth_6 n z0 zv0 zv2 zv3 zv4 zv5) σ q (nI to) nc (nI l.length) (nI i) (nI l.length) x = some ((evL (σ.1 (q + 6)) (σ.1 nc) d (i + 1) (x :: l)).headD 0, τ) ∧ τ.2 = σ.2 ∧ ∀ p j, p ≠ 7 → τ.1 p j = σ.1 p j := by
          intro x
          unfold F_Text_worth_72 F_Text_worth_161
          rw [if_pos hin, nI_clamp (by omega)]
          simp only [lt]
          rw [show nI l.length + 1 = nI (x :: l).length from nI_1 _]
          exact fin _ _ _ hh (by simp; omega) (hS.push (fun k hk => up1_off (by omega)) up1_on)
        by_cases c0 : 0 ≤ σ.1 (q + 6) i
        · rw [if_neg (Int32.not_lt.mpr c0), if_pos c0]
          exact push _
        · rw [if_pos (Int32.not_le.mp c0), if_neg c0]
          obtain ⟨k, hk, e⟩ := m6_name c6 c0
          rw [e, if_pos (inB_nI hk (by decide))]
          exact push _
      · rw [if_pos (Int32.not_le.mp c6), if_neg c6]
        rw [if_neg c6] at hh
        by_cases c12 : -12 ≤ σ.1 (q + 6) i
        · rw [if_neg (Int32.not_lt.mpr c12), if_pos c12]
          rw [if_pos c12] at hh
          match l, hh, hl, hS with
          | [], hh, _, _ => simp at hh
          | x :: r, hh, hl, hS =>
            rw [if_pos (by simp)] at hh
            have hl' : r.length + 1 ≤ i := hl
            have e1 : nI (x :: r).length - 1 = nI r.length := nI_pred _
            have hin : inB (nI r.length) 160 = true := inB_nI (by omega) (by decide)
            rw [if_pos (show (1 : Int32) ≤ nI (x :: r).length from nI_le (a := 1) (by simp) (by simp only [List.length_cons]; omega)), e1, if_pos hin, if_pos hin, nI_clamp (by omega)]
            simp only [lt]
            unfold F_Text_worth_161
            rw [hS.head]
            exact fin _ _ (F_Text_ofOne (σ.1 (q + 6) i) x :: r) hh (by simp only [List.length_cons]; omega) (hS.tail.push (fun k hk => up1_off (by omega)) up1_on)
        · rw [if_pos (Int32.not_le.mp c12), if_neg c12]
          rw [if_neg c12] at hh
          match l, hh, hl, hS with
          | [], hh, _, _ => simp at hh
          | [x], hh, _, _ => simp at hh
          | y :: x :: r, hh, hl, hS =>
            rw [if_pos (by simp)] at hh
            have hl' : r.length + 2 ≤ i := hl
            have e1 : nI (y :: x :: r).length + (-1) = nI (r.length + 1) := pk_m1 _
            have e2 : nI (r.length + 1) - 1 = nI r.length := nI_pred _
            have hin : inB (nI r.length) 160 = true := inB_nI (by omega) (by decide)
            have hin2 : inB (nI (r.length + 1)) 160 = true := inB_nI (by omega) (by decide)
            rw [if_pos (show (2 : Int32) ≤ nI (y :: x :: r).length from nI_le (a := 2) (by simp) (by simp only [List.length_cons]; omega)), e1, e2, if_pos hin, if_pos hin2, if_pos hin, nI_clamp (by omega), nI_clamp (by omega)]
            simp only [lt]
            unfold F_Text_worth_161
            have s1 : σ.1 7 (r.length + 1) = y := hS.head
            have s2 : σ.1 7 r.length = x := hS.tail.head
            rw [s1, s2]
            exact fin _ _ (F_Text_ofTwo (σ.1 (q + 6) i) x y :: r) hh (by simp only [List.length_cons]; omega) (hS.tail.tail.push (fun k hk => up1_off (by omega)) up1_on)
/-- a text's part -/
theorem worth_part {q nc : Nat} (hq : 8 ≤ q) (hnc : nc ≠ 7) (σ : St) {a b : Nat} (h : hgt (σ.1 (q + 6)) (b - a) a 0 = some 1) (hab : a ≤ b) (hb : b ≤ 160) : ∃ τ, F_Text_worth σ q (nI a) (nI b) nc = some ((evL (σ.1 (q + 6)) (σ.1 nc) (b - a) a []).headD 0, τ) ∧ τ.2 = σ.2 ∧ ∀ p j, p ≠ 7 → τ.1 p j = σ.1 p j := by
  unfold F_Text_worth F_Text_worth_0
  exact worth_at hq hnc FU σ a [] b h hab hb (Nat.zero_le _) (fun j x hj => by simp at hj) (by rw [FU_eq]; omega)
