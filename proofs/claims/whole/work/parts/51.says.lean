/-! ===== a law, what it says; force, what is spent ===== -/
/-- a law: its steps, the ends of its parts -/
abbrev Law : Type := (Nat → Int32) × Nat × Nat × Nat
noncomputable def sayL (L : Law) (part : Nat) (nm : Nat → Int32) : Int32 := match part with
  | 0 => F_Main_bounded ((evL L.1 nm (L.2.1 - 0) 0 []).headD 0) 0 200
  | 1 => F_Main_bounded ((evL L.1 nm (L.2.2.1 - L.2.1) L.2.1 []).headD 0) 0 9
  | _ => F_Main_bounded ((evL L.1 nm (L.2.2.2 - L.2.2.1) L.2.2.1 []).headD 0) 0 100
def LawOk (L : Law) : Prop := L.2.1 ≤ L.2.2.1 ∧ L.2.2.1 ≤ L.2.2.2 ∧ L.2.2.2 ≤ 160 ∧ hgt L.1 (L.2.1 - 0) 0 0 = some 1 ∧ hgt L.1 (L.2.2.1 - L.2.1) L.2.1 0 = some 1 ∧ hgt L.1 (L.2.2.2 - L.2.2.1) L.2.2.1 0 = some 1
def LawC (a : Nat → Nat → Int32) (q : Nat) (L : Law) : Prop := LawOk L ∧ a (q + 6) = L.1 ∧ a q 3 = nI L.2.1 ∧ a q 4 = nI L.2.2.1 ∧ a q 2 = nI L.2.2.2
def LawM (b : Nat → Nat → Int32) (t : Nat) (L : Law) : Prop := LawOk L ∧ b 8 (4 * t + 0) = nI 0 ∧ b 8 (4 * t + 1) = nI L.2.1 ∧ b 8 (4 * t + 2) = nI L.2.2.1 ∧ b 8 (4 * t + 3) = nI L.2.2.2 ∧ ∀ j, j < L.2.2.2 → Enc (L.1 j) (b 7 (200 * t + j))
theorem law_of {σ μ : St} {na nt : Nat} (h : Rel σ μ na nt) {t : Nat} (ht : t < nt) : ∃ L : Law, LawC σ.1 (8 + t) L ∧ LawM μ.1 t L := by
  obtain ⟨-, -, -, ⟨-, -, -, -, h3⟩, -⟩ := h
  obtain ⟨e0, e1, e2, h0, h1, h2, a0, a1, a2, s0, s1, s2, s3, hE, g0, g1, g2⟩ := h3 t ht
  have hok : LawOk (σ.1 (14 + t), e0, e1, e2) := ⟨h0, h1, h2, by simpa using g0, g1, g2⟩
  exact ⟨(σ.1 (14 + t), e0, e1, e2), ⟨hok, by rw [show 8 + t + 6 = 14 + t by omega], a0, a1, a2⟩, ⟨hok, s0, s1, s2, s3, hE⟩⟩
theorem says_C {L : Law} {q nc part : Nat} {x : Int32} (hx : x = nI part) (hq : 8 ≤ q) (hnc : nc ≠ 7) (hp : part < 3) {σ : St} (h : LawC σ.1 q L) : ∃ τ, F_Text_says σ q x nc = some (sayL L part (σ.1 nc), τ) ∧ τ.2 = σ.2 ∧ ∀ p j, p ≠ 7 → τ.1 p j = σ.1 p j := by
  obtain ⟨⟨h0, h1, h2, g0, g1, g2⟩, hs, a0, a1, a2⟩ := h
  subst hx
  unfold F_Text_says F_Text_says_0
  match part, hp with
  | 0, _ =>
    obtain ⟨τ, e, t2, t3⟩ := worth_part hq hnc σ (a := 0) (b := L.2.1) (by rw [hs]; exact g0) (Nat.zero_le _) (by omega)
    have e' : F_Text_worth σ q (0 : Int32) (nI L.2.1) nc = _ := e
    rw [if_pos (show nI 0 = 0 from rfl), a0, e']
    exact ⟨τ, by rw [hs]; rfl, t2, t3⟩
  | 1, _ =>
    obtain ⟨τ, e, t2, t3⟩ := worth_part hq hnc σ (a := L.2.1) (b := L.2.2.1) (by rw [hs]; exact g1) h0 (by omega)
    rw [if_neg (show ¬ nI 1 = 0 by decide), if_pos (show nI 1 = 1 from rfl), a0, a1, e]
    exact ⟨τ, by rw [hs]; rfl, t2, t3⟩
  | 2, _ =>
    obtain ⟨τ, e, t2, t3⟩ := worth_part hq hnc σ (a := L.2.2.1) (b := L.2.2.2) (by rw [hs]; exact g2) h1 h2
    rw [if_neg (show ¬ nI 2 = 0 by decide), if_neg (show ¬ nI 2 = 1 by decide), a1, a2, e]
    exact ⟨τ, by rw [hs]; rfl, t2, t3⟩
  | p + 3, h => exact absurd h (by omega)
theorem evL_congr {st nm nm' : Nat → Int32} (h : ∀ k, k < 6 → nm k = nm' k) : ∀ (n i : Nat) (l : List Int32), evL st nm n i l = evL st nm' n i l := by
  intro n
  induction n with
  | zero => intro i l; rfl
  | succ n ih =>
    intro i l
    rw [evL, evL, ih, ih, ih]
    by_cases c : -6 ≤ st i
    · rw [if_pos c, if_pos c]
      by_cases c0 : 0 ≤ st i
      · rw [if_pos c0, if_pos c0]
      · rw [if_neg c0, if_neg c0]
        obtain ⟨k, hk, e⟩ := m6_name c c0
        rw [e, nI_clamp (by omega), h k hk]
    · rw [if_neg c, if_neg c]
theorem sayL_congr {L : Law} {nm nm' : Nat → Int32} (h : ∀ k, k < 6 → nm k = nm' k) (part : Nat) : sayL L part nm = sayL L part nm' := by
  unfold sayL
  split <;> rw [evL_congr h]
/-- the names of an arm at a tenth -/
def nmV (f : Nat → Int32) (hold hard angle tenth : Int32) : Nat → Int32 := fun j => match j with
  | 0 => f 1
  | 1 => f 2
  | 2 => hold
  | 3 => hard
  | 4 => angle
  | _ => tenth
theorem asks_M {L : Law} {lw part i : Nat} (hlw : lw < 6) (hp : part < 3) (hi : i < 6) {x : Int32} (hx : x = nI part) {μ : St} (hl : μ.1 0 11 = nI lw) (h : LawM μ.1 lw L) {f : Nat → Int32} (f1 : μ.1 2 i = f 1) (f2 : μ.1 3 i = f 2) (hold hard angle tenth : Int32) : ∃ τ, F_Model_asksOf μ x (nI i) hold hard angle tenth = some (sayL L part (nmV f hold hard angle tenth), τ) ∧ τ.2 = μ.2 ∧ ∀ p j, p ≠ 17 → p ≠ 18 → τ.1 p j = μ.1 p j := by
  subst hx
  obtain ⟨⟨h0, h1, h2, g0, g1, g2⟩, b0, b1, b2, b3, hE⟩ := h
  unfold F_Model_asksOf F_Model_asksOf_0
  simp only [lt, inB_nI hi (show 6 < 2 ^ 31 by decide), nI_clamp (show i < 2 ^ 31 by omega), if_true]
  generalize hw : up1 (up1 (up1 (up1 (up1 (up1 μ 18 0 (μ.1 2 i)) 18 1 ((up1 μ 18 0 (μ.1 2 i)).1 3 i)) 18 2 hold) 18 3 hard) 18 4 angle) 18 5 tenth = ν
  have n0 : ∀ p j, p ≠ 18 → ν.1 p j = μ.1 p j := by
    intro p j hp
    rw [← hw]
    iterate 6 rw [up1_off (by omega)]
  have n2 : ν.2 = μ.2 := by rw [← hw]; rfl
  have n1 : ∀ k, k < 6 → ν.1 18 k = nmV f hold hard angle tenth k := by
    intro k hk
    rw [← hw]
    match k, hk with
    | 0, _ => simp [up1_at, nmV, f1]
    | 1, _ => simp [up1_at, nmV, f2]
    | 2, _ => simp [up1_at, nmV]
    | 3, _ => simp [up1_at, nmV]
    | 4, _ => simp [up1_at, nmV]
    | 5, _ => simp [up1_at, nmV]
    | k + 6, h => exact absurd h (by omega)
  have core : ∀ (a b : Nat), b ≤ L.2.2.2 → ν.1 8 (4 * lw + part) = nI a → ν.1 8 (4 * lw + part + 1) = nI b → hgt L.1 (b - a) a 0 = some 1 → a ≤ b → ∃ τ, F_Model_says ν (nI part) = some ((evL L.1 (nmV f hold hard angle tenth) (b - a) a []).headD 0, τ) ∧ τ.2 = μ.2 ∧ ∀ p j, p ≠ 17 → p ≠ 18 → τ.1 p j = μ.1 p j := by
    intro a b hb ha hb2 hh hab
    unfold F_Model_says F_Model_says_0
    have hl' : ν.1 0 11 = nI lw := (n0 _ _ (by omega)).trans hl
    rw [hl', show (4 : Int32) * nI lw + nI part = nI (4 * lw + part) from by rw [show (4 : Int32) = nI 4 from rfl, pk_mul, nI_add], if_pos (inB_nI (by omega) (by decide)), nI_clamp (by omega)]
    simp only [lt]
    rw [ha]
    obtain ⟨τ, e, t2, t3⟩ := says_at hlw hp (to := b) (by omega) (st := L.1) (nm := ν.1 18) FU ν a [] hl' hb2 (fun j hj => by rw [n0 _ _ (by omega)]; exact hE j (by omega)) rfl hh hab (Nat.zero_le _) (fun j x hj => by simp at hj) (by rw [FU_eq]; omega)
    have e' : F_Model_says_16 FU ν (nI part) (0 : Int32) (nI a) = _ := e
    rw [e']
    exact ⟨τ, by rw [evL_congr n1], t2.trans n2, fun p j h7 h8 => (t3 p j h7).trans (n0 p j h8)⟩
  match part, hp, core with
  | 0, _, core =>
    obtain ⟨τ, e, t2, t3⟩ := core 0 L.2.1 (by omega) ((n0 _ _ (by omega)).trans b0) ((n0 _ _ (by omega)).trans b1) g0 (Nat.zero_le _)
    rw [e]
    exact ⟨τ, rfl, t2, t3⟩
  | 1, _, core =>
    obtain ⟨τ, e, t2, t3⟩ := core L.2.1 L.2.2.1 (by omega) ((n0 _ _ (by omega)).trans b1) ((n0 _ _ (by omega)).trans b2) g1 h0
    rw [e]
    exact ⟨τ, rfl, t2, t3⟩
  | 2, _, core =>
    obtain ⟨τ, e, t2, t3⟩ := core L.2.2.1 L.2.2.2 (by omega) ((n0 _ _ (by omega)).trans b2) ((n0 _ _ (by omega)).trans b3) g2 h1
    rw [e]
    exact ⟨τ, rfl, t2, t3⟩
  | p + 3, h, _ => exact absurd h (by omega)
/-- force, what is spent: by an arm's own cell -/
noncomputable def forceV (f : Nat → Int32) (said hold angle : Int32) : Int32 := F_Arm_forceOf (fun _ j => f j, fun _ _ => 0) 0 said hold angle
noncomputable def spendV (f : Nat → Int32) (said hard : Int32) : Int32 := F_Arm_spendsOf (fun _ j => f j, fun _ _ => 0) 0 said hard
theorem forceV_C (σ : St) (q : Nat) (x y z : Int32) : F_Arm_forceOf σ q x y z = forceV (σ.1 q) x y z := rfl
theorem spendV_C (σ : St) (q : Nat) (x y : Int32) : F_Arm_spendsOf σ q x y = spendV (σ.1 q) x y := rfl
/-- an arm of the reference, by the cell of the other -/
def ArmM (b : Nat → Nat → Int32) (i : Nat) (f : Nat → Int32) : Prop := b 1 i = f 0 ∧ b 2 i = f 1 ∧ b 3 i = f 2
theorem force_M {L : Law} {lw i : Nat} (hlw : lw < 6) (hi : i < 6) {μ : St} (hl : μ.1 0 11 = nI lw) (h : LawM μ.1 lw L) {f : Nat → Int32} (hf : ArmOk f) (hm : ArmM μ.1 i f) (hold hard angle tenth : Int32) : ∃ τ, F_Model_forceOf μ (nI i) hold hard angle tenth = some (forceV f (sayL L 0 (nmV f hold hard angle tenth)) hold angle, τ) ∧ τ.2 = μ.2 ∧ ∀ p j, p ≠ 17 → p ≠ 18 → τ.1 p j = μ.1 p j := by
  obtain ⟨m0, m1, m2⟩ := hm
  obtain ⟨τ, e, t2, t3⟩ := asks_M (part := 0) (x := 0) hlw (by decide) hi rfl hl h m1 m2 hold hard angle tenth
  unfold F_Model_forceOf F_Model_forceOf_0
  rw [e]
  generalize sayL L 0 (nmV f hold hard angle tenth) = said
  simp only [ob2, inB_nI hi (show 6 < 2 ^ 31 by decide), nI_clamp (show i < 2 ^ 31 by omega), if_true]
  have q1 : τ.1 1 i = f 0 := (t3 _ _ (by omega) (by omega)).trans m0
  have q3 : τ.1 3 i = f 2 := (t3 _ _ (by omega) (by omega)).trans m2
  refine ⟨τ, ?_, t2, t3⟩
  obtain ⟨k, t, m, hk, ht, hm2, a0, a1, a2, a3, a6, a7, a8, a9⟩ := hf
  have i6 := inB_nI hi (show 6 < 2 ^ 31 by decide)
  have cl : (nI i).toNatClampNeg = i := nI_clamp (show i < 2 ^ 31 by omega)
  have z : ∀ x : Int32, x + 0 = x := Int32.add_zero
  rw [q1, q3, a0]
  unfold forceV F_Arm_forceOf F_Arm_forceOf_0 F_Arm_forceOf_27 F_Arm_forceOf_46 F_Arm_forceOf_66 F_Arm_forceOf_95 F_Arm_forceOf_97
  unfold F_Model_forceOf_44 F_Model_forceOf_58 F_Model_forceOf_65 F_Model_forceOf_87 F_Model_forceOf_88 F_Model_forceOf_112 F_Model_forceOf_113 F_Model_forceOf_152
  simp only [i6, cl, if_true, q3, a6, a7, a8, a9, within_eq, z]
  match k, hk with
  | 0, _ => simp [nI] <;> (repeat' split) <;> rfl
  | 1, _ => simp [nI] <;> (repeat' split) <;> rfl
  | 2, _ => simp [nI] <;> (repeat' split) <;> rfl
  | 3, _ => simp [nI] <;> (repeat' split) <;> rfl
  | 4, _ => simp [nI] <;> (repeat' split) <;> rfl
  | 5, _ => simp [nI] <;> (repeat' split) <;> rfl
  | k + 6, h => exact absurd h (by omega)
theorem spent_M {L : Law} {lw i : Nat} (hlw : lw < 6) (hi : i < 6) {μ : St} (hl : μ.1 0 11 = nI lw) (h : LawM μ.1 lw L) {f : Nat → Int32} (hf : ArmOk f) (hm : ArmM μ.1 i f) (hold hard angle tenth : Int32) : ∃ τ, F_Model_spentBy μ (nI i) hold hard angle tenth = some (spendV f (sayL L 1 (nmV f hold hard angle tenth)) hard, τ) ∧ τ.2 = μ.2 ∧ ∀ p j, p ≠ 17 → p ≠ 18 → τ.1 p j = μ.1 p j := by
  obtain ⟨m0, m1, m2⟩ := hm
  obtain ⟨τ, e, t2, t3⟩ := asks_M (part := 1) (x := 1) hlw (by decide) hi rfl hl h m1 m2 hold hard angle tenth
  unfold F_Model_spentBy F_Model_spentBy_0
  rw [e]
  generalize sayL L 1 (nmV f hold hard angle tenth) = said
  simp only [ob2, inB_nI hi (show 6 < 2 ^ 31 by decide), nI_clamp (show i < 2 ^ 31 by omega), if_true]
  have q1 : τ.1 1 i = f 0 := (t3 _ _ (by omega) (by omega)).trans m0
  refine ⟨τ, ?_, t2, t3⟩
  obtain ⟨k, t, m, hk, ht, hm2, a0, a1, a2, a3, a6, a7, a8, a9⟩ := hf
  have i6 := inB_nI hi (show 6 < 2 ^ 31 by decide)
  have cl : (nI i).toNatClampNeg = i := nI_clamp (show i < 2 ^ 31 by omega)
  unfold spendV F_Arm_spendsOf F_Arm_spendsOf_0 F_Arm_spendsOf_17 F_Arm_spendsOf_28 F_Model_spentBy_36 F_Model_spentBy_55
  simp only [i6, cl, if_true, q1, a0, a7, a9, within_eq]
  match k, hk with
  | 0, _ => simp [nI] <;> (repeat' split) <;> rfl
  | 1, _ => simp [nI] <;> (repeat' split) <;> rfl
  | 2, _ => simp [nI] <;> (repeat' split) <;> rfl
  | 3, _ => simp [nI] <;> (repeat' split) <;> rfl
  | 4, _ => simp [nI] <;> (repeat' split) <;> rfl
  | 5, _ => simp [nI, Int32.mul_comm] <;> (repeat' split) <;> rfl
  | k + 6, h => exact absurd h (by omega)
