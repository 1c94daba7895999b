/-! ===== PURE: what the two stores have in common, and plain facts ===== -/
theorem nrfl {α : Sort _} {a b : α} (h : a = b) (_ : True) : a = b := h
theorem in_eq (v a b : Int32) : F_Model_in v a b = F_Main_isWithin v a b := nrfl rfl trivial
theorem within_eq (v a b : Int32) : F_Model_within v a b = F_Main_bounded v a b := nrfl rfl trivial
theorem iw (v a b : Int32) : F_Main_isWithin v a b = if a ≤ v ∧ v ≤ b then 1 else 0 := by
  show (if v < a then (0 : Int32) else (if b < v then (0 : Int32) else (1 : Int32))) = _
  by_cases h : v < a
  · rw [if_pos h, if_neg (fun q => absurd q.1 (Int32.not_le.mpr h))]
  · rw [if_neg h]
    by_cases h2 : b < v
    · rw [if_pos h2, if_neg (fun q => absurd q.2 (Int32.not_le.mpr h2))]
    · rw [if_neg h2, if_pos ⟨Int32.not_lt.mp h, Int32.not_lt.mp h2⟩]
theorem iw01 (v a b : Int32) : F_Main_isWithin v a b = 0 ∨ F_Main_isWithin v a b = 1 := by
  rw [iw]
  split
  · exact Or.inr rfl
  · exact Or.inl rfl
theorem iw01M (v a b : Int32) : F_Model_in v a b = 0 ∨ F_Model_in v a b = 1 := iw01 v a b
theorem iwB (v : Int32) : F_Main_isByte v = some (F_Main_isWithin v 0 255) := by
  show (if _ then _ else _) = _
  rw [if_pos (iw01 _ _ _)]
theorem iwBM (v : Int32) : F_Model_isByte v = some (F_Main_isWithin v 0 255) := iwB v
theorem z0 : (0 : Int32) = nI 0 := rfl
theorem lit32 (n : Nat) : (OfNat.ofNat n : Int32) = nI n := rfl
/-- an int between two small ones -/
theorem rng {v : Int32} {a b : Nat} (hb : b < 2 ^ 31) (ha : a < 2 ^ 31) (h1 : nI a ≤ v) (h2 : v ≤ nI b) : ∃ k : Nat, a ≤ k ∧ k ≤ b ∧ v = nI k := by
  have h0 : ¬ v < 0 := by
    intro q
    have q1 := Int32.lt_iff_toInt_lt.mp q
    have q2 := Int32.le_iff_toInt_le.mp h1
    rw [nI_toInt ha] at q2
    have q3 : (0 : Int32).toInt = 0 := rfl
    omega
  obtain ⟨j, hj, rfl⟩ := nI_of h0
  exact ⟨j, (nI_leI ha hj).mp h1, (nI_leI hj hb).mp h2, rfl⟩
theorem iw_some {v : Int32} {b : Nat} (hb : b < 2 ^ 31) (h : ¬ F_Main_isWithin v 0 (nI b) = 0) : ∃ k : Nat, k ≤ b ∧ v = nI k := by
  rw [iw] at h
  by_cases c : 0 ≤ v ∧ v ≤ nI b
  · obtain ⟨k, -, h2, h3⟩ := rng (a := 0) hb (by decide) c.1 c.2
    exact ⟨k, h2, h3⟩
  · rw [if_neg c] at h; exact absurd rfl h
theorem inB_nI {k n : Nat} (h : k < n) (hn : n < 2 ^ 31) : inB (nI k) n = true := by
  simp only [inB, Bool.and_eq_true, decide_eq_true_eq]
  rw [nI_clamp (by omega)]
  exact ⟨nI_pos (by omega), h⟩
theorem iw_nI {k a b : Nat} (h1 : a ≤ k) (h2 : k ≤ b) (hb : b < 2 ^ 31) : F_Main_isWithin (nI k) (nI a) (nI b) = 1 := by
  rw [iw, if_pos ⟨nI_le h1 (by omega), nI_le h2 hb⟩]
/-- kinds, plans, holds -/
def HoldOk (x : Int32) : Prop := ∃ h : Nat, h ≤ 24 ∧ x = nI h
def PlanOk (x : Int32) : Prop := ∃ p : Nat, p ≤ 3333 ∧ x = nI p ∧ p % 10 ≤ 3 ∧ p / 10 % 10 ≤ 3 ∧ p / 100 % 10 ≤ 3
def lateN (k m : Nat) : Nat := if k = 2 ∨ k = 4 then 1 - m / 5 else 2
def ArmOk (f : Nat → Int32) : Prop := ∃ k t m : Nat, k < 6 ∧ t < 100 ∧ m < 10 ∧ f 0 = nI k ∧ f 1 = nI t ∧ f 2 = nI m ∧ f 3 = nI (lateN k m) ∧ f 6 = (if k = 1 ∨ k = 3 then 1 else 0) ∧ f 7 = (if k = 3 then 1 else 0) ∧ f 8 = (if k = 4 then 1 else 0) ∧ f 9 = (if k = 5 then 1 else 0)
def RArm (a b : Nat → Nat → Int32) (na : Nat) : Prop := na ≤ 6 ∧ a 20 1 = nI na ∧ b 0 0 = nI na ∧ (∀ i, i < na → ArmOk (a (27 + i))) ∧ ∀ i, i < 6 → a (27 + i) 0 = b 1 i ∧ a (27 + i) 1 = b 2 i ∧ a (27 + i) 2 = b 3 i ∧ a (27 + i) 4 = b 4 i ∧ a (27 + i) 5 = b 5 i ∧ HoldOk (b 4 i) ∧ PlanOk (b 5 i)
def RTape (a b : Nat → Nat → Int32) : Prop := ∃ n : Nat, n ≤ 160 ∧ a 0 1 = nI n ∧ b 0 7 = nI n ∧ ∀ i, i < n → a 1 i = b 6 i ∧ ∃ c : Nat, c < 256 ∧ b 6 i = nI c
def RSheet (a b : Nat → Nat → Int32) : Prop := ∀ s, s < 4 → a (33 + s) 1 = b 11 s ∧ a (33 + s) 2 = b 12 s ∧ (b 11 s = -1 ∨ b 11 s = 0 ∨ b 11 s = 1 ∨ b 11 s = 2) ∧ (∃ z : Nat, z ≤ 40 ∧ b 12 s = nI z) ∧ ∀ i, i < 40 → a (37 + s) i = b 13 (40 * s + i)
/-- a text's steps and the reference's codes -/
def Enc (s c : Int32) : Prop := (∃ v : Nat, v ≤ 9999 ∧ s = nI v ∧ c = nI (100000 + v)) ∨ (∃ k : Nat, k < 6 ∧ s = -1 - nI k ∧ c = nI k) ∨ (s = -12 ∧ c = 13) ∨ (s = -11 ∧ c = 19) ∨ (s = -27 ∧ c = 11) ∨ (s = -26 ∧ c = 12) ∨ (s = -24 ∧ c = 14) ∨ (s = -25 ∧ c = 15) ∨ (s = -21 ∧ c = 16) ∨ (s = -22 ∧ c = 17) ∨ (s = -23 ∧ c = 18)
/-- how high the stack stands behind so many steps -/
def hgt (st : Nat → Int32) : Nat → Nat → Nat → Option Nat
  | 0, _, h => some h
  | n + 1, i, h => if -6 ≤ st i then hgt st n (i + 1) (h + 1) else if -12 ≤ st i then (if 1 ≤ h then hgt st n (i + 1) h else none) else (if 2 ≤ h then hgt st n (i + 1) (h - 1) else none)
def TextOk (st tx cd sr : Nat → Int32) : Prop := ∃ e0 e1 e2 : Nat, e0 ≤ e1 ∧ e1 ≤ e2 ∧ e2 ≤ 160 ∧ tx 3 = nI e0 ∧ tx 4 = nI e1 ∧ tx 2 = nI e2 ∧ sr 0 = 0 ∧ sr 1 = nI e0 ∧ sr 2 = nI e1 ∧ sr 3 = nI e2 ∧ (∀ i, i < e2 → Enc (st i) (cd i)) ∧ hgt st e0 0 0 = some 1 ∧ hgt st (e1 - e0) e0 0 = some 1 ∧ hgt st (e2 - e1) e1 0 = some 1
def RText (a b : Nat → Nat → Int32) (nt : Nat) : Prop := nt ≤ 6 ∧ a 20 3 = nI nt ∧ b 0 10 = nI nt ∧ (∃ lw : Nat, lw < nt ∧ a 20 4 = nI lw ∧ b 0 11 = nI lw) ∧ ∀ t, t < nt → TextOk (a (14 + t)) (a (8 + t)) (fun i => b 7 (200 * t + i)) (fun j => b 8 (4 * t + j))
def RImg (a b : Nat → Nat → Int32) (na nt : Nat) : Prop := a 24 2 = b 0 12 ∧ (b 0 12 = 0 ∨ (b 0 12 = 1 ∧ (∃ ni : Nat, ni ≤ na ∧ a 24 3 = nI ni ∧ b 0 13 = nI ni) ∧ (∃ lw : Nat, lw < nt ∧ a 24 4 = nI lw ∧ b 0 14 = nI lw) ∧ ∀ i, i < 6 → a 25 i = b 9 i ∧ a 26 i = b 10 i ∧ HoldOk (b 9 i) ∧ PlanOk (b 10 i)))
/-- the reference's row of words -/
def wordsL : List Int32 := [102, 111, 114, 99, 101, 32, 32, 32, 115, 112, 101, 110, 100, 115, 32, 32, 104, 117, 114, 116, 115, 32, 32, 32, 116, 111, 108, 100, 32, 32, 32, 32, 109, 111, 114, 101, 32, 32, 32, 32, 104, 111, 108, 100, 32, 32, 32, 32, 104, 97, 114, 100, 32, 32, 32, 32, 97, 110, 103, 108, 101, 32, 32, 32, 116, 101, 110, 116, 104, 32, 32, 32, 111, 114, 32, 32, 32, 32, 32, 32, 97, 110, 100, 32, 32, 32, 32, 32, 110, 111, 116, 32, 32, 32, 32, 32]
def wordsF (i : Nat) : Int32 := wordsL.getD i 0
def RMisc (b : Nat → Nat → Int32) : Prop := b 0 37 = 0 ∧ b 0 38 = 0 ∧ ∀ i, i < 96 → b 15 i = wordsF i
def Rel (σ μ : St) (na nt : Nat) : Prop := RArm σ.1 μ.1 na ∧ RTape σ.1 μ.1 ∧ RSheet σ.1 μ.1 ∧ RText σ.1 μ.1 nt ∧ RImg σ.1 μ.1 na nt ∧ RMisc μ.1
/-- reading behind writing -/
theorem up1_at (σ : St) (p j : Nat) (x : Int32) (q i : Nat) : (up1 σ p j x).1 q i = if q = p ∧ i = j then x else σ.1 q i := rfl
theorem up1_2 (σ : St) (p j : Nat) (x : Int32) : (up1 σ p j x).2 = σ.2 := rfl
theorem up2_1 (σ : St) (p j r : Nat) : (up2 σ p j r).1 = σ.1 := rfl
theorem up2_at (σ : St) (p j r : Nat) (q i : Nat) : (up2 σ p j r).2 q i = if q = p ∧ i = j then r else σ.2 q i := rfl
/-- what the arguments name -/
theorem armC {σ μ : St} {na nt : Nat} (h : Rel σ μ na nt) (v : Int32) : (∃ k : Nat, k < na ∧ v = nI k ∧ F_Main_isArm σ v = some 1 ∧ F_Model_isArm μ v = some 1) ∨ (F_Main_isArm σ v = some 0 ∧ F_Model_isArm μ v = some 0 ∧ ∀ k, k < na → v ≠ nI k) := by
  obtain ⟨⟨h1, h2, h3, -⟩, -⟩ := h
  have e1 : F_Main_isArm σ v = some (F_Main_isWithin v 0 (nI na - 1)) := by
    show (if _ then _ else _) = _
    rw [if_pos (iw01 _ _ _), h2]
  have e2 : F_Model_isArm μ v = some (F_Main_isWithin v 0 (nI na - 1)) := by
    show (if _ then _ else _) = _
    rw [if_pos (iw01M _ _ _), h3]
    rfl
  rw [e1, e2]
  by_cases c : ∃ k : Nat, k < na ∧ v = nI k
  · obtain ⟨k, hk, rfl⟩ := c
    left
    have : F_Main_isWithin (nI k) 0 (nI na - 1) = 1 := by
      rw [show nI na - 1 = nI (na - 1) from by rw [show (1 : Int32) = nI 1 from rfl, pk_sub (by omega)]]
      exact iw_nI (a := 0) (Nat.zero_le _) (by omega) (by omega)
    exact ⟨k, hk, rfl, by rw [this], by rw [this]⟩
  · right
    have : F_Main_isWithin v 0 (nI na - 1) = 0 := by
      rw [iw]
      rw [if_neg]
      intro q
      by_cases hn : na = 0
      · subst hn
        have q1 := Int32.le_iff_toInt_le.mp q.1
        have q2 := Int32.le_iff_toInt_le.mp q.2
        have e3 : (nI 0 - 1).toInt = -1 := by decide
        have e4 : (0 : Int32).toInt = 0 := rfl
        omega
      · rw [show nI na - 1 = nI (na - 1) from by rw [show (1 : Int32) = nI 1 from rfl, pk_sub (by omega)]] at q
        obtain ⟨k, -, hk, rfl⟩ := rng (a := 0) (by omega) (by decide) q.1 q.2
        exact c ⟨k, by omega, rfl⟩
    exact ⟨by rw [this], by rw [this], fun k hk e => c ⟨k, hk, e⟩⟩
theorem up1_off {σ : St} {p j q i : Nat} {x : Int32} (h : ¬ (q = p ∧ i = j)) : (up1 σ p j x).1 q i = σ.1 q i := by rw [up1_at, if_neg h]
theorem up1_on {σ : St} {p j : Nat} {x : Int32} : (up1 σ p j x).1 p j = x := by rw [up1_at, if_pos ⟨rfl, rfl⟩]
section CG
variable {a b a' b' : Nat → Nat → Int32} {na nt : Nat}
theorem RArm.congr (h : RArm a b na) (ha : ∀ p j, (p = 20 ∧ j = 1) ∨ (27 ≤ p ∧ p < 33) → a' p j = a p j) (hb : ∀ p j, (p = 0 ∧ j = 0) ∨ (1 ≤ p ∧ p ≤ 5) → b' p j = b p j) : RArm a' b' na := by
  obtain ⟨h0, h1, h2, h3, h4⟩ := h
  refine ⟨h0, by rw [ha _ _ (by omega), h1], by rw [hb _ _ (by omega), h2], fun i hi => ?_, fun i hi => ?_⟩
  · have e : a' (27 + i) = a (27 + i) := funext fun j => ha _ _ (by omega)
    rw [e]
    exact h3 i hi
  · have e : a' (27 + i) = a (27 + i) := funext fun j => ha _ _ (by omega)
    rw [e, hb 1 i (by omega), hb 2 i (by omega), hb 3 i (by omega), hb 4 i (by omega), hb 5 i (by omega)]
    exact h4 i hi
theorem RTape.congr (h : RTape a b) (ha : ∀ p j, (p = 0 ∧ j = 1) ∨ p = 1 → a' p j = a p j) (hb : ∀ p j, (p = 0 ∧ j = 7) ∨ p = 6 → b' p j = b p j) : RTape a' b' := by
  obtain ⟨n, h0, h1, h2, h3⟩ := h
  refine ⟨n, h0, by rw [ha _ _ (by omega), h1], by rw [hb _ _ (by omega), h2], fun i hi => ?_⟩
  rw [ha 1 i (by omega), hb 6 i (by omega)]
  exact h3 i hi
theorem RSheet.congr (h : RSheet a b) (ha : ∀ p j, 33 ≤ p ∧ p ≤ 40 → a' p j = a p j) (hb : ∀ p j, 11 ≤ p ∧ p ≤ 13 → b' p j = b p j) : RSheet a' b' := by
  intro s hs
  obtain ⟨h1, h2, h3, h4, h5⟩ := h s hs
  rw [ha (33 + s) 1 (by omega), ha (33 + s) 2 (by omega), hb 11 s (by omega), hb 12 s (by omega)]
  refine ⟨h1, h2, h3, h4, fun i hi => ?_⟩
  rw [ha (37 + s) i (by omega), hb 13 _ (by omega)]
  exact h5 i hi
theorem RText.congr (h : RText a b nt) (ha : ∀ p j, (p = 20 ∧ (j = 3 ∨ j = 4)) ∨ (8 ≤ p ∧ p < 20) → a' p j = a p j) (hb : ∀ p j, (p = 0 ∧ (j = 10 ∨ j = 11)) ∨ p = 7 ∨ p = 8 → b' p j = b p j) : RText a' b' nt := by
  obtain ⟨h0, h1, h2, ⟨lw, l0, l1, l2⟩, h3⟩ := h
  refine ⟨h0, by rw [ha _ _ (by omega), h1], by rw [hb _ _ (by omega), h2], ⟨lw, l0, by rw [ha _ _ (by omega), l1], by rw [hb _ _ (by omega), l2]⟩, fun t ht => ?_⟩
  have e1 : a' (14 + t) = a (14 + t) := funext fun j => ha _ _ (by omega)
  have e2 : a' (8 + t) = a (8 + t) := funext fun j => ha _ _ (by omega)
  have e3 : b' 7 = b 7 := funext fun j => hb _ _ (by omega)
  have e4 : b' 8 = b 8 := funext fun j => hb _ _ (by omega)
  rw [e1, e2, e3, e4]
  exact h3 t ht
theorem RImg.congr (h : RImg a b na nt) (ha : ∀ p j, 24 ≤ p ∧ p ≤ 26 → a' p j = a p j) (hb : ∀ p j, (p = 0 ∧ (j = 12 ∨ j = 13 ∨ j = 14)) ∨ p = 9 ∨ p = 10 → b' p j = b p j) : RImg a' b' na nt := by
  obtain ⟨h1, h2⟩ := h
  refine ⟨by rw [ha _ _ (by omega), hb _ _ (by omega), h1], ?_⟩
  rw [hb 0 12 (by omega)]
  rcases h2 with h2 | ⟨g0, ⟨ni, g1, g2, g3⟩, ⟨lw, g4, g5, g6⟩, g7⟩
  · exact Or.inl h2
  · refine Or.inr ⟨g0, ⟨ni, g1, by rw [ha _ _ (by omega), g2], by rw [hb _ _ (by omega), g3]⟩, ⟨lw, g4, by rw [ha _ _ (by omega), g5], by rw [hb _ _ (by omega), g6]⟩, fun i hi => ?_⟩
    rw [ha 25 i (by omega), ha 26 i (by omega), hb 9 i (by omega), hb 10 i (by omega)]
    exact g7 i hi
theorem RImg.more (h : RImg a b na nt) {na' nt' : Nat} (h1 : na ≤ na') (h2 : nt ≤ nt') : RImg a b na' nt' := by
  obtain ⟨g, h⟩ := h
  refine ⟨g, ?_⟩
  rcases h with h | ⟨g0, ⟨ni, g1, g2, g3⟩, ⟨lw, g4, g5, g6⟩, g7⟩
  · exact Or.inl h
  · exact Or.inr ⟨g0, ⟨ni, by omega, g2, g3⟩, ⟨lw, by omega, g5, g6⟩, g7⟩
theorem RMisc.congr (h : RMisc b) (hb : ∀ p j, (p = 0 ∧ (j = 37 ∨ j = 38)) ∨ p = 15 → b' p j = b p j) : RMisc b' := by
  obtain ⟨h1, h2, h3⟩ := h
  refine ⟨by rw [hb _ _ (by omega), h1], by rw [hb _ _ (by omega), h2], fun i hi => ?_⟩
  rw [hb 15 i (by omega)]
  exact h3 i hi
end CG
/-- what a bout in thought, the reader and the seeker write over -/
def ScC (p : Nat) : Prop := (2 ≤ p ∧ p ≤ 7) ∨ 41 ≤ p
def ScM (p j : Nat) : Prop := (p = 0 ∧ ((21 ≤ j ∧ j ≤ 36) ∨ 39 ≤ j)) ∨ (16 ≤ p ∧ p ≤ 19)
def SameC (σ τ : St) : Prop := ∀ p j, ¬ ScC p → τ.1 p j = σ.1 p j
def SameM (σ τ : St) : Prop := ∀ p j, ¬ ScM p j → τ.1 p j = σ.1 p j
theorem SameC.rf {σ : St} : SameC σ σ := fun _ _ _ => rfl
theorem SameM.rf {σ : St} : SameM σ σ := fun _ _ _ => rfl
theorem SameC.tr {σ τ υ : St} (h : SameC σ τ) (g : SameC τ υ) : SameC σ υ := fun p j q => (g p j q).trans (h p j q)
theorem SameM.tr {σ τ υ : St} (h : SameM σ τ) (g : SameM τ υ) : SameM σ υ := fun p j q => (g p j q).trans (h p j q)
theorem Rel.scr {σ μ σ' μ' : St} {na nt : Nat} (h : Rel σ μ na nt) (hc : SameC σ σ') (hm : SameM μ μ') : Rel σ' μ' na nt := by
  obtain ⟨hA, hT, hS, hX, hI, hM⟩ := h
  exact ⟨hA.congr (fun p j q => hc p j (by unfold ScC; omega)) (fun p j q => hm p j (by unfold ScM; omega)), hT.congr (fun p j q => hc p j (by unfold ScC; omega)) (fun p j q => hm p j (by unfold ScM; omega)), hS.congr (fun p j q => hc p j (by unfold ScC; omega)) (fun p j q => hm p j (by unfold ScM; omega)), hX.congr (fun p j q => hc p j (by unfold ScC; omega)) (fun p j q => hm p j (by unfold ScM; omega)), hI.congr (fun p j q => hc p j (by unfold ScC; omega)) (fun p j q => hm p j (by unfold ScM; omega)), hM.congr (fun p j q => hm p j (by unfold ScM; omega))⟩
