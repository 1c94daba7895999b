/-! ===== row ===== -/
def bitN (m b : Nat) : Nat := m / 2 ^ b % 2
def popN (m : Nat) : Nat := bitN m 0 + bitN m 1 + bitN m 2 + bitN m 3 + bitN m 4 + bitN m 5
theorem row_t1 : ∀ m, m < 64 → ∀ b, b < 6 → jshr (nI m) (nI b) &&& 1 = nI (bitN m b) := by decide +kernel
theorem row_t3 : ∀ m, m < 64 → ∀ b, b < 6 → bitN m b = 1 → nI m &&& (jshl 1 (nI b) ^^^ -1) = nI (m - 2 ^ b) := by decide +kernel
theorem row_t3p : ∀ m, m < 64 → ∀ b, b < 6 → bitN m b = 1 → popN (m - 2 ^ b) + 1 = popN m := by decide +kernel
theorem row_t4 : ∀ m, m < 64 → F_JInteger_bitCount (nI m) = nI (popN m) := by decide +kernel
theorem row_t5 : ∀ m, m < 64 → F_Model_ones_4 13 (nI m) 0 0 = some (nI (popN m)) := by decide +kernel
theorem ones_fuel : ∀ (n : Nat) (x y z r : Int32), F_Model_ones_4 n x y z = some r → F_Model_ones_4 (n + 1) x y z = some r := by
  intro n
  induction n with
  | zero => intro x y z r h; cases h
  | succ n ih =>
    intro x y z r h
    rw [F_Model_ones_4] at h ⊢
    by_cases c : (12 : Int32) ≤ z
    · rw [if_pos c] at h ⊢; exact h
    · rw [if_neg c] at h ⊢; exact ih _ _ _ _ h
theorem ones_at {m : Nat} (hm : m < 64) : F_Model_ones (nI m) = some (nI (popN m)) := by
  unfold F_Model_ones F_Model_ones_0
  rw [FU_eq]
  have : ∀ d, F_Model_ones_4 (13 + d) (nI m) 0 0 = some (nI (popN m)) := by
    intro d
    induction d with
    | zero => exact row_t5 m hm
    | succ d ih => exact ones_fuel _ _ _ _ _ ih
  exact this 987
theorem bit01 (m b : Nat) : bitN m b = 0 ∨ bitN m b = 1 := by
  have := Nat.mod_lt (m / 2 ^ b) (show 0 < 2 by decide)
  unfold bitN
  omega
theorem bit_pop {m : Nat} (hm : popN m = 0) : ∀ b, b < 6 → bitN m b = 0 := by
  intro b hb
  unfold popN at hm
  match b, hb with
  | 0, _ => omega
  | 1, _ => omega
  | 2, _ => omega
  | 3, _ => omega
  | 4, _ => omega
  | 5, _ => omega
  | b + 6, h => exact absurd h (by omega)
theorem has_bit {m b : Nat} (hm : m < 64) (hb : b < 6) : F_Main_has (nI m) (nI b) = nI (bitN m b) := by
  unfold F_Main_has F_Main_has_0
  rw [row_t1 m hm b hb]
  rcases bit01 m b with e | e <;> rw [e]
  · rw [if_pos (by decide)]; rfl
  · rw [if_neg (by decide)]; rfl
/-- an order: so many digits, each one to nine -/
def Ord : Nat → Nat → Prop
  | 0, l => l = 0
  | c + 1, l => ∃ p d, Ord c p ∧ 1 ≤ d ∧ d ≤ 9 ∧ l = 10 * p + d
theorem Ord.lt : ∀ {c l : Nat}, Ord c l → l < 10 ^ c := by
  intro c
  induction c with
  | zero => intro l h; rw [h]; decide
  | succ c ih =>
    intro l h
    obtain ⟨p, d, h1, h2, h3, rfl⟩ := h
    have := ih h1
    rw [Nat.pow_succ]
    omega
theorem Ord.small {c l : Nat} (hc : c ≤ 4) (h : Ord c l) : l < 10000 := by
  have h1 := h.lt
  have : 10 ^ c ≤ 10 ^ 4 := Nat.pow_le_pow_right (by decide) hc
  omega
theorem digits_loop : ∀ (c l m k : Nat), Ord c l → c ≤ 4 → k + c ≤ 4 → c < m → F_Main_digits_4 m (nI k) (nI l) = some (nI (k + c)) := by
  intro c
  induction c with
  | zero =>
    intro l m k h _ _ hm
    obtain ⟨m', rfl⟩ : ∃ m', m = m' + 1 := ⟨m - 1, by omega⟩
    have h0 : l = 0 := h
    subst h0
    rw [F_Main_digits_4, if_pos (by decide)]
    rfl
  | succ c ih =>
    intro l m k h h4 hk hm
    obtain ⟨m', rfl⟩ : ∃ m', m = m' + 1 := ⟨m - 1, by omega⟩
    have hs := h.small h4
    obtain ⟨p, d, h1, h2, h3, rfl⟩ := h
    rw [F_Main_digits_4, if_neg (nI_nle (by omega) (by omega)), if_neg (show ¬ (6 : Int32) ≤ nI k from nI_ge (a := k) (b := 6) (by omega) (by decide)), nI_1, show nI (10 * p + d) / 10 = nI ((10 * p + d) / 10) from pk_div (d := 10) (by omega) (by decide) (by decide), show (10 * p + d) / 10 = p by omega, ih p m' (k + 1) h1 (by omega) (by omega) (by omega)]
    congr 2
    omega
theorem digits_at {c l : Nat} (h : Ord c l) (hc : c ≤ 4) : F_Main_digits (nI l) = some (nI c) := by
  unfold F_Main_digits F_Main_digits_0
  have := digits_loop c l FU 0 h hc (by omega) (by rw [FU_eq]; omega)
  rw [show (0 : Int32) = nI 0 from rfl, this, Nat.zero_add]
theorem rest4 {x : Int32} (h : HoldOk x) : (if x + 4 < 24 then x + 4 else 24) = F_Model_within (x + 4) 0 24 ∧ HoldOk (if x + 4 < 24 then x + 4 else 24) := by
  obtain ⟨g, hg, rfl⟩ := h
  have h24 : ∀ g, g ≤ 24 → (if nI g + 4 < 24 then nI g + 4 else 24) = F_Model_within (nI g + 4) 0 24 := by decide +kernel
  refine ⟨h24 g hg, ?_⟩
  rw [h24 g hg, within_eq]
  exact bnd_hold _
section RW
variable {σ μ : St} {na nt lw a : Nat}
/-- what a search comes to: its longest order beside what was longest before -/
def RowE (σ : St) (x : Option (Int32 × St)) (y : Option St) (μ1 : St) (M : Nat) (F : Int32) (cm : Nat) : Prop := ∃ cL L σ' μ', x = some (nI L, σ') ∧ y = some μ' ∧ Ord cL L ∧ cL ≤ 4 ∧ cm ≤ cL ∧ SameC σ σ' ∧ (∀ p j, ¬ (p = 0 ∧ 32 ≤ j ∧ j ≤ 36) → ¬ (p = 0 ∧ (j = 42 ∨ j = 43)) → p ≠ 17 → p ≠ 18 → μ'.1 p j = μ1.1 p j) ∧ μ'.1 0 42 = nI (if M < cL then cL else M) ∧ μ'.1 0 43 = (if M < cL then nI L else F)
theorem row_loop (h : Rel σ μ na nt) (hlw : σ.1 20 4 = nI lw) (hl : lw < nt) (ha : a < na) {e1 e2 dp : Nat} {s : Nat} (hs : s < 64) {x : Int32} (hx : HoldOk x) {c o M0 : Nat} {F0 : Int32} (hM0 : M0 ≤ 4) (ho : Ord c o) (hc : c + (dp + 1) = 4) (hp : popN s ≤ dp + 1)
    (hrec : ∀ (s' : Nat) (x' : Int32) (o' M : Nat) (F : Int32) (σ1 μ1 : St), s' < 64 → popN s' ≤ dp → HoldOk x' → Ord (c + 1) o' → M ≤ 4 → SameC σ σ1 → SameM μ μ1 → μ1.1 0 42 = nI M → μ1.1 0 43 = F → RowE σ (GLongest e1 σ1 (nI a) (nI s') x' (nI o') (nI dp)) (GTakes e2 μ1 (nI a) (nI s') x' (nI (c + 1)) (nI o')) μ1 M F (c + 1)) :
    ∀ (m b cA A : Nat) (σ1 μ1 : St), SameC σ σ1 → SameM μ μ1 → b ≤ na → na - b < m → Ord cA A → cA ≤ 4 → c ≤ cA → μ1.1 0 42 = nI (if M0 < cA then cA else M0) → μ1.1 0 43 = (if M0 < cA then nI A else F0) → RowE σ (F_Main_longestOrder_15 (GLongest e1) m σ1 (nI a) (nI s) x (nI o) (nI (dp + 1)) (nI A) (nI b)) (F_Model_takesOn_24 (GTakes e2) m μ1 (nI a) (nI s) x (nI c) (nI o) (nI b)) μ1 M0 F0 c := by
  intro m
  induction m with
  | zero => intro b cA A σ1 μ1 _ _ _ h; omega
  | succ m ih =>
    intro b cA A σ1 μ1 sc sm hb hm hA hA4 hcA hm1 hm2
    have hr : Rel σ1 μ1 na nt := h.scr sc sm
    have hn6 := h.1.1
    rw [F_Main_longestOrder_15, F_Model_takesOn_24, hr.1.2.1, hr.1.2.2.1]
    by_cases cb : na ≤ b
    · rw [if_pos (nI_le cb (by omega)), if_pos (nI_le cb (by omega))]
      exact ⟨cA, A, σ1, μ1, rfl, rfl, hA, hA4, hcA, sc, fun _ _ _ _ _ _ => rfl, hm1, hm2⟩
    · rw [if_neg (nI_ge (by omega) (by omega)), if_neg (nI_ge (by omega) (by omega)), has_bit hs (by omega), row_t1 s hs b (by omega)]
      unfold F_Main_longestOrder_114 F_Model_takesOn_111
      -- on to the next one
      have nx : ∀ (cA' A' : Nat) (σ2 μ2 : St), SameC σ σ2 → (∀ p j, ¬ (p = 0 ∧ 32 ≤ j ∧ j ≤ 36) → ¬ (p = 0 ∧ (j = 42 ∨ j = 43)) → p ≠ 17 → p ≠ 18 → μ2.1 p j = μ1.1 p j) → Ord cA' A' → cA' ≤ 4 → c ≤ cA' → μ2.1 0 42 = nI (if M0 < cA' then cA' else M0) → μ2.1 0 43 = (if M0 < cA' then nI A' else F0) → RowE σ (F_Main_longestOrder_15 (GLongest e1) m σ2 (nI a) (nI s) x (nI o) (nI (dp + 1)) (nI A') (nI b + 1)) (F_Model_takesOn_24 (GTakes e2) m μ2 (nI a) (nI s) x (nI c) (nI o) (nI b + 1)) μ1 M0 F0 c := by
        intro cA' A' σ2 μ2 s1 s2 g1 g2 g3 g4 g5
        rw [nI_1]
        have s3 : SameM μ μ2 := fun p j g => (s2 p j (by unfold ScM at g; omega) (by unfold ScM at g; omega) (by unfold ScM at g; omega) (by unfold ScM at g; omega)).trans (sm p j g)
        obtain ⟨cL, L, σ3, μ3, f1, f2, f3, f4, f5, f6, f7, f8, f9⟩ := ih (b + 1) cA' A' σ2 μ2 s1 s3 (by omega) (by omega) g1 g2 g3 g4 g5
        exact ⟨cL, L, σ3, μ3, f1, f2, f3, f4, f5, f6, fun p j q1 q2 q3 q4 => (f7 p j q1 q2 q3 q4).trans (s2 p j q1 q2 q3 q4), f8, f9⟩
      rcases bit01 s b with eb | eb
      · rw [eb, if_pos (show nI 0 = 0 from rfl), if_pos (show ¬ nI 0 = 1 by decide)]
        exact nx cA A σ1 μ1 sc (fun _ _ _ _ _ _ => rfl) hA hA4 hcA hm1 hm2
      · rw [eb, if_neg (show ¬ nI 1 = 0 by decide), if_neg (show ¬ ¬ nI 1 = 1 by decide)]
        obtain ⟨σ2, μ2, ν, t', w1, w2, w3, w4, wc, wm, ok, s1, s2⟩ := would3 hr (by rw [sc 20 4 (by unfold ScC; omega)]; exact hlw) hl ha (j := b) (by omega) hx
        rw [w1, w2]
        simp only [ob1_some, ob2_some, lt]
        rw [w4]
        simp only [ob1_some]
        rw [wm.1]
        generalize hv : endV σ1 lw a b 0 0 (0, x, σ1.1 (27 + b) 4, 0) = v at wc wm ok ⊢
        have oM : ∀ p j, ¬ (p = 0 ∧ 32 ≤ j ∧ j ≤ 36) → ¬ (p = 0 ∧ (j = 42 ∨ j = 43)) → p ≠ 17 → p ≠ 18 → μ2.1 p j = μ1.1 p j := fun p j g1 _ g3 g4 => s2 p j g1 g3 g4
        have k42 : μ2.1 0 42 = nI (if M0 < cA then cA else M0) := (s2 0 42 (by omega) (by omega) (by omega)).trans hm1
        have k43 : μ2.1 0 43 = (if M0 < cA then nI A else F0) := (s2 0 43 (by omega) (by omega) (by omega)).trans hm2
        by_cases cv : v.1 ≤ 0
        · rw [if_pos cv, if_neg (not_not_intro rfl), if_pos cv]
          exact nx cA A σ2 μ2 (sc.tr s1) oM hA hA4 hcA k42 k43
        · rw [if_neg cv, if_pos one_ne, if_neg cv, wc.2.1, wm.2.1, row_t3 s hs b (by omega) eb]
          obtain ⟨r1, r2⟩ := rest4 ok.2.1
          rw [← r1]
          have hos := ho.small (show c ≤ 4 by omega)
          have eo : (10 : Int32) * nI o + nI b + 1 = nI (10 * o + (b + 1)) := by
            rw [show (10 : Int32) = nI 10 from rfl, pk_mul, nI_add, nI_1]
            congr 1
          have ed : nI (dp + 1) - 1 = nI dp := nI_pred dp
          have ec : nI c + 1 = nI (c + 1) := nI_1 c
          rw [eo, ed, ec]
          have hpop := row_t3p s hs b (by omega) eb
          have ho2 : Ord (c + 1) (10 * o + (b + 1)) := ⟨o, b + 1, ho, by omega, by omega, rfl⟩
          obtain ⟨cL, L, σ3, μ3, f1, f2, f3, f4, f5, f6, f7, f8, f9⟩ := hrec (s - 2 ^ b) _ (10 * o + (b + 1)) (if M0 < cA then cA else M0) (if M0 < cA then nI A else F0) σ2 μ2 (Nat.lt_of_le_of_lt (Nat.sub_le _ _) hs) (by omega) r2 ho2 (by split <;> omega) (sc.tr s1) (sm.tr s2.same) k42 k43
          rw [f1, f2]
          simp only [ob1_some, ob2_some]
          rw [digits_at f3 f4, digits_at hA hA4]
          simp only [ob1_some]
          have o3 : ∀ p j, ¬ (p = 0 ∧ 32 ≤ j ∧ j ≤ 36) → ¬ (p = 0 ∧ (j = 42 ∨ j = 43)) → p ≠ 17 → p ≠ 18 → μ3.1 p j = μ1.1 p j := fun p j q1 q2 q3 q4 => (f7 p j q1 q2 q3 q4).trans (oM p j q1 q2 q3 q4)
          by_cases cd : cL ≤ cA
          · rw [if_pos (nI_le cd (by omega))]
            have n1 : ¬ (if M0 < cA then cA else M0) < cL := by split <;> omega
            rw [if_neg n1] at f8 f9
            exact nx cA A σ3 μ3 f6 o3 hA hA4 hcA f8 f9
          · rw [if_neg (nI_ge (by omega) (by omega))]
            refine nx cL L σ3 μ3 f6 o3 f3 f4 (by omega) ?_ ?_
            · rw [f8]
              congr 1
              (repeat' split) <;> omega
            · rw [f9]
              by_cases q1 : M0 < cA
              · rw [if_pos q1, if_pos (by omega), if_pos (by omega)]
              · rw [if_neg q1, if_neg q1]
theorem row_rec (h : Rel σ μ na nt) (hlw : σ.1 20 4 = nI lw) (hl : lw < nt) (ha : a < na) : ∀ (dp e1 e2 c : Nat) (s : Nat) (x : Int32) (o M : Nat) (F : Int32) (σ1 μ1 : St), dp < e1 → dp < e2 → c + dp = 4 → s < 64 → popN s ≤ dp → HoldOk x → Ord c o → M ≤ 4 → SameC σ σ1 → SameM μ μ1 → μ1.1 0 42 = nI M → μ1.1 0 43 = F → RowE σ (GLongest e1 σ1 (nI a) (nI s) x (nI o) (nI dp)) (GTakes e2 μ1 (nI a) (nI s) x (nI c) (nI o)) μ1 M F c := by
  intro dp
  induction dp with
  | zero =>
    intro e1 e2 c s x o M F σ1 μ1 h1 h2 hc hs hp hx ho hM sc sm k42 k43
    obtain ⟨d1, rfl⟩ : ∃ d, e1 = d + 1 := ⟨e1 - 1, by omega⟩
    obtain ⟨d2, rfl⟩ : ∃ d, e2 = d + 1 := ⟨e2 - 1, by omega⟩
    have hn6 := h.1.1
    have none_ : ∀ (m b : Nat) (μ2 : St), SameM μ μ2 → b ≤ na → na - b < m → F_Model_takesOn_24 (GTakes d2) m μ2 (nI a) (nI s) x (nI c) (nI o) (nI b) = some μ2 := by
      intro m
      induction m with
      | zero => intro b μ2 _ _ h; omega
      | succ m ih =>
        intro b μ2 s2 hb hm
        have hr : Rel σ μ2 na nt := h.scr SameC.rf s2
        rw [F_Model_takesOn_24, hr.1.2.2.1]
        by_cases cb : na ≤ b
        · rw [if_pos (nI_le cb (by omega))]
        · rw [if_neg (nI_ge (by omega) (by omega)), row_t1 s hs b (by omega), bit_pop (by omega) b (by omega), if_pos (show ¬ nI 0 = 1 by decide)]
          unfold F_Model_takesOn_111
          rw [nI_1]
          exact ih (b + 1) μ2 s2 (by omega) (by omega)
    rw [GLongest, GTakes, F_Main_longestOrder_0, F_Model_takesOn_0, if_neg (not_not_intro (show nI 0 = 0 from rfl)), k42]
    unfold F_Model_takesOn_21
    by_cases cM : c ≤ M
    · rw [if_pos (nI_le cM (by omega)), show (0 : Int32) = nI 0 from rfl, none_ FU 0 μ1 sm (by omega) (by rw [FU_eq]; omega)]
      exact ⟨c, o, σ1, μ1, rfl, rfl, ho, by omega, Nat.le_refl _, sc, fun _ _ _ _ _ _ => rfl, by rw [if_neg (by omega)]; exact k42, by rw [if_neg (by omega)]; exact k43⟩
    · rw [if_neg (nI_ge (by omega) (by omega))]
      simp only [lt]
      rw [show (0 : Int32) = nI 0 from rfl, none_ FU 0 _ (sm.tr (fun p j g => by rw [up1_off (by unfold ScM at g; omega), up1_off (by unfold ScM at g; omega)])) (by omega) (by rw [FU_eq]; omega)]
      exact ⟨c, o, σ1, _, rfl, rfl, ho, by omega, Nat.le_refl _, sc, fun p j g1 g2 _ _ => by rw [up1_off (by omega), up1_off (by omega)], by rw [if_pos (by omega), up1_off (by omega), up1_on], by rw [if_pos (by omega), up1_on]⟩
  | succ dp ih =>
    intro e1 e2 c s x o M F σ1 μ1 h1 h2 hc hs hp hx ho hM sc sm k42 k43
    obtain ⟨d1, rfl⟩ : ∃ d, e1 = d + 1 := ⟨e1 - 1, by omega⟩
    obtain ⟨d2, rfl⟩ : ∃ d, e2 = d + 1 := ⟨e2 - 1, by omega⟩
    have hn6 := h.1.1
    rw [GLongest, GTakes, F_Main_longestOrder_0, F_Model_takesOn_0, if_pos (show ¬ nI (dp + 1) = 0 from nI_ne0 (by omega) (by omega)), k42]
    unfold F_Model_takesOn_21
    have hrec : ∀ (s' : Nat) (x' : Int32) (o' M : Nat) (F : Int32) (σ1 μ1 : St), s' < 64 → popN s' ≤ dp → HoldOk x' → Ord (c + 1) o' → M ≤ 4 → SameC σ σ1 → SameM μ μ1 → μ1.1 0 42 = nI M → μ1.1 0 43 = F → RowE σ (GLongest d1 σ1 (nI a) (nI s') x' (nI o') (nI dp)) (GTakes d2 μ1 (nI a) (nI s') x' (nI (c + 1)) (nI o')) μ1 M F (c + 1) := fun s' x' o' M F σ1 μ1 g1 g2 g3 g4 g5 g6 g7 g8 g9 => ih d1 d2 (c + 1) s' x' o' M F σ1 μ1 (by omega) (by omega) (by omega) g1 g2 g3 g4 g5 g6 g7 g8 g9
    by_cases cM : c ≤ M
    · rw [if_pos (nI_le cM (by omega))]
      exact row_loop h hlw hl ha hs hx hM ho hc hp hrec FU 0 c o σ1 μ1 sc sm (by omega) (by rw [FU_eq]; omega) ho (by omega) (Nat.le_refl _) (by rw [if_neg (by omega)]; exact k42) (by rw [if_neg (by omega)]; exact k43)
    · rw [if_neg (nI_ge (by omega) (by omega))]
      simp only [lt]
      obtain ⟨cL, L, σ3, μ3, f1, f2, f3, f4, f5, f6, f7, f8, f9⟩ := row_loop (F0 := F) h hlw hl ha hs hx hM ho hc hp hrec FU 0 c o σ1 (up1 (up1 μ1 0 42 (nI c)) 0 43 (nI o)) sc (sm.tr (fun p j g => by rw [up1_off (by unfold ScM at g; omega), up1_off (by unfold ScM at g; omega)])) (by omega) (by rw [FU_eq]; omega) ho (by omega) (Nat.le_refl _) (by rw [if_pos (by omega), up1_off (by omega), up1_on]) (by rw [if_pos (by omega), up1_on])
      exact ⟨cL, L, σ3, μ3, f1, f2, f3, f4, f5, f6, fun p j g1 g2 g3 g4 => (f7 p j g1 g2 g3 g4).trans (by rw [up1_off (by omega), up1_off (by omega)]), f8, f9⟩
theorem row_set : ∀ na, na ≤ 6 → jshl 1 (nI na) - 1 = nI (2 ^ na - 1) := by decide +kernel
theorem op_row (h : Rel σ μ na nt) (v w x : Int32) : ∃ r σ' μ', F_Main_row σ v w x = some (r, σ') ∧ F_Model_row μ v w x = some (r, μ') ∧ Rel σ' μ' na nt := by
  unfold F_Main_row F_Model_row F_Main_row_0 F_Model_row_0 F_Model_row_56
  simp only [in_eq]
  have hn6 := h.1.1
  have bad : ∃ r σ' μ', some ((-7 : Int32), σ) = some (r, σ') ∧ F_Model_row_57 μ v w x 0 = some (r, μ') ∧ Rel σ' μ' na nt := by
    unfold F_Model_row_57
    rw [if_neg (not_not_intro rfl)]
    exact ⟨_, _, _, rfl, rfl, h⟩
  rcases armC h v with ⟨a, ha, rfl, e1, e2⟩ | ⟨e1, e2, -⟩
  rotate_left
  · rw [e1, e2]; exact ⟨_, _, _, rfl, rfl, h⟩
  rw [e1, e2]
  simp only [ob1_some]
  rw [if_pos one_ne, if_pos one_ne, h.1.2.1, h.1.2.2.1, row_set na hn6]
  by_cases c1 : F_Main_isWithin w 0 (nI (2 ^ na - 1)) = 0
  · rw [if_pos c1, if_pos c1]; exact bad
  rw [if_neg c1, if_neg c1]
  have p6 : 2 ^ na ≤ 2 ^ 6 := Nat.pow_le_pow_right (by decide) hn6
  obtain ⟨s, hs, rfl⟩ := iw_some (b := 2 ^ na - 1) (by omega) c1
  have hs6 : s < 64 := by have : 0 < 2 ^ na := Nat.two_pow_pos na; omega
  rw [ones_at hs6, has_bit hs6 (show a < 6 by omega), row_t4 s hs6, row_t1 s hs6 a (by omega)]
  simp only [ob1_some]
  have pop6 : popN s ≤ 6 := by
    unfold popN
    have := bit01 s 0; have := bit01 s 1; have := bit01 s 2; have := bit01 s 3; have := bit01 s 4; have := bit01 s 5
    omega
  rcases bit01 s a with eb | eb
  rotate_left
  · rw [eb, if_pos (show ¬ nI 1 = 0 by decide)]
    by_cases c4 : (4 : Int32) < nI (popN s)
    · rw [if_pos c4]; exact bad
    · rw [if_neg c4, if_pos (show ¬ nI 1 = 0 by decide)]; exact bad
  rw [eb, if_neg (show ¬ ¬ nI 0 = 0 by decide)]
  by_cases c4 : popN s ≤ 4
  rotate_left
  · rw [if_neg (show ¬ nI (popN s) ≤ 4 from nI_ge (a := 4) (by omega) (by omega)), if_pos (show (4 : Int32) < nI (popN s) from nI_lt (a := 4) (by omega) (by omega))]
    exact bad
  rw [if_pos (show nI (popN s) ≤ 4 from nI_le (b := 4) c4 (by decide)), if_neg (show ¬ (4 : Int32) < nI (popN s) from nI_nlt (a := 4) c4 (by decide)), if_neg (show ¬ ¬ nI 0 = 0 by decide)]
  by_cases c5 : F_Main_isWithin x 0 1 = 0
  · rw [if_neg (not_not_intro c5), if_pos c5]; exact bad
  rw [if_pos c5, if_neg c5]
  unfold F_Model_row_57
  rw [if_pos one_ne]
  have i6 := inB_nI (k := a) (n := 6) (by omega) (by decide)
  have cl : (nI a).toNatClampNeg = a := nI_clamp (by omega)
  obtain ⟨-, -, -, ⟨lw, l0, l1, l2⟩, -⟩ := h.2.2.2.1
  obtain ⟨b0, b1, b2, b3, b4, b5, b6⟩ := h.1.2.2.2.2 a (by omega)
  simp only [lt, i6, cl, if_true]
  have q4 : (up1 (up1 μ 0 42 0) 0 43 0).1 4 a = σ.1 (27 + a) 4 := by rw [up1_off (by omega), up1_off (by omega), b3]
  rw [q4]
  have sm : SameM μ (up1 (up1 μ 0 42 0) 0 43 0) := fun p j g => by rw [up1_off (by unfold ScM at g; omega), up1_off (by unfold ScM at g; omega)]
  obtain ⟨cL, L, σ3, μ3, f1, f2, f3, f4, f5, f6, f7, f8, f9⟩ := row_rec h l1 l0 ha 4 8 8 0 s (σ.1 (27 + a) 4) 0 0 0 σ (up1 (up1 μ 0 42 0) 0 43 0) (by omega) (by omega) (by omega) hs6 c4 (by rw [b3]; exact b5) rfl (by omega) SameC.rf sm (by rw [up1_off (by omega), up1_on]; rfl) up1_on
  have f1' : F_Main_longestOrder σ (nI a) (nI s) (σ.1 (27 + a) 4) 0 4 = some (nI L, σ3) := f1
  have f2' : F_Model_takesOn (up1 (up1 μ 0 42 0) 0 43 0) (nI a) (nI s) (σ.1 (27 + a) 4) 0 0 = some μ3 := f2
  rw [f1', f2']
  simp only [ob1_some, ob2_some]
  rw [digits_at f3 f4]
  simp only [ob1_some]
  have hr : Rel σ3 μ3 na nt := h.scr f6 (fun p j g => (f7 p j (by unfold ScM at g; omega) (by unfold ScM at g; omega) (by unfold ScM at g; omega) (by unfold ScM at g; omega)).trans (sm p j g))
  have r1 : μ3.1 0 42 = nI cL := by
    rw [f8]
    congr 1
    split <;> omega
  have r2 : μ3.1 0 43 = nI L := by
    rw [f9]
    by_cases q : 0 < cL
    · rw [if_pos q]
    · rw [if_neg q]
      have : cL = 0 := by omega
      subst this
      have : L = 0 := f3
      rw [this]
      rfl
  rw [r1, r2]
  by_cases cx : x = 0
  · rw [if_neg (not_not_intro cx), if_neg (not_not_intro cx)]
    exact ⟨_, _, _, rfl, rfl, hr⟩
  · rw [if_pos cx, if_pos cx]
    exact ⟨_, _, _, rfl, rfl, hr⟩
end RW
