/-! ===== the reference's next token ===== -/
section NX
variable {g : Nat → Nat} {n : Nat}
def tokR (k : Nat) : Int32 := if k = 0 then 0 else if k = 1 then -1 else if k = 2 then 1 else if k = 3 then 2 else if k < 13 then 3 else if k < 16 then nI (k - 9) else nI k
/-- but for the token read last -/
def FrN (μ τ : St) : Prop := τ.2 = μ.2 ∧ ∀ p c, ¬ (p = 0 ∧ 21 ≤ c ∧ c ≤ 24) → τ.1 p c = μ.1 p c
theorem FrN.rf {μ : St} : FrN μ μ := ⟨rfl, fun _ _ _ => rfl⟩
theorem FrN.tr {a b c : St} (h : FrN a b) (k : FrN b c) : FrN a c := ⟨k.1.trans h.1, fun p q h1 => (k.2 p q h1).trans (h.2 p q h1)⟩
theorem FrN.up {μ : St} {c : Nat} (h : 21 ≤ c ∧ c ≤ 24) (x : Int32) : FrN μ (up1 μ 0 c x) := ⟨rfl, fun p q h1 => up1_off (by omega)⟩
theorem TpM.fr {μ τ : St} (h : TpM μ g n) (f : FrN μ τ) : TpM τ g n := ⟨h.1, (f.2 _ _ (by omega)).trans h.2.1, fun i hi => ⟨(h.2.2 i hi).1, (f.2 _ _ (by omega)).trans (h.2.2 i hi).2⟩⟩
theorem skip_loop : ∀ (m a : Nat) (μ : St) (M : Nat), a + m = n → TpM μ g n → μ.1 0 21 = nI a → m < M → ∃ τ, F_Model_next_0 M μ = F_Model_next_52 τ ∧ FrN μ τ ∧ τ.1 0 21 = nI (scan (fun i => tB (g i)) m a) := by
  intro m
  induction m with
  | zero =>
    intro a μ M ha hT h21 hM
    obtain ⟨M, rfl⟩ : ∃ M', M = M' + 1 := ⟨M - 1, by omega⟩
    have hn := hT.1
    rw [F_Model_next_0, hT.2.1, h21, if_pos (nI_le (by omega) (by omega))]
    exact ⟨μ, rfl, FrN.rf, h21⟩
  | succ m ih =>
    intro a μ M ha hT h21 hM
    obtain ⟨M, rfl⟩ : ∃ M', M = M' + 1 := ⟨M - 1, by omega⟩
    have hn := hT.1
    obtain ⟨g256, gv⟩ := hT.2.2 a (by omega)
    have i160 := inB_nI (k := a) (n := 160) (by omega) (by decide)
    have cl : (nI a).toNatClampNeg = a := nI_clamp (by omega)
    rw [F_Model_next_0, hT.2.1, h21, if_neg (nI_ge (by omega) (by omega)), if_pos i160, cl, gv, if_pos i160, scan]
    unfold F_Model_next_39
    rw [h21, nI_1]
    simp only [lt]
    have e1 : nI (g a) = 32 ↔ g a = 32 := nI_eq (b := 32) (by omega) (by decide)
    have e2 : nI (g a) = 10 ↔ g a = 10 := nI_eq (b := 10) (by omega) (by decide)
    have go := ih (a + 1) (up1 μ 0 21 (nI (a + 1))) M (by omega) (hT.fr (FrN.up (by omega) _)) up1_on (by omega)
    have go' : ∃ τ, F_Model_next_0 M (up1 μ 0 21 (nI (a + 1))) = F_Model_next_52 τ ∧ FrN μ τ ∧ τ.1 0 21 = nI (scan (fun i => tB (g i)) m (a + 1)) := by
      obtain ⟨τ, q1, q2, q3⟩ := go
      exact ⟨τ, q1, (FrN.up (by omega) _).tr q2, q3⟩
    by_cases c1 : g a = 32
    · rw [if_pos (e1.mpr c1), if_pos (show tB (g a) = true by rw [c1]; rfl)]
      exact go'
    · rw [if_neg (fun q => c1 (e1.mp q))]
      by_cases c2 : g a = 10
      · rw [if_neg (not_not_intro (e2.mpr c2)), if_pos (show tB (g a) = true by rw [c2]; rfl)]
        exact go'
      · rw [if_pos (fun q => c2 (e2.mp q)), if_neg (show ¬ tB (g a) = true by simp [tB, c1, c2])]
        exact ⟨μ, rfl, FrN.rf, h21⟩
theorem inL {c : Nat} (h : c < 256) : F_Model_in (nI c) 97 122 = bI (tL c) := iw_b (a := 97) (b := 122) (by omega) (by decide) (by decide)
theorem inD {c : Nat} (h : c < 256) : F_Model_in (nI c) 48 57 = bI (tD c) := iw_b (a := 48) (b := 57) (by omega) (by decide) (by decide)
theorem let_loop : ∀ (m a : Nat) (μ : St) (M : Nat), a + m = n → TpM μ g n → μ.1 0 21 = nI a → m < M → ∃ τ, F_Model_next_103 M μ = F_Model_next_146 τ ∧ τ.2 = μ.2 ∧ (∀ p c, ¬ (p = 0 ∧ c = 21) → τ.1 p c = μ.1 p c) ∧ τ.1 0 21 = nI (scan (fun i => tL (g i)) m a) := by
  intro m
  induction m with
  | zero =>
    intro a μ M ha hT h21 hM
    obtain ⟨M, rfl⟩ : ∃ M', M = M' + 1 := ⟨M - 1, by omega⟩
    have hn := hT.1
    rw [F_Model_next_103, hT.2.1, h21, if_pos (nI_le (by omega) (by omega))]
    exact ⟨μ, rfl, rfl, fun _ _ _ => rfl, h21⟩
  | succ m ih =>
    intro a μ M ha hT h21 hM
    obtain ⟨M, rfl⟩ : ∃ M', M = M' + 1 := ⟨M - 1, by omega⟩
    have hn := hT.1
    obtain ⟨g256, gv⟩ := hT.2.2 a (by omega)
    have i160 := inB_nI (k := a) (n := 160) (by omega) (by decide)
    have cl : (nI a).toNatClampNeg = a := nI_clamp (by omega)
    rw [F_Model_next_103, hT.2.1, h21, if_neg (nI_ge (by omega) (by omega)), if_pos i160, cl, gv, inL g256, scan, nI_1]
    simp only [lt]
    by_cases c1 : tL (g a) = true
    · rw [c1, if_neg (show ¬ bI true = 0 by decide), if_pos rfl]
      obtain ⟨τ, q1, q2, q3, q4⟩ := ih (a + 1) (up1 μ 0 21 (nI (a + 1))) M (by omega) (hT.fr (FrN.up (by omega) _)) up1_on (by omega)
      exact ⟨τ, q1, q2, fun p c h => (q3 p c h).trans (up1_off h), q4⟩
    · rw [show tL (g a) = false by simpa using c1, if_pos (show bI false = 0 from rfl), if_neg (by decide)]
      exact ⟨μ, rfl, rfl, fun _ _ _ => rfl, h21⟩
theorem dig_loop {b : Nat} : ∀ (m a q : Nat) (μ : St) (M : Nat), a + m = n → b + q = a → TpM μ g n → μ.1 0 21 = nI a → μ.1 0 24 = nI (if q ≤ 4 then numV g b q else 0) → m < M → ∃ τ, F_Model_next_230 M μ (nI q) = F_Model_next_309 τ (nI (scan (fun i => tD (g i)) m a - b)) ∧ τ.2 = μ.2 ∧ (∀ p c, ¬ (p = 0 ∧ (c = 21 ∨ c = 24)) → τ.1 p c = μ.1 p c) ∧ τ.1 0 21 = nI (scan (fun i => tD (g i)) m a) ∧ τ.1 0 24 = nI (if scan (fun i => tD (g i)) m a - b ≤ 4 then numV g b (scan (fun i => tD (g i)) m a - b) else 0) := by
  intro m
  induction m with
  | zero =>
    intro a q μ M ha hq hT h21 h24 hM
    obtain ⟨M, rfl⟩ : ∃ M', M = M' + 1 := ⟨M - 1, by omega⟩
    have hn := hT.1
    rw [F_Model_next_230, hT.2.1, h21, if_pos (nI_le (by omega) (by omega)), scan, show a - b = q by omega]
    exact ⟨μ, rfl, rfl, fun _ _ _ => rfl, h21, h24⟩
  | succ m ih =>
    intro a q μ M ha hq hT h21 h24 hM
    obtain ⟨M, rfl⟩ : ∃ M', M = M' + 1 := ⟨M - 1, by omega⟩
    have hn := hT.1
    obtain ⟨g256, gv⟩ := hT.2.2 a (by omega)
    have i160 := inB_nI (k := a) (n := 160) (by omega) (by decide)
    have cl : (nI a).toNatClampNeg = a := nI_clamp (by omega)
    rw [F_Model_next_230, hT.2.1, h21, if_neg (nI_ge (by omega) (by omega)), if_pos i160, cl, gv, inD g256, scan]
    by_cases c1 : tD (g a) = true
    · rw [c1, if_neg (show ¬ bI true = 0 by decide), if_pos rfl, if_pos i160, h24]
      have hd : 48 ≤ g a := by simp [tD] at c1; exact c1.1
      have step : ∀ x : Int32, x = nI (if q + 1 ≤ 4 then numV g b (q + 1) else 0) → ∃ τ, F_Model_next_290 (fun z0 zv2 => F_Model_next_230 M z0 zv2) μ (nI q) x = F_Model_next_309 τ (nI (scan (fun i => tD (g i)) m (a + 1) - b)) ∧ τ.2 = μ.2 ∧ (∀ p c, ¬ (p = 0 ∧ (c = 21 ∨ c = 24)) → τ.1 p c = μ.1 p c) ∧ τ.1 0 21 = nI (scan (fun i => tD (g i)) m (a + 1)) ∧ τ.1 0 24 = nI (if scan (fun i => tD (g i)) m (a + 1) - b ≤ 4 then numV g b (scan (fun i => tD (g i)) m (a + 1) - b) else 0) := by
        intro x hx
        unfold F_Model_next_290
        simp only [lt]
        rw [up1_off (σ := μ) (by omega), h21, nI_1, nI_1]
        obtain ⟨τ, q1, q2, q3, q4, q5⟩ := ih (a + 1) (q + 1) (up1 (up1 μ 0 24 x) 0 21 (nI (a + 1))) M (by omega) (by omega) (hT.fr ((FrN.up (by omega) _).tr (FrN.up (by omega) _))) up1_on (by rw [up1_off (by omega), up1_on, hx]) (by omega)
        exact ⟨τ, q1, q2, fun p c h => (q3 p c h).trans (by rw [up1_off (by omega), up1_off (by omega)]), q4, q5⟩
      by_cases c4 : 4 ≤ q
      · rw [if_pos (show (4 : Int32) ≤ nI q from nI_le (a := 4) c4 (by omega))]
        exact step 0 (by rw [if_neg (by omega)]; rfl)
      · rw [if_neg (show ¬ (4 : Int32) ≤ nI q from nI_ge (b := 4) (by omega) (by decide))]
        refine step _ ?_
        rw [if_pos (by omega), if_pos (by omega), show (10 : Int32) = nI 10 from rfl, show (48 : Int32) = nI 48 from rfl, pk_mul, nI_add, pk_sub (by omega), numV, hq]
        congr 1
        omega
    · rw [show tD (g a) = false by simpa using c1, if_pos (show bI false = 0 from rfl), if_neg (by decide), show a - b = q by omega]
      exact ⟨μ, rfl, rfl, fun _ _ _ => rfl, h21, h24⟩
/-- what is told of a token -/
def NxtOk (τ : St) (t : Nat × Nat × Nat × Nat) : Prop := τ.1 0 21 = nI t.2.2.2 ∧ τ.1 0 22 = nI t.2.2.1 ∧ τ.1 0 23 = tokR t.1 ∧ (t.1 = 2 ∨ t.1 = 3 → τ.1 0 24 = nI t.2.1) ∧ (10 ≤ t.1 → t.1 ≤ 12 → τ.1 0 24 = nI (t.1 - 10))
theorem word_tok {μ : St} {b e : Nat} (hT : TpM μ g n) (hW : ∀ i, i < 96 → μ.1 15 i = wordsF i) (hbe : b ≤ e) (he : e ≤ n) (hg : ∀ i, b ≤ i → i < e → g i ≠ 32) (h22 : μ.1 0 22 = nI b) (h21 : μ.1 0 21 = nI e) : ∃ τ, F_Model_next_146 μ = some τ ∧ FrN μ τ ∧ NxtOk τ (match wordIx g b e WORDS 0 with
    | none => (1, 0, b, e)
    | some k => if k < 6 then (10 + k, 0, b, e) else (3, k - 6, b, e)) := by
  unfold F_Model_next_146
  rw [h21, h22, wordFrom_at hT hW hbe he hg]
  simp only [ob1_some]
  have fin : ∀ (t v : Int32) (T : Nat × Nat × Nat × Nat), T.2.2 = (b, e) → t = tokR T.1 → (T.1 = 2 ∨ T.1 = 3 → v = nI T.2.1) → (10 ≤ T.1 → T.1 ≤ 12 → v = nI (T.1 - 10)) → FrN μ (up1 (up1 μ 0 23 t) 0 24 v) ∧ NxtOk (up1 (up1 μ 0 23 t) 0 24 v) T := by
    intro t v T h1 h2 h3 h4
    refine ⟨(FrN.up (by omega) _).tr (FrN.up (by omega) _), ?_, ?_, ?_, fun q => ?_, fun q1 q2 => ?_⟩
    · rw [up1_off (by omega), up1_off (by omega), h21, h1]
    · rw [up1_off (by omega), up1_off (by omega), h22, h1]
    · rw [up1_off (by omega), up1_on, h2]
    · rw [up1_on, h3 q]
    · rw [up1_on, h4 q1 q2]
  cases hw : wordIx g b e WORDS 0 with
  | none =>
    have := fin (-1) (12 - 3) (1, 0, b, e) rfl rfl (fun q => by simp at q) (fun q => by simp at q)
    exact ⟨_, rfl, this⟩
  | some k =>
    have k12 : k < 12 := (wordIx_lt g b e WORDS 0 k hw).2
    match k, k12 with
    | 0, _ => exact ⟨_, rfl, fin 3 0 (10, 0, b, e) rfl rfl (fun q => by simp at q) (fun _ _ => rfl)⟩
    | 1, _ => exact ⟨_, rfl, fin 3 1 (11, 0, b, e) rfl rfl (fun q => by simp at q) (fun _ _ => rfl)⟩
    | 2, _ => exact ⟨_, rfl, fin 3 2 (12, 0, b, e) rfl rfl (fun q => by simp at q) (fun _ _ => rfl)⟩
    | 3, _ => exact ⟨_, rfl, fin 4 6 (13, 0, b, e) rfl rfl (fun q => by simp at q) (fun _ q => by simp at q)⟩
    | 4, _ => exact ⟨_, rfl, fin 5 7 (14, 0, b, e) rfl rfl (fun q => by simp at q) (fun _ q => by simp at q)⟩
    | 5, _ => exact ⟨_, rfl, fin 6 8 (15, 0, b, e) rfl rfl (fun q => by simp at q) (fun _ q => by simp at q)⟩
    | 6, _ => exact ⟨_, rfl, fin 2 0 (3, 0, b, e) rfl rfl (fun _ => rfl) (fun q => by simp at q)⟩
    | 7, _ => exact ⟨_, rfl, fin 2 1 (3, 1, b, e) rfl rfl (fun _ => rfl) (fun q => by simp at q)⟩
    | 8, _ => exact ⟨_, rfl, fin 2 2 (3, 2, b, e) rfl rfl (fun _ => rfl) (fun q => by simp at q)⟩
    | 9, _ => exact ⟨_, rfl, fin 2 3 (3, 3, b, e) rfl rfl (fun _ => rfl) (fun q => by simp at q)⟩
    | 10, _ => exact ⟨_, rfl, fin 2 4 (3, 4, b, e) rfl rfl (fun _ => rfl) (fun q => by simp at q)⟩
    | 11, _ => exact ⟨_, rfl, fin 2 5 (3, 5, b, e) rfl rfl (fun _ => rfl) (fun q => by simp at q)⟩
    | k + 12, h => exact absurd h (by omega)
theorem next_at {μ : St} (hT : TpM μ g n) (hW : ∀ i, i < 96 → μ.1 15 i = wordsF i) {j : Nat} (h21 : μ.1 0 21 = nI (posn g n j)) : ∃ τ, F_Model_next μ = some τ ∧ FrN μ τ ∧ NxtOk τ (Tk g n j) := by
  have hn := hT.1
  have hp := posn_le g n j
  obtain ⟨τ0, e0, f0, h0⟩ := skip_loop (n - posn g n j) (posn g n j) μ FU (by omega) hT h21 (by rw [FU_eq]; omega)
  rw [show F_Model_next = F_Model_next_0 FU from rfl, e0]
  unfold Tk tokAt
  have sB := scan_le (fun i => tB (g i)) (n - posn g n j) (posn g n j)
  generalize hb : scan (fun i => tB (g i)) (n - posn g n j) (posn g n j) = b at *
  have hbn : b ≤ n := by omega
  unfold F_Model_next_52
  simp only [lt]
  rw [h0]
  have f1 : FrN μ (up1 (up1 (up1 τ0 0 22 (nI b)) 0 23 0) 0 24 0) := ((f0.tr (FrN.up (by omega) _)).tr (FrN.up (by omega) _)).tr (FrN.up (by omega) _)
  have h1 : (up1 (up1 (up1 τ0 0 22 (nI b)) 0 23 0) 0 24 0).1 0 21 = nI b := by rw [up1_off (by omega), up1_off (by omega), up1_off (by omega), h0]
  have h2 : (up1 (up1 (up1 τ0 0 22 (nI b)) 0 23 0) 0 24 0).1 0 22 = nI b := by rw [up1_off (by omega), up1_off (by omega), up1_on]
  have h3 : (up1 (up1 (up1 τ0 0 22 (nI b)) 0 23 0) 0 24 0).1 0 23 = 0 := by rw [up1_off (by omega), up1_on]
  have h4 : (up1 (up1 (up1 τ0 0 22 (nI b)) 0 23 0) 0 24 0).1 0 24 = 0 := up1_on
  generalize up1 (up1 (up1 τ0 0 22 (nI b)) 0 23 0) 0 24 0 = τ1 at f1 h1 h2 h3 h4 ⊢
  have hT1 := hT.fr f1
  have hW1 : ∀ i, i < 96 → τ1.1 15 i = wordsF i := fun i hi => (f1.2 _ _ (by omega)).trans (hW i hi)
  rw [h1, hT1.2.1]
  unfold tokB
  by_cases c : n ≤ b
  · have : b = n := by omega
    subst this
    rw [if_neg (not_not_intro rfl), if_pos c]
    exact ⟨τ1, rfl, f1, h1, h2, h3, fun q => by simp at q, fun q => by simp at q⟩
  · obtain ⟨g256, gv⟩ := hT1.2.2 b (by omega)
    rw [if_pos (fun q => c (by have := (nI_eq (by omega) (by omega)).mp q; omega)), if_neg c, if_pos (inB_nI (by omega) (by decide)), nI_clamp (by omega), gv, inL g256, inD g256]
    by_cases cl : tL (g b) = true
    · rw [cl, if_neg (show ¬ bI true = 0 by decide), if_pos rfl]
      obtain ⟨τ, q1, q2, q3, q4⟩ := let_loop (n - b) b τ1 FU (by omega) hT1 h1 (by rw [FU_eq]; omega)
      rw [q1]
      have sL := scan_le (fun i => tL (g i)) (n - b) b
      have fr : FrN τ1 τ := ⟨q2, fun p c h => q3 p c (by omega)⟩
      obtain ⟨υ, r1, r2, r3⟩ := word_tok (μ := τ) (b := b) (e := scan (fun i => tL (g i)) (n - b) b) (hT1.fr fr) (fun i hi => (fr.2 _ _ (by omega)).trans (hW1 i hi)) sL.1 (by omega) (fun i g1 g2 => by
        have := scan_all (fun i => tL (g i)) (n - b) b i g1 g2
        intro z
        rw [z] at this
        exact absurd this (by decide)) ((q3 0 22 (by omega)).trans h2) q4
      exact ⟨υ, r1, (f1.tr fr).tr r2, r3⟩
    · rw [show tL (g b) = false by simpa using cl, if_pos (show bI false = 0 from rfl), if_neg (show ¬ (false = true) by decide)]
      by_cases cd : tD (g b) = true
      · rw [cd, if_neg (show ¬ bI true = 0 by decide), if_pos rfl]
        obtain ⟨τ, q1, q2, q3, q4, q5⟩ := dig_loop (b := b) (n - b) b 0 τ1 FU (by omega) rfl hT1 h1 h4 (by rw [FU_eq]; omega)
        have q1' : F_Model_next_230 FU τ1 0 = _ := q1
        rw [q1']
        have sD := scan_le (fun i => tD (g i)) (n - b) b
        generalize hz : scan (fun i => tD (g i)) (n - b) b = z at *
        unfold F_Model_next_309 F_Model_next_320
        simp only [lt]
        have fr : ∀ x, FrN μ (up1 τ 0 23 x) := fun x => (f1.tr ⟨q2, fun p c h => q3 p c (by omega)⟩).tr (FrN.up (by omega) _)
        have w21 : ∀ x, (up1 τ 0 23 x).1 0 21 = nI z := fun x => (up1_off (by omega)).trans q4
        have w22 : ∀ x, (up1 τ 0 23 x).1 0 22 = nI b := fun x => (up1_off (by omega)).trans ((q3 0 22 (by omega)).trans h2)
        by_cases c4 : z - b ≤ 4
        · rw [if_pos (show nI (z - b) ≤ 4 from nI_le (b := 4) c4 (by decide)), if_pos c4]
          rw [if_pos c4] at q5
          exact ⟨_, rfl, fr _, w21 _, w22 _, up1_on, fun _ => (up1_off (by omega)).trans q5, fun q => by simp at q⟩
        · rw [if_neg (show ¬ nI (z - b) ≤ 4 from nI_ge (a := 4) (by omega) (by omega)), if_neg c4]
          exact ⟨_, rfl, fr _, w21 _, w22 _, up1_on, fun q => by simp at q, fun q => by simp at q⟩
      · rw [show tD (g b) = false by simpa using cd, if_pos (show bI false = 0 from rfl), if_neg (show ¬ (false = true) by decide)]
        unfold F_Model_next_374 F_Model_next_379 F_Model_next_390
        simp only [lt]
        have fr : ∀ x y, FrN μ (up1 (up1 τ1 0 23 x) 0 21 y) := fun x y => (f1.tr (FrN.up (by omega) _)).tr (FrN.up (by omega) _)
        have a21 : ∀ x, (up1 τ1 0 23 x).1 0 21 + 1 = nI (b + 1) := fun x => by rw [up1_off (by omega), h1, nI_1]
        have w22 : ∀ x y, (up1 (up1 τ1 0 23 x) 0 21 y).1 0 22 = nI b := fun x y => by rw [up1_off (by omega), up1_off (by omega), h2]
        have w23 : ∀ x y, (up1 (up1 τ1 0 23 x) 0 21 y).1 0 23 = x := fun x y => by rw [up1_off (by omega), up1_on]
        have e : ∀ q, q < 256 → (nI (g b) = nI q ↔ g b = q) := fun q hq => nI_eq (by omega) (by omega)
        have no : ∀ q, q < 256 → ¬ g b = q → ¬ nI (g b) = nI q := fun q hq h1 h2 => h1 ((e q hq).mp h2)
        have yes : ∀ q, g b = q → tS q = true → 16 ≤ q → ∃ τ, (some (up1 (up1 τ1 0 23 (nI (g b))) 0 21 ((up1 τ1 0 23 (nI (g b))).1 0 21 + 1)) : Option St) = some τ ∧ FrN μ τ ∧ NxtOk τ (if tS (g b) = true then (g b, 0, b, b + 1) else (1, 0, b, b + 1)) := by
          intro q h1 h2 h3
          rw [h1, if_pos h2]
          refine ⟨_, rfl, fr _ _, ?_, w22 _ _, ?_, fun z => ?_, fun z1 z2 => ?_⟩
          · rw [up1_on]; exact a21 _
          · rw [w23]
            show nI q = tokR q
            unfold tokR
            rw [if_neg (by omega), if_neg (by omega), if_neg (by omega), if_neg (by omega), if_neg (by omega), if_neg (by omega)]
          · have z' : q = 2 ∨ q = 3 := z
            omega
          · have z' : q ≤ 12 := z2
            omega
        by_cases d1 : g b = 40
        · rw [if_pos (show nI (g b) = 40 from (e 40 (by decide)).mpr d1), if_neg one_ne]; exact yes 40 d1 (by decide) (by decide)
        rw [if_neg (show ¬ nI (g b) = 40 from no 40 (by decide) d1)]
        by_cases d2 : g b = 41
        · rw [if_pos (show nI (g b) = 41 from (e 41 (by decide)).mpr d2), if_neg one_ne]; exact yes 41 d2 (by decide) (by decide)
        rw [if_neg (show ¬ nI (g b) = 41 from no 41 (by decide) d2)]
        by_cases d3 : g b = 59
        · rw [if_pos (show nI (g b) = 59 from (e 59 (by decide)).mpr d3), if_neg one_ne]; exact yes 59 d3 (by decide) (by decide)
        rw [if_neg (show ¬ nI (g b) = 59 from no 59 (by decide) d3)]
        by_cases d4 : g b = 43
        · rw [if_pos (show nI (g b) = 43 from (e 43 (by decide)).mpr d4), if_neg one_ne]; exact yes 43 d4 (by decide) (by decide)
        rw [if_neg (show ¬ nI (g b) = 43 from no 43 (by decide) d4)]
        by_cases d5 : g b = 45
        · rw [if_pos (show nI (g b) = 45 from (e 45 (by decide)).mpr d5), if_neg one_ne]; exact yes 45 d5 (by decide) (by decide)
        rw [if_neg (show ¬ nI (g b) = 45 from no 45 (by decide) d5)]
        by_cases d6 : g b = 42
        · rw [if_pos (show nI (g b) = 42 from (e 42 (by decide)).mpr d6), if_neg one_ne]; exact yes 42 d6 (by decide) (by decide)
        rw [if_neg (show ¬ nI (g b) = 42 from no 42 (by decide) d6)]
        by_cases d7 : g b = 60
        · rw [if_pos (show nI (g b) = 60 from (e 60 (by decide)).mpr d7), if_neg one_ne]; exact yes 60 d7 (by decide) (by decide)
        rw [if_neg (show ¬ nI (g b) = 60 from no 60 (by decide) d7)]
        by_cases d8 : g b = 61
        · rw [if_neg (not_not_intro (show nI (g b) = 61 from (e 61 (by decide)).mpr d8)), if_neg one_ne]; exact yes 61 d8 (by decide) (by decide)
        rw [if_pos (show ¬ nI (g b) = 61 from no 61 (by decide) d8), if_pos trivial, if_neg (show ¬ tS (g b) = true by simp [tS, d1, d2, d3, d4, d5, d6, d7, d8])]
        exact ⟨_, rfl, fr _ _, by rw [up1_on]; exact a21 _, w22 _ _, w23 _ _, fun z => by simp at z, fun z => by simp at z⟩
end NX
