/-! ===== tokens: the class reads the tape ===== -/
section TC
variable {g : Nat → Nat} {n : Nat}
theorem nx_fr {σ : St} {x : Int32} : FrT σ (up1 σ 3 5 x) := ⟨rfl, fun p c h1 _ _ _ => up1_off (by omega)⟩
theorem word_loop {b : Nat} : ∀ (m i : Nat) (σ : St) (M : Nat), i + m = n → TpC σ g n → σ.1 3 5 = nI i → m < M → ∃ τ, F_Tokens_takeWord_7 M σ (nI b) (nI i) = F_Tokens_takeWord_45 τ (nI b) ∧ FrT σ τ ∧ (∀ p c, ¬ (p = 3 ∧ c = 5) → τ.1 p c = σ.1 p c) ∧ τ.1 3 5 = nI (scan (fun i => tL (g i)) m i) := by
  intro m
  induction m with
  | zero =>
    intro i σ M hi hT h5 hM
    obtain ⟨M, rfl⟩ : ∃ M', M = M' + 1 := ⟨M - 1, by omega⟩
    have hn := hT.1
    rw [F_Tokens_takeWord_7, hT.2.1, if_pos (nI_le (by omega) (by omega))]
    exact ⟨σ, rfl, FrT.rf, fun _ _ _ => rfl, h5⟩
  | succ m ih =>
    intro i σ M hi hT h5 hM
    obtain ⟨M, rfl⟩ : ∃ M', M = M' + 1 := ⟨M - 1, by omega⟩
    have hn := hT.1
    rw [F_Tokens_takeWord_7, hT.2.1, if_neg (nI_ge (by omega) (by omega)), letter_at hT (by omega), scan]
    simp only [ob1_some]
    by_cases c : tL (g i) = true
    · rw [c, if_neg (show ¬ bI true = 0 by decide), if_pos rfl]
      simp only [lt]
      rw [h5, nI_1]
      obtain ⟨τ, e1, e2, e3, e4⟩ := ih (i + 1) (up1 σ 3 5 (nI (i + 1))) M (by omega) (hT.fr nx_fr) up1_on (by omega)
      exact ⟨τ, e1, nx_fr.tr e2, fun p q h => (e3 p q h).trans (up1_off h), e4⟩
    · have c' : tL (g i) = false := by simpa using c
      rw [c', if_pos (show bI false = 0 from rfl), if_neg (by decide)]
      exact ⟨σ, rfl, FrT.rf, fun _ _ _ => rfl, h5⟩
theorem num_loop {b : Nat} : ∀ (m i q : Nat) (σ : St) (M : Nat), i + m = n → b + q = i → TpC σ g n → σ.1 3 5 = nI i → m < M → ∃ τ, F_Tokens_takeNumber_9 M σ (nI b) (nI (numV g b q)) (nI i) = F_Tokens_takeNumber_64 τ (nI b) (nI (numV g b (scan (fun i => tD (g i)) m i - b))) ∧ FrT σ τ ∧ (∀ p c, ¬ (p = 3 ∧ c = 5) → τ.1 p c = σ.1 p c) ∧ τ.1 3 5 = nI (scan (fun i => tD (g i)) m i) := by
  intro m
  induction m with
  | zero =>
    intro i q σ M hi hq hT h5 hM
    obtain ⟨M, rfl⟩ : ∃ M', M = M' + 1 := ⟨M - 1, by omega⟩
    have hn := hT.1
    rw [F_Tokens_takeNumber_9, hT.2.1, if_pos (nI_le (by omega) (by omega)), scan, show i - b = q by omega]
    exact ⟨σ, rfl, FrT.rf, fun _ _ _ => rfl, h5⟩
  | succ m ih =>
    intro i q σ M hi hq hT h5 hM
    obtain ⟨M, rfl⟩ : ∃ M', M = M' + 1 := ⟨M - 1, by omega⟩
    have hn := hT.1
    rw [F_Tokens_takeNumber_9, hT.2.1, if_neg (nI_ge (by omega) (by omega)), digit_at hT (by omega), scan]
    simp only [ob1_some]
    by_cases c : tD (g i) = true
    · rw [c, if_neg (show ¬ bI true = 0 by decide), if_pos rfl, tape_at hT (by omega)]
      simp only [ob1_some, lt]
      have hd : 48 ≤ g i := by simp [tD] at c; exact c.1
      have ev : (10 : Int32) * nI (numV g b q) + nI (g i) - 48 = nI (numV g b (q + 1)) := by
        rw [show (10 : Int32) = nI 10 from rfl, show (48 : Int32) = nI 48 from rfl, pk_mul, nI_add, pk_sub (by omega), numV, hq]
        congr 1
        omega
      rw [h5, nI_1, ev]
      obtain ⟨τ, e1, e2, e3, e4⟩ := ih (i + 1) (q + 1) (up1 σ 3 5 (nI (i + 1))) M (by omega) (by omega) (hT.fr nx_fr) up1_on (by omega)
      exact ⟨τ, e1, nx_fr.tr e2, fun p r h => (e3 p r h).trans (up1_off h), e4⟩
    · have c' : tD (g i) = false := by simpa using c
      rw [c', if_pos (show bI false = 0 from rfl), if_neg (by decide), show i - b = q by omega]
      exact ⟨σ, rfl, FrT.rf, fun _ _ _ => rfl, h5⟩
theorem take_word {σ : St} {s b : Nat} (hT : TpC σ g n) (hC : TokC σ g n s) (hs : s < 161) (h5 : σ.1 3 5 = nI b) (hb : b < n) (hk : Tk g n s = tokB g n b) (hl : tL (g b) = true) : ∃ τ, F_Tokens_takeWord σ = some τ ∧ TokC τ g n (s + 1) ∧ FrT σ τ ∧ τ.1 3 5 = nI (Tk g n s).2.2.2 := by
  have hn := hT.1
  unfold F_Tokens_takeWord F_Tokens_takeWord_0
  rw [h5]
  obtain ⟨τ, e1, e2, e3, e4⟩ := word_loop (b := b) (n - b) b σ FU (by omega) hT h5 (by rw [FU_eq]; omega)
  rw [e1]
  unfold F_Tokens_takeWord_45
  have sL := scan_le (fun i => tL (g i)) (n - b) b
  rw [e4, wordNo_at (hT.fr e2) (by omega) (by omega)]
  simp only [ob2_some]
  have hC2 := hC.fr e3
  have go : ∀ {k v : Int32} (_ : k = nI (Tk g n s).1) (_ : (Tk g n s).1 = 2 ∨ (Tk g n s).1 = 3 → v = nI (Tk g n s).2.1) (_ : (Tk g n s).2.2.1 = b) (_ : (Tk g n s).2.2.2 = scan (fun i => tL (g i)) (n - b) b), ∃ υ, ob1 (F_Tokens_add τ k v (nI b)) (fun s_6 => some s_6) = some υ ∧ TokC υ g n (s + 1) ∧ FrT σ υ ∧ υ.1 3 5 = nI (Tk g n s).2.2.2 := by
    intro k v k1 k2 k3 k4
    obtain ⟨υ, f1, f2, f3, f4⟩ := add_tok hC2 hs k1 k2 (p := nI b) (by rw [k3])
    rw [f1]
    exact ⟨υ, rfl, f2, e2.tr f3, by rw [f4, e4, k4]⟩
  have ht : tokB g n b = (match wordIx g b (scan (fun i => tL (g i)) (n - b) b) WORDS 0 with
    | none => (1, 0, b, scan (fun i => tL (g i)) (n - b) b)
    | some k => if k < 6 then (10 + k, 0, b, scan (fun i => tL (g i)) (n - b) b) else (3, k - 6, b, scan (fun i => tL (g i)) (n - b) b)) := by
    unfold tokB
    rw [if_neg (by omega), if_pos hl]
    rfl
  cases hw : wordIx g b (scan (fun i => tL (g i)) (n - b) b) WORDS 0 with
  | none =>
    rw [hw] at ht
    have hk' := hk.trans ht
    unfold woR
    rw [if_neg (not_not_intro rfl)]
    exact go (by rw [hk']; rfl) (fun q => by rw [hk'] at q; simp at q) (by rw [hk']) (by rw [hk'])
  | some k =>
    rw [hw] at ht
    have k12 := (wordIx_lt g b _ WORDS 0 k hw).2
    have k12' : k < 12 := k12
    unfold woR
    have nm : ∀ k, k < 12 → ¬ nI k = -1 := by decide +kernel
    rw [if_pos (nm k k12')]
    by_cases c6 : k < 6
    · have hk' : Tk g n s = (10 + k, 0, b, scan (fun i => tL (g i)) (n - b) b) := hk.trans (ht.trans (if_pos c6))
      rw [if_neg (show ¬ (6 : Int32) ≤ nI k from nI_ge (b := 6) c6 (by decide))]
      exact go (by rw [hk', show (10 : Int32) = nI 10 from rfl, nI_add]) (fun q => by rw [hk'] at q; simp at q; omega) (by rw [hk']) (by rw [hk'])
    · have hk' : Tk g n s = (3, k - 6, b, scan (fun i => tL (g i)) (n - b) b) := hk.trans (ht.trans (if_neg c6))
      rw [if_pos (show (6 : Int32) ≤ nI k from nI_le (a := 6) (by omega) (by omega))]
      exact go (by rw [hk']; rfl) (fun _ => by rw [hk', show (6 : Int32) = nI 6 from rfl, pk_sub (by omega)]) (by rw [hk']) (by rw [hk'])
theorem take_num {σ : St} {s b : Nat} (hT : TpC σ g n) (hC : TokC σ g n s) (hs : s < 161) (h5 : σ.1 3 5 = nI b) (hb : b < n) (hk : Tk g n s = tokB g n b) (hl : ¬ tL (g b) = true) (hd : tD (g b) = true) : ∃ τ, F_Tokens_takeNumber σ = some τ ∧ TokC τ g n (s + 1) ∧ FrT σ τ ∧ τ.1 3 5 = nI (Tk g n s).2.2.2 := by
  have hn := hT.1
  unfold F_Tokens_takeNumber F_Tokens_takeNumber_0
  rw [h5]
  obtain ⟨τ, e1, e2, e3, e4⟩ := num_loop (b := b) (n - b) b 0 σ FU (by omega) rfl hT h5 (by rw [FU_eq]; omega)
  have e1' : F_Tokens_takeNumber_9 FU σ (nI b) 0 (nI b) = _ := e1
  rw [e1']
  unfold F_Tokens_takeNumber_64 F_Tokens_takeNumber_80
  have sD := scan_le (fun i => tD (g i)) (n - b) b
  rw [e4, pk_sub sD.1]
  have hC2 := hC.fr e3
  have ht : tokB g n b = (if scan (fun i => tD (g i)) (n - b) b - b ≤ 4 then (2, numV g b (scan (fun i => tD (g i)) (n - b) b - b), b, scan (fun i => tD (g i)) (n - b) b) else (1, 0, b, scan (fun i => tD (g i)) (n - b) b)) := by
    unfold tokB
    rw [if_neg (by omega), if_neg hl, if_pos hd]
  generalize hz : scan (fun i => tD (g i)) (n - b) b = z at *
  by_cases c4 : z - b ≤ 4
  · have hk' := hk.trans (ht.trans (if_pos c4))
    rw [if_pos (show nI (z - b) ≤ 4 from nI_le (b := 4) c4 (by decide))]
    obtain ⟨υ, f1, f2, f3, f4⟩ := add_tok hC2 hs (k := 2) (v := nI (numV g b (z - b))) (p := nI b) (by rw [hk']; rfl) (fun _ => by rw [hk']) (by rw [hk'])
    rw [f1]
    exact ⟨υ, rfl, f2, e2.tr f3, by rw [f4, e4, hk']⟩
  · have hk' := hk.trans (ht.trans (if_neg c4))
    rw [if_neg (show ¬ nI (z - b) ≤ 4 from nI_ge (a := 4) (by omega) (by omega))]
    obtain ⟨υ, f1, f2, f3, f4⟩ := add_tok hC2 hs (k := 1) (v := nI (numV g b (z - b))) (p := nI b) (by rw [hk']; rfl) (fun q => by rw [hk'] at q; simp at q) (by rw [hk'])
    rw [f1]
    exact ⟨υ, rfl, f2, e2.tr f3, by rw [f4, e4, hk']⟩
theorem take_sign {σ : St} {s b : Nat} (hT : TpC σ g n) (hC : TokC σ g n s) (hs : s < 161) (h5 : σ.1 3 5 = nI b) (hb : b < n) (hk : Tk g n s = tokB g n b) (hl : ¬ tL (g b) = true) (hd : ¬ tD (g b) = true) : ∃ τ, F_Tokens_takeSign σ = some τ ∧ TokC τ g n (s + 1) ∧ FrT σ τ ∧ τ.1 3 5 = nI (Tk g n s).2.2.2 := by
  have hn := hT.1
  have hg := (hT.2.2 b hb).1
  unfold F_Tokens_takeSign F_Tokens_takeSign_0
  rw [h5, tape_at hT hb]
  simp only [ob1_some]
  obtain ⟨r, r1, r2⟩ := sign_at hg
  rw [r1]
  simp only [ob1_some]
  unfold F_Tokens_takeSign_28
  rw [h5]
  have ht : tokB g n b = (if tS (g b) then (g b, 0, b, b + 1) else (1, 0, b, b + 1)) := by
    unfold tokB
    rw [if_neg (by omega), if_neg hl, if_neg hd]
  by_cases c : tS (g b) = true
  · have hk' := hk.trans (ht.trans (if_pos c))
    have h40 : (g b = 2 ∨ g b = 3) → False := by
      intro q
      rcases q with q | q <;> rw [q] at c <;> exact absurd c (by decide)
    rw [if_neg (fun q => by rw [r2.mp q] at c; cases c)]
    obtain ⟨υ, f1, f2, f3, f4⟩ := add_tok hC hs (k := nI (g b)) (v := 0) (p := nI b) (by rw [hk']) (fun q => by rw [hk'] at q; exact (h40 q).elim) (by rw [hk'])
    rw [f1]
    simp only [ob1_some, lt]
    refine ⟨_, rfl, f2.fr (fun p q h => up1_off h), f3.tr nx_fr, ?_⟩
    rw [up1_on, f4, h5, nI_1, hk']
  · have hk' := hk.trans (ht.trans (if_neg c))
    rw [if_pos (r2.mpr (by simpa using c))]
    obtain ⟨υ, f1, f2, f3, f4⟩ := add_tok hC hs (k := 1) (v := 0) (p := nI b) (by rw [hk']; rfl) (fun q => by rw [hk'] at q; simp at q) (by rw [hk'])
    rw [f1]
    simp only [ob1_some, lt]
    refine ⟨_, rfl, f2.fr (fun p q h => up1_off h), f3.tr nx_fr, ?_⟩
    rw [up1_on, f4, h5, nI_1, hk']
theorem tape_loop : ∀ (m i p s : Nat) (σ : St), TpC σ g n → σ.1 3 5 = nI p → TokC σ g n s → tokAt g n p = Tk g n s → i ≤ p → s ≤ p → p ≤ n → i ≤ 160 → 161 - i < m → ∃ τ N, F_Tokens_readTape_12 m σ (nI i) = some τ ∧ N ≤ n ∧ TokC τ g n (N + 1) ∧ Tk g n N = (0, 0, n, n) ∧ FrT σ τ := by
  intro m
  induction m with
  | zero => intro i p s σ _ _ _ _ _ _ _ _ h; omega
  | succ m ih =>
    intro i p s σ hT h5 hC hk hip hsp hpn hi hm
    have hn := hT.1
    rw [F_Tokens_readTape_12, hT.2.1, h5]
    have fin : n ≤ p → ∃ τ N, F_Tokens_readTape_112 σ = some τ ∧ N ≤ n ∧ TokC τ g n (N + 1) ∧ Tk g n N = (0, 0, n, n) ∧ FrT σ τ := by
      intro hp
      have hk' := hk.symm.trans (tok_end hp)
      unfold F_Tokens_readTape_112
      rw [hT.2.1]
      obtain ⟨υ, f1, f2, f3, f4⟩ := add_tok hC (by omega) (k := 0) (v := 0) (p := nI n) (by rw [hk']; rfl) (fun q => by rw [hk'] at q; simp at q) (by rw [hk'])
      rw [f1]
      exact ⟨υ, s, rfl, by omega, f2, hk', f3⟩
    by_cases c1 : i = 160
    · subst c1
      rw [if_pos (show (160 : Int32) ≤ nI 160 by decide)]
      exact fin (by omega)
    rw [if_neg (show ¬ (160 : Int32) ≤ nI i from nI_ge (a := i) (b := 160) (by omega) (by decide))]
    by_cases c2 : n ≤ p
    · rw [if_pos (nI_le c2 (by omega))]
      exact fin c2
    rw [if_neg (nI_ge (by omega) (by omega)), blank_at hT (by omega)]
    simp only [ob1_some]
    unfold F_Tokens_readTape_106
    rw [nI_1]
    by_cases cb : tB (g p) = true
    · rw [cb, if_neg (show ¬ bI true = 0 by decide)]
      simp only [lt]
      rw [nI_1]
      obtain ⟨τ, N, e1, e2, e3, e4, e5⟩ := ih (i + 1) (p + 1) s (up1 σ 3 5 (nI (p + 1))) (hT.fr nx_fr) up1_on (hC.fr (fun p q h => up1_off h)) ((tok_blank (by omega) cb).symm.trans hk) (by omega) (by omega) (by omega) (by omega) (by omega)
      exact ⟨τ, N, e1, e2, e3, e4, nx_fr.tr e5⟩
    · have hk2 := hk.symm.trans (tok_here (by omega) cb)
      have cb' : tB (g p) = false := by simpa using cb
      have hnext := tokB_next (g := g) (n := n) (b := p) (by omega)
      have hkind : (tokB g n p).1 ≠ 0 := by
        unfold tokB
        rw [if_neg (by omega)]
        split
        · split
          · exact (by decide : (1 : Nat) ≠ 0)
          · split
            · show 10 + _ ≠ 0; omega
            · exact (by decide : (3 : Nat) ≠ 0)
        · split
          · split
            · exact (by decide : (2 : Nat) ≠ 0)
            · exact (by decide : (1 : Nat) ≠ 0)
          · split
            · rename_i q
              intro z
              have z' : g p = 0 := z
              rw [z'] at q
              exact absurd q (by decide)
            · exact (by decide : (1 : Nat) ≠ 0)
      have hgo := hnext.2.2.1 ⟨hkind, by omega⟩
      rw [cb', if_pos (show bI false = 0 from rfl), letter_at hT (by omega)]
      simp only [ob1_some]
      have go : ∀ τ, TokC τ g n (s + 1) → FrT σ τ → τ.1 3 5 = nI (Tk g n s).2.2.2 → ∃ τ' N, F_Tokens_readTape_12 m τ (nI (i + 1)) = some τ' ∧ N ≤ n ∧ TokC τ' g n (N + 1) ∧ Tk g n N = (0, 0, n, n) ∧ FrT σ τ' := by
        intro τ a1 a2 a3
        rw [hk2] at a3
        obtain ⟨τ', N, e1, e2, e3, e4, e5⟩ := ih (i + 1) (tokB g n p).2.2.2 (s + 1) τ (hT.fr a2) a3 a1 (by
          show tokAt g n _ = tokAt g n (tokAt g n (posn g n s)).2.2.2
          have : (tokAt g n (posn g n s)) = tokB g n p := hk2
          rw [this]) (by omega) (by omega) hnext.2.1 (by omega) (by omega)
        exact ⟨τ', N, e1, e2, e3, e4, a2.tr e5⟩
      by_cases cl : tL (g p) = true
      · rw [cl, if_neg (show ¬ bI true = 0 by decide)]
        obtain ⟨τ, a0, a1, a2, a3⟩ := take_word hT hC (by omega) h5 (by omega) hk2 cl
        rw [a0]
        exact go τ a1 a2 a3
      · have cl' : tL (g p) = false := by simpa using cl
        rw [cl', if_pos (show bI false = 0 from rfl), digit_at hT (by omega)]
        simp only [ob1_some]
        by_cases cd : tD (g p) = true
        · rw [cd, if_neg (show ¬ bI true = 0 by decide)]
          obtain ⟨τ, a0, a1, a2, a3⟩ := take_num hT hC (by omega) h5 (by omega) hk2 cl cd
          rw [a0]
          exact go τ a1 a2 a3
        · have cd' : tD (g p) = false := by simpa using cd
          rw [cd', if_pos (show bI false = 0 from rfl)]
          obtain ⟨τ, a0, a1, a2, a3⟩ := take_sign hT hC (by omega) h5 (by omega) hk2 cl cd
          rw [a0]
          exact go τ a1 a2 a3
/-- all tokens stand: what an asker is told -/
def Toks (σ : St) (g : Nat → Nat) (n : Nat) : Prop := n ≤ 160 ∧ σ.1 0 1 = nI n ∧ ∃ N, N ≤ n ∧ Tk g n N = (0, 0, n, n) ∧ TokC σ g n (N + 1)
theorem tape_read {σ : St} (hT : TpC σ g n) : ∃ τ, F_Tokens_readTape σ = some τ ∧ Toks τ g n ∧ FrT σ τ := by
  unfold F_Tokens_readTape F_Tokens_readTape_0
  simp only [lt]
  have f0 : FrT σ (up1 (up1 σ 3 4 0) 3 5 0) := ⟨rfl, fun p c h1 _ _ _ => by rw [up1_off (by omega), up1_off (by omega)]⟩
  have hn := hT.1
  obtain ⟨τ, N, e1, e2, e3, e4, e5⟩ := tape_loop (g := g) (n := n) FU 0 0 0 (up1 (up1 σ 3 4 0) 3 5 0) (hT.fr f0) up1_on ⟨by rw [up1_off (by omega), up1_on]; rfl, fun j hj => absurd hj (Nat.not_lt_zero j)⟩ rfl (Nat.le_refl _) (Nat.le_refl _) (Nat.zero_le _) (by omega) (by rw [FU_eq]; omega)
  exact ⟨τ, e1, ⟨hn, ((hT.fr f0).fr e5).2.1, N, e2, e4, e3⟩, f0.tr e5⟩
theorem Toks.end_ {σ : St} (h : Toks σ g n) : ∃ N, N ≤ n ∧ n ≤ 160 ∧ ∀ j, N ≤ j → Tk g n j = (0, 0, n, n) := by
  obtain ⟨h1, h2, N, h3, h4, h5⟩ := h
  exact ⟨N, h3, h1, Tk_end h4⟩
theorem kind_at {σ : St} (h : Toks σ g n) {j : Nat} (hj : j < 2 ^ 31) : F_Tokens_kind σ (nI j) = some (nI (Tk g n j).1) := by
  obtain ⟨h1, h2, N, h3, h4, h5, h6⟩ := h
  unfold F_Tokens_kind F_Tokens_kind_0
  rw [if_neg (nI_pos hj), h5]
  by_cases c : N + 1 ≤ j
  · rw [if_pos (nI_le c hj), Tk_end h4 j (by omega)]
    rfl
  · rw [if_neg (nI_ge (by omega) (by omega)), if_pos (inB_nI (by omega) (by decide)), nI_clamp hj, (h6 j (by omega)).1]
theorem value_at {σ : St} (h : Toks σ g n) {j : Nat} (hj : j < 2 ^ 31) (hk : (Tk g n j).1 = 2 ∨ (Tk g n j).1 = 3) : F_Tokens_value σ (nI j) = some (nI (Tk g n j).2.1) := by
  obtain ⟨h1, h2, N, h3, h4, h5, h6⟩ := h
  unfold F_Tokens_value F_Tokens_value_0
  rw [if_neg (nI_pos hj), h5]
  by_cases c : N + 1 ≤ j
  · rw [Tk_end h4 j (by omega)] at hk
    simp at hk
  · rw [if_neg (nI_ge (by omega) (by omega)), if_pos (inB_nI (by omega) (by decide)), nI_clamp hj, (h6 j (by omega)).2.1 hk]
theorem place_at {σ : St} (h : Toks σ g n) {j : Nat} (hj : j < 2 ^ 31) : F_Tokens_place σ (nI j) = some (nI (Tk g n j).2.2.1) := by
  obtain ⟨h1, h2, N, h3, h4, h5, h6⟩ := h
  unfold F_Tokens_place F_Tokens_place_0 F_Tokens_place_21
  rw [if_neg (nI_pos hj), h5]
  by_cases c : N + 1 ≤ j
  · rw [if_pos (nI_le c hj), Tk_end h4 j (by omega), h2]
  · rw [if_neg (nI_ge (by omega) (by omega)), if_pos (inB_nI (by omega) (by decide)), nI_clamp hj, (h6 j (by omega)).2.2]
theorem Toks.fr {σ τ : St} (h : Toks σ g n) (f : ∀ p c, (p = 0 ∧ c = 1) ∨ (p = 3 ∧ c = 4) ∨ (4 ≤ p ∧ p ≤ 6) → τ.1 p c = σ.1 p c) : Toks τ g n := by
  obtain ⟨h1, h2, N, h3, h4, h5, h6⟩ := h
  exact ⟨h1, (f _ _ (by omega)).trans h2, N, h3, h4, (f _ _ (by omega)).trans h5, fun j hj => by rw [f _ _ (by omega), f _ _ (by omega), f _ _ (by omega)]; exact h6 j hj⟩
end TC
