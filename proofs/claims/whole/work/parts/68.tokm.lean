/-! ===== tokens: the reference's next ===== -/
def TpM (μ : St) (g : Nat → Nat) (n : Nat) : Prop := n ≤ 160 ∧ μ.1 0 7 = nI n ∧ ∀ i, i < n → g i < 256 ∧ μ.1 6 i = nI (g i)
def wordsN : List Nat := [102, 111, 114, 99, 101, 32, 32, 32, 115, 112, 101, 110, 100, 115, 32, 32, 104, 117, 114, 116, 115, 32, 32, 32, 116, 111, 108, 100, 32, 32, 32, 32, 109, 111, 114, 101, 32, 32, 32, 32, 104, 111, 108, 100, 32, 32, 32, 32, 104, 97, 114, 100, 32, 32, 32, 32, 97, 110, 103, 108, 101, 32, 32, 32, 116, 101, 110, 116, 104, 32, 32, 32, 111, 114, 32, 32, 32, 32, 32, 32, 97, 110, 100, 32, 32, 32, 32, 32, 110, 111, 116, 32, 32, 32, 32, 32]
theorem wordsN_ok : ∀ i, i < 96 → wordsF i = nI (wordsN.getD i 0) := by decide +kernel
def WORDSR : List (List Nat) := [[102, 111, 114, 99, 101], [115, 112, 101, 110, 100, 115], [104, 117, 114, 116, 115], [116, 111, 108, 100], [109, 111, 114, 101], [104, 111, 108, 100], [104, 97, 114, 100], [97, 110, 103, 108, 101], [116, 101, 110, 116, 104], [111, 114], [97, 110, 100], [110, 111, 116]]
def padW (w : List Nat) : List Nat := w ++ List.replicate (8 - w.length) 32
theorem pad_ok : ∀ k, k < 12 → ∀ q, q < 8 → wordsN.getD (8 * k + q) 0 = (padW (WORDSR.getD k [])).getD q 0 := by decide +kernel
theorem pad_len : ∀ w, w ∈ WORDSR → (padW w).length = 8 ∧ w.length ≤ 8 ∧ ∀ c ∈ w, c ≠ 32 := by decide +kernel
def permW (k : Nat) : Nat := [0, 1, 2, 9, 10, 11, 3, 4, 5, 6, 7, 8].getD k 12
theorem perm_ok : ∀ k, k < 12 → permW k < 12 ∧ WORDSR[permW k]? = WORDS[k]? := by decide +kernel
theorem wordsR_sub : ∀ w, w ∈ WORDSR → w ∈ WORDS := by decide +kernel
theorem wordsR_nodup : WORDSR.Nodup := by decide +kernel
def padIs (g : Nat → Nat) : Nat → Nat → List Nat → Bool
  | _, _, [] => true
  | q, e, x :: l => (x == if q < e then g q else 32) && padIs g (q + 1) e l
theorem pad_all (g : Nat → Nat) {e : Nat} : ∀ (m q : Nat), e ≤ q → padIs g q e (List.replicate m 32) = true := by
  intro m
  induction m with
  | zero => intro q _; rfl
  | succ m ih =>
    intro q h
    rw [List.replicate_succ, padIs, if_neg (by omega), ih (q + 1) (by omega)]
    rfl
theorem pad_seg {g : Nat → Nat} {e : Nat} : ∀ (w : List Nat) (q m : Nat), (∀ c ∈ w, c ≠ 32) → (∀ i, q ≤ i → i < e → g i ≠ 32) → q ≤ e → e - q ≤ w.length + m → padIs g q e (w ++ List.replicate m 32) = segIs g q e w := by
  intro w
  induction w with
  | nil =>
    intro q m _ hg hq hm
    rw [List.nil_append, segIs]
    by_cases c : q = e
    · subst c
      rw [pad_all g m q (Nat.le_refl _)]
      simp
    · obtain ⟨m', rfl⟩ : ∃ m', m = m' + 1 := ⟨m - 1, by simp at hm; omega⟩
      have := hg q (Nat.le_refl _) (by omega)
      rw [List.replicate_succ, padIs, if_pos (by omega)]
      have h1 : (32 == g q) = false := by simp; exact fun z => this z.symm
      have h2 : (q == e) = false := by simpa using c
      rw [h1, h2]
      rfl
  | cons x w ih =>
    intro q m hw hg hq hm
    have hx := hw x List.mem_cons_self
    rw [List.cons_append, padIs, segIs]
    by_cases c : q < e
    · rw [if_pos c, ih (q + 1) m (fun c hc => hw c (List.mem_cons_of_mem _ hc)) (fun i h1 h2 => hg i (by omega) h2) (by omega) (by simp only [List.length_cons] at hm; omega)]
      have h1 : decide (q < e) = true := by simpa using c
      rw [h1, Bool.true_and, Bool.beq_comm]
    · rw [if_neg c]
      have h1 : (x == 32) = false := by simpa using hx
      have h2 : decide (q < e) = false := by simpa using c
      rw [h1, h2]
      rfl
theorem seg_len {g : Nat → Nat} {e : Nat} : ∀ (w : List Nat) (q : Nat), segIs g q e w = true → e = q + w.length := by
  intro w
  induction w with
  | nil => intro q h; simp [segIs] at h; simp [h]
  | cons x w ih =>
    intro q h
    simp [segIs] at h
    have := ih (q + 1) h.2
    simp only [List.length_cons]
    omega
theorem seg_inj {g : Nat → Nat} {e : Nat} : ∀ (w w' : List Nat) (q : Nat), segIs g q e w = true → segIs g q e w' = true → w = w' := by
  intro w
  induction w with
  | nil =>
    intro w' q h1 h2
    have l1 := seg_len _ _ h1
    have l2 := seg_len _ _ h2
    have : w'.length = 0 := by simp at l1; omega
    exact (List.length_eq_zero_iff.mp this).symm
  | cons x w ih =>
    intro w' q h1 h2
    cases w' with
    | nil =>
      have l1 := seg_len _ _ h1
      have l2 := seg_len _ _ h2
      simp at l1 l2
      omega
    | cons y w' =>
      simp [segIs] at h1 h2
      rw [ih w' (q + 1) h1.2 h2.2, ← h1.1.2, ← h2.1.2]
theorem ix_seg {g : Nat → Nat} {b e : Nat} : ∀ (ws : List (List Nat)) (k0 r : Nat), wordIx g b e ws k0 = some r → ∃ w, ws[r - k0]? = some w ∧ segIs g b e w = true := by
  intro ws
  induction ws with
  | nil => intro k0 r h; cases h
  | cons w ws ih =>
    intro k0 r h
    have hl := wordIx_lt g b e _ _ _ h
    rw [wordIx] at h
    by_cases c : segIs g b e w = true
    · rw [if_pos c] at h
      cases h
      exact ⟨w, by simp, c⟩
    · rw [if_neg c] at h
      obtain ⟨w', h1, h2⟩ := ih _ _ h
      have := (wordIx_lt g b e _ _ _ h).1
      exact ⟨w', by rw [show r - k0 = (r - (k0 + 1)) + 1 by omega]; simpa using h1, h2⟩
theorem ix_some {g : Nat → Nat} {b e : Nat} : ∀ (ws : List (List Nat)) (k0 k : Nat) (w : List Nat), ws.Nodup → ws[k]? = some w → segIs g b e w = true → wordIx g b e ws k0 = some (k0 + k) := by
  intro ws
  induction ws with
  | nil => intro k0 k w _ h _; simp at h
  | cons w0 ws ih =>
    intro k0 k w hn h hs
    rw [wordIx]
    have hn2 := List.nodup_cons.mp hn
    cases k with
    | zero =>
      simp at h
      subst h
      rw [if_pos hs]
      rfl
    | succ k =>
      simp at h
      by_cases c : segIs g b e w0 = true
      · have := seg_inj _ _ _ c hs
        subst this
        exact absurd (List.mem_of_getElem? h) hn2.1
      · rw [if_neg c, ih (k0 + 1) k w hn2.2 h hs]
        congr 1
        omega
theorem ix_none {g : Nat → Nat} {b e : Nat} : ∀ (ws : List (List Nat)) (k0 : Nat), (∀ w ∈ ws, ¬ segIs g b e w = true) → wordIx g b e ws k0 = none := by
  intro ws
  induction ws with
  | nil => intro k0 _; rfl
  | cons w ws ih =>
    intro k0 h
    rw [wordIx, if_neg (h w List.mem_cons_self)]
    exact ih _ (fun w' hw' => h w' (List.mem_cons_of_mem _ hw'))
theorem ix_no {g : Nat → Nat} {b e : Nat} : ∀ (ws : List (List Nat)) (k0 : Nat), wordIx g b e ws k0 = none → ∀ w ∈ ws, ¬ segIs g b e w = true := by
  intro ws
  induction ws with
  | nil => intro k0 _ w h; simp at h
  | cons w0 ws ih =>
    intro k0 h w hw
    rw [wordIx] at h
    by_cases c : segIs g b e w0 = true
    · rw [if_pos c] at h; cases h
    · rw [if_neg c] at h
      rcases List.mem_cons.mp hw with rfl | hw
      · exact c
      · exact ih _ h w hw
theorem ix_perm (g : Nat → Nat) (b e : Nat) : (wordIx g b e WORDSR 0).getD 12 = (match wordIx g b e WORDS 0 with | none => 12 | some k => permW k) := by
  cases h : wordIx g b e WORDS 0 with
  | none =>
    rw [ix_none WORDSR 0 (fun w hw => ix_no WORDS 0 h w (wordsR_sub w hw))]
    rfl
  | some k =>
    obtain ⟨w, h1, h2⟩ := ix_seg WORDS 0 k h
    have hk : k < 12 := (wordIx_lt g b e WORDS 0 k h).2
    rw [Nat.sub_zero] at h1
    rw [ix_some WORDSR 0 (permW k) w wordsR_nodup ((perm_ok k hk).2.trans h1) h2]
    show 0 + permW k = permW k
    omega
section TM
variable {g : Nat → Nat} {n : Nat}
theorem bI_and (a b : Bool) : bI (a && b) = if bI a = 0 then 0 else bI b := by cases a <;> cases b <;> rfl
theorem pad_loop {μ : St} (hT : TpM μ g n) {b e k : Nat} (hbe : b ≤ e) (he : e ≤ n) (hk : k < 12) (k2 : Int32 → Int32 → Int32 → Option Int32) : ∀ (l : List Nat) (c : Nat) (al : Bool) (M : Nat), l.length + c = 8 → (∀ q, q < l.length → μ.1 15 (8 * k + c + q) = nI (l.getD q 0) ∧ l.getD q 0 < 256) → l.length < M → F_Model_wordFrom_26 μ k2 M (nI b) (nI e) (nI k) (bI al) (nI c) = F_Model_wordFrom_88 μ k2 (nI b) (nI e) (nI k) (bI (al && padIs g (b + c) e l)) := by
  intro l
  have hn := hT.1
  induction l with
  | nil =>
    intro c al M hl hw hM
    obtain ⟨M, rfl⟩ : ∃ M', M = M' + 1 := ⟨M - 1, by omega⟩
    simp at hl
    subst hl
    rw [F_Model_wordFrom_26, if_pos (by decide), padIs, Bool.and_true]
  | cons x l ih =>
    intro c al M hl hw hM
    obtain ⟨M, rfl⟩ : ∃ M', M = M' + 1 := ⟨M - 1, by omega⟩
    simp only [List.length_cons] at hl hw hM
    obtain ⟨w0, x256⟩ := hw 0 (by omega)
    simp only [Nat.add_zero, List.getD_cons_zero] at w0 x256
    rw [F_Model_wordFrom_26, if_neg (show ¬ (8 : Int32) ≤ nI c from nI_ge (a := c) (b := 8) (by omega) (by decide))]
    cases al with
    | false =>
      rw [if_pos (show bI false = 0 from rfl), Bool.false_and]
    | true =>
      rw [if_neg (show ¬ bI true = 0 by decide), Bool.true_and]
      have i1 : (8 : Int32) * nI k + nI c = nI (8 * k + c) := by rw [show (8 : Int32) = nI 8 from rfl, pk_mul, nI_add]
      rw [i1, if_pos (inB_nI (by omega) (by decide)), nI_clamp (by omega), w0, nI_add]
      unfold F_Model_wordFrom_72 F_Model_wordFrom_80
      rw [nI_1, padIs]
      have nx : ∀ al', F_Model_wordFrom_26 μ k2 M (nI b) (nI e) (nI k) (bI al') (nI (c + 1)) = F_Model_wordFrom_88 μ k2 (nI b) (nI e) (nI k) (bI (al' && padIs g (b + c + 1) e l)) := fun al' => ih (c + 1) al' M (by omega) (fun q hq => by
        have := hw (q + 1) (by omega)
        simp only [List.getD_cons_succ] at this
        rw [show 8 * k + (c + 1) + q = 8 * k + c + (q + 1) by omega]
        exact this) (by omega)
      by_cases ce : e ≤ b + c
      · rw [if_pos (nI_le ce (by omega)), if_neg (show ¬ b + c < e by omega)]
        by_cases cx : x = 32
        · rw [if_neg (not_not_intro (show nI x = 32 by rw [cx]; rfl)), cx]
          exact (nx true).trans (by simp)
        · rw [if_pos (show ¬ nI x = 32 from fun q => cx ((nI_eq (b := 32) (by omega) (by decide)).mp q)), show (x == 32) = false by simpa using cx]
          exact (nx false).trans (by simp)
      · obtain ⟨g256, gv⟩ := hT.2.2 (b + c) (by omega)
        rw [if_neg (nI_ge (by omega) (by omega)), if_pos (show b + c < e by omega), if_pos (inB_nI (by omega) (by decide)), nI_clamp (by omega), gv]
        by_cases cx : x = g (b + c)
        · rw [if_neg (not_not_intro (show nI x = nI (g (b + c)) by rw [← cx])), show (x == g (b + c)) = true by simpa using cx]
          exact (nx true).trans (by simp)
        · rw [if_pos (fun q => cx ((nI_eq (by omega) (by omega)).mp q)), show (x == g (b + c)) = false by simpa using cx]
          exact (nx false).trans (by simp)
theorem words_loopM {μ : St} (hT : TpM μ g n) (hW : ∀ i, i < 96 → μ.1 15 i = wordsF i) {b e : Nat} (hbe : b ≤ e) (he : e ≤ n) (hg : ∀ i, b ≤ i → i < e → g i ≠ 32) : ∀ (ws : List (List Nat)) (k M : Nat), (∀ i, i < ws.length → ws.getD i [] = WORDSR.getD (k + i) []) → k + ws.length = 12 → ws.length < M → F_Model_wordFrom_2 μ M (nI b) (nI e) (nI k) = some (nI ((wordIx g b e ws k).getD 12)) := by
  intro ws
  have hn := hT.1
  induction ws with
  | nil =>
    intro k M _ hk hM
    obtain ⟨M, rfl⟩ : ∃ M', M = M' + 1 := ⟨M - 1, by omega⟩
    simp at hk
    subst hk
    rw [F_Model_wordFrom_2, if_pos (by decide)]
    rfl
  | cons w ws ih =>
    intro k M hws hk hM
    obtain ⟨M, rfl⟩ : ∃ M', M = M' + 1 := ⟨M - 1, by omega⟩
    simp only [List.length_cons] at hws hk hM
    have w0 := hws 0 (by omega)
    simp only [Nat.add_zero, List.getD_cons_zero] at w0
    have hmem : w ∈ WORDSR := by
      rw [w0]
      have : ∀ k, k < 12 → WORDSR.getD k [] ∈ WORDSR := by decide +kernel
      exact this k (by omega)
    obtain ⟨l8, lw8, hw32⟩ := pad_len w hmem
    rw [F_Model_wordFrom_2, if_neg (show ¬ (12 : Int32) ≤ nI k from nI_ge (a := k) (b := 12) (by omega) (by decide)), pk_sub hbe]
    unfold F_Model_wordFrom_21
    have run : ∀ al : Bool, F_Model_wordFrom_26 μ (fun zv1 zv2 zv3 => F_Model_wordFrom_2 μ M zv1 zv2 zv3) FU (nI b) (nI e) (nI k) (bI al) 0 = F_Model_wordFrom_88 μ (fun zv1 zv2 zv3 => F_Model_wordFrom_2 μ M zv1 zv2 zv3) (nI b) (nI e) (nI k) (bI (al && padIs g b e (padW w))) := by
      intro al
      refine pad_loop hT hbe he (by omega) _ (padW w) 0 al FU (by omega) (fun q hq => ?_) (by rw [FU_eq]; omega)
      have hq8 : q < 8 := by omega
      rw [hW _ (by omega), wordsN_ok _ (by omega), Nat.add_zero, pad_ok k (by omega) q hq8, ← w0]
      refine ⟨rfl, ?_⟩
      have t : ∀ k, k < 12 → ∀ q, q < 8 → (padW (WORDSR.getD k [])).getD q 0 < 256 := by decide +kernel
      rw [w0]
      exact t k (by omega) q hq8
    have nx : F_Model_wordFrom_2 μ M (nI b) (nI e) (nI k + 1) = some (nI ((wordIx g b e ws (k + 1)).getD 12)) := by
      rw [nI_1]
      exact ih (k + 1) M (fun i hi => by
        have := hws (i + 1) (by omega)
        simp only [List.getD_cons_succ] at this
        rw [this, show k + 1 + i = k + (i + 1) by omega]) (by omega) (by omega)
    have fin : ∀ r : Bool, r = segIs g b e w → F_Model_wordFrom_88 μ (fun zv1 zv2 zv3 => F_Model_wordFrom_2 μ M zv1 zv2 zv3) (nI b) (nI e) (nI k) (bI r) = some (nI ((wordIx g b e (w :: ws) k).getD 12)) := by
      intro r hr
      unfold F_Model_wordFrom_88
      rw [wordIx, ← hr]
      cases r with
      | false => rw [if_pos (show bI false = 0 from rfl), if_neg (by decide)]; exact nx
      | true => rw [if_neg (show ¬ bI true = 0 by decide), if_pos rfl]; rfl
    by_cases c8 : 8 < e - b
    · rw [if_pos (show (8 : Int32) < nI (e - b) from nI_lt (a := 8) c8 (by omega)), show (0 : Int32) = bI false from rfl]
      refine (run false).trans (fin _ ?_)
      rw [Bool.false_and]
      cases hs : segIs g b e w with
      | false => rfl
      | true =>
        have := seg_len _ _ hs
        omega
    · rw [if_neg (show ¬ (8 : Int32) < nI (e - b) from nI_nlt (a := 8) (by omega) (by decide)), show (1 : Int32) = bI true from rfl]
      refine (run true).trans (fin _ ?_)
      rw [Bool.true_and]
      exact pad_seg w b (8 - w.length) hw32 hg hbe (by omega)
theorem wordFrom_at {μ : St} (hT : TpM μ g n) (hW : ∀ i, i < 96 → μ.1 15 i = wordsF i) {b e : Nat} (hbe : b ≤ e) (he : e ≤ n) (hg : ∀ i, b ≤ i → i < e → g i ≠ 32) : F_Model_wordFrom μ (nI b) (nI e) = some (nI (match wordIx g b e WORDS 0 with | none => 12 | some k => permW k)) := by
  rw [← ix_perm]
  unfold F_Model_wordFrom F_Model_wordFrom_0
  exact words_loopM hT hW hbe he hg WORDSR 0 FU (fun i _ => by rw [Nat.zero_add]) rfl (by rw [FU_eq]; decide)
end TM
