/-! ===== beats, rings ===== -/
noncomputable def wonV (σ : St) (lw i j : Nat) : Int32 := if (endV σ lw i j 0 0 (0, σ.1 (27 + i) 4, σ.1 (27 + j) 4, 0)).1 ≤ 0 then 0 else 1
noncomputable def beatV (σ : St) (lw i : Nat) : Nat → Nat → Int32 → Int32
  | 0, _, acc => acc
  | n + 1, k, acc => if k = i then beatV σ lw i n (k + 1) acc else beatV σ lw i n (k + 1) (if wonV σ lw i k = 0 then acc else acc ||| jshl 1 (nI k))
theorem wonV_same {σ τ : St} (h : SameC σ τ) {lw i j : Nat} (hl : lw < 6) (hi : i < 6) (hj : j < 6) : wonV τ lw i j = wonV σ lw i j := by
  unfold wonV
  rw [endV_same h hl hi hj, h (27 + i) 4 (by unfold ScC; omega), h (27 + j) 4 (by unfold ScC; omega)]
theorem beaten_loop {σ μ : St} {na nt lw i : Nat} (h : Rel σ μ na nt) (hlw : σ.1 20 4 = nI lw) (hl : lw < nt) (hi : i < na) : ∀ (n k : Nat) (acc : Int32) (σ1 μ1 : St), SameC σ σ1 → SameM μ μ1 → k ≤ na → na - k < n → ∃ σ' μ', F_Main_beaten_4 n σ1 (nI i) acc (nI k) = some (beatV σ lw i (na - k) k acc, σ') ∧ F_Model_beatenBy_4 n μ1 (nI i) acc (nI k) = some (beatV σ lw i (na - k) k acc, μ') ∧ SameC σ σ' ∧ OffM μ1 μ' := by
  intro n
  induction n with
  | zero => intro k acc σ1 μ1 _ _ _ h; omega
  | succ n ih =>
    intro k acc σ1 μ1 sc sm hk hn
    have hr : Rel σ1 μ1 na nt := h.scr sc sm
    have hA := hr.1
    have hn6 := hA.1
    have ht6 := h.2.2.2.1.1
    rw [F_Main_beaten_4, F_Model_beatenBy_4, hA.2.1, hA.2.2.1]
    by_cases c : na ≤ k
    · rw [if_pos (nI_le c (by omega)), if_pos (nI_le c (by omega)), show na - k = 0 by omega]
      exact ⟨σ1, μ1, rfl, rfl, sc, OffM.rf⟩
    · rw [if_neg (nI_ge (Nat.not_le.mp c) (by omega)), if_neg (nI_ge (Nat.not_le.mp c) (by omega))]
      obtain ⟨d, hd⟩ : ∃ d, na - k = d + 1 := ⟨na - k - 1, by omega⟩
      have hd2 : na - (k + 1) = d := by omega
      rw [hd, beatV]
      unfold F_Main_beaten_41 F_Model_beatenBy_33 F_Model_beatenBy_34
      have z : ∀ x : Int32, x ||| 0 = x := fun _ => Int32.or_zero
      rw [z]
      by_cases ci : k = i
      · subst ci
        rw [if_pos rfl, if_pos rfl, if_pos rfl, nI_1, ← hd2]
        exact ih (k + 1) acc σ1 μ1 sc sm (by omega) (by omega)
      · have cn : ¬ nI k = nI i := fun q => ci ((nI_eq (by omega) (by omega)).mp q)
        rw [if_neg cn, if_neg cn, if_neg ci, if_pos (inB_nI (by omega) (by decide)), nI_clamp (by omega)]
        obtain ⟨σ2, μ2, e1, e2, s1, s2⟩ := wins3 hr (by rw [sc 20 4 (by unfold ScC; omega)]; exact hlw) hl hi (j := k) (by omega)
        rw [e1, e2]
        simp only [ob2_some]
        have ew : (if (endV σ1 lw i k 0 0 (0, σ1.1 (27 + i) 4, σ1.1 (27 + k) 4, 0)).1 ≤ 0 then (0 : Int32) else 1) = wonV σ lw i k := wonV_same sc (by omega) (by omega) (by omega)
        rw [ew]
        by_cases cw : wonV σ lw i k = 0
        · rw [if_pos cw, if_pos cw, if_pos cw, nI_1, ← hd2]
          obtain ⟨σ3, μ3, f1, f2, f3, f4⟩ := ih (k + 1) acc σ2 μ2 (sc.tr s1) (sm.tr s2.same) (by omega) (by omega)
          exact ⟨σ3, μ3, f1, f2, f3, s2.tr f4⟩
        · rw [if_neg cw, if_neg cw, if_neg cw, nI_1, ← hd2]
          obtain ⟨σ3, μ3, f1, f2, f3, f4⟩ := ih (k + 1) (acc ||| jshl 1 (nI k)) σ2 μ2 (sc.tr s1) (sm.tr s2.same) (by omega) (by omega)
          exact ⟨σ3, μ3, f1, f2, f3, s2.tr f4⟩
/-- whom one beats -/
noncomputable def btV (σ : St) (lw na i : Nat) : Int32 := beatV σ lw i (na - 0) 0 0
theorem beaten_at {σ μ : St} {na nt lw i : Nat} (h : Rel σ μ na nt) (hlw : σ.1 20 4 = nI lw) (hl : lw < nt) (hi : i < na) {σ1 μ1 : St} (sc : SameC σ σ1) (sm : SameM μ μ1) : ∃ σ' μ', F_Main_beaten σ1 (nI i) = some (btV σ lw na i, σ') ∧ F_Model_beatenBy μ1 (nI i) = some (btV σ lw na i, μ') ∧ SameC σ σ' ∧ OffM μ1 μ' := by
  have := h.1.1
  exact beaten_loop h hlw hl hi FU 0 0 σ1 μ1 sc sm (Nat.zero_le _) (by rw [FU_eq]; omega)
theorem op_beats {σ μ : St} {na nt : Nat} (h : Rel σ μ na nt) (v : Int32) : ∃ r σ' μ', F_Main_beats σ v = some (r, σ') ∧ F_Model_beats μ v = some (r, μ') ∧ Rel σ' μ' na nt := by
  unfold F_Main_beats F_Model_beats F_Main_beats_0 F_Model_beats_0
  rcases armC h v with ⟨k, hk, rfl, e1, e2⟩ | ⟨e1, e2, -⟩
  · obtain ⟨-, -, -, ⟨lw, l0, l1, l2⟩, -⟩ := h.2.2.2.1
    rw [e1, e2]
    simp only [ob1_some]
    rw [if_pos one_ne, if_neg one_ne]
    obtain ⟨σ', μ', f1, f2, sc, sm⟩ := beaten_at h l1 l0 hk SameC.rf SameM.rf
    rw [f1, f2]
    exact ⟨_, _, _, rfl, rfl, h.scr sc sm.same⟩
  · rw [e1, e2]
    exact ⟨_, _, _, rfl, rfl, h⟩
theorem bit1 (x : Int32) : x &&& 1 = 1 ↔ x.toBitVec.getLsbD 0 = true := by
  rw [pk_and x (m := 1) 1 (by decide)]
  have e : x.toBitVec.getLsbD 0 = decide (x.toBitVec.toNat % 2 = 1) := by
    simp [BitVec.getLsbD, Nat.testBit_zero]
  rw [e, show (1 : Int32) = nI 1 from rfl, decide_eq_true_iff]
  constructor
  · intro q
    exact (nI_eq (by have := Nat.mod_lt x.toBitVec.toNat (show 0 < 2 ^ 1 by decide); omega) (by decide)).mp q
  · intro q
    exact congrArg nI q
theorem has_iff (x y : Int32) : ¬ F_Main_has x y = 0 ↔ (jshr x y).toBitVec.getLsbD 0 = true := by
  rw [← bit1]
  unfold F_Main_has F_Main_has_0
  by_cases c : jshr x y &&& 1 = 1
  · rw [if_neg (not_not_intro c)]
    exact ⟨fun _ => c, fun _ => one_ne⟩
  · rw [if_pos c]
    exact ⟨fun q => absurd rfl q, fun q => absurd q c⟩
theorem and3 (p q r : Int32) : ((p &&& q) &&& r) &&& 1 = 1 ↔ (p.toBitVec.getLsbD 0 = true ∧ q.toBitVec.getLsbD 0 = true ∧ r.toBitVec.getLsbD 0 = true) := by
  rw [bit1, Int32.toBitVec_and, Int32.toBitVec_and, BitVec.getLsbD_and, BitVec.getLsbD_and, Bool.and_eq_true, Bool.and_eq_true, and_assoc]
section RG
variable {σ μ : St} {na nt lw : Nat}
def BothG (σ μ : St) (x y : Option (Int32 × St)) : Prop := ∃ r σ' μ', x = some (r, σ') ∧ y = some (r, μ') ∧ SameC σ σ' ∧ SameM μ μ'
theorem ring_c (h : Rel σ μ na nt) (hlw : σ.1 20 4 = nI lw) (hl : lw < nt) {μ1 : St} (sm : SameM μ μ1) (hb : ∀ a, a < na → μ1.1 19 a = btV σ lw na a) (what : Int32) {i j : Nat} (hi : i < na) (hj : j < na) {byI byJ : Int32} (hJ : ∀ k, k < na → (¬ F_Main_has byJ (nI k) = 0 ↔ (¬ F_Main_has (btV σ lw na i) (nI j) = 0 ∧ ¬ F_Main_has (btV σ lw na j) (nI k) = 0)))
    (k13 : St → Int32 → Int32 → Int32 → Int32 → Option (Int32 × St)) (k25 : St → Int32 → Int32 → Int32 → Int32 → Int32 → Int32 → Option (Int32 × St)) (k28 : St → Int32 → Int32 → Int32 → Int32 → Option (Int32 × St)) (k36 : St → Int32 → Int32 → Int32 → Int32 → Int32 → Option (Int32 × St))
    (hk : ∀ (m f : Int32) (σ1 : St), SameC σ σ1 → BothG σ μ (k25 σ1 what m f (nI i) byI (nI j + 1)) (k36 μ1 what m f (nI i) (nI j + 1))) : ∀ (n k : Nat) (m f : Int32) (σ1 : St), SameC σ σ1 → k ≤ na → na - k < n → BothG σ μ (F_Main_rings_79 k13 k25 n σ1 what m f (nI i) byI (nI j) byJ (nI k)) (F_Model_rings_76 k28 k36 n μ1 what m f (nI i) (nI j) (nI k)) := by
  intro n
  induction n with
  | zero => intro k m f σ1 _ _ h; omega
  | succ n ih =>
    intro k m f σ1 sc hkn hn
    have hn6 := h.1.1
    have r1 : Rel σ1 μ1 na nt := h.scr sc sm
    rw [F_Main_rings_79, F_Model_rings_76, r1.1.2.1, r1.1.2.2.1]
    by_cases c : na ≤ k
    · rw [if_pos (nI_le c (by omega)), if_pos (nI_le c (by omega))]
      exact hk m f σ1 sc
    · rw [if_neg (nI_ge (Nat.not_le.mp c) (by omega)), if_neg (nI_ge (Nat.not_le.mp c) (by omega)), if_pos (inB_nI (by omega) (by decide)), if_pos (inB_nI (by omega) (by decide)), if_pos (inB_nI (by omega) (by decide)), nI_clamp (by omega), nI_clamp (by omega), nI_clamp (by omega), hb i hi, hb j hj, hb k (by omega)]
      have hJ' := hJ k (by omega)
      have a3 := and3 (jshr (btV σ lw na i) (nI j)) (jshr (btV σ lw na j) (nI k)) (jshr (btV σ lw na k) (nI i))
      rw [← has_iff, ← has_iff, ← has_iff] at a3
      unfold F_Main_rings_143 F_Main_rings_140 F_Main_rings_143 F_Model_rings_148 F_Model_rings_152
      rw [nI_1]
      by_cases cj : F_Main_has byJ (nI k) = 0
      · rw [if_pos cj, if_pos (fun q => by
          have := a3.mp q
          exact hJ'.mpr ⟨this.1, this.2.1⟩ cj)]
        exact ih (k + 1) m f σ1 sc (by omega) (by omega)
      · rw [if_neg cj]
        obtain ⟨σ2, -, e1, -, s1, -⟩ := beaten_at h hlw hl (i := k) (by omega) sc sm
        rw [e1]
        simp only [ob2_some]
        by_cases ck : F_Main_has (btV σ lw na k) (nI i) = 0
        · rw [if_neg (not_not_intro ck), if_pos (fun q => (a3.mp q).2.2 ck)]
          exact ih (k + 1) m f σ2 s1 (by omega) (by omega)
        · rw [if_pos ck, if_neg (not_not_intro (a3.mpr ⟨(hJ'.mp cj).1, (hJ'.mp cj).2, ck⟩))]
          by_cases cm : m = 0
          · rw [if_neg (not_not_intro cm), if_neg (not_not_intro cm)]
            simp only [lt]
            have ef : (100 : Int32) * (nI i + 1) + 10 * (nI j + 1) + nI k + 1 = 100 * nI i + 10 * nI j + nI k + 111 := by
              rw [show (100 : Int32) = nI 100 from rfl, show (10 : Int32) = nI 10 from rfl, show (111 : Int32) = nI 111 from rfl, nI_1, nI_1, pk_mul, pk_mul, pk_mul, pk_mul, nI_add, nI_add, nI_add, nI_add, nI_1, nI_add]
              congr 1
              omega
            rw [ef]
            exact ih (k + 1) _ _ σ2 s1 (by omega) (by omega)
          · rw [if_pos cm, if_pos cm]
            exact ih (k + 1) _ _ σ2 s1 (by omega) (by omega)
theorem ring_b (h : Rel σ μ na nt) (hlw : σ.1 20 4 = nI lw) (hl : lw < nt) {μ1 : St} (sm : SameM μ μ1) (hb : ∀ a, a < na → μ1.1 19 a = btV σ lw na a) (what : Int32) {i : Nat} (hi : i < na)
    (k13 : St → Int32 → Int32 → Int32 → Int32 → Option (Int32 × St)) (k28 : St → Int32 → Int32 → Int32 → Int32 → Option (Int32 × St))
    (hk : ∀ (m f : Int32) (σ1 : St), SameC σ σ1 → BothG σ μ (k13 σ1 what m f (nI i + 1)) (k28 μ1 what m f (nI i + 1))) : ∀ (n j : Nat) (m f : Int32) (σ1 : St), SameC σ σ1 → j ≤ na → na - j < n → BothG σ μ (F_Main_rings_42 k13 n σ1 what m f (nI i) (btV σ lw na i) (nI j)) (F_Model_rings_61 k28 n μ1 what m f (nI i) (nI j)) := by
  intro n
  induction n with
  | zero => intro j m f σ1 _ _ h; omega
  | succ n ih =>
    intro j m f σ1 sc hjn hn
    have hn6 := h.1.1
    have r1 : Rel σ1 μ1 na nt := h.scr sc sm
    rw [F_Main_rings_42, F_Model_rings_61, r1.1.2.1, r1.1.2.2.1]
    by_cases c : na ≤ j
    · rw [if_pos (nI_le c (by omega)), if_pos (nI_le c (by omega))]
      exact hk m f σ1 sc
    · rw [if_neg (nI_ge (Nat.not_le.mp c) (by omega)), if_neg (nI_ge (Nat.not_le.mp c) (by omega))]
      have nx : ∀ (m f : Int32) (σ2 : St), SameC σ σ2 → BothG σ μ (F_Main_rings_42 k13 n σ2 what m f (nI i) (btV σ lw na i) (nI j + 1)) (F_Model_rings_61 k28 n μ1 what m f (nI i) (nI j + 1)) := by
        intro m f σ2 s2
        rw [nI_1]
        exact ih (j + 1) m f σ2 s2 (by omega) (by omega)
      unfold F_Main_rings_71
      rw [nI_1]
      by_cases cj : F_Main_has (btV σ lw na i) (nI j) = 0
      · rw [if_pos cj]
        refine ring_c h hlw hl sm hb what hi (j := j) (by omega) (byJ := 0) (fun k hk' => ?_) _ _ _ _ nx FU (i + 1) m f σ1 sc (by omega) (by rw [FU_eq]; omega)
        constructor
        · intro q
          exfalso
          apply q
          have : ∀ k, k < 6 → F_Main_has 0 (nI k) = 0 := by decide +kernel
          exact this k (by omega)
        · intro q
          exact absurd cj q.1
      · rw [if_neg cj]
        obtain ⟨σ2, -, e1, -, s1, -⟩ := beaten_at h hlw hl (i := j) (by omega) sc sm
        rw [e1]
        simp only [ob2_some]
        exact ring_c h hlw hl sm hb what hi (j := j) (by omega) (byJ := btV σ lw na j) (fun k hk' => ⟨fun q => ⟨cj, q⟩, fun q => q.2⟩) _ _ _ _ nx FU (i + 1) m f σ2 s1 (by omega) (by rw [FU_eq]; omega)
theorem ring_a (h : Rel σ μ na nt) (hlw : σ.1 20 4 = nI lw) (hl : lw < nt) {μ1 : St} (sm : SameM μ μ1) (hb : ∀ a, a < na → μ1.1 19 a = btV σ lw na a) (what : Int32) : ∀ (n i : Nat) (m f : Int32) (σ1 : St), SameC σ σ1 → i ≤ na → na - i < n → BothG σ μ (F_Main_rings_19 n σ1 what m f (nI i)) (F_Model_rings_46 n μ1 what m f (nI i)) := by
  intro n
  induction n with
  | zero => intro i m f σ1 _ _ h; omega
  | succ n ih =>
    intro i m f σ1 sc hin hn
    have hn6 := h.1.1
    have r1 : Rel σ1 μ1 na nt := h.scr sc sm
    rw [F_Main_rings_19, F_Model_rings_46, r1.1.2.1, r1.1.2.2.1]
    by_cases c : na ≤ i
    · rw [if_pos (nI_le c (by omega)), if_pos (nI_le c (by omega))]
      by_cases w : what = 0
      · rw [if_neg (not_not_intro w), if_neg (not_not_intro w)]
        exact ⟨_, _, _, rfl, rfl, sc, sm⟩
      · rw [if_pos w, if_pos w]
        exact ⟨_, _, _, rfl, rfl, sc, sm⟩
    · rw [if_neg (nI_ge (Nat.not_le.mp c) (by omega)), if_neg (nI_ge (Nat.not_le.mp c) (by omega))]
      obtain ⟨σ2, -, e1, -, s1, -⟩ := beaten_at h hlw hl (i := i) (by omega) sc sm
      rw [e1]
      simp only [ob2_some]
      rw [nI_1]
      refine ring_b h hlw hl sm hb what (i := i) (by omega) _ _ (fun m f σ3 s3 => ?_) FU (i + 1) m f σ2 s1 (by omega) (by rw [FU_eq]; omega)
      rw [nI_1]
      exact ih (i + 1) m f σ3 s3 (by omega) (by omega)
theorem ring_0 (h : Rel σ μ na nt) (hlw : σ.1 20 4 = nI lw) (hl : lw < nt) (what : Int32) : ∀ (n a : Nat) (μ1 : St), SameM μ μ1 → (∀ b, b < a → μ1.1 19 b = btV σ lw na b) → a ≤ na → na - a < n → BothG σ μ (F_Main_rings_19 FU σ what 0 (-1) (nI 0)) (F_Model_rings_14 n μ1 what (nI a)) := by
  intro n
  induction n with
  | zero => intro a μ1 _ _ _ h; omega
  | succ n ih =>
    intro a μ1 sm hb ha hn
    have hn6 := h.1.1
    have r1 : Rel σ μ1 na nt := h.scr SameC.rf sm
    rw [F_Model_rings_14, r1.1.2.2.1]
    by_cases c : na ≤ a
    · rw [if_pos (nI_le c (by omega))]
      exact ring_a h hlw hl sm (fun b hb' => hb b (by omega)) what FU 0 0 (-1) σ SameC.rf (Nat.zero_le _) (by rw [FU_eq]; omega)
    · rw [if_neg (nI_ge (Nat.not_le.mp c) (by omega))]
      obtain ⟨-, μ2, -, e2, -, o2⟩ := beaten_at h hlw hl (i := a) (by omega) SameC.rf sm
      rw [e2]
      simp only [ob2_some]
      rw [if_pos (inB_nI (by omega) (by decide)), nI_clamp (by omega)]
      simp only [lt]
      rw [nI_1]
      refine ih (a + 1) (up1 μ2 19 a (btV σ lw na a)) ((sm.tr o2.same).tr (fun p k hp => up1_off (by unfold ScM at hp; omega))) (fun b hb' => ?_) (by omega) (by omega)
      by_cases cb : b = a
      · subst cb; exact up1_on
      · rw [up1_off (by omega), o2 19 b (by omega) (by omega) (by omega)]
        exact hb b (by omega)
theorem op_rings (h : Rel σ μ na nt) (what : Int32) : ∃ r σ' μ', F_Main_rings σ what = some (r, σ') ∧ F_Model_rings μ what = some (r, μ') ∧ Rel σ' μ' na nt := by
  unfold F_Main_rings F_Model_rings F_Main_rings_0 F_Model_rings_0
  simp only [in_eq]
  by_cases c : F_Main_isWithin what 0 1 = 0
  · rw [if_neg (not_not_intro c), if_neg (not_not_intro c)]
    exact ⟨_, _, _, rfl, rfl, h⟩
  · rw [if_pos c, if_pos c]
    obtain ⟨-, -, -, ⟨lw, l0, l1, l2⟩, -⟩ := h.2.2.2.1
    have hn6 := h.1.1
    obtain ⟨r, σ', μ', e1, e2, sc, sm⟩ := ring_0 h l1 l0 what FU 0 μ SameM.rf (fun b hb => absurd hb (Nat.not_lt_zero b)) (Nat.zero_le _) (by rw [FU_eq]; omega)
    exact ⟨r, σ', μ', e1, e2, h.scr sc sm⟩
end RG
