/-! ===== a bout: both sides, tenth by tenth ===== -/
abbrev BS : Type := Int32 × Int32 × Int32 × Int32
/-- one of two: its cell, its plan, how late -/
abbrev Sd : Type := (Nat → Int32) × Int32 × Int32
noncomputable def hardV (plan late t : Int32) : Int32 := if late ≤ t then F_Model_hardIn plan t else 0
noncomputable def holdV (L : Law) (f : Nat → Int32) (hold hard angle t : Int32) : Int32 := F_Main_bounded (hold + (if hard = 0 then 1 else -(spendV f (sayL L 1 (nmV f hold hard angle t)) hard))) 0 24
noncomputable def hurtV (L : Law) (f : Nat → Int32) (hold hard angle t hu : Int32) : Int32 := if hu < sayL L 2 (nmV f hold hard angle t) then sayL L 2 (nmV f hold hard angle t) else hu
noncomputable def angV (L : Law) (fa fb : Nat → Int32) (ha hb hA hB an t : Int32) : Int32 := F_Main_bounded (an + (forceV fa (sayL L 0 (nmV fa ha hA an t)) ha an - forceV fb (sayL L 0 (nmV fb hb hB (-an) t)) hb (-an)) / 10) (-30) 30
noncomputable def stepV (L : Law) (A B : Sd) (t : Int32) (b : BS) : BS := (angV L A.1 B.1 b.2.1 b.2.2.1 (hardV A.2.1 A.2.2 t) (hardV B.2.1 B.2.2 t) b.1 t, holdV L A.1 b.2.1 (hardV A.2.1 A.2.2 t) b.1 t, holdV L B.1 b.2.2.1 (hardV B.2.1 B.2.2 t) (-b.1) t, hurtV L A.1 b.2.1 (hardV A.2.1 A.2.2 t) b.1 t b.2.2.2)
noncomputable def playV (L : Law) (A B : Sd) : Nat → Nat → Nat → BS → BS × Nat
  | 0, t, _, b => (b, t)
  | n + 1, t, e, b => if e ≤ t then (b, t) else if F_Main_isWithin b.1 (-29) 29 = 0 then (b, t) else playV L A B n (t + 1) e (stepV L A B (nI t) b)
/-- the reference: what a bout of it needs to know -/
def CtxM (b : Nat → Nat → Int32) (i j lw : Nat) (L : Law) (A B : Sd) : Prop := i < 6 ∧ j < 6 ∧ lw < 6 ∧ b 0 11 = nI lw ∧ LawM b lw L ∧ (ArmOk A.1 ∧ ArmM b i A.1 ∧ b 5 i = A.2.1 ∧ A.1 3 + b 0 37 = A.2.2) ∧ (ArmOk B.1 ∧ ArmM b j B.1 ∧ b 5 j = B.2.1 ∧ B.1 3 + b 0 38 = B.2.2)
def VwM (b : Nat → Nat → Int32) (v : BS) (t : Nat) : Prop := b 0 32 = v.1 ∧ b 0 33 = v.2.1 ∧ b 0 34 = v.2.2.1 ∧ b 0 35 = v.2.2.2 ∧ b 0 36 = nI t
/-- but for the bout's own slots and the machine's -/
def OffM (μ τ : St) : Prop := ∀ p j, ¬ (p = 0 ∧ 32 ≤ j ∧ j ≤ 36) → p ≠ 17 → p ≠ 18 → τ.1 p j = μ.1 p j
theorem CtxM.go {μ τ : St} {i j lw : Nat} {L : Law} {A B : Sd} (h : CtxM μ.1 i j lw L A B) (o : OffM μ τ) : CtxM τ.1 i j lw L A B := by
  obtain ⟨h1, h2, h3, h4, ⟨g0, g1, g2, g3, g4, g5⟩, ⟨a1, ⟨a2, a3, a4⟩, a5, a6⟩, ⟨b1, ⟨b2, b3, b4⟩, b5, b6⟩⟩ := h
  exact ⟨h1, h2, h3, (o _ _ (by omega) (by omega) (by omega)).trans h4, ⟨g0, (o _ _ (by omega) (by omega) (by omega)).trans g1, (o _ _ (by omega) (by omega) (by omega)).trans g2, (o _ _ (by omega) (by omega) (by omega)).trans g3, (o _ _ (by omega) (by omega) (by omega)).trans g4, fun k hk => by rw [o _ _ (by omega) (by omega) (by omega)]; exact g5 k hk⟩, ⟨a1, ⟨(o _ _ (by omega) (by omega) (by omega)).trans a2, (o _ _ (by omega) (by omega) (by omega)).trans a3, (o _ _ (by omega) (by omega) (by omega)).trans a4⟩, (o _ _ (by omega) (by omega) (by omega)).trans a5, by rw [o _ _ (by omega) (by omega) (by omega)]; exact a6⟩, ⟨b1, ⟨(o _ _ (by omega) (by omega) (by omega)).trans b2, (o _ _ (by omega) (by omega) (by omega)).trans b3, (o _ _ (by omega) (by omega) (by omega)).trans b4⟩, (o _ _ (by omega) (by omega) (by omega)).trans b5, by rw [o _ _ (by omega) (by omega) (by omega)]; exact b6⟩⟩
theorem OffM.tr {a b c : St} (h : OffM a b) (g : OffM b c) : OffM a c := fun p j h1 h2 h3 => (g p j h1 h2 h3).trans (h p j h1 h2 h3)
theorem late_M {μ : St} {i : Nat} (hi : i < 6) {f : Nat → Int32} (hf : ArmOk f) (hm : ArmM μ.1 i f) : F_Model_lateOf μ (nI i) = some (f 3) := by
  obtain ⟨k, t, m, hk, ht, hm2, a0, a1, a2, a3, -⟩ := hf
  obtain ⟨b0, b1, b2⟩ := hm
  unfold F_Model_lateOf F_Model_lateOf_0
  simp only [inB_nI hi (show 6 < 2 ^ 31 by decide), if_true, nI_clamp (show i < 2 ^ 31 by omega)]
  unfold F_Model_lateOf_20
  simp only [inB_nI hi (show 6 < 2 ^ 31 by decide), if_true, nI_clamp (show i < 2 ^ 31 by omega)]
  rw [b0, b2, a0, a2, a3, ← lateE hk hm2]
  split
  · rfl
  · split <;> rfl
theorem tenths_M {μ : St} {i j lw : Nat} {L : Law} {A B : Sd} (h : CtxM μ.1 i j lw L A B) {v : BS} {t : Nat} (hv : VwM μ.1 v t) : ∃ τ, F_Model_tenths μ (nI i) (nI j) (nI t) = some τ ∧ OffM μ τ ∧ VwM τ.1 (stepV L A B (nI t) v) t := by
  obtain ⟨v1, v2, v3, v4, v5⟩ := hv
  have h0 := h
  obtain ⟨h1, h2, h3, h4, h5, ⟨a1, a2, a3, a4⟩, ⟨b1, b2, b3, b4⟩⟩ := h0
  have i6 := inB_nI h1 (show 6 < 2 ^ 31 by decide)
  have j6 := inB_nI h2 (show 6 < 2 ^ 31 by decide)
  have ci : (nI i).toNatClampNeg = i := nI_clamp (by omega)
  have cj : (nI j).toNatClampNeg = j := nI_clamp (by omega)
  have end_ : ∀ (σ : St) (x y z w : Int32), OffM μ σ → σ.1 0 32 = v.1 → σ.1 0 35 = v.2.2.2 → σ.1 0 36 = nI t → x = sayL L 2 (nmV A.1 v.2.1 (hardV A.2.1 A.2.2 (nI t)) v.1 (nI t)) → y = forceV A.1 (sayL L 0 (nmV A.1 v.2.1 (hardV A.2.1 A.2.2 (nI t)) v.1 (nI t))) v.2.1 v.1 - forceV B.1 (sayL L 0 (nmV B.1 v.2.2.1 (hardV B.2.1 B.2.2 (nI t)) (-v.1) (nI t))) v.2.2.1 (-v.1) → F_Main_bounded z 0 24 = holdV L A.1 v.2.1 (hardV A.2.1 A.2.2 (nI t)) v.1 (nI t) → F_Main_bounded w 0 24 = holdV L B.1 v.2.2.1 (hardV B.2.1 B.2.2 (nI t)) (-v.1) (nI t) → ∃ τ, F_Model_tenths_188 σ x y z w = some τ ∧ OffM μ τ ∧ VwM τ.1 (stepV L A B (nI t) v) t := by
    intro σ x y z w o s32 s35 s36 hx hy hz hw
    have core : ∀ u : Int32, u = hurtV L A.1 v.2.1 (hardV A.2.1 A.2.2 (nI t)) v.1 (nI t) v.2.2.2 → ∃ τ, F_Model_tenths_209 σ y z w u = some τ ∧ OffM μ τ ∧ VwM τ.1 (stepV L A B (nI t) v) t := by
      intro u hu
      unfold F_Model_tenths_209
      simp only [lt, within_eq]
      refine ⟨_, rfl, fun p k g1 g2 g3 => ?_, ?_, ?_, ?_, ?_, ?_⟩
      · iterate 4 rw [up1_off (by omega)]
        exact o p k g1 g2 g3
      · iterate 2 rw [up1_off (by omega)]
        rw [up1_on, up1_off (by omega), s32, hy]
        rfl
      · rw [up1_off (by omega), up1_on, hz]
        rfl
      · rw [up1_on, hw]
        rfl
      · iterate 3 rw [up1_off (by omega)]
        rw [up1_on, hu]
        rfl
      · iterate 4 rw [up1_off (by omega)]
        exact s36
    unfold F_Model_tenths_188
    rw [s35]
    by_cases c : x ≤ v.2.2.2
    · rw [if_pos c]
      refine core _ ?_
      unfold hurtV
      rw [← hx, if_neg (Int32.not_lt.mpr c)]
    · rw [if_neg c]
      refine core _ ?_
      unfold hurtV
      rw [← hx, if_pos (Int32.not_le.mp c)]
  have mid : ∀ hA hB : Int32, hA = hardV A.2.1 A.2.2 (nI t) → hB = hardV B.2.1 B.2.2 (nI t) → ∃ τ, F_Model_tenths_58 μ (nI i) (nI j) (nI t) hA hB = some τ ∧ OffM μ τ ∧ VwM τ.1 (stepV L A B (nI t) v) t := by
    intro hA hB eA eB
    unfold F_Model_tenths_58
    rw [v1, v2]
    obtain ⟨σ1, e1, -, o1⟩ := asks_M (part := 2) (x := 2) h3 (by decide) h1 rfl h4 h5 a2.2.1 a2.2.2 v.2.1 hA v.1 (nI t)
    rw [e1]
    simp only [ob2]
    have q1 : OffM μ σ1 := fun p k _ g2 g3 => o1 p k g2 g3
    have c1 := h.go q1
    rw [o1 0 33 (by omega) (by omega), o1 0 32 (by omega) (by omega), v1, v2]
    obtain ⟨σ2, e2, -, o2⟩ := force_M h3 h1 c1.2.2.2.1 c1.2.2.2.2.1 a1 c1.2.2.2.2.2.1.2.1 v.2.1 hA v.1 (nI t)
    rw [e2]
    simp only [ob2]
    have q2 : OffM μ σ2 := q1.tr (fun p k _ g2 g3 => o2 p k g2 g3)
    have c2 := h.go q2
    rw [o2 0 34 (by omega) (by omega), o2 0 32 (by omega) (by omega), o1 0 34 (by omega) (by omega), o1 0 32 (by omega) (by omega), v1, v3]
    obtain ⟨σ3, e3, -, o3⟩ := force_M h3 h2 c2.2.2.2.1 c2.2.2.2.2.1 b1 c2.2.2.2.2.2.2.2.1 v.2.2.1 hB (-v.1) (nI t)
    rw [e3]
    simp only [ob2]
    have q3 : OffM μ σ3 := q2.tr (fun p k _ g2 g3 => o3 p k g2 g3)
    have c3 := h.go q3
    have r33 : σ3.1 0 33 = v.2.1 := by rw [o3 _ _ (by omega) (by omega), o2 _ _ (by omega) (by omega), o1 _ _ (by omega) (by omega), v2]
    have r34 : σ3.1 0 34 = v.2.2.1 := by rw [o3 _ _ (by omega) (by omega), o2 _ _ (by omega) (by omega), o1 _ _ (by omega) (by omega), v3]
    have r32 : σ3.1 0 32 = v.1 := by rw [o3 _ _ (by omega) (by omega), o2 _ _ (by omega) (by omega), o1 _ _ (by omega) (by omega), v1]
    have r35 : σ3.1 0 35 = v.2.2.2 := by rw [o3 _ _ (by omega) (by omega), o2 _ _ (by omega) (by omega), o1 _ _ (by omega) (by omega), v4]
    have r36 : σ3.1 0 36 = nI t := by rw [o3 _ _ (by omega) (by omega), o2 _ _ (by omega) (by omega), o1 _ _ (by omega) (by omega), v5]
    have low : ∀ (σ : St) (z : Int32), OffM μ σ → σ.1 0 32 = v.1 → σ.1 0 34 = v.2.2.1 → σ.1 0 35 = v.2.2.2 → σ.1 0 36 = nI t → F_Main_bounded z 0 24 = holdV L A.1 v.2.1 (hardV A.2.1 A.2.2 (nI t)) v.1 (nI t) → ∃ τ, F_Model_tenths_150 σ (nI j) (nI t) hB (sayL L 2 (nmV A.1 v.2.1 hA v.1 (nI t))) (forceV A.1 (sayL L 0 (nmV A.1 v.2.1 hA v.1 (nI t))) v.2.1 v.1 - forceV B.1 (sayL L 0 (nmV B.1 v.2.2.1 hB (-v.1) (nI t))) v.2.2.1 (-v.1)) z = some τ ∧ OffM μ τ ∧ VwM τ.1 (stepV L A B (nI t) v) t := by
      intro σ z o s32 s34 s35 s36 hz
      unfold F_Model_tenths_150
      rw [s34, s32]
      by_cases c : hB = 0
      · rw [if_neg (not_not_intro c)]
        refine end_ _ _ _ _ _ o s32 s35 s36 (by rw [eA]) (by rw [eA, eB]) hz ?_
        unfold holdV
        rw [← eB, if_pos c]
      · rw [if_pos c]
        have cc := h.go o
        obtain ⟨σ5, e5, -, o5⟩ := spent_M h3 h2 cc.2.2.2.1 cc.2.2.2.2.1 b1 cc.2.2.2.2.2.2.2.1 v.2.2.1 hB (-v.1) (nI t)
        rw [e5]
        simp only [ob2]
        refine end_ _ _ _ _ _ (o.tr (fun p k _ g2 g3 => o5 p k g2 g3)) ((o5 _ _ (by omega) (by omega)).trans s32) ((o5 _ _ (by omega) (by omega)).trans s35) ((o5 _ _ (by omega) (by omega)).trans s36) (by rw [eA]) (by rw [eA, eB]) hz ?_
        unfold holdV
        rw [← eB, if_neg c, Int32.sub_eq_add_neg]
    rw [r33]
    by_cases c : hA = 0
    · rw [if_neg (not_not_intro c)]
      refine low _ _ q3 r32 r34 r35 r36 ?_
      unfold holdV
      rw [← eA, if_pos c]
    · rw [if_pos c, r32]
      obtain ⟨σ4, e4, -, o4⟩ := spent_M h3 h1 c3.2.2.2.1 c3.2.2.2.2.1 a1 c3.2.2.2.2.2.1.2.1 v.2.1 hA v.1 (nI t)
      rw [e4]
      simp only [ob2]
      refine low _ _ (q3.tr (fun p k _ g2 g3 => o4 p k g2 g3)) ((o4 _ _ (by omega) (by omega)).trans r32) ((o4 _ _ (by omega) (by omega)).trans r34) ((o4 _ _ (by omega) (by omega)).trans r35) ((o4 _ _ (by omega) (by omega)).trans r36) ?_
      unfold holdV
      rw [← eA, if_neg c, Int32.sub_eq_add_neg]
  have low1 : ∀ hA : Int32, hA = hardV A.2.1 A.2.2 (nI t) → ∃ τ, F_Model_tenths_28 μ (nI i) (nI j) (nI t) hA = some τ ∧ OffM μ τ ∧ VwM τ.1 (stepV L A B (nI t) v) t := by
    intro hA eA
    unfold F_Model_tenths_28
    rw [late_M h2 b1 b2]
    simp only [ob1, j6, cj, if_true]
    rw [b4, b3]
    by_cases c : B.2.2 ≤ nI t
    · rw [if_pos c]
      exact mid _ _ eA (by unfold hardV; rw [if_pos c])
    · rw [if_neg c]
      exact mid _ _ eA (by unfold hardV; rw [if_neg c])
  unfold F_Model_tenths F_Model_tenths_0
  rw [late_M h1 a1 a2]
  simp only [ob1, i6, ci, if_true]
  rw [a4, a3]
  by_cases c : A.2.2 ≤ nI t
  · rw [if_pos c]
    exact low1 _ (by unfold hardV; rw [if_pos c])
  · rw [if_neg c]
    exact low1 _ (by unfold hardV; rw [if_neg c])
/-- the reference's bout goes on -/
theorem goes_M {i j lw e : Nat} {L : Law} {A B : Sd} (he : e ≤ 40) : ∀ (n : Nat) (μ : St) (v : BS) (t : Nat), CtxM μ.1 i j lw L A B → VwM μ.1 v t → t ≤ 40 → 40 - t < n → ∃ τ, F_Model_goesOn_0 n μ (nI i) (nI j) (nI e) = some τ ∧ OffM μ τ ∧ VwM τ.1 (playV L A B n t e v).1 (playV L A B n t e v).2 ∧ (playV L A B n t e v).2 ≤ 40 := by
  intro n
  induction n with
  | zero => intro μ v t _ _ _ h; omega
  | succ n ih =>
    intro μ v t hc hv ht hn
    rw [F_Model_goesOn_0, playV, hv.2.2.2.2, hv.1]
    by_cases c : e ≤ t
    · rw [if_pos (nI_le c (by omega)), if_pos c]
      exact ⟨μ, rfl, fun _ _ _ _ _ => rfl, hv, ht⟩
    · rw [if_neg (nI_ge (Nat.not_le.mp c) (by omega)), if_neg c, in_eq]
      by_cases c2 : F_Main_isWithin v.1 (-29) 29 = 0
      · rw [if_pos c2, if_pos c2]
        exact ⟨μ, rfl, fun _ _ _ _ _ => rfl, hv, ht⟩
      · rw [if_neg c2, if_neg c2]
        obtain ⟨τ, e1, o1, w1⟩ := tenths_M hc hv
        rw [e1]
        simp only [ob1, lt]
        have o2 : OffM τ (up1 τ 0 36 (τ.1 0 36 + 1)) := fun p k g1 _ _ => up1_off (by omega)
        obtain ⟨w0, w2, w3, w4, w5⟩ := w1
        obtain ⟨υ, e3, o3, w6, w7⟩ := ih (up1 τ 0 36 (τ.1 0 36 + 1)) (stepV L A B (nI t) v) (t + 1) (hc.go (o1.tr o2)) ⟨(up1_off (by omega)).trans w0, (up1_off (by omega)).trans w2, (up1_off (by omega)).trans w3, (up1_off (by omega)).trans w4, by rw [up1_on, w5, nI_1]⟩ (by omega) (by omega)
        rw [e3]
        exact ⟨υ, rfl, (o1.tr o2).tr o3, w6, w7⟩
