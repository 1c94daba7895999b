/-! ===== the class's levels ===== -/
section LV
variable {g : Nat → Nat} {n N q : Nat}
theorem flt_loop {τ : St} {p : Nat} (h : Flt q τ p) {l : Nat} (hl : l < 5) {rL : St → Int32 → Int32 → Option St} {rN rO : St → Int32 → Option St} {M : Nat} (hM : 0 < M) (x y z : Int32) : F_Reader_readLevel_59 rL rN rO M τ (nI l) x y z = some τ := by
  obtain ⟨M, rfl⟩ : ∃ M', M = M' + 1 := ⟨M - 1, by omega⟩
  rw [F_Reader_readLevel_59, sign_flt h hl]
  simp only [ob1_some, if_true]
  split <;> rfl
theorem cnd_mono (l : Nat) : cnd l ≤ cnd (l + 1) := by
  unfold cnd
  (repeat' split) <;> omega
theorem rk_mono (l : Nat) : rk l ≤ rk (l + 1) := by
  unfold rk
  (repeat' split) <;> omega
theorem topOk.mono {c c' : Nat} {S : List Nat} (h : topOk c S) (hc : c ≤ c') : topOk c' S := by
  cases S with
  | nil => trivial
  | cons x S => exact Nat.lt_of_lt_of_le (show rankN x < c from h) hc
theorem top4_no {S : List Nat} (h : topOk 4 S) : top4 S = false := by
  cases S with
  | nil => rfl
  | cons x S =>
    have : rankN x < 4 := h
    show (rankN x == 4) = false
    simp
    omega
theorem bin_step (hN : N ≤ 160) (hend : ∀ i, N ≤ i → (Tk g n i).1 = 0) {rL : St → Int32 → Int32 → Option St} {l op : Nat} (hl : l ≤ 4) (hL : LvP g n N q rL (l + 1) op) {τ : St} {j1 : Nat} {o1 S H o2 : List Nat} {mn1 : Bool} (hC : CS g n q τ j1 o1) (hj : j1 ≤ N) (ho : o1.length ≤ j1) (hS : opN S = op) (hT : topOk (cnd l) S) (hs : sgLv l (Tk g n j1).1 = true) (hu : unw (if l = 2 then 5 else rk l) H o2 = unw (if l = 2 then 5 else rk l) S o1) : ∃ τ', (∀ K : St → Option St, (ob1 (F_Tokens_kind τ (τ.1 2 2)) (fun r_8 => (lt (up1 τ 2 2 ((τ.1 2 2) + (1 : Int32))) (fun s_9 => (ob1 (rL s_9 (nI l + (1 : Int32)) (nI op)) (fun s_10 => (if P_Text (s_10.2 2 1) then (ob1 (F_Text_add s_10 (s_10.2 2 1) (F_Reader_stepOf r_8)) (fun s_12 => K s_12)) else none))))))) = K τ') ∧ FrR q τ τ' ∧ ((∃ j2 o3 mn3 H3 o4 ns2, CS g n q τ' j2 (o3 ++ [sgn (Tk g n j1).1]) ∧ j1 < j2 ∧ j2 ≤ N ∧ o3.length + 1 + j1 ≤ o1.length + j2 ∧ o3 = o1 ++ ns2 ∧ Net ns2 ∧ (∀ c ∈ ns2, cOk c) ∧ RunTo (TT g n) j1 false mn1 H o2 j2 false mn3 H3 o4 ∧ (∀ r, r ≤ rk (l + 1) → unw r H3 o4 = unw r (sgn (Tk g n j1).1 :: S) o3) ∧ nsg (l + 1) (Tk g n j2).1 H3 o4) ∨ ∃ j2, Flt q τ' (Tk g n j2).2.2.1 ∧ RunFail (TT g n) j1 false mn1 H o2 j2) := by
  have kT : (TT g n j1).1 = (Tk g n j1).1 := rfl
  have hk := tk_kl g n j1
  obtain ⟨s1, s2, s3, s4, s5⟩ := sgLv_t1 _ hk l (by omega) hs
  obtain ⟨s6, s7, s8, s9, s10⟩ := sgLv_t2 _ hk l (by omega) hs
  obtain ⟨s11, s12, s13⟩ := sgLv_t3 _ hk l (by omega) hs
  have jN : j1 < N := by
    rcases Nat.lt_or_ge j1 N with z | z
    · exact z
    · exact absurd (hend j1 z) s13
  have hcr : cnd l ≤ (if l = 2 then 5 else rk l) := by
    have : ∀ l, l ≤ 4 → cnd l ≤ (if l = 2 then 5 else rk l) := by decide +kernel
    exact this l hl
  have hu2 : unw (if l = 2 then 5 else rk l) H o2 = (S, o1) := hu.trans (unw_top hT hcr)
  have erank : (if rankN (sgn (Tk g n j1).1) = 4 then 5 else rankN (sgn (Tk g n j1).1)) = (if l = 2 then 5 else rk l) := by
    rw [s2]
    by_cases c : l = 2
    · rw [if_pos c, if_pos rfl, if_pos c]
    · rw [if_neg c, if_neg c]
      have : ∀ l, l ≤ 4 → l ≠ 2 → ¬ rk l = 4 := by decide +kernel
      rw [if_neg (this l hl c)]
  have rT : RunTo (TT g n) j1 false mn1 H o2 (j1 + 1) true (decide (sgn (Tk g n j1).1 ≤ 12)) (sgn (Tk g n j1).1 :: S) o1 := RunTo.step (fun m => by
    rw [run, kT, if_neg s11, if_neg s12, if_neg s1, erank, hu2]
    rw [if_neg]
    intro z
    by_cases c : l = 2
    · rw [if_pos c] at hu2
      rw [hu2] at z
      have := top4_no (S := S) (by have h4 : cnd l = 4 := by rw [c]; rfl
                                   rw [← h4]; exact hT)
      rw [this] at z
      cases z.2
    · rw [s2, if_neg c] at z
      have : ∀ l, l ≤ 4 → l ≠ 2 → ¬ rk l = 4 := by decide +kernel
      exact this l hl c z.1)
  obtain ⟨τ1, a1, a2, a3⟩ := hL (up1 τ 2 2 (nI (j1 + 1))) (j1 + 1) o1 (sgn (Tk g n j1).1 :: S) (decide (sgn (Tk g n j1).1 ≤ 12)) hC.at_.1 (by omega) (by omega) (by show opN S + opB _ = op; rw [s3]; exact hS) s10 (fun z => by rw [s4]; simpa using z) (fun z => Or.inl (by rw [s4]; simp; omega))
  rcases a3 with ⟨j2, o3, mn3, H3, o4, b1, b2, b3, b4, ⟨ns, b5, b6, b7⟩, b8, b9, b10⟩ | ⟨j2, b1, b2⟩
  · obtain ⟨τ2, d1, d2, d3⟩ := tadd_at b1 (by omega) (c := sgn (Tk g n j1).1) (x := F_Reader_stepOf (nI (Tk g n j1).1)) s5
    refine ⟨τ2, fun K => ?_, (hC.at_.2.tr a2).tr d2, Or.inl ⟨j2, o3, mn3, H3, o4, ns, d3, by omega, b3, by omega, b5, b6, b7, rT.tr b8, b9, b10⟩⟩
    rw [hC.2.2.2.1, kind_at hC.2.2.1 (by omega)]
    simp only [ob1_some, lt]
    rw [nI_1, nI_1, a1]
    simp only [ob1_some]
    rw [b1.2.1, if_pos (show P_Text q from hC.1), d1]
    rfl
  · obtain ⟨τ2, d1, d2, d3⟩ := tadd_flt b1 (F_Reader_stepOf (nI (Tk g n j1).1))
    refine ⟨τ2, fun K => ?_, (hC.at_.2.tr a2).tr d2, Or.inr ⟨j2, d3, rT.fail b2⟩⟩
    rw [hC.2.2.2.1, kind_at hC.2.2.1 (by omega)]
    simp only [ob1_some, lt]
    rw [nI_1, nI_1, a1]
    simp only [ob1_some]
    rw [b1.2.1, if_pos (show P_Text q from hC.1), d1]
    rfl
theorem level_loop (hN : N ≤ 160) (hend : ∀ i, N ≤ i → (Tk g n i).1 = 0) {rL : St → Int32 → Int32 → Option St} {rN rO : St → Int32 → Option St} {l op : Nat} (hl : l ≤ 4) (hl2 : l ≠ 2) (hL : LvP g n N q rL (l + 1) op) {σ : St} {j : Nat} {mn : Bool} {S o : List Nat} (ho : o.length ≤ j) (hS : opN S = op) (hT : topOk (cnd l) S) : ∀ (M i : Nat) (τ : St) (j1 : Nat) (o1 : List Nat) (mn1 : Bool) (H o2 ns : List Nat), CS g n q τ j1 o1 → j < j1 → j1 ≤ N → o1.length + j ≤ o.length + j1 → o1 = o ++ ns → Net ns → (∀ c ∈ ns, cOk c) → RunTo (TT g n) j true mn S o j1 false mn1 H o2 → (∀ r, r ≤ rk l → unw r H o2 = unw r S o1) → nsg (l + 1) (Tk g n j1).1 H o2 → FrR q σ τ → i ≤ j1 → N + 1 - j1 < M → ResR g n N q l j mn S o σ (F_Reader_readLevel_59 rL rN rO M τ (nI l) (nI op) 160 (nI i)) := by
  intro M
  induction M with
  | zero => intro i τ j1 o1 mn1 H o2 ns _ _ _ _ _ _ _ _ _ _ _ _ h; omega
  | succ M ih =>
    intro i τ j1 o1 mn1 H o2 ns hC h1 h2 h3 h4 h5 h6 h7 h8 h9 hf hi hM
    rw [F_Reader_readLevel_59, sign_at_C hC (by omega) (by omega)]
    simp only [ob1_some]
    by_cases cs : sgLv l (Tk g n j1).1 = true
    · have jN : j1 < N := by
        rcases Nat.lt_or_ge j1 N with z | z
        · exact z
        · exact absurd (hend j1 z) (sgLv_t3 _ (tk_kl g n j1) l (by omega) cs).2.2
      rw [if_neg (show ¬ (160 : Int32) ≤ nI i from nI_ge (b := 160) (by omega) (by decide)), cs, if_neg (show ¬ bI true = 0 by decide)]
      obtain ⟨τ', a1, a2, a3⟩ := bin_step hN hend hl hL (S := S) (H := H) (o2 := o2) (mn1 := mn1) hC h2 (by omega) hS hT cs (by rw [if_neg hl2]; exact h8 _ (Nat.le_refl _))
      rw [a1 (fun s_12 => F_Reader_readLevel_59 rL rN rO M s_12 (nI l) (nI op) 160 (nI i + 1)), nI_1]
      obtain ⟨s1, s2, s3, s4, s5⟩ := sgLv_t1 _ (tk_kl g n j1) l (by omega) cs
      obtain ⟨s6, s7, s8, s9, s10⟩ := sgLv_t2 _ (tk_kl g n j1) l (by omega) cs
      rw [if_neg hl2] at s2
      rcases a3 with ⟨j2, o3, mn3, H3, o4, ns2, b1, b2, b3, b4, b5, b6, b7, b8, b9, b10⟩ | ⟨j2, b1, b2⟩
      · refine ih (i + 1) τ' j2 (o3 ++ [sgn (Tk g n j1).1]) mn3 H3 o4 (ns ++ (ns2 ++ [sgn (Tk g n j1).1])) b1 (by omega) b3 ?_ ?_ (h5.two b6 s6 s7) (fun c hc => ?_) (h7.tr b8) (fun r hr => ?_) b10 (hf.tr a2) (by omega) (by omega)
        · simp only [List.length_append, List.length_cons, List.length_nil]; omega
        · rw [b5, h4]; simp only [List.append_assoc]
        · rcases List.mem_append.mp hc with hc | hc
          · exact h6 c hc
          · rcases List.mem_append.mp hc with hc | hc
            · exact b7 c hc
            · have : c = sgn (Tk g n j1).1 := by simpa using hc
              rw [this]; exact Or.inr (Or.inr ⟨s8, s9⟩)
        · rw [b9 r (Nat.le_trans hr (rk_mono l)), unw_pop (by rw [s2]; exact hr)]
      · rw [flt_loop b1 (by omega) (by omega)]
        exact ⟨τ', rfl, hf.tr a2, Or.inr ⟨j2, b1, h7.fail b2⟩⟩
    · have cs' : sgLv l (Tk g n j1).1 = false := by simpa using cs
      rw [cs', if_pos (show bI false = 0 from rfl)]
      have r : ResR g n N q l j mn S o σ (some τ) := ⟨τ, rfl, hf, Or.inl ⟨j1, o1, mn1, H, o2, hC, h1, h2, h3, ⟨ns, h4, h5, h6⟩, h7, h8, fun l' q1 q2 q3 => by
        by_cases e : l' = l
        · rw [e, cs'] at q3; cases q3
        · exact h9 l' (by omega) q2 q3⟩⟩
      split
      · exact r
      · exact r
theorem level_ok (hN : N ≤ 160) (hend : ∀ i, N ≤ i → (Tk g n i).1 = 0) {rL : St → Int32 → Int32 → Option St} {rN rO : St → Int32 → Option St} {l op : Nat} (hl : l ≤ 4) (hL : LvP g n N q rL (l + 1) op) (hNo : l = 2 → NoP g n N q rN op) : LvP g n N q (F_Reader_readLevel_0 rL rN rO) l op := by
  intro σ j o S mn hC hj ho hS hT hm1 hm2
  unfold F_Reader_readLevel_0
  rw [if_pos (show nI l ≤ 4 from nI_le (b := 4) hl (by decide))]
  have base : (l = 2 → (Tk g n j).1 ≠ 15) → ResR g n N q l j mn S o σ (F_Reader_readLevel_35 rL rN rO σ (nI l) (nI op)) := by
    intro h15
    unfold F_Reader_readLevel_35
    rw [nI_1]
    obtain ⟨τ, a1, a2, a3⟩ := hL σ j o S mn hC hj ho hS (hT.mono (cnd_mono l)) (fun z => hm1 (by omega)) (fun z => by
      by_cases e : l = 2
      · exact Or.inr (h15 e)
      · exact hm2 (by omega))
    rw [a1]
    simp only [ob1_some]
    unfold F_Reader_readLevel_55
    rcases a3 with ⟨j1, o1, mn1, H, o2, b1, b2, b3, b4, ⟨ns, b5, b6, b7⟩, b8, b9, b10⟩ | ⟨j1, b1, b2⟩
    rotate_left
    · rw [flt_loop b1 (by omega) (by rw [FU_eq]; omega), flt_loop b1 (by omega) (by rw [FU_eq]; omega)]
      have r : ResR g n N q l j mn S o σ (some τ) := ⟨τ, rfl, a2, Or.inr ⟨j1, b1, b2⟩⟩
      split
      · exact r
      · exact r
    by_cases e : l = 2
    · subst e
      rw [if_neg (not_not_intro (show nI 2 = 2 from rfl)), show FU = 998 + 1 + 1 from FU_eq, F_Reader_readLevel_59, if_neg (by decide), sign_at_C b1 (by omega) (by omega)]
      simp only [ob1_some]
      by_cases cs : sgLv 2 (Tk g n j1).1 = true
      · rw [cs, if_neg (show ¬ bI true = 0 by decide)]
        obtain ⟨τ', c1, c2, c3⟩ := bin_step hN hend (l := 2) (by omega) hL (S := S) (H := H) (o2 := o2) (mn1 := mn1) b1 b3 (by omega) hS hT cs (by rw [if_pos rfl]; exact b9 5 (by decide))
        rw [c1 (fun s_12 => F_Reader_readLevel_59 rL rN rO (998 + 1) s_12 (nI 2) (nI op) 1 (0 + 1))]
        obtain ⟨s1, s2, s3, s4, s5⟩ := sgLv_t1 _ (tk_kl g n j1) 2 (by omega) cs
        obtain ⟨s6, s7, s8, s9, s10⟩ := sgLv_t2 _ (tk_kl g n j1) 2 (by omega) cs
        rw [if_pos rfl] at s2
        rw [F_Reader_readLevel_59, if_pos (by decide)]
        rcases c3 with ⟨j2, o3, mn3, H3, o4, ns2, d1, d2, d3, d4, d5, d6, d7, d8, d9, d10⟩ | ⟨j2, d1, d2⟩
        · refine ⟨τ', rfl, a2.tr c2, Or.inl ⟨j2, o3 ++ [sgn (Tk g n j1).1], mn3, H3, o4, d1, by omega, d3, ?_, ⟨ns ++ (ns2 ++ [sgn (Tk g n j1).1]), ?_, b6.two d6 s6 s7, fun c hc => ?_⟩, b8.tr d8, fun r hr => ?_, fun l' q1 q2 q3 => ?_⟩⟩
          · simp only [List.length_append, List.length_cons, List.length_nil]; omega
          · rw [d5, b5]; simp only [List.append_assoc]
          · rcases List.mem_append.mp hc with hc | hc
            · exact b7 c hc
            · rcases List.mem_append.mp hc with hc | hc
              · exact d7 c hc
              · have : c = sgn (Tk g n j1).1 := by simpa using hc
                rw [this]; exact Or.inr (Or.inr ⟨s8, s9⟩)
          · have hr3 : r ≤ 3 := hr
            rw [d9 r (Nat.le_trans hr3 (by decide)), unw_pop (by rw [s2]; omega)]
          · by_cases e2 : l' = 2
            · refine ⟨e2, ?_⟩
              rw [d9 5 (by decide), unw_top (c := 5) (S := sgn (Tk g n j1).1 :: S) (show rankN (sgn (Tk g n j1).1) < 5 by rw [s2]; decide) (Nat.le_refl _)]
              show (rankN (sgn (Tk g n j1).1) == 4) = true
              rw [s2]
              rfl
            · exact d10 l' (by omega) q2 q3
        · exact ⟨τ', rfl, a2.tr c2, Or.inr ⟨j2, d1, b8.fail d2⟩⟩
      · have cs' : sgLv 2 (Tk g n j1).1 = false := by simpa using cs
        rw [cs', if_pos (show bI false = 0 from rfl)]
        exact ⟨τ, rfl, a2, Or.inl ⟨j1, o1, mn1, H, o2, b1, b2, b3, b4, ⟨ns, b5, b6, b7⟩, b8, fun r hr => b9 r (Nat.le_trans hr (rk_mono 2)), fun l' q1 q2 q3 => by
          by_cases e : l' = 2
          · rw [e, cs'] at q3; cases q3
          · exact b10 l' (by omega) q2 q3⟩⟩
    · rw [if_pos (show ¬ nI l = 2 from fun z => e ((nI_eq (b := 2) (by omega) (by decide)).mp z))]
      exact level_loop hN hend hl e hL ho hS hT FU 0 τ j1 o1 mn1 H o2 ns b1 b2 b3 b4 b5 b6 b7 b8 (fun r hr => b9 r (Nat.le_trans hr (rk_mono l))) b10 a2 (Nat.zero_le _) (by rw [FU_eq]; omega)
  by_cases e : l = 2
  · subst e
    rw [if_neg (not_not_intro (show nI 2 = 2 from rfl)), show F_Reader_is σ 15 = some (bI (decide ((Tk g n j).1 = 15))) from is_at hC (by omega) (k := 15) (by decide) rfl]
    simp only [ob1_some]
    by_cases c15 : (Tk g n j).1 = 15
    · rw [show decide ((Tk g n j).1 = 15) = true by simpa using c15, if_neg (show ¬ bI true = 0 by decide)]
      have hm := hm1 (Nat.le_refl _)
      subst hm
      obtain ⟨τ, a1, a2, a3⟩ := hNo rfl σ j o S hC hj ho hS c15
      rw [a1]
      exact ⟨τ, rfl, a2, a3⟩
    · rw [show decide ((Tk g n j).1 = 15) = false by simpa using c15, if_pos (show bI false = 0 from rfl)]
      exact base (fun _ => c15)
  · rw [if_pos (show ¬ nI l = 2 from fun z => e ((nI_eq (b := 2) (by omega) (by decide)).mp z))]
    exact base (fun z => absurd z e)
theorem level5_ok {rL : St → Int32 → Int32 → Option St} {rN rO : St → Int32 → Option St} {op : Nat} (hO : OnP g n N q rO op) : LvP g n N q (F_Reader_readLevel_0 rL rN rO) 5 op := by
  intro σ j o S mn hC hj ho hS hT hm1 hm2
  unfold F_Reader_readLevel_0
  rw [if_neg (show ¬ nI 5 ≤ 4 by decide)]
  obtain ⟨τ, a1, a2, a3⟩ := hO σ j o S mn hC hj ho hS (hm2 (by omega))
  rw [a1]
  exact ⟨τ, rfl, a2, a3⟩
/-- all of it, by depth -/
theorem descent (hN : N ≤ 160) (hend : ∀ i, N ≤ i → (Tk g n i).1 = 0) : ∀ d : Nat, (∀ l op, l ≤ 5 → op ≤ 5 → 7 * (5 - op) + 7 - l ≤ d → LvP g n N q (GReader d).1 l op) ∧ (∀ op, op ≤ 5 → 7 * (5 - op) + 1 ≤ d → NoP g n N q (GReader d).2.1 op) ∧ (∀ op, op ≤ 5 → 7 * (5 - op) + 1 ≤ d → OnP g n N q (GReader d).2.2 op) := by
  intro d
  induction d with
  | zero => exact ⟨fun l op h1 h2 h => by omega, fun op _ h => by omega, fun op _ h => by omega⟩
  | succ d ih =>
    obtain ⟨i1, i2, i3⟩ := ih
    refine ⟨fun l op h1 h2 h => ?_, fun op h2 h => ?_, fun op h2 h => ?_⟩
    · show LvP g n N q (F_Reader_readLevel_0 (GReader d).1 (GReader d).2.1 (GReader d).2.2) l op
      by_cases c : l = 5
      · subst c
        exact level5_ok (i3 op h2 (by omega))
      · exact level_ok hN hend (by omega) (i1 (l + 1) op (by omega) h2 (by omega)) (fun e => i2 op h2 (by omega))
    · exact not_ok (rN := (GReader d).2.1) (rO := (GReader d).2.2) hN hend h2 (fun c => i1 2 (op + 1) (by omega) (by omega) (by omega))
    · exact one_ok (rN := (GReader d).2.1) hN hend h2 (fun c => i1 0 (op + 1) (by omega) (by omega) (by omega)) (fun c => i3 (op + 1) (by omega) (by omega))
end LV
