/-! ===== the class's descent beside the machine ===== -/
theorem numV_lt {g : Nat → Nat} {b : Nat} : ∀ m, (∀ i, b ≤ i → i < b + m → tD (g i) = true) → numV g b m < 10 ^ m := by
  intro m
  induction m with
  | zero => intro _; exact (by decide : (0 : Nat) < 10 ^ 0)
  | succ m ih =>
    intro h
    have h1 := ih (fun i a b => h i a (by omega))
    have h2 := h (b + m) (by omega) (by omega)
    simp [tD] at h2
    rw [numV, Nat.pow_succ]
    omega
theorem tokB_val (g : Nat → Nat) (n b : Nat) : ((tokB g n b).1 = 2 → (tokB g n b).2.1 ≤ 9999) ∧ ((tokB g n b).1 = 3 → (tokB g n b).2.1 < 6) := by
  unfold tokB
  split
  · exact ⟨fun h => by simp at h, fun h => by simp at h⟩
  · split
    · split
      · exact ⟨fun h => by simp at h, fun h => by simp at h⟩
      · rename_i k hk
        have k12 : k < 12 := (wordIx_lt g b _ WORDS 0 k hk).2
        split
        · exact ⟨fun h => by simp at h; omega, fun h => by simp at h; omega⟩
        · refine ⟨fun h => by simp at h, fun _ => ?_⟩
          show k - 6 < 6
          omega
    · split
      · split
        · rename_i h4
          refine ⟨fun _ => ?_, fun h => by simp at h⟩
          have sD := scan_le (fun i => tD (g i)) (n - b) b
          have := numV_lt (g := g) (b := b) (scan (fun i => tD (g i)) (n - b) b - b) (fun i h1 h2 => scan_all (fun i => tD (g i)) (n - b) b i h1 (by omega))
          have p : 10 ^ (scan (fun i => tD (g i)) (n - b) b - b) ≤ 10 ^ 4 := Nat.pow_le_pow_right (by decide) h4
          show numV g b _ ≤ 9999
          omega
        · exact ⟨fun h => by simp at h, fun h => by simp at h⟩
      · split
        · rename_i h
          refine ⟨fun z => ?_, fun z => ?_⟩
          · have z' : g b = 2 := z
            rw [z'] at h
            exact absurd h (by decide)
          · have z' : g b = 3 := z
            rw [z'] at h
            exact absurd h (by decide)
        · exact ⟨fun h => by simp at h, fun h => by simp at h⟩
theorem tk_val (g : Nat → Nat) (n j : Nat) : ((Tk g n j).1 = 2 → (Tk g n j).2.1 ≤ 9999) ∧ ((Tk g n j).1 = 3 → (Tk g n j).2.1 < 6) := by
  unfold Tk tokAt
  exact tokB_val _ _ _
def GoodR (g : Nat → Nat) (n N q l j : Nat) (mn : Bool) (S o : List Nat) (τ : St) : Prop := ∃ j' o' mn' H o2, CS g n q τ j' o' ∧ j < j' ∧ j' ≤ N ∧ o'.length + j ≤ o.length + j' ∧ (∃ ns, o' = o ++ ns ∧ Net ns ∧ ∀ c ∈ ns, cOk c) ∧ RunTo (TT g n) j true mn S o j' false mn' H o2 ∧ (∀ r, r ≤ rk l → unw r H o2 = unw r S o') ∧ nsg l (Tk g n j').1 H o2
def BadR (g : Nat → Nat) (n q j : Nat) (mn : Bool) (S o : List Nat) (τ : St) : Prop := ∃ j', Flt q τ (Tk g n j').2.2.1 ∧ RunFail (TT g n) j true mn S o j'
def ResR (g : Nat → Nat) (n N q l j : Nat) (mn : Bool) (S o : List Nat) (σ : St) (x : Option St) : Prop := ∃ τ, x = some τ ∧ FrR q σ τ ∧ (GoodR g n N q l j mn S o τ ∨ BadR g n q j mn S o τ)
def LvP (g : Nat → Nat) (n N q : Nat) (rL : St → Int32 → Int32 → Option St) (l op : Nat) : Prop := ∀ σ j o S mn, CS g n q σ j o → j ≤ N → o.length ≤ j → opN S = op → topOk (cnd l) S → (l ≤ 2 → mn = true) → (3 ≤ l → mn = false ∨ (Tk g n j).1 ≠ 15) → ResR g n N q l j mn S o σ (rL σ (nI l) (nI op))
def OnP (g : Nat → Nat) (n N q : Nat) (rO : St → Int32 → Option St) (op : Nat) : Prop := ∀ σ j o S mn, CS g n q σ j o → j ≤ N → o.length ≤ j → opN S = op → (mn = false ∨ (Tk g n j).1 ≠ 15) → ResR g n N q 5 j mn S o σ (rO σ (nI op))
def NoP (g : Nat → Nat) (n N q : Nat) (rN : St → Int32 → Option St) (op : Nat) : Prop := ∀ σ j o S, CS g n q σ j o → j ≤ N → o.length ≤ j → opN S = op → (Tk g n j).1 = 15 → ResR g n N q 2 j true S o σ (rN σ (nI op))
section DS
variable {g : Nat → Nat} {n N q : Nat}
theorem opens_C {σ : St} {j : Nat} {o : List Nat} (h : CS g n q σ j o) (hj : j < 2 ^ 31) (ho : o.length ≤ 160) {op : Nat} (hop : op ≤ 5) : (op < 5 → F_Reader_opens σ (nI op) = some (1, up1 σ 2 2 (nI (j + 1)))) ∧ (¬ op < 5 → ∃ τ, F_Reader_opens σ (nI op) = some (0, τ) ∧ FrR q σ τ ∧ Flt q τ (Tk g n j).2.2.1) := by
  unfold F_Reader_opens F_Reader_opens_0
  refine ⟨fun c => ?_, fun c => ?_⟩
  · rw [if_pos (show nI op < 5 from nI_lt (b := 5) c (by decide)), h.2.2.2.1, nI_1]
    simp only [lt]
    unfold F_Reader_opens_22
    rw [if_neg (show ¬ (5 : Int32) ≤ nI op from nI_ge (b := 5) c (by decide))]
  · rw [if_neg (show ¬ nI op < 5 from nI_nlt (b := 5) (by omega) (by omega))]
    obtain ⟨τ, a1, a2, a3⟩ := fail_at h hj ho
    rw [a1]
    simp only [ob1_some]
    unfold F_Reader_opens_22
    rw [if_pos (show (5 : Int32) ≤ nI op from nI_le (a := 5) (by omega) (by omega))]
    exact ⟨τ, rfl, a2, a3⟩
theorem one_ok (hN : N ≤ 160) (hend : ∀ i, N ≤ i → (Tk g n i).1 = 0) {rL : St → Int32 → Int32 → Option St} {rN rO : St → Int32 → Option St} {op : Nat} (hop : op ≤ 5) (hL : op < 5 → LvP g n N q rL 0 (op + 1)) (hO : op < 5 → OnP g n N q rO (op + 1)) : OnP g n N q (F_Reader_readOne_0 rL rN rO) op := by
  intro σ j o S mn hC hj ho hS hmn
  have kT : (TT g n j).1 = (Tk g n j).1 := rfl
  have vT : (TT g n j).2 = (Tk g n j).2.1 := rfl
  have hjN : ∀ k, (Tk g n j).1 = k → k ≠ 0 → j < N := by
    intro k h1 h2
    rcases Nat.lt_or_ge j N with z | z
    · exact z
    · exact absurd (h1.symm.trans (hend j z)) h2
  have e2 : F_Reader_is σ 2 = some (bI (decide ((Tk g n j).1 = 2))) := is_at hC (by omega) (k := 2) (by decide) rfl
  have e3 : F_Reader_is σ 3 = some (bI (decide ((Tk g n j).1 = 3))) := is_at hC (by omega) (k := 3) (by decide) rfl
  have e45 : F_Reader_is σ 45 = some (bI (decide ((Tk g n j).1 = 45))) := is_at hC (by omega) (k := 45) (by decide) rfl
  have e40 : F_Reader_is σ 40 = some (bI (decide ((Tk g n j).1 = 40))) := is_at hC (by omega) (k := 40) (by decide) rfl
  have hb0 : ¬ bI true = 0 := by decide
  have hpush : ∀ (c : Nat) (x : Int32), x = stp c → cOk c → isPush c = true → j < N → (∀ m, run (TT g n) (m + 1) j true mn S o = run (TT g n) m (j + 1) false mn (unw 7 S (o ++ [c])).1 (unw 7 S (o ++ [c])).2) → ResR g n N q 5 j mn S o σ (ob1 (F_Text_add σ q x) (fun s_27 => (lt (up1 s_27 2 2 ((s_27.1 2 2) + (1 : Int32))) (fun s_28 => (some s_28))))) := by
    intro c x hx hc hp jN hrun
    obtain ⟨τ, a1, a2, a3⟩ := tadd_at hC (by omega) hx
    rw [a1]
    simp only [ob1_some, lt]
    rw [a3.2.2.2.1, nI_1]
    refine ⟨_, rfl, a2.tr a3.at_.2, Or.inl ⟨j + 1, o ++ [c], mn, _, _, a3.at_.1, by omega, by omega, ?_, ⟨[c], rfl, Net.push hp, fun z hz => ?_⟩, RunTo.step hrun, fun r hr => unw_unw hr S (o ++ [c]), fun l' h1 h2 _ => absurd h1 (by omega)⟩⟩
    · simp only [List.length_append, List.length_cons, List.length_nil]; omega
    · have : z = c := by simpa using hz
      rw [this]; exact hc
  unfold F_Reader_readOne_0
  rw [e2]
  simp only [ob1_some]
  by_cases c2 : (Tk g n j).1 = 2
  · rw [show decide ((Tk g n j).1 = 2) = true by simpa using c2, if_neg hb0, hC.2.1, if_pos (show P_Text q from hC.1), hC.2.2.2.1, value_at hC.2.2.1 (by omega) (Or.inl c2)]
    simp only [ob1_some]
    have hv := (tk_val g n j).1 c2
    refine hpush (100000 + (Tk g n j).2.1) _ ?_ (Or.inl ⟨by omega, by omega⟩) (by simp [isPush]) (hjN 2 c2 (by decide)) (fun m => by rw [run, kT, vT, if_pos c2])
    unfold stp
    rw [if_pos (by omega), Nat.add_sub_cancel_left]
  rw [show decide ((Tk g n j).1 = 2) = false by simpa using c2, if_pos (show bI false = 0 from rfl), e3]
  simp only [ob1_some]
  by_cases c3 : (Tk g n j).1 = 3
  · rw [show decide ((Tk g n j).1 = 3) = true by simpa using c3, if_neg hb0, hC.2.1, if_pos (show P_Text q from hC.1), hC.2.2.2.1, value_at hC.2.2.1 (by omega) (Or.inr c3)]
    simp only [ob1_some]
    have hv := (tk_val g n j).2 c3
    refine hpush ((Tk g n j).2.1) _ ?_ (Or.inr (Or.inl hv)) ?_ (hjN 3 c3 (by decide)) (fun m => by rw [run, kT, vT, if_neg c2, if_pos c3])
    · unfold stp
      rw [if_neg (by omega), if_pos (by omega)]
    · have : (Tk g n j).2.1 < 11 := by omega
      simp [isPush, this]
  rw [show decide ((Tk g n j).1 = 3) = false by simpa using c3, if_pos (show bI false = 0 from rfl), e45]
  simp only [ob1_some]
  have c15 : ¬ ((Tk g n j).1 = 15 ∧ mn = true) := fun z => by
    rcases hmn with h | h
    · rw [h] at z; cases z.2
    · exact h z.1
  obtain ⟨op1, op2⟩ := opens_C hC (by omega) (by omega) hop
  by_cases c45 : (Tk g n j).1 = 45
  · have jN := hjN 45 c45 (by decide)
    rw [show decide ((Tk g n j).1 = 45) = true by simpa using c45, if_neg hb0]
    by_cases c5 : op < 5
    · rw [op1 c5]
      simp only [ob2_some]
      rw [if_pos one_ne, nI_1]
      have rT : RunTo (TT g n) j true mn S o (j + 1) true false (19 :: S) o := RunTo.step (fun m => by rw [run, kT, if_neg c2, if_neg c3, if_neg c15, if_pos c45, if_neg (by omega)])
      obtain ⟨τ, a1, a2, a3⟩ := hO c5 _ (j + 1) o (19 :: S) false hC.at_.1 (by omega) (by omega) (by show opN S + opB 19 = op + 1; rw [hS]; rfl) (Or.inl rfl)
      rw [a1]
      simp only [ob1_some]
      rcases a3 with ⟨j', o', mn', H, o2, b1, b2, b3, b4, ⟨ns, b5, b6, b7⟩, b8, b9, b10⟩ | ⟨j', b1, b2⟩
      · rw [b1.2.1, if_pos (show P_Text q from hC.1)]
        obtain ⟨υ, d1, d2, d3⟩ := tadd_at b1 (by omega) (c := 19) (x := -11) rfl
        rw [d1]
        refine ⟨υ, rfl, (hC.at_.2.tr a2).tr d2, Or.inl ⟨j', o' ++ [19], mn', H, o2, d3, by omega, b3, ?_, ⟨ns ++ [19], by rw [b5, List.append_assoc], b6.one rfl rfl, fun z hz => ?_⟩, rT.tr b8, fun r hr => ?_, fun l' h1 h2 _ => absurd h1 (by omega)⟩⟩
        · simp only [List.length_append, List.length_cons, List.length_nil]; omega
        · rcases List.mem_append.mp hz with hz | hz
          · exact b7 z hz
          · have : z = 19 := by simpa using hz
            rw [this]; exact Or.inr (Or.inr ⟨by omega, by omega⟩)
        · rw [b9 r hr, unw_pop (show r ≤ rankN 19 from hr)]
      · rw [b1.2.1, if_pos (show P_Text q from hC.1)]
        obtain ⟨υ, d1, d2, d3⟩ := tadd_flt b1 (-11)
        rw [d1]
        exact ⟨υ, rfl, (hC.at_.2.tr a2).tr d2, Or.inr ⟨j', d3, rT.fail b2⟩⟩
    · obtain ⟨τ, a1, a2, a3⟩ := op2 c5
      rw [a1]
      simp only [ob2_some]
      rw [if_neg (not_not_intro trivial)]
      exact ⟨τ, rfl, a2, Or.inr ⟨j, a3, RunFail.at_ (o' := o) (fun m => by rw [run, kT, if_neg c2, if_neg c3, if_neg c15, if_pos c45, if_pos (by omega)])⟩⟩
  rw [show decide ((Tk g n j).1 = 45) = false by simpa using c45, if_pos (show bI false = 0 from rfl), e40]
  simp only [ob1_some]
  by_cases c40 : (Tk g n j).1 = 40
  · have jN := hjN 40 c40 (by decide)
    rw [show decide ((Tk g n j).1 = 40) = true by simpa using c40, if_neg hb0]
    by_cases c5 : op < 5
    · rw [op1 c5]
      simp only [ob2_some]
      rw [if_pos one_ne, nI_1]
      have rT : RunTo (TT g n) j true mn S o (j + 1) true true (0 :: S) o := RunTo.step (fun m => by rw [run, kT, if_neg c2, if_neg c3, if_neg c15, if_neg c45, if_pos c40, if_neg (by omega)])
      obtain ⟨τ, a1, a2, a3⟩ := hL c5 _ (j + 1) o (0 :: S) true hC.at_.1 (by omega) (by omega) (by show opN S + opB 0 = op + 1; rw [hS]; rfl) (by show rankN 0 < cnd 0; decide) (fun _ => rfl) (fun z => absurd z (by omega))
      have a1' : rL (up1 σ 2 2 (nI (j + 1))) 0 (nI (op + 1)) = some τ := a1
      rw [a1']
      simp only [ob1_some]
      rcases a3 with ⟨j', o', mn', H, o2, b1, b2, b3, b4, ⟨ns, b5, b6, b7⟩, b8, b9, b10⟩ | ⟨j', b1, b2⟩
      · obtain ⟨υ, d1, d2, d3⟩ := expect_at b1 (by omega) (by omega) (k := 41) (by decide) (x := 41) rfl
        rw [d1]
        have u1 : unw 1 H o2 = (0 :: S, o') := (b9 1 (by decide)).trans (unw_top (c := 1) (by show rankN 0 < 1; decide) (Nat.le_refl _))
        have kT' : (TT g n j').1 = (Tk g n j').1 := rfl
        rcases d3 with ⟨k41, d3⟩ | ⟨k41, d3⟩
        · have jN' : j' < N := by
            rcases Nat.lt_or_ge j' N with z | z
            · exact z
            · exact absurd (k41.symm.trans (hend j' z)) (by decide)
          have rT2 : RunTo (TT g n) j' false mn' H o2 (j' + 1) false mn' (unw 7 S o').1 (unw 7 S o').2 := RunTo.step (fun m => by rw [run, kT', if_neg (by omega), if_pos k41, u1])
          exact ⟨υ, rfl, (hC.at_.2.tr a2).tr d2, Or.inl ⟨j' + 1, o', mn', _, _, d3, by omega, by omega, by omega, ⟨ns, b5, b6, b7⟩, (rT.tr b8).tr rT2, fun r hr => unw_unw hr S o', fun l' h1 h2 _ => absurd h1 (by omega)⟩⟩
        · refine ⟨υ, rfl, (hC.at_.2.tr a2).tr d2, Or.inr ⟨j', d3, (rT.tr b8).fail (run_stuck (fun z => absurd z k41) (fun _ => by rw [u1]; simp) b10)⟩⟩
      · rw [expect_flt b1]
        exact ⟨τ, rfl, hC.at_.2.tr a2, Or.inr ⟨j', b1, rT.fail b2⟩⟩
    · obtain ⟨τ, a1, a2, a3⟩ := op2 c5
      rw [a1]
      simp only [ob2_some]
      rw [if_neg (not_not_intro trivial)]
      exact ⟨τ, rfl, a2, Or.inr ⟨j, a3, RunFail.at_ (o' := o) (fun m => by rw [run, kT, if_neg c2, if_neg c3, if_neg c15, if_neg c45, if_pos c40, if_pos (by omega)])⟩⟩
  rw [show decide ((Tk g n j).1 = 40) = false by simpa using c40, if_pos (show bI false = 0 from rfl)]
  obtain ⟨τ, a1, a2, a3⟩ := fail_at hC (by omega) (by omega)
  rw [a1]
  exact ⟨τ, rfl, a2, Or.inr ⟨j, a3, RunFail.at_ (o' := o) (fun m => by rw [run, kT, if_neg c2, if_neg c3, if_neg c15, if_neg c45, if_neg c40])⟩⟩
theorem not_ok (hN : N ≤ 160) (hend : ∀ i, N ≤ i → (Tk g n i).1 = 0) {rL : St → Int32 → Int32 → Option St} {rN rO : St → Int32 → Option St} {op : Nat} (hop : op ≤ 5) (hL : op < 5 → LvP g n N q rL 2 (op + 1)) : NoP g n N q (F_Reader_readNot_0 rL rN rO) op := by
  intro σ j o S hC hj ho hS k15
  have kT : (TT g n j).1 = (Tk g n j).1 := rfl
  have jN : j < N := by
    rcases Nat.lt_or_ge j N with z | z
    · exact z
    · exact absurd (k15.symm.trans (hend j z)) (by decide)
  obtain ⟨op1, op2⟩ := opens_C hC (by omega) (by omega) hop
  unfold F_Reader_readNot_0
  by_cases c5 : op < 5
  · rw [op1 c5]
    simp only [ob2_some]
    rw [if_pos one_ne, nI_1]
    have rT : RunTo (TT g n) j true true S o (j + 1) true true (13 :: S) o := RunTo.step (fun m => by rw [run, kT, if_neg (by omega), if_neg (by omega), if_pos ⟨k15, rfl⟩, if_neg (by omega)])
    obtain ⟨τ, a1, a2, a3⟩ := hL c5 _ (j + 1) o (13 :: S) true hC.at_.1 (by omega) (by omega) (by show opN S + opB 13 = op + 1; rw [hS]; rfl) (by show rankN 13 < cnd 2; decide) (fun _ => rfl) (fun z => absurd z (by omega))
    have a1' : rL (up1 σ 2 2 (nI (j + 1))) 2 (nI (op + 1)) = some τ := a1
    rw [a1']
    simp only [ob1_some]
    rcases a3 with ⟨j', o', mn', H, o2, b1, b2, b3, b4, ⟨ns, b5, b6, b7⟩, b8, b9, b10⟩ | ⟨j', b1, b2⟩
    · rw [b1.2.1, if_pos (show P_Text q from hC.1)]
      obtain ⟨υ, d1, d2, d3⟩ := tadd_at b1 (by omega) (c := 13) (x := -12) rfl
      rw [d1]
      refine ⟨υ, rfl, (hC.at_.2.tr a2).tr d2, Or.inl ⟨j', o' ++ [13], mn', H, o2, d3, by omega, b3, ?_, ⟨ns ++ [13], by rw [b5, List.append_assoc], b6.one rfl rfl, fun z hz => ?_⟩, rT.tr b8, fun r hr => ?_, b10⟩⟩
      · simp only [List.length_append, List.length_cons, List.length_nil]; omega
      · rcases List.mem_append.mp hz with hz | hz
        · exact b7 z hz
        · have : z = 13 := by simpa using hz
          rw [this]; exact Or.inr (Or.inr ⟨by omega, by omega⟩)
      · rw [b9 r hr, unw_pop (show r ≤ rankN 13 from hr)]
    · rw [b1.2.1, if_pos (show P_Text q from hC.1)]
      obtain ⟨υ, d1, d2, d3⟩ := tadd_flt b1 (-12)
      rw [d1]
      exact ⟨υ, rfl, (hC.at_.2.tr a2).tr d2, Or.inr ⟨j', d3, rT.fail b2⟩⟩
  · obtain ⟨τ, a1, a2, a3⟩ := op2 c5
    rw [a1]
    simp only [ob2_some]
    rw [if_neg (not_not_intro trivial)]
    exact ⟨τ, rfl, a2, Or.inr ⟨j, a3, RunFail.at_ (o' := o) (fun m => by rw [run, kT, if_neg (by omega), if_neg (by omega), if_pos ⟨k15, rfl⟩, if_pos (by omega)])⟩⟩
end DS
