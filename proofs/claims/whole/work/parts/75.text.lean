/-! ===== text: both read the tape ===== -/
theorem stp_t : ∀ c, 11 ≤ c → c ≤ 19 → ¬ (-6 : Int32) ≤ stp c ∧ (isOne c = true ↔ (-12 : Int32) ≤ stp c) ∧ isPush c = false := by
  intro c h1 h2
  have : c = 11 ∨ c = 12 ∨ c = 13 ∨ c = 14 ∨ c = 15 ∨ c = 16 ∨ c = 17 ∨ c = 18 ∨ c = 19 := by omega
  rcases this with rfl | rfl | rfl | rfl | rfl | rfl | rfl | rfl | rfl <;> decide +kernel
theorem stp_push {c : Nat} (h : cOk c) (hp : isPush c = true) : (-6 : Int32) ≤ stp c := by
  rcases h with ⟨h1, h2⟩ | h | ⟨h1, h2⟩
  · unfold stp
    rw [if_pos h1]
    exact Int32.le_trans (by decide : (-6 : Int32) ≤ 0) (nI_pos' (by omega))
  · unfold stp
    rw [if_neg (by omega), if_pos (by omega)]
    exact (name_m c h).1
  · rw [(stp_t c h1 h2).2.2] at hp
    cases hp
theorem hgt_of {st : Nat → Int32} : ∀ (l : List Nat) (i h r : Nat), (∀ k, k < l.length → st (i + k) = stp (l.getD k 0)) → (∀ c ∈ l, cOk c) → hL l h = some r → hgt st l.length i h = some r := by
  intro l
  induction l with
  | nil => intro i h r _ _ e; exact e
  | cons c l ih =>
    intro i h r hs hc e
    have c0 := hc c List.mem_cons_self
    have s0 : st i = stp c := by
      have := hs 0 (by simp)
      simpa using this
    have nx : ∀ h', hL l h' = some r → hgt st l.length (i + 1) h' = some r := fun h' e' => ih (i + 1) h' r (fun k hk => by
      have := hs (k + 1) (by simp only [List.length_cons]; omega)
      simp only [List.getD_cons_succ] at this
      rw [show i + 1 + k = i + (k + 1) by omega]
      exact this) (fun z hz => hc z (List.mem_cons_of_mem _ hz)) e'
    rw [List.length_cons, hgt, s0]
    rw [hL] at e
    by_cases c1 : isPush c = true
    · rw [if_pos c1] at e
      rw [if_pos (stp_push c0 c1)]
      exact nx _ e
    · rw [if_neg c1] at e
      have c19 : 11 ≤ c ∧ c ≤ 19 := by
        rcases c0 with ⟨h1, h2⟩ | h | h
        · exact absurd (show isPush c = true by simp [isPush, h1]) c1
        · exact absurd (show isPush c = true by have : c < 11 := by omega
                                                simp [isPush, this]) c1
        · exact h
      obtain ⟨t1, t2, t3⟩ := stp_t c c19.1 c19.2
      rw [if_neg t1]
      by_cases c2 : isOne c = true
      · rw [if_pos c2] at e
        rw [if_pos (t2.mp c2)]
        by_cases c3 : 1 ≤ h
        · rw [if_pos c3] at e ⊢; exact nx _ e
        · rw [if_neg c3] at e; cases e
      · rw [if_neg c2] at e
        rw [if_neg (fun z => c2 (t2.mpr z))]
        by_cases c3 : 2 ≤ h
        · rw [if_pos c3] at e ⊢; exact nx _ e
        · rw [if_neg c3] at e; cases e
section TX
variable {g : Nat → Nat} {n N q t : Nat}
theorem run_bound (hend : ∀ i, N ≤ i → (Tk g n i).1 = 0) : ∀ (M j : Nat) (w mn : Bool) (h o : List Nat) (ok : Bool) (j' : Nat) (o' : List Nat), run (TT g n) M j w mn h o = some (ok, j', o') → j ≤ N → j' ≤ N := by
  intro M
  induction M with
  | zero => intro j w mn h o ok j' o' e; cases e
  | succ M ih =>
    intro j w mn h o ok j' o' e hj
    have kT : (TT g n j).1 = (Tk g n j).1 := rfl
    have jN : ∀ k, (Tk g n j).1 = k → k ≠ 0 → j + 1 ≤ N := by
      intro k h1 h2
      rcases Nat.lt_or_ge j N with z | z
      · exact z
      · exact absurd (h1.symm.trans (hend j z)) h2
    have st : ∀ x, some (false, j, x) = some (ok, j', o') → j' ≤ N := fun x z => by cases z; exact hj
    cases w with
    | true =>
      rw [run, kT] at e
      by_cases c2 : (Tk g n j).1 = 2
      · rw [if_pos c2] at e; exact ih _ _ _ _ _ _ _ _ e (jN 2 c2 (by decide))
      rw [if_neg c2] at e
      by_cases c3 : (Tk g n j).1 = 3
      · rw [if_pos c3] at e; exact ih _ _ _ _ _ _ _ _ e (jN 3 c3 (by decide))
      rw [if_neg c3] at e
      by_cases c15 : (Tk g n j).1 = 15 ∧ mn = true
      · rw [if_pos c15] at e
        by_cases c5 : opN h = 5
        · rw [if_pos c5] at e; exact st _ e
        · rw [if_neg c5] at e; exact ih _ _ _ _ _ _ _ _ e (jN 15 c15.1 (by decide))
      rw [if_neg c15] at e
      by_cases c45 : (Tk g n j).1 = 45
      · rw [if_pos c45] at e
        by_cases c5 : opN h = 5
        · rw [if_pos c5] at e; exact st _ e
        · rw [if_neg c5] at e; exact ih _ _ _ _ _ _ _ _ e (jN 45 c45 (by decide))
      rw [if_neg c45] at e
      by_cases c40 : (Tk g n j).1 = 40
      · rw [if_pos c40] at e
        by_cases c5 : opN h = 5
        · rw [if_pos c5] at e; exact st _ e
        · rw [if_neg c5] at e; exact ih _ _ _ _ _ _ _ _ e (jN 40 c40 (by decide))
      rw [if_neg c40] at e
      exact st _ e
    | false =>
      rw [run, kT] at e
      by_cases c59 : (Tk g n j).1 = 59
      · rw [if_pos c59] at e; cases e; exact hj
      rw [if_neg c59] at e
      by_cases c41 : (Tk g n j).1 = 41
      · rw [if_pos c41] at e
        cases hu : (unw 1 h o).1 with
        | nil => rw [hu] at e; exact st _ e
        | cons x r => rw [hu] at e; exact ih _ _ _ _ _ _ _ _ e (jN 41 c41 (by decide))
      rw [if_neg c41] at e
      by_cases cs : sgn (Tk g n j).1 = 0
      · rw [if_pos cs] at e; exact st _ e
      rw [if_neg cs] at e
      by_cases c4 : rankN (sgn (Tk g n j).1) = 4 ∧ top4 (unw 5 h o).1 = true
      · rw [if_pos c4] at e; exact st _ e
      · rw [if_neg c4] at e
        refine ih _ _ _ _ _ _ _ _ e ?_
        rcases Nat.lt_or_ge j N with z | z
        · exact z
        · exact absurd (show sgn (Tk g n j).1 = 0 by rw [hend j z]; rfl) cs
def FrX (q : Nat) (σ τ : St) : Prop := τ.2 = σ.2 ∧ ∀ p c, ¬ (p = 2 ∧ (c = 2 ∨ c = 3)) → ¬ (p = q ∧ 2 ≤ c) → p ≠ q + 6 → τ.1 p c = σ.1 p c
theorem FrX.rf {σ : St} : FrX q σ σ := ⟨rfl, fun _ _ _ _ _ => rfl⟩
theorem FrX.tr {a b c : St} (h : FrX q a b) (k : FrX q b c) : FrX q a c := ⟨k.1.trans h.1, fun p z h1 h2 h3 => (k.2 p z h1 h2 h3).trans (h.2 p z h1 h2 h3)⟩
theorem FrR.x {σ τ : St} (h : FrR q σ τ) : FrX q σ τ := ⟨h.1, fun p c h1 h2 h3 => h.2 p c h1 (by omega) h3⟩
def FrM (t : Nat) (μ τ : St) : Prop := τ.2 = μ.2 ∧ ∀ p c, ¬ (p = 0 ∧ 21 ≤ c ∧ c ≤ 29) → ¬ (p = 7 ∧ 200 * t ≤ c ∧ c < 200 * t + 200) → ¬ (p = 8 ∧ 4 * t ≤ c ∧ c < 4 * t + 4) → p ≠ 16 → τ.1 p c = μ.1 p c
theorem FrM.rf {μ : St} : FrM t μ μ := ⟨rfl, fun _ _ _ _ _ _ => rfl⟩
theorem FrM.tr {a b c : St} (h : FrM t a b) (k : FrM t b c) : FrM t a c := ⟨k.1.trans h.1, fun p z h1 h2 h3 h4 => (k.2 p z h1 h2 h3 h4).trans (h.2 p z h1 h2 h3 h4)⟩
theorem FrE.m {μ τ : St} (h : FrE t μ τ) : FrM t μ τ := ⟨h.1, fun p c h1 h2 _ h4 => h.2 p c h1 h2 h4⟩
theorem TpM.fm {μ τ : St} (h : TpM μ g n) (f : FrM t μ τ) : TpM τ g n := ⟨h.1, (f.2 _ _ (by omega) (by omega) (by omega) (by omega)).trans h.2.1, fun i hi => ⟨(h.2.2 i hi).1, (f.2 _ _ (by omega) (by omega) (by omega) (by omega)).trans (h.2.2 i hi).2⟩⟩
/-- a part, by the machine alone -/
def partP (g : Nat → Nat) (n p j : Nat) (o : List Nat) : Option (Nat × List Nat) := if (Tk g n j).1 = 10 + p then (match run (TT g n) 1000 (j + 1) true true [] o with
  | some (true, j', o') => some (j' + 1, o')
  | _ => none) else none
/-- one part, up to its ; -/
theorem part_at (hN : N ≤ 160) (hend : ∀ i, N ≤ i → (Tk g n i).1 = 0) (ht : t < 6) {p : Nat} (hp : p < 3) {τ υ : St} {j : Nat} {o : List Nat} (hC : CS g n q τ j o) (hj : j ≤ N) (ho : o.length ≤ j) (hT : TpM υ g n) (hW : ∀ i, i < 96 → υ.1 15 i = wordsF i) (h21 : υ.1 0 21 = nI (posn g n j)) (hO : MSO υ t o) :
    ∃ τ1 υ1, (∀ K : St → Option (Int32 × St), ob1 (F_Reader_expect τ (10 + nI p)) (fun s_8 => (ob1 (F_Reader_readLevel s_8 (0 : Int32) (0 : Int32)) (fun s_9 => (ob1 (F_Reader_expect s_9 (59 : Int32)) K)))) = K τ1) ∧ FrR q τ τ1 ∧ FrM t υ υ1 ∧
      ((∃ j' ns, (∀ K : St → Int32 → Int32 → Option (Int32 × St), (ob1 (F_Model_next υ) (fun s_14 => (if ¬ (s_14.1 0 23) = (3 : Int32) then (F_Model_text_59 K s_14 (nI p)) else (if ¬ (s_14.1 0 24) = nI p then (F_Model_text_59 K s_14 (nI p)) else (F_Model_text_60 K s_14 (nI p) (1 : Int32)))))) = K υ1 1 (nI p + 1)) ∧ CS g n q τ1 j' (o ++ ns) ∧ j' ≤ N ∧ (o ++ ns).length ≤ j' ∧ Net ns ∧ (∀ c ∈ ns, cOk c) ∧ υ1.1 0 21 = nI (posn g n j') ∧ MSO υ1 t (o ++ ns) ∧ υ1.1 8 (4 * t + p) = nI o.length ∧ (∀ c, c < 4 * t + p → υ1.1 8 c = υ.1 8 c) ∧ partP g n p j o = some (j', o ++ ns)) ∨
       (∃ pl, pl ≤ 160 ∧ (∀ K : St → Int32 → Int32 → Option (Int32 × St), (ob1 (F_Model_next υ) (fun s_14 => (if ¬ (s_14.1 0 23) = (3 : Int32) then (F_Model_text_59 K s_14 (nI p)) else (if ¬ (s_14.1 0 24) = nI p then (F_Model_text_59 K s_14 (nI p)) else (F_Model_text_60 K s_14 (nI p) (1 : Int32)))))) = K υ1 0 (nI p + 1)) ∧ Flt q τ1 pl ∧ υ1.1 0 22 = nI pl ∧ υ1.1 0 10 = nI t ∧ partP g n p j o = none)) := by
  have hn := hT.1
  obtain ⟨υ0, e0, f0, x21, x22, x23, -, x24⟩ := next_at hT hW h21
  have hk := tk_kl g n j
  obtain ⟨-, -, -, -, -, -, -, -, t3⟩ := kl_tab _ hk
  obtain ⟨τa, a1, a2, a3⟩ := expect_at hC (by omega) (by omega) (k := 10 + p) (by omega) (x := 10 + nI p) (nI_add 10 p)
  have hO0 : MSO υ0 t o := ⟨(f0.2 _ _ (by omega)).trans hO.1, (f0.2 _ _ (by omega)).trans hO.2.1, fun i hi => (f0.2 _ _ (by omega)).trans (hO.2.2 i hi)⟩
  have i4 : (4 : Int32) * nI t + nI p = nI (4 * t + p) := by rw [show (4 : Int32) = nI 4 from rfl, pk_mul, nI_add]
  have fs : FrM t υ (up1 υ0 8 (4 * t + p) (nI o.length)) := f0.fe.m.tr ⟨rfl, fun r c _ _ h3 _ => up1_off (by omega)⟩
  have lev := (descent (q := q) hN hend 64).1 0 0 (by omega) (by omega) (by omega)
  have pl160 : ∀ j', (Tk g n j').2.2.1 ≤ 160 := fun j' => by have := place_le g n j'; omega
  rcases a3 with ⟨k10, a3⟩ | ⟨k10, a3⟩
  rotate_left
  · -- another token: both fail here
    have bad : ∀ K : St → Int32 → Int32 → Option (Int32 × St), (ob1 (F_Model_next υ) (fun s_14 => (if ¬ (s_14.1 0 23) = (3 : Int32) then (F_Model_text_59 K s_14 (nI p)) else (if ¬ (s_14.1 0 24) = nI p then (F_Model_text_59 K s_14 (nI p)) else (F_Model_text_60 K s_14 (nI p) (1 : Int32)))))) = K (up1 υ0 8 (4 * t + p) (nI o.length)) 0 (nI p + 1) := by
      intro K
      rw [e0]
      simp only [ob1_some]
      have no : F_Model_text_59 K υ0 (nI p) = K (up1 υ0 8 (4 * t + p) (nI o.length)) 0 (nI p + 1) := by
        unfold F_Model_text_59 F_Model_text_60 F_Model_text_93 F_Model_text_94
        rw [hO0.1, hO0.2.1, i4, if_pos (inB_nI (by omega) (by decide)), nI_clamp (by omega)]
        simp only [lt, if_true]
      rw [no]
      by_cases c3 : υ0.1 0 23 = 3
      · rw [if_neg (not_not_intro c3), if_pos]
        intro z
        rw [x23] at c3
        have h12 := t3.mp c3
        have := x24 (by omega) (by omega)
        rw [this] at z
        have := (nI_eq (by omega) (by omega)).mp z
        omega
      · rw [if_pos c3]
    refine ⟨τa, _, fun K => ?_, a2, fs, Or.inr ⟨_, pl160 j, bad, a3, (up1_off (by omega)).trans x22, (up1_off (by omega)).trans hO0.1, if_neg k10⟩⟩
    rw [a1]
    simp only [ob1_some]
    rw [show F_Reader_readLevel τa (0 : Int32) (0 : Int32) = some τa from flt_level 64 0 τa 0 a3 (by omega) (by omega)]
    simp only [ob1_some]
    rw [expect_flt a3]
    rfl
  · have hk3 : υ0.1 0 23 = 3 := by rw [x23]; exact t3.mpr (by omega)
    have hkv : υ0.1 0 24 = nI p := by
      have := x24 (by omega) (by omega)
      rw [k10, Nat.add_sub_cancel_left] at this
      exact this
    have jN : j < N := by
      rcases Nat.lt_or_ge j N with z | z
      · exact z
      · exact absurd (k10.symm.trans (hend j z)) (by omega)
    -- the reference reads an E from here
    have hM0 : MS (up1 (up1 (up1 υ0 8 (4 * t + p) (nI o.length)) 0 27 0) 0 28 0) t [] o := by
      refine ⟨⟨?_, ?_, fun i hi => ?_⟩, ⟨?_, fun i x hx => by simp at hx⟩, up1_on, fun x hx => by simp at hx⟩
      · rw [up1_off (by omega), up1_off (by omega), up1_off (by omega)]; exact hO0.1
      · rw [up1_off (by omega), up1_off (by omega), up1_off (by omega)]; exact hO0.2.1
      · rw [up1_off (by omega), up1_off (by omega), up1_off (by omega)]; exact hO0.2.2 i hi
      · rw [up1_off (by omega), up1_on]; rfl
    have fs2 : FrM t υ (up1 (up1 (up1 υ0 8 (4 * t + p) (nI o.length)) 0 27 0) 0 28 0) := fs.tr ⟨rfl, fun r c h1 _ _ _ => by rw [up1_off (by omega), up1_off (by omega)]⟩
    have h21' : (up1 (up1 (up1 υ0 8 (4 * t + p) (nI o.length)) 0 27 0) 0 28 0).1 0 21 = nI (posn g n (j + 1)) := by
      rw [up1_off (by omega), up1_off (by omega), up1_off (by omega)]
      exact x21
    have eread : ∀ (ok : Bool) (j' : Nat) (o' : List Nat), run (TT g n) FU (j + 1) true true [] o = some (ok, j', o') → ∃ υ2, (∀ K : St → Int32 → Int32 → Option (Int32 × St), (ob1 (F_Model_next υ) (fun s_14 => (if ¬ (s_14.1 0 23) = (3 : Int32) then (F_Model_text_59 K s_14 (nI p)) else (if ¬ (s_14.1 0 24) = nI p then (F_Model_text_59 K s_14 (nI p)) else (F_Model_text_60 K s_14 (nI p) (1 : Int32)))))) = K υ2 (bI ok) (nI p + 1)) ∧ FrE t (up1 (up1 (up1 υ0 8 (4 * t + p) (nI o.length)) 0 27 0) 0 28 0) υ2 ∧ (ok = true → υ2.1 0 21 = nI (posn g n (j' + 1)) ∧ MSO υ2 t o') ∧ υ2.1 0 22 = nI (Tk g n j').2.2.1 := by
      intro ok j' o' hr
      obtain ⟨υ2, b1, b2, b3, b4⟩ := eread_at ht hN hend FU (j + 1) true true [] o _ ok j' o' (hT.fm fs2) (fun i hi => (fs2.2 _ _ (by omega) (by omega) (by omega) (by omega)).trans (hW i hi)) h21' hM0 (by simp; omega) (by omega) hr
      refine ⟨υ2, fun K => ?_, b2, b3, b4⟩
      rw [e0]
      simp only [ob1_some]
      rw [if_neg (not_not_intro hk3), if_neg (not_not_intro hkv)]
      unfold F_Model_text_60 F_Model_text_93 F_Model_text_94
      rw [hO0.1, hO0.2.1, i4, if_pos (inB_nI (by omega) (by decide)), nI_clamp (by omega)]
      simp only [lt]
      rw [if_neg one_ne]
      have b1' : F_Model_eRead (up1 υ0 8 (4 * t + p) (nI o.length)) = some (bI ok, υ2) := b1
      rw [b1']
      simp only [ob2_some]
      cases ok with
      | false => rw [if_pos (show bI false = 0 from rfl)]; rfl
      | true => rw [if_neg (show ¬ bI true = 0 by decide)]; rfl
    obtain ⟨τb, c1, c2, c3⟩ := lev τa (j + 1) o [] true a3 (by omega) (by omega) rfl trivial (fun _ => rfl) (fun z => absurd z (by omega))
    have c1' : F_Reader_readLevel τa (0 : Int32) (0 : Int32) = some τb := c1
    have bad : ∀ j', RunFail (TT g n) (j + 1) true true [] o j' → ∃ o', run (TT g n) FU (j + 1) true true [] o = some (false, j', o') := by
      intro j' hf
      obtain ⟨h1, o', h2⟩ := hf
      have hb := run_bound hend _ _ _ _ _ _ _ _ _ (h2 0) (by omega)
      refine ⟨o', ?_⟩
      have := h2 (FU - (j' - (j + 1)) - 1)
      rw [show FU - (j' - (j + 1)) - 1 + (j' - (j + 1)) + 1 = FU by rw [FU_eq]; omega] at this
      exact this
    rcases c3 with ⟨j', o', mn', H, o2, b1, b2, b3, b4, ⟨ns, b5, b6, b7⟩, b8, b9, b10⟩ | ⟨j', b1, b2⟩
    · obtain ⟨τc, d1, d2, d3⟩ := expect_at b1 (by omega) (by omega) (k := 59) (by decide) (x := 59) rfl
      have u1 : unw 1 H o2 = ([], o') := b9 1 (by decide)
      have kT' : (TT g n j').1 = (Tk g n j').1 := rfl
      have cls : ∀ K : St → Option (Int32 × St), ob1 (F_Reader_expect τ (10 + nI p)) (fun s_8 => (ob1 (F_Reader_readLevel s_8 (0 : Int32) (0 : Int32)) (fun s_9 => (ob1 (F_Reader_expect s_9 (59 : Int32)) K)))) = K τc := by
        intro K
        rw [a1]
        simp only [ob1_some]
        rw [c1']
        simp only [ob1_some]
        rw [d1]
        rfl
      rcases d3 with ⟨k59, d3⟩ | ⟨k59, d3⟩
      · have jN' : j' < N := by
          rcases Nat.lt_or_ge j' N with z | z
          · exact z
          · exact absurd (k59.symm.trans (hend j' z)) (by decide)
        have hr : run (TT g n) FU (j + 1) true true [] o = some (true, j', o') := by
          have h1 := b8.2 (FU - (j' - (j + 1)))
          rw [show FU - (j' - (j + 1)) + (j' - (j + 1)) = FU by rw [FU_eq]; omega] at h1
          rw [h1, show FU - (j' - (j + 1)) = (FU - (j' - (j + 1)) - 1) + 1 by rw [FU_eq]; omega, run, kT', if_pos k59, u1]
          rfl
        obtain ⟨υ2, r1, r2, r3, r4⟩ := eread true j' o' hr
        obtain ⟨r5, r6⟩ := r3 rfl
        refine ⟨τc, υ2, cls, (a2.tr c2).tr d2, fs2.tr r2.m, Or.inl ⟨j' + 1, ns, r1, by rw [← b5]; exact d3, by omega, by rw [← b5]; omega, b6, b7, r5, by rw [← b5]; exact r6, ?_, fun c hc => ?_, ?_⟩⟩
        · rw [r2.2 8 _ (by omega) (by omega) (by omega), up1_off (by omega), up1_off (by omega), up1_on]
        · rw [r2.2 8 _ (by omega) (by omega) (by omega), up1_off (by omega), up1_off (by omega), up1_off (by omega)]
          exact f0.2 _ _ (by omega)
        · unfold partP
          rw [FU_eq] at hr
          rw [if_pos k10, hr, ← b5]
      · obtain ⟨o'', hr⟩ := bad j' (b8.fail (run_stuck (fun _ => by rw [u1]) (fun z => absurd z k59) b10))
        obtain ⟨υ2, r1, r2, r3, r4⟩ := eread false j' o'' hr
        refine ⟨τc, υ2, cls, (a2.tr c2).tr d2, fs2.tr r2.m, Or.inr ⟨_, pl160 j', r1, d3, r4, (r2.2 _ _ (by omega) (by omega) (by omega)).trans hM0.1.1, ?_⟩⟩
        unfold partP
        rw [FU_eq] at hr
        rw [if_pos k10, hr]
    · obtain ⟨o'', hr⟩ := bad j' b2
      obtain ⟨υ2, r1, r2, r3, r4⟩ := eread false j' o'' hr
      have hp0 : partP g n p j o = none := by
        unfold partP
        rw [FU_eq] at hr
        rw [if_pos k10, hr]
      refine ⟨τb, υ2, fun K => ?_, a2.tr c2, fs2.tr r2.m, Or.inr ⟨_, pl160 j', r1, b1, r4, (r2.2 _ _ (by omega) (by omega) (by omega)).trans hM0.1.1, hp0⟩⟩
      rw [a1]
      simp only [ob1_some]
      rw [c1']
      simp only [ob1_some]
      rw [expect_flt b1]
      rfl
end TX
