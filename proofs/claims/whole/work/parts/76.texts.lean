/-! ===== text: the three parts, and all ===== -/
theorem getD_l {a b : List Nat} {i : Nat} (h : i < a.length) : (a ++ b).getD i 0 = a.getD i 0 := by
  rw [List.getD_eq_getElem?_getD, List.getD_eq_getElem?_getD, List.getElem?_append_left h]
theorem getD_r {a b : List Nat} (k : Nat) : (a ++ b).getD (a.length + k) 0 = b.getD k 0 := by
  rw [List.getD_eq_getElem?_getD, List.getD_eq_getElem?_getD, List.getElem?_append_right (by omega), Nat.add_sub_cancel_left]
section TY
variable {g : Nat → Nat} {n q t : Nat}
def FrRd (q : Nat) (σ τ : St) : Prop := τ.2 = σ.2 ∧ ∀ p c, ¬ (2 ≤ p ∧ p ≤ 6) → ¬ (p = q ∧ 2 ≤ c) → p ≠ q + 6 → τ.1 p c = σ.1 p c
theorem FrRd.tr {a b c : St} (h : FrRd q a b) (k : FrRd q b c) : FrRd q a c := ⟨k.1.trans h.1, fun p z h1 h2 h3 => (k.2 p z h1 h2 h3).trans (h.2 p z h1 h2 h3)⟩
theorem FrX.d {σ τ : St} (h : FrX q σ τ) : FrRd q σ τ := ⟨h.1, fun p c h1 h2 h3 => h.2 p c (by omega) h2 h3⟩
theorem endPart_0 (σ : St) : F_Text_endPart σ q (nI 0) = up1 σ q 3 (σ.1 q 2) := by
  unfold F_Text_endPart F_Text_endPart_0 F_Text_endPart_12
  rw [if_neg (not_not_intro (show nI 0 = 0 from rfl))]
  simp only [lt]
  rw [if_pos (show ¬ nI 0 = 1 by decide)]
theorem endPart_1 (σ : St) : F_Text_endPart σ q (nI 1) = up1 σ q 4 (σ.1 q 2) := by
  unfold F_Text_endPart F_Text_endPart_0 F_Text_endPart_12
  rw [if_pos (show ¬ nI 1 = 0 by decide), if_neg (not_not_intro (show nI 1 = 1 from rfl))]
  simp only [lt]
theorem endPart_2 (σ : St) : F_Text_endPart σ q (nI 2) = σ := by
  unfold F_Text_endPart F_Text_endPart_0 F_Text_endPart_12
  rw [if_pos (show ¬ nI 2 = 0 by decide), if_pos (show ¬ nI 2 = 1 by decide)]
theorem Flt.up {τ : St} {pl c : Nat} (h : Flt q τ pl) (hc : 3 ≤ c) (x : Int32) : Flt q (up1 τ q c x) pl := by
  obtain ⟨h1, h2, h3, h4, u, h5, h6⟩ := h
  exact ⟨h1, h2, h3, (up1_off (by omega)).trans h4, u, h5, (up1_off (by omega)).trans h6⟩
theorem CS.up {τ : St} {j : Nat} {o : List Nat} {c : Nat} (h : CS g n q τ j o) (hc : 3 ≤ c) (x : Int32) : CS g n q (up1 τ q c x) j o := by
  obtain ⟨h1, h2, h3, h4, h5, h6, h7⟩ := h
  exact ⟨h1, h2, h3.fr (fun p z hz => up1_off (by omega)), (up1_off (by omega)).trans h4, (up1_off (by omega)).trans h5, (up1_off (by omega)).trans h6, fun i hi => (up1_off (by omega)).trans (h7 i hi)⟩
theorem FrX.up {τ : St} {c : Nat} (hc : 2 ≤ c) (x : Int32) : FrX q τ (up1 τ q c x) := ⟨rfl, fun p z h1 h2 h3 => up1_off (by omega)⟩
theorem flt_end {τ : St} {pl : Nat} (h : Flt q τ pl) : ∀ p, p < 3 → ∃ τ', F_Text_endPart τ q (nI p) = τ' ∧ FrX q τ τ' ∧ Flt q τ' pl := by
  intro p hp
  match p, hp with
  | 0, _ => rw [endPart_0]; exact ⟨_, rfl, FrX.up (by omega) _, h.up (by omega) _⟩
  | 1, _ => rw [endPart_1]; exact ⟨_, rfl, FrX.up (by omega) _, h.up (by omega) _⟩
  | 2, _ => rw [endPart_2]; exact ⟨_, rfl, FrX.rf, h⟩
  | p + 3, h => exact absurd h (by omega)
theorem flt_read {pl : Nat} : ∀ (M p : Nat) (τ : St), Flt q τ pl → p ≤ 3 → 3 - p < M → ∃ τ', F_Reader_read_26 M τ (nI p) = some (nI pl, τ') ∧ FrX q τ τ' := by
  intro M
  induction M with
  | zero => intro p τ _ _ h; omega
  | succ M ih =>
    intro p τ h hp hM
    rw [F_Reader_read_26]
    by_cases c : p = 3
    · subst c
      rw [if_pos (by decide), expect_flt h]
      simp only [ob1_some]
      rw [h.2.2.2.1]
      exact ⟨τ, rfl, FrX.rf⟩
    · rw [if_neg (show ¬ (2 : Int32) < nI p from nI_nlt (a := 2) (by omega) (by decide)), expect_flt h]
      simp only [ob1_some]
      rw [show F_Reader_readLevel τ (0 : Int32) (0 : Int32) = some τ from flt_level 64 0 τ 0 h (by omega) (by omega)]
      simp only [ob1_some]
      rw [expect_flt h]
      simp only [ob1_some]
      rw [h.2.1, if_pos (show P_Text q from h.1)]
      obtain ⟨τ1, e1, f1, h1⟩ := flt_end h p (by omega)
      simp only [lt]
      rw [e1, nI_1]
      obtain ⟨τ2, e2, f2⟩ := ih (p + 1) τ1 h1 (by omega) (by omega)
      exact ⟨τ2, e2, f1.tr f2⟩
theorem stop_M (M : Nat) (υ : St) (x : Int32) : F_Model_text_26 (M + 1) υ 0 x = F_Model_text_122 υ 0 := by
  rw [F_Model_text_26]
  unfold F_Model_text_101
  rw [if_pos rfl, if_pos rfl]
  split <;> rfl
/-- what a read text is to both -/
def TxOk (τ υ : St) (q t : Nat) : Prop := ∃ e0 e1 e2 : Nat, e0 ≤ e1 ∧ e1 ≤ e2 ∧ e2 ≤ 160 ∧ τ.1 q 3 = nI e0 ∧ τ.1 q 4 = nI e1 ∧ τ.1 q 2 = nI e2 ∧ υ.1 8 (4 * t) = 0 ∧ υ.1 8 (4 * t + 1) = nI e0 ∧ υ.1 8 (4 * t + 2) = nI e1 ∧ υ.1 0 29 = nI e2 ∧ (∀ i, i < e2 → Enc (τ.1 (q + 6) i) (υ.1 7 (200 * t + i))) ∧ hgt (τ.1 (q + 6)) e0 0 0 = some 1 ∧ hgt (τ.1 (q + 6)) (e1 - e0) e0 0 = some 1 ∧ hgt (τ.1 (q + 6)) (e2 - e1) e1 0 = some 1
def goodP (g : Nat → Nat) (n : Nat) : Bool := match partP g n 0 0 [] with
  | none => false
  | some (j1, o1) => (match partP g n 1 j1 o1 with
    | none => false
    | some (j2, o2) => (match partP g n 2 j2 o2 with
      | none => false
      | some (j3, _) => (Tk g n j3).1 == 0))
theorem text_read {σ μ : St} (hq : 8 ≤ q ∧ q < 14) (hm : σ.2 2 1 = q) (hTc : TpC σ g n) (hTm : TpM μ g n) (hW : ∀ i, i < 96 → μ.1 15 i = wordsF i) (ht : t < 6) (h10 : μ.1 0 10 = nI t) : ∃ r τ υ, F_Reader_read σ = some (r, τ) ∧ F_Model_text_26 FU (up1 (up1 μ 0 21 0) 0 29 0) 1 0 = F_Model_text_122 υ (bI (goodP g n)) ∧ FrRd q σ τ ∧ FrM t μ υ ∧ υ.1 0 10 = nI t ∧ (goodP g n = true → r = -1 ∧ TxOk τ υ q t) ∧ (goodP g n = false → ∃ pl, pl ≤ 160 ∧ r = nI pl ∧ υ.1 0 22 = nI pl) := by
  have hn := hTc.1
  unfold F_Reader_read F_Reader_read_0 F_Text_empty F_Text_empty_0
  rw [hm, if_pos (show P_Text q from hq)]
  simp only [lt]
  have f0 : FrRd q σ (up1 (up1 (up1 σ q 2 0) 2 2 0) 2 3 (-1)) := ⟨rfl, fun p c h1 h2 h3 => by rw [up1_off (by omega), up1_off (by omega), up1_off (by omega)]⟩
  have hT0 : TpC (up1 (up1 (up1 σ q 2 0) 2 2 0) 2 3 (-1)) g n := ⟨hTc.1, (f0.2 _ _ (by omega) (by omega) (by omega)).trans hTc.2.1, fun i hi => ⟨(hTc.2.2 i hi).1, (f0.2 _ _ (by omega) (by omega) (by omega)).trans (hTc.2.2 i hi).2⟩⟩
  obtain ⟨τ0, e0, hk, f1⟩ := tape_read hT0
  rw [e0]
  simp only [ob1_some]
  obtain ⟨N, hNn, hn160, hE⟩ := hk.end_
  have hend : ∀ i, N ≤ i → (Tk g n i).1 = 0 := fun i hi => by rw [hE i hi]
  have hN : N ≤ 160 := by omega
  have C0 : CS g n q τ0 0 [] := by
    refine ⟨hq, by rw [f1.1]; exact hm, hk, ?_, ?_, ?_, fun i hi => by simp at hi⟩
    · rw [f1.2 _ _ (by omega) (by omega) (by omega) (by omega), up1_off (by omega), up1_on]; rfl
    · rw [f1.2 _ _ (by omega) (by omega) (by omega) (by omega), up1_on]
    · rw [f1.2 _ _ (by omega) (by omega) (by omega) (by omega), up1_off (by omega), up1_off (by omega), up1_on]; rfl
  have F0 : FrRd q σ τ0 := f0.tr ⟨f1.1, fun p c h1 _ _ => f1.2 p c (by omega) (by omega) (by omega) (by omega)⟩
  have m0 : FrM t μ (up1 (up1 μ 0 21 0) 0 29 0) := ⟨rfl, fun p c h1 _ _ _ => by rw [up1_off (by omega), up1_off (by omega)]⟩
  have M0 : MSO (up1 (up1 μ 0 21 0) 0 29 0) t [] := ⟨(m0.2 _ _ (by omega) (by omega) (by omega) (by omega)).trans h10, up1_on, fun i hi => by simp at hi⟩
  have x0 : (up1 (up1 μ 0 21 0) 0 29 0).1 0 21 = nI (posn g n 0) := by rw [up1_off (by omega), up1_on]; rfl
  generalize up1 (up1 μ 0 21 0) 0 29 0 = υ0 at m0 M0 x0 ⊢
  have W0 : ∀ {υ : St}, FrM t μ υ → ∀ i, i < 96 → υ.1 15 i = wordsF i := fun f i hi => (f.2 _ _ (by omega) (by omega) (by omega) (by omega)).trans (hW i hi)
  rw [show FU = 996 + 1 + 1 + 1 + 1 from FU_eq]
  unfold goodP
  -- the first part
  obtain ⟨τ1, υ1, c1, r1, m1, p1⟩ := part_at (p := 0) hN hend ht (by omega) C0 (by omega) (Nat.le_refl _) (hTm.fm m0) (W0 m0) x0 M0
  rw [F_Reader_read_26, if_neg (show ¬ (2 : Int32) < 0 by decide), show (0 : Int32) = nI 0 from rfl]
  have c1' := c1 (fun s_10 => (if P_Text (s_10.2 2 1) then (lt (F_Text_endPart s_10 (s_10.2 2 1) (nI 0)) (fun s_12 => (F_Reader_read_26 (996 + 1 + 1 + 1) s_12 (nI 0 + 1)))) else none))
  rw [show (nI 0 : Int32) = 0 from rfl] at c1'
  rw [show (nI 0 : Int32) = 0 from rfl, c1']
  rw [F_Model_text_26, if_neg (show ¬ (3 : Int32) ≤ 0 by decide), if_neg one_ne]
  rcases p1 with ⟨j1, n1, d1, C1, hj1, ho1, N1, K1, x1, M1, s1, -, g1⟩ | ⟨pl, hpl, d1, L1, y1, z1, g1⟩
  rotate_left
  · have d1' := d1 (fun z0 zv1 zv2 => F_Model_text_26 (996 + 1 + 1 + 1) z0 zv1 zv2)
    rw [show (nI 0 : Int32) = 0 from rfl] at d1'
    rw [d1', stop_M, L1.2.1, if_pos (show P_Text q from hq)]
    obtain ⟨τ2, e2, f2, L2⟩ := flt_end L1 0 (by omega)
    simp only [lt]
    rw [show (0 : Int32) = nI 0 from rfl, e2, nI_1]
    obtain ⟨τ3, e3, f3⟩ := flt_read (996 + 1 + 1 + 1) 1 τ2 L2 (by omega) (by omega)
    rw [e3, g1]
    exact ⟨_, τ3, υ1, rfl, rfl, F0.tr (r1.x.tr (f2.tr f3)).d, m0.tr m1, z1, (fun h => by cases h), fun _ => ⟨pl, hpl, rfl, y1⟩⟩
  have d1' := d1 (fun z0 zv1 zv2 => F_Model_text_26 (996 + 1 + 1 + 1) z0 zv1 zv2)
  rw [show (nI 0 : Int32) = 0 from rfl] at d1'
  rw [d1', C1.2.1, if_pos (show P_Text q from hq), g1, show (0 : Int32) = nI 0 from rfl, endPart_0]
  simp only [lt]
  rw [nI_1, C1.2.2.2.2.2.1]
  have C1' := C1.up (c := 3) (by omega) (nI ([] ++ n1).length)
  have F1 : FrRd q σ (up1 τ1 q 3 (nI ([] ++ n1).length)) := F0.tr (r1.x.tr (FrX.up (by omega) _)).d
  have E1 : (up1 τ1 q 3 (nI ([] ++ n1).length)).1 q 3 = nI ([] ++ n1).length := up1_on
  generalize up1 τ1 q 3 (nI ([] ++ n1).length) = τ1' at C1' F1 E1 ⊢
  -- the second part
  obtain ⟨τ2, υ2, c2, r2, m2, p2⟩ := part_at (p := 1) hN hend ht (by omega) C1' hj1 ho1 (hTm.fm (m0.tr m1)) (W0 (m0.tr m1)) x1 M1
  rw [F_Reader_read_26, if_neg (show ¬ (2 : Int32) < nI (0 + 1) by decide)]
  have c2' := c2 (fun s_10 => (if P_Text (s_10.2 2 1) then (lt (F_Text_endPart s_10 (s_10.2 2 1) (nI 1)) (fun s_12 => (F_Reader_read_26 (996 + 1 + 1) s_12 (nI 1 + 1)))) else none))
  rw [show nI (0 + 1) = nI 1 from rfl, c2']
  rw [F_Model_text_26, if_neg (show ¬ (3 : Int32) ≤ nI 1 by decide), if_neg one_ne]
  rcases p2 with ⟨j2, n2, d2, C2, hj2, ho2, N2, K2, x2, M2, s2, k2, g2⟩ | ⟨pl, hpl, d2, L1, y1, z1, g2⟩
  rotate_left
  · rw [d2 (fun z0 zv1 zv2 => F_Model_text_26 (996 + 1 + 1) z0 zv1 zv2), stop_M, L1.2.1, if_pos (show P_Text q from hq)]
    obtain ⟨τ3, e2, f2, L2⟩ := flt_end L1 1 (by omega)
    simp only [lt]
    rw [e2, nI_1]
    obtain ⟨τ4, e3, f3⟩ := flt_read (996 + 1 + 1) 2 τ3 L2 (by omega) (by omega)
    rw [e3]
    simp only [g2]
    exact ⟨_, τ4, υ2, rfl, rfl, F1.tr (r2.x.tr (f2.tr f3)).d, (m0.tr m1).tr m2, z1, (fun h => by cases h), fun _ => ⟨pl, hpl, rfl, y1⟩⟩
  rw [d2 (fun z0 zv1 zv2 => F_Model_text_26 (996 + 1 + 1) z0 zv1 zv2), C2.2.1, if_pos (show P_Text q from hq), endPart_1]
  simp only [lt, g2]
  rw [nI_1, C2.2.2.2.2.2.1]
  have C2' := C2.up (c := 4) (by omega) (nI ([] ++ n1 ++ n2).length)
  have F2 : FrRd q σ (up1 τ2 q 4 (nI ([] ++ n1 ++ n2).length)) := F1.tr (r2.x.tr (FrX.up (by omega) _)).d
  have E2 : (up1 τ2 q 4 (nI ([] ++ n1 ++ n2).length)).1 q 4 = nI ([] ++ n1 ++ n2).length := up1_on
  have E2' : (up1 τ2 q 4 (nI ([] ++ n1 ++ n2).length)).1 q 3 = nI ([] ++ n1).length := (up1_off (by omega)).trans ((r2.2 _ _ (by omega) (by omega) (by omega)).trans E1)
  generalize up1 τ2 q 4 (nI ([] ++ n1 ++ n2).length) = τ2' at C2' F2 E2 E2' ⊢
  -- the third part
  obtain ⟨τ3, υ3, c3, r3, m3, p3⟩ := part_at (p := 2) hN hend ht (by omega) C2' hj2 ho2 (hTm.fm ((m0.tr m1).tr m2)) (W0 ((m0.tr m1).tr m2)) x2 M2
  rw [F_Reader_read_26, if_neg (show ¬ (2 : Int32) < nI (1 + 1) by decide)]
  have c3' := c3 (fun s_10 => (if P_Text (s_10.2 2 1) then (lt (F_Text_endPart s_10 (s_10.2 2 1) (nI 2)) (fun s_12 => (F_Reader_read_26 (996 + 1) s_12 (nI 2 + 1)))) else none))
  rw [show nI (1 + 1) = nI 2 from rfl, c3']
  rw [F_Model_text_26, if_neg (show ¬ (3 : Int32) ≤ nI 2 by decide), if_neg one_ne]
  rcases p3 with ⟨j3, n3, d3, C3, hj3, ho3, N3, K3, x3, M3, s3, k3, g3⟩ | ⟨pl, hpl, d3, L1, y1, z1, g3⟩
  rotate_left
  · rw [d3 (fun z0 zv1 zv2 => F_Model_text_26 (996 + 1) z0 zv1 zv2), stop_M, L1.2.1, if_pos (show P_Text q from hq)]
    obtain ⟨τ4, e2, f2, L2⟩ := flt_end L1 2 (by omega)
    simp only [lt]
    rw [e2, nI_1]
    obtain ⟨τ5, e3, f3⟩ := flt_read (996 + 1) 3 τ4 L2 (by omega) (by omega)
    rw [e3]
    simp only [g3]
    exact ⟨_, τ5, υ3, rfl, rfl, F2.tr (r3.x.tr (f2.tr f3)).d, ((m0.tr m1).tr m2).tr m3, z1, (fun h => by cases h), fun _ => ⟨pl, hpl, rfl, y1⟩⟩
  rw [d3 (fun z0 zv1 zv2 => F_Model_text_26 (996 + 1) z0 zv1 zv2), C3.2.1, if_pos (show P_Text q from hq), endPart_2]
  simp only [lt, g3]
  rw [nI_1, F_Reader_read_26, if_pos (show (2 : Int32) < nI (2 + 1) by decide)]
  -- the end
  have mm := ((m0.tr m1).tr m2).tr m3
  obtain ⟨τ4, a1, a2, a3⟩ := expect_at C3 (by omega) (by omega) (k := 0) (by decide) (x := 0) rfl
  rw [a1]
  simp only [ob1_some]
  obtain ⟨υ4, b1, b2, -, b22, b23, -, -⟩ := next_at (hTm.fm mm) (W0 mm) x3
  have t0 := (kl_tab _ (tk_kl g n j3)).2.2.2.2.2.2.2.1
  rw [F_Model_text_26, if_pos (show (3 : Int32) ≤ nI (2 + 1) by decide)]
  unfold F_Model_text_101
  rw [if_neg one_ne, b1]
  simp only [ob1_some]
  unfold F_Model_text_121
  have z10 : υ4.1 0 10 = nI t := (b2.2 _ _ (by omega)).trans M3.1
  have MM := mm.tr b2.fe.m
  have FF : FrRd q σ τ4 := F2.tr (r3.x.tr a2.x).d
  rcases a3 with ⟨k0, C4⟩ | ⟨k0, L4⟩
  · rw [show ((Tk g n j3).1 == 0) = true by simpa using k0, C4.2.2.2.2.1, if_neg (not_not_intro (by rw [b23]; exact t0.mpr k0))]
    refine ⟨_, τ4, υ4, rfl, rfl, FF, MM, z10, fun _ => ⟨rfl, ([] ++ n1).length, ([] ++ n1 ++ n2).length, ([] ++ n1 ++ n2 ++ n3).length, by simp, by simp, by omega, ?_, ?_, C4.2.2.2.2.2.1, ?_, ?_, ?_, ?_, fun i hi => ?_, ?_, ?_, ?_⟩, fun h => by cases h⟩
    · rw [a2.2 _ _ (by omega) (by omega) (by omega), r3.2 _ _ (by omega) (by omega) (by omega)]; exact E2'
    · rw [a2.2 _ _ (by omega) (by omega) (by omega), r3.2 _ _ (by omega) (by omega) (by omega)]; exact E2
    · rw [b2.2 _ _ (by omega), k3 _ (by omega), k2 _ (by omega)]; exact s1
    · rw [b2.2 _ _ (by omega), k3 _ (by omega)]; exact s2
    · rw [b2.2 _ _ (by omega)]; exact s3
    · rw [b2.2 _ _ (by omega)]; exact M3.2.1
    · rw [C4.2.2.2.2.2.2 i hi, b2.2 _ _ (by omega), M3.2.2 i hi]
      refine enc_ok ?_
      have hmem : ([] ++ n1 ++ n2 ++ n3).getD i 0 ∈ [] ++ n1 ++ n2 ++ n3 := by
        rw [List.getD_eq_getElem?_getD, List.getElem?_eq_getElem hi]
        exact List.getElem_mem hi
      rcases List.mem_append.mp hmem with h | h
      · rcases List.mem_append.mp h with h | h
        · exact K1 _ (by simpa using h)
        · exact K2 _ h
      · exact K3 _ h
    · refine hgt_of ([] ++ n1) 0 0 1 (fun k hk => ?_) (fun c hc => K1 c (by simpa using hc)) (N1 0)
      rw [Nat.zero_add, C4.2.2.2.2.2.2 k (by simp only [List.length_append] at hk ⊢; omega)]
      congr 1
      rw [List.append_assoc, getD_l hk]
    · have e : ([] ++ n1 ++ n2).length - ([] ++ n1).length = n2.length := by simp
      rw [e]
      refine hgt_of n2 _ 0 1 (fun k hk => ?_) K2 (N2 0)
      rw [C4.2.2.2.2.2.2 _ (by simp only [List.length_append]; omega)]
      congr 1
      rw [getD_l (by simp only [List.length_append]; omega), getD_r]
    · have e : ([] ++ n1 ++ n2 ++ n3).length - ([] ++ n1 ++ n2).length = n3.length := by simp only [List.length_append]; omega
      rw [e]
      refine hgt_of n3 _ 0 1 (fun k hk => ?_) K3 (N3 0)
      rw [C4.2.2.2.2.2.2 _ (by simp only [List.length_append]; omega)]
      congr 1
      rw [getD_r]
  · rw [show ((Tk g n j3).1 == 0) = false by simpa using k0, L4.2.2.2.1, if_pos (by rw [b23]; exact fun z => k0 (t0.mp z))]
    exact ⟨_, τ4, υ4, rfl, rfl, FF, MM, z10, (fun h => by cases h), fun _ => ⟨_, L4.2.2.1, rfl, b22⟩⟩
end TY
