/-! ===== the small ones ===== -/
theorem op_count {σ μ : St} {na nt : Nat} (h : Rel σ μ na nt) (v : Int32) : F_Main_count σ v = F_Model_count μ v := by
  obtain ⟨⟨-, h1, h2, -⟩, ⟨n, -, h3, h4, -⟩, -, ⟨-, h5, h6, ⟨lw, -, h7, h8⟩, -⟩, -⟩ := h
  unfold F_Main_count F_Model_count F_Main_count_0 F_Model_count_0
  rw [h1, h2, h3, h4, h5, h6, h7, h8]
theorem lateE {k m : Nat} (hk : k < 6) (hm : m < 10) : (if nI k = 2 then F_Main_bounded (1 - nI m / 5) 0 2 else (if ¬ nI k = 4 then 2 else F_Main_bounded (1 - nI m / 5) 0 2)) = nI (lateN k m) := by
  revert hm; revert m; revert hk; revert k
  decide +kernel
theorem lateM {σ μ : St} {na nt : Nat} (h : Rel σ μ na nt) {i : Nat} (hi : i < na) : F_Model_lateOf μ (nI i) = some (σ.1 (27 + i) 3) := by
  obtain ⟨⟨h0, h1, h2, h3, h4⟩, -⟩ := h
  obtain ⟨k, t, m, hk, ht, hm, a0, a1, a2, a3, -⟩ := h3 i hi
  obtain ⟨b0, b1, b2, -⟩ := h4 i (by omega)
  unfold F_Model_lateOf F_Model_lateOf_0
  simp only [inB_nI (show i < 6 by omega) (by decide), if_true, nI_clamp (show i < 2 ^ 31 by omega)]
  unfold F_Model_lateOf_20
  simp only [inB_nI (show i < 6 by omega) (by decide), if_true, nI_clamp (show i < 2 ^ 31 by omega)]
  rw [← b0, ← b2, a0, a2, a3, ← lateE hk hm]
  split
  · rfl
  · split <;> rfl
theorem op_told {σ μ : St} {na nt : Nat} (h : Rel σ μ na nt) (v w : Int32) : ∃ r, F_Main_told σ v w = some r ∧ F_Model_told μ v w = some r := by
  unfold F_Main_told F_Model_told F_Main_told_0 F_Model_told_0
  rcases armC h v with ⟨k, hk, rfl, e1, e2⟩ | ⟨e1, e2, -⟩
  · rw [e1, e2]
    have hl := lateM h hk
    obtain ⟨⟨h0, h1, h2, h3, h4⟩, -⟩ := h
    obtain ⟨b0, b1, b2, b3, b4, -⟩ := h4 k (by omega)
    simp only [ob1, inB_nI (show k < 6 by omega) (by decide), if_true, nI_clamp (show k < 2 ^ 31 by omega)]
    rw [hl, ← b0, ← b1, ← b2, ← b3, ← b4]
    dsimp only
    repeat' split
    all_goals exact ⟨_, rfl, rfl⟩
  · rw [e1, e2]
    exact ⟨_, rfl, rfl⟩
theorem op_force {σ μ : St} {na nt : Nat} (h : Rel σ μ na nt) (v : Int32) : ∃ r σ' μ', F_Main_force σ v = some (r, σ') ∧ F_Model_force μ v = some (r, μ') ∧ Rel σ' μ' na nt := by
  unfold F_Main_force F_Model_force F_Main_force_0 F_Model_force_0
  obtain ⟨hA, hT, hS, ⟨t0, t1, t2, ⟨lw, l0, l1, l2⟩, t3⟩, hI, hM⟩ := id h
  simp only [in_eq]
  rw [t1, t2]
  by_cases c : F_Main_isWithin v 0 (nI nt - 1) = 0
  · rw [if_neg (not_not_intro c), if_neg (not_not_intro c)]
    exact ⟨_, _, _, rfl, rfl, h⟩
  · rw [if_pos c, if_pos c]
    have hn : 0 < nt := by omega
    rw [show nI nt - 1 = nI (nt - 1) from by rw [show (1 : Int32) = nI 1 from rfl, pk_sub (by omega)]] at c
    obtain ⟨k, hk, rfl⟩ := iw_some (by omega) c
    refine ⟨_, _, _, by rw [l1]; rfl, by rw [l2]; rfl, ?_⟩
    refine ⟨hA.congr (fun p j q => up1_off (by omega)) (fun p j q => up1_off (by omega)), hT.congr (fun p j q => up1_off (by omega)) (fun p j q => up1_off (by omega)), hS.congr (fun p j q => up1_off (by omega)) (fun p j q => up1_off (by omega)), ⟨t0, (up1_off (by omega)).trans t1, (up1_off (by omega)).trans t2, ⟨k, by omega, up1_on, up1_on⟩, fun t ht => ?_⟩, hI.congr (fun p j q => up1_off (by omega)) (fun p j q => up1_off (by omega)), hM.congr (fun p j q => up1_off (by omega))⟩
    have e1 : (up1 σ 20 4 (nI k)).1 (14 + t) = σ.1 (14 + t) := up1_ne (by omega)
    have e2 : (up1 σ 20 4 (nI k)).1 (8 + t) = σ.1 (8 + t) := up1_ne (by omega)
    have e3 : (up1 μ 0 11 (nI k)).1 7 = μ.1 7 := up1_ne (by omega)
    have e4 : (up1 μ 0 11 (nI k)).1 8 = μ.1 8 := up1_ne (by omega)
    rw [e1, e2, e3, e4]
    exact t3 t ht
