/-! ===== the class reads an E: beside the reference's machine ===== -/
def stp (c : Nat) : Int32 := if 100000 ≤ c then nI (c - 100000) else if c < 11 then -1 - nI c else if c = 13 then -12 else if c = 19 then -11 else if c = 11 then -27 else if c = 12 then -26 else if c = 14 then -24 else if c = 15 then -25 else if c = 16 then -21 else if c = 17 then -22 else -23
def cOk (c : Nat) : Prop := (100000 ≤ c ∧ c ≤ 109999) ∨ c < 6 ∨ (11 ≤ c ∧ c ≤ 19)
theorem enc_ok {c : Nat} (h : cOk c) : Enc (stp c) (nI c) := by
  rcases h with ⟨h1, h2⟩ | h | ⟨h1, h2⟩
  · refine Or.inl ⟨c - 100000, by omega, ?_, ?_⟩
    · unfold stp; rw [if_pos h1]
    · rw [show 100000 + (c - 100000) = c by omega]
  · refine Or.inr (Or.inl ⟨c, h, ?_, rfl⟩)
    unfold stp
    rw [if_neg (by omega), if_pos (by omega)]
  · have : c = 11 ∨ c = 12 ∨ c = 13 ∨ c = 14 ∨ c = 15 ∨ c = 16 ∨ c = 17 ∨ c = 18 ∨ c = 19 := by omega
    rcases this with rfl | rfl | rfl | rfl | rfl | rfl | rfl | rfl | rfl
    · exact Or.inr (Or.inr (Or.inr (Or.inr (Or.inl ⟨rfl, rfl⟩))))
    · exact Or.inr (Or.inr (Or.inr (Or.inr (Or.inr (Or.inl ⟨rfl, rfl⟩)))))
    · exact Or.inr (Or.inr (Or.inl ⟨rfl, rfl⟩))
    · exact Or.inr (Or.inr (Or.inr (Or.inr (Or.inr (Or.inr (Or.inl ⟨rfl, rfl⟩))))))
    · exact Or.inr (Or.inr (Or.inr (Or.inr (Or.inr (Or.inr (Or.inr (Or.inl ⟨rfl, rfl⟩)))))))
    · exact Or.inr (Or.inr (Or.inr (Or.inr (Or.inr (Or.inr (Or.inr (Or.inr (Or.inl ⟨rfl, rfl⟩))))))))
    · exact Or.inr (Or.inr (Or.inr (Or.inr (Or.inr (Or.inr (Or.inr (Or.inr (Or.inr (Or.inl ⟨rfl, rfl⟩)))))))))
    · exact Or.inr (Or.inr (Or.inr (Or.inr (Or.inr (Or.inr (Or.inr (Or.inr (Or.inr (Or.inr ⟨rfl, rfl⟩)))))))))
    · exact Or.inr (Or.inr (Or.inr (Or.inl ⟨rfl, rfl⟩)))
def isPush (c : Nat) : Bool := decide (100000 ≤ c) || decide (c < 11)
def isOne (c : Nat) : Bool := c == 13 || c == 19
def hL : List Nat → Nat → Option Nat
  | [], h => some h
  | c :: l, h => if isPush c then hL l (h + 1) else if isOne c then (if 1 ≤ h then hL l h else none) else (if 2 ≤ h then hL l (h - 1) else none)
theorem hL_app : ∀ (a b : List Nat) (h h' : Nat), hL a h = some h' → hL (a ++ b) h = hL b h' := by
  intro a
  induction a with
  | nil => intro b h h' e; cases e; rfl
  | cons c a ih =>
    intro b h h' e
    rw [List.cons_append, hL]
    rw [hL] at e
    by_cases c1 : isPush c = true
    · rw [if_pos c1] at e ⊢; exact ih _ _ _ e
    · rw [if_neg c1] at e ⊢
      by_cases c2 : isOne c = true
      · rw [if_pos c2] at e ⊢
        by_cases c3 : 1 ≤ h
        · rw [if_pos c3] at e ⊢; exact ih _ _ _ e
        · rw [if_neg c3] at e; cases e
      · rw [if_neg c2] at e ⊢
        by_cases c3 : 2 ≤ h
        · rw [if_pos c3] at e ⊢; exact ih _ _ _ e
        · rw [if_neg c3] at e; cases e
def Net (ns : List Nat) : Prop := ∀ h, hL ns h = some (h + 1)
theorem Net.push {c : Nat} (h : isPush c = true) : Net [c] := by
  intro x
  rw [hL, if_pos h]
  rfl
theorem Net.one {ns : List Nat} {c : Nat} (h : Net ns) (h1 : isPush c = false) (h2 : isOne c = true) : Net (ns ++ [c]) := by
  intro x
  rw [hL_app _ _ _ _ (h x), hL, if_neg (by rw [h1]; decide), if_pos h2, if_pos (by omega)]
  rfl
theorem Net.two {a b : List Nat} {c : Nat} (ha : Net a) (hb : Net b) (h1 : isPush c = false) (h2 : isOne c = false) : Net (a ++ (b ++ [c])) := by
  intro x
  rw [hL_app _ _ _ _ (ha x), hL_app _ _ _ _ (hb (x + 1)), hL, if_neg (by rw [h1]; decide), if_neg (by rw [h2]; decide), if_pos (by omega)]
  rfl
def rk (l : Nat) : Nat := if l = 0 then 1 else if l = 1 then 2 else if l = 2 then 3 else if l = 3 then 5 else if l = 4 then 6 else 7
def cnd (l : Nat) : Nat := if l = 0 then 1 else if l = 1 then 2 else if l = 2 then 4 else if l = 3 then 5 else if l = 4 then 6 else 8
def topOk (c : Nat) : List Nat → Prop
  | [] => True
  | x :: _ => rankN x < c
def sgLv (l k : Nat) : Bool := if l = 0 then k == 13 else if l = 1 then k == 14 else if l = 2 then (k == 60 || k == 61) else if l = 3 then (k == 43 || k == 45) else k == 42
theorem sgLv_t1 : ∀ k, k ∈ KL → ∀ l, l < 5 → sgLv l k = true → sgn k ≠ 0 ∧ (rankN (sgn k) = if l = 2 then 4 else rk l) ∧ opB (sgn k) = 0 ∧ decide (sgn k ≤ 12) = decide (l + 1 ≤ 2) ∧ F_Reader_stepOf (nI k) = stp (sgn k) := by decide +kernel
theorem sgLv_t2 : ∀ k, k ∈ KL → ∀ l, l < 5 → sgLv l k = true → isPush (sgn k) = false ∧ isOne (sgn k) = false ∧ 11 ≤ sgn k ∧ sgn k ≤ 19 ∧ rankN (sgn k) < cnd (l + 1) := by decide +kernel
theorem sgLv_t3 : ∀ k, k ∈ KL → ∀ l, l < 5 → sgLv l k = true → k ≠ 59 ∧ k ≠ 41 ∧ k ≠ 0 := by decide +kernel
theorem sgLv_none : ∀ k, k ∈ KL → sgn k ≠ 0 → ∃ l, l < 5 ∧ sgLv l k = true := by decide +kernel
theorem unw_top {c r : Nat} {S o : List Nat} (h : topOk c S) (hr : c ≤ r) : unw r S o = (S, o) := by
  cases S with
  | nil => rfl
  | cons x S =>
    have : rankN x < c := h
    rw [unw, if_neg (by omega)]
theorem unw_unw {r r' : Nat} (h : r ≤ r') : ∀ (S o : List Nat), unw r (unw r' S o).1 (unw r' S o).2 = unw r S o := by
  intro S
  induction S with
  | nil => intro o; rfl
  | cons x S ih =>
    intro o
    by_cases c : r' ≤ rankN x
    · rw [show unw r' (x :: S) o = unw r' S (o ++ [x]) by rw [unw, if_pos c], ih, show unw r (x :: S) o = unw r S (o ++ [x]) by rw [unw, if_pos (by omega)]]
    · rw [show unw r' (x :: S) o = (x :: S, o) by rw [unw, if_neg c]]
theorem unw_pop {r x : Nat} (h : r ≤ rankN x) (S o : List Nat) : unw r (x :: S) o = unw r S (o ++ [x]) := by rw [unw, if_pos h]
def RunTo (T : Nat → Nat × Nat) (j : Nat) (w mn : Bool) (S o : List Nat) (j' : Nat) (w' mn' : Bool) (H o' : List Nat) : Prop := j ≤ j' ∧ ∀ m, run T (m + (j' - j)) j w mn S o = run T m j' w' mn' H o'
def RunFail (T : Nat → Nat × Nat) (j : Nat) (w mn : Bool) (S o : List Nat) (j' : Nat) : Prop := j ≤ j' ∧ ∃ o', ∀ m, run T (m + (j' - j) + 1) j w mn S o = some (false, j', o')
theorem RunTo.tr {T : Nat → Nat × Nat} {j j1 j2 : Nat} {w mn w1 mn1 w2 mn2 : Bool} {S o S1 o1 S2 o2 : List Nat} (a : RunTo T j w mn S o j1 w1 mn1 S1 o1) (b : RunTo T j1 w1 mn1 S1 o1 j2 w2 mn2 S2 o2) : RunTo T j w mn S o j2 w2 mn2 S2 o2 := by
  obtain ⟨a1, a2⟩ := a
  obtain ⟨b1, b2⟩ := b
  refine ⟨by omega, fun m => ?_⟩
  rw [show m + (j2 - j) = (m + (j2 - j1)) + (j1 - j) by omega, a2, b2]
theorem RunTo.fail {T : Nat → Nat × Nat} {j j1 j2 : Nat} {w mn w1 mn1 : Bool} {S o S1 o1 : List Nat} (a : RunTo T j w mn S o j1 w1 mn1 S1 o1) (b : RunFail T j1 w1 mn1 S1 o1 j2) : RunFail T j w mn S o j2 := by
  obtain ⟨a1, a2⟩ := a
  obtain ⟨b1, o', b2⟩ := b
  refine ⟨by omega, o', fun m => ?_⟩
  rw [show m + (j2 - j) + 1 = (m + (j2 - j1) + 1) + (j1 - j) by omega, a2, b2]
theorem RunTo.rf {T : Nat → Nat × Nat} {j : Nat} {w mn : Bool} {S o : List Nat} : RunTo T j w mn S o j w mn S o := ⟨Nat.le_refl _, fun m => by rw [Nat.sub_self, Nat.add_zero]⟩
theorem RunTo.step {T : Nat → Nat × Nat} {j : Nat} {w mn w1 mn1 : Bool} {S o S1 o1 : List Nat} (h : ∀ m, run T (m + 1) j w mn S o = run T m (j + 1) w1 mn1 S1 o1) : RunTo T j w mn S o (j + 1) w1 mn1 S1 o1 := ⟨by omega, fun m => by rw [show m + (j + 1 - j) = m + 1 by omega, h]⟩
theorem RunFail.at_ {T : Nat → Nat × Nat} {j : Nat} {w mn : Bool} {S o o' : List Nat} (h : ∀ m, run T (m + 1) j w mn S o = some (false, j, o')) : RunFail T j w mn S o j := ⟨Nat.le_refl _, o', fun m => by rw [show m + (j - j) + 1 = m + 1 by omega, h]⟩
def nsg (l k : Nat) (H o : List Nat) : Prop := ∀ l', l ≤ l' → l' < 5 → sgLv l' k = true → l' = 2 ∧ top4 (unw 5 H o).1 = true
section RD
variable {g : Nat → Nat} {n N q : Nat}
/-- no sign that can stand follows: the reference fails there -/
theorem run_stuck {j : Nat} {mn : Bool} {H o : List Nat} (h41 : (Tk g n j).1 = 41 → (unw 1 H o).1 = []) (h59 : (Tk g n j).1 = 59 → (unw 1 H o).1 ≠ []) (hs : nsg 0 (Tk g n j).1 H o) : RunFail (TT g n) j false mn H o j := by
  have kT : (TT g n j).1 = (Tk g n j).1 := rfl
  have hk := tk_kl g n j
  by_cases c59 : (Tk g n j).1 = 59
  · refine RunFail.at_ (o' := (unw 1 H o).2) (fun m => ?_)
    rw [run, kT, if_pos c59]
    have := h59 c59
    cases hu : (unw 1 H o).1 with
    | nil => exact absurd hu this
    | cons x r => rfl
  · by_cases c41 : (Tk g n j).1 = 41
    · refine RunFail.at_ (o' := o) (fun m => ?_)
      rw [run, kT, if_neg c59, if_pos c41, h41 c41]
    · refine RunFail.at_ (o' := o) (fun m => ?_)
      rw [run, kT, if_neg c59, if_neg c41]
      by_cases cs : sgn (Tk g n j).1 = 0
      · rw [if_pos cs]
      · rw [if_neg cs]
        obtain ⟨l, l5, hl⟩ := sgLv_none _ hk cs
        obtain ⟨l2, ht⟩ := hs l (Nat.zero_le _) l5 hl
        have := (sgLv_t1 _ hk l l5 hl).2.1
        rw [l2] at this
        rw [if_pos ⟨this, ht⟩]
def FrR (q : Nat) (σ τ : St) : Prop := τ.2 = σ.2 ∧ ∀ p c, ¬ (p = 2 ∧ (c = 2 ∨ c = 3)) → ¬ (p = q ∧ c = 2) → p ≠ q + 6 → τ.1 p c = σ.1 p c
theorem FrR.rf {σ : St} : FrR q σ σ := ⟨rfl, fun _ _ _ _ _ => rfl⟩
theorem FrR.tr {a b c : St} (h : FrR q a b) (k : FrR q b c) : FrR q a c := ⟨k.1.trans h.1, fun p z h1 h2 h3 => (k.2 p z h1 h2 h3).trans (h.2 p z h1 h2 h3)⟩
/-- reading on, with no fault; with one -/
def CS (g : Nat → Nat) (n q : Nat) (σ : St) (j : Nat) (o : List Nat) : Prop := (8 ≤ q ∧ q < 14) ∧ σ.2 2 1 = q ∧ Toks σ g n ∧ σ.1 2 2 = nI j ∧ σ.1 2 3 = -1 ∧ σ.1 q 2 = nI o.length ∧ ∀ i, i < o.length → σ.1 (q + 6) i = stp (o.getD i 0)
def Flt (q : Nat) (σ : St) (p : Nat) : Prop := (8 ≤ q ∧ q < 14) ∧ σ.2 2 1 = q ∧ p ≤ 160 ∧ σ.1 2 3 = nI p ∧ ∃ u, u ≤ 160 ∧ σ.1 q 2 = nI u
theorem Toks.frR {σ τ : St} (h : Toks σ g n) (hq : 8 ≤ q ∧ q < 14) (f : FrR q σ τ) : Toks τ g n := h.fr (fun p c z => f.2 p c (by omega) (by omega) (by omega))
theorem m1_ne : ∀ p, p ≤ 160 → ¬ nI p = -1 := by decide +kernel
theorem kl_62 : ∀ k, k ∈ KL → k < 62 := by decide +kernel
theorem is_at {σ : St} {j : Nat} {o : List Nat} (h : CS g n q σ j o) (hj : j < 2 ^ 31) {k : Nat} (hk : k < 2 ^ 31) {x : Int32} (hx : x = nI k) : F_Reader_is σ x = some (bI (decide ((Tk g n j).1 = k))) := by
  subst hx
  obtain ⟨h1, h2, h3, h4, h5, h6, h7⟩ := h
  have hk62 := kl_62 _ (tk_kl g n j)
  unfold F_Reader_is F_Reader_is_0
  rw [h5, if_neg (not_not_intro rfl), h4, kind_at h3 hj]
  simp only [ob1_some]
  by_cases c : (Tk g n j).1 = k
  · rw [if_neg (not_not_intro (show nI (Tk g n j).1 = nI k by rw [c])), show decide ((Tk g n j).1 = k) = true by simpa using c]
    rfl
  · rw [if_pos (fun z => c ((nI_eq (by omega) hk).mp z)), show decide ((Tk g n j).1 = k) = false by simpa using c]
    rfl
theorem is_flt {σ : St} {p : Nat} (h : Flt q σ p) (x : Int32) : F_Reader_is σ x = some 0 := by
  unfold F_Reader_is F_Reader_is_0
  rw [h.2.2.2.1, if_pos (m1_ne p h.2.2.1)]
theorem fail_flt {σ : St} {p : Nat} (h : Flt q σ p) : F_Reader_fail σ = some σ := by
  unfold F_Reader_fail F_Reader_fail_0
  rw [h.2.2.2.1, if_pos (m1_ne p h.2.2.1)]
theorem place_le (g : Nat → Nat) (n j : Nat) : (Tk g n j).2.2.1 ≤ n := (tok_next (posn_le g n j)).2.2
theorem fail_at {σ : St} {j : Nat} {o : List Nat} (h : CS g n q σ j o) (hj : j < 2 ^ 31) (ho : o.length ≤ 160) : ∃ τ, F_Reader_fail σ = some τ ∧ FrR q σ τ ∧ Flt q τ (Tk g n j).2.2.1 := by
  obtain ⟨h1, h2, h3, h4, h5, h6, h7⟩ := h
  unfold F_Reader_fail F_Reader_fail_0
  rw [h5, if_neg (not_not_intro rfl), h4, place_at h3 hj]
  simp only [ob1_some, lt]
  have := place_le g n j
  have hn := h3.1
  exact ⟨_, rfl, ⟨rfl, fun p c z _ _ => up1_off (by omega)⟩, h1, h2, by omega, up1_on, o.length, ho, (up1_off (by omega)).trans h6⟩
theorem CS.at_ {σ : St} {j : Nat} {o : List Nat} (h : CS g n q σ j o) : CS g n q (up1 σ 2 2 (nI (j + 1))) (j + 1) o ∧ FrR q σ (up1 σ 2 2 (nI (j + 1))) := by
  obtain ⟨h1, h2, h3, h4, h5, h6, h7⟩ := h
  have f : FrR q σ (up1 σ 2 2 (nI (j + 1))) := ⟨rfl, fun p c z _ _ => up1_off (by omega)⟩
  exact ⟨⟨h1, h2, h3.frR h1 f, up1_on, (up1_off (by omega)).trans h5, (up1_off (by omega)).trans h6, fun i hi => (up1_off (by omega)).trans (h7 i hi)⟩, f⟩
theorem expect_at {σ : St} {j : Nat} {o : List Nat} (h : CS g n q σ j o) (hj : j < 2 ^ 31) (ho : o.length ≤ 160) {k : Nat} (hk : k < 2 ^ 31) {x : Int32} (hx : x = nI k) : ∃ τ, F_Reader_expect σ x = some τ ∧ FrR q σ τ ∧ ((Tk g n j).1 = k ∧ CS g n q τ (j + 1) o ∨ (Tk g n j).1 ≠ k ∧ Flt q τ (Tk g n j).2.2.1) := by
  unfold F_Reader_expect F_Reader_expect_0
  rw [is_at h hj hk hx]
  simp only [ob1_some]
  by_cases c : (Tk g n j).1 = k
  · rw [show decide ((Tk g n j).1 = k) = true by simpa using c, if_neg (show ¬ bI true = 0 by decide), h.2.2.2.1, nI_1]
    exact ⟨_, rfl, h.at_.2, Or.inl ⟨c, h.at_.1⟩⟩
  · rw [show decide ((Tk g n j).1 = k) = false by simpa using c, if_pos (show bI false = 0 from rfl)]
    obtain ⟨τ, a1, a2, a3⟩ := fail_at h hj ho
    rw [a1]
    exact ⟨τ, rfl, a2, Or.inr ⟨c, a3⟩⟩
theorem expect_flt {σ : St} {p : Nat} (h : Flt q σ p) (x : Int32) : F_Reader_expect σ x = some σ := by
  unfold F_Reader_expect F_Reader_expect_0
  rw [is_flt h]
  simp only [ob1_some]
  rw [if_pos trivial, fail_flt h]
  rfl
theorem tadd_at {σ : St} {j : Nat} {o : List Nat} (h : CS g n q σ j o) (ho : o.length < 160) {c : Nat} {x : Int32} (hx : x = stp c) : ∃ τ, F_Text_add σ q x = some τ ∧ FrR q σ τ ∧ CS g n q τ j (o ++ [c]) := by
  obtain ⟨h1, h2, h3, h4, h5, h6, h7⟩ := h
  unfold F_Text_add F_Text_add_0
  rw [h6, if_pos (show nI o.length < 160 from nI_lt (b := 160) ho (by decide)), if_pos (inB_nI ho (by decide)), nI_clamp (by omega)]
  simp only [lt]
  rw [up1_off (σ := σ) (by omega), h6, nI_1]
  have f : FrR q σ (up1 (up1 σ (q + 6) o.length x) q 2 (nI (o.length + 1))) := ⟨rfl, fun p c z1 z2 z3 => by rw [up1_off (by omega), up1_off (by omega)]⟩
  refine ⟨_, rfl, f, h1, h2, h3.frR h1 f, ?_, ?_, ?_, fun i hi => ?_⟩
  · rw [up1_off (by omega), up1_off (by omega), h4]
  · rw [up1_off (by omega), up1_off (by omega), h5]
  · rw [up1_on]; simp
  · simp only [List.length_append, List.length_cons, List.length_nil] at hi
    rw [getD_app (by omega), up1_off (by omega)]
    by_cases ci : i = o.length
    · rw [if_pos ci, ci, up1_on, hx]
    · rw [if_neg ci, up1_off (by omega)]
      exact h7 i (by omega)
theorem tadd_flt {σ : St} {p : Nat} (h : Flt q σ p) (x : Int32) : ∃ τ, F_Text_add σ q x = some τ ∧ FrR q σ τ ∧ Flt q τ p := by
  obtain ⟨h1, h2, h3, h4, u, hu, h5⟩ := h
  unfold F_Text_add F_Text_add_0
  rw [h5]
  by_cases c : u < 160
  · rw [if_pos (show nI u < 160 from nI_lt (b := 160) c (by decide)), if_pos (inB_nI c (by decide)), nI_clamp (by omega)]
    simp only [lt]
    rw [up1_off (σ := σ) (by omega), h5, nI_1]
    exact ⟨_, rfl, ⟨rfl, fun p c z1 z2 z3 => by rw [up1_off (by omega), up1_off (by omega)]⟩, h1, h2, h3, by rw [up1_off (by omega), up1_off (by omega)]; exact h4, u + 1, by omega, up1_on⟩
  · rw [if_neg (show ¬ nI u < 160 from nI_nlt (b := 160) (by omega) (by omega))]
    exact ⟨σ, rfl, FrR.rf, h1, h2, h3, h4, u, hu, h5⟩
theorem sign_at_C {σ : St} {j : Nat} {o : List Nat} (h : CS g n q σ j o) (hj : j < 2 ^ 31) {l : Nat} (hl : l < 5) : F_Reader_isSignOf σ (nI l) = some (bI (sgLv l (Tk g n j).1)) := by
  unfold F_Reader_isSignOf F_Reader_isSignOf_0
  have e13 : F_Reader_is σ 13 = some (bI (decide ((Tk g n j).1 = 13))) := is_at h hj (k := 13) (by decide) rfl
  have e14 : F_Reader_is σ 14 = some (bI (decide ((Tk g n j).1 = 14))) := is_at h hj (k := 14) (by decide) rfl
  have e60 : F_Reader_is σ 60 = some (bI (decide ((Tk g n j).1 = 60))) := is_at h hj (k := 60) (by decide) rfl
  have e61 : F_Reader_is σ 61 = some (bI (decide ((Tk g n j).1 = 61))) := is_at h hj (k := 61) (by decide) rfl
  have e43 : F_Reader_is σ 43 = some (bI (decide ((Tk g n j).1 = 43))) := is_at h hj (k := 43) (by decide) rfl
  have e45 : F_Reader_is σ 45 = some (bI (decide ((Tk g n j).1 = 45))) := is_at h hj (k := 45) (by decide) rfl
  have e42 : F_Reader_is σ 42 = some (bI (decide ((Tk g n j).1 = 42))) := is_at h hj (k := 42) (by decide) rfl
  rw [e13, e14, e60, e61, e43, e45, e42]
  simp only [ob1_some]
  have e : ∀ k : Nat, ((Tk g n j).1 == k) = decide ((Tk g n j).1 = k) := fun k => rfl
  match l, hl with
  | 0, _ =>
    rw [if_pos (show nI 0 = 0 from rfl), if_pos (bI01 _)]
    rfl
  | 1, _ =>
    rw [if_neg (show ¬ nI 1 = 0 by decide), if_pos (show nI 1 = 1 from rfl), if_pos (bI01 _)]
    rfl
  | 2, _ =>
    rw [if_neg (show ¬ nI 2 = 0 by decide), if_neg (show ¬ nI 2 = 1 by decide), if_pos (show nI 2 = 2 from rfl)]
    show _ = some (bI (decide ((Tk g n j).1 = 60) || decide ((Tk g n j).1 = 61)))
    cases decide ((Tk g n j).1 = 60) <;> cases decide ((Tk g n j).1 = 61) <;> rfl
  | 3, _ =>
    rw [if_neg (show ¬ nI 3 = 0 by decide), if_neg (show ¬ nI 3 = 1 by decide), if_neg (show ¬ nI 3 = 2 by decide), if_pos (show nI 3 = 3 from rfl)]
    show _ = some (bI (decide ((Tk g n j).1 = 43) || decide ((Tk g n j).1 = 45)))
    cases decide ((Tk g n j).1 = 43) <;> cases decide ((Tk g n j).1 = 45) <;> rfl
  | 4, _ =>
    rw [if_neg (show ¬ nI 4 = 0 by decide), if_neg (show ¬ nI 4 = 1 by decide), if_neg (show ¬ nI 4 = 2 by decide), if_neg (show ¬ nI 4 = 3 by decide), if_pos (bI01 _)]
    rfl
  | l + 5, h => exact absurd h (by omega)
theorem sign_flt {σ : St} {p : Nat} (h : Flt q σ p) {l : Nat} (hl : l < 5) : F_Reader_isSignOf σ (nI l) = some 0 := by
  unfold F_Reader_isSignOf F_Reader_isSignOf_0
  simp only [is_flt h, ob1_some]
  match l, hl with
  | 0, _ => rfl
  | 1, _ => rfl
  | 2, _ => rfl
  | 3, _ => rfl
  | 4, _ => rfl
  | l + 5, h => exact absurd h (by omega)
/-- behind a fault nothing is read -/
theorem flt_level {p : Nat} : ∀ (d l : Nat) (σ : St) (x : Int32), Flt q σ p → l ≤ 5 → 7 - l ≤ d → (GReader d).1 σ (nI l) x = some σ := by
  intro d
  induction d with
  | zero => intro l σ x _ h1 h2; omega
  | succ d ih =>
    intro l σ x h h1 h2
    show F_Reader_readLevel_0 (GReader d).1 (GReader d).2.1 (GReader d).2.2 σ (nI l) x = some σ
    unfold F_Reader_readLevel_0
    by_cases c5 : l = 5
    · subst c5
      rw [if_neg (by decide)]
      obtain ⟨d, rfl⟩ : ∃ d', d = d' + 1 := ⟨d - 1, by omega⟩
      show ob1 (F_Reader_readOne_0 (GReader d).1 (GReader d).2.1 (GReader d).2.2 σ x) _ = _
      unfold F_Reader_readOne_0
      simp only [is_flt h, ob1_some, if_true, fail_flt h]
    · rw [if_pos (show nI l ≤ 4 from nI_le (b := 4) (by omega) (by decide))]
      have loop : ∀ y : Int32, F_Reader_readLevel_55 (GReader d).1 (GReader d).2.1 (GReader d).2.2 σ (nI l) x y = some σ := by
        intro y
        unfold F_Reader_readLevel_55
        rw [FU_eq, F_Reader_readLevel_59, sign_flt h (by omega)]
        simp only [ob1_some, if_true]
        split <;> rfl
      have lv : F_Reader_readLevel_35 (GReader d).1 (GReader d).2.1 (GReader d).2.2 σ (nI l) x = some σ := by
        unfold F_Reader_readLevel_35
        rw [nI_1, ih (l + 1) σ x h (by omega) (by omega)]
        simp only [ob1_some]
        rw [loop, loop]
        split <;> rfl
      rw [is_flt h]
      simp only [ob1_some, if_true]
      rw [lv]
      split <;> rfl
end RD
