/-! ===== the two great constructors, the law: rows ===== -/
def mR {α β : Type} (f : Nat → α → β) : Nat → List α → List β
  | _, [] => []
  | k, x :: t => f k x :: mR f (k + 1) t
theorem mapIdx_mR {α β : Type} : ∀ (l : List α) (f : Nat → α → β) (k : Nat), l.mapIdx (fun i x => f (i + k) x) = mR f k l := by
  intro l
  induction l with
  | nil => intro f k; rfl
  | cons x t ih =>
    intro f k
    have e : (fun (i : Nat) (x : α) => f (i + 1 + k) x) = fun i x => f (i + (k + 1)) x := by
      funext i x
      rw [Nat.add_assoc, Nat.add_comm 1 k]
    rw [List.mapIdx_cons, mR, ← ih f (k + 1), ← e, Nat.zero_add]
theorem Wd_mR {cA : Nat → ClassId} {ad : Nat → Nat} {sh : List Sh} {σ : St} : Wd cA ad sh σ = mR (fun p x => (ad p, s_cell cA ad x (σ.1 p) (σ.2 p))) 0 sh := mapIdx_mR sh (fun p x => (ad p, s_cell cA ad x (σ.1 p) (σ.2 p))) 0
theorem s_fs_mR {ad : Nat → Nat} {f : Nat → Int32} {g : Nat → Nat} {ks : List Nat} : s_fs ad f g ks = mR (fun j k => s_fv ad f g j k) 0 ks := mapIdx_mR ks (fun j k => s_fv ad f g j k) 0
def mkU (L : List Nat) (adc : Nat → Nat) : Nat → Nat := fun n => (L[n]?).getD (adc n)
theorem mkU_big {L : List Nat} {adc : Nat → Nat} {n : Nat} (h : L.length ≤ n) : mkU L adc n = adc n := by
  rw [mkU, List.getElem?_eq_none h]
  rfl
/-- a row, filled so far -/
def tkF (L : List Int32) (k : Nat) : Nat → Int32 := fun j => if j < k then L.getD j 0 else 0
theorem tkF_0 (L : List Int32) : tkF L 0 = fun _ => 0 := by
  funext j
  rw [tkF, if_neg (Nat.not_lt_zero j)]
theorem tkF_next (L : List Int32) {k : Nat} {i x : Int32} (hi : i.toNatClampNeg = k) (hx : L.getD k 0 = x) : upd (tkF L k) i.toNatClampNeg x = tkF L (k + 1) := by
  subst hi
  subst hx
  funext j
  unfold upd tkF
  by_cases h : j = i.toNatClampNeg
  · rw [if_pos h, if_pos (by omega), h]
  · rw [if_neg h]
    by_cases h2 : j < i.toNatClampNeg
    · rw [if_pos h2, if_pos (by omega)]
    · rw [if_neg h2, if_neg (by omega)]
theorem tkF_at {L : List Int32} {k j : Nat} (h : j < k) : tkF L k j = L.getD j 0 := by rw [tkF, if_pos h]
theorem set_last {α : Type} (x y : α) : ∀ l : List α, (l ++ [x]).set l.length y = l ++ [y] := by
  intro l
  induction l with
  | nil => rfl
  | cons a t ih =>
    show a :: (t ++ [x]).set t.length y = a :: (t ++ [y])
    rw [ih]
theorem get_last {α : Type} (x : α) (l : List α) : (l ++ [x])[l.length]? = some x := by
  rw [List.getElem?_append_right (Nat.le_refl _), Nat.sub_self]
  rfl
theorem Cst.ad {ad ad' : Nat → Nat} {A : Nat → Prop} {s : State} {H : Heap} (h : Cst ad A s H) (e : ∀ k, 100 ≤ k → ad' k = ad k) : Cst ad' A s H := by
  obtain ⟨h1, h2, h3, h4, h5, h6⟩ := h
  refine ⟨h1, ?_, ?_, ?_, ?_, h6⟩
  · rw [e 100 (by decide)]; exact h2
  · rw [e 100 (by decide)]; exact h3
  · have e1 : (fun i => ad' (101 + i)) = fun i => ad (101 + i) := funext fun i => e _ (by omega)
    have e2 : (fun i => ad' (104 + i)) = fun i => ad (104 + i) := funext fun i => e _ (by omega)
    rw [e1, e2]
    exact h4
  · rw [e 101 (by decide), e 102 (by decide), e 103 (by decide)]
    exact h5
abbrev AOs (U : State) : Prop := va_AO "ArmAgainstArm$Arm" U ∧ va_AO "ArmAgainstArm$Text" U ∧ va_AO "ArmAgainstArm$Sheet" U
def PreC (D : va_G) (cA : Nat → ClassId) (adc : Nat → Nat) (h0 : Nat) (e0 : va_E) (sz : Nat) : State → Prop := fun U => U.heap.size = sz ∧ va_K D CLS (TYS cA) U ∧ va_P D CLS [(h0, e0)] U.heap ∧ va_D (fun _ => True) [(h0, e0)] ∧ Cst adc (va_A [(h0, e0)] sz) U U.heap ∧ AOs U
def PoU (adc : Nat → Nat) (k0 h0 : Nat) (u : Nat → Nat) : Prop := u k0 = h0 ∧ ∀ k, 100 ≤ k → u k = adc k
def PoC (D : va_G) (cA : Nat → ClassId) (h0 : Nat) (e0 : va_E) (sh : List Sh) (σ : St) (sz : Nat) (u : Nat → Nat) (t : State) : Prop := va_P D CLS (Wd cA u sh σ) t.heap ∧ va_K D CLS (TYS cA) t ∧ va_D (va_A [(h0, e0)] sz) (Wd cA u sh σ)
/-- a constructor that makes a whole world -/
def MCC (l : Launch) (D : va_G) (cA : Nat → ClassId) (adc : Nat → Nat) (y : MethodName) (ws : List Cond) (rm : Room) (e0 : va_E) (k0 : Nat) (sh : List Sh) (σ : St) (mc ms : Nat) : Prop := ∀ h0 sz, Met l y ws rm (va_Pc [.ref h0] (PreC D cA adc h0 e0 sz)) (va_Qv (PoU adc k0 h0) (PoC D cA h0 e0 sh σ sz) (va_A [(h0, e0)] sz)) mc ms (va_A [(h0, e0)] sz)
section NC
variable {p : Program} {l : Launch} {e : Env} {R : Room} {s : State} {m : MethodId} {args : Array Value} {below : List Frame} {meth : Method} {c : Code} {H : Heap} {locs : List Loc} {Q : State → Prop} {cells slots : Nat}
variable {cc : ByteArray} {pc nL : Nat} {ls : Array Slot} {rest : List Value} {own : String} {rt : Option FieldType} {D : va_G} {cA : Nat → ClassId} {ad adc : Nat → Nat} {sh : List Sh} {A : Nat → Prop} {σ τ : St} {ws ws0 : va_W}
theorem n_iastE (K : Fx p s m args meth c cc nL own rt) {a n : Nat} {f f' : Nat → Int32} (hw : Wn D cA A s (ws ++ [(a, aI (cA 0) n f)]) H locs) {i x : Int32} (hin : vp_in i n) (hf : upd f i.toNatClampNeg x = f') (hdg : decode cc pc = .ok (.iastore, 1))
    (kk : ∀ (H1 : Heap) (locs1 : List Loc), Wn D cA A s (ws ++ [(a, aI (cA 0) n f')]) H1 locs1 → W p l e R s m args below meth c H1 locs1 cells slots Q (F0 m (pc + 1) ls rest)) : W p l e R s m args below meth c H locs cells slots Q (F0 m pc ls (.int x :: .int i :: .ref a :: rest)) := by
  refine n_iast K hw ws.length (get_last _ _) hin hdg (fun H1 l1 h => kk H1 l1 ?_)
  rw [hf, set_last] at h
  exact h
theorem n_iastF (K : Fx p s m args meth c cc nL own rt) (hw : Wn D cA A s ws H locs) (q0 : Nat) {a n : Nat} {f f' : Nat → Int32} (ha : ws[q0]? = some (a, aI (cA 0) n f)) {i x : Int32} (hin : vp_in i n) (hf : upd f i.toNatClampNeg x = f') (hdg : decode cc pc = .ok (.iastore, 1))
    (kk : ∀ (H1 : Heap) (locs1 : List Loc), Wn D cA A s (ws.set q0 (a, aI (cA 0) n f')) H1 locs1 → W p l e R s m args below meth c H1 locs1 cells slots Q (F0 m (pc + 1) ls rest)) : W p l e R s m args below meth c H locs cells slots Q (F0 m pc ls (.int x :: .int i :: .ref a :: rest)) := by
  refine n_iast K hw q0 ha hin hdg (fun H1 l1 h => kk H1 l1 ?_)
  rw [hf] at h
  exact h
theorem vp_q_congr {c0 : ClassId} {n : Nat} {f g : Nat → Option Nat} (h : ∀ j, j < n → f j = g j) : vp_cell c0 (n, .inr (.inr (.inr (.inr f)))) = vp_cell c0 (n, .inr (.inr (.inr (.inr g)))) := by
  rw [vp_cell_q, vp_cell_q]
  unfold arrV
  have e : (fun j : Fin n => va_rf (f j.val)) = fun j : Fin n => va_rf (g j.val) := funext fun j => by rw [h j.val j.isLt]
  show ({ cls := c0, slots := Array.ofFn (n := n) fun j : Fin n => va_rf (f j.val), vm := .none } : Cell) = { cls := c0, slots := Array.ofFn (n := n) fun j : Fin n => va_rf (g j.val), vm := .none }
  rw [e]
theorem Wn.rowQ (hw : Wn D cA A s ws H locs) (k : Nat) {a n : Nat} {c0 : ClassId} {f g : Nat → Option Nat} (hk : ws[k]? = some (a, aQ c0 n f)) (h : ∀ j, j < n → f j = g j) : Wn D cA A s (ws.set k (a, aQ c0 n g)) H locs := by
  obtain ⟨h1, h2, h3, h4, h5⟩ := hw
  refine ⟨h1, h2.set h3 hk ?_ (fun _ _ => rfl), h3.set hk, h4, h5⟩
  have e : H[a]? = some (vp_cell c0 (n, .inr (.inr (.inr (.inr f))))) := h2 k _ hk
  show H[a]? = some (vp_cell c0 (n, .inr (.inr (.inr (.inr g)))))
  rw [e, vp_q_congr h]
theorem Wn.cast (hw : Wn D cA A s ws H locs) {ws' : va_W} (e : ws = ws') : Wn D cA A s ws' H locs := e ▸ hw
theorem n_ldc0 (K : Fx p s m args meth c cc nL R_Main rt) (hC : Cst adc A s s.heap) (hdg : decode cc pc = .ok (.ldc 46, 2))
    (kk : W p l e R s m args below meth c H locs cells slots Q (F0 m (pc + 2) ls (.ref (adc (101 + 0)) :: rest))) : W p l e R s m args below meth c H locs cells slots Q (F0 m pc ls rest) :=
  va_ldcS K.1.1 K.1.2.1 K.1.2.2.2.1 hC.2.2.2.2.1.1 hdg kk
theorem Wn.preCC {a : Nat} {e0 : va_E} (hw : Wn D cA A s (ws0 ++ [(a, e0)]) H locs) (hC : Cst adc A s s.heap) (hO : AOs s) : FrameBlind (va_Pc [.ref a] (PreC D cA adc a e0 H.size)) ∧ ∀ U : State, U.heap = H → s.WarmedH U.vm → va_Pc [.ref a] (PreC D cA adc a e0 H.size) [Value.ref a].toArray U := by
  refine ⟨fun a' U g mk q => ?_, fun U hU hW => ?_⟩
  · obtain ⟨q0, q1, qK, qP, qD, qC, o1, o2, o3⟩ := q
    exact ⟨q0, q1, va_K.moved (u := U) (U := U.calling g mk a') (Vm.Alike.refl U.vm) qK, qP, qD, Cst.vm (s := U) (U := U.calling g mk a') rfl qC, va_AO.moved (u := U) (U := U.calling g mk a') (Vm.Alike.refl U.vm) o1, va_AO.moved (u := U) (U := U.calling g mk a') (Vm.Alike.refl U.vm) o2, va_AO.moved (u := U) (U := U.calling g mk a') (Vm.Alike.refl U.vm) o3⟩
  · refine ⟨rfl, by rw [hU], va_K.moved hW.alike hw.1, by rw [hU]; exact (vp_split hw.2.1).2, (va_split hw.2.2.1).2.1.weaken (fun _ _ _ _ => trivial), ?_, va_AO.moved hW.alike hO.1, va_AO.moved hW.alike hO.2.1, va_AO.moved hW.alike hO.2.2⟩
    rw [hU]
    exact Cst.go hW hC hw.tail ⟨locs, hw.2.2.2.1⟩
theorem n_ctorCC (K : Fx p s m args meth c cc nL own rt) (hl : ls.size = nL) {y : MethodName} {b : ByteArray} {mL idx : Nat} {rm : Room} {a k0 : Nat} {e0 : va_E} {mc ms : Nat} (hw : Wn D cA A s (ws0 ++ [(a, e0)]) H locs) (hC : Cst adc A s s.heap) (hO : AOs s) (hM : MCC l D cA adc y (wT y b mL none) rm e0 k0 sh σ mc ms) (h1 : Cond.methodLink own idx y ∈ TB) (h2 : Cond.instanceMethod y ∈ TB) (h4 : Cond.initialized y.cls ∈ TB) (h5 : Cond.code y b mL none ∈ TB) (hy : y.name = "<init>")
    (hd : y.cls ≠ "java/lang/invoke/MethodHandle" ∧ y.cls ≠ "java/lang/invoke/VarHandle" ∧ (parseMethodDescriptor y.desc).map (fun d => d.parameters.length) = some 0) (hR : rm.cells = mc ∧ rm.slots = ms ∧ rm.frames + 1 ≤ R.frames ∧ 8 + (mL + 11) + rm.locals ≤ R.locals) (hcat : (rest.map fun v => v.category).sum ≤ 8) (hf : cells + mc ≤ R.cells ∧ slots + ms ≤ R.slots) (hdg : decode cc pc = .ok (.invokespecial idx, 3))
    (kk : ∀ (u : Nat → Nat) (H1 : Heap) (locs1 : List Loc), u k0 = a → (∀ k, 100 ≤ k → u k = adc k) → Wn D cA A s (ws0 ++ Wd cA u sh σ) H1 locs1 → W p l e R s m args below meth c H1 locs1 (cells + mc) (slots + ms) Q (F0 m (pc + 3) ls rest)) : W p l e R s m args below meth c H locs cells slots Q (F0 m pc ls (.ref a :: rest)) := by
  have hts := K.1.2.2.2.2
  refine va_callv (A0 := A) (va_runI (As := []) (rest := rest) K.1 (hM a H.size) (cwI 0 hts (tb_good (tb_wT h5)) rfl hR.1 hR.2.1 (hts _ h4) (hts _ h1) (hts _ h2) hy hd hR.2.2) (hw.preCC hC hO) rfl rfl hl rfl (lv_room hcat) hdg hf) hw.2.2.2.1 (fun q _ h => hw.tail q h) hw.tail (fun u t H1 locs1 ht hvm hu hB hz hk hS => ?_)
  obtain ⟨hP1, hK1, hD1⟩ := hB
  rw [ht] at hP1
  exact kk u H1 locs1 hu.1 hu.2 (hw.back hk hP1 hD1 hS)
/-- its start, its end -/
theorem cc_start {y : MethodName} {mL : Nat} {rm : Room} {e0 : va_E} {k0 : Nat} {mc ms : Nat} (hy : plainName y.cls = true) (hyn : y.name = "<init>") (hcd : Cond.code y cc mL none ∈ TB) (hlen : ∀ h0, (lg_sl [.ref h0]).length ≤ mL)
    (body : ∀ h0 p e s m below meth c ls, Fx p s m [Value.ref h0].toArray meth c cc mL y.cls none → meth.name = "<init>" → lv_has ls mL (lv_args 0 [.ref h0]) → Wn D cA (va_A [(h0, e0)] s.heap.size) s [(h0, e0)] s.heap [] → Cst adc (va_A [(h0, e0)] s.heap.size) s s.heap → AOs s → W p l e rm s m [Value.ref h0].toArray below meth c s.heap [] 0 0 (MQ below (va_Qv (PoU adc k0 h0) (PoC D cA h0 e0 sh σ s.heap.size) (va_A [(h0, e0)] s.heap.size)) [Value.ref h0].toArray s mc ms (va_A [(h0, e0)] s.heap.size)) (F0 m 0 ls [])) : MCC l D cA adc y (wT y cc mL none) rm e0 k0 sh σ mc ms := by
  intro h0 sz
  refine Met.ofW (cc := cc) (maxL := mL) (ret := none) hy rfl ?_
  intro p e s m args below meth c s₁ B hml hv
  obtain ⟨rfl, hsz, hK, hP, hD0, hC, hO⟩ := hv
  have hts := atoms_spec (ws := wT y cc mL none) B.pre
  have hown : s.vm.findClass y.cls = some m.cls := findClass_of_methodNamed B.named
  have hin : meth.name = "<init>" := (name_of_methodNamed B.named B.method).1.trans hyn
  have hl := lv_entry [.ref h0] (n := mL) (hlen h0)
  rw [lg_entry_eq]
  subst hsz
  exact body h0 p e s m below meth c _ ⟨⟨B.exec, B.bytes, hml, hown, fun w hw => hts w (List.mem_cons_of_mem _ hw)⟩, B.returns, B.notSynchronized⟩ hin hl ⟨hK, hP, hD0.self, va_S.rf, fun q h => Or.inr h⟩ hC hO
theorem cc_end {h0 k0 : Nat} {e0 : va_E} {mc ms : Nat} (K : Fx p s m args meth c cc nL own none) (u : Nat → Nat) (hw : Wn D cA (va_A [(h0, e0)] s.heap.size) s (Wd cA u sh σ) H locs) (hu : PoU adc k0 h0 u) (h1 : cells ≤ mc) (h2 : slots ≤ ms) (hdg : decode cc pc = .ok (.return_, 1)) : W p l e R s m args below meth c H locs cells slots (MQ below (va_Qv (PoU adc k0 h0) (PoC D cA h0 e0 sh σ s.heap.size) (va_A [(h0, e0)] s.heap.size)) args s mc ms (va_A [(h0, e0)] s.heap.size)) (F0 m pc ls []) := by
  refine W.widen (k := mc) (n := ms) h1 h2 ?_
  exact W.vret K.1.1 K.1.2.1 K.2.1 (fun t ht hW => ⟨⟨u, rfl, hu, by rw [ht]; exact hw.2.1, va_K.moved hW.alike hw.1, hw.2.2.1⟩, hw.2.2.2.1.F ht⟩) hw.2.2.2.1.2.2 hdg K.2.2
end NC
/-- the first law, as both have it -/
def LAWL : List Int32 := [102, 111, 114, 99, 101, 32, 116, 111, 108, 100, 32, 43, 32, 104, 97, 114, 100, 32, 42, 32, 54, 32, 43, 32, 104, 111, 108, 100, 32, 59, 32, 115, 112, 101, 110, 100, 115, 32, 104, 97, 114, 100, 32, 59, 32, 104, 117, 114, 116, 115, 32, 48, 32, 45, 32, 97, 110, 103, 108, 101, 32, 59]
def M1L : List Int32 := [-1, -1, -1, -1]
/-- the class's store while it is made: k signs on the tape; and behind it all -/
def sgF (k : Nat) : Nat → Nat → Int32 := fun p => match p with
  | 0 => fun j => if j = 1 then nI k else 0
  | 1 => tkF LAWL k
  | 33 => fun j => if j = 1 then -1 else 0
  | 34 => fun j => if j = 1 then -1 else 0
  | 35 => fun j => if j = 1 then -1 else 0
  | 36 => fun j => if j = 1 then -1 else 0
  | _ => fun _ => 0
def sgG : Nat → Nat → Nat := fun p j => if p = 2 ∧ j = 1 then 8 else if p = 41 ∧ j = 2 then 8 else if p = 42 ∧ j = 4 then 27 else if p = 44 ∧ j = 4 then 28 else 0
def sgT (k : Nat) : St := (sgF k, sgG)
/-- the reference's -/
def muF (k : Nat) : Nat → Nat → Int32 := fun p => match p with
  | 6 => tkF LAWL k
  | 11 => tkF M1L 4
  | 14 => tkF LAWL 62
  | 15 => tkF wordsL 96
  | _ => fun _ => 0
def muA (k : Nat) : St := (muF k, fun _ _ => 0)
/-- the law's text, sign by sign -/
theorem lch_t0 : ∀ i, i < 62 → (SBYT.getD 0 []).getD i 0 = LAWL.getD i 0 := by decide +kernel
theorem lch_t1 : ∀ i, i < 62 → ((LAWL.getD i 0 &&& 255).toUInt32 % 65536).toInt32 = LAWL.getD i 0 := by decide +kernel
theorem lch_t2 : ∀ i, i < 62 → ((LAWL.getD i 0).toUInt32 % 65536).toInt32 = LAWL.getD i 0 := by decide +kernel
theorem lchar_at (σ : St) {i : Nat} (hi : i < 62) : F_JString_charAt σ 0 (nI i) = some (LAWL.getD i 0, σ) := by
  unfold F_JString_charAt F_JString_charAt_0
  rw [if_neg (show ¬ F_JString_isLatin1 0 = 0 by decide +kernel)]
  unfold F_JLatin1_charAt F_JLatin1_charAt_0 F_JString_checkIndex F_JString_checkIndex_0 F_JPrecond_checkIndex F_JPrecond_checkIndex_0
  rw [if_neg (nI_pos (by omega)), if_pos (show nI i < nI (SLEN.getD 0 0) from nI_lt (b := 62) hi (by decide))]
  simp only [ob1_some]
  rw [if_pos (show inB (nI i) (SLEN.getD 0 0) = true from inB_nI (n := 62) hi (by decide)), nI_clamp (by omega), lch_t0 i hi, lch_t1 i hi, if_pos (lch_t2 i hi)]
  simp only [ob2_some]
  rw [if_pos (lch_t2 i hi)]
theorem sgT_next {k : Nat} (hk : k < 62) : F_Tape_add (sgT k) (LAWL.getD k 0) = some (sgT (k + 1)) := by
  unfold F_Tape_add F_Tape_add_0
  have e0 : (sgT k).1 0 1 = nI k := rfl
  rw [e0, if_pos (show nI k < 160 from nI_lt (b := 160) (by omega) (by decide)), if_pos (inB_nI (by omega) (by decide)), nI_clamp (by omega)]
  simp only [lt]
  rw [up1_off (by omega), e0, nI_1]
  refine congrArg some (Prod.ext ?_ rfl)
  funext p j
  show (if p = 0 ∧ j = 1 then nI (k + 1) else (if p = 1 ∧ j = k then LAWL.getD k 0 else sgF k p j)) = sgF (k + 1) p j
  by_cases h0 : p = 0
  · subst h0
    by_cases h1 : j = 1
    · rw [if_pos ⟨rfl, h1⟩]
      show nI (k + 1) = if j = 1 then nI (k + 1) else 0
      rw [if_pos h1]
    · rw [if_neg (fun q => h1 q.2), if_neg (fun q => absurd q.1 (by decide))]
      show (if j = 1 then nI k else 0) = if j = 1 then nI (k + 1) else 0
      rw [if_neg h1, if_neg h1]
  rw [if_neg (fun q => h0 q.1)]
  by_cases h1 : p = 1
  · subst h1
    show (if (1 : Nat) = 1 ∧ j = k then LAWL.getD k 0 else tkF LAWL k j) = tkF LAWL (k + 1) j
    unfold tkF
    by_cases h2 : j = k
    · rw [if_pos ⟨rfl, h2⟩, if_pos (by omega), h2]
    · rw [if_neg (fun q => h2 q.2)]
      by_cases h3 : j < k
      · rw [if_pos h3, if_pos (by omega)]
      · rw [if_neg h3, if_neg (by omega)]
  rw [if_neg (fun q => h1 q.1)]
  unfold sgF
  split <;> first | rfl | exact absurd rfl h0 | exact absurd rfl h1
