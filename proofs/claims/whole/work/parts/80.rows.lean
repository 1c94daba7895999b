/-! ===== rows for what makes cells: constructors, the law ===== -/
abbrev aI (c : ClassId) (n : Nat) (f : Nat → Int32) : va_E := .inl (c, n, .inl f)
abbrev aQ (c : ClassId) (n : Nat) (f : Nat → Option Nat) : va_E := .inl (c, n, .inr (.inr (.inr (.inr f))))
abbrev oB (ci : Nat) (fs : List Value) : va_E := .inr (ci, fs)
theorem w_110 : Cond.arrayClass .int ∈ TB := tb_in 110 (by decide +kernel) (by decide +kernel)
def Wn (D : va_G) (cA : Nat → ClassId) (A : Nat → Prop) (s : State) (ws : va_W) (H : Heap) (locs : List Loc) : Prop := va_K D CLS (TYS cA) s ∧ va_P D CLS ws H ∧ va_D A ws ∧ va_S A s.heap H locs ∧ ∀ q, s.heap.size ≤ q → A q
theorem va_split {A : Nat → Prop} {a b : va_W} (h : va_D A (a ++ b)) : va_D A a ∧ va_D A b ∧ ∀ (i j : Nat) (p q : Nat × va_E), a[i]? = some p → b[j]? = some q → p.1 ≠ q.1 := by
  have hl : ∀ (i : Nat) (p : Nat × va_E), a[i]? = some p → (a ++ b)[i]? = some p ∧ i < a.length := fun i p hp => by
    have := (List.getElem?_eq_some_iff.mp hp).1
    exact ⟨by rw [List.getElem?_append_left this]; exact hp, this⟩
  have hr : ∀ (j : Nat) (p : Nat × va_E), b[j]? = some p → (a ++ b)[a.length + j]? = some p := fun j p hp => by
    rw [List.getElem?_append_right (by omega), Nat.add_sub_cancel_left]
    exact hp
  refine ⟨⟨fun i j p q hi hj e => h.1 i j p q (hl i p hi).1 (hl j q hj).1 e, fun k q hk => h.2 k q (hl k q hk).1⟩, ⟨fun i j p q hi hj e => by have := h.1 _ _ p q (hr i p hi) (hr j q hj) e; omega, fun k q hk => h.2 _ q (hr k q hk)⟩, fun i j p q hi hj e => ?_⟩
  have h1 := hl i p hi
  have := h.1 _ _ p q h1.1 (hr j q hj) e
  omega
theorem vp_split {D : va_G} {cl : List vw_C} {a b : va_W} {H : Heap} (h : va_P D cl (a ++ b) H) : va_P D cl a H ∧ va_P D cl b H := by
  refine ⟨fun k q hk => h k q ?_, fun k q hk => h (a.length + k) q ?_⟩
  · rw [List.getElem?_append_left (List.getElem?_eq_some_iff.mp hk).1]
    exact hk
  · rw [List.getElem?_append_right (by omega), Nat.add_sub_cancel_left]
    exact hk
theorem Wn.swap {D : va_G} {cA : Nat → ClassId} {A : Nat → Prop} {s : State} {a b : va_W} {H : Heap} {locs : List Loc} (h : Wn D cA A s (a ++ b) H locs) : Wn D cA A s (b ++ a) H locs := by
  obtain ⟨h1, h2, h3, h4, h5⟩ := h
  obtain ⟨p1, p2⟩ := vp_split h2
  obtain ⟨d1, d2, d3⟩ := va_split h3
  exact ⟨h1, p2.app p1, d2.app d1 (fun i j p q hi hj e => d3 j i q p hj hi e.symm), h4, h5⟩
theorem Wn.perm {D : va_G} {cA : Nat → ClassId} {A : Nat → Prop} {s : State} {a b : va_W} {H : Heap} {locs : List Loc} (h : Wn D cA A s a H locs) (is : List Nat) (hn : va_nd is = true) (h1 : is.filterMap (fun i => a[i]?) = b) (h2 : is.map (fun i => a[i]?) = b.map some) : Wn D cA A s b H locs := ⟨h.1, h.2.1.sub is h1, h.2.2.1.sub is hn h2, h.2.2.2⟩
/-- what a call may change, of a world whose last part it holds -/
theorem Wn.tail {D : va_G} {cA : Nat → ClassId} {A : Nat → Prop} {s : State} {wr wc : va_W} {H : Heap} {locs : List Loc} (h : Wn D cA A s (wr ++ wc) H locs) : ∀ q, va_A wc H.size q → A q := by
  intro q hq
  rcases hq with ⟨k, e, hk⟩ | hq
  · exact (va_split h.2.2.1).2.1.2 k (q, e) hk
  · exact h.2.2.2.2 q (Nat.le_trans h.2.2.2.1.1 hq)
theorem Wn.back {D : va_G} {cA : Nat → ClassId} {A : Nat → Prop} {s : State} {wr wc w1 : va_W} {H H1 : Heap} {locs locs1 : List Loc} (h : Wn D cA A s (wr ++ wc) H locs) (hk : ∀ q : Nat, q < H.size → ¬ va_A wc H.size q → H1[q]? = H[q]?) (hP1 : va_P D CLS w1 H1) (hD1 : va_D (va_A wc H.size) w1) (hS1 : va_S A s.heap H1 locs1) : Wn D cA A s (wr ++ w1) H1 locs1 := by
  obtain ⟨p1, p2⟩ := vp_split h.2.1
  obtain ⟨d1, d2, d3⟩ := va_split h.2.2.1
  have far : ∀ (k : Nat) (x : Nat × va_E), wr[k]? = some x → x.1 < H.size ∧ ¬ va_A wc H.size x.1 := by
    intro k x hx
    have hlt := (p1 k x hx).lt
    refine ⟨hlt, fun z => ?_⟩
    rcases z with ⟨j, e, hj⟩ | z
    · exact d3 k j x (x.1, e) hx hj rfl
    · omega
  refine ⟨h.1, (p1.kept (fun k x hx => hk x.1 (far k x hx).1 (far k x hx).2)).app hP1, d1.app (hD1.weaken (fun k q _ hq => h.tail q.1 hq)) (fun i j p q hi hj e => ?_), hS1, h.2.2.2.2⟩
  have := hD1.2 j q hj
  rw [← e] at this
  exact (far i p hi).2 this
/-- constructors: a fresh cell becomes a world -/
def MC (l : Launch) (D : va_G) (cA : Nat → ClassId) (y : MethodName) (ws : List Cond) (rm : Room) (As : List Value) (e0 : va_E) (g : Nat → (Nat → Nat) → va_W) (mc ms : Nat) : Prop := ∀ h0 sz, Met l y ws rm (va_Pc (.ref h0 :: As) (fun U => U.heap.size = sz ∧ va_K D CLS (TYS cA) U ∧ va_P D CLS [(h0, e0)] U.heap ∧ va_D (fun _ => True) [(h0, e0)])) (va_Qv (fun _ : Nat → Nat => True) (fun u t => va_P D CLS (g h0 u) t.heap ∧ va_K D CLS (TYS cA) t ∧ va_D (va_A [(h0, e0)] sz) (g h0 u)) (va_A [(h0, e0)] sz)) mc ms (va_A [(h0, e0)] sz)
section NW
variable {p : Program} {l : Launch} {e : Env} {R : Room} {s : State} {m : MethodId} {args : Array Value} {below : List Frame} {meth : Method} {c : Code} {H : Heap} {locs : List Loc} {Q : State → Prop} {cells slots : Nat}
variable {cc : ByteArray} {pc nL : Nat} {ls : Array Slot} {rest : List Value} {own : String} {rt : Option FieldType} {D : va_G} {cA : Nat → ClassId} {ad : Nat → Nat} {sh : List Sh} {A : Nat → Prop} {σ τ : St} {ws ws0 : va_W}
theorem n_newi (K : Fx p s m args meth c cc nL own rt) (hw : Wn D cA A s ws H locs) {n : Int32} (N : Nat) (hn : ¬ n < 0) (hN : n.toNatClampNeg = N) (hbt : N * 4 ≤ 536870912) (hc : cells + 1 ≤ R.cells) (hs : slots + N ≤ R.slots) (hdg : decode cc pc = .ok (.newarray .int, 2))
    (kk : ∀ (q : Nat) (H1 : Heap), Wn D cA A s (ws ++ [(q, aI (cA 0) N (fun _ => 0))]) H1 locs → W p l e R s m args below meth c H1 locs (cells + 1) (slots + N) Q (F0 m (pc + 2) ls (.ref q :: rest))) : W p l e R s m args below meth c H locs cells slots Q (F0 m pc ls (.int n :: rest)) := by
  refine va_newa (D := D) (atype := .int) (ty := .int) (a0 := (N, .inl (fun _ => 0))) K.1.1 K.1.2.1 (K.1.2.2.2.2 _ w_110) rfl hw.1 hw.2.1 hw.2.2.1 hw.2.2.2.1 hw.2.2.2.2 (fun _ => rfl) hn hN hbt hc hs hdg (fun q c1 H1 hK hP hD hS => ?_)
  have e1 : c1 = cA 0 := Option.some.inj ((show s.vm.findClass ("[" ++ FieldType.int.toString) = some c1 from (hK.2 4 (c1, .int) rfl).2).symm.trans (show s.vm.findClass ("[" ++ FieldType.int.toString) = some (cA 0) from (hw.1.2 0 (cA 0, .int) rfl).2))
  subst e1
  exact kk q H1 ⟨hw.1, hP, hD, hS, hw.2.2.2.2⟩
theorem n_newq (K : Fx p s m args meth c cc nL own rt) (hw : Wn D cA A s ws H locs) {n : Int32} (N t : Nat) {C : String} {index : Nat} (ht : (TYS cA)[t]? = some (cA t, .object C)) (hlink : Cond.classLink own index C ∈ TB) (hover : va_AO C s) (hn : ¬ n < 0) (hN : n.toNatClampNeg = N) (hbt : N * 4 ≤ 536870912) (hc : cells + 1 ≤ R.cells) (hs : slots + N ≤ R.slots) (hdg : decode cc pc = .ok (.anewarray index, 3))
    (kk : ∀ (q : Nat) (H1 : Heap), Wn D cA A s (ws ++ [(q, aQ (cA t) N (fun _ => none))]) H1 locs → W p l e R s m args below meth c H1 locs (cells + 1) (slots + N) Q (F0 m (pc + 3) ls (.ref q :: rest))) : W p l e R s m args below meth c H locs cells slots Q (F0 m pc ls (.int n :: rest)) := by
  refine va_newq (D := D) K.1.1 K.1.2.1 K.1.2.2.2.1 (K.1.2.2.2.2 _ hlink) hover hw.1 hw.2.1 hw.2.2.1 hw.2.2.2.1 hw.2.2.2.2 hn hN hbt hc hs hdg (fun q c1 H1 hK hP hD hS => ?_)
  have e1 : c1 = cA t := by
    obtain ⟨_, _, _, _, _, a4⟩ := (hK.2 4 (c1, .object C) rfl).2
    obtain ⟨_, _, _, _, _, b4⟩ := (hw.1.2 t (cA t, .object C) ht).2
    exact Option.some.inj (a4.symm.trans b4)
  subst e1
  exact kk q H1 ⟨hw.1, hP, hD, hS, hw.2.2.2.2⟩
theorem n_new (K : Fx p s m args meth c cc nL own rt) (hw : Wn D cA A s ws H locs) {C : String} {T : u_T} {N ci index : Nat} (hin : ∀ w ∈ u_ws C T N, w ∈ TB) (ty : Nat → FieldType) (hty : ∀ k, k < N → parseFieldDescriptor (T k).2.2.1 = some (ty k)) (hcl : Cond.classLink own index C ∈ TB) (hinst : Cond.instantiable C N ∈ TB) (hini : Cond.initialized C ∈ TB) (hc : CLS[ci]? = some (C, T, N)) (fs : List Value) (hfs : ∀ j, j < N → defaultValue (ty j) = vp_V fs j) (hcl2 : cells + 1 ≤ R.cells) (hs : slots + N ≤ R.slots) (hdg : decode cc pc = .ok (.new index, 3))
    (kk : ∀ (q : Nat) (H1 : Heap), Wn D cA A s (ws ++ [(q, oB ci fs)]) H1 locs → W p l e R s m args below meth c H1 locs (cells + 1) (slots + N) Q (F0 m (pc + 3) ls (.ref q :: rest))) : W p l e R s m args below meth c H locs cells slots Q (F0 m pc ls rest) :=
  va_new (D := D) K.1.1 K.1.2.1 K.1.2.2.2.2 hin ty hty K.1.2.2.2.1 (K.1.2.2.2.2 _ hcl) (K.1.2.2.2.2 _ hinst) (K.1.2.2.2.2 _ hini) hw.1 hw.2.1 hw.2.2.1 hw.2.2.2.1 hw.2.2.2.2 hc hfs hcl2 hs hdg (fun q H1 hP hD hS => kk q H1 ⟨hw.1, hP, hD, hS, hw.2.2.2.2⟩)
theorem n_putF (K : Fx p s m args meth c cc nL own rt) (hm : meth.name = "<init>") (hw : Wn D cA A s ws H locs) {C : String} {T : u_T} {N ci index a : Nat} (hin : ∀ w ∈ u_ws C T N, w ∈ TB) (ty0 : Nat → FieldType) (hty : ∀ k, k < N → parseFieldDescriptor (T k).2.2.1 = some (ty0 k)) (hnm : ∀ a, a < N → ∀ b, b < N → a ≠ b → (T a).2.1 ≠ (T b).2.1) (q0 : Nat) {fs : List Value} (he : ws[q0]? = some (a, .inr (ci, fs))) (hc : CLS[ci]? = some (C, T, N)) (j : Nat) (hj : j < N) (hlink : Cond.fieldLink own index C (T j).2.1 (T j).2.2.1 ∈ TB) (hC : (T j).1 = C) (hO : C = own) (hfin : (T j).2.2.2 = true) {v : Value} (hn : narrow (ty0 j) v = v) (hfit : fits (ty0 j) v = true) (hl : j < fs.length) (hdg : decode cc pc = .ok (.putfield index, 3))
    (kk : ∀ (H1 : Heap) (locs1 : List Loc), Wn D cA A s (ws.set q0 (a, .inr (ci, fs.set j v))) H1 locs1 → W p l e R s m args below meth c H1 locs1 cells slots Q (F0 m (pc + 3) ls rest)) : W p l e R s m args below meth c H locs cells slots Q (F0 m pc ls (v :: .ref a :: rest)) :=
  va_putF (D := D) (ty := ty0 j) K.1.1 K.1.2.1 K.1.2.2.2.2 hin ty0 hty hnm K.1.2.2.2.1 hw.1 hw.2.1 hw.2.2.1 hw.2.2.2.1 q0 he hc j hj (K.1.2.2.2.2 _ hlink) (fun _ h => by rw [hC] at h; exact h) hfin hm (hC.trans hO) (hty j hj) hn hfit hl hdg (fun H1 locs1 hP hD hS => kk H1 locs1 ⟨hw.1, hP, hD, hS, hw.2.2.2.2⟩)
theorem n_put (K : Fx p s m args meth c cc nL own rt) (hw : Wn D cA A s ws H locs) {C : String} {T : u_T} {N ci index a : Nat} (hin : ∀ w ∈ u_ws C T N, w ∈ TB) (ty0 : Nat → FieldType) (hty : ∀ k, k < N → parseFieldDescriptor (T k).2.2.1 = some (ty0 k)) (hnm : ∀ a, a < N → ∀ b, b < N → a ≠ b → (T a).2.1 ≠ (T b).2.1) (q0 : Nat) {fs : List Value} (he : ws[q0]? = some (a, .inr (ci, fs))) (hc : CLS[ci]? = some (C, T, N)) (j : Nat) (hj : j < N) (hlink : Cond.fieldLink own index C (T j).2.1 (T j).2.2.1 ∈ TB) (hC : (T j).1 = C) (hfin : (T j).2.2.2 = false) {v : Value} (hn : narrow (ty0 j) v = v) (hfit : fits (ty0 j) v = true) (hl : j < fs.length) (hdg : decode cc pc = .ok (.putfield index, 3))
    (kk : ∀ (H1 : Heap) (locs1 : List Loc), Wn D cA A s (ws.set q0 (a, .inr (ci, fs.set j v))) H1 locs1 → W p l e R s m args below meth c H1 locs1 cells slots Q (F0 m (pc + 3) ls rest)) : W p l e R s m args below meth c H locs cells slots Q (F0 m pc ls (v :: .ref a :: rest)) :=
  va_put (D := D) (ty := ty0 j) K.1.1 K.1.2.1 K.1.2.2.2.2 hin ty0 hty hnm K.1.2.2.2.1 hw.1 hw.2.1 hw.2.2.1 hw.2.2.2.1 q0 he hc j hj (K.1.2.2.2.2 _ hlink) (fun _ h => by rw [hC] at h; exact h) hfin (hty j hj) hn hfit hl hdg (fun H1 locs1 hP hD hS => kk H1 locs1 ⟨hw.1, hP, hD, hS, hw.2.2.2.2⟩)
theorem n_get (K : Fx p s m args meth c cc nL own rt) (hw : Wn D cA A s ws H locs) {C : String} {T : u_T} {N ci index a : Nat} (hin : ∀ w ∈ u_ws C T N, w ∈ TB) (q0 : Nat) {fs : List Value} (he : ws[q0]? = some (a, .inr (ci, fs))) (hc : CLS[ci]? = some (C, T, N)) (j : Nat) (hj : j < N) (hlink : Cond.fieldLink own index C (T j).2.1 (T j).2.2.1 ∈ TB) (hC : (T j).1 = C) {v : Value} (hv : fs[j]? = some v) (hdg : decode cc pc = .ok (.getfield index, 3))
    (kk : W p l e R s m args below meth c H locs cells slots Q (F0 m (pc + 3) ls (v :: rest))) : W p l e R s m args below meth c H locs cells slots Q (F0 m pc ls (.ref a :: rest)) :=
  va_get (D := D) K.1.1 K.1.2.1 K.1.2.2.2.2 hin K.1.2.2.2.1 hw.1 hw.2.1 q0 he hc j hj (K.1.2.2.2.2 _ hlink) (fun _ h => by rw [hC] at h; exact h) hv hdg kk
theorem n_iast (K : Fx p s m args meth c cc nL own rt) (hw : Wn D cA A s ws H locs) (q0 : Nat) {a n : Nat} {f : Nat → Int32} (ha : ws[q0]? = some (a, aI (cA 0) n f)) {i x : Int32} (hin : vp_in i n) (hdg : decode cc pc = .ok (.iastore, 1))
    (kk : ∀ (H1 : Heap) (locs1 : List Loc), Wn D cA A s (ws.set q0 (a, aI (cA 0) n (upd f i.toNatClampNeg x))) H1 locs1 → W p l e R s m args below meth c H1 locs1 cells slots Q (F0 m (pc + 1) ls rest)) : W p l e R s m args below meth c H locs cells slots Q (F0 m pc ls (.int x :: .int i :: .ref a :: rest)) :=
  va_iast (D := D) K.1.1 K.1.2.1 hw.1 hw.2.1 hw.2.2.1 hw.2.2.2.1 q0 0 ha rfl hin hdg (fun H1 locs1 hP hD hS => kk H1 locs1 ⟨hw.1, hP, hD, hS, hw.2.2.2.2⟩)
theorem n_iald (K : Fx p s m args meth c cc nL own rt) (hw : Wn D cA A s ws H locs) (q0 : Nat) {a n : Nat} {f : Nat → Int32} (ha : ws[q0]? = some (a, aI (cA 0) n f)) {i : Int32} (hin : vp_in i n) (hdg : decode cc pc = .ok (.iaload, 1))
    (kk : W p l e R s m args below meth c H locs cells slots Q (F0 m (pc + 1) ls (.int (f i.toNatClampNeg) :: rest))) : W p l e R s m args below meth c H locs cells slots Q (F0 m pc ls (.int i :: .ref a :: rest)) :=
  va_iald (D := D) K.1.1 K.1.2.1 hw.1 hw.2.1 q0 0 ha rfl hin hdg kk
theorem n_aald (K : Fx p s m args meth c cc nL own rt) (hw : Wn D cA A s ws H locs) (q0 t : Nat) {a n r : Nat} {f : Nat → Option Nat} {C : String} (ha : ws[q0]? = some (a, aQ (cA t) n f)) (ht : (TYS cA)[t]? = some (cA t, .object C)) {i : Int32} (hin : vp_in i n) (hr : f i.toNatClampNeg = some r) (hdg : decode cc pc = .ok (.aaload, 1))
    (kk : W p l e R s m args below meth c H locs cells slots Q (F0 m (pc + 1) ls (.ref r :: rest))) : W p l e R s m args below meth c H locs cells slots Q (F0 m pc ls (.int i :: .ref a :: rest)) := by
  refine va_aldq (D := D) K.1.1 K.1.2.1 hw.1 hw.2.1 q0 t ha ht hin hdg ?_
  rw [hr]
  exact kk
theorem n_aast (K : Fx p s m args meth c cc nL own rt) (hw : Wn D cA A s ws H locs) (q0 t qk ci : Nat) {a n v : Nat} {r : vw_C} {vs : List Value} {f : Nat → Option Nat} (ha : ws[q0]? = some (a, aQ (cA t) n f)) (ht : (TYS cA)[t]? = some (cA t, .object r.1)) (hv : ws[qk]? = some (v, .inr (ci, vs))) (hc : CLS[ci]? = some r) {i : Int32} (hin : vp_in i n) (hdg : decode cc pc = .ok (.aastore, 1))
    (kk : ∀ (H1 : Heap) (locs1 : List Loc), Wn D cA A s (ws.set q0 (a, aQ (cA t) n (va_up f i.toNatClampNeg (some v)))) H1 locs1 → W p l e R s m args below meth c H1 locs1 cells slots Q (F0 m (pc + 1) ls rest)) : W p l e R s m args below meth c H locs cells slots Q (F0 m pc ls (.ref v :: .int i :: .ref a :: rest)) :=
  va_astq (D := D) K.1.1 K.1.2.1 hw.1 hw.2.1 hw.2.2.1 hw.2.2.2.1 q0 t qk ci ha ht hv hc hin hdg (fun H1 locs1 hP hD hS => kk H1 locs1 ⟨hw.1, hP, hD, hS, hw.2.2.2.2⟩)
theorem Wn.preC {a : Nat} {e0 : va_E} (hw : Wn D cA A s (ws0 ++ [(a, e0)]) H locs) (av : List Value) : FrameBlind (va_Pc av (fun U => U.heap.size = H.size ∧ va_K D CLS (TYS cA) U ∧ va_P D CLS [(a, e0)] U.heap ∧ va_D (fun _ => True) [(a, e0)])) ∧ ∀ U : State, U.heap = H → s.WarmedH U.vm → va_Pc av (fun U => U.heap.size = H.size ∧ va_K D CLS (TYS cA) U ∧ va_P D CLS [(a, e0)] U.heap ∧ va_D (fun _ => True) [(a, e0)]) av.toArray U := by
  refine ⟨fun a U g mk q => ?_, fun U hU hW => ?_⟩
  · obtain ⟨q0, q1, qK, qP, qD⟩ := q
    exact ⟨q0, q1, va_K.moved (u := U) (U := U.calling g mk a) (Vm.Alike.refl U.vm) qK, qP, qD⟩
  · exact ⟨rfl, by rw [hU], va_K.moved hW.alike hw.1, by rw [hU]; exact (vp_split hw.2.1).2, (va_split hw.2.2.1).2.1.weaken (fun _ _ _ _ => trivial)⟩
theorem n_ctor (K : Fx p s m args meth c cc nL own rt) (hl : ls.size = nL) {y : MethodName} {b : ByteArray} {mL n idx : Nat} {rm : Room} {As st : List Value} {a : Nat} {e0 : va_E} {g : Nat → (Nat → Nat) → va_W} {mc ms : Nat} (hw : Wn D cA A s (ws0 ++ [(a, e0)]) H locs) (hM : MC l D cA y (wT y b mL none) rm As e0 g mc ms) (h1 : Cond.methodLink own idx y ∈ TB) (h2 : Cond.instanceMethod y ∈ TB) (h4 : Cond.initialized y.cls ∈ TB) (h5 : Cond.code y b mL none ∈ TB) (hy : y.name = "<init>")
    (hd : y.cls ≠ "java/lang/invoke/MethodHandle" ∧ y.cls ≠ "java/lang/invoke/VarHandle" ∧ (parseMethodDescriptor y.desc).map (fun d => d.parameters.length) = some n) (hR : rm.cells = mc ∧ rm.slots = ms ∧ rm.frames + 1 ≤ R.frames ∧ 8 + (mL + 11) + rm.locals ≤ R.locals) (hn : As.length = n) (hst : st = As.reverse ++ .ref a :: rest) (hcat : (rest.map fun v => v.category).sum ≤ 8) (hf : cells + mc ≤ R.cells ∧ slots + ms ≤ R.slots) (hdg : decode cc pc = .ok (.invokespecial idx, 3))
    (kk : ∀ (u : Nat → Nat) (H1 : Heap) (locs1 : List Loc), Wn D cA A s (ws0 ++ g a u) H1 locs1 → W p l e R s m args below meth c H1 locs1 (cells + mc) (slots + ms) Q (F0 m (pc + 3) ls rest)) : W p l e R s m args below meth c H locs cells slots Q (F0 m pc ls st) := by
  have hts := K.1.2.2.2.2
  refine va_callv (A0 := A) (va_runI (As := As) (rest := rest) K.1 (hM a H.size) (cwI n hts (tb_good (tb_wT h5)) rfl hR.1 hR.2.1 (hts _ h4) (hts _ h1) (hts _ h2) hy hd hR.2.2) (hw.preC _) rfl hn hl hst (lv_room hcat) hdg hf) hw.2.2.2.1 (fun q _ h => hw.tail q h) hw.tail (fun u t H1 locs1 ht hvm _ hB hz hk hS => ?_)
  obtain ⟨hP1, hK1, hD1⟩ := hB
  rw [ht] at hP1
  exact kk u H1 locs1 (hw.back hk hP1 hD1 hS)
theorem n_ctorN (K : Fx p s m args meth c cc nL own rt) (hl : ls.size = nL) {y : MethodName} {b : ByteArray} {mL n idx : Nat} {host : String} {rm : Room} {As st : List Value} {a : Nat} {e0 : va_E} {g : Nat → (Nat → Nat) → va_W} {mc ms : Nat} (hw : Wn D cA A s (ws0 ++ [(a, e0)]) H locs) (hM : MC l D cA y (wT y b mL none) rm As e0 g mc ms) (hN : va_Nw (.methodLinkNest own idx y host) s) (h2 : Cond.instanceMethod y ∈ TB) (h4 : Cond.initialized y.cls ∈ TB) (h5 : Cond.code y b mL none ∈ TB) (hy : y.name = "<init>")
    (hd : y.cls ≠ "java/lang/invoke/MethodHandle" ∧ y.cls ≠ "java/lang/invoke/VarHandle" ∧ (parseMethodDescriptor y.desc).map (fun d => d.parameters.length) = some n) (hR : rm.cells = mc ∧ rm.slots = ms ∧ rm.frames + 1 ≤ R.frames ∧ 8 + (mL + 11) + rm.locals ≤ R.locals) (hn : As.length = n) (hst : st = As.reverse ++ .ref a :: rest) (hcat : (rest.map fun v => v.category).sum ≤ 8) (hf : cells + mc ≤ R.cells ∧ slots + ms ≤ R.slots) (hdg : decode cc pc = .ok (.invokespecial idx, 3))
    (kk : ∀ (u : Nat → Nat) (H1 : Heap) (locs1 : List Loc), Wn D cA A s (ws0 ++ g a u) H1 locs1 → W p l e R s m args below meth c H1 locs1 (cells + mc) (slots + ms) Q (F0 m (pc + 3) ls rest)) : W p l e R s m args below meth c H locs cells slots Q (F0 m pc ls st) := by
  have hts := K.1.2.2.2.2
  refine va_callv (A0 := A) (va_runIN (As := As) (rest := rest) K.1 (hM a H.size) ⟨va_cnB (ret := none) n hts (tb_good (tb_wT h5)) rfl hR.1 hR.2.1 hN (hts _ h4) hd hR.2.2, hy, hts _ h2⟩ (hw.preC _) rfl hn hl hst (lv_room hcat) hdg hf) hw.2.2.2.1 (fun q _ h => hw.tail q h) hw.tail (fun u t H1 locs1 ht hvm _ hB hz hk hS => ?_)
  obtain ⟨hP1, hK1, hD1⟩ := hB
  rw [ht] at hP1
  exact kk u H1 locs1 (hw.back hk hP1 hD1 hS)
/-- a method of a world that stands last -/
theorem Wn.preW (hw : Wn D cA A s (ws0 ++ Wd cA ad sh σ) H locs) (hC : Cst ad A s s.heap) (av : List Value) : FrameBlind (va_Pc av (PreW D cA ad sh σ H.size)) ∧ ∀ U : State, U.heap = H → s.WarmedH U.vm → va_Pc av (PreW D cA ad sh σ H.size) av.toArray U := by
  refine ⟨fun a U g mk q => ?_, fun U hU hW => ?_⟩
  · obtain ⟨q0, q1, qK, qP, qD, qC⟩ := q
    exact ⟨q0, q1, va_K.moved (u := U) (U := U.calling g mk a) (Vm.Alike.refl U.vm) qK, qP, qD, Cst.vm (s := U) (U := U.calling g mk a) rfl qC⟩
  · refine ⟨rfl, by rw [hU], va_K.moved hW.alike hw.1, by rw [hU]; exact (vp_split hw.2.1).2, (va_split hw.2.2.1).2.1.weaken (fun _ _ _ _ => trivial), ?_⟩
    rw [hU]
    exact Cst.go hW hC hw.tail ⟨locs, hw.2.2.2.1⟩
theorem Wn.recv (hw : Wn D cA A s (ws0 ++ Wd cA ad sh σ) H locs) {q ci N : Nat} {ks : List Nat} {C : String} {T : u_T} (hq : sh[q]? = some (.inl (ci, ks))) (hc : CLS[ci]? = some (C, T, N)) : ∃ cell : Cell, H[ad q]? = some cell ∧ cell.vm.isStatics = false ∧ s.vm.findClass C = some cell.cls := va_recv hw.1 (vp_split hw.2.1).2 hc (Wd_at hq)
theorem Wn.backW (hw : Wn D cA A s (ws0 ++ Wd cA ad sh σ) H locs) {H1 : Heap} {locs1 : List Loc} (hk : ∀ q : Nat, q < H.size → ¬ va_A (Wd cA ad sh σ) H.size q → H1[q]? = H[q]?) (hP1 : va_P D CLS (Wd cA ad sh τ) H1) (hS1 : va_S A s.heap H1 locs1) : Wn D cA A s (ws0 ++ Wd cA ad sh τ) H1 locs1 :=
  hw.back hk hP1 (Wd_D ((va_split hw.2.2.1).2.1.self (sz := H.size))) hS1
theorem n_WVV (K : Fx p s m args meth c cc nL own rt) (hw : Wn D cA A s (ws0 ++ Wd cA ad sh σ) H locs) (hC : Cst ad A s s.heap) (hl : ls.size = nL) {y : MethodName} {b : ByteArray} {mL n idx : Nat} {rt2 : Option FieldType} {rm : Room} {As st : List Value} {q : Nat} (hM : MV l D cA ad sh y (wT y b mL rt2) rm (.ref (ad q) :: As) σ τ) {ci N : Nat} {ks : List Nat} {C : String} {T : u_T} (hq : sh[q]? = some (.inl (ci, ks))) (hc : CLS[ci]? = some (C, T, N)) (g : GoodIn TB (wsV own idx C y (wT y b mL rt2)))
    (hd : y.cls = C ∧ y.cls ≠ "java/lang/invoke/MethodHandle" ∧ y.cls ≠ "java/lang/invoke/VarHandle" ∧ (parseMethodDescriptor y.desc).map (fun d => d.parameters.length) = some n) (hR : rm.cells = 0 ∧ rm.slots = 0 ∧ rm.frames + 1 ≤ R.frames ∧ 8 + (mL + 11) + rm.locals ≤ R.locals) (hn : As.length = n) (hst : st = As.reverse ++ .ref (ad q) :: rest) (hcat : (rest.map fun v => v.category).sum ≤ 8) (hf : cells ≤ R.cells ∧ slots ≤ R.slots) (hdg : decode cc pc = .ok (.invokevirtual idx, 3))
    (kk : ∀ (H1 : Heap) (locs1 : List Loc), Wn D cA A s (ws0 ++ Wd cA ad sh τ) H1 locs1 → W p l e R s m args below meth c H1 locs1 cells slots Q (F0 m (pc + 3) ls rest)) : W p l e R s m args below meth c H locs cells slots Q (F0 m pc ls st) := by
  have hp := hw.preW hC (.ref (ad q) :: As)
  refine va_callv (A0 := A) (va_runV (C := C) (As := As) (rest := rest) K.1 (hM H.size) (cwV n K.1.2.2.2.2 g rfl hR.1 hR.2.1 hd hR.2.2) ⟨hp.1, hw.recv hq hc, hp.2⟩ rfl hn hl hst (lv_room hcat) hdg hf) hw.2.2.2.1 (fun q _ h => hw.tail q h) hw.tail (fun u t H1 locs1 ht hvm hr hB hz hk hS => ?_)
  exact kk H1 locs1 (hw.backW hk (by rw [← ht]; exact hB.1) hS)
theorem n_WVI (K : Fx p s m args meth c cc nL own rt) (hw : Wn D cA A s (ws0 ++ Wd cA ad sh σ) H locs) (hC : Cst ad A s s.heap) (hl : ls.size = nL) {y : MethodName} {b : ByteArray} {mL n idx : Nat} {rt2 : Option FieldType} {rm : Room} {As st : List Value} {q : Nat} {r : Int32} (hM : MI l D cA ad sh y (wT y b mL rt2) rm (.ref (ad q) :: As) σ r τ) {ci N : Nat} {ks : List Nat} {C : String} {T : u_T} (hq : sh[q]? = some (.inl (ci, ks))) (hc : CLS[ci]? = some (C, T, N)) (g : GoodIn TB (wsV own idx C y (wT y b mL rt2)))
    (hd : y.cls = C ∧ y.cls ≠ "java/lang/invoke/MethodHandle" ∧ y.cls ≠ "java/lang/invoke/VarHandle" ∧ (parseMethodDescriptor y.desc).map (fun d => d.parameters.length) = some n) (hR : rm.cells = 0 ∧ rm.slots = 0 ∧ rm.frames + 1 ≤ R.frames ∧ 8 + (mL + 11) + rm.locals ≤ R.locals) (hn : As.length = n) (hst : st = As.reverse ++ .ref (ad q) :: rest) (hcat : (rest.map fun v => v.category).sum ≤ 8) (hf : cells ≤ R.cells ∧ slots ≤ R.slots) (hdg : decode cc pc = .ok (.invokevirtual idx, 3))
    (kk : ∀ (H1 : Heap) (locs1 : List Loc), Wn D cA A s (ws0 ++ Wd cA ad sh τ) H1 locs1 → W p l e R s m args below meth c H1 locs1 cells slots Q (F0 m (pc + 3) ls (.int r :: rest))) : W p l e R s m args below meth c H locs cells slots Q (F0 m pc ls st) := by
  have hp := hw.preW hC (.ref (ad q) :: As)
  refine va_calli (A0 := A) (va_runV (C := C) (As := As) (rest := rest) K.1 (hM H.size) (cwV n K.1.2.2.2.2 g rfl hR.1 hR.2.1 hd hR.2.2) ⟨hp.1, hw.recv hq hc, hp.2⟩ rfl hn hl hst (lv_room hcat) hdg hf) hw.2.2.2.1 (fun q _ h => hw.tail q h) hw.tail (fun r' u t H1 locs1 ht hvm hr hB hz hk hS => ?_)
  subst hr
  exact kk H1 locs1 (hw.backW hk (by rw [← ht]; exact hB.1) hS)
theorem n_WVL (K : Fx p s m args meth c cc nL own rt) (hw : Wn D cA A s (ws0 ++ Wd cA ad sh σ) H locs) (hC : Cst ad A s s.heap) (hl : ls.size = nL) {y : MethodName} {b : ByteArray} {mL n idx : Nat} {rt2 : Option FieldType} {rm : Room} {As st : List Value} {q : Nat} {r : Int64} (hM : ML l D cA ad sh y (wT y b mL rt2) rm (.ref (ad q) :: As) σ r τ) {ci N : Nat} {ks : List Nat} {C : String} {T : u_T} (hq : sh[q]? = some (.inl (ci, ks))) (hc : CLS[ci]? = some (C, T, N)) (g : GoodIn TB (wsV own idx C y (wT y b mL rt2)))
    (hd : y.cls = C ∧ y.cls ≠ "java/lang/invoke/MethodHandle" ∧ y.cls ≠ "java/lang/invoke/VarHandle" ∧ (parseMethodDescriptor y.desc).map (fun d => d.parameters.length) = some n) (hR : rm.cells = 0 ∧ rm.slots = 0 ∧ rm.frames + 1 ≤ R.frames ∧ 8 + (mL + 11) + rm.locals ≤ R.locals) (hn : As.length = n) (hst : st = As.reverse ++ .ref (ad q) :: rest) (hcat : (rest.map fun v => v.category).sum ≤ 8) (hf : cells ≤ R.cells ∧ slots ≤ R.slots) (hdg : decode cc pc = .ok (.invokevirtual idx, 3))
    (kk : ∀ (H1 : Heap) (locs1 : List Loc), Wn D cA A s (ws0 ++ Wd cA ad sh τ) H1 locs1 → W p l e R s m args below meth c H1 locs1 cells slots Q (F0 m (pc + 3) ls (.long r :: rest))) : W p l e R s m args below meth c H locs cells slots Q (F0 m pc ls st) := by
  have hp := hw.preW hC (.ref (ad q) :: As)
  refine va_calll (A0 := A) (va_runV (C := C) (As := As) (rest := rest) K.1 (hM H.size) (cwV n K.1.2.2.2.2 g rfl hR.1 hR.2.1 hd hR.2.2) ⟨hp.1, hw.recv hq hc, hp.2⟩ rfl hn hl hst (lv_room hcat) hdg hf) hw.2.2.2.1 (fun q _ h => hw.tail q h) hw.tail (fun r' u t H1 locs1 ht hvm hr hB hz hk hS => ?_)
  subst hr
  exact kk H1 locs1 (hw.backW hk (by rw [← ht]; exact hB.1) hS)
/-- a method of a text -/
theorem n_TVI (K : Fx p s m args meth c cc nL own rt) (hw : Wn D cA A s (ws0 ++ Wd cA ad sh σ) H locs) (hC : Cst ad A s s.heap) (hl : ls.size = nL) {y : MethodName} {b : ByteArray} {mL n idx : Nat} {rt2 : Option FieldType} {rm : Room} {As st : List Value} {i : Nat} {r : Int32} (hM : MI l D cA ad sh y (wT y b mL rt2) rm (.ref (ad (101 + i)) :: As) σ r τ) (hi : i < 3) (g : GoodIn TB (wsV own idx R_JString y (wT y b mL rt2)))
    (hd : y.cls = R_JString ∧ y.cls ≠ "java/lang/invoke/MethodHandle" ∧ y.cls ≠ "java/lang/invoke/VarHandle" ∧ (parseMethodDescriptor y.desc).map (fun d => d.parameters.length) = some n) (hR : rm.cells = 0 ∧ rm.slots = 0 ∧ rm.frames + 1 ≤ R.frames ∧ 8 + (mL + 11) + rm.locals ≤ R.locals) (hn : As.length = n) (hst : st = As.reverse ++ .ref (ad (101 + i)) :: rest) (hcat : (rest.map fun v => v.category).sum ≤ 8) (hf : cells ≤ R.cells ∧ slots ≤ R.slots) (hdg : decode cc pc = .ok (.invokevirtual idx, 3))
    (kk : ∀ (H1 : Heap) (locs1 : List Loc), Wn D cA A s (ws0 ++ Wd cA ad sh τ) H1 locs1 → W p l e R s m args below meth c H1 locs1 cells slots Q (F0 m (pc + 3) ls (.int r :: rest))) : W p l e R s m args below meth c H locs cells slots Q (F0 m pc ls st) := by
  have hp := hw.preW hC (.ref (ad (101 + i)) :: As)
  refine va_calli (A0 := A) (va_runV (C := R_JString) (As := As) (rest := rest) K.1 (hM H.size) (cwV n K.1.2.2.2.2 g rfl hR.1 hR.2.1 hd hR.2.2) ⟨hp.1, vk_recv hC.2.2.2.1 hi hw.2.2.2.1, hp.2⟩ rfl hn hl hst (lv_room hcat) hdg hf) hw.2.2.2.1 (fun q _ h => hw.tail q h) hw.tail (fun r' u t H1 locs1 ht hvm hr hB hz hk hS => ?_)
  subst hr
  exact kk H1 locs1 (hw.backW hk (by rw [← ht]; exact hB.1) hS)
/-- a constructor's start, its end -/
theorem c_start {y : MethodName} {mL : Nat} {rm : Room} {As : List Value} {e0 : va_E} {g : Nat → (Nat → Nat) → va_W} {mc ms : Nat} (hy : plainName y.cls = true) (hyn : y.name = "<init>") (hcd : Cond.code y cc mL none ∈ TB) (hlen : ∀ h0, (lg_sl (.ref h0 :: As)).length ≤ mL)
    (body : ∀ h0 p e s m below meth c ls, Fx p s m (Value.ref h0 :: As).toArray meth c cc mL y.cls none → meth.name = "<init>" → lv_has ls mL (lv_args 0 (.ref h0 :: As)) → Wn D cA (va_A [(h0, e0)] s.heap.size) s [(h0, e0)] s.heap [] → W p l e rm s m (Value.ref h0 :: As).toArray below meth c s.heap [] 0 0 (MQ below (va_Qv (fun _ : Nat → Nat => True) (fun u t => va_P D CLS (g h0 u) t.heap ∧ va_K D CLS (TYS cA) t ∧ va_D (va_A [(h0, e0)] s.heap.size) (g h0 u)) (va_A [(h0, e0)] s.heap.size)) (Value.ref h0 :: As).toArray s mc ms (va_A [(h0, e0)] s.heap.size)) (F0 m 0 ls [])) : MC l D cA y (wT y cc mL none) rm As e0 g mc ms := by
  intro h0 sz
  refine Met.ofW (cc := cc) (maxL := mL) (ret := none) hy rfl ?_
  intro p e s m args below meth c s₁ B hml hv
  obtain ⟨rfl, hsz, hK, hP, hD0⟩ := hv
  have hts := atoms_spec (ws := wT y cc mL none) B.pre
  have hown : s.vm.findClass y.cls = some m.cls := findClass_of_methodNamed B.named
  have hin : meth.name = "<init>" := (name_of_methodNamed B.named B.method).1.trans hyn
  have hl := lv_entry (.ref h0 :: As) (n := mL) (hlen h0)
  rw [lg_entry_eq]
  subst hsz
  exact body h0 p e s m below meth c _ ⟨⟨B.exec, B.bytes, hml, hown, fun w hw => hts w (List.mem_cons_of_mem _ hw)⟩, B.returns, B.notSynchronized⟩ hin hl ⟨hK, hP, hD0.self, va_S.rf, fun q h => Or.inr h⟩
theorem c_end {h0 : Nat} {e0 : va_E} {g : Nat → (Nat → Nat) → va_W} {mc ms : Nat} (K : Fx p s m args meth c cc nL own none) (hw : Wn D cA (va_A [(h0, e0)] s.heap.size) s ws H locs) (u : Nat → Nat) (hg : ws = g h0 u) (h1 : cells ≤ mc) (h2 : slots ≤ ms) (hdg : decode cc pc = .ok (.return_, 1)) : W p l e R s m args below meth c H locs cells slots (MQ below (va_Qv (fun _ : Nat → Nat => True) (fun u t => va_P D CLS (g h0 u) t.heap ∧ va_K D CLS (TYS cA) t ∧ va_D (va_A [(h0, e0)] s.heap.size) (g h0 u)) (va_A [(h0, e0)] s.heap.size)) args s mc ms (va_A [(h0, e0)] s.heap.size)) (F0 m pc ls []) := by
  subst hg
  refine W.widen (k := mc) (n := ms) h1 h2 ?_
  exact W.vret K.1.1 K.1.2.1 K.2.1 (fun t ht hW => ⟨⟨u, rfl, trivial, by rw [ht]; exact hw.2.1, va_K.moved hW.alike hw.1, hw.2.2.1⟩, hw.2.2.2.1.F ht⟩) hw.2.2.2.1.2.2 hdg K.2.2
theorem n_obj (K : Fx p s m args meth c cc nL own rt) (hl : ls.size = nL) {idx a : Nat} (h1 : Cond.methodLink own idx objectInit ∈ TB) (h2 : Cond.instanceMethod objectInit ∈ TB) (h3 : Cond.code objectInit ⟨#[0xb1]⟩ 1 none ∈ TB) (hf : 1 ≤ R.frames) (hlo : (rest.map fun v => v.category).sum + 12 ≤ R.locals) (hdg : decode cc pc = .ok (.invokespecial idx, 3))
    (kk : W p l e R s m args below meth c H locs cells slots Q (F0 m (pc + 3) ls rest)) : W p l e R s m args below meth c H locs cells slots Q (F0 m pc ls (.ref a :: rest)) := by
  have hts := K.1.2.2.2.2
  refine W.objInit K.1.1 K.1.2.1 K.1.2.2.2.1 (hts _ h1) (hts _ h2) (hts _ h3) rfl (by rw [K.1.2.2.1]; exact hl) rfl hdg hf ?_ ?_
  · show 2 * 0 + (rest.map fun v => v.category).sum + 12 ≤ R.locals
    omega
  · exact kk
end NW
