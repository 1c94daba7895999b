/-! ===== one world for all methods: a store of ints and one of places, over a fixed shape ===== -/
/-- the store: cell, slot -> int; cell, slot -> place -/
abbrev St : Type := (Nat → Nat → Int32) × (Nat → Nat → Nat)
/-- a cell's shape: an object (its class, its fields: 0 an int, 1 a place of the store, k + 2 the cell k), a row of so many ints, a row of so many cells from one on (and its class) -/
abbrev Sh : Type := (Nat × List Nat) ⊕ (Nat ⊕ (Nat × Nat × Nat))
def s_fv (ad : Nat → Nat) (f : Nat → Int32) (g : Nat → Nat) (j k : Nat) : Value := match k with
  | 0 => .int (f j)
  | 1 => .ref (ad (g j))
  | k + 2 => .ref (ad k)
def s_fs (ad : Nat → Nat) (f : Nat → Int32) (g : Nat → Nat) (ks : List Nat) : List Value := ks.mapIdx (fun j k => s_fv ad f g j k)
def s_cell (cA : Nat → ClassId) (ad : Nat → Nat) (x : Sh) (f : Nat → Int32) (g : Nat → Nat) : va_E := match x with
  | .inl (ci, ks) => .inr (ci, s_fs ad f g ks)
  | .inr (.inl n) => .inl (cA 0, n, .inl f)
  | .inr (.inr (t, b, n)) => .inl (cA t, n, .inr (.inr (.inr (.inr (fun i => some (ad (b + i)))))))
def Wd (cA : Nat → ClassId) (ad : Nat → Nat) (sh : List Sh) (σ : St) : va_W := sh.mapIdx (fun p x => (ad p, s_cell cA ad x (σ.1 p) (σ.2 p)))
def up1 (σ : St) (p j : Nat) (x : Int32) : St := (fun q i => if q = p ∧ i = j then x else σ.1 q i, σ.2)
def up2 (σ : St) (p j : Nat) (r : Nat) : St := (σ.1, fun q i => if q = p ∧ i = j then r else σ.2 q i)
theorem Wd_at {cA : Nat → ClassId} {ad : Nat → Nat} {sh : List Sh} {σ : St} {p : Nat} {x : Sh} (h : sh[p]? = some x) : (Wd cA ad sh σ)[p]? = some (ad p, s_cell cA ad x (σ.1 p) (σ.2 p)) := by
  simp [Wd, List.getElem?_mapIdx, h]
theorem Wd_inv {cA : Nat → ClassId} {ad : Nat → Nat} {sh : List Sh} {σ : St} {p : Nat} {q : Nat × va_E} (h : (Wd cA ad sh σ)[p]? = some q) : ∃ x, sh[p]? = some x ∧ q = (ad p, s_cell cA ad x (σ.1 p) (σ.2 p)) := by
  rw [Wd, List.getElem?_mapIdx] at h
  cases hx : sh[p]? with
  | none => rw [hx] at h; cases h
  | some x => rw [hx] at h; exact ⟨x, rfl, (Option.some.inj h).symm⟩
theorem s_fs_set {ad : Nat → Nat} {f f2 : Nat → Int32} {g g2 : Nat → Nat} {ks : List Nat} {j : Nat} {v : Value} {k : Nat} (hk : ks[j]? = some k) (hv : v = s_fv ad f2 g2 j k) (ho : ∀ i k', i ≠ j → s_fv ad f2 g2 i k' = s_fv ad f g i k') : (s_fs ad f g ks).set j v = s_fs ad f2 g2 ks := by
  have hl := (List.getElem?_eq_some_iff.mp hk).1
  apply List.ext_getElem?
  intro i
  by_cases hi : i = j
  · subst hi
    rw [List.getElem?_set_self (by simp [s_fs]; exact hl)]
    simp [s_fs, List.getElem?_mapIdx, hk, hv]
  · rw [List.getElem?_set_ne (Ne.symm hi)]
    simp only [s_fs, List.getElem?_mapIdx]
    cases hq : ks[i]? with
    | none => rfl
    | some k' => simp [ho i k' hi]
theorem Wd_set {cA : Nat → ClassId} {ad : Nat → Nat} {sh : List Sh} {σ τ : St} {p : Nat} {x : Sh} {c : va_E} (h : sh[p]? = some x) (hc : c = s_cell cA ad x (τ.1 p) (τ.2 p)) (ho : ∀ q y, q ≠ p → s_cell cA ad y (τ.1 q) (τ.2 q) = s_cell cA ad y (σ.1 q) (σ.2 q)) : (Wd cA ad sh σ).set p (ad p, c) = Wd cA ad sh τ := by
  have hl := (List.getElem?_eq_some_iff.mp h).1
  apply List.ext_getElem?
  intro i
  by_cases hi : i = p
  · subst hi
    rw [List.getElem?_set_self (by simp [Wd]; exact hl), Wd_at h, hc]
  · rw [List.getElem?_set_ne (Ne.symm hi)]
    cases hq : sh[i]? with
    | none => simp [Wd, List.getElem?_mapIdx, hq]
    | some y => rw [Wd_at hq, Wd_at hq, ho i y hi]
theorem up1_ne {σ : St} {p j q : Nat} {x : Int32} (h : q ≠ p) : (up1 σ p j x).1 q = σ.1 q := by
  funext i; simp [up1, h]
theorem up2_ne {σ : St} {p j q : Nat} {x : Nat} (h : q ≠ p) : (up2 σ p j x).2 q = σ.2 q := by
  funext i; simp [up2, h]
theorem Wd_setI {cA : Nat → ClassId} {ad : Nat → Nat} {sh : List Sh} {σ : St} {p j ci : Nat} {ks : List Nat} {x : Int32} (h : sh[p]? = some (.inl (ci, ks))) (hk : ks[j]? = some 0) : (Wd cA ad sh σ).set p (ad p, .inr (ci, (s_fs ad (σ.1 p) (σ.2 p) ks).set j (.int x))) = Wd cA ad sh (up1 σ p j x) := by
  refine Wd_set h ?_ (fun q y hq => by rw [up1_ne hq]; rfl)
  show _ = Sum.inr (ci, s_fs ad _ _ ks)
  rw [s_fs_set (f2 := (up1 σ p j x).1 p) (g2 := σ.2 p) hk (by simp [s_fv, up1])]
  · rfl
  · intro i k' hi
    match k' with
    | 0 => simp [s_fv, up1, hi]
    | 1 => rfl
    | k + 2 => rfl
theorem Wd_setR {cA : Nat → ClassId} {ad : Nat → Nat} {sh : List Sh} {σ : St} {p j ci : Nat} {ks : List Nat} {r : Nat} (h : sh[p]? = some (.inl (ci, ks))) (hk : ks[j]? = some 1) : (Wd cA ad sh σ).set p (ad p, .inr (ci, (s_fs ad (σ.1 p) (σ.2 p) ks).set j (.ref (ad r)))) = Wd cA ad sh (up2 σ p j r) := by
  refine Wd_set h ?_ (fun q y hq => by rw [up2_ne hq]; rfl)
  show _ = Sum.inr (ci, s_fs ad _ _ ks)
  rw [s_fs_set (f2 := σ.1 p) (g2 := (up2 σ p j r).2 p) hk (by simp [s_fv, up2])]
  · rfl
  · intro i k' hi
    match k' with
    | 0 => rfl
    | 1 => simp [s_fv, up2, hi]
    | k + 2 => rfl
theorem Wd_setA {cA : Nat → ClassId} {ad : Nat → Nat} {sh : List Sh} {σ : St} {p j n : Nat} {x : Int32} (h : sh[p]? = some (.inr (.inl n))) : (Wd cA ad sh σ).set p (ad p, .inl (cA 0, n, .inl (upd (σ.1 p) j x))) = Wd cA ad sh (up1 σ p j x) := by
  refine Wd_set h ?_ (fun q y hq => by rw [up1_ne hq]; rfl)
  show Sum.inl (cA 0, n, Sum.inl (upd (σ.1 p) j x)) = Sum.inl (cA 0, n, Sum.inl ((up1 σ p j x).1 p))
  congr 4
  funext i
  simp [upd, up1]
theorem Wd_D {cA : Nat → ClassId} {ad : Nat → Nat} {sh : List Sh} {σ τ : St} {A : Nat → Prop} (h : va_D A (Wd cA ad sh σ)) : va_D A (Wd cA ad sh τ) := by
  have key : ∀ (k : Nat) (q : Nat × va_E), (Wd cA ad sh τ)[k]? = some q → ∃ q0, (Wd cA ad sh σ)[k]? = some q0 ∧ q0.1 = q.1 := by
    intro k q hk
    obtain ⟨x, h1, rfl⟩ := Wd_inv hk
    exact ⟨_, Wd_at h1, rfl⟩
  refine ⟨fun i j x y hi hj hxy => ?_, fun k q hk => ?_⟩
  · obtain ⟨x0, h1, h2⟩ := key i x hi
    obtain ⟨y0, h3, h4⟩ := key j y hj
    exact h.1 i j x0 y0 h1 h3 (h2.trans (hxy.trans h4.symm))
  · obtain ⟨q0, h1, h2⟩ := key k q hk
    rw [← h2]
    exact h.2 k q0 h1
theorem Wd_A {cA : Nat → ClassId} {ad : Nat → Nat} {sh : List Sh} {σ τ : St} {sz q : Nat} (h : va_A (Wd cA ad sh σ) sz q) : va_A (Wd cA ad sh τ) sz q := by
  rcases h with ⟨k, e, h⟩ | h
  · obtain ⟨x, h1, h2⟩ := Wd_inv h
    have : q = ad k := congrArg Prod.fst h2
    subst this
    exact Or.inl ⟨k, _, Wd_at h1⟩
  · exact Or.inr h
/-- what no method changes: the links between nest mates -/
def NWS : List Cond := [.methodLinkNest "ArmAgainstArm" 23 ⟨"ArmAgainstArm$Tape", "<init>", "()V"⟩ "ArmAgainstArm", .methodLinkNest "ArmAgainstArm" 36 ⟨"ArmAgainstArm$Image", "<init>", "()V"⟩ "ArmAgainstArm", .methodLinkNest "ArmAgainstArm" 41 ⟨"ArmAgainstArm$Arm", "<init>", "()V"⟩ "ArmAgainstArm", .methodLinkNest "ArmAgainstArm" 42 ⟨"ArmAgainstArm$Sheet", "<init>", "()V"⟩ "ArmAgainstArm", .methodLinkNest "ArmAgainstArm$Tape" 23 ⟨"ArmAgainstArm", "isWithin", "(III)Z"⟩ "ArmAgainstArm", .methodLinkNest "ArmAgainstArm$Text" 32 ⟨"ArmAgainstArm", "bounded", "(III)I"⟩ "ArmAgainstArm", .fieldLinkNest "ArmAgainstArm$Arm" 53 "ArmAgainstArm" "KIND_ABOVE" "[I" "ArmAgainstArm", .methodLinkNest "ArmAgainstArm$Arm" 57 ⟨"ArmAgainstArm", "isWithin", "(III)Z"⟩ "ArmAgainstArm", .methodLinkNest "ArmAgainstArm$Arm" 61 ⟨"ArmAgainstArm", "bounded", "(III)I"⟩ "ArmAgainstArm", .methodLinkNest "ArmAgainstArm$Side" 54 ⟨"ArmAgainstArm", "bounded", "(III)I"⟩ "ArmAgainstArm", .methodLinkNest "ArmAgainstArm$Bout" 80 ⟨"ArmAgainstArm", "bounded", "(III)I"⟩ "ArmAgainstArm", .methodLinkNest "ArmAgainstArm$Sheet" 26 ⟨"ArmAgainstArm", "isWithin", "(III)Z"⟩ "ArmAgainstArm", .methodLinkNest "ArmAgainstArm$Sheet" 19 ⟨"ArmAgainstArm", "bounded", "(III)I"⟩ "ArmAgainstArm"]
/-- the constant row, the three texts: their cells are ad 100, ad 101 .. 103, their bytes ad 104 .. 106 -/
def kaF : Nat → Int32 := fun j => match j with
  | 0 => -1
  | 3 => 1
  | 4 => 2
  | _ => 0
def STX0 : String := "force told + hard * 6 + hold ; spends hard ; hurts 0 - angle ;"
def STX1 : String := "force spends hurts or and not told more hold hard angle tenth "
def STX2 : String := "();+-*<="
def SLEN : List Nat := [62, 62, 8]
def SBYT : List (List Int32) := [[102, 111, 114, 99, 101, 32, 116, 111, 108, 100, 32, 43, 32, 104, 97, 114, 100, 32, 42, 32, 54, 32, 43, 32, 104, 111, 108, 100, 32, 59, 32, 115, 112, 101, 110, 100, 115, 32, 104, 97, 114, 100, 32, 59, 32, 104, 117, 114, 116, 115, 32, 48, 32, 45, 32, 97, 110, 103, 108, 101, 32, 59], [102, 111, 114, 99, 101, 32, 115, 112, 101, 110, 100, 115, 32, 104, 117, 114, 116, 115, 32, 111, 114, 32, 97, 110, 100, 32, 110, 111, 116, 32, 116, 111, 108, 100, 32, 109, 111, 114, 101, 32, 104, 111, 108, 100, 32, 104, 97, 114, 100, 32, 97, 110, 103, 108, 101, 32, 116, 101, 110, 116, 104, 32], [40, 41, 59, 43, 45, 42, 60, 61]]
def Cst (ad : Nat → Nat) (A : Nat → Prop) (s : State) (H : Heap) : Prop := (∀ w ∈ NWS, va_Nw w s) ∧ va_Z R_Main "KIND_ABOVE" "[I" (.ref (ad 100)) A s H ∧ va_T .int (ad 100) 6 (fun j => .int (kaF j)) A s H ∧ vk_S 3 SLEN SBYT (fun i => ad (101 + i)) (fun i => ad (104 + i)) A s H ∧ (vk_R R_Main 46 STX0 (ad 101) s ∧ vk_R R_Tokens 62 STX1 (ad 102) s ∧ vk_R R_Tokens 78 STX2 (ad 103) s) ∧ va_Z "java/lang/String" "COMPACT_STRINGS" "Z" (.int 1) A s H ∧ va_Zq "jdk/internal/util/Preconditions" "SIOOBE_FORMATTER" "Ljava/util/function/BiFunction;" A s H
theorem nw_warm {s U : State} (hW : s.WarmedH U.vm) (h : ∀ w ∈ NWS, va_Nw w s) : ∀ w ∈ NWS, va_Nw w U := by
  intro w hw
  have h1 := h w hw
  simp only [NWS, List.mem_cons, List.not_mem_nil, or_false] at hw
  rcases hw with rfl | rfl | rfl | rfl | rfl | rfl | rfl | rfl | rfl | rfl | rfl | rfl | rfl
  · exact va_Nw.warmM hW h1
  · exact va_Nw.warmM hW h1
  · exact va_Nw.warmM hW h1
  · exact va_Nw.warmM hW h1
  · exact va_Nw.warmM hW h1
  · exact va_Nw.warmM hW h1
  · exact va_Nw.warmF hW h1
  · exact va_Nw.warmM hW h1
  · exact va_Nw.warmM hW h1
  · exact va_Nw.warmM hW h1
  · exact va_Nw.warmM hW h1
  · exact va_Nw.warmM hW h1
  · exact va_Nw.warmM hW h1
theorem Cst.go {ad : Nat → Nat} {A B : Nat → Prop} {s U : State} {H : Heap} (hW : s.WarmedH U.vm) (h : Cst ad A s s.heap) (hAB : ∀ q, B q → A q) (hS : ∃ locs, va_S A s.heap H locs) : Cst ad B U H := by
  obtain ⟨h1, h2, h3, h4, ⟨h5, h6, h7⟩, h8, h9⟩ := h
  obtain ⟨locs, hS⟩ := hS
  have hq : ∀ a : Nat, a < s.heap.size → ¬ A a → H[a]? = s.heap[a]? := hS.2.1
  exact ⟨nw_warm hW h1, va_Z.moved hW.alike ((h2.kept hq).narrow hAB), va_T.moved hW.alike ((h3.kept hq).narrow hAB), vk_S.moved hW.alike ((h4.kept hq).narrow hAB), ⟨vk_R.warm hW h5, vk_R.warm hW h6, vk_R.warm hW h7⟩, va_Z.moved hW.alike ((h8.kept hq).narrow hAB), va_Zq.moved hW.alike ((h9.kept hq).narrow hAB)⟩
theorem Cst.vm {ad : Nat → Nat} {A : Nat → Prop} {s U : State} {H : Heap} (hv : U.vm = s.vm) (h : Cst ad A s H) : Cst ad A U H := by
  obtain ⟨h1, h2, h3, h4, ⟨h5, h6, h7⟩, h8, h9⟩ := h
  have ha : s.vm.Alike U.vm := by rw [hv]; exact Vm.Alike.refl _
  exact ⟨fun w hw => va_Nw.same (by simp only [NWS, List.mem_cons, List.not_mem_nil, or_false] at hw; rcases hw with rfl | rfl | rfl | rfl | rfl | rfl | rfl | rfl | rfl | rfl | rfl | rfl | rfl <;> rfl) hv.symm (h1 w hw), va_Z.moved ha h2, va_T.moved ha h3, vk_S.moved ha h4, ⟨vk_R.same hv h5, vk_R.same hv h6, vk_R.same hv h7⟩, va_Z.moved ha h8, va_Zq.moved ha h9⟩
/-- a world at a frame -/
def Wh (D : va_G) (cA : Nat → ClassId) (ad : Nat → Nat) (sh : List Sh) (A : Nat → Prop) (s : State) (σ : St) (H : Heap) (locs : List Loc) : Prop :=
  va_K D CLS (TYS cA) s ∧ va_P D CLS (Wd cA ad sh σ) H ∧ va_D A (Wd cA ad sh σ) ∧ va_S A s.heap H locs ∧ Cst ad A s s.heap ∧ (∀ q, s.heap.size ≤ q → A q)
/-- a method's start and end -/
def PreW (D : va_G) (cA : Nat → ClassId) (ad : Nat → Nat) (sh : List Sh) (σ : St) (sz : Nat) : State → Prop := fun U => U.heap.size = sz ∧ va_K D CLS (TYS cA) U ∧ va_P D CLS (Wd cA ad sh σ) U.heap ∧ va_D (fun _ => True) (Wd cA ad sh σ) ∧ Cst ad (va_A (Wd cA ad sh σ) sz) U U.heap
def AtW (D : va_G) (cA : Nat → ClassId) (ad : Nat → Nat) (sh : List Sh) (σ : St) (t : State) : Prop := va_P D CLS (Wd cA ad sh σ) t.heap ∧ va_K D CLS (TYS cA) t
def QcI (D : va_G) (cA : Nat → ClassId) (ad : Nat → Nat) (sh : List Sh) (A : Nat → Prop) (r : Int32) (σ : St) : Array Value → State → Outcome → State → Prop := va_Qi (fun x (_ : Unit) => x = r) (fun _ t => AtW D cA ad sh σ t) A
def QcL (D : va_G) (cA : Nat → ClassId) (ad : Nat → Nat) (sh : List Sh) (A : Nat → Prop) (r : Int64) (σ : St) : Array Value → State → Outcome → State → Prop := va_Ql (fun x (_ : Unit) => x = r) (fun _ t => AtW D cA ad sh σ t) A
def QcV (D : va_G) (cA : Nat → ClassId) (ad : Nat → Nat) (sh : List Sh) (A : Nat → Prop) (σ : St) : Array Value → State → Outcome → State → Prop := va_Qv (fun (_ : Unit) => True) (fun _ t => AtW D cA ad sh σ t) A
/-- contracts: an int, a long, nothing -/
def MI (l : Launch) (D : va_G) (cA : Nat → ClassId) (ad : Nat → Nat) (sh : List Sh) (y : MethodName) (ws : List Cond) (rm : Room) (av : List Value) (σ : St) (r : Int32) (τ : St) : Prop := ∀ sz, Met l y ws rm (va_Pc av (PreW D cA ad sh σ sz)) (QcI D cA ad sh (va_A (Wd cA ad sh σ) sz) r τ) 0 0 (va_A (Wd cA ad sh σ) sz)
def ML (l : Launch) (D : va_G) (cA : Nat → ClassId) (ad : Nat → Nat) (sh : List Sh) (y : MethodName) (ws : List Cond) (rm : Room) (av : List Value) (σ : St) (r : Int64) (τ : St) : Prop := ∀ sz, Met l y ws rm (va_Pc av (PreW D cA ad sh σ sz)) (QcL D cA ad sh (va_A (Wd cA ad sh σ) sz) r τ) 0 0 (va_A (Wd cA ad sh σ) sz)
def MV (l : Launch) (D : va_G) (cA : Nat → ClassId) (ad : Nat → Nat) (sh : List Sh) (y : MethodName) (ws : List Cond) (rm : Room) (av : List Value) (σ : St) (τ : St) : Prop := ∀ sz, Met l y ws rm (va_Pc av (PreW D cA ad sh σ sz)) (QcV D cA ad sh (va_A (Wd cA ad sh σ) sz) τ) 0 0 (va_A (Wd cA ad sh σ) sz)
/-- what is fixed at a frame -/
def Fx (p : Program) (s : State) (m : MethodId) (args : Array Value) (meth : Method) (c : Code) (cc : ByteArray) (nL : Nat) (own : String) (rt : Option FieldType) : Prop := CallFix p m c cc nL s args TB own ∧ meth.sig.returnType = rt ∧ meth.locks = false
section BW
variable {p : Program} {l : Launch} {e : Env} {R : Room} {s : State} {m : MethodId} {args : Array Value} {below : List Frame} {meth : Method} {c : Code} {H : Heap} {locs : List Loc} {Q : State → Prop}
variable {cc : ByteArray} {pc nL : Nat} {ls : Array Slot} {rest : List Value} {own : String} {rt : Option FieldType} {D : va_G} {cA : Nat → ClassId} {ad : Nat → Nat} {sh : List Sh} {A : Nat → Prop} {σ τ : St}
theorem Wh.next (h : Wh D cA ad sh A s σ H locs) {H1 : Heap} {locs1 : List Loc} (hP : va_P D CLS (Wd cA ad sh τ) H1) (hS : va_S A s.heap H1 locs1) : Wh D cA ad sh A s τ H1 locs1 := ⟨h.1, hP, Wd_D h.2.2.1, hS, h.2.2.2.2.1, h.2.2.2.2.2⟩
theorem Wh.free (h : Wh D cA ad sh A s σ H locs) : ∀ q, va_A (Wd cA ad sh σ) H.size q → A q := by
  intro q hq
  rcases hq with ⟨k, e, hk⟩ | hq
  · exact h.2.2.1.2 k (q, e) hk
  · exact h.2.2.2.2.2 q (Nat.le_trans h.2.2.2.1.1 hq)
/-- a call's start -/
theorem Wh.pre (h : Wh D cA ad sh A s σ H locs) (av : List Value) : FrameBlind (va_Pc av (PreW D cA ad sh σ H.size)) ∧ ∀ U : State, U.heap = H → s.WarmedH U.vm → va_Pc av (PreW D cA ad sh σ H.size) av.toArray U := by
  refine ⟨fun a U g mk q => ?_, fun U hU hW => ?_⟩
  · obtain ⟨q0, q1, qK, qP, qD, qC⟩ := q
    exact ⟨q0, q1, va_K.moved (u := U) (U := U.calling g mk a) (Vm.Alike.refl U.vm) qK, qP, qD, Cst.vm (s := U) (U := U.calling g mk a) rfl qC⟩
  · refine ⟨rfl, by rw [hU], va_K.moved hW.alike h.1, by rw [hU]; exact h.2.1, h.2.2.1.weaken (fun _ _ _ _ => trivial), ?_⟩
    rw [hU]
    exact Cst.go hW h.2.2.2.2.1 h.free ⟨locs, h.2.2.2.1⟩
theorem Wh.recv (h : Wh D cA ad sh A s σ H locs) {q ci N : Nat} {ks : List Nat} {C : String} {T : u_T} (hq : sh[q]? = some (.inl (ci, ks))) (hc : CLS[ci]? = some (C, T, N)) : ∃ cell : Cell, H[ad q]? = some cell ∧ cell.vm.isStatics = false ∧ s.vm.findClass C = some cell.cls := va_recv h.1 h.2.1 hc (Wd_at hq)
theorem r_callVI (K : Fx p s m args meth c cc nL own rt) (hw : Wh D cA ad sh A s σ H locs) (hl : ls.size = nL) {y : MethodName} {b : ByteArray} {mL n idx : Nat} {rt2 : Option FieldType} {rm : Room} {As st : List Value} {q : Nat} {r : Int32} (hM : MI l D cA ad sh y (wT y b mL rt2) rm (.ref (ad q) :: As) σ r τ) {ci N : Nat} {ks : List Nat} {C : String} {T : u_T} (hq : sh[q]? = some (.inl (ci, ks))) (hc : CLS[ci]? = some (C, T, N)) (g : GoodIn TB (wsV own idx C y (wT y b mL rt2)))
    (hd : y.cls = C ∧ y.cls ≠ "java/lang/invoke/MethodHandle" ∧ y.cls ≠ "java/lang/invoke/VarHandle" ∧ (parseMethodDescriptor y.desc).map (fun d => d.parameters.length) = some n) (hR : rm.cells = 0 ∧ rm.slots = 0 ∧ rm.frames + 1 ≤ R.frames ∧ 8 + (mL + 11) + rm.locals ≤ R.locals) (hn : As.length = n) (hst : st = As.reverse ++ .ref (ad q) :: rest) (hcat : (rest.map fun v => v.category).sum ≤ 8) (hdg : decode cc pc = .ok (.invokevirtual idx, 3))
    (kk : ∀ (H1 : Heap) (locs1 : List Loc), Wh D cA ad sh A s τ H1 locs1 → W p l e R s m args below meth c H1 locs1 0 0 Q (F0 m (pc + 3) ls (.int r :: rest))) : W p l e R s m args below meth c H locs 0 0 Q (F0 m pc ls st) := by
  have hp := hw.pre (.ref (ad q) :: As)
  refine va_calli (A0 := A) (va_runV (C := C) (As := As) (rest := rest) K.1 (hM H.size) (cwV n K.1.2.2.2.2 g rfl hR.1 hR.2.1 hd hR.2.2) ⟨hp.1, hw.recv hq hc, hp.2⟩ rfl hn hl hst (lv_room hcat) hdg ⟨Nat.zero_le _, Nat.zero_le _⟩) hw.2.2.2.1 (fun q _ h => hw.free q h) hw.free (fun r' u t H1 locs1 ht hvm hr hB hz hk hS => ?_)
  subst hr
  exact kk H1 locs1 (hw.next (by rw [← ht]; exact hB.1) hS)
theorem r_callVL (K : Fx p s m args meth c cc nL own rt) (hw : Wh D cA ad sh A s σ H locs) (hl : ls.size = nL) {y : MethodName} {b : ByteArray} {mL n idx : Nat} {rt2 : Option FieldType} {rm : Room} {As st : List Value} {q : Nat} {r : Int64} (hM : ML l D cA ad sh y (wT y b mL rt2) rm (.ref (ad q) :: As) σ r τ) {ci N : Nat} {ks : List Nat} {C : String} {T : u_T} (hq : sh[q]? = some (.inl (ci, ks))) (hc : CLS[ci]? = some (C, T, N)) (g : GoodIn TB (wsV own idx C y (wT y b mL rt2)))
    (hd : y.cls = C ∧ y.cls ≠ "java/lang/invoke/MethodHandle" ∧ y.cls ≠ "java/lang/invoke/VarHandle" ∧ (parseMethodDescriptor y.desc).map (fun d => d.parameters.length) = some n) (hR : rm.cells = 0 ∧ rm.slots = 0 ∧ rm.frames + 1 ≤ R.frames ∧ 8 + (mL + 11) + rm.locals ≤ R.locals) (hn : As.length = n) (hst : st = As.reverse ++ .ref (ad q) :: rest) (hcat : (rest.map fun v => v.category).sum ≤ 8) (hdg : decode cc pc = .ok (.invokevirtual idx, 3))
    (kk : ∀ (H1 : Heap) (locs1 : List Loc), Wh D cA ad sh A s τ H1 locs1 → W p l e R s m args below meth c H1 locs1 0 0 Q (F0 m (pc + 3) ls (.long r :: rest))) : W p l e R s m args below meth c H locs 0 0 Q (F0 m pc ls st) := by
  have hp := hw.pre (.ref (ad q) :: As)
  refine va_calll (A0 := A) (va_runV (C := C) (As := As) (rest := rest) K.1 (hM H.size) (cwV n K.1.2.2.2.2 g rfl hR.1 hR.2.1 hd hR.2.2) ⟨hp.1, hw.recv hq hc, hp.2⟩ rfl hn hl hst (lv_room hcat) hdg ⟨Nat.zero_le _, Nat.zero_le _⟩) hw.2.2.2.1 (fun q _ h => hw.free q h) hw.free (fun r' u t H1 locs1 ht hvm hr hB hz hk hS => ?_)
  subst hr
  exact kk H1 locs1 (hw.next (by rw [← ht]; exact hB.1) hS)
theorem r_callVV (K : Fx p s m args meth c cc nL own rt) (hw : Wh D cA ad sh A s σ H locs) (hl : ls.size = nL) {y : MethodName} {b : ByteArray} {mL n idx : Nat} {rt2 : Option FieldType} {rm : Room} {As st : List Value} {q : Nat} (hM : MV l D cA ad sh y (wT y b mL rt2) rm (.ref (ad q) :: As) σ τ) {ci N : Nat} {ks : List Nat} {C : String} {T : u_T} (hq : sh[q]? = some (.inl (ci, ks))) (hc : CLS[ci]? = some (C, T, N)) (g : GoodIn TB (wsV own idx C y (wT y b mL rt2)))
    (hd : y.cls = C ∧ y.cls ≠ "java/lang/invoke/MethodHandle" ∧ y.cls ≠ "java/lang/invoke/VarHandle" ∧ (parseMethodDescriptor y.desc).map (fun d => d.parameters.length) = some n) (hR : rm.cells = 0 ∧ rm.slots = 0 ∧ rm.frames + 1 ≤ R.frames ∧ 8 + (mL + 11) + rm.locals ≤ R.locals) (hn : As.length = n) (hst : st = As.reverse ++ .ref (ad q) :: rest) (hcat : (rest.map fun v => v.category).sum ≤ 8) (hdg : decode cc pc = .ok (.invokevirtual idx, 3))
    (kk : ∀ (H1 : Heap) (locs1 : List Loc), Wh D cA ad sh A s τ H1 locs1 → W p l e R s m args below meth c H1 locs1 0 0 Q (F0 m (pc + 3) ls rest)) : W p l e R s m args below meth c H locs 0 0 Q (F0 m pc ls st) := by
  have hp := hw.pre (.ref (ad q) :: As)
  refine va_callv (A0 := A) (va_runV (C := C) (As := As) (rest := rest) K.1 (hM H.size) (cwV n K.1.2.2.2.2 g rfl hR.1 hR.2.1 hd hR.2.2) ⟨hp.1, hw.recv hq hc, hp.2⟩ rfl hn hl hst (lv_room hcat) hdg ⟨Nat.zero_le _, Nat.zero_le _⟩) hw.2.2.2.1 (fun q _ h => hw.free q h) hw.free (fun u t H1 locs1 ht hvm hr hB hz hk hS => ?_)
  exact kk H1 locs1 (hw.next (by rw [← ht]; exact hB.1) hS)
theorem r_callSI (K : Fx p s m args meth c cc nL own rt) (hw : Wh D cA ad sh A s σ H locs) (hl : ls.size = nL) {y : MethodName} {b : ByteArray} {mL n idx : Nat} {rt2 : Option FieldType} {rm : Room} {As st : List Value} {r : Int32} (hM : MI l D cA ad sh y (wT y b mL rt2) rm As σ r τ) (g : GoodIn TB (wsS own idx y (wT y b mL rt2)))
    (hd : y.cls = own ∧ y.cls ≠ "java/lang/invoke/MethodHandle" ∧ y.cls ≠ "java/lang/invoke/VarHandle" ∧ (parseMethodDescriptor y.desc).map (fun d => d.parameters.length) = some n) (hR : rm.cells = 0 ∧ rm.slots = 0 ∧ rm.frames + 1 ≤ R.frames ∧ 8 + (mL + 11) + rm.locals ≤ R.locals) (hn : As.length = n) (hst : st = As.reverse ++ rest) (hcat : (rest.map fun v => v.category).sum ≤ 8) (hdg : decode cc pc = .ok (.invokestatic idx, 3))
    (kk : ∀ (H1 : Heap) (locs1 : List Loc), Wh D cA ad sh A s τ H1 locs1 → W p l e R s m args below meth c H1 locs1 0 0 Q (F0 m (pc + 3) ls (.int r :: rest))) : W p l e R s m args below meth c H locs 0 0 Q (F0 m pc ls st) := by
  have hp := hw.pre As
  refine va_calli (A0 := A) (va_runS (As := As) (rest := rest) K.1 (hM H.size) (cwS n K.1.2.2.2.2 g rfl hR.1 hR.2.1 hd hR.2.2) hp rfl hn hl hst (lv_room hcat) hdg ⟨Nat.zero_le _, Nat.zero_le _⟩) hw.2.2.2.1 (fun q _ h => hw.free q h) hw.free (fun r' u t H1 locs1 ht hvm hr hB hz hk hS => ?_)
  subst hr
  exact kk H1 locs1 (hw.next (by rw [← ht]; exact hB.1) hS)
theorem r_callSL (K : Fx p s m args meth c cc nL own rt) (hw : Wh D cA ad sh A s σ H locs) (hl : ls.size = nL) {y : MethodName} {b : ByteArray} {mL n idx : Nat} {rt2 : Option FieldType} {rm : Room} {As st : List Value} {r : Int64} (hM : ML l D cA ad sh y (wT y b mL rt2) rm As σ r τ) (g : GoodIn TB (wsS own idx y (wT y b mL rt2)))
    (hd : y.cls = own ∧ y.cls ≠ "java/lang/invoke/MethodHandle" ∧ y.cls ≠ "java/lang/invoke/VarHandle" ∧ (parseMethodDescriptor y.desc).map (fun d => d.parameters.length) = some n) (hR : rm.cells = 0 ∧ rm.slots = 0 ∧ rm.frames + 1 ≤ R.frames ∧ 8 + (mL + 11) + rm.locals ≤ R.locals) (hn : As.length = n) (hst : st = As.reverse ++ rest) (hcat : (rest.map fun v => v.category).sum ≤ 8) (hdg : decode cc pc = .ok (.invokestatic idx, 3))
    (kk : ∀ (H1 : Heap) (locs1 : List Loc), Wh D cA ad sh A s τ H1 locs1 → W p l e R s m args below meth c H1 locs1 0 0 Q (F0 m (pc + 3) ls (.long r :: rest))) : W p l e R s m args below meth c H locs 0 0 Q (F0 m pc ls st) := by
  have hp := hw.pre As
  refine va_calll (A0 := A) (va_runS (As := As) (rest := rest) K.1 (hM H.size) (cwS n K.1.2.2.2.2 g rfl hR.1 hR.2.1 hd hR.2.2) hp rfl hn hl hst (lv_room hcat) hdg ⟨Nat.zero_le _, Nat.zero_le _⟩) hw.2.2.2.1 (fun q _ h => hw.free q h) hw.free (fun r' u t H1 locs1 ht hvm hr hB hz hk hS => ?_)
  subst hr
  exact kk H1 locs1 (hw.next (by rw [← ht]; exact hB.1) hS)
/-- a static method of a nest mate -/
theorem r_callNI (K : Fx p s m args meth c cc nL own rt) (hw : Wh D cA ad sh A s σ H locs) (hl : ls.size = nL) {y : MethodName} {b : ByteArray} {mL n idx : Nat} {rt2 : Option FieldType} {rm : Room} {As st : List Value} {r : Int32} {host : String} (hM : MI l D cA ad sh y (wT y b mL rt2) rm As σ r τ) (hN : Cond.methodLinkNest own idx y host ∈ NWS) (h2 : Cond.static y ∈ TB) (h4 : Cond.initialized y.cls ∈ TB) (h5 : Cond.code y b mL rt2 ∈ TB)
    (hd : y.cls ≠ "java/lang/invoke/MethodHandle" ∧ y.cls ≠ "java/lang/invoke/VarHandle" ∧ (parseMethodDescriptor y.desc).map (fun d => d.parameters.length) = some n) (hR : rm.cells = 0 ∧ rm.slots = 0 ∧ rm.frames + 1 ≤ R.frames ∧ 8 + (mL + 11) + rm.locals ≤ R.locals) (hn : As.length = n) (hst : st = As.reverse ++ rest) (hcat : (rest.map fun v => v.category).sum ≤ 8) (hdg : decode cc pc = .ok (.invokestatic idx, 3))
    (kk : ∀ (H1 : Heap) (locs1 : List Loc), Wh D cA ad sh A s τ H1 locs1 → W p l e R s m args below meth c H1 locs1 0 0 Q (F0 m (pc + 3) ls (.int r :: rest))) : W p l e R s m args below meth c H locs 0 0 Q (F0 m pc ls st) := by
  have hp := hw.pre As
  have hts := K.1.2.2.2.2
  refine va_calli (A0 := A) (va_runSN (As := As) (rest := rest) K.1 (hM H.size) ⟨va_cnB (ret := rt2) n hts (tb_good (tb_wT h5)) rfl hR.1 hR.2.1 (hw.2.2.2.2.1.1 _ hN) (hts _ h4) hd hR.2.2, hts _ h2, trivial⟩ hp rfl hn hl hst (lv_room hcat) hdg ⟨Nat.zero_le _, Nat.zero_le _⟩) hw.2.2.2.1 (fun q _ h => hw.free q h) hw.free (fun r' u t H1 locs1 ht hvm hr hB hz hk hS => ?_)
  subst hr
  exact kk H1 locs1 (hw.next (by rw [← ht]; exact hB.1) hS)
/-- fields -/
theorem r_get (K : Fx p s m args meth c cc nL own rt) (hw : Wh D cA ad sh A s σ H locs) {C : String} {T : u_T} {N ci index q : Nat} {ks : List Nat} (hin : ∀ w ∈ u_ws C T N, w ∈ TB) (hq : sh[q]? = some (.inl (ci, ks))) (hc : CLS[ci]? = some (C, T, N)) (j : Nat) (hj : j < N) (hlink : Cond.fieldLink own index C (T j).2.1 (T j).2.2.1 ∈ TB) (hC : (T j).1 = C) {k : Nat} (hk : ks[j]? = some k) {v : Value} (hv : s_fv ad (σ.1 q) (σ.2 q) j k = v) (hdg : decode cc pc = .ok (.getfield index, 3))
    (kk : W p l e R s m args below meth c H locs 0 0 Q (F0 m (pc + 3) ls (v :: rest))) : W p l e R s m args below meth c H locs 0 0 Q (F0 m pc ls (.ref (ad q) :: rest)) := by
  refine va_get (D := D) (v := v) K.1.1 K.1.2.1 K.1.2.2.2.2 hin K.1.2.2.2.1 hw.1 hw.2.1 q (Wd_at hq) hc j hj (K.1.2.2.2.2 _ hlink) (fun _ h => by rw [hC] at h; exact h) ?_ hdg kk
  simp [s_fs, List.getElem?_mapIdx, hk, hv]
theorem r_putI (K : Fx p s m args meth c cc nL own rt) (hw : Wh D cA ad sh A s σ H locs) {C : String} {T : u_T} {N ci index q : Nat} {ks : List Nat} (hin : ∀ w ∈ u_ws C T N, w ∈ TB) (ty0 : Nat → FieldType) (hty : ∀ k, k < N → parseFieldDescriptor (T k).2.2.1 = some (ty0 k)) (hnm : ∀ a, a < N → ∀ b, b < N → a ≠ b → (T a).2.1 ≠ (T b).2.1) (hq : sh[q]? = some (.inl (ci, ks))) (hc : CLS[ci]? = some (C, T, N)) (j : Nat) (hj : j < N) (hlink : Cond.fieldLink own index C (T j).2.1 (T j).2.2.1 ∈ TB) (hC : (T j).1 = C) (hfin : (T j).2.2.2 = false) (hk : ks[j]? = some 0) {x : Int32} (hn : narrow (ty0 j) (.int x) = .int x) (hfit : fits (ty0 j) (.int x) = true) (hdg : decode cc pc = .ok (.putfield index, 3))
    (kk : ∀ (τ : St), τ = up1 σ q j x → ∀ (H1 : Heap) (locs1 : List Loc), Wh D cA ad sh A s τ H1 locs1 → W p l e R s m args below meth c H1 locs1 0 0 Q (F0 m (pc + 3) ls rest)) : W p l e R s m args below meth c H locs 0 0 Q (F0 m pc ls (.int x :: .ref (ad q) :: rest)) := by
  refine va_put (D := D) (ty := ty0 j) K.1.1 K.1.2.1 K.1.2.2.2.2 hin ty0 hty hnm K.1.2.2.2.1 hw.1 hw.2.1 hw.2.2.1 hw.2.2.2.1 q (Wd_at hq) hc j hj (K.1.2.2.2.2 _ hlink) (fun _ h => by rw [hC] at h; exact h) hfin (hty j hj) hn hfit ?_ hdg (fun H1 locs1 hP hD hS => kk _ rfl H1 locs1 (hw.next ?_ hS))
  · simp [s_fs]; exact (List.getElem?_eq_some_iff.mp hk).1
  · rw [Wd_setI hq hk] at hP
    exact hP
theorem r_putR (K : Fx p s m args meth c cc nL own rt) (hw : Wh D cA ad sh A s σ H locs) {C : String} {T : u_T} {N ci index q : Nat} {ks : List Nat} (hin : ∀ w ∈ u_ws C T N, w ∈ TB) (ty0 : Nat → FieldType) (hty : ∀ k, k < N → parseFieldDescriptor (T k).2.2.1 = some (ty0 k)) (hnm : ∀ a, a < N → ∀ b, b < N → a ≠ b → (T a).2.1 ≠ (T b).2.1) (hq : sh[q]? = some (.inl (ci, ks))) (hc : CLS[ci]? = some (C, T, N)) (j : Nat) (hj : j < N) (hlink : Cond.fieldLink own index C (T j).2.1 (T j).2.2.1 ∈ TB) (hC : (T j).1 = C) (hfin : (T j).2.2.2 = false) (hk : ks[j]? = some 1) {r : Nat} (hn : narrow (ty0 j) (.ref (ad r)) = .ref (ad r)) (hfit : fits (ty0 j) (.ref (ad r)) = true) (hdg : decode cc pc = .ok (.putfield index, 3))
    (kk : ∀ (τ : St), τ = up2 σ q j r → ∀ (H1 : Heap) (locs1 : List Loc), Wh D cA ad sh A s τ H1 locs1 → W p l e R s m args below meth c H1 locs1 0 0 Q (F0 m (pc + 3) ls rest)) : W p l e R s m args below meth c H locs 0 0 Q (F0 m pc ls (.ref (ad r) :: .ref (ad q) :: rest)) := by
  refine va_put (D := D) (ty := ty0 j) K.1.1 K.1.2.1 K.1.2.2.2.2 hin ty0 hty hnm K.1.2.2.2.1 hw.1 hw.2.1 hw.2.2.1 hw.2.2.2.1 q (Wd_at hq) hc j hj (K.1.2.2.2.2 _ hlink) (fun _ h => by rw [hC] at h; exact h) hfin (hty j hj) hn hfit ?_ hdg (fun H1 locs1 hP hD hS => kk _ rfl H1 locs1 (hw.next ?_ hS))
  · simp [s_fs]; exact (List.getElem?_eq_some_iff.mp hk).1
  · rw [Wd_setR hq hk] at hP
    exact hP
/-- rows -/
theorem r_iald (K : Fx p s m args meth c cc nL own rt) (hw : Wh D cA ad sh A s σ H locs) {q n : Nat} (hq : sh[q]? = some (.inr (.inl n))) {i : Int32} {k : Nat} (hi : i.toNatClampNeg = k) (hin : vp_in i n) (hdg : decode cc pc = .ok (.iaload, 1))
    (kk : W p l e R s m args below meth c H locs 0 0 Q (F0 m (pc + 1) ls (.int (σ.1 q k) :: rest))) : W p l e R s m args below meth c H locs 0 0 Q (F0 m pc ls (.int i :: .ref (ad q) :: rest)) := by
  subst hi
  exact va_iald (D := D) K.1.1 K.1.2.1 hw.1 hw.2.1 q 0 (Wd_at hq) rfl hin hdg kk
theorem r_iast (K : Fx p s m args meth c cc nL own rt) (hw : Wh D cA ad sh A s σ H locs) {q n : Nat} (hq : sh[q]? = some (.inr (.inl n))) {i x : Int32} {k : Nat} (hi : i.toNatClampNeg = k) (hin : vp_in i n) (hdg : decode cc pc = .ok (.iastore, 1))
    (kk : ∀ (τ : St), τ = up1 σ q k x → ∀ (H1 : Heap) (locs1 : List Loc), Wh D cA ad sh A s τ H1 locs1 → W p l e R s m args below meth c H1 locs1 0 0 Q (F0 m (pc + 1) ls rest)) : W p l e R s m args below meth c H locs 0 0 Q (F0 m pc ls (.int x :: .int i :: .ref (ad q) :: rest)) := by
  subst hi
  refine va_iast (D := D) K.1.1 K.1.2.1 hw.1 hw.2.1 hw.2.2.1 hw.2.2.2.1 q 0 (Wd_at hq) rfl hin hdg (fun H1 locs1 hP hD hS => kk _ rfl H1 locs1 (hw.next ?_ hS))
  rw [Wd_setA hq] at hP
  exact hP
theorem r_alen (K : Fx p s m args meth c cc nL own rt) (hw : Wh D cA ad sh A s σ H locs) {q n : Nat} (hq : sh[q]? = some (.inr (.inl n))) {v : Int32} (hv : Int32.ofNat n = v) (hdg : decode cc pc = .ok (.arraylength, 1))
    (kk : W p l e R s m args below meth c H locs 0 0 Q (F0 m (pc + 1) ls (.int v :: rest))) : W p l e R s m args below meth c H locs 0 0 Q (F0 m pc ls (.ref (ad q) :: rest)) :=
  va_alen (D := D) K.1.1 K.1.2.1 hw.1 hw.2.1 q 0 (Wd_at hq) (ty := .int) rfl hv hdg kk
theorem r_aald (K : Fx p s m args meth c cc nL own rt) (hw : Wh D cA ad sh A s σ H locs) {q t b n : Nat} (hq : sh[q]? = some (.inr (.inr (t, b, n)))) {C : String} (ht : (TYS cA)[t]? = some (cA t, .object C)) {i : Int32} {k : Nat} (hi : i.toNatClampNeg = k) (hin : vp_in i n) (hdg : decode cc pc = .ok (.aaload, 1))
    (kk : W p l e R s m args below meth c H locs 0 0 Q (F0 m (pc + 1) ls (.ref (ad (b + k)) :: rest))) : W p l e R s m args below meth c H locs 0 0 Q (F0 m pc ls (.int i :: .ref (ad q) :: rest)) := by
  subst hi
  exact va_aldq (D := D) K.1.1 K.1.2.1 hw.1 hw.2.1 q t (Wd_at hq) ht hin hdg kk
/-- ends -/
theorem r_iret (K : Fx p s m args meth c cc nL own (some .int)) (hw : Wh D cA ad sh A s σ H locs) {x : Int32} (hdg : decode cc pc = .ok (.ireturn, 1)) : W p l e R s m args below meth c H locs 0 0 (MQ below (QcI D cA ad sh A x σ) args s 0 0 A) (F0 m pc ls [.int x]) :=
  W.iret K.1.1 K.1.2.1 K.2.1 (fun t ht hW => ⟨⟨x, (), rfl, rfl, by rw [ht]; exact hw.2.1, va_K.moved hW.alike hw.1⟩, hw.2.2.2.1.F ht⟩) hw.2.2.2.1.2.2 hdg K.2.2
theorem r_zret (K : Fx p s m args meth c cc nL own (some .boolean)) (hw : Wh D cA ad sh A s σ H locs) {x : Int32} (hn : narrow .boolean (.int x) = .int x) (hdg : decode cc pc = .ok (.ireturn, 1)) : W p l e R s m args below meth c H locs 0 0 (MQ below (QcI D cA ad sh A x σ) args s 0 0 A) (F0 m pc ls [.int x]) :=
  W.zret K.1.1 K.1.2.1 K.2.1 hn (fun t ht hW => ⟨⟨x, (), rfl, rfl, by rw [ht]; exact hw.2.1, va_K.moved hW.alike hw.1⟩, hw.2.2.2.1.F ht⟩) hw.2.2.2.1.2.2 hdg K.2.2
theorem r_lret (K : Fx p s m args meth c cc nL own (some .long)) (hw : Wh D cA ad sh A s σ H locs) {x : Int64} (hdg : decode cc pc = .ok (.lreturn, 1)) : W p l e R s m args below meth c H locs 0 0 (MQ below (QcL D cA ad sh A x σ) args s 0 0 A) (F0 m pc ls [.long x]) :=
  W.lret K.1.1 K.1.2.1 K.2.1 (fun t ht hW => ⟨⟨x, (), rfl, rfl, by rw [ht]; exact hw.2.1, va_K.moved hW.alike hw.1⟩, hw.2.2.2.1.F ht⟩) hw.2.2.2.1.2.2 hdg K.2.2
theorem r_vret (K : Fx p s m args meth c cc nL own none) (hw : Wh D cA ad sh A s σ H locs) (hdg : decode cc pc = .ok (.return_, 1)) : W p l e R s m args below meth c H locs 0 0 (MQ below (QcV D cA ad sh A σ) args s 0 0 A) (F0 m pc ls []) :=
  W.vret K.1.1 K.1.2.1 K.2.1 (fun t ht hW => ⟨⟨(), rfl, trivial, by rw [ht]; exact hw.2.1, va_K.moved hW.alike hw.1⟩, hw.2.2.2.1.F ht⟩) hw.2.2.2.1.2.2 hdg K.2.2
end BW
/-- a method's start -/
theorem m_start {l : Launch} {D : va_G} {cA : Nat → ClassId} {ad : Nat → Nat} {sh : List Sh} {y : MethodName} {cc : ByteArray} {mL : Nat} {rt : Option FieldType} {rm : Room} {av : List Value} {σ : St} {sz : Nat} {Qc : (Nat → Prop) → Array Value → State → Outcome → State → Prop} (hy : plainName y.cls = true) (hcd : Cond.code y cc mL rt ∈ TB) (hlen : (lg_sl av).length ≤ mL)
    (body : ∀ p e s m below meth c ls, Fx p s m av.toArray meth c cc mL y.cls rt → lv_has ls mL (lv_args 0 av) → Wh D cA ad sh (va_A (Wd cA ad sh σ) sz) s σ s.heap [] → W p l e rm s m av.toArray below meth c s.heap [] 0 0 (MQ below (Qc (va_A (Wd cA ad sh σ) sz)) av.toArray s 0 0 (va_A (Wd cA ad sh σ) sz)) (F0 m 0 ls [])) : Met l y (wT y cc mL rt) rm (va_Pc av (PreW D cA ad sh σ sz)) (Qc (va_A (Wd cA ad sh σ) sz)) 0 0 (va_A (Wd cA ad sh σ) sz) := by
  refine Met.ofW (cc := cc) (maxL := mL) (ret := rt) hy rfl ?_
  intro p e s m args below meth c s₁ B hml hv
  obtain ⟨rfl, hsz, hK, hP, hD0, hC⟩ := hv
  have hts := atoms_spec (ws := wT y cc mL rt) B.pre
  have hown : s.vm.findClass y.cls = some m.cls := findClass_of_methodNamed B.named
  have hl := lv_entry av (n := mL) hlen
  rw [lg_entry_eq]
  subst hsz
  exact body p e s m below meth c _ ⟨⟨B.exec, B.bytes, hml, hown, fun w hw => hts w (List.mem_cons_of_mem _ hw)⟩, B.returns, B.notSynchronized⟩ hl ⟨hK, hP, hD0.self, va_S.rf, hC, fun q h => Or.inr h⟩
/-- the decompiled side: names for what is computed, guards, calls -/
def lt {α β : Type} (a : α) (f : α → β) : β := f a
theorem ltN {α β : Type} {a y : α} {f : α → β} {X : β} (h : lt a f = X) (e : y = a) : f y = X := by rw [e]; exact h
theorem ltE {α β : Type} {a : α} {f : α → β} {X : β} (h : lt a f = X) : ∃ z, z = a ∧ f z = X := ⟨a, rfl, h⟩
theorem ifT {α : Type} {c : Prop} [Decidable c] {a b X : α} (h : (if c then a else b) = X) (hc : c) : a = X := by rw [if_pos hc] at h; exact h
theorem ifF {α : Type} {c : Prop} [Decidable c] {a b X : α} (h : (if c then a else b) = X) (hc : ¬ c) : b = X := by rw [if_neg hc] at h; exact h
theorem ifG {α : Type} {c : Prop} [Decidable c] {a : Option α} {X : α} (h : (if c then a else none) = some X) : c ∧ a = some X := by
  by_cases hc : c
  · rw [if_pos hc] at h; exact ⟨hc, h⟩
  · rw [if_neg hc] at h; cases h
def ob1 {α γ : Type} (a : Option α) (f : α → Option γ) : Option γ := match a with
  | none => none
  | some x => f x
def ob2 {α β γ : Type} (a : Option (α × β)) (f : α → β → Option γ) : Option γ := match a with
  | none => none
  | some x => f x.1 x.2
theorem ob1E {α γ : Type} {a : Option α} {f : α → Option γ} {X : γ} (h : ob1 a f = some X) : ∃ x, a = some x ∧ f x = some X := by
  cases a with
  | none => cases h
  | some x => exact ⟨x, rfl, h⟩
theorem ob2E {α β γ : Type} {a : Option (α × β)} {f : α → β → Option γ} {X : γ} (h : ob2 a f = some X) : ∃ x y, a = some (x, y) ∧ f x y = some X := by
  cases a with
  | none => cases h
  | some x => exact ⟨x.1, x.2, rfl, h⟩
/-- a place inside a row -/
def inB (x : Int32) (n : Nat) : Bool := decide (¬ x < 0) && decide (x.toNatClampNeg < n)
theorem inB_vp {x : Int32} {n : Nat} (h : inB x n = true) : vp_in x n := by
  simp only [inB, Bool.and_eq_true, decide_eq_true_eq] at h
  exact fun q => q.elim h.1 (fun z => absurd h.2 (Nat.not_lt.mpr z))
theorem inB_lt {x : Int32} {n : Nat} (h : inB x n = true) : x.toNatClampNeg < n := by
  simp only [inB, Bool.and_eq_true, decide_eq_true_eq] at h
  exact h.2
abbrev jrem (x y : Int32) : Int32 := x - x / y * y
abbrev jremL (x y : Int64) : Int64 := x - x / y * y
abbrev jshl (x y : Int32) : Int32 := x <<< (y &&& 31)
abbrev jshr (x y : Int32) : Int32 := x >>> (y &&& 31)
theorem zN {x : Int32} (h : x = 0 ∨ x = 1) : narrow .boolean (.int x) = .int x := by rcases h with rfl | rfl <;> rfl
theorem zF {x : Int32} (h : x = 0 ∨ x = 1) : fits .boolean (.int x) = true := by rcases h with rfl | rfl <;> rfl
theorem ifN {α : Type} {c : Prop} [Decidable (¬ c)] {a b X : α} (h : (if ¬ c then a else b) = X) (hc : c) : b = X := by rw [if_neg (fun q => q hc)] at h; exact h
abbrev jushr (x y : Int32) : Int32 := (x.toUInt32 >>> (y.toUInt32 &&& Int32.toUInt32 31)).toInt32
theorem sE1 {α : Type} {a b : α} (h : some a = some b) : a = b := Option.some.inj h
theorem sE2 {α β : Type} {a r : α} {b t : β} (h : some (a, b) = some (r, t)) : a = r ∧ b = t := ⟨congrArg Prod.fst (Option.some.inj h), congrArg Prod.snd (Option.some.inj h)⟩
