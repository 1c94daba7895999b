/-! ===== rows for what is constant: the static row, the texts, the library's methods over them ===== -/
def cpS (σ : St) (q0 q1 : Nat) (sp dp n : Int32) : St := (fun q i => if q = q1 ∧ dp.toNatClampNeg ≤ i ∧ i < dp.toNatClampNeg + n.toNatClampNeg then σ.1 q0 (sp.toNatClampNeg + (i - dp.toNatClampNeg)) else σ.1 q i, σ.2)
theorem cN {x : Int32} (h : (x.toUInt32 % 65536).toInt32 = x) : narrow .char (.int x) = .int x := by
  rw [← h]
  exact pk_nc _
section KW
variable {p : Program} {l : Launch} {e : Env} {R : Room} {s : State} {m : MethodId} {args : Array Value} {below : List Frame} {meth : Method} {c : Code} {H : Heap} {locs : List Loc} {Q : State → Prop}
variable {cc : ByteArray} {pc nL : Nat} {ls : Array Slot} {rest : List Value} {own : String} {rt : Option FieldType} {D : va_G} {cA : Nat → ClassId} {ad : Nat → Nat} {sh : List Sh} {A : Nat → Prop} {σ τ : St}
theorem k_gets (K : Fx p s m args meth c cc nL own rt) (hw : Wh D cA ad sh A s σ H locs) {idx : Nat} {host : String} (hN : Cond.fieldLinkNest own idx R_Main "KIND_ABOVE" "[I" host ∈ NWS) (hdg : decode cc pc = .ok (.getstatic idx, 3))
    (kk : W p l e R s m args below meth c H locs 0 0 Q (F0 m (pc + 3) ls (.ref (ad 100) :: rest))) : W p l e R s m args below meth c H locs 0 0 Q (F0 m pc ls rest) :=
  va_getsN K.1.1 K.1.2.1 hw.2.2.2.2.1.2.1 hw.2.2.2.1 K.1.2.2.2.1 (va_Nw.use rfl (hw.2.2.2.2.1.1 _ hN)) (fun _ h => h) hdg kk
theorem k_ald (K : Fx p s m args meth c cc nL own rt) (hw : Wh D cA ad sh A s σ H locs) {i : Int32} {k : Nat} (hi : i.toNatClampNeg = k) (hin : vp_in i 6) (hdg : decode cc pc = .ok (.iaload, 1))
    (kk : W p l e R s m args below meth c H locs 0 0 Q (F0 m (pc + 1) ls (.int (kaF k) :: rest))) : W p l e R s m args below meth c H locs 0 0 Q (F0 m pc ls (.int i :: .ref (ad 100) :: rest)) := by
  subst hi
  exact va_ti K.1.1 K.1.2.1 hw.2.2.2.2.1.2.2.1 hw.2.2.2.1 hin rfl hdg kk
theorem k_alen (K : Fx p s m args meth c cc nL own rt) (hw : Wh D cA ad sh A s σ H locs) (hdg : decode cc pc = .ok (.arraylength, 1))
    (kk : W p l e R s m args below meth c H locs 0 0 Q (F0 m (pc + 1) ls (.int 6 :: rest))) : W p l e R s m args below meth c H locs 0 0 Q (F0 m pc ls (.ref (ad 100) :: rest)) :=
  va_tlen K.1.1 K.1.2.1 hw.2.2.2.2.1.2.2.1 hw.2.2.2.1 rfl hdg kk
theorem k_ldc0 (K : Fx p s m args meth c cc nL R_Main rt) (hw : Wh D cA ad sh A s σ H locs) (hdg : decode cc pc = .ok (.ldc 46, 2))
    (kk : W p l e R s m args below meth c H locs 0 0 Q (F0 m (pc + 2) ls (.ref (ad (101 + 0)) :: rest))) : W p l e R s m args below meth c H locs 0 0 Q (F0 m pc ls rest) :=
  va_ldcS K.1.1 K.1.2.1 K.1.2.2.2.1 hw.2.2.2.2.1.2.2.2.2.1.1 hdg kk
theorem k_ldc1 (K : Fx p s m args meth c cc nL R_Tokens rt) (hw : Wh D cA ad sh A s σ H locs) (hdg : decode cc pc = .ok (.ldc 62, 2))
    (kk : W p l e R s m args below meth c H locs 0 0 Q (F0 m (pc + 2) ls (.ref (ad (101 + 1)) :: rest))) : W p l e R s m args below meth c H locs 0 0 Q (F0 m pc ls rest) :=
  va_ldcS K.1.1 K.1.2.1 K.1.2.2.2.1 hw.2.2.2.2.1.2.2.2.2.1.2.1 hdg kk
theorem k_ldc2 (K : Fx p s m args meth c cc nL R_Tokens rt) (hw : Wh D cA ad sh A s σ H locs) (hdg : decode cc pc = .ok (.ldc 78, 2))
    (kk : W p l e R s m args below meth c H locs 0 0 Q (F0 m (pc + 2) ls (.ref (ad (101 + 2)) :: rest))) : W p l e R s m args below meth c H locs 0 0 Q (F0 m pc ls rest) :=
  va_ldcS K.1.1 K.1.2.1 K.1.2.2.2.1 hw.2.2.2.2.1.2.2.2.2.1.2.2 hdg kk
theorem k_val (K : Fx p s m args meth c cc nL own rt) (hw : Wh D cA ad sh A s σ H locs) {i idx : Nat} (hi : i < 3) (hlink : Cond.fieldLink own idx "java/lang/String" "value" "[B" ∈ TB) (hdg : decode cc pc = .ok (.getfield idx, 3))
    (kk : W p l e R s m args below meth c H locs 0 0 Q (F0 m (pc + 3) ls (.ref (ad (104 + i)) :: rest))) : W p l e R s m args below meth c H locs 0 0 Q (F0 m pc ls (.ref (ad (101 + i)) :: rest)) :=
  vk_getf K.1.1 K.1.2.1 (hw.2.2.2.2.1.2.2.2.1.1 i hi).2.2.1 hw.2.2.2.1 K.1.2.2.2.1 (K.1.2.2.2.2 _ hlink) (fun _ h => h) hdg kk
theorem k_cod (K : Fx p s m args meth c cc nL own rt) (hw : Wh D cA ad sh A s σ H locs) {i idx : Nat} (hi : i < 3) (hlink : Cond.fieldLink own idx "java/lang/String" "coder" "B" ∈ TB) (hdg : decode cc pc = .ok (.getfield idx, 3))
    (kk : W p l e R s m args below meth c H locs 0 0 Q (F0 m (pc + 3) ls (.int 0 :: rest))) : W p l e R s m args below meth c H locs 0 0 Q (F0 m pc ls (.ref (ad (101 + i)) :: rest)) :=
  vk_getf K.1.1 K.1.2.1 (hw.2.2.2.2.1.2.2.2.1.1 i hi).2.1 hw.2.2.2.1 K.1.2.2.2.1 (K.1.2.2.2.2 _ hlink) (fun _ h => h) hdg kk
theorem k_cs (K : Fx p s m args meth c cc nL own rt) (hw : Wh D cA ad sh A s σ H locs) {idx : Nat} (hlink : Cond.fieldLink own idx "java/lang/String" "COMPACT_STRINGS" "Z" ∈ TB) (hdg : decode cc pc = .ok (.getstatic idx, 3))
    (kk : W p l e R s m args below meth c H locs 0 0 Q (F0 m (pc + 3) ls (.int 1 :: rest))) : W p l e R s m args below meth c H locs 0 0 Q (F0 m pc ls rest) :=
  va_gets K.1.1 K.1.2.1 hw.2.2.2.2.1.2.2.2.2.2.1 hw.2.2.2.1 K.1.2.2.2.1 (K.1.2.2.2.2 _ hlink) (fun _ h => h) hdg kk
theorem k_fm (K : Fx p s m args meth c cc nL own rt) (hw : Wh D cA ad sh A s σ H locs) {idx : Nat} (hlink : Cond.fieldLink own idx "jdk/internal/util/Preconditions" "SIOOBE_FORMATTER" "Ljava/util/function/BiFunction;" ∈ TB) (hdg : decode cc pc = .ok (.getstatic idx, 3))
    (kk : ∀ v : Value, (v = .null ∨ ∃ t, v = .ref t) → W p l e R s m args below meth c H locs 0 0 Q (F0 m (pc + 3) ls (v :: rest))) : W p l e R s m args below meth c H locs 0 0 Q (F0 m pc ls rest) := by
  rcases hw.2.2.2.2.1.2.2.2.2.2.2 with h | ⟨t, h⟩
  · exact va_gets K.1.1 K.1.2.1 h hw.2.2.2.1 K.1.2.2.2.1 (K.1.2.2.2.2 _ hlink) (fun _ h => h) hdg (kk _ (Or.inl rfl))
  · exact va_gets K.1.1 K.1.2.1 h hw.2.2.2.1 K.1.2.2.2.1 (K.1.2.2.2.2 _ hlink) (fun _ h => h) hdg (kk _ (Or.inr ⟨t, rfl⟩))
theorem k_blen (K : Fx p s m args meth c cc nL own rt) (hw : Wh D cA ad sh A s σ H locs) {i : Nat} (hi : i < 3) (hdg : decode cc pc = .ok (.arraylength, 1))
    (kk : W p l e R s m args below meth c H locs 0 0 Q (F0 m (pc + 1) ls (.int (nI (SLEN.getD i 0)) :: rest))) : W p l e R s m args below meth c H locs 0 0 Q (F0 m pc ls (.ref (ad (104 + i)) :: rest)) :=
  va_tlen K.1.1 K.1.2.1 (hw.2.2.2.2.1.2.2.2.1.1 i hi).2.2.2 hw.2.2.2.1 rfl hdg kk
theorem k_bald (K : Fx p s m args meth c cc nL own rt) (hw : Wh D cA ad sh A s σ H locs) {i : Nat} (hi : i < 3) {x : Int32} (hin : vp_in x (SLEN.getD i 0)) (hdg : decode cc pc = .ok (.baload, 1))
    (kk : W p l e R s m args below meth c H locs 0 0 Q (F0 m (pc + 1) ls (.int ((SBYT.getD i []).getD x.toNatClampNeg 0) :: rest))) : W p l e R s m args below meth c H locs 0 0 Q (F0 m pc ls (.int x :: .ref (ad (104 + i)) :: rest)) :=
  va_tb K.1.1 K.1.2.1 (hw.2.2.2.2.1.2.2.2.1.1 i hi).2.2.2 hw.2.2.2.1 hin rfl hdg kk
/-- a method of a text -/
theorem k_callVI (K : Fx p s m args meth c cc nL own rt) (hw : Wh D cA ad sh A s σ H locs) (hl : ls.size = nL) {y : MethodName} {b : ByteArray} {mL n idx : Nat} {rt2 : Option FieldType} {rm : Room} {As st : List Value} {i : Nat} {r : Int32} (hM : MI l D cA ad sh y (wT y b mL rt2) rm (.ref (ad (101 + i)) :: As) σ r τ) (hi : i < 3) (g : GoodIn TB (wsV own idx R_JString y (wT y b mL rt2)))
    (hd : y.cls = R_JString ∧ y.cls ≠ "java/lang/invoke/MethodHandle" ∧ y.cls ≠ "java/lang/invoke/VarHandle" ∧ (parseMethodDescriptor y.desc).map (fun d => d.parameters.length) = some n) (hR : rm.cells = 0 ∧ rm.slots = 0 ∧ rm.frames + 1 ≤ R.frames ∧ 8 + (mL + 11) + rm.locals ≤ R.locals) (hn : As.length = n) (hst : st = As.reverse ++ .ref (ad (101 + i)) :: rest) (hcat : (rest.map fun v => v.category).sum ≤ 8) (hdg : decode cc pc = .ok (.invokevirtual idx, 3))
    (kk : ∀ (H1 : Heap) (locs1 : List Loc), Wh D cA ad sh A s τ H1 locs1 → W p l e R s m args below meth c H1 locs1 0 0 Q (F0 m (pc + 3) ls (.int r :: rest))) : W p l e R s m args below meth c H locs 0 0 Q (F0 m pc ls st) := by
  have hp := hw.pre (.ref (ad (101 + i)) :: As)
  refine va_calli (A0 := A) (va_runV (C := R_JString) (As := As) (rest := rest) K.1 (hM H.size) (cwV n K.1.2.2.2.2 g rfl hR.1 hR.2.1 hd hR.2.2) ⟨hp.1, vk_recv hw.2.2.2.2.1.2.2.2.1 hi hw.2.2.2.1, hp.2⟩ rfl hn hl hst (lv_room hcat) hdg ⟨Nat.zero_le _, Nat.zero_le _⟩) hw.2.2.2.1 (fun q _ h => hw.free q h) hw.free (fun r' u t H1 locs1 ht hvm hr hB hz hk hS => ?_)
  subst hr
  exact kk H1 locs1 (hw.next (by rw [← ht]; exact hB.1) hS)
/-- a static method of any class -/
theorem k_callTI (K : Fx p s m args meth c cc nL own rt) (hw : Wh D cA ad sh A s σ H locs) (hl : ls.size = nL) {y : MethodName} {b : ByteArray} {mL n idx : Nat} {rt2 : Option FieldType} {rm : Room} {As st : List Value} {r : Int32} (hM : MI l D cA ad sh y (wT y b mL rt2) rm As σ r τ) (h1 : Cond.methodLink own idx y ∈ TB) (h2 : Cond.static y ∈ TB) (h4 : Cond.initialized y.cls ∈ TB) (h5 : Cond.code y b mL rt2 ∈ TB)
    (hd : y.cls ≠ "java/lang/invoke/MethodHandle" ∧ y.cls ≠ "java/lang/invoke/VarHandle" ∧ (parseMethodDescriptor y.desc).map (fun d => d.parameters.length) = some n) (hR : rm.cells = 0 ∧ rm.slots = 0 ∧ rm.frames + 1 ≤ R.frames ∧ 8 + (mL + 11) + rm.locals ≤ R.locals) (hn : As.length = n) (hst : st = As.reverse ++ rest) (hcat : (rest.map fun v => v.category).sum ≤ 8) (hdg : decode cc pc = .ok (.invokestatic idx, 3))
    (kk : ∀ (H1 : Heap) (locs1 : List Loc), Wh D cA ad sh A s τ H1 locs1 → W p l e R s m args below meth c H1 locs1 0 0 Q (F0 m (pc + 3) ls (.int r :: rest))) : W p l e R s m args below meth c H locs 0 0 Q (F0 m pc ls st) := by
  have hp := hw.pre As
  have hts := K.1.2.2.2.2
  refine va_calli (A0 := A) (va_runS (As := As) (rest := rest) K.1 (hM H.size) ⟨callB_of n hts (tb_good (tb_wT h5)) rfl hR.1 hR.2.1 (hts _ h4) (hts _ h1) hd hR.2.2, hts _ h2⟩ hp rfl hn hl hst (lv_room hcat) hdg ⟨Nat.zero_le _, Nat.zero_le _⟩) hw.2.2.2.1 (fun q _ h => hw.free q h) hw.free (fun r' u t H1 locs1 ht hvm hr hB hz hk hS => ?_)
  subst hr
  exact kk H1 locs1 (hw.next (by rw [← ht]; exact hB.1) hS)
theorem k_callTV (K : Fx p s m args meth c cc nL own rt) (hw : Wh D cA ad sh A s σ H locs) (hl : ls.size = nL) {y : MethodName} {b : ByteArray} {mL n idx : Nat} {rt2 : Option FieldType} {rm : Room} {As st : List Value} (hM : MV l D cA ad sh y (wT y b mL rt2) rm As σ τ) (h1 : Cond.methodLink own idx y ∈ TB) (h2 : Cond.static y ∈ TB) (h4 : Cond.initialized y.cls ∈ TB) (h5 : Cond.code y b mL rt2 ∈ TB)
    (hd : y.cls ≠ "java/lang/invoke/MethodHandle" ∧ y.cls ≠ "java/lang/invoke/VarHandle" ∧ (parseMethodDescriptor y.desc).map (fun d => d.parameters.length) = some n) (hR : rm.cells = 0 ∧ rm.slots = 0 ∧ rm.frames + 1 ≤ R.frames ∧ 8 + (mL + 11) + rm.locals ≤ R.locals) (hn : As.length = n) (hst : st = As.reverse ++ rest) (hcat : (rest.map fun v => v.category).sum ≤ 8) (hdg : decode cc pc = .ok (.invokestatic idx, 3))
    (kk : ∀ (H1 : Heap) (locs1 : List Loc), Wh D cA ad sh A s τ H1 locs1 → W p l e R s m args below meth c H1 locs1 0 0 Q (F0 m (pc + 3) ls rest)) : W p l e R s m args below meth c H locs 0 0 Q (F0 m pc ls st) := by
  have hp := hw.pre As
  have hts := K.1.2.2.2.2
  refine va_callv (A0 := A) (va_runS (As := As) (rest := rest) K.1 (hM H.size) ⟨callB_of n hts (tb_good (tb_wT h5)) rfl hR.1 hR.2.1 (hts _ h4) (hts _ h1) hd hR.2.2, hts _ h2⟩ hp rfl hn hl hst (lv_room hcat) hdg ⟨Nat.zero_le _, Nat.zero_le _⟩) hw.2.2.2.1 (fun q _ h => hw.free q h) hw.free (fun u t H1 locs1 ht hvm hr hB hz hk hS => ?_)
  exact kk H1 locs1 (hw.next (by rw [← ht]; exact hB.1) hS)
/-- a byte, a char at the end -/
theorem k_nret (K : Fx p s m args meth c cc nL own rt) (hw : Wh D cA ad sh A s σ H locs) {x : Int32} {ty : FieldType} (hty : rt = some ty) (hn : narrow ty (.int x) = .int x) (hdg : decode cc pc = .ok (.ireturn, 1)) : W p l e R s m args below meth c H locs 0 0 (MQ below (QcI D cA ad sh A x σ) args s 0 0 A) (F0 m pc ls [.int x]) :=
  W.zret (ty := ty) K.1.1 K.1.2.1 (K.2.1.trans hty) hn (fun t ht hW => ⟨⟨x, (), rfl, rfl, by rw [ht]; exact hw.2.1, va_K.moved hW.alike hw.1⟩, hw.2.2.2.1.F ht⟩) hw.2.2.2.1.2.2 hdg K.2.2
/-- a row's part comes to another one's, or its own -/
theorem k_copy (K : Fx p s m args meth c cc nL own rt) (hw : Wh D cA ad sh A s σ H locs) (hl : ls.size = nL) {idx : Nat} (hlink : Cond.methodLink own idx arraycopyName ∈ TB) (hnat : Cond.native arraycopyName ∈ TB) (hstat : Cond.static arraycopyName ∈ TB) (hini : Cond.initialized "java/lang/System" ∈ TB)
    {q0 q1 n0 n1 : Nat} (h0 : sh[q0]? = some (.inr (.inl n0))) (h1 : sh[q1]? = some (.inr (.inl n1))) {sp dp n : Int32} (g1 : ¬ sp < 0) (g2 : ¬ dp < 0) (g3 : ¬ n < 0) (g4 : sp.toNatClampNeg + n.toNatClampNeg ≤ n0) (g5 : dp.toNatClampNeg + n.toNatClampNeg ≤ n1)
    (hframes : 1 ≤ R.frames) (hlocals : (rest.map fun v => v.category).sum + (nativeFrameWords "java/lang/System" "arraycopy" 5 + 11) ≤ R.locals) (hdg : decode cc pc = .ok (.invokestatic idx, 3))
    (kk : ∀ (τ : St), τ = cpS σ q0 q1 sp dp n → ∀ (H1 : Heap) (locs1 : List Loc), Wh D cA ad sh A s τ H1 locs1 → W p l e R s m args below meth c H1 locs1 0 0 Q (F0 m (pc + 3) ls rest)) : W p l e R s m args below meth c H locs 0 0 Q (F0 m pc ls (.int n :: .int dp :: .ref (ad q1) :: .int sp :: .ref (ad q0) :: rest)) := by
  have hts := K.1.2.2.2.2
  refine va_copyi (D := D) K.1.1 K.1.2.1 (K.1.2.2.1.trans hl.symm) K.1.2.2.2.1 (hts _ hlink) (hts _ hnat) (hts _ hstat) (hts _ hini) hw.1 hw.2.1 hw.2.2.1 hw.2.2.2.1 q0 q1 0 0 (ty := .int) (Wd_at h0) (Wd_at h1) rfl rfl rfl g1 g2 g3 g4 g5 (fun _ _ => rfl) hframes hlocals hdg (fun H1 locs1 hP hD hS => kk _ rfl H1 locs1 (hw.next ?_ hS))
  rw [Wd_set (τ := cpS σ q0 q1 sp dp n) h1 ?_ ?_] at hP
  · exact hP
  · show Sum.inl (cA 0, n1, Sum.inl _) = Sum.inl (cA 0, n1, Sum.inl _)
    congr 4
    funext i
    simp [va_cpy, cpS]
  · intro q y hq
    have : (cpS σ q0 q1 sp dp n).1 q = σ.1 q := by
      funext i; simp [cpS, hq]
    rw [this]
    rfl
end KW
