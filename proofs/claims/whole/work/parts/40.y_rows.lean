/-! CONSTRUCTORS: rows over X ++ L, X any cells, L the cells made so far, one by one -/
def YX (D : va_G) (cs : Nat → ClassId) (U : State) : Prop := va_K D cls (tyx cs) U ∧ va_AO "TenYards$Faller" U ∧ va_AO "TenYards$Shelf" U ∧ va_Nw (.methodLinkNest RX11 9 yX0_init RX11) U ∧ va_Nw (.methodLinkNest RX11 57 yX9_init RX11) U
theorem YX.warm {D : va_G} {cs : Nat → ClassId} {s U : State} (h : YX D cs s) (hW : s.WarmedH U.vm) : YX D cs U := ⟨va_K.moved hW.alike h.1, va_AO.moved hW.alike h.2.1, va_AO.moved hW.alike h.2.2.1, va_Nw.warmM hW h.2.2.2.1, va_Nw.warmM hW h.2.2.2.2⟩
theorem YX.call {D : va_G} {cs : Nat → ClassId} {U : State} (h : YX D cs U) (g : JFrame) (mk : MethodId) (a : Array Value) : YX D cs (U.calling g mk a) := ⟨va_K.moved (u := U) (U := U.calling g mk a) (Vm.Alike.refl U.vm) h.1, va_AO.moved (u := U) (U := U.calling g mk a) (Vm.Alike.refl U.vm) h.2.1, va_AO.moved (u := U) (U := U.calling g mk a) (Vm.Alike.refl U.vm) h.2.2.1, va_Nw.same (u := U) (U := U.calling g mk a) rfl rfl h.2.2.2.1, va_Nw.same (u := U) (U := U.calling g mk a) rfl rfl h.2.2.2.2⟩
def EY (p : Program) (m : MethodId) (c : Code) (cc : ByteArray) (nL : Nat) (s : State) (args : Array Value) (own : String) (D : va_G) (cs : Nat → ClassId) : Prop := CallFix p m c cc nL s args W0 own ∧ YX D cs s
def OY (D : va_G) (A : Nat → Prop) (H0 : Heap) (X L : va_W) (H : Heap) (locs : List Loc) : Prop := va_P D cls (X ++ L) H ∧ va_D A (X ++ L) ∧ va_S A H0 H locs
abbrev PY (D : va_G) (cs : Nat → ClassId) (A : Nat → Prop) (sz : Nat) (w : va_W) (vs : List Value) : Array Value → State → Prop := va_Pc vs (fun U => U.heap.size = sz ∧ va_P D cls w U.heap ∧ YX D cs U ∧ va_D A w)
theorem PY.blind {D : va_G} {cs : Nat → ClassId} {A : Nat → Prop} {sz : Nat} {w : va_W} {vs : List Value} : FrameBlind (PY D cs A sz w vs) := fun a U g mk h => ⟨h.1, h.2.1, h.2.2.1, h.2.2.2.1.call g mk a, h.2.2.2.2⟩
theorem PY.pre {D : va_G} {cs : Nat → ClassId} {A : Nat → Prop} {X L : va_W} {vs : List Value} {s : State} {H : Heap} {locs : List Loc} (hK : YX D cs s) (hw : OY D A s.heap X L H locs) : ∀ U : State, U.heap = H → s.WarmedH U.vm → PY D cs A H.size (X ++ L) vs vs.toArray U := fun U hU hW => ⟨rfl, by rw [hU], by rw [hU]; exact hw.1, hK.warm hW, hw.2.1⟩
def MY (l : Launch) (D : va_G) (cs : Nat → ClassId) (y : MethodName) (bs : ByteArray) (n : Nat) (rm : Room) (vs : List Value) (w : va_W) (post : va_W → Prop) : Prop :=
  ∀ (A : Nat → Prop) (sz : Nat), (∀ q, sz ≤ q → A q) → Met l y (.code y bs n none :: W0) rm (PY D cs A sz w vs) (va_Qv post (fun u t => va_P D cls u t.heap ∧ va_D A u) A) rm.cells rm.slots A
def cG (c : Nat) (C : String) (T : u_T) (N : Nat) (ty : Nat → FieldType) : Prop := cls[c]? = some (C, T, N) ∧ (∀ w ∈ u_ws C T N, w ∈ W0) ∧ (∀ k, k < N → parseFieldDescriptor (T k).2.2.1 = some (ty k)) ∧ (∀ a, a < N → ∀ b, b < N → a ≠ b → (T a).2.1 ≠ (T b).2.1)
theorem g_0 : cG 0 RX0 TX0 10 tyX0 := ⟨rfl, in_0, tyX0_ok, nmX0⟩
theorem g_3 : cG 3 RX3 TX3 12 tyX3 := ⟨rfl, in_3, tyX3_ok, nmX3⟩
theorem g_4 : cG 4 RX4 TX4 8 tyX4 := ⟨rfl, in_4, tyX4_ok, nmX4⟩
theorem g_9 : cG 9 RX9 TX9 5 tyX9 := ⟨rfl, in_9, tyX9_ok, nmX9⟩
theorem g_11 : cG 11 RX11 TX11 11 tyX11 := ⟨rfl, in_11, tyX11_ok, nmX11⟩
theorem g_12 : cG 12 RX12 TX12 36 tyX12 := ⟨rfl, in_12, tyX12_ok, nmX12⟩
theorem ap_at {α : Type} (X L : List α) (k : Nat) : (X ++ L)[X.length + k]? = L[k]? := by
  rw [List.getElem?_append_right (Nat.le_add_right _ _), Nat.add_sub_cancel_left]
theorem ap_set {α : Type} (X L : List α) (k : Nat) (e : α) : (X ++ L).set (X.length + k) e = X ++ L.set k e := by
  rw [List.set_append_right _ _ (Nat.le_add_right _ _), Nat.add_sub_cancel_left]
section XY
variable {p : Program} {l : Launch} {e : Env} {R : Room} {s : State} {m : MethodId} {args : Array Value} {below : List Frame} {meth : Method} {c : Code} {H : Heap} {locs : List Loc} {cells slots : Nat} {Q : State → Prop}
variable {cc : ByteArray} {nL pc : Nat} {ls : Array Slot} {rest st0 : List Value} {D : va_G} {cs : Nat → ClassId} {A : Nat → Prop} {own : String} {X L : va_W}
variable {c1 : Nat} {C : String} {T : u_T} {N : Nat} {ty0 : Nat → FieldType}
theorem yg (E : EY p m c cc nL s args own D cs) (hw : OY D A s.heap X L H locs) (hG : cG c1 C T N ty0) (j : Nat) {a : Nat} {fs : List Value} (hj : L[j]? = some (a, .inr (c1, fs))) (k : Nat) {idx : Nat} {v : Value} (hk : k < N) (hq : Cond.fieldLink own idx (T k).1 (T k).2.1 (T k).2.2.1 ∈ W0) (hv : fs[k]? = some v) (hdg : decode cc pc = .ok (.getfield idx, 3))
    (kk : W p l e R s m args below meth c H locs cells slots Q (F0 m (pc + 3) ls (v :: rest))) : W p l e R s m args below meth c H locs cells slots Q (F0 m pc ls (.ref a :: rest)) :=
  va_get E.1.1 E.1.2.1 E.1.2.2.2.2 hG.2.1 E.1.2.2.2.1 E.2.1 hw.1 (X.length + j) ((ap_at X L j).trans hj) hG.1 k hk (E.1.2.2.2.2 _ hq) (fun _ h => h) hv hdg kk
theorem yp (E : EY p m c cc nL s args own D cs) (hw : OY D A s.heap X L H locs) (hG : cG c1 C T N ty0) (j : Nat) {a : Nat} {fs : List Value} (hj : L[j]? = some (a, .inr (c1, fs))) (k : Nat) {idx : Nat} {v : Value} (ty : FieldType) (hk : k < N ∧ (T k).2.2.2 = false ∧ parseFieldDescriptor (T k).2.2.1 = some ty) (hq : Cond.fieldLink own idx (T k).1 (T k).2.1 (T k).2.2.1 ∈ W0) (hn : narrow ty v = v) (hft : fits ty v = true) (hln : k < fs.length) {L1 : va_W} (hL : L.set j (a, .inr (c1, fs.set k v)) = L1) (hdg : decode cc pc = .ok (.putfield idx, 3))
    (kk : ∀ (H1 : Heap) (locs1 : List Loc), OY D A s.heap X L1 H1 locs1 → W p l e R s m args below meth c H1 locs1 cells slots Q (F0 m (pc + 3) ls rest)) : W p l e R s m args below meth c H locs cells slots Q (F0 m pc ls (v :: .ref a :: rest)) := by
  subst hL
  refine va_put E.1.1 E.1.2.1 E.1.2.2.2.2 hG.2.1 ty0 hG.2.2.1 hG.2.2.2 E.1.2.2.2.1 E.2.1 hw.1 hw.2.1 hw.2.2 (X.length + j) ((ap_at X L j).trans hj) hG.1 k hk.1 (E.1.2.2.2.2 _ hq) (fun _ h => h) hk.2.1 hk.2.2 hn hft hln hdg (fun H1 locs1 hP1 hD1 hS1 => ?_)
  rw [ap_set] at hP1 hD1
  exact kk H1 locs1 ⟨hP1, hD1, hS1⟩
theorem ypF (E : EY p m c cc nL s args own D cs) (hw : OY D A s.heap X L H locs) (hin2 : meth.name = "<init>") (hG : cG c1 C T N ty0) (j : Nat) {a : Nat} {fs : List Value} (hj : L[j]? = some (a, .inr (c1, fs))) (k : Nat) {idx : Nat} {v : Value} (ty : FieldType) (hk : k < N ∧ (T k).2.2.2 = true ∧ parseFieldDescriptor (T k).2.2.1 = some ty ∧ (T k).1 = own) (hq : Cond.fieldLink own idx (T k).1 (T k).2.1 (T k).2.2.1 ∈ W0) (hn : narrow ty v = v) (hft : fits ty v = true) (hln : k < fs.length) {L1 : va_W} (hL : L.set j (a, .inr (c1, fs.set k v)) = L1) (hdg : decode cc pc = .ok (.putfield idx, 3))
    (kk : ∀ (H1 : Heap) (locs1 : List Loc), OY D A s.heap X L1 H1 locs1 → W p l e R s m args below meth c H1 locs1 cells slots Q (F0 m (pc + 3) ls rest)) : W p l e R s m args below meth c H locs cells slots Q (F0 m pc ls (v :: .ref a :: rest)) := by
  subst hL
  refine va_putF E.1.1 E.1.2.1 E.1.2.2.2.2 hG.2.1 ty0 hG.2.2.1 hG.2.2.2 E.1.2.2.2.1 E.2.1 hw.1 hw.2.1 hw.2.2 (X.length + j) ((ap_at X L j).trans hj) hG.1 k hk.1 (E.1.2.2.2.2 _ hq) (fun _ h => h) hk.2.1 hin2 hk.2.2.2 hk.2.2.1 hn hft hln hdg (fun H1 locs1 hP1 hD1 hS1 => ?_)
  rw [ap_set] at hP1 hD1
  exact kk H1 locs1 ⟨hP1, hD1, hS1⟩
/-- the class of an array's cell is the one known -/
theorem cs_eq {D : va_G} {cs : Nat → ClassId} {U : State} {cA : ClassId} {ty : FieldType} (h : va_K D cls (tyx cs ++ [(cA, ty)]) U) (i : Nat) (hi : (tyx cs)[i]? = some (cs i, ty)) : cA = cs i := by
  have h1 := (h.2 4 (cA, ty) rfl).2
  have h2 := (h.2 i (cs i, ty) (by
    have hl : i < (tyx cs).length := (List.getElem?_eq_some_iff.mp hi).1
    rw [List.getElem?_append_left hl]; exact hi)).2
  unfold va_RA at h1 h2
  cases ty with
  | object C =>
    obtain ⟨_, _, _, _, _, h1⟩ := h1
    obtain ⟨_, _, _, _, _, h2⟩ := h2
    exact Option.some.inj (h1.symm.trans h2)
  | _ => exact Option.some.inj (h1.symm.trans h2)
theorem yni (E : EY p m c cc nL s args own D cs) (hw : OY D A s.heap X L H locs) (hA : ∀ q, s.heap.size ≤ q → A q) (hq : Cond.arrayClass .int ∈ W0) {n : Int32} (N' : Nat) (hn : ¬ n < 0) (hN : n.toNatClampNeg = N') (h2 : N' ≤ 1000) (hcells : cells + 1 ≤ R.cells) (hslots : slots + N' ≤ R.slots) (hdg : decode cc pc = .ok (.newarray .int, 2))
    (kk : ∀ (q : Nat) (H1 : Heap) (locs1 : List Loc), OY D A s.heap X (L ++ [(q, .inl (cs 0, N', .inl (fun _ => 0)))]) H1 locs1 → W p l e R s m args below meth c H1 locs1 (cells + 1) (slots + N') Q (F0 m (pc + 2) ls (.ref q :: rest))) : W p l e R s m args below meth c H locs cells slots Q (F0 m pc ls (.int n :: rest)) := by
  refine va_newa (atype := .int) (ty := .int) (a0 := (N', .inl (fun _ => 0))) E.1.1 E.1.2.1 (E.1.2.2.2.2 _ hq) rfl E.2.1 hw.1 hw.2.1 hw.2.2 hA (fun _ => rfl) hn hN (by simp only [componentBytes]; omega) hcells hslots hdg (fun q cA H1 hK1 hP1 hD1 hS1 => ?_)
  have e1 := cs_eq hK1 0 rfl
  subst e1
  exact kk q H1 locs ⟨by rw [← List.append_assoc]; exact hP1, by rw [← List.append_assoc]; exact hD1, hS1⟩
theorem ynl (E : EY p m c cc nL s args own D cs) (hw : OY D A s.heap X L H locs) (hA : ∀ q, s.heap.size ≤ q → A q) (hq : Cond.arrayClass .long ∈ W0) {n : Int32} (N' : Nat) (hn : ¬ n < 0) (hN : n.toNatClampNeg = N') (h2 : N' ≤ 1000) (hcells : cells + 1 ≤ R.cells) (hslots : slots + N' ≤ R.slots) (hdg : decode cc pc = .ok (.newarray .long, 2))
    (kk : ∀ (q : Nat) (H1 : Heap) (locs1 : List Loc), OY D A s.heap X (L ++ [(q, .inl (cs 3, N', .inr (.inl (fun _ => 0))))]) H1 locs1 → W p l e R s m args below meth c H1 locs1 (cells + 1) (slots + N') Q (F0 m (pc + 2) ls (.ref q :: rest))) : W p l e R s m args below meth c H locs cells slots Q (F0 m pc ls (.int n :: rest)) := by
  refine va_newa (atype := .long) (ty := .long) (a0 := (N', .inr (.inl (fun _ => 0)))) E.1.1 E.1.2.1 (E.1.2.2.2.2 _ hq) rfl E.2.1 hw.1 hw.2.1 hw.2.2 hA (fun _ => rfl) hn hN (by simp only [componentBytes]; omega) hcells hslots hdg (fun q cA H1 hK1 hP1 hD1 hS1 => ?_)
  have e1 := cs_eq hK1 3 rfl
  subst e1
  exact kk q H1 locs ⟨by rw [← List.append_assoc]; exact hP1, by rw [← List.append_assoc]; exact hD1, hS1⟩
theorem yno (E : EY p m c cc nL s args own D cs) (hw : OY D A s.heap X L H locs) (hA : ∀ q, s.heap.size ≤ q → A q) (i : Nat) (hi : (tyx cs)[i]? = some (cs i, .object C)) (hO : va_AO C s) {idx : Nat} (hq : Cond.classLink own idx C ∈ W0) {n : Int32} (N' : Nat) (hn : ¬ n < 0) (hN : n.toNatClampNeg = N') (h2 : N' ≤ 1000) (hcells : cells + 1 ≤ R.cells) (hslots : slots + N' ≤ R.slots) (hdg : decode cc pc = .ok (.anewarray idx, 3))
    (kk : ∀ (q : Nat) (H1 : Heap) (locs1 : List Loc), OY D A s.heap X (L ++ [(q, .inl (cs i, N', .inr (.inr (.inr (.inr (fun _ => none))))))]) H1 locs1 → W p l e R s m args below meth c H1 locs1 (cells + 1) (slots + N') Q (F0 m (pc + 3) ls (.ref q :: rest))) : W p l e R s m args below meth c H locs cells slots Q (F0 m pc ls (.int n :: rest)) := by
  refine va_newq E.1.1 E.1.2.1 E.1.2.2.2.1 (E.1.2.2.2.2 _ hq) hO E.2.1 hw.1 hw.2.1 hw.2.2 hA hn hN (by omega) hcells hslots hdg (fun q cA H1 hK1 hP1 hD1 hS1 => ?_)
  have e1 := cs_eq hK1 i hi
  subst e1
  exact kk q H1 locs ⟨by rw [← List.append_assoc]; exact hP1, by rw [← List.append_assoc]; exact hD1, hS1⟩
theorem yn (E : EY p m c cc nL s args own D cs) (hw : OY D A s.heap X L H locs) (hA : ∀ q, s.heap.size ≤ q → A q) (hG : cG c1 C T N ty0) {idx : Nat} (hq : Cond.classLink own idx C ∈ W0 ∧ Cond.instantiable C N ∈ W0 ∧ Cond.initialized C ∈ W0) (fs : List Value) (hfs : ∀ j, j < N → defaultValue (ty0 j) = vp_V fs j) (hcells : cells + 1 ≤ R.cells) (hslots : slots + N ≤ R.slots) (hdg : decode cc pc = .ok (.new idx, 3))
    (kk : ∀ (q : Nat) (H1 : Heap) (locs1 : List Loc), OY D A s.heap X (L ++ [(q, .inr (c1, fs))]) H1 locs1 → W p l e R s m args below meth c H1 locs1 (cells + 1) (slots + N) Q (F0 m (pc + 3) ls (.ref q :: rest))) : W p l e R s m args below meth c H locs cells slots Q (F0 m pc ls rest) :=
  va_new (ci := c1) (fs := fs) (C := C) (T := T) (N := N) E.1.1 E.1.2.1 E.1.2.2.2.2 hG.2.1 ty0 hG.2.2.1 E.1.2.2.2.1 (E.1.2.2.2.2 _ hq.1) (E.1.2.2.2.2 _ hq.2.1) (E.1.2.2.2.2 _ hq.2.2) E.2.1 hw.1 hw.2.1 hw.2.2 hA hG.1 hfs hcells hslots hdg (fun q H1 hP1 hD1 hS1 => kk q H1 locs ⟨by rw [← List.append_assoc]; exact hP1, by rw [← List.append_assoc]; exact hD1, hS1⟩)
theorem yas (E : EY p m c cc nL s args own D cs) (hw : OY D A s.heap X L H locs) (j : Nat) {a n : Nat} {f : Nat → Int32} (hj : L[j]? = some (a, .inl (cs 0, n, .inl f))) {i v : Int32} (hin : vp_in i n) {L1 : va_W} (hL : L.set j (a, .inl (cs 0, n, .inl (upd f i.toNatClampNeg v))) = L1) (hdg : decode cc pc = .ok (.iastore, 1))
    (kk : ∀ (H1 : Heap) (locs1 : List Loc), OY D A s.heap X L1 H1 locs1 → W p l e R s m args below meth c H1 locs1 cells slots Q (F0 m (pc + 1) ls rest)) : W p l e R s m args below meth c H locs cells slots Q (F0 m pc ls (.int v :: .int i :: .ref a :: rest)) := by
  subst hL
  refine va_iast E.1.1 E.1.2.1 E.2.1 hw.1 hw.2.1 hw.2.2 (X.length + j) 0 ((ap_at X L j).trans hj) rfl hin hdg (fun H1 locs1 hP1 hD1 hS1 => ?_)
  rw [ap_set] at hP1 hD1
  exact kk H1 locs1 ⟨hP1, hD1, hS1⟩
theorem yaa (E : EY p m c cc nL s args own D cs) (hw : OY D A s.heap X L H locs) (j i2 qk : Nat) {r : vw_C} {a n v : Nat} {vs : List Value} {f : Nat → Option Nat} (hi : (tyx cs)[i2]? = some (cs i2, .object r.1)) (hj : L[j]? = some (a, .inl (cs i2, n, .inr (.inr (.inr (.inr f)))))) (hk : L[qk]? = some (v, .inr (c1, vs))) (hc : cls[c1]? = some r) {i : Int32} (hin : vp_in i n) {L1 : va_W} (hL : L.set j (a, .inl (cs i2, n, .inr (.inr (.inr (.inr (va_up f i.toNatClampNeg (some v))))))) = L1) (hdg : decode cc pc = .ok (.aastore, 1))
    (kk : ∀ (H1 : Heap) (locs1 : List Loc), OY D A s.heap X L1 H1 locs1 → W p l e R s m args below meth c H1 locs1 cells slots Q (F0 m (pc + 1) ls rest)) : W p l e R s m args below meth c H locs cells slots Q (F0 m pc ls (.ref v :: .int i :: .ref a :: rest)) := by
  subst hL
  refine va_astq E.1.1 E.1.2.1 E.2.1 hw.1 hw.2.1 hw.2.2 (X.length + j) i2 (X.length + qk) c1 ((ap_at X L j).trans hj) hi ((ap_at X L qk).trans hk) hc hin hdg (fun H1 locs1 hP1 hD1 hS1 => ?_)
  rw [ap_set] at hP1 hD1
  exact kk H1 locs1 ⟨hP1, hD1, hS1⟩
/-- a constructor is called -/
theorem yc (E : EY p m c cc nL s args own D cs) (hw : OY D A s.heap X L H locs) (hA : ∀ q, s.heap.size ≤ q → A q) {y : MethodName} {bs : ByteArray} {n na idx q : Nat} {rm : Room} {As : List Value} {post : va_W → Prop} (hM : MY l D cs y bs n rm (.ref q :: As) (X ++ L) post) (hq : Cond.methodLink own idx y ∈ W0 ∧ Cond.instanceMethod y ∈ W0 ∧ Cond.initialized y.cls ∈ W0 ∧ Cond.code y bs n none ∈ W0) (hy1 : y.name = "<init>") (hy : yOK y na) (hR : rm.frames + 1 ≤ R.frames ∧ 8 + (n + 11) + rm.locals ≤ R.locals) (hna : As.length = na) (hsz : ls.size = nL) (hst : st0 = As.reverse ++ .ref q :: rest) (h8 : (rest.map fun v => v.category).sum ≤ 8) (hdg : decode cc pc = .ok (.invokespecial idx, 3)) (hf : cells + rm.cells ≤ R.cells ∧ slots + rm.slots ≤ R.slots)
    (kk : ∀ (u : va_W) (H1 : Heap) (locs1 : List Loc), post u → va_P D cls u H1 ∧ va_D A u ∧ va_S A s.heap H1 locs1 → W p l e R s m args below meth c H1 locs1 (cells + rm.cells) (slots + rm.slots) Q (F0 m (pc + 3) ls rest)) : W p l e R s m args below meth c H locs cells slots Q (F0 m pc ls st0) :=
  va_callv (va_runI E.1 (hM A H.size (fun q h => hA q (Nat.le_trans hw.2.2.1 h))) ⟨callB_of na E.1.2.2.2.2 (w0_c hq.2.2.2) rfl rfl rfl (E.1.2.2.2.2 _ hq.2.2.1) (E.1.2.2.2.2 _ hq.1) hy hR, hy1, E.1.2.2.2.2 _ hq.2.1⟩ ⟨PY.blind, PY.pre E.2 hw⟩ rfl hna hsz hst (lv_room h8) hdg hf) hw.2.2 (fun _ _ h => h) (fun _ h => h) (fun u t H1 locs1 ht _ hp hB _ _ hS1 => kk u H1 locs1 hp ⟨by rw [← ht]; exact hB.1, hB.2, hS1⟩)
theorem ycN (E : EY p m c cc nL s args own D cs) (hw : OY D A s.heap X L H locs) (hA : ∀ q, s.heap.size ≤ q → A q) {y : MethodName} {bs : ByteArray} {n na idx q : Nat} {rm : Room} {As : List Value} {post : va_W → Prop} {host : String} (hM : MY l D cs y bs n rm (.ref q :: As) (X ++ L) post) (hl : va_Nw (.methodLinkNest own idx y host) s) (hq : Cond.instanceMethod y ∈ W0 ∧ Cond.initialized y.cls ∈ W0 ∧ Cond.code y bs n none ∈ W0) (hy1 : y.name = "<init>") (hy : yOK y na) (hR : rm.frames + 1 ≤ R.frames ∧ 8 + (n + 11) + rm.locals ≤ R.locals) (hna : As.length = na) (hsz : ls.size = nL) (hst : st0 = As.reverse ++ .ref q :: rest) (h8 : (rest.map fun v => v.category).sum ≤ 8) (hdg : decode cc pc = .ok (.invokespecial idx, 3)) (hf : cells + rm.cells ≤ R.cells ∧ slots + rm.slots ≤ R.slots)
    (kk : ∀ (u : va_W) (H1 : Heap) (locs1 : List Loc), post u → va_P D cls u H1 ∧ va_D A u ∧ va_S A s.heap H1 locs1 → W p l e R s m args below meth c H1 locs1 (cells + rm.cells) (slots + rm.slots) Q (F0 m (pc + 3) ls rest)) : W p l e R s m args below meth c H locs cells slots Q (F0 m pc ls st0) :=
  va_callv (va_runIN E.1 (hM A H.size (fun q h => hA q (Nat.le_trans hw.2.2.1 h))) ⟨va_cnB na E.1.2.2.2.2 (w0_c hq.2.2) rfl rfl rfl hl (E.1.2.2.2.2 _ hq.2.1) hy hR, hy1, E.1.2.2.2.2 _ hq.1⟩ ⟨PY.blind, PY.pre E.2 hw⟩ rfl hna hsz hst (lv_room h8) hdg hf) hw.2.2 (fun _ _ h => h) (fun _ h => h) (fun u t H1 locs1 ht _ hp hB _ _ hS1 => kk u H1 locs1 hp ⟨by rw [← ht]; exact hB.1, hB.2, hS1⟩)
end XY
theorem MY.of {l : Launch} {D : va_G} {cs : Nat → ClassId} {y : MethodName} {bs : ByteArray} {n : Nat} {rm : Room} {vs : List Value} {X L : va_W} {post : va_W → Prop} (own : String) (ho : y.cls = own) (hin : y.name = "<init>") (hy : plainName y.cls = true) (hl : (lg_sl vs).length ≤ n)
    (body : ∀ (p : Program) (e : Env) (s : State) (m : MethodId) (args : Array Value) (below : List Frame) (meth : Method) (c : Code) (A : Nat → Prop) (Q : State → Prop), EY p m c bs n s args own D cs → OY D A s.heap X L s.heap [] → (∀ q, s.heap.size ≤ q → A q) → meth.name = "<init>" → (∀ (L1 : va_W) (H : Heap) (locs : List Loc) (pc : Nat) (ls : Array Slot), OY D A s.heap X L1 H locs → post (X ++ L1) → decode bs pc = .ok (.return_, 1) → W p l e rm s m args below meth c H locs rm.cells rm.slots Q (F0 m pc ls [])) → ∀ ls : Array Slot, lv_has ls n (lv_args 0 vs) → W p l e rm s m args below meth c s.heap [] 0 0 Q (F0 m 0 ls [])) : MY l D cs y bs n rm vs (X ++ L) post := by
  subst ho
  intro A sz hA
  refine Met.ofW (cc := bs) (maxL := n) (ret := none) hy rfl ?_
  intro p e s m args below meth c s₁ B hml hv
  obtain ⟨rfl, hsz, hP, hK, hD⟩ := hv
  subst hsz
  have hts := atoms_spec (ws := Cond.code y bs n (none) :: W0) B.pre
  rw [lg_entry_eq]
  refine body p e s m _ below meth c A _ ⟨⟨B.exec, B.bytes, hml, findClass_of_methodNamed B.named, fun w h => hts w (List.mem_cons_of_mem _ h)⟩, hK⟩ ⟨hP, hD, va_S.rf⟩ hA ((name_of_methodNamed B.named B.method).1.trans hin) (fun L1 H locs pc ls hw hp hd => ?_) _ (lv_entry _ hl)
  exact W.vret B.exec B.bytes B.returns (fun t ht _ => ⟨⟨_, rfl, hp, by rw [ht]; exact hw.1, hw.2.1⟩, hw.2.2.F ht⟩) hw.2.2.2.2 hd B.notSynchronized
