/-! making Fallers: a new one stands behind the world until its constructor is through -/
def OQ (D : va_G) (ad : Nat → Nat → Nat) (cs : Nat → ClassId) (A : Nat → Prop) (H0 : Heap) (z : ZS) (q c : Nat) (fs : List Value) (H : Heap) (locs : List Loc) : Prop := va_P D cls (wd ad cs z ++ [(q, .inr (c, fs))]) H ∧ va_D A (wd ad cs z ++ [(q, .inr (c, fs))]) ∧ va_S A H0 H locs
theorem last_at {α : Type} (L : List α) (x : α) : (L ++ [x])[L.length]? = some x := by simp
theorem last_set {α : Type} (L : List α) (x y : α) : (L ++ [x]).set L.length y = L ++ [y] := by
  rw [List.set_append_right _ _ (Nat.le_refl _), Nat.sub_self]
  rfl
theorem pool_new {D : va_G} {ad : Nat → Nat → Nat} {cs : Nat → ClassId} {A : Nat → Prop} {z : ZS} {q : Nat} {e : va_E} (hD : va_D A (wd ad cs z ++ [(q, e)])) : q ∉ zP z := by
  intro h
  obtain ⟨j, hj⟩ := va_pl_get (X := sw ad cs z) (f := fun a => fe (zK z a) (zF z a)) h
  have hl : j < (wd ad cs z).length := (List.getElem?_eq_some_iff.mp hj).1
  have h1 : (wd ad cs z ++ [(q, e)])[j]? = some (q, fe (zK z q) (zF z q)) := by rw [List.getElem?_append_left hl]; exact hj
  have := hD.1 j (wd ad cs z).length _ _ h1 (last_at _ _) rfl
  omega
theorem wd_push {ad : Nat → Nat → Nat} {cs : Nat → ClassId} {z : ZS} {q k : Nat} {f : Nat → Int32} (h : q ∉ zP z) : wd ad cs z ++ [(q, fe k f)] = wd ad cs (wP z q k f) := by
  unfold wd
  rw [List.append_assoc, va_pl_push h]
  have e1 : sw ad cs (wP z q k f) = sw ad cs z := rfl
  rw [e1]
  congr 1
  show va_pl (zP z ++ [q]) _ = va_pl (zP z ++ [q]) _
  refine va_pl_congr (fun a => ?_)
  by_cases ha : a = q
  · subst ha
    rw [va_up_self]
    show fe k f = fe (va_up (zK z) a k a) (va_up (zF z) a f a)
    rw [va_up_self, va_up_self]
  · rw [va_up_ne _ _ ha]
    show fe (zK z a) (zF z a) = fe (va_up (zK z) q k a) (va_up (zF z) q f a)
    rw [va_up_ne _ _ ha, va_up_ne _ _ ha]
/-- c is a Faller's class -/
def cF (c : Nat) : Prop := c = 4 ∨ c = 8 ∨ c = 7 ∨ c = 5 ∨ c = 6 ∨ c = 1 ∨ c = 2 ∨ c = 10
theorem cF_at {c : Nat} (h : cF c) : ∃ C : String, cls[c]? = some (C, TX4, 8) ∧ (∀ w ∈ u_ws C TX4 8, w ∈ W0) := by
  rcases h with rfl | rfl | rfl | rfl | rfl | rfl | rfl | rfl
  · exact ⟨RX4, rfl, in_4⟩
  · exact ⟨RX8, rfl, eT8 ▸ in_8⟩
  · exact ⟨RX7, rfl, eT7 ▸ in_7⟩
  · exact ⟨RX5, rfl, eT5 ▸ in_5⟩
  · exact ⟨RX6, rfl, eT6 ▸ in_6⟩
  · exact ⟨RX1, rfl, eT1 ▸ in_1⟩
  · exact ⟨RX2, rfl, eT2 ▸ in_2⟩
  · exact ⟨RX10, rfl, eT10 ▸ in_10⟩
abbrev PQ (D : va_G) (ad : Nat → Nat → Nat) (cs : Nat → ClassId) (A : Nat → Prop) (sk : (Nat → Nat) × (Nat → Nat)) (sz : Nat) (z : ZS) (q c : Nat) (fs : List Value) (vs : List Value) : Array Value → State → Prop := va_Pc vs (fun U => U.heap.size = sz ∧ va_P D cls (wd ad cs z ++ [(q, .inr (c, fs))]) U.heap ∧ KX D cs U ∧ va_D A (wd ad cs z ++ [(q, .inr (c, fs))]) ∧ SX sk A U)
theorem PQ.blind {D : va_G} {ad : Nat → Nat → Nat} {cs : Nat → ClassId} {A : Nat → Prop} {sk : (Nat → Nat) × (Nat → Nat)} {sz : Nat} {z : ZS} {q c : Nat} {fs vs : List Value} : FrameBlind (PQ D ad cs A sk sz z q c fs vs) := fun a U g mk h => ⟨h.1, h.2.1, h.2.2.1, h.2.2.2.1.call g mk a, h.2.2.2.2.1, h.2.2.2.2.2.call g mk a⟩
theorem PQ.pre {D : va_G} {ad : Nat → Nat → Nat} {cs : Nat → ClassId} {A : Nat → Prop} {sk : (Nat → Nat) × (Nat → Nat)} {z : ZS} {q c : Nat} {fs vs : List Value} {s : State} {H : Heap} {locs : List Loc} (hK : KX D cs s) (hX : SX sk A s) (hw : OQ D ad cs A s.heap z q c fs H locs) : ∀ U : State, U.heap = H → s.WarmedH U.vm → PQ D ad cs A sk H.size z q c fs vs vs.toArray U := fun U hU hW => ⟨rfl, by rw [hU], by rw [hU]; exact hw.1, hK.warm hW, hw.2.1, hX.at hw.2.2 hU hW⟩
/-- a constructor's contract: the fields become fs1 -/
def MC (l : Launch) (D : va_G) (ad : Nat → Nat → Nat) (cs : Nat → ClassId) (sk : (Nat → Nat) × (Nat → Nat)) (y : MethodName) (bs : ByteArray) (n : Nat) (rm : Room) (q : Nat) (As : List Value) (z : ZS) (c : Nat) (fs fs1 : List Value) : Prop :=
  ∀ (A : Nat → Prop) (sz : Nat), (∀ q, sz ≤ q → A q) → Met l y (.code y bs n none :: W0) rm (PQ D ad cs A sk sz z q c fs (.ref q :: As)) (va_Qv (fun u : List Value => u = fs1) (fun u t => va_P D cls (wd ad cs z ++ [(q, .inr (c, u))]) t.heap ∧ va_D A (wd ad cs z ++ [(q, .inr (c, u))])) A) rm.cells rm.slots A
section XQ
variable {p : Program} {l : Launch} {e : Env} {R : Room} {s : State} {m : MethodId} {args : Array Value} {below : List Frame} {meth : Method} {c : Code} {H : Heap} {locs : List Loc} {cells slots : Nat} {Q : State → Prop}
variable {cc : ByteArray} {nL pc : Nat} {ls : Array Slot} {rest st0 : List Value} {D : va_G} {ad : Nat → Nat → Nat} {cs : Nat → ClassId} {A : Nat → Prop} {sk : (Nat → Nat) × (Nat → Nat)} {z : ZS} {own : String} {q c1 : Nat} {fs : List Value}
theorem xqg (E : EN p m c cc nL s args own D cs A sk) (hw : OQ D ad cs A s.heap z q c1 fs H locs) (hc : cF c1) {k idx : Nat} (hk : k < 8) {ref : String} (hq : Cond.fieldLink own idx ref (TX4 k).2.1 (TX4 k).2.2.1 ∈ W0) (hs : (TX4 k).1 = ref ∨ Cond.sameField ref (TX4 k).1 (TX4 k).2.1 (TX4 k).2.2.1 ∈ W0) {v : Value} (hv : fs[k]? = some v) (hdg : decode cc pc = .ok (.getfield idx, 3))
    (kk : W p l e R s m args below meth c H locs cells slots Q (F0 m (pc + 3) ls (v :: rest))) : W p l e R s m args below meth c H locs cells slots Q (F0 m pc ls (.ref q :: rest)) := by
  obtain ⟨C, hC, hin⟩ := cF_at hc
  have hsame : ∀ x, s.fieldFound? (TX4 k).1 (TX4 k).2.1 (TX4 k).2.2.1 = some x → s.fieldFound? ref (TX4 k).2.1 (TX4 k).2.2.1 = some x := by
    rcases hs with hs | hs
    · rw [hs]; exact fun _ h => h
    · exact fun x hx => u_same (E.1.2.2.2.2 _ hs) x hx
  exact va_get E.1.1 E.1.2.1 E.1.2.2.2.2 hin E.1.2.2.2.1 E.2.1.1 hw.1 (wd ad cs z).length (last_at _ _) hC k hk (E.1.2.2.2.2 _ hq) hsame hv hdg kk
theorem xqp (E : EN p m c cc nL s args own D cs A sk) (hw : OQ D ad cs A s.heap z q c1 fs H locs) (hc : cF c1) {k idx : Nat} (hk : k < 8 ∧ (TX4 k).2.2.2 = false) {ref : String} (hq : Cond.fieldLink own idx ref (TX4 k).2.1 (TX4 k).2.2.1 ∈ W0) (hs : (TX4 k).1 = ref ∨ Cond.sameField ref (TX4 k).1 (TX4 k).2.1 (TX4 k).2.2.1 ∈ W0) {v : Int32} (hd : parseFieldDescriptor (TX4 k).2.2.1 = some .int) (hln : k < fs.length) {fs1 : List Value} (hfs : fs.set k (.int v) = fs1) (hdg : decode cc pc = .ok (.putfield idx, 3))
    (kk : ∀ (H1 : Heap) (locs1 : List Loc), OQ D ad cs A s.heap z q c1 fs1 H1 locs1 → W p l e R s m args below meth c H1 locs1 cells slots Q (F0 m (pc + 3) ls rest)) : W p l e R s m args below meth c H locs cells slots Q (F0 m pc ls (.int v :: .ref q :: rest)) := by
  obtain ⟨C, hC, hin⟩ := cF_at hc
  have hsame : ∀ x, s.fieldFound? (TX4 k).1 (TX4 k).2.1 (TX4 k).2.2.1 = some x → s.fieldFound? ref (TX4 k).2.1 (TX4 k).2.2.1 = some x := by
    rcases hs with hs | hs
    · rw [hs]; exact fun _ h => h
    · exact fun x hx => u_same (E.1.2.2.2.2 _ hs) x hx
  refine va_put E.1.1 E.1.2.1 E.1.2.2.2.2 hin tyX4 tyX4_ok nmX4 E.1.2.2.2.1 E.2.1.1 hw.1 hw.2.1 hw.2.2 (wd ad cs z).length (last_at _ _) hC k hk.1 (E.1.2.2.2.2 _ hq) hsame hk.2 hd rfl rfl hln hdg (fun H1 locs1 hP1 hD1 hS1 => ?_)
  rw [last_set, hfs] at hP1 hD1
  exact kk H1 locs1 ⟨hP1, hD1, hS1⟩
theorem xqf (E : EN p m c cc nL s args RX4 D cs A sk) (hw : OQ D ad cs A s.heap z q c1 fs H locs) (hc : cF c1) (hin2 : meth.name = "<init>") {k idx : Nat} (hk : k < 8 ∧ (TX4 k).2.2.2 = true ∧ (TX4 k).1 = RX4) (hq : Cond.fieldLink RX4 idx (TX4 k).1 (TX4 k).2.1 (TX4 k).2.2.1 ∈ W0) {v : Int32} (hd : parseFieldDescriptor (TX4 k).2.2.1 = some .int) (hln : k < fs.length) {fs1 : List Value} (hfs : fs.set k (.int v) = fs1) (hdg : decode cc pc = .ok (.putfield idx, 3))
    (kk : ∀ (H1 : Heap) (locs1 : List Loc), OQ D ad cs A s.heap z q c1 fs1 H1 locs1 → W p l e R s m args below meth c H1 locs1 cells slots Q (F0 m (pc + 3) ls rest)) : W p l e R s m args below meth c H locs cells slots Q (F0 m pc ls (.int v :: .ref q :: rest)) := by
  obtain ⟨C, hC, hin⟩ := cF_at hc
  refine va_putF E.1.1 E.1.2.1 E.1.2.2.2.2 hin tyX4 tyX4_ok nmX4 E.1.2.2.2.1 E.2.1.1 hw.1 hw.2.1 hw.2.2 (wd ad cs z).length (last_at _ _) hC k hk.1 (E.1.2.2.2.2 _ hq) (fun _ h => h) hk.2.1 hin2 hk.2.2 hd rfl rfl hln hdg (fun H1 locs1 hP1 hD1 hS1 => ?_)
  rw [last_set, hfs] at hP1 hD1
  exact kk H1 locs1 ⟨hP1, hD1, hS1⟩
/-- the constructor's own end -/
theorem xqr (hx : p.tables.exec = Jvm.exec) (hb : c.code = cc) (hr : meth.sig.returnType = none) (hlocks : meth.locks = false) (hw : OQ D ad cs A s.heap z q c1 fs H locs) (hdg : decode cc pc = .ok (.return_, 1)) : W p l e R s m args below meth c H locs cells slots (MQ below (va_Qv (fun u : List Value => u = fs) (fun u t => va_P D cls (wd ad cs z ++ [(q, .inr (c1, u))]) t.heap ∧ va_D A (wd ad cs z ++ [(q, .inr (c1, u))])) A) args s cells slots A) (F0 m pc ls []) :=
  W.vret hx hb hr (fun t ht _ => ⟨⟨fs, rfl, rfl, by rw [ht]; exact hw.1, hw.2.1⟩, hw.2.2.F ht⟩) hw.2.2.2.2 hdg hlocks
/-- new: the object comes behind the world -/
theorem xqn (E : EN p m c cc nL s args own D cs A sk) (hw : OW D ad cs A s.heap z H locs) (hA : ∀ q, s.heap.size ≤ q → A q) (hc : cF c1) {C : String} {T : u_T} (hC : cls[c1]? = some (C, T, 8)) (hT : T = TX4) {idx : Nat} (hq : Cond.classLink own idx C ∈ W0 ∧ Cond.instantiable C 8 ∈ W0 ∧ Cond.initialized C ∈ W0) (hcells : cells + 1 ≤ R.cells) (hslots : slots + 8 ≤ R.slots) (hdg : decode cc pc = .ok (.new idx, 3))
    (kk : ∀ (q : Nat) (H1 : Heap), q ∉ zP z → OQ D ad cs A s.heap z q c1 [.int 0, .int 0, .int 0, .int 0, .int 0, .int 0, .int 0, .int 0] H1 locs → W p l e R s m args below meth c H1 locs (cells + 1) (slots + 8) Q (F0 m (pc + 3) ls (.ref q :: rest))) : W p l e R s m args below meth c H locs cells slots Q (F0 m pc ls rest) := by
  subst hT
  obtain ⟨C', hC', hin⟩ := cF_at hc
  have e : C' = C := by have := hC.symm.trans hC'; simp at this; exact this.symm
  subst e
  refine va_new (ci := c1) (fs := [.int 0, .int 0, .int 0, .int 0, .int 0, .int 0, .int 0, .int 0]) (C := C') (T := TX4) (N := 8) E.1.1 E.1.2.1 E.1.2.2.2.2 hin tyX4 tyX4_ok E.1.2.2.2.1 (E.1.2.2.2.2 _ hq.1) (E.1.2.2.2.2 _ hq.2.1) (E.1.2.2.2.2 _ hq.2.2) E.2.1.1 hw.1 hw.2.1 hw.2.2 hA hC' ?_ hcells hslots hdg (fun q H1 hP1 hD1 hS1 => kk q H1 (pool_new (D := D) hD1) ⟨hP1, hD1, hS1⟩)
  intro j hj
  rcases (show j = 0 ∨ j = 1 ∨ j = 2 ∨ j = 3 ∨ j = 4 ∨ j = 5 ∨ j = 6 ∨ j = 7 by omega) with rfl | rfl | rfl | rfl | rfl | rfl | rfl | rfl <;> rfl
/-- a constructor is called on it -/
theorem xqc (E : EN p m c cc nL s args own D cs A sk) (hw : OQ D ad cs A s.heap z q c1 fs H locs) (hA : ∀ q, s.heap.size ≤ q → A q) {y : MethodName} {bs : ByteArray} {n na idx : Nat} {rm : Room} {As fs1 : List Value} (hM : MC l D ad cs sk y bs n rm q As z c1 fs fs1) (hq : Cond.methodLink own idx y ∈ W0 ∧ Cond.instanceMethod y ∈ W0 ∧ Cond.initialized y.cls ∈ W0 ∧ Cond.code y bs n none ∈ W0) (hy1 : y.name = "<init>") (hy : yOK y na) (hR : rm.frames + 1 ≤ R.frames ∧ 8 + (n + 11) + rm.locals ≤ R.locals) (hna : As.length = na) (hsz : ls.size = nL) (hst : st0 = As.reverse ++ .ref q :: rest) (h8 : (rest.map fun v => v.category).sum ≤ 8) (hdg : decode cc pc = .ok (.invokespecial idx, 3)) (hf : cells + rm.cells ≤ R.cells ∧ slots + rm.slots ≤ R.slots)
    (kk : ∀ (H1 : Heap) (locs1 : List Loc), OQ D ad cs A s.heap z q c1 fs1 H1 locs1 → W p l e R s m args below meth c H1 locs1 (cells + rm.cells) (slots + rm.slots) Q (F0 m (pc + 3) ls rest)) : W p l e R s m args below meth c H locs cells slots Q (F0 m pc ls st0) :=
  va_callv (va_runI E.1 (hM A H.size (fun q h => hA q (Nat.le_trans hw.2.2.1 h))) ⟨callB_of na E.1.2.2.2.2 (w0_c hq.2.2.2) rfl rfl rfl (E.1.2.2.2.2 _ hq.2.2.1) (E.1.2.2.2.2 _ hq.1) hy hR, hy1, E.1.2.2.2.2 _ hq.2.1⟩ ⟨PQ.blind, PQ.pre E.2.1 E.2.2 hw⟩ rfl hna hsz hst (lv_room h8) hdg hf) hw.2.2 (fun _ _ h => h) (fun _ h => h) (fun u t H1 locs1 ht _ hp hB _ _ hS1 => by subst hp; exact kk H1 locs1 ⟨by rw [← ht]; exact hB.1, hB.2, hS1⟩)
/-- it joins the pool -/
theorem xqw {k : Nat} {f : Nat → Int32} (hn : q ∉ zP z) (hw : OQ D ad cs A s.heap z q c1 fs H locs) (hc : c1 = fc k) (hf : fs = [.int (f 0), .int (f 1), .int (f 2), .int (f 3), .int (f 4), .int (f 5), .int (f 6), .int (f 7)]) : OW D ad cs A s.heap (wP z q k f) H locs := by
  subst hc; subst hf
  have e := wd_push (ad := ad) (cs := cs) (z := z) (k := k) (f := f) hn
  unfold OW
  rw [← e]
  exact hw
end XQ
theorem MC.of {l : Launch} {D : va_G} {ad : Nat → Nat → Nat} {cs : Nat → ClassId} {sk : (Nat → Nat) × (Nat → Nat)} {y : MethodName} {bs : ByteArray} {n : Nat} {rm : Room} {q : Nat} {As : List Value} {z : ZS} {c1 : Nat} {fs fs1 : List Value} (own : String) (ho : y.cls = own) (hin : y.name = "<init>") (hy : plainName y.cls = true) (hl : (lg_sl (.ref q :: As)).length ≤ n)
    (body : ∀ (p : Program) (e : Env) (s : State) (m : MethodId) (args : Array Value) (below : List Frame) (meth : Method) (c : Code) (A : Nat → Prop) (Q : State → Prop), EN p m c bs n s args own D cs A sk → OQ D ad cs A s.heap z q c1 fs s.heap [] → (∀ q, s.heap.size ≤ q → A q) → meth.name = "<init>" → (∀ (H : Heap) (locs : List Loc) (pc : Nat) (ls : Array Slot), OQ D ad cs A s.heap z q c1 fs1 H locs → decode bs pc = .ok (.return_, 1) → W p l e rm s m args below meth c H locs rm.cells rm.slots Q (F0 m pc ls [])) → ∀ ls : Array Slot, lv_has ls n (lv_args 0 (.ref q :: As)) → W p l e rm s m args below meth c s.heap [] 0 0 Q (F0 m 0 ls [])) : MC l D ad cs sk y bs n rm q As z c1 fs fs1 := by
  subst ho
  intro A sz hA
  refine Met.ofW (cc := bs) (maxL := n) (ret := none) hy rfl ?_
  intro p e s m args below meth c s₁ B hml hv
  obtain ⟨rfl, hsz, hP, hK, hD, hX⟩ := hv
  subst hsz
  have hts := atoms_spec (ws := Cond.code y bs n (none) :: W0) B.pre
  rw [lg_entry_eq]
  refine body p e s m _ below meth c A _ ⟨⟨B.exec, B.bytes, hml, findClass_of_methodNamed B.named, fun w h => hts w (List.mem_cons_of_mem _ h)⟩, hK, hX⟩ ⟨hP, hD, va_S.rf⟩ hA ((name_of_methodNamed B.named B.method).1.trans hin) (fun H locs pc ls hw hd => ?_) _ (lv_entry _ hl)
  exact xqr B.exec B.bytes B.returns B.notSynchronized hw hd
theorem isA_n15 {o : Nat} (h : isA o) : o ≠ 15 := isA_cases (P := fun o => o ≠ 15) (by decide) (by decide) (by decide) h
theorem isA_n0 {o : Nat} (h : isA o) : o ≠ 0 := isA_cases (P := fun o => o ≠ 0) (by decide) (by decide) (by decide) h
