/-! methods that throw, and that catch -/
abbrev nmX : List String := ["java/lang/RuntimeException", "java/lang/Exception"]
section YX
variable {p : Program} {l : Launch} {e : Env} {R : Room} {s : State} {m : MethodId} {args : Array Value} {below : List Frame} {meth : Method} {c : Code} {T : State} {H : Heap} {locs : List Loc} {cells slots : Nat}
/-- va_callVU with a callee that may throw -/
theorem yx_callVU (X : Stand p l e R s m args below meth c T locs cells slots) (hexec : p.tables.exec = Jvm.exec) {own C owner : String} {index : Nat} {x y : MethodName}
    (hown : s.vm.findClass own = some m.cls) (hlink : (Cond.methodLink own index x).before args s = true) (hsame : (Cond.sameMethod x.cls owner x.name x.desc).before args s = true)
    (hd0 : va_Decl s ⟨owner, x.name, x.desc⟩) (howner : owner ≠ "java/lang/invoke/MethodHandle" ∧ owner ≠ "java/lang/invoke/VarHandle")
    (hsel : (Cond.selects C x y).before args s = true) (hinst : (Cond.instanceMethod y).before args s = true)
    {W9 : Nat} {Pre : Pt → Array Value → Prop} {Post : Pt → Array Value → Option Value → Pt → Prop} {PostX : Pt → Array Value → Addr → Pt → Prop} (hK : vx_Back l R p e below s args y 3 W9 Pre Post PostX)
    {b : Addr} {cellB : Cell} (hcell : T.heap[b]? = some cellB) (hobj : cellB.vm.isStatics = false) (hcls : s.vm.findClass C = some cellB.cls)
    {g : JFrame} (hg : g.method = m) (hsize : g.locals.size = c.maxLocals) {argsL rest : List Value} (hlen : ∀ sig, parseMethodDescriptor x.desc = some sig → argsL.length = sig.parameters.length)
    (hstack : g.stack = argsL.reverse ++ .ref b :: rest) (hW : 2 * g.monitorRoom + (rest.map fun v => v.category).sum ≤ W9) (hdg : decode c.code g.pc = .ok (.invokevirtual index, 3))
    (hpre : ∀ vm₁, s.WarmedH vm₁ → Pre ⟨T.setVm vm₁, locs, cells, slots⟩ (Value.ref b :: argsL).toArray) :
    (∃ (v : Option Value) (vm₁ : Vm) (B : Pt), s.WarmedH vm₁ ∧ Stand p l e R s m args below meth c B.U B.locs B.cells B.slots ∧ Post ⟨T.setVm vm₁, locs, cells, slots⟩ (Value.ref b :: argsL).toArray v B ∧
      ∀ target, Steps p.tables e below (B.U.setTop { g with pc := g.pc + 3, stack := v.toList ++ rest }) target → Steps p.tables e below (T.setTop g) target) ∨
    (∃ (q : Addr) (vm₁ : Vm) (B : Pt), s.WarmedH vm₁ ∧ Stand p l e R s m args below meth c B.U B.locs B.cells B.slots ∧ PostX ⟨T.setVm vm₁, locs, cells, slots⟩ (Value.ref b :: argsL).toArray q B ∧
      Steps p.tables e below (T.setTop g) ((B.U.setTop { g with stack := rest }).pushFrame (.throwing q))) := by
  obtain ⟨r0, r, hn, hrm, hstR, hsigR⟩ := hd0
  obtain ⟨cn, ck, r1, hcn, hck, hni, hf, hn1⟩ := Cond.sameMethod_found hsame
  cases hn.symm.trans hn1
  obtain ⟨mk, methM, hnamed, hmethM, -, habM⟩ := Cond.instanceMethod_spec hinst
  obtain ⟨c2, r2, m2, q1, q2, q3, q4, kP, hkP, hkPi⟩ := Cond.selects_spec hsel
  cases hcls.symm.trans q1
  cases hf.symm.trans q2
  cases hnamed.symm.trans q3
  have hselP : selectMethod e.platform s.vm cellB.cls r0 = .method mk := by rw [Launch.admits_selectMethod X.admits]; exact q4
  obtain ⟨vm₁, X₁, hstep₁⟩ := X.invokevirtualUp hexec hown hlink hsame howner hn hrm hstR (a := b) (cell := cellB) hcell
    (fun z h => by rw [h] at hobj; cases hobj) hselP hmethM habM hkP hkPi (g := g) hg (argsL := argsL) (rest := rest) (hlen _ hsigR) hstack hdg
  rcases hK m meth c ⟨T.setVm vm₁, locs, cells, slots⟩ { g with stack := rest } (.invokevirtual index) mk (Value.ref b :: argsL).toArray X₁ hg hsize hdg hW (X₁.named hnamed) (hpre vm₁ X₁.warmed) with ⟨v, B, X', hpost, hsteps⟩ | ⟨q, B, X', hpost, hsteps⟩
  · exact Or.inl ⟨v, vm₁, B, X₁.warmed, X', hpost, fun target h => hstep₁ _ fun acts => by rw [doInvoke_state]; exact hsteps.trans h⟩
  · exact Or.inr ⟨q, vm₁, B, X₁.warmed, X', hpost, hstep₁ _ fun acts => by rw [doInvoke_state]; exact hsteps⟩
theorem yx_runU {x y : MethodName} {bytes cc : ByteArray} {maxL nL mc ms n index : Nat} {ret : Option FieldType} {ws : List Cond} {rm : Room} {Pc : Array Value → State → Prop} {Qc : Array Value → State → Outcome → State → Prop} {XC : String → State → State → Prop} {free : Addr → Prop} {Ts : List Cond} {own C owner : String} {b : Addr} {As rest : List Value} {g : JFrame}
    (S : CallFix p m c cc nL s args Ts own) (hM : vx_Met l y ws rm Pc Qc XC mc ms free) (cw : va_CU R s args own C owner index x y bytes maxL ret ws rm mc ms n) (hp : PreV s H C b Pc As)
    (hg : g.method = m) (hn : As.length = n) (hsize : g.locals.size = nL) (hstack : g.stack = As.reverse ++ .ref b :: rest) (hW : 2 * g.monitorRoom + (rest.map fun v => v.category).sum ≤ 8) (hdg : decode cc g.pc = .ok (.invokevirtual index, 3)) (hf : cells + mc ≤ R.cells ∧ slots + ms ≤ R.slots) :
    vx_Run p l e R s m args below meth c H locs cells slots mc ms g rest (Qc (Value.ref b :: As).toArray) XC free := by
  obtain ⟨hrc, hrs, hfr, hlo, hws, hcw⟩ := cw.back
  have hini := cw.init
  have hK : vx_Back l R p e below s args y 3 8 (PreOf R mc ms Pc) (PostOf Qc mc ms free) (vx_Post XC mc ms free) := vx_back (bytes := bytes) (maxL := maxL) (ret := ret) hM hp.1 hrc hrs hfr hlo hws hcw (fun a' U hW => word_at hW (Or.inl (by first | rfl | simp [Cond.onTables, Cond.keeps, Cond.steady])) hini)
  obtain ⟨hx, hb, hml, ho, -⟩ := S
  obtain ⟨-, ⟨cellB, hcB, hoB, hclB⟩, hPc⟩ := hp
  intro T hT X
  rcases yx_callVU X hx (C := C) (owner := owner) ho cw.link cw.same cw.decl cw.notMH cw.sel cw.inst hK (by rw [hT]; exact hcB) hoB hclB hg (hsize.trans hml.symm) (argsL := As) (rest := rest) (fun sig h => hn.trans (cw.len sig h)) hstack hW (by rw [hb]; exact hdg)
    (fun vm₁ hW₁ => ⟨hf.1, hf.2, hPc (T.setVm vm₁) hT hW₁⟩) with ⟨v, vm₁, ⟨U', l2, c2, s2⟩, hW₁, X', ⟨g', mk, t, L, e1, e2, hq, h1, hL, h2, h3⟩, st⟩ | ⟨q, vm₁, ⟨U', l2, c2, s2⟩, hW₁, X', ⟨g', mk, t, L, E, ce, e1, e2, hq, hce, hcv, hcl, h1, hL, h2, h3⟩, st⟩
  · dsimp only [Pt.U, Pt.locs, Pt.cells, Pt.slots] at X' e1 e2 h1 h2 h3 st
    subst h1; subst h2; subst h3
    exact Or.inl ⟨v, (T.setVm vm₁).calling g' mk (Value.ref b :: As).toArray, t, U', L, hT, X', hL, e1, e2, hq, st⟩
  · dsimp only [Pt.U, Pt.locs, Pt.cells, Pt.slots] at X' e1 e2 h1 h2 h3 st hcl
    subst h1; subst h2; subst h3
    exact Or.inr ⟨q, (T.setVm vm₁).calling g' mk (Value.ref b :: As).toArray, t, U', L, E, ce, hT, X', hL, e1, e2, hq, hce, hcv, vx_cls hW₁ hcl, st⟩
end YX
abbrev XB (D : va_G) (ad : Nat → Nat → Nat) (cs : Nat → ClassId) (A : Nat → Prop) (px : String → ZS → Prop) : String → State → State → Prop := vx_X (fun _ : ZS => True) (fun E u t => px E u ∧ BB D ad cs A u t) A
def MVX (l : Launch) (D : va_G) (ad : Nat → Nat → Nat) (cs : Nat → ClassId) (sk : (Nat → Nat) × (Nat → Nat)) (y : MethodName) (bs : ByteArray) (n : Nat) (rm : Room) (vs : List Value) (z : ZS) (post : ZS → Prop) (px : String → ZS → Prop) : Prop :=
  ∀ (A : Nat → Prop) (sz : Nat), (∀ q, sz ≤ q → A q) → vx_Met l y (.code y bs n none :: W0) rm (PP D ad cs A sk sz z vs) (va_Qv post (BB D ad cs A) A) (XB D ad cs A px) rm.cells rm.slots A
def MLX (l : Launch) (D : va_G) (ad : Nat → Nat → Nat) (cs : Nat → ClassId) (sk : (Nat → Nat) × (Nat → Nat)) (y : MethodName) (bs : ByteArray) (n : Nat) (rm : Room) (vs : List Value) (z : ZS) (post : Int64 → ZS → Prop) (px : String → ZS → Prop) : Prop :=
  ∀ (A : Nat → Prop) (sz : Nat), (∀ q, sz ≤ q → A q) → vx_Met l y (.code y bs n (some .long) :: W0) rm (PP D ad cs A sk sz z vs) (va_Ql post (BB D ad cs A) A) (XB D ad cs A px) rm.cells rm.slots A
theorem MVX.of {l : Launch} {D : va_G} {ad : Nat → Nat → Nat} {cs : Nat → ClassId} {sk : (Nat → Nat) × (Nat → Nat)} {y : MethodName} {bs : ByteArray} {n : Nat} {rm : Room} {vs : List Value} {z : ZS} {post : ZS → Prop} {px : String → ZS → Prop} (own : String) (ho : y.cls = own) (hy : plainName y.cls = true) (hl : (lg_sl vs).length ≤ n)
    (body : ∀ (p : Program) (e : Env) (s : State) (m : MethodId) (args : Array Value) (below : List Frame) (meth : Method) (c : Code) (A : Nat → Prop), EN p m c bs n s args own D cs A sk → OW D ad cs A s.heap z s.heap [] → (∀ q, s.heap.size ≤ q → A q) → meth.sig.returnType = none → meth.locks = false → (∀ x ∈ c.exceptionTable.toList, False) → ∀ ls : Array Slot, lv_has ls n (lv_args 0 vs) → W p l e rm s m args below meth c s.heap [] 0 0 (vx_MQ below (va_Qv post (BB D ad cs A) A) (XB D ad cs A px) args s rm.cells rm.slots A) (F0 m 0 ls [])) : MVX l D ad cs sk y bs n rm vs z post px := by
  subst ho
  intro A sz hA
  refine vx_ofW (cc := bs) (maxL := n) (ret := none) hy rfl ?_
  intro p e s m args below meth c s₁ B hml htab hv
  obtain ⟨rfl, hsz, hP, hK, hD, hX⟩ := hv
  subst hsz
  have hts := atoms_spec (ws := Cond.code y bs n none :: W0) B.pre
  rw [lg_entry_eq]
  exact body p e s m _ below meth c A ⟨⟨B.exec, B.bytes, hml, findClass_of_methodNamed B.named, fun w h => hts w (List.mem_cons_of_mem _ h)⟩, hK, hX⟩ ⟨hP, hD, va_S.rf⟩ hA B.returns B.notSynchronized htab _ (lv_entry vs hl)
theorem MLX.of {l : Launch} {D : va_G} {ad : Nat → Nat → Nat} {cs : Nat → ClassId} {sk : (Nat → Nat) × (Nat → Nat)} {y : MethodName} {bs : ByteArray} {n : Nat} {rm : Room} {vs : List Value} {z : ZS} {post : Int64 → ZS → Prop} {px : String → ZS → Prop} (own : String) (ho : y.cls = own) (hy : plainName y.cls = true) (hl : (lg_sl vs).length ≤ n)
    (body : ∀ (p : Program) (e : Env) (s : State) (m : MethodId) (args : Array Value) (below : List Frame) (meth : Method) (c : Code) (A : Nat → Prop), EN p m c bs n s args own D cs A sk → OW D ad cs A s.heap z s.heap [] → (∀ q, s.heap.size ≤ q → A q) → meth.sig.returnType = some .long → meth.locks = false → (∀ x ∈ c.exceptionTable.toList, False) → ∀ ls : Array Slot, lv_has ls n (lv_args 0 vs) → W p l e rm s m args below meth c s.heap [] 0 0 (vx_MQ below (va_Ql post (BB D ad cs A) A) (XB D ad cs A px) args s rm.cells rm.slots A) (F0 m 0 ls [])) : MLX l D ad cs sk y bs n rm vs z post px := by
  subst ho
  intro A sz hA
  refine vx_ofW (cc := bs) (maxL := n) (ret := some .long) hy rfl ?_
  intro p e s m args below meth c s₁ B hml htab hv
  obtain ⟨rfl, hsz, hP, hK, hD, hX⟩ := hv
  subst hsz
  have hts := atoms_spec (ws := Cond.code y bs n (some .long) :: W0) B.pre
  rw [lg_entry_eq]
  exact body p e s m _ below meth c A ⟨⟨B.exec, B.bytes, hml, findClass_of_methodNamed B.named, fun w h => hts w (List.mem_cons_of_mem _ h)⟩, hK, hX⟩ ⟨hP, hD, va_S.rf⟩ hA B.returns B.notSynchronized htab _ (lv_entry vs hl)
/-- the words of a throw -/
def TW (own : String) (ik ic : Nat) (cls : String) : Prop := Cond.classLink own ik cls ∈ W0 ∧ Cond.initialized cls ∈ W0 ∧ (∀ w ∈ (vx_atS own ic cls nmX).filter goodWord, w ∈ lw_tbl) ∧ (∀ w ∈ (vx_atS own ic cls nmX).filter (fun w => !goodWord w), w ∈ [Cond.castable cls cls]) ∧ (∀ w ∈ Cond.classLink own ik cls :: Cond.initialized cls :: vx_atS own ic cls nmX, vx_ot w = true) ∧ Bundle.fit cls = true ∧ (∀ n ∈ nmX, Bundle.fit n = true) ∧ cls ∈ [EXI, EXU, EXA]
section XT
variable {p : Program} {l : Launch} {e : Env} {R : Room} {s : State} {m : MethodId} {args : Array Value} {below : List Frame} {meth : Method} {c : Code} {H : Heap} {locs : List Loc} {cells slots : Nat}
variable {cc : ByteArray} {nL pc : Nat} {ls : Array Slot} {rest : List Value} {D : va_G} {ad : Nat → Nat → Nat} {cs : Nat → ClassId} {A : Nat → Prop} {sk : (Nat → Nat) × (Nat → Nat)} {z : ZS} {own cls : String} {ik ic i mc ms : Nat} {Qc : Array Value → State → Outcome → State → Prop} {px : String → ZS → Prop}
theorem tw_hat (E : EN p m c cc nL s args own D cs A sk) (hT : TW own ik ic cls) : ∀ w ∈ vx_atS own ic cls nmX, w.before args s = true :=
  vx_hat (B := [Cond.castable cls cls]) (fun w hw => E.1.2.2.2.2 _ (w0_in (hT.2.2.1 w hw) (List.mem_filter.mp hw).2)) hT.2.2.2.1 (vx_c (va_Nw.use rfl (E.2.1.2.2.2.2.1 cls hT.2.2.2.2.2.2.2)) vx_n)
theorem tw_x (hw : OW D ad cs A s.heap z H locs) (hp : px cls z) : ∀ t : State, s.vm.Alike t.vm → H.size ≤ t.heap.size → (∀ q : Nat, q < H.size → t.heap[q]? = H[q]?) → XB D ad cs A px cls s t := fun t _ h1 h2 =>
  ⟨z, trivial, ⟨hp, hw.1.kept (fun k q hk => h2 q.1 (hw.1 k q hk).lt), hw.2.1⟩, Nat.le_trans hw.2.2.1 h1, fun q hq hA => by rw [h2 q (Nat.lt_of_lt_of_le hq hw.2.2.1)]; exact hw.2.2.2.1 q hq hA⟩
theorem xth (E : EN p m c cc nL s args own D cs A sk) (hw : OW D ad cs A s.heap z H locs) (hl : l.stackTraces = false) (hT : TW own ik ic cls) (hi : i < 12) (ho : (slT i).1 = own) (hp : px cls z) (hsz : ls.size = nL) (hlocks : meth.locks = false)
    (d0 : decode cc pc = .ok (.new ik, 3)) (d3 : decode cc (pc + 3) = .ok (.dup, 1)) (d4 : decode cc (pc + 4) = .ok (.ldc (slT i).2.1, 2)) (d6 : decode cc (pc + 6) = .ok (.invokespecial ic, 3)) (d9 : decode cc (pc + 9) = .ok (.athrow, 1)) (hout : ∀ x ∈ c.exceptionTable.toList, False)
    (hR : 5 < R.frames ∧ (rest.map fun v => v.category).sum + 82 ≤ R.locals ∧ cells + 1 ≤ R.cells ∧ slots + 6 ≤ R.slots) (hc : cells + 1 ≤ mc) (hs : slots + 6 ≤ ms) : W p l e R s m args below meth c H locs cells slots (vx_MQ below Qc (XB D ad cs A px) args s mc ms A) (F0 m pc ls rest) := by
  subst ho
  exact vx_throwS E.1.1 E.1.2.1 hl E.1.2.2.2.1 hT.2.2.2.2.2.1 hT.2.2.2.2.2.2.1 (E.1.2.2.2.2 _ hT.1) (E.1.2.2.2.2 _ hT.2.1) (E.2.2.2.2.1 i hi) (tw_hat E hT) hT.2.2.2.2.1 E.2.2.2.2.2.1 E.2.2.2.2.2.2.1 hw.2.2 (hsz.trans E.1.2.2.1.symm) d0 d3 d4 d6 d9 (fun x hx => (hout x hx).elim) hR.1 hR.2.1 hR.2.2.1 hR.2.2.2 hlocks (tw_x hw hp) hw.2.2.2.2 hc hs
theorem xthW (E : EN p m c cc nL s args own D cs A sk) (hw : OW D ad cs A s.heap z H locs) (hl : l.stackTraces = false) (hT : TW own ik ic cls) (hi : i < 12) (ho : (slT i).1 = own) (hp : px cls z) (hsz : ls.size = nL) (hlocks : meth.locks = false)
    (d0 : decode cc pc = .ok (.new ik, 3)) (d3 : decode cc (pc + 3) = .ok (.dup, 1)) (d4 : decode cc (pc + 4) = .ok (.ldc_w (slT i).2.1, 3)) (d7 : decode cc (pc + 7) = .ok (.invokespecial ic, 3)) (d10 : decode cc (pc + 10) = .ok (.athrow, 1)) (hout : ∀ x ∈ c.exceptionTable.toList, False)
    (hR : 5 < R.frames ∧ (rest.map fun v => v.category).sum + 82 ≤ R.locals ∧ cells + 1 ≤ R.cells ∧ slots + 6 ≤ R.slots) (hc : cells + 1 ≤ mc) (hs : slots + 6 ≤ ms) : W p l e R s m args below meth c H locs cells slots (vx_MQ below Qc (XB D ad cs A px) args s mc ms A) (F0 m pc ls rest) := by
  subst ho
  exact vx_throwSW E.1.1 E.1.2.1 hl E.1.2.2.2.1 hT.2.2.2.2.2.1 hT.2.2.2.2.2.2.1 (E.1.2.2.2.2 _ hT.1) (E.1.2.2.2.2 _ hT.2.1) (E.2.2.2.2.1 i hi) (tw_hat E hT) hT.2.2.2.2.1 E.2.2.2.2.2.1 E.2.2.2.2.2.2.1 hw.2.2 (hsz.trans E.1.2.2.1.symm) d0 d3 d4 d7 d10 (fun x hx => (hout x hx).elim) hR.1 hR.2.1 hR.2.2.1 hR.2.2.2 hlocks (tw_x hw hp) hw.2.2.2.2 hc hs
end XT
theorem tw_4_83 : TW RX4 79 83 EXI := ⟨w0_m (a := tables_1_5) 104 rfl tb_5 rfl, w0_m (a := tables_1_1) 25 rfl tb_1 rfl, by decide +kernel, by decide +kernel, by decide +kernel, by decide +kernel, by decide +kernel, by decide +kernel⟩
theorem tw_1_35 : TW RX1 31 35 EXU := ⟨w0_m (a := tables_1_5) 10 rfl tb_5 rfl, w0_m (a := tables_1_1) 26 rfl tb_1 rfl, by decide +kernel, by decide +kernel, by decide +kernel, by decide +kernel, by decide +kernel, by decide +kernel⟩
theorem tw_10_33 : TW RX10 29 33 EXA := ⟨w0_m (a := tables_1_5) 87 rfl tb_5 rfl, w0_m (a := tables_1_1) 24 rfl tb_1 rfl, by decide +kernel, by decide +kernel, by decide +kernel, by decide +kernel, by decide +kernel, by decide +kernel⟩
theorem tw_11_293 : TW RX11 289 293 EXA := ⟨w0_m (a := tables_1_5) 2 rfl tb_5 rfl, w0_m (a := tables_1_1) 24 rfl tb_1 rfl, by decide +kernel, by decide +kernel, by decide +kernel, by decide +kernel, by decide +kernel, by decide +kernel⟩
theorem tw_11_303 : TW RX11 299 303 EXI := ⟨w0_m (a := tables_1_5) 0 rfl tb_5 rfl, w0_m (a := tables_1_1) 25 rfl tb_1 rfl, by decide +kernel, by decide +kernel, by decide +kernel, by decide +kernel, by decide +kernel, by decide +kernel⟩
theorem qf2_4 : Cond.fieldLink RX4 28 "TenYards$Faller" (TX4 1).2.1 (TX4 1).2.2.1 ∈ W0 := w0_m (a := tables_1_1) 101 rfl tb_1 rfl
set_option maxHeartbeats 4000000 in
theorem c_X4_fail (l : Launch) (hst : l.stackTraces = false) (D : va_G) (ad : Nat → Nat → Nat) (cs : Nat → ClassId) (sk : (Nat → Nat) × (Nat → Nat)) (z : ZS) (a : Nat) (ha : a ∈ zP z) : MVX l D ad cs sk yX4_fail cX4_fail 1 (rmq 6 1 6) [.ref a] z (fun u => u = z ∧ zF z a 1 = 0) (fun E u => E = EXI ∧ u = z ∧ ¬ zF z a 1 = 0) := by
  refine MVX.of RX4 rfl (by decide) (Nat.le_of_ble_eq_true rfl) ?_
  intro p e s m args below meth c A E hw hA hr hlk htab ls hl
  have hx := E.1.1
  have hb := E.1.2.1
  have hl : lv_has ls 1 [(0, .ref a)] := hl
  refine lv_aload_n hx hb dX4_fail_0 rfl (lv_at hl 0 rfl) ?_
  refine xgF E hw ha (k := 1) (ref := "TenYards$Faller") (by decide) qf2_4 (Or.inl rfl) dX4_fail_1 ?_
  refine lv_if_eq (tgt := 17) hx hb dX4_fail_4 (by decide) (fun c1 => ?_) (fun c1 => ?_)
  · exact W.widen (by decide) (by decide) (vx_ret (xrV hx hb hr hlk hw ⟨rfl, c1⟩ dX4_fail_17))
  · exact xth (i := 8) E hw hst tw_4_83 (by decide) rfl ⟨rfl, rfl, c1⟩ hl.1 hlk dX4_fail_7 dX4_fail_10 dX4_fail_11 dX4_fail_13 dX4_fail_16 htab ⟨by decide, by decide, by decide, by decide⟩ (by decide) (by decide)
theorem qf2_1 : Cond.fieldLink RX1 28 "TenYards$Crabbing" (TX4 1).2.1 (TX4 1).2.2.1 ∈ W0 := w0_m (a := tables_1_1) 104 rfl tb_1 rfl
theorem qg2_1 : Cond.sameField "TenYards$Crabbing" (TX4 1).1 (TX4 1).2.1 (TX4 1).2.2.1 ∈ W0 := w0_m (a := tables_1_1) 105 rfl tb_1 rfl
set_option maxHeartbeats 4000000 in
theorem c_X1_fail (l : Launch) (hst : l.stackTraces = false) (D : va_G) (ad : Nat → Nat → Nat) (cs : Nat → ClassId) (sk : (Nat → Nat) × (Nat → Nat)) (z : ZS) (a : Nat) (ha : a ∈ zP z) : MVX l D ad cs sk yX1_fail cX1_fail 1 (rmq 6 1 6) [.ref a] z (fun u => u = z ∧ zF z a 1 = 0) (fun E u => E = EXU ∧ u = z ∧ ¬ zF z a 1 = 0) := by
  refine MVX.of RX1 rfl (by decide) (Nat.le_of_ble_eq_true rfl) ?_
  intro p e s m args below meth c A E hw hA hr hlk htab ls hl
  have hx := E.1.1
  have hb := E.1.2.1
  have hl : lv_has ls 1 [(0, .ref a)] := hl
  refine lv_aload_n hx hb dX1_fail_0 rfl (lv_at hl 0 rfl) ?_
  refine xgF E hw ha (k := 1) (ref := "TenYards$Crabbing") (by decide) qf2_1 (Or.inr qg2_1) dX1_fail_1 ?_
  refine lv_if_eq (tgt := 17) hx hb dX1_fail_4 (by decide) (fun c1 => ?_) (fun c1 => ?_)
  · exact W.widen (by decide) (by decide) (vx_ret (xrV hx hb hr hlk hw ⟨rfl, c1⟩ dX1_fail_17))
  · exact xth (i := 6) E hw hst tw_1_35 (by decide) rfl ⟨rfl, rfl, c1⟩ hl.1 hlk dX1_fail_7 dX1_fail_10 dX1_fail_11 dX1_fail_13 dX1_fail_16 htab ⟨by decide, by decide, by decide, by decide⟩ (by decide) (by decide)
theorem qf2_10 : Cond.fieldLink RX10 26 "TenYards$Stalled" (TX4 1).2.1 (TX4 1).2.2.1 ∈ W0 := w0_m (a := tables_1_1) 106 rfl tb_1 rfl
theorem qg2_10 : Cond.sameField "TenYards$Stalled" (TX4 1).1 (TX4 1).2.1 (TX4 1).2.2.1 ∈ W0 := w0_m (a := tables_1_1) 107 rfl tb_1 rfl
set_option maxHeartbeats 4000000 in
theorem c_X10_fail (l : Launch) (hst : l.stackTraces = false) (D : va_G) (ad : Nat → Nat → Nat) (cs : Nat → ClassId) (sk : (Nat → Nat) × (Nat → Nat)) (z : ZS) (a : Nat) (ha : a ∈ zP z) : MVX l D ad cs sk yX10_fail cX10_fail 1 (rmq 6 1 6) [.ref a] z (fun u => u = z ∧ zF z a 1 = 0) (fun E u => E = EXA ∧ u = z ∧ ¬ zF z a 1 = 0) := by
  refine MVX.of RX10 rfl (by decide) (Nat.le_of_ble_eq_true rfl) ?_
  intro p e s m args below meth c A E hw hA hr hlk htab ls hl
  have hx := E.1.1
  have hb := E.1.2.1
  have hl : lv_has ls 1 [(0, .ref a)] := hl
  refine lv_aload_n hx hb dX10_fail_0 rfl (lv_at hl 0 rfl) ?_
  refine xgF E hw ha (k := 1) (ref := "TenYards$Stalled") (by decide) qf2_10 (Or.inr qg2_10) dX10_fail_1 ?_
  refine lv_if_eq (tgt := 17) hx hb dX10_fail_4 (by decide) (fun c1 => ?_) (fun c1 => ?_)
  · exact W.widen (by decide) (by decide) (vx_ret (xrV hx hb hr hlk hw ⟨rfl, c1⟩ dX10_fail_17))
  · exact xth (i := 7) E hw hst tw_10_33 (by decide) rfl ⟨rfl, rfl, c1⟩ hl.1 hlk dX10_fail_7 dX10_fail_10 dX10_fail_11 dX10_fail_13 dX10_fail_16 htab ⟨by decide, by decide, by decide, by decide⟩ (by decide) (by decide)
theorem c_X8_fail (l : Launch) (D : va_G) (ad : Nat → Nat → Nat) (cs : Nat → ClassId) (sk : (Nat → Nat) × (Nat → Nat)) (z : ZS) (a : Nat) : MVX l D ad cs sk yX8_fail cX8_fail 1 (rmq 6 1 6) [.ref a] z (fun u => u = z) (fun _ _ => False) := by
  refine MVX.of RX8 rfl (by decide) (Nat.le_of_ble_eq_true rfl) ?_
  intro p e s m args below meth c A E hw hA hr hlk htab ls hl
  exact W.widen (by decide) (by decide) (vx_ret (xrV E.1.1 E.1.2.1 hr hlk hw rfl dX8_fail_0))
/-- element: what it answers, what it throws -/
def V_X11_element (z : ZS) (p1 p2 : Int32) (post : Int64 → ZS → Prop) (px : String → ZS → Prop) : Prop := V_X11_shelfAt z p1 (fun r z1 => (r = none → px EXA z1) ∧ (∀ o, r = some o → isS o ∧ ((zI z1 o 1 = 0 → px EXI z1) ∧ (¬ zI z1 o 1 = 0 → V_X9_hasPlaces z1 o p2 1 (fun r2 z2 => (r2 = 0 → px EXI z2) ∧ (¬ r2 = 0 → V_X9_valueAt z2 o p2 (fun r3 z3 => post (Int32.toInt64 r3) z3)))))))
set_option maxHeartbeats 4000000 in
theorem c_X11_element (l : Launch) (hst : l.stackTraces = false) (D : va_G) (ad : Nat → Nat → Nat) (cs : Nat → ClassId) (sk : (Nat → Nat) × (Nat → Nat)) (z : ZS) (p1 p2 : Int32) (post : Int64 → ZS → Prop) (px : String → ZS → Prop) (h : V_X11_element z p1 p2 post px) : MLX l D ad cs sk yX11_element cX11_element 4 (rmq 7 1 6) [.ref (ad 0 100), .int p1, .int p2] z post px := by
  refine MLX.of RX11 rfl (by decide) (Nat.le_of_ble_eq_true rfl) ?_
  intro p e s m args below meth c A E hw hA hr hlk htab ls hl
  have hx := E.1.1
  have hb := E.1.2.1
  have hl : lv_has ls 4 [(0, .ref (ad 0 100)), (1, .int p1), (2, .int p2)] := hl
  unfold V_X11_element at h
  refine lv_aload_n hx hb dX11_element_0 rfl (lv_at hl 0 rfl) ?_
  refine lv_iload_n hx hb dX11_element_1 rfl (lv_at hl 1 rfl) ?_
  refine xcVA (As := [.int p1]) (rest := []) E hw hA (c_X11_shelfAt l D ad cs sk z p1 _ h) kc_11_58 yo_X11_shelfAt ⟨Nat.le_of_ble_eq_true rfl, Nat.le_of_ble_eq_true rfl⟩ (xrc E hw ky_0_100 rfl) rfl hl.1 rfl (Nat.le_of_ble_eq_true rfl) dX11_element_2 ⟨Nat.le_of_ble_eq_true rfl, Nat.le_of_ble_eq_true rfl⟩ (fun r z1 H locs hp hw => ?_)
  obtain ⟨ro, rfl, hp⟩ := hp
  clear h
  refine xsqastore_n (lv' := [(3, va_rf (Option.map (fun o => ad o 100) ro)), (0, .ref (ad 0 100)), (1, .int p1), (2, .int p2)]) hx hb dX11_element_5 rfl hl (by decide) rfl (fun ls hl => ?_)
  refine xlqaload_n hx hb dX11_element_6 rfl (lv_at hl 0 rfl) ?_
  refine xnnlo (tgt := 21) hx hb dX11_element_7 (by decide) (fun e1 => ?_) (fun o e1 => ?_)
  · exact xthW (i := 9) E hw hst tw_11_293 (by decide) rfl (hp.1 e1) hl.1 hlk dX11_element_10 dX11_element_13 dX11_element_14 dX11_element_17 dX11_element_20 htab ⟨by decide, by decide, by decide, by decide⟩ (by decide) (by decide)
  replace hp := hp.2 o e1
  obtain ⟨ho, hp⟩ := hp
  subst e1
  have hl : lv_has ls 4 [(3, .ref (ad o 100)), (0, .ref (ad 0 100)), (1, .int p1), (2, .int p2)] := hl
  refine lv_aload_n hx hb dX11_element_21 rfl (lv_at hl 0 rfl) ?_
  refine xgI E hw (c1 := 9) (ciisS ho) (kyisS_100 ho) fo_9_1 qf_11_296 dX11_element_22 ?_
  refine lv_if_ne (tgt := 39) hx hb dX11_element_25 (by decide) (fun c1 => ?_) (fun c1 => ?_)
  · replace hp := hp.2 c1
    refine lv_aload_n hx hb dX11_element_39 rfl (lv_at hl 0 rfl) ?_
    refine lv_iload_n hx hb dX11_element_40 rfl (lv_at hl 3 rfl) ?_
    refine lv_iconst (v := 1) hx hb dX11_element_41 (by decide) ?_
    refine xcVI (As := [.int p2, .int (1 : Int32)]) (rest := []) E hw hA (c_X9_hasPlaces l D ad cs sk z1 o p2 (1 : Int32) _ ho hp) kc_11_283 yo_X9_hasPlaces ⟨Nat.le_of_ble_eq_true rfl, Nat.le_of_ble_eq_true rfl⟩ (xrc E hw (kyisS_100 ho) (ciisS ho)) rfl hl.1 rfl (Nat.le_of_ble_eq_true rfl) dX11_element_42 ⟨Nat.le_of_ble_eq_true rfl, Nat.le_of_ble_eq_true rfl⟩ (fun r2 z2 H locs hp hw => ?_)
    refine lv_if_ne (tgt := 59) hx hb dX11_element_45 (by decide) (fun c2 => ?_) (fun c2 => ?_)
    · replace hp := hp.2 c2
      refine lv_aload_n hx hb dX11_element_59 rfl (lv_at hl 0 rfl) ?_
      refine lv_iload_n hx hb dX11_element_60 rfl (lv_at hl 3 rfl) ?_
      refine xcVI (As := [.int p2]) (rest := []) E hw hA (c_X9_valueAt l D ad cs sk z2 o p2 _ ho hp) kc_11_258 yo_X9_valueAt ⟨Nat.le_of_ble_eq_true rfl, Nat.le_of_ble_eq_true rfl⟩ (xrc E hw (kyisS_100 ho) (ciisS ho)) rfl hl.1 rfl (Nat.le_of_ble_eq_true rfl) dX11_element_61 ⟨Nat.le_of_ble_eq_true rfl, Nat.le_of_ble_eq_true rfl⟩ (fun r3 z3 H locs hp hw => ?_)
      refine lv_i2l hx hb dX11_element_64 rfl ?_
      exact W.widen (by decide) (by decide) (vx_ret (xrL hx hb hr hlk hw hp dX11_element_65))
    · exact xthW (i := 11) E hw hst tw_11_303 (by decide) rfl (hp.1 c2) hl.1 hlk dX11_element_48 dX11_element_51 dX11_element_52 dX11_element_55 dX11_element_58 htab ⟨by decide, by decide, by decide, by decide⟩ (by decide) (by decide)
  · exact xthW (i := 10) E hw hst tw_11_303 (by decide) rfl (hp.1 c1) hl.1 hlk dX11_element_28 dX11_element_31 dX11_element_32 dX11_element_35 dX11_element_38 htab ⟨by decide, by decide, by decide, by decide⟩ (by decide) (by decide)
