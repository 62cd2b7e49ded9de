/-! methods that throw, and that catch -/
abbrev nmX : List String := ["java/lang/RuntimeException", "java/lang/Exception"]
section YX
variable {p : Program} {l : Launch} {e : Env} {R : Room} {s : State} {m : MethodId} {args : Array Value} {below : List Frame} {meth : Method} {c : Code} {T : State} {H : Heap} {locs : List Loc} {cells slots : Nat}
/-- va_callVU with a callee that may throw -/
theorem yx_callVU (X : Stand p l e R s m args below meth c T locs cells slots) (hexec : p.tables.exec = Jvm.exec) {own C owner : String} {index : Nat} {x y : MethodName}
    (hown : s.vm.findClass own = some m.cls) (hlink : (Cond.methodLink own index x).before args s = true) (hsame : (Cond.sameMethod x.cls owner x.name x.desc).before args s = true)
    (hd0 : va_Decl s ⟨owner, x.name, x.desc⟩) (howner : owner ≠ "java/lang/invoke/MethodHandle" ∧ owner ≠ "java/lang/invoke/VarHandle")
    (hsel : (Cond.selects C x y).before args s = true) (hinst : (Cond.instanceMethod y).before args s = true)
    {W9 : Nat} {Pre : Pt → Array Value → Prop} {Post : Pt → Array Value → Option Value → Pt → Prop} {PostX : Pt → Array Value → Addr → Pt → Prop} (hK : vx_Back l R p e below s args y 3 W9 Pre Post PostX)
    {b : Addr} {cellB : Cell} (hcell : T.heap[b]? = some cellB) (hobj : cellB.vm.isStatics = false) (hcls : s.vm.findClass C = some cellB.cls)
    {g : JFrame} (hg : g.method = m) (hsize : g.locals.size = c.maxLocals) {argsL rest : List Value} (hlen : ∀ sig, parseMethodDescriptor x.desc = some sig → argsL.length = sig.parameters.length)
    (hstack : g.stack = argsL.reverse ++ .ref b :: rest) (hW : 2 * g.monitorRoom + (rest.map fun v => v.category).sum ≤ W9) (hdg : decode c.code g.pc = .ok (.invokevirtual index, 3))
    (hpre : ∀ vm₁, s.WarmedH vm₁ → Pre ⟨T.setVm vm₁, locs, cells, slots⟩ (Value.ref b :: argsL).toArray) :
    (∃ (v : Option Value) (vm₁ : Vm) (B : Pt), s.WarmedH vm₁ ∧ Stand p l e R s m args below meth c B.U B.locs B.cells B.slots ∧ Post ⟨T.setVm vm₁, locs, cells, slots⟩ (Value.ref b :: argsL).toArray v B ∧
      ∀ target, Steps p.tables e below (B.U.setTop { g with pc := g.pc + 3, stack := v.toList ++ rest }) target → Steps p.tables e below (T.setTop g) target) ∨
    (∃ (q : Addr) (vm₁ : Vm) (B : Pt), s.WarmedH vm₁ ∧ Stand p l e R s m args below meth c B.U B.locs B.cells B.slots ∧ PostX ⟨T.setVm vm₁, locs, cells, slots⟩ (Value.ref b :: argsL).toArray q B ∧
      Steps p.tables e below (T.setTop g) ((B.U.setTop { g with stack := rest }).pushFrame (.throwing q))) := by
  obtain ⟨r0, r, hn, hrm, hstR, hsigR⟩ := hd0
  obtain ⟨cn, ck, r1, hcn, hck, hni, hf, hn1⟩ := Cond.sameMethod_found hsame
  cases hn.symm.trans hn1
  obtain ⟨mk, methM, hnamed, hmethM, -, habM⟩ := Cond.instanceMethod_spec hinst
  obtain ⟨c2, r2, m2, q1, q2, q3, q4, kP, hkP, hkPi⟩ := Cond.selects_spec hsel
  cases hcls.symm.trans q1
  cases hf.symm.trans q2
  cases hnamed.symm.trans q3
  have hselP : selectMethod e.platform s.vm cellB.cls r0 = .method mk := by rw [Launch.admits_selectMethod X.admits]; exact q4
  obtain ⟨vm₁, X₁, hstep₁⟩ := X.invokevirtualUp hexec hown hlink hsame howner hn hrm hstR (a := b) (cell := cellB) hcell
    (fun z h => by rw [h] at hobj; cases hobj) hselP hmethM habM hkP hkPi (g := g) hg (argsL := argsL) (rest := rest) (hlen _ hsigR) hstack hdg
  rcases hK m meth c ⟨T.setVm vm₁, locs, cells, slots⟩ { g with stack := rest } (.invokevirtual index) mk (Value.ref b :: argsL).toArray X₁ hg hsize hdg hW (X₁.named hnamed) (hpre vm₁ X₁.warmed) with ⟨v, B, X', hpost, hsteps⟩ | ⟨q, B, X', hpost, hsteps⟩
  · exact Or.inl ⟨v, vm₁, B, X₁.warmed, X', hpost, fun target h => hstep₁ _ fun acts => by rw [doInvoke_state]; exact hsteps.trans h⟩
  · exact Or.inr ⟨q, vm₁, B, X₁.warmed, X', hpost, hstep₁ _ fun acts => by rw [doInvoke_state]; exact hsteps⟩
theorem yx_runU {x y : MethodName} {bytes cc : ByteArray} {maxL nL mc ms n index : Nat} {ret : Option FieldType} {ws : List Cond} {rm : Room} {Pc : Array Value → State → Prop} {Qc : Array Value → State → Outcome → State → Prop} {XC : String → State → State → Prop} {free : Addr → Prop} {Ts : List Cond} {own C owner : String} {b : Addr} {As rest : List Value} {g : JFrame}
    (S : CallFix p m c cc nL s args Ts own) (hM : vx_Met l y ws rm Pc Qc XC mc ms free) (cw : va_CU R s args own C owner index x y bytes maxL ret ws rm mc ms n) (hp : PreV s H C b Pc As)
    (hg : g.method = m) (hn : As.length = n) (hsize : g.locals.size = nL) (hstack : g.stack = As.reverse ++ .ref b :: rest) (hW : 2 * g.monitorRoom + (rest.map fun v => v.category).sum ≤ 8) (hdg : decode cc g.pc = .ok (.invokevirtual index, 3)) (hf : cells + mc ≤ R.cells ∧ slots + ms ≤ R.slots) :
    vx_Run p l e R s m args below meth c H locs cells slots mc ms g rest (Qc (Value.ref b :: As).toArray) XC free := by
  obtain ⟨hrc, hrs, hfr, hlo, hws, hcw⟩ := cw.back
  have hini := cw.init
  have hK : vx_Back l R p e below s args y 3 8 (PreOf R mc ms Pc) (PostOf Qc mc ms free) (vx_Post XC mc ms free) := vx_back (bytes := bytes) (maxL := maxL) (ret := ret) hM hp.1 hrc hrs hfr hlo hws hcw (fun a' U hW => word_at hW (Or.inl (by first | rfl | simp [Cond.onTables, Cond.keeps, Cond.steady])) hini)
  obtain ⟨hx, hb, hml, ho, -⟩ := S
  obtain ⟨-, ⟨cellB, hcB, hoB, hclB⟩, hPc⟩ := hp
  intro T hT X
  rcases yx_callVU X hx (C := C) (owner := owner) ho cw.link cw.same cw.decl cw.notMH cw.sel cw.inst hK (by rw [hT]; exact hcB) hoB hclB hg (hsize.trans hml.symm) (argsL := As) (rest := rest) (fun sig h => hn.trans (cw.len sig h)) hstack hW (by rw [hb]; exact hdg)
    (fun vm₁ hW₁ => ⟨hf.1, hf.2, hPc (T.setVm vm₁) hT hW₁⟩) with ⟨v, vm₁, ⟨U', l2, c2, s2⟩, hW₁, X', ⟨g', mk, t, L, e1, e2, hq, h1, hL, h2, h3⟩, st⟩ | ⟨q, vm₁, ⟨U', l2, c2, s2⟩, hW₁, X', ⟨g', mk, t, L, E, ce, e1, e2, hq, hce, hcv, hcl, h1, hL, h2, h3⟩, st⟩
  · dsimp only [Pt.U, Pt.locs, Pt.cells, Pt.slots] at X' e1 e2 h1 h2 h3 st
    subst h1; subst h2; subst h3
    exact Or.inl ⟨v, (T.setVm vm₁).calling g' mk (Value.ref b :: As).toArray, t, U', L, hT, X', hL, e1, e2, hq, st⟩
  · dsimp only [Pt.U, Pt.locs, Pt.cells, Pt.slots] at X' e1 e2 h1 h2 h3 st hcl
    subst h1; subst h2; subst h3
    exact Or.inr ⟨q, (T.setVm vm₁).calling g' mk (Value.ref b :: As).toArray, t, U', L, E, ce, hT, X', hL, e1, e2, hq, hce, hcv, vx_cls hW₁ hcl, st⟩
end YX
abbrev XB (D : va_G) (ad : Nat → Nat → Nat) (cs : Nat → ClassId) (A : Nat → Prop) (px : String → ZS → Prop) : String → State → State → Prop := vx_X (fun _ : ZS => True) (fun E u t => px E u ∧ BB D ad cs A u t) A
def MVX (l : Launch) (D : va_G) (ad : Nat → Nat → Nat) (cs : Nat → ClassId) (sk : (Nat → Nat) × (Nat → Nat)) (y : MethodName) (bs : ByteArray) (n : Nat) (rm : Room) (vs : List Value) (z : ZS) (post : ZS → Prop) (px : String → ZS → Prop) : Prop :=
  ∀ (A : Nat → Prop) (sz : Nat), (∀ q, sz ≤ q → A q) → vx_Met l y (.code y bs n none :: W0) rm (PP D ad cs A sk sz z vs) (va_Qv post (BB D ad cs A) A) (XB D ad cs A px) rm.cells rm.slots A
def MLX (l : Launch) (D : va_G) (ad : Nat → Nat → Nat) (cs : Nat → ClassId) (sk : (Nat → Nat) × (Nat → Nat)) (y : MethodName) (bs : ByteArray) (n : Nat) (rm : Room) (vs : List Value) (z : ZS) (post : Int64 → ZS → Prop) (px : String → ZS → Prop) : Prop :=
  ∀ (A : Nat → Prop) (sz : Nat), (∀ q, sz ≤ q → A q) → vx_Met l y (.code y bs n (some .long) :: W0) rm (PP D ad cs A sk sz z vs) (va_Ql post (BB D ad cs A) A) (XB D ad cs A px) rm.cells rm.slots A
theorem MVX.of {l : Launch} {D : va_G} {ad : Nat → Nat → Nat} {cs : Nat → ClassId} {sk : (Nat → Nat) × (Nat → Nat)} {y : MethodName} {bs : ByteArray} {n : Nat} {rm : Room} {vs : List Value} {z : ZS} {post : ZS → Prop} {px : String → ZS → Prop} (own : String) (ho : y.cls = own) (hy : plainName y.cls = true) (hl : (lg_sl vs).length ≤ n)
    (body : ∀ (p : Program) (e : Env) (s : State) (m : MethodId) (args : Array Value) (below : List Frame) (meth : Method) (c : Code) (A : Nat → Prop), EN p m c bs n s args own D cs A sk → OW D ad cs A s.heap z s.heap [] → (∀ q, s.heap.size ≤ q → A q) → meth.sig.returnType = none → meth.locks = false → (∀ x ∈ c.exceptionTable.toList, False) → ∀ ls : Array Slot, lv_has ls n (lv_args 0 vs) → W p l e rm s m args below meth c s.heap [] 0 0 (vx_MQ below (va_Qv post (BB D ad cs A) A) (XB D ad cs A px) args s rm.cells rm.slots A) (F0 m 0 ls [])) : MVX l D ad cs sk y bs n rm vs z post px := by
  subst ho
  intro A sz hA
  refine vx_ofW (cc := bs) (maxL := n) (ret := none) hy rfl ?_
  intro p e s m args below meth c s₁ B hml htab hv
  obtain ⟨rfl, hsz, hP, hK, hD, hX⟩ := hv
  subst hsz
  have hts := atoms_spec (ws := Cond.code y bs n none :: W0) B.pre
  rw [lg_entry_eq]
  exact body p e s m _ below meth c A ⟨⟨B.exec, B.bytes, hml, findClass_of_methodNamed B.named, fun w h => hts w (List.mem_cons_of_mem _ h)⟩, hK, hX⟩ ⟨hP, hD, va_S.rf⟩ hA B.returns B.notSynchronized htab _ (lv_entry vs hl)
theorem MLX.of {l : Launch} {D : va_G} {ad : Nat → Nat → Nat} {cs : Nat → ClassId} {sk : (Nat → Nat) × (Nat → Nat)} {y : MethodName} {bs : ByteArray} {n : Nat} {rm : Room} {vs : List Value} {z : ZS} {post : Int64 → ZS → Prop} {px : String → ZS → Prop} (own : String) (ho : y.cls = own) (hy : plainName y.cls = true) (hl : (lg_sl vs).length ≤ n)
    (body : ∀ (p : Program) (e : Env) (s : State) (m : MethodId) (args : Array Value) (below : List Frame) (meth : Method) (c : Code) (A : Nat → Prop), EN p m c bs n s args own D cs A sk → OW D ad cs A s.heap z s.heap [] → (∀ q, s.heap.size ≤ q → A q) → meth.sig.returnType = some .long → meth.locks = false → (∀ x ∈ c.exceptionTable.toList, False) → ∀ ls : Array Slot, lv_has ls n (lv_args 0 vs) → W p l e rm s m args below meth c s.heap [] 0 0 (vx_MQ below (va_Ql post (BB D ad cs A) A) (XB D ad cs A px) args s rm.cells rm.slots A) (F0 m 0 ls [])) : MLX l D ad cs sk y bs n rm vs z post px := by
  subst ho
  intro A sz hA
  refine vx_ofW (cc := bs) (maxL := n) (ret := some .long) hy rfl ?_
  intro p e s m args below meth c s₁ B hml htab hv
  obtain ⟨rfl, hsz, hP, hK, hD, hX⟩ := hv
  subst hsz
  have hts := atoms_spec (ws := Cond.code y bs n (some .long) :: W0) B.pre
  rw [lg_entry_eq]
  exact body p e s m _ below meth c A ⟨⟨B.exec, B.bytes, hml, findClass_of_methodNamed B.named, fun w h => hts w (List.mem_cons_of_mem _ h)⟩, hK, hX⟩ ⟨hP, hD, va_S.rf⟩ hA B.returns B.notSynchronized htab _ (lv_entry vs hl)
/-- the words of a throw -/
def TW (own : String) (ik ic : Nat) (cls : String) : Prop := Cond.classLink own ik cls ∈ W0 ∧ Cond.initialized cls ∈ W0 ∧ (∀ w ∈ (vx_atS own ic cls nmX).filter goodWord, w ∈ lw_tbl) ∧ (∀ w ∈ (vx_atS own ic cls nmX).filter (fun w => !goodWord w), w ∈ Cond.castable cls cls :: dcX.map Cond.declares) ∧ (∀ w ∈ Cond.classLink own ik cls :: Cond.initialized cls :: vx_atS own ic cls nmX, vx_ot w = true) ∧ Bundle.fit cls = true ∧ (∀ n ∈ nmX, Bundle.fit n = true) ∧ cls ∈ [EXI, EXU, EXA]
section XT
variable {p : Program} {l : Launch} {e : Env} {R : Room} {s : State} {m : MethodId} {args : Array Value} {below : List Frame} {meth : Method} {c : Code} {H : Heap} {locs : List Loc} {cells slots : Nat}
variable {cc : ByteArray} {nL pc : Nat} {ls : Array Slot} {rest : List Value} {D : va_G} {ad : Nat → Nat → Nat} {cs : Nat → ClassId} {A : Nat → Prop} {sk : (Nat → Nat) × (Nat → Nat)} {z : ZS} {own cls : String} {ik ic i mc ms : Nat} {Qc : Array Value → State → Outcome → State → Prop} {px : String → ZS → Prop}
theorem tw_hat (E : EN p m c cc nL s args own D cs A sk) (hT : TW own ik ic cls) : ∀ w ∈ vx_atS own ic cls nmX, w.before args s = true :=
  vx_hat (B := Cond.castable cls cls :: dcX.map Cond.declares) (fun w hw => E.1.2.2.2.2 _ (w0_in (hT.2.2.1 w hw) (List.mem_filter.mp hw).2)) hT.2.2.2.1 (vx_c (va_Nw.use rfl (E.2.1.2.2.2.2.1 cls hT.2.2.2.2.2.2.2)) (fun w hw => by obtain ⟨x, hx, rfl⟩ := List.mem_map.mp hw; exact va_Nw.use rfl (E.2.1.2.2.2.2.2.2.2.2.2 x hx)))
theorem tw_x (hw : OW D ad cs A s.heap z H locs) (hp : px cls z) : ∀ t : State, s.vm.Alike t.vm → H.size ≤ t.heap.size → (∀ q : Nat, q < H.size → t.heap[q]? = H[q]?) → XB D ad cs A px cls s t := fun t _ h1 h2 =>
  ⟨z, trivial, ⟨hp, hw.1.kept (fun k q hk => h2 q.1 (hw.1 k q hk).lt), hw.2.1⟩, Nat.le_trans hw.2.2.1 h1, fun q hq hA => by rw [h2 q (Nat.lt_of_lt_of_le hq hw.2.2.1)]; exact hw.2.2.2.1 q hq hA⟩
theorem xth (E : EN p m c cc nL s args own D cs A sk) (hw : OW D ad cs A s.heap z H locs) (hl : l.stackTraces = false) (hT : TW own ik ic cls) (hi : i < 12) (ho : (slT i).1 = own) (hp : px cls z) (hsz : ls.size = nL) (hlocks : meth.locks = false)
    (d0 : decode cc pc = .ok (.new ik, 3)) (d3 : decode cc (pc + 3) = .ok (.dup, 1)) (d4 : decode cc (pc + 4) = .ok (.ldc (slT i).2.1, 2)) (d6 : decode cc (pc + 6) = .ok (.invokespecial ic, 3)) (d9 : decode cc (pc + 9) = .ok (.athrow, 1)) (hout : ∀ x ∈ c.exceptionTable.toList, False)
    (hR : 5 < R.frames ∧ (rest.map fun v => v.category).sum + 82 ≤ R.locals ∧ cells + 1 ≤ R.cells ∧ slots + 6 ≤ R.slots) (hc : cells + 1 ≤ mc) (hs : slots + 6 ≤ ms) : W p l e R s m args below meth c H locs cells slots (vx_MQ below Qc (XB D ad cs A px) args s mc ms A) (F0 m pc ls rest) := by
  subst ho
  exact vx_throwS E.1.1 E.1.2.1 hl E.1.2.2.2.1 hT.2.2.2.2.2.1 hT.2.2.2.2.2.2.1 (E.1.2.2.2.2 _ hT.1) (E.1.2.2.2.2 _ hT.2.1) (E.2.2.2.2.1 i hi) (tw_hat E hT) hT.2.2.2.2.1 E.2.2.2.2.2.1 E.2.2.2.2.2.2.1 hw.2.2 (hsz.trans E.1.2.2.1.symm) d0 d3 d4 d6 d9 (fun x hx => (hout x hx).elim) hR.1 hR.2.1 hR.2.2.1 hR.2.2.2 hlocks (tw_x hw hp) hw.2.2.2.2 hc hs
theorem xthW (E : EN p m c cc nL s args own D cs A sk) (hw : OW D ad cs A s.heap z H locs) (hl : l.stackTraces = false) (hT : TW own ik ic cls) (hi : i < 12) (ho : (slT i).1 = own) (hp : px cls z) (hsz : ls.size = nL) (hlocks : meth.locks = false)
    (d0 : decode cc pc = .ok (.new ik, 3)) (d3 : decode cc (pc + 3) = .ok (.dup, 1)) (d4 : decode cc (pc + 4) = .ok (.ldc_w (slT i).2.1, 3)) (d7 : decode cc (pc + 7) = .ok (.invokespecial ic, 3)) (d10 : decode cc (pc + 10) = .ok (.athrow, 1)) (hout : ∀ x ∈ c.exceptionTable.toList, False)
    (hR : 5 < R.frames ∧ (rest.map fun v => v.category).sum + 82 ≤ R.locals ∧ cells + 1 ≤ R.cells ∧ slots + 6 ≤ R.slots) (hc : cells + 1 ≤ mc) (hs : slots + 6 ≤ ms) : W p l e R s m args below meth c H locs cells slots (vx_MQ below Qc (XB D ad cs A px) args s mc ms A) (F0 m pc ls rest) := by
  subst ho
  exact vx_throwSW E.1.1 E.1.2.1 hl E.1.2.2.2.1 hT.2.2.2.2.2.1 hT.2.2.2.2.2.2.1 (E.1.2.2.2.2 _ hT.1) (E.1.2.2.2.2 _ hT.2.1) (E.2.2.2.2.1 i hi) (tw_hat E hT) hT.2.2.2.2.1 E.2.2.2.2.2.1 E.2.2.2.2.2.2.1 hw.2.2 (hsz.trans E.1.2.2.1.symm) d0 d3 d4 d7 d10 (fun x hx => (hout x hx).elim) hR.1 hR.2.1 hR.2.2.1 hR.2.2.2 hlocks (tw_x hw hp) hw.2.2.2.2 hc hs
end XT
theorem tw_4_83 : TW RX4 79 83 EXI := ⟨w0_m (a := tables_1_5) 104 rfl tb_5 rfl, w0_m (a := tables_1_1) 25 rfl tb_1 rfl, by decide +kernel, by decide +kernel, by decide +kernel, by decide +kernel, by decide +kernel, by decide +kernel⟩
theorem tw_1_35 : TW RX1 31 35 EXU := ⟨w0_m (a := tables_1_5) 10 rfl tb_5 rfl, w0_m (a := tables_1_1) 26 rfl tb_1 rfl, by decide +kernel, by decide +kernel, by decide +kernel, by decide +kernel, by decide +kernel, by decide +kernel⟩
theorem tw_10_33 : TW RX10 29 33 EXA := ⟨w0_m (a := tables_1_5) 87 rfl tb_5 rfl, w0_m (a := tables_1_1) 24 rfl tb_1 rfl, by decide +kernel, by decide +kernel, by decide +kernel, by decide +kernel, by decide +kernel, by decide +kernel⟩
theorem tw_11_293 : TW RX11 289 293 EXA := ⟨w0_m (a := tables_1_5) 2 rfl tb_5 rfl, w0_m (a := tables_1_1) 24 rfl tb_1 rfl, by decide +kernel, by decide +kernel, by decide +kernel, by decide +kernel, by decide +kernel, by decide +kernel⟩
theorem tw_11_303 : TW RX11 299 303 EXI := ⟨w0_m (a := tables_1_5) 0 rfl tb_5 rfl, w0_m (a := tables_1_1) 25 rfl tb_1 rfl, by decide +kernel, by decide +kernel, by decide +kernel, by decide +kernel, by decide +kernel, by decide +kernel⟩
