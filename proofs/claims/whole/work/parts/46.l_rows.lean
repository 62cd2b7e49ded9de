def R_law : String := "TenYardsLaw"
def lw_P (b : Addr) (xs : List Int32) (args : Array Value) (s : State) : Prop := args = #[.ref b] ∧ s.IntsAt b xs ∧ xs.length ≤ 448 ∧ (Jvm.Cond.and given_1 narrow_1).before args s = true
def lw_Q (_ : Array Value) (s : State) (o : Outcome) (t : State) : Prop := o = .returned (some (.int 1)) ∧ Framed s o t [] 600128 7301098
def lw_Z (below : List Frame) (a : Array Value) (s : State) : State → Prop := fun t => ∃ o, t.status = .running ∧ Ended t below o ∧ lw_Q a s o t
/-- the law's own end, with 1 on the stack, nothing written that was there before, its room as the claim has it -/
theorem lw_ret {p : Program} {l : Launch} {e : Env} {s : State} {m : MethodId} {below : List Frame} {meth : Method} {c : Code} {b : Nat} (hx : p.tables.exec = Jvm.exec) (hb : c.code = code) (hr : meth.sig.returnType = ret) (hlocks : meth.locks = false) {pc : Nat} {H : Heap} {ls : Array Slot} (hdg : decode code pc = .ok (.ireturn, 1)) : W p l e room_1 s m #[Value.ref b] below meth c H [] 600128 7301098 (lw_Z below #[Value.ref b] s) (F0 m pc ls [.int 1]) := by
  intro T hT X
  obtain ⟨fs, hret, hrun, hended, hW, hframe⟩ := X.leave (v := some (.int 1)) (hlocks := hlocks) (fun h => by rw [hr] at h; cases h)
  have hmeth' : T.vm.method? m = some meth := X.method'
  refine ⟨T.setFrames fs, ?_, .returned (some (.int 1)), hrun, hended, rfl, ⟨_, rfl⟩, hW, hframe⟩
  jvm_step X.here [X.here.top, hx, hb, hdg, hmeth', hr, ret, narrow_b1]
  (try refine ⟨rfl, ?_⟩); (try refine ⟨rfl, ?_⟩)
  first | (intro acts; rw [hret _ acts rfl rfl rfl]) | rw [hret _ _ rfl rfl rfl]
  exact Steps.refl _
/-- what holds at the law's entry: the machine, the code, the tables' words (any of lw_tbl by 'hts w (by decide +kernel)'), the script of L ints xs at the cell b, what the Statement gives of the start (any of its parts by flat_of_before) -/
def lw_At (p : Program) (s : State) (m : MethodId) (meth : Method) (c : Code) (b L : Nat) (xs : Nat → Int32) : Prop :=
  p.tables.exec = Jvm.exec ∧ c.code = code ∧ meth.sig.returnType = ret ∧ c.maxLocals = 8 ∧ s.vm.findClass R_law = some m.cls ∧ (∀ w ∈ lw_tbl, w.before #[Value.ref b] s = true) ∧ va_X b L xs s s.heap ∧ b < s.heap.size ∧ meth.locks = false ∧ (Jvm.Cond.and given_1 narrow_1).before #[Value.ref b] s = true
/-! THE LAW, case by case: SK_k is what the pure part owes; L_k walks the case (printed by gen_l.py) -/
def LX (p : Program) (m : MethodId) (c : Code) (s : State) (b Ln : Nat) (xs : Nat → Int32) (D : va_G) (cs : Nat → ClassId) (sk : (Nat → Nat) × (Nat → Nat)) : Prop := EN p m c cL_law 8 s #[Value.ref b] RL D cs (fun q : Nat => s.heap.size ≤ q) sk ∧ va_X b Ln xs s s.heap ∧ b < s.heap.size ∧ Ln ≤ 448
theorem lw_ld {p : Program} {l : Launch} {e : Env} {R : Room} {s : State} {m : MethodId} {args : Array Value} {below : List Frame} {meth : Method} {c : Code} {D : va_G} {ad : Nat → Nat → Nat} {cs : Nat → ClassId} {sk : (Nat → Nat) × (Nat → Nat)} {b Ln : Nat} {xs : Nat → Int32} {Q : State → Prop} {z : ZS} {H : Heap} {locs : List Loc} {ls : Array Slot} {cells slots j k pc : Nat} {rest : List Value} (C0 : LX p m c s b Ln xs D cs sk) (hw : OW D ad cs (fun q : Nat => s.heap.size ≤ q) s.heap z H locs) (hj : j + 7 ≤ Ln) (hk : k < 7) {v : Int32} (hv : v = nI j + nI k) (hdg : decode cL_law pc = .ok (.iaload, 1))
    (kk : W p l e R s m args below meth c H locs cells slots Q (F0 m (pc + 1) ls (.int (xs (j + k)) :: rest))) : W p l e R s m args below meth c H locs cells slots Q (F0 m pc ls (.int v :: .ref b :: rest)) := by
  subst hv
  have hL := C0.2.2.2
  rw [nI_add]
  have hc : (nI (j + k)).toNatClampNeg = j + k := nI_clamp (by omega)
  refine va_sld C0.1.1.1 C0.1.1.2.1 C0.2.1 C0.2.2.1 (Nat.not_le.mpr C0.2.2.1) hw.2.2 (i := nI (j + k)) (nI_in (by omega) (by omega)) hdg ?_
  rw [hc]
  exact kk
theorem lc_toss : Cond.codeWith yX11_toss cX11_toss 5 (some .int) hhT ∈ W0 := w0_m (a := tables_1_4) 239 rfl tb_4 rfl
theorem xcTW {p : Program} {l : Launch} {e : Env} {R : Room} {s : State} {m : MethodId} {args : Array Value} {below : List Frame} {meth : Method} {c : Code} {H : Heap} {locs : List Loc} {cells slots : Nat} {Q : State → Prop} {cc : ByteArray} {nL pc : Nat} {ls : Array Slot} {rest st0 : List Value} {D : va_G} {ad : Nat → Nat → Nat} {cs : Nat → ClassId} {A : Nat → Prop} {sk : (Nat → Nat) × (Nat → Nat)} {z : ZS} {own : String} {y : MethodName} {bs : ByteArray} {n na idx b : Nat} {rm : Room} {As : List Value} {hh : List (Nat × Nat × Nat × Nat)} (E : EN p m c cc nL s args own D cs A sk) (hw : OW D ad cs A s.heap z H locs) (hA : ∀ q, s.heap.size ≤ q → A q) {post : Int32 → ZS → Prop} (hM : MIW l D ad cs sk y bs n hh rm (.ref b :: As) z post) (hq : Cond.methodLink own idx y ∈ W0 ∧ Cond.instanceMethod y ∈ W0 ∧ Cond.selects y.cls y y ∈ W0 ∧ Cond.initialized y.cls ∈ W0 ∧ Cond.codeWith y bs n (some .int) hh ∈ W0) (hy : yOK y na) (hR : rm.frames + 1 ≤ R.frames ∧ 8 + (n + 11) + rm.locals ≤ R.locals) (hrc : ∃ cell : Cell, H[b]? = some cell ∧ cell.vm.isStatics = false ∧ s.vm.findClass y.cls = some cell.cls) (hna : As.length = na) (hsz : ls.size = nL) (hst : st0 = As.reverse ++ .ref b :: rest) (h8 : (rest.map fun v => v.category).sum ≤ 8) (hdg : decode cc pc = .ok (.invokevirtual idx, 3)) (hf : cells + rm.cells ≤ R.cells ∧ slots + rm.slots ≤ R.slots)
    (kk : ∀ (r : Int32) (z1 : ZS) (H1 : Heap) (locs1 : List Loc), post r z1 → OW D ad cs A s.heap z1 H1 locs1 → W p l e R s m args below meth c H1 locs1 (cells + rm.cells) (slots + rm.slots) Q (F0 m (pc + 3) ls (.int r :: rest))) : W p l e R s m args below meth c H locs cells slots Q (F0 m pc ls st0) := by
  have hT : GoodIn W0 (wsV own idx y.cls y (.codeWith y bs n (some .int) hh :: W0)) := by
    intro w hw9
    unfold wsV at hw9
    simp only [List.mem_append, List.mem_cons, List.not_mem_nil, or_false] at hw9
    rcases hw9 with h9 | h9
    · rcases h9 with rfl | rfl | rfl | rfl
      · exact w0_good _ (by first | exact hq.1 | exact hq.2.1 | exact hq.2.2.1 | exact hq.2.2.2.1)
      · exact w0_good _ (by first | exact hq.1 | exact hq.2.1 | exact hq.2.2.1 | exact hq.2.2.2.1)
      · exact w0_good _ (by first | exact hq.1 | exact hq.2.1 | exact hq.2.2.1 | exact hq.2.2.2.1)
      · exact w0_good _ (by first | exact hq.1 | exact hq.2.1 | exact hq.2.2.1 | exact hq.2.2.2.1)
    · rcases h9 with rfl | h9
      · exact w0_good _ hq.2.2.2.2
      · exact w0_good _ h9
  exact va_calli (vx_runVW E.1 (hM A H.size (xA hw hA)) (vx_cwVW na E.1.2.2.2.2 hT rfl rfl rfl ⟨rfl, hy⟩ hR) ⟨PP.blind, hrc, PP.pre E.2.1 E.2.2 hw⟩ rfl hna hsz hst (lv_room h8) hdg hf) hw.2.2 (fun _ _ h => h) (fun _ h => h) (fun r u t H1 locs1 ht _ hp hB _ _ hS1 => kk r u H1 locs1 hp ⟨by rw [← ht]; exact hB.1, hB.2, hS1⟩)
theorem lm_11_air : Cond.methodLink RL 21 yX11_air ∈ W0 := w0_m (a := tables_1_2) 66 rfl tb_2 rfl
theorem li_11_air : Cond.instanceMethod yX11_air ∈ W0 := w0_m (a := tables_1_2) 67 rfl tb_2 rfl
theorem ls_11_air : Cond.selects RX11 yX11_air yX11_air ∈ W0 := w0_m (a := tables_1_2) 68 rfl tb_2 rfl
theorem ln_11_air : Cond.initialized RX11 ∈ W0 := w0_m (a := tables_1_1) 1 rfl tb_1 rfl
theorem lc_11_air : Cond.code yX11_air cX11_air 5 (some .int) ∈ W0 := w0_m (a := tables_1_2) 69 rfl tb_2 rfl
theorem lk_11_air : cV RL 21 RX11 yX11_air cX11_air 5 (some .int) := ⟨lm_11_air, li_11_air, ls_11_air, ln_11_air, lc_11_air⟩
theorem lo_11_air : yOK yX11_air 1 := by decide +kernel
theorem lm_12_air : Cond.methodLink RL 25 yX12_air ∈ W0 := w0_m (a := tables_1_6) 13 rfl tb_6 rfl
theorem li_12_air : Cond.instanceMethod yX12_air ∈ W0 := w0_m (a := tables_1_6) 14 rfl tb_6 rfl
theorem ls_12_air : Cond.selects RX12 yX12_air yX12_air ∈ W0 := w0_m (a := tables_1_6) 15 rfl tb_6 rfl
theorem ln_12_air : Cond.initialized RX12 ∈ W0 := w0_m (a := tables_1_1) 6 rfl tb_1 rfl
theorem lc_12_air : Cond.code yX12_air cX12_air 7 (some .int) ∈ W0 := w0_m (a := tables_1_6) 16 rfl tb_6 rfl
theorem lk_12_air : cV RL 25 RX12 yX12_air cX12_air 7 (some .int) := ⟨lm_12_air, li_12_air, ls_12_air, ln_12_air, lc_12_air⟩
theorem lo_12_air : yOK yX12_air 1 := by decide +kernel
theorem lm_11_wind : Cond.methodLink RL 26 yX11_wind ∈ W0 := w0_m (a := tables_1_3) 78 rfl tb_3 rfl
theorem li_11_wind : Cond.instanceMethod yX11_wind ∈ W0 := w0_m (a := tables_1_3) 79 rfl tb_3 rfl
theorem ls_11_wind : Cond.selects RX11 yX11_wind yX11_wind ∈ W0 := w0_m (a := tables_1_3) 80 rfl tb_3 rfl
theorem ln_11_wind : Cond.initialized RX11 ∈ W0 := w0_m (a := tables_1_1) 1 rfl tb_1 rfl
theorem lc_11_wind : Cond.code yX11_wind cX11_wind 3 (some .int) ∈ W0 := w0_m (a := tables_1_3) 81 rfl tb_3 rfl
theorem lk_11_wind : cV RL 26 RX11 yX11_wind cX11_wind 3 (some .int) := ⟨lm_11_wind, li_11_wind, ls_11_wind, ln_11_wind, lc_11_wind⟩
theorem lo_11_wind : yOK yX11_wind 2 := by decide +kernel
theorem lm_12_wind : Cond.methodLink RL 30 yX12_wind ∈ W0 := w0_m (a := tables_1_6) 75 rfl tb_6 rfl
theorem li_12_wind : Cond.instanceMethod yX12_wind ∈ W0 := w0_m (a := tables_1_6) 76 rfl tb_6 rfl
theorem ls_12_wind : Cond.selects RX12 yX12_wind yX12_wind ∈ W0 := w0_m (a := tables_1_6) 77 rfl tb_6 rfl
theorem ln_12_wind : Cond.initialized RX12 ∈ W0 := w0_m (a := tables_1_1) 6 rfl tb_1 rfl
theorem lc_12_wind : Cond.code yX12_wind cX12_wind 3 (some .int) ∈ W0 := w0_m (a := tables_1_6) 78 rfl tb_6 rfl
theorem lk_12_wind : cV RL 30 RX12 yX12_wind cX12_wind 3 (some .int) := ⟨lm_12_wind, li_12_wind, ls_12_wind, ln_12_wind, lc_12_wind⟩
theorem lo_12_wind : yOK yX12_wind 2 := by decide +kernel
theorem lm_11_set : Cond.methodLink RL 31 yX11_set ∈ W0 := w0_m (a := tables_1_3) 84 rfl tb_3 rfl
theorem li_11_set : Cond.instanceMethod yX11_set ∈ W0 := w0_m (a := tables_1_3) 85 rfl tb_3 rfl
theorem ls_11_set : Cond.selects RX11 yX11_set yX11_set ∈ W0 := w0_m (a := tables_1_3) 86 rfl tb_3 rfl
theorem ln_11_set : Cond.initialized RX11 ∈ W0 := w0_m (a := tables_1_1) 1 rfl tb_1 rfl
theorem lc_11_set : Cond.code yX11_set cX11_set 4 (some .int) ∈ W0 := w0_m (a := tables_1_3) 87 rfl tb_3 rfl
theorem lk_11_set : cV RL 31 RX11 yX11_set cX11_set 4 (some .int) := ⟨lm_11_set, li_11_set, ls_11_set, ln_11_set, lc_11_set⟩
theorem lo_11_set : yOK yX11_set 2 := by decide +kernel
theorem lm_12_set : Cond.methodLink RL 35 yX12_set ∈ W0 := w0_m (a := tables_1_6) 89 rfl tb_6 rfl
theorem li_12_set : Cond.instanceMethod yX12_set ∈ W0 := w0_m (a := tables_1_6) 90 rfl tb_6 rfl
theorem ls_12_set : Cond.selects RX12 yX12_set yX12_set ∈ W0 := w0_m (a := tables_1_6) 91 rfl tb_6 rfl
theorem ln_12_set : Cond.initialized RX12 ∈ W0 := w0_m (a := tables_1_1) 6 rfl tb_1 rfl
theorem lc_12_set : Cond.code yX12_set cX12_set 4 (some .int) ∈ W0 := w0_m (a := tables_1_6) 92 rfl tb_6 rfl
theorem lk_12_set : cV RL 35 RX12 yX12_set cX12_set 4 (some .int) := ⟨lm_12_set, li_12_set, ls_12_set, ln_12_set, lc_12_set⟩
theorem lo_12_set : yOK yX12_set 2 := by decide +kernel
theorem lm_11_faller : Cond.methodLink RL 36 yX11_faller ∈ W0 := w0_m (a := tables_1_3) 88 rfl tb_3 rfl
theorem li_11_faller : Cond.instanceMethod yX11_faller ∈ W0 := w0_m (a := tables_1_3) 89 rfl tb_3 rfl
theorem ls_11_faller : Cond.selects RX11 yX11_faller yX11_faller ∈ W0 := w0_m (a := tables_1_3) 90 rfl tb_3 rfl
theorem ln_11_faller : Cond.initialized RX11 ∈ W0 := w0_m (a := tables_1_1) 1 rfl tb_1 rfl
theorem lc_11_faller : Cond.code yX11_faller cX11_faller 4 (some .int) ∈ W0 := w0_m (a := tables_1_3) 91 rfl tb_3 rfl
theorem lk_11_faller : cV RL 36 RX11 yX11_faller cX11_faller 4 (some .int) := ⟨lm_11_faller, li_11_faller, ls_11_faller, ln_11_faller, lc_11_faller⟩
theorem lo_11_faller : yOK yX11_faller 2 := by decide +kernel
theorem lm_12_faller : Cond.methodLink RL 39 yX12_faller ∈ W0 := w0_m (a := tables_1_6) 94 rfl tb_6 rfl
theorem li_12_faller : Cond.instanceMethod yX12_faller ∈ W0 := w0_m (a := tables_1_6) 95 rfl tb_6 rfl
theorem ls_12_faller : Cond.selects RX12 yX12_faller yX12_faller ∈ W0 := w0_m (a := tables_1_6) 96 rfl tb_6 rfl
theorem ln_12_faller : Cond.initialized RX12 ∈ W0 := w0_m (a := tables_1_1) 6 rfl tb_1 rfl
theorem lc_12_faller : Cond.code yX12_faller cX12_faller 4 (some .int) ∈ W0 := w0_m (a := tables_1_6) 97 rfl tb_6 rfl
theorem lk_12_faller : cV RL 39 RX12 yX12_faller cX12_faller 4 (some .int) := ⟨lm_12_faller, li_12_faller, ls_12_faller, ln_12_faller, lc_12_faller⟩
theorem lo_12_faller : yOK yX12_faller 2 := by decide +kernel
theorem lm_11_drift : Cond.methodLink RL 40 yX11_drift ∈ W0 := w0_m (a := tables_1_3) 96 rfl tb_3 rfl
theorem li_11_drift : Cond.instanceMethod yX11_drift ∈ W0 := w0_m (a := tables_1_3) 97 rfl tb_3 rfl
theorem ls_11_drift : Cond.selects RX11 yX11_drift yX11_drift ∈ W0 := w0_m (a := tables_1_3) 98 rfl tb_3 rfl
theorem ln_11_drift : Cond.initialized RX11 ∈ W0 := w0_m (a := tables_1_1) 1 rfl tb_1 rfl
theorem lc_11_drift : Cond.code yX11_drift cX11_drift 4 (some .int) ∈ W0 := w0_m (a := tables_1_3) 99 rfl tb_3 rfl
theorem lk_11_drift : cV RL 40 RX11 yX11_drift cX11_drift 4 (some .int) := ⟨lm_11_drift, li_11_drift, ls_11_drift, ln_11_drift, lc_11_drift⟩
theorem lo_11_drift : yOK yX11_drift 2 := by decide +kernel
theorem lm_12_drift : Cond.methodLink RL 43 yX12_drift ∈ W0 := w0_m (a := tables_1_6) 115 rfl tb_6 rfl
theorem li_12_drift : Cond.instanceMethod yX12_drift ∈ W0 := w0_m (a := tables_1_6) 116 rfl tb_6 rfl
theorem ls_12_drift : Cond.selects RX12 yX12_drift yX12_drift ∈ W0 := w0_m (a := tables_1_6) 117 rfl tb_6 rfl
theorem ln_12_drift : Cond.initialized RX12 ∈ W0 := w0_m (a := tables_1_1) 6 rfl tb_1 rfl
theorem lc_12_drift : Cond.code yX12_drift cX12_drift 3 (some .int) ∈ W0 := w0_m (a := tables_1_6) 118 rfl tb_6 rfl
theorem lk_12_drift : cV RL 43 RX12 yX12_drift cX12_drift 3 (some .int) := ⟨lm_12_drift, li_12_drift, ls_12_drift, ln_12_drift, lc_12_drift⟩
theorem lo_12_drift : yOK yX12_drift 2 := by decide +kernel
theorem lm_11_steers : Cond.methodLink RL 44 yX11_steers ∈ W0 := w0_m (a := tables_1_3) 121 rfl tb_3 rfl
theorem li_11_steers : Cond.instanceMethod yX11_steers ∈ W0 := w0_m (a := tables_1_3) 122 rfl tb_3 rfl
theorem ls_11_steers : Cond.selects RX11 yX11_steers yX11_steers ∈ W0 := w0_m (a := tables_1_3) 123 rfl tb_3 rfl
theorem ln_11_steers : Cond.initialized RX11 ∈ W0 := w0_m (a := tables_1_1) 1 rfl tb_1 rfl
theorem lc_11_steers : Cond.code yX11_steers cX11_steers 9 (some .int) ∈ W0 := w0_m (a := tables_1_3) 124 rfl tb_3 rfl
theorem lk_11_steers : cV RL 44 RX11 yX11_steers cX11_steers 9 (some .int) := ⟨lm_11_steers, li_11_steers, ls_11_steers, ln_11_steers, lc_11_steers⟩
theorem lo_11_steers : yOK yX11_steers 5 := by decide +kernel
theorem lm_12_steers : Cond.methodLink RL 48 yX12_steers ∈ W0 := w0_m (a := tables_1_6) 124 rfl tb_6 rfl
theorem li_12_steers : Cond.instanceMethod yX12_steers ∈ W0 := w0_m (a := tables_1_6) 125 rfl tb_6 rfl
theorem ls_12_steers : Cond.selects RX12 yX12_steers yX12_steers ∈ W0 := w0_m (a := tables_1_6) 126 rfl tb_6 rfl
theorem ln_12_steers : Cond.initialized RX12 ∈ W0 := w0_m (a := tables_1_1) 6 rfl tb_1 rfl
theorem lc_12_steers : Cond.code yX12_steers cX12_steers 6 (some .int) ∈ W0 := w0_m (a := tables_1_6) 127 rfl tb_6 rfl
theorem lk_12_steers : cV RL 48 RX12 yX12_steers cX12_steers 6 (some .int) := ⟨lm_12_steers, li_12_steers, ls_12_steers, ln_12_steers, lc_12_steers⟩
theorem lo_12_steers : yOK yX12_steers 5 := by decide +kernel
theorem lm_11_barred : Cond.methodLink RL 49 yX11_barred ∈ W0 := w0_m (a := tables_1_3) 210 rfl tb_3 rfl
theorem li_11_barred : Cond.instanceMethod yX11_barred ∈ W0 := w0_m (a := tables_1_3) 211 rfl tb_3 rfl
theorem ls_11_barred : Cond.selects RX11 yX11_barred yX11_barred ∈ W0 := w0_m (a := tables_1_3) 212 rfl tb_3 rfl
theorem ln_11_barred : Cond.initialized RX11 ∈ W0 := w0_m (a := tables_1_1) 1 rfl tb_1 rfl
theorem lc_11_barred : Cond.code yX11_barred cX11_barred 3 (some .int) ∈ W0 := w0_m (a := tables_1_3) 213 rfl tb_3 rfl
theorem lk_11_barred : cV RL 49 RX11 yX11_barred cX11_barred 3 (some .int) := ⟨lm_11_barred, li_11_barred, ls_11_barred, ln_11_barred, lc_11_barred⟩
theorem lo_11_barred : yOK yX11_barred 2 := by decide +kernel
theorem lm_12_barred : Cond.methodLink RL 52 yX12_barred ∈ W0 := w0_m (a := tables_1_6) 144 rfl tb_6 rfl
theorem li_12_barred : Cond.instanceMethod yX12_barred ∈ W0 := w0_m (a := tables_1_6) 145 rfl tb_6 rfl
theorem ls_12_barred : Cond.selects RX12 yX12_barred yX12_barred ∈ W0 := w0_m (a := tables_1_6) 146 rfl tb_6 rfl
theorem ln_12_barred : Cond.initialized RX12 ∈ W0 := w0_m (a := tables_1_1) 6 rfl tb_1 rfl
theorem lc_12_barred : Cond.code yX12_barred cX12_barred 3 (some .int) ∈ W0 := w0_m (a := tables_1_6) 147 rfl tb_6 rfl
theorem lk_12_barred : cV RL 52 RX12 yX12_barred cX12_barred 3 (some .int) := ⟨lm_12_barred, li_12_barred, ls_12_barred, ln_12_barred, lc_12_barred⟩
theorem lo_12_barred : yOK yX12_barred 2 := by decide +kernel
theorem lm_11_fall : Cond.methodLink RL 53 yX11_fall ∈ W0 := w0_m (a := tables_1_3) 218 rfl tb_3 rfl
theorem li_11_fall : Cond.instanceMethod yX11_fall ∈ W0 := w0_m (a := tables_1_3) 219 rfl tb_3 rfl
theorem ls_11_fall : Cond.selects RX11 yX11_fall yX11_fall ∈ W0 := w0_m (a := tables_1_3) 220 rfl tb_3 rfl
theorem ln_11_fall : Cond.initialized RX11 ∈ W0 := w0_m (a := tables_1_1) 1 rfl tb_1 rfl
theorem lc_11_fall : Cond.code yX11_fall cX11_fall 5 (some .int) ∈ W0 := w0_m (a := tables_1_3) 221 rfl tb_3 rfl
theorem lk_11_fall : cV RL 53 RX11 yX11_fall cX11_fall 5 (some .int) := ⟨lm_11_fall, li_11_fall, ls_11_fall, ln_11_fall, lc_11_fall⟩
theorem lo_11_fall : yOK yX11_fall 4 := by decide +kernel
theorem lm_12_fall : Cond.methodLink RL 57 yX12_fall ∈ W0 := w0_m (a := tables_1_6) 207 rfl tb_6 rfl
theorem li_12_fall : Cond.instanceMethod yX12_fall ∈ W0 := w0_m (a := tables_1_6) 208 rfl tb_6 rfl
theorem ls_12_fall : Cond.selects RX12 yX12_fall yX12_fall ∈ W0 := w0_m (a := tables_1_6) 209 rfl tb_6 rfl
theorem ln_12_fall : Cond.initialized RX12 ∈ W0 := w0_m (a := tables_1_1) 6 rfl tb_1 rfl
theorem lc_12_fall : Cond.code yX12_fall cX12_fall 5 (some .int) ∈ W0 := w0_m (a := tables_1_6) 210 rfl tb_6 rfl
theorem lk_12_fall : cV RL 57 RX12 yX12_fall cX12_fall 5 (some .int) := ⟨lm_12_fall, li_12_fall, ls_12_fall, ln_12_fall, lc_12_fall⟩
theorem lo_12_fall : yOK yX12_fall 4 := by decide +kernel
theorem lm_11_fallBy : Cond.methodLink RL 58 yX11_fallBy ∈ W0 := w0_m (a := tables_1_4) 26 rfl tb_4 rfl
theorem li_11_fallBy : Cond.instanceMethod yX11_fallBy ∈ W0 := w0_m (a := tables_1_4) 27 rfl tb_4 rfl
theorem ls_11_fallBy : Cond.selects RX11 yX11_fallBy yX11_fallBy ∈ W0 := w0_m (a := tables_1_4) 28 rfl tb_4 rfl
theorem ln_11_fallBy : Cond.initialized RX11 ∈ W0 := w0_m (a := tables_1_1) 1 rfl tb_1 rfl
theorem lc_11_fallBy : Cond.code yX11_fallBy cX11_fallBy 6 (some .int) ∈ W0 := w0_m (a := tables_1_4) 29 rfl tb_4 rfl
theorem lk_11_fallBy : cV RL 58 RX11 yX11_fallBy cX11_fallBy 6 (some .int) := ⟨lm_11_fallBy, li_11_fallBy, ls_11_fallBy, ln_11_fallBy, lc_11_fallBy⟩
theorem lo_11_fallBy : yOK yX11_fallBy 5 := by decide +kernel
theorem lm_12_fallBy : Cond.methodLink RL 62 yX12_fallBy ∈ W0 := w0_m (a := tables_1_6) 152 rfl tb_6 rfl
theorem li_12_fallBy : Cond.instanceMethod yX12_fallBy ∈ W0 := w0_m (a := tables_1_6) 153 rfl tb_6 rfl
theorem ls_12_fallBy : Cond.selects RX12 yX12_fallBy yX12_fallBy ∈ W0 := w0_m (a := tables_1_6) 154 rfl tb_6 rfl
theorem ln_12_fallBy : Cond.initialized RX12 ∈ W0 := w0_m (a := tables_1_1) 6 rfl tb_1 rfl
theorem lc_12_fallBy : Cond.code yX12_fallBy cX12_fallBy 6 (some .int) ∈ W0 := w0_m (a := tables_1_6) 155 rfl tb_6 rfl
theorem lk_12_fallBy : cV RL 62 RX12 yX12_fallBy cX12_fallBy 6 (some .int) := ⟨lm_12_fallBy, li_12_fallBy, ls_12_fallBy, ln_12_fallBy, lc_12_fallBy⟩
theorem lo_12_fallBy : yOK yX12_fallBy 5 := by decide +kernel
theorem lm_11_at : Cond.methodLink RL 63 yX11_at ∈ W0 := w0_m (a := tables_1_4) 30 rfl tb_4 rfl
theorem li_11_at : Cond.instanceMethod yX11_at ∈ W0 := w0_m (a := tables_1_4) 31 rfl tb_4 rfl
theorem ls_11_at : Cond.selects RX11 yX11_at yX11_at ∈ W0 := w0_m (a := tables_1_4) 32 rfl tb_4 rfl
theorem ln_11_at : Cond.initialized RX11 ∈ W0 := w0_m (a := tables_1_1) 1 rfl tb_1 rfl
theorem lc_11_at : Cond.code yX11_at cX11_at 7 (some .int) ∈ W0 := w0_m (a := tables_1_4) 33 rfl tb_4 rfl
theorem lk_11_at : cV RL 63 RX11 yX11_at cX11_at 7 (some .int) := ⟨lm_11_at, li_11_at, ls_11_at, ln_11_at, lc_11_at⟩
theorem lo_11_at : yOK yX11_at 5 := by decide +kernel
theorem lm_12_at : Cond.methodLink RL 66 yX12_at ∈ W0 := w0_m (a := tables_1_6) 212 rfl tb_6 rfl
theorem li_12_at : Cond.instanceMethod yX12_at ∈ W0 := w0_m (a := tables_1_6) 213 rfl tb_6 rfl
theorem ls_12_at : Cond.selects RX12 yX12_at yX12_at ∈ W0 := w0_m (a := tables_1_6) 214 rfl tb_6 rfl
theorem ln_12_at : Cond.initialized RX12 ∈ W0 := w0_m (a := tables_1_1) 6 rfl tb_1 rfl
theorem lc_12_at : Cond.code yX12_at cX12_at 7 (some .int) ∈ W0 := w0_m (a := tables_1_6) 215 rfl tb_6 rfl
theorem lk_12_at : cV RL 66 RX12 yX12_at cX12_at 7 (some .int) := ⟨lm_12_at, li_12_at, ls_12_at, ln_12_at, lc_12_at⟩
theorem lo_12_at : yOK yX12_at 5 := by decide +kernel
theorem lm_11_mean : Cond.methodLink RL 67 yX11_mean ∈ W0 := w0_m (a := tables_1_4) 35 rfl tb_4 rfl
theorem li_11_mean : Cond.instanceMethod yX11_mean ∈ W0 := w0_m (a := tables_1_4) 36 rfl tb_4 rfl
theorem ls_11_mean : Cond.selects RX11 yX11_mean yX11_mean ∈ W0 := w0_m (a := tables_1_4) 37 rfl tb_4 rfl
theorem ln_11_mean : Cond.initialized RX11 ∈ W0 := w0_m (a := tables_1_1) 1 rfl tb_1 rfl
theorem lc_11_mean : Cond.code yX11_mean cX11_mean 9 (some .int) ∈ W0 := w0_m (a := tables_1_4) 38 rfl tb_4 rfl
theorem lk_11_mean : cV RL 67 RX11 yX11_mean cX11_mean 9 (some .int) := ⟨lm_11_mean, li_11_mean, ls_11_mean, ln_11_mean, lc_11_mean⟩
theorem lo_11_mean : yOK yX11_mean 4 := by decide +kernel
theorem lm_12_mean : Cond.methodLink RL 71 yX12_mean ∈ W0 := w0_m (a := tables_1_6) 217 rfl tb_6 rfl
theorem li_12_mean : Cond.instanceMethod yX12_mean ∈ W0 := w0_m (a := tables_1_6) 218 rfl tb_6 rfl
theorem ls_12_mean : Cond.selects RX12 yX12_mean yX12_mean ∈ W0 := w0_m (a := tables_1_6) 219 rfl tb_6 rfl
theorem ln_12_mean : Cond.initialized RX12 ∈ W0 := w0_m (a := tables_1_1) 6 rfl tb_1 rfl
theorem lc_12_mean : Cond.code yX12_mean cX12_mean 6 (some .int) ∈ W0 := w0_m (a := tables_1_6) 220 rfl tb_6 rfl
theorem lk_12_mean : cV RL 71 RX12 yX12_mean cX12_mean 6 (some .int) := ⟨lm_12_mean, li_12_mean, ls_12_mean, ln_12_mean, lc_12_mean⟩
theorem lo_12_mean : yOK yX12_mean 4 := by decide +kernel
theorem lm_11_exit : Cond.methodLink RL 72 yX11_exit ∈ W0 := w0_m (a := tables_1_4) 43 rfl tb_4 rfl
theorem li_11_exit : Cond.instanceMethod yX11_exit ∈ W0 := w0_m (a := tables_1_4) 44 rfl tb_4 rfl
theorem ls_11_exit : Cond.selects RX11 yX11_exit yX11_exit ∈ W0 := w0_m (a := tables_1_4) 45 rfl tb_4 rfl
theorem ln_11_exit : Cond.initialized RX11 ∈ W0 := w0_m (a := tables_1_1) 1 rfl tb_1 rfl
theorem lc_11_exit : Cond.code yX11_exit cX11_exit 10 (some .int) ∈ W0 := w0_m (a := tables_1_4) 46 rfl tb_4 rfl
theorem lk_11_exit : cV RL 72 RX11 yX11_exit cX11_exit 10 (some .int) := ⟨lm_11_exit, li_11_exit, ls_11_exit, ln_11_exit, lc_11_exit⟩
theorem lo_11_exit : yOK yX11_exit 2 := by decide +kernel
theorem lm_12_exit : Cond.methodLink RL 75 yX12_exit ∈ W0 := w0_m (a := tables_1_6) 221 rfl tb_6 rfl
theorem li_12_exit : Cond.instanceMethod yX12_exit ∈ W0 := w0_m (a := tables_1_6) 222 rfl tb_6 rfl
theorem ls_12_exit : Cond.selects RX12 yX12_exit yX12_exit ∈ W0 := w0_m (a := tables_1_6) 223 rfl tb_6 rfl
theorem ln_12_exit : Cond.initialized RX12 ∈ W0 := w0_m (a := tables_1_1) 6 rfl tb_1 rfl
theorem lc_12_exit : Cond.code yX12_exit cX12_exit 8 (some .int) ∈ W0 := w0_m (a := tables_1_6) 224 rfl tb_6 rfl
theorem lk_12_exit : cV RL 75 RX12 yX12_exit cX12_exit 8 (some .int) := ⟨lm_12_exit, li_12_exit, ls_12_exit, ln_12_exit, lc_12_exit⟩
theorem lo_12_exit : yOK yX12_exit 2 := by decide +kernel
theorem lm_11_load : Cond.methodLink RL 76 yX11_load ∈ W0 := w0_m (a := tables_1_4) 54 rfl tb_4 rfl
theorem li_11_load : Cond.instanceMethod yX11_load ∈ W0 := w0_m (a := tables_1_4) 55 rfl tb_4 rfl
theorem ls_11_load : Cond.selects RX11 yX11_load yX11_load ∈ W0 := w0_m (a := tables_1_4) 56 rfl tb_4 rfl
theorem ln_11_load : Cond.initialized RX11 ∈ W0 := w0_m (a := tables_1_1) 1 rfl tb_1 rfl
theorem lc_11_load : Cond.code yX11_load cX11_load 8 (some .int) ∈ W0 := w0_m (a := tables_1_4) 57 rfl tb_4 rfl
theorem lk_11_load : cV RL 76 RX11 yX11_load cX11_load 8 (some .int) := ⟨lm_11_load, li_11_load, ls_11_load, ln_11_load, lc_11_load⟩
theorem lo_11_load : yOK yX11_load 5 := by decide +kernel
theorem lm_12_load : Cond.methodLink RL 79 yX12_load ∈ W0 := w0_m (a := tables_1_6) 225 rfl tb_6 rfl
theorem li_12_load : Cond.instanceMethod yX12_load ∈ W0 := w0_m (a := tables_1_6) 226 rfl tb_6 rfl
theorem ls_12_load : Cond.selects RX12 yX12_load yX12_load ∈ W0 := w0_m (a := tables_1_6) 227 rfl tb_6 rfl
theorem ln_12_load : Cond.initialized RX12 ∈ W0 := w0_m (a := tables_1_1) 6 rfl tb_1 rfl
theorem lc_12_load : Cond.code yX12_load cX12_load 7 (some .int) ∈ W0 := w0_m (a := tables_1_6) 228 rfl tb_6 rfl
theorem lk_12_load : cV RL 79 RX12 yX12_load cX12_load 7 (some .int) := ⟨lm_12_load, li_12_load, ls_12_load, ln_12_load, lc_12_load⟩
theorem lo_12_load : yOK yX12_load 5 := by decide +kernel
theorem lm_11_bestLoad : Cond.methodLink RL 80 yX11_bestLoad ∈ W0 := w0_m (a := tables_1_4) 72 rfl tb_4 rfl
theorem li_11_bestLoad : Cond.instanceMethod yX11_bestLoad ∈ W0 := w0_m (a := tables_1_4) 73 rfl tb_4 rfl
theorem ls_11_bestLoad : Cond.selects RX11 yX11_bestLoad yX11_bestLoad ∈ W0 := w0_m (a := tables_1_4) 74 rfl tb_4 rfl
theorem ln_11_bestLoad : Cond.initialized RX11 ∈ W0 := w0_m (a := tables_1_1) 1 rfl tb_1 rfl
theorem lc_11_bestLoad : Cond.code yX11_bestLoad cX11_bestLoad 13 (some .int) ∈ W0 := w0_m (a := tables_1_4) 75 rfl tb_4 rfl
theorem lk_11_bestLoad : cV RL 80 RX11 yX11_bestLoad cX11_bestLoad 13 (some .int) := ⟨lm_11_bestLoad, li_11_bestLoad, ls_11_bestLoad, ln_11_bestLoad, lc_11_bestLoad⟩
theorem lo_11_bestLoad : yOK yX11_bestLoad 4 := by decide +kernel
theorem lm_12_bestLoad : Cond.methodLink RL 83 yX12_bestLoad ∈ W0 := w0_m (a := tables_1_7) 0 rfl tb_7 rfl
theorem li_12_bestLoad : Cond.instanceMethod yX12_bestLoad ∈ W0 := w0_m (a := tables_1_7) 1 rfl tb_7 rfl
theorem ls_12_bestLoad : Cond.selects RX12 yX12_bestLoad yX12_bestLoad ∈ W0 := w0_m (a := tables_1_7) 2 rfl tb_7 rfl
theorem ln_12_bestLoad : Cond.initialized RX12 ∈ W0 := w0_m (a := tables_1_1) 6 rfl tb_1 rfl
theorem lc_12_bestLoad : Cond.code yX12_bestLoad cX12_bestLoad 12 (some .int) ∈ W0 := w0_m (a := tables_1_7) 3 rfl tb_7 rfl
theorem lk_12_bestLoad : cV RL 83 RX12 yX12_bestLoad cX12_bestLoad 12 (some .int) := ⟨lm_12_bestLoad, li_12_bestLoad, ls_12_bestLoad, ln_12_bestLoad, lc_12_bestLoad⟩
theorem lo_12_bestLoad : yOK yX12_bestLoad 4 := by decide +kernel
theorem lm_11_order : Cond.methodLink RL 84 yX11_order ∈ W0 := w0_m (a := tables_1_4) 77 rfl tb_4 rfl
theorem li_11_order : Cond.instanceMethod yX11_order ∈ W0 := w0_m (a := tables_1_4) 78 rfl tb_4 rfl
theorem ls_11_order : Cond.selects RX11 yX11_order yX11_order ∈ W0 := w0_m (a := tables_1_4) 79 rfl tb_4 rfl
theorem ln_11_order : Cond.initialized RX11 ∈ W0 := w0_m (a := tables_1_1) 1 rfl tb_1 rfl
theorem lc_11_order : Cond.code yX11_order cX11_order 14 (some .int) ∈ W0 := w0_m (a := tables_1_4) 80 rfl tb_4 rfl
theorem lk_11_order : cV RL 84 RX11 yX11_order cX11_order 14 (some .int) := ⟨lm_11_order, li_11_order, ls_11_order, ln_11_order, lc_11_order⟩
theorem lo_11_order : yOK yX11_order 5 := by decide +kernel
theorem lm_12_order : Cond.methodLink RL 87 yX12_order ∈ W0 := w0_m (a := tables_1_7) 5 rfl tb_7 rfl
theorem li_12_order : Cond.instanceMethod yX12_order ∈ W0 := w0_m (a := tables_1_7) 6 rfl tb_7 rfl
theorem ls_12_order : Cond.selects RX12 yX12_order yX12_order ∈ W0 := w0_m (a := tables_1_7) 7 rfl tb_7 rfl
theorem ln_12_order : Cond.initialized RX12 ∈ W0 := w0_m (a := tables_1_1) 6 rfl tb_1 rfl
theorem lc_12_order : Cond.code yX12_order cX12_order 10 (some .int) ∈ W0 := w0_m (a := tables_1_7) 8 rfl tb_7 rfl
theorem lk_12_order : cV RL 87 RX12 yX12_order cX12_order 10 (some .int) := ⟨lm_12_order, li_12_order, ls_12_order, ln_12_order, lc_12_order⟩
theorem lo_12_order : yOK yX12_order 5 := by decide +kernel
theorem lm_11_cone : Cond.methodLink RL 88 yX11_cone ∈ W0 := w0_m (a := tables_1_4) 102 rfl tb_4 rfl
theorem li_11_cone : Cond.instanceMethod yX11_cone ∈ W0 := w0_m (a := tables_1_4) 103 rfl tb_4 rfl
theorem ls_11_cone : Cond.selects RX11 yX11_cone yX11_cone ∈ W0 := w0_m (a := tables_1_4) 104 rfl tb_4 rfl
theorem ln_11_cone : Cond.initialized RX11 ∈ W0 := w0_m (a := tables_1_1) 1 rfl tb_1 rfl
theorem lc_11_cone : Cond.code yX11_cone cX11_cone 8 (some .int) ∈ W0 := w0_m (a := tables_1_4) 105 rfl tb_4 rfl
theorem lk_11_cone : cV RL 88 RX11 yX11_cone cX11_cone 8 (some .int) := ⟨lm_11_cone, li_11_cone, ls_11_cone, ln_11_cone, lc_11_cone⟩
theorem lo_11_cone : yOK yX11_cone 3 := by decide +kernel
theorem lm_12_cone : Cond.methodLink RL 92 yX12_cone ∈ W0 := w0_m (a := tables_1_7) 13 rfl tb_7 rfl
theorem li_12_cone : Cond.instanceMethod yX12_cone ∈ W0 := w0_m (a := tables_1_7) 14 rfl tb_7 rfl
theorem ls_12_cone : Cond.selects RX12 yX12_cone yX12_cone ∈ W0 := w0_m (a := tables_1_7) 15 rfl tb_7 rfl
theorem ln_12_cone : Cond.initialized RX12 ∈ W0 := w0_m (a := tables_1_1) 6 rfl tb_1 rfl
theorem lc_12_cone : Cond.code yX12_cone cX12_cone 7 (some .int) ∈ W0 := w0_m (a := tables_1_7) 16 rfl tb_7 rfl
theorem lk_12_cone : cV RL 92 RX12 yX12_cone cX12_cone 7 (some .int) := ⟨lm_12_cone, li_12_cone, ls_12_cone, ln_12_cone, lc_12_cone⟩
theorem lo_12_cone : yOK yX12_cone 3 := by decide +kernel
theorem lm_11_steering : Cond.methodLink RL 93 yX11_steering ∈ W0 := w0_m (a := tables_1_4) 110 rfl tb_4 rfl
theorem li_11_steering : Cond.instanceMethod yX11_steering ∈ W0 := w0_m (a := tables_1_4) 111 rfl tb_4 rfl
theorem ls_11_steering : Cond.selects RX11 yX11_steering yX11_steering ∈ W0 := w0_m (a := tables_1_4) 112 rfl tb_4 rfl
theorem ln_11_steering : Cond.initialized RX11 ∈ W0 := w0_m (a := tables_1_1) 1 rfl tb_1 rfl
theorem lc_11_steering : Cond.code yX11_steering cX11_steering 10 (some .int) ∈ W0 := w0_m (a := tables_1_4) 113 rfl tb_4 rfl
theorem lk_11_steering : cV RL 93 RX11 yX11_steering cX11_steering 10 (some .int) := ⟨lm_11_steering, li_11_steering, ls_11_steering, ln_11_steering, lc_11_steering⟩
theorem lo_11_steering : yOK yX11_steering 4 := by decide +kernel
theorem lm_12_steering : Cond.methodLink RL 96 yX12_steering ∈ W0 := w0_m (a := tables_1_7) 17 rfl tb_7 rfl
theorem li_12_steering : Cond.instanceMethod yX12_steering ∈ W0 := w0_m (a := tables_1_7) 18 rfl tb_7 rfl
theorem ls_12_steering : Cond.selects RX12 yX12_steering yX12_steering ∈ W0 := w0_m (a := tables_1_7) 19 rfl tb_7 rfl
theorem ln_12_steering : Cond.initialized RX12 ∈ W0 := w0_m (a := tables_1_1) 6 rfl tb_1 rfl
theorem lc_12_steering : Cond.code yX12_steering cX12_steering 8 (some .int) ∈ W0 := w0_m (a := tables_1_7) 20 rfl tb_7 rfl
theorem lk_12_steering : cV RL 96 RX12 yX12_steering cX12_steering 8 (some .int) := ⟨lm_12_steering, li_12_steering, ls_12_steering, ln_12_steering, lc_12_steering⟩
theorem lo_12_steering : yOK yX12_steering 4 := by decide +kernel
theorem lm_11_last : Cond.methodLink RL 97 yX11_last ∈ W0 := w0_m (a := tables_1_4) 120 rfl tb_4 rfl
theorem li_11_last : Cond.instanceMethod yX11_last ∈ W0 := w0_m (a := tables_1_4) 121 rfl tb_4 rfl
theorem ls_11_last : Cond.selects RX11 yX11_last yX11_last ∈ W0 := w0_m (a := tables_1_4) 122 rfl tb_4 rfl
theorem ln_11_last : Cond.initialized RX11 ∈ W0 := w0_m (a := tables_1_1) 1 rfl tb_1 rfl
theorem lc_11_last : Cond.code yX11_last cX11_last 5 (some .int) ∈ W0 := w0_m (a := tables_1_4) 123 rfl tb_4 rfl
theorem lk_11_last : cV RL 97 RX11 yX11_last cX11_last 5 (some .int) := ⟨lm_11_last, li_11_last, ls_11_last, ln_11_last, lc_11_last⟩
theorem lo_11_last : yOK yX11_last 1 := by decide +kernel
theorem lm_12_last : Cond.methodLink RL 100 yX12_last ∈ W0 := w0_m (a := tables_1_7) 21 rfl tb_7 rfl
theorem li_12_last : Cond.instanceMethod yX12_last ∈ W0 := w0_m (a := tables_1_7) 22 rfl tb_7 rfl
theorem ls_12_last : Cond.selects RX12 yX12_last yX12_last ∈ W0 := w0_m (a := tables_1_7) 23 rfl tb_7 rfl
theorem ln_12_last : Cond.initialized RX12 ∈ W0 := w0_m (a := tables_1_1) 6 rfl tb_1 rfl
theorem lc_12_last : Cond.code yX12_last cX12_last 4 (some .int) ∈ W0 := w0_m (a := tables_1_7) 24 rfl tb_7 rfl
theorem lk_12_last : cV RL 100 RX12 yX12_last cX12_last 4 (some .int) := ⟨lm_12_last, li_12_last, ls_12_last, ln_12_last, lc_12_last⟩
theorem lo_12_last : yOK yX12_last 1 := by decide +kernel
theorem lm_11_safe : Cond.methodLink RL 101 yX11_safe ∈ W0 := w0_m (a := tables_1_4) 124 rfl tb_4 rfl
theorem li_11_safe : Cond.instanceMethod yX11_safe ∈ W0 := w0_m (a := tables_1_4) 125 rfl tb_4 rfl
theorem ls_11_safe : Cond.selects RX11 yX11_safe yX11_safe ∈ W0 := w0_m (a := tables_1_4) 126 rfl tb_4 rfl
theorem ln_11_safe : Cond.initialized RX11 ∈ W0 := w0_m (a := tables_1_1) 1 rfl tb_1 rfl
theorem lc_11_safe : Cond.code yX11_safe cX11_safe 9 (some .int) ∈ W0 := w0_m (a := tables_1_4) 127 rfl tb_4 rfl
theorem lk_11_safe : cV RL 101 RX11 yX11_safe cX11_safe 9 (some .int) := ⟨lm_11_safe, li_11_safe, ls_11_safe, ln_11_safe, lc_11_safe⟩
theorem lo_11_safe : yOK yX11_safe 3 := by decide +kernel
theorem lm_12_safe : Cond.methodLink RL 104 yX12_safe ∈ W0 := w0_m (a := tables_1_7) 25 rfl tb_7 rfl
theorem li_12_safe : Cond.instanceMethod yX12_safe ∈ W0 := w0_m (a := tables_1_7) 26 rfl tb_7 rfl
theorem ls_12_safe : Cond.selects RX12 yX12_safe yX12_safe ∈ W0 := w0_m (a := tables_1_7) 27 rfl tb_7 rfl
theorem ln_12_safe : Cond.initialized RX12 ∈ W0 := w0_m (a := tables_1_1) 6 rfl tb_1 rfl
theorem lc_12_safe : Cond.code yX12_safe cX12_safe 10 (some .int) ∈ W0 := w0_m (a := tables_1_7) 28 rfl tb_7 rfl
theorem lk_12_safe : cV RL 104 RX12 yX12_safe cX12_safe 10 (some .int) := ⟨lm_12_safe, li_12_safe, ls_12_safe, ln_12_safe, lc_12_safe⟩
theorem lo_12_safe : yOK yX12_safe 3 := by decide +kernel
theorem lm_11_within : Cond.methodLink RL 105 yX11_within ∈ W0 := w0_m (a := tables_1_4) 130 rfl tb_4 rfl
theorem li_11_within : Cond.instanceMethod yX11_within ∈ W0 := w0_m (a := tables_1_4) 131 rfl tb_4 rfl
theorem ls_11_within : Cond.selects RX11 yX11_within yX11_within ∈ W0 := w0_m (a := tables_1_4) 132 rfl tb_4 rfl
theorem ln_11_within : Cond.initialized RX11 ∈ W0 := w0_m (a := tables_1_1) 1 rfl tb_1 rfl
theorem lc_11_within : Cond.code yX11_within cX11_within 8 (some .int) ∈ W0 := w0_m (a := tables_1_4) 133 rfl tb_4 rfl
theorem lk_11_within : cV RL 105 RX11 yX11_within cX11_within 8 (some .int) := ⟨lm_11_within, li_11_within, ls_11_within, ln_11_within, lc_11_within⟩
theorem lo_11_within : yOK yX11_within 6 := by decide +kernel
theorem lm_12_within : Cond.methodLink RL 109 yX12_within ∈ W0 := w0_m (a := tables_1_7) 30 rfl tb_7 rfl
theorem li_12_within : Cond.instanceMethod yX12_within ∈ W0 := w0_m (a := tables_1_7) 31 rfl tb_7 rfl
theorem ls_12_within : Cond.selects RX12 yX12_within yX12_within ∈ W0 := w0_m (a := tables_1_7) 32 rfl tb_7 rfl
theorem ln_12_within : Cond.initialized RX12 ∈ W0 := w0_m (a := tables_1_1) 6 rfl tb_1 rfl
theorem lc_12_within : Cond.code yX12_within cX12_within 7 (some .int) ∈ W0 := w0_m (a := tables_1_7) 33 rfl tb_7 rfl
theorem lk_12_within : cV RL 109 RX12 yX12_within cX12_within 7 (some .int) := ⟨lm_12_within, li_12_within, ls_12_within, ln_12_within, lc_12_within⟩
theorem lo_12_within : yOK yX12_within 6 := by decide +kernel
theorem lm_11_stop : Cond.methodLink RL 110 yX11_stop ∈ W0 := w0_m (a := tables_1_4) 138 rfl tb_4 rfl
theorem li_11_stop : Cond.instanceMethod yX11_stop ∈ W0 := w0_m (a := tables_1_4) 139 rfl tb_4 rfl
theorem ls_11_stop : Cond.selects RX11 yX11_stop yX11_stop ∈ W0 := w0_m (a := tables_1_4) 140 rfl tb_4 rfl
theorem ln_11_stop : Cond.initialized RX11 ∈ W0 := w0_m (a := tables_1_1) 1 rfl tb_1 rfl
theorem lc_11_stop : Cond.code yX11_stop cX11_stop 9 (some .int) ∈ W0 := w0_m (a := tables_1_4) 141 rfl tb_4 rfl
theorem lk_11_stop : cV RL 110 RX11 yX11_stop cX11_stop 9 (some .int) := ⟨lm_11_stop, li_11_stop, ls_11_stop, ln_11_stop, lc_11_stop⟩
theorem lo_11_stop : yOK yX11_stop 6 := by decide +kernel
theorem lm_12_stop : Cond.methodLink RL 113 yX12_stop ∈ W0 := w0_m (a := tables_1_7) 42 rfl tb_7 rfl
theorem li_12_stop : Cond.instanceMethod yX12_stop ∈ W0 := w0_m (a := tables_1_7) 43 rfl tb_7 rfl
theorem ls_12_stop : Cond.selects RX12 yX12_stop yX12_stop ∈ W0 := w0_m (a := tables_1_7) 44 rfl tb_7 rfl
theorem ln_12_stop : Cond.initialized RX12 ∈ W0 := w0_m (a := tables_1_1) 6 rfl tb_1 rfl
theorem lc_12_stop : Cond.code yX12_stop cX12_stop 10 (some .int) ∈ W0 := w0_m (a := tables_1_7) 45 rfl tb_7 rfl
theorem lk_12_stop : cV RL 113 RX12 yX12_stop cX12_stop 10 (some .int) := ⟨lm_12_stop, li_12_stop, ls_12_stop, ln_12_stop, lc_12_stop⟩
theorem lo_12_stop : yOK yX12_stop 6 := by decide +kernel
theorem lm_11_knew : Cond.methodLink RL 114 yX11_knew ∈ W0 := w0_m (a := tables_1_4) 142 rfl tb_4 rfl
theorem li_11_knew : Cond.instanceMethod yX11_knew ∈ W0 := w0_m (a := tables_1_4) 143 rfl tb_4 rfl
theorem ls_11_knew : Cond.selects RX11 yX11_knew yX11_knew ∈ W0 := w0_m (a := tables_1_4) 144 rfl tb_4 rfl
theorem ln_11_knew : Cond.initialized RX11 ∈ W0 := w0_m (a := tables_1_1) 1 rfl tb_1 rfl
theorem lc_11_knew : Cond.code yX11_knew cX11_knew 10 (some .int) ∈ W0 := w0_m (a := tables_1_4) 145 rfl tb_4 rfl
theorem lk_11_knew : cV RL 114 RX11 yX11_knew cX11_knew 10 (some .int) := ⟨lm_11_knew, li_11_knew, ls_11_knew, ln_11_knew, lc_11_knew⟩
theorem lo_11_knew : yOK yX11_knew 4 := by decide +kernel
theorem lm_12_knew : Cond.methodLink RL 117 yX12_knew ∈ W0 := w0_m (a := tables_1_7) 46 rfl tb_7 rfl
theorem li_12_knew : Cond.instanceMethod yX12_knew ∈ W0 := w0_m (a := tables_1_7) 47 rfl tb_7 rfl
theorem ls_12_knew : Cond.selects RX12 yX12_knew yX12_knew ∈ W0 := w0_m (a := tables_1_7) 48 rfl tb_7 rfl
theorem ln_12_knew : Cond.initialized RX12 ∈ W0 := w0_m (a := tables_1_1) 6 rfl tb_1 rfl
theorem lc_12_knew : Cond.code yX12_knew cX12_knew 8 (some .int) ∈ W0 := w0_m (a := tables_1_7) 49 rfl tb_7 rfl
theorem lk_12_knew : cV RL 117 RX12 yX12_knew cX12_knew 8 (some .int) := ⟨lm_12_knew, li_12_knew, ls_12_knew, ln_12_knew, lc_12_knew⟩
theorem lo_12_knew : yOK yX12_knew 4 := by decide +kernel
theorem lm_11_two : Cond.methodLink RL 118 yX11_two ∈ W0 := w0_m (a := tables_1_4) 146 rfl tb_4 rfl
theorem li_11_two : Cond.instanceMethod yX11_two ∈ W0 := w0_m (a := tables_1_4) 147 rfl tb_4 rfl
theorem ls_11_two : Cond.selects RX11 yX11_two yX11_two ∈ W0 := w0_m (a := tables_1_4) 148 rfl tb_4 rfl
theorem ln_11_two : Cond.initialized RX11 ∈ W0 := w0_m (a := tables_1_1) 1 rfl tb_1 rfl
theorem lc_11_two : Cond.code yX11_two cX11_two 11 (some .int) ∈ W0 := w0_m (a := tables_1_4) 149 rfl tb_4 rfl
theorem lk_11_two : cV RL 118 RX11 yX11_two cX11_two 11 (some .int) := ⟨lm_11_two, li_11_two, ls_11_two, ln_11_two, lc_11_two⟩
theorem lo_11_two : yOK yX11_two 5 := by decide +kernel
theorem lm_12_two : Cond.methodLink RL 121 yX12_two ∈ W0 := w0_m (a := tables_1_7) 50 rfl tb_7 rfl
theorem li_12_two : Cond.instanceMethod yX12_two ∈ W0 := w0_m (a := tables_1_7) 51 rfl tb_7 rfl
theorem ls_12_two : Cond.selects RX12 yX12_two yX12_two ∈ W0 := w0_m (a := tables_1_7) 52 rfl tb_7 rfl
theorem ln_12_two : Cond.initialized RX12 ∈ W0 := w0_m (a := tables_1_1) 6 rfl tb_1 rfl
theorem lc_12_two : Cond.code yX12_two cX12_two 13 (some .int) ∈ W0 := w0_m (a := tables_1_7) 53 rfl tb_7 rfl
theorem lk_12_two : cV RL 121 RX12 yX12_two cX12_two 13 (some .int) := ⟨lm_12_two, li_12_two, ls_12_two, ln_12_two, lc_12_two⟩
theorem lo_12_two : yOK yX12_two 5 := by decide +kernel
theorem lm_11_habits : Cond.methodLink RL 122 yX11_habits ∈ W0 := w0_m (a := tables_1_4) 158 rfl tb_4 rfl
theorem li_11_habits : Cond.instanceMethod yX11_habits ∈ W0 := w0_m (a := tables_1_4) 159 rfl tb_4 rfl
theorem ls_11_habits : Cond.selects RX11 yX11_habits yX11_habits ∈ W0 := w0_m (a := tables_1_4) 160 rfl tb_4 rfl
theorem ln_11_habits : Cond.initialized RX11 ∈ W0 := w0_m (a := tables_1_1) 1 rfl tb_1 rfl
theorem lc_11_habits : Cond.code yX11_habits cX11_habits 11 (some .int) ∈ W0 := w0_m (a := tables_1_4) 161 rfl tb_4 rfl
theorem lk_11_habits : cV RL 122 RX11 yX11_habits cX11_habits 11 (some .int) := ⟨lm_11_habits, li_11_habits, ls_11_habits, ln_11_habits, lc_11_habits⟩
theorem lo_11_habits : yOK yX11_habits 6 := by decide +kernel
theorem lm_12_habits : Cond.methodLink RL 125 yX12_habits ∈ W0 := w0_m (a := tables_1_7) 54 rfl tb_7 rfl
theorem li_12_habits : Cond.instanceMethod yX12_habits ∈ W0 := w0_m (a := tables_1_7) 55 rfl tb_7 rfl
theorem ls_12_habits : Cond.selects RX12 yX12_habits yX12_habits ∈ W0 := w0_m (a := tables_1_7) 56 rfl tb_7 rfl
theorem ln_12_habits : Cond.initialized RX12 ∈ W0 := w0_m (a := tables_1_1) 6 rfl tb_1 rfl
theorem lc_12_habits : Cond.code yX12_habits cX12_habits 10 (some .int) ∈ W0 := w0_m (a := tables_1_7) 57 rfl tb_7 rfl
theorem lk_12_habits : cV RL 125 RX12 yX12_habits cX12_habits 10 (some .int) := ⟨lm_12_habits, li_12_habits, ls_12_habits, ln_12_habits, lc_12_habits⟩
theorem lo_12_habits : yOK yX12_habits 6 := by decide +kernel
theorem lm_11_crates : Cond.methodLink RL 126 yX11_crates ∈ W0 := w0_m (a := tables_1_4) 163 rfl tb_4 rfl
theorem li_11_crates : Cond.instanceMethod yX11_crates ∈ W0 := w0_m (a := tables_1_4) 164 rfl tb_4 rfl
theorem ls_11_crates : Cond.selects RX11 yX11_crates yX11_crates ∈ W0 := w0_m (a := tables_1_4) 165 rfl tb_4 rfl
theorem ln_11_crates : Cond.initialized RX11 ∈ W0 := w0_m (a := tables_1_1) 1 rfl tb_1 rfl
theorem lc_11_crates : Cond.code yX11_crates cX11_crates 10 (some .int) ∈ W0 := w0_m (a := tables_1_4) 166 rfl tb_4 rfl
theorem lk_11_crates : cV RL 126 RX11 yX11_crates cX11_crates 10 (some .int) := ⟨lm_11_crates, li_11_crates, ls_11_crates, ln_11_crates, lc_11_crates⟩
theorem lo_11_crates : yOK yX11_crates 4 := by decide +kernel
theorem lm_12_crates : Cond.methodLink RL 129 yX12_crates ∈ W0 := w0_m (a := tables_1_7) 60 rfl tb_7 rfl
theorem li_12_crates : Cond.instanceMethod yX12_crates ∈ W0 := w0_m (a := tables_1_7) 61 rfl tb_7 rfl
theorem ls_12_crates : Cond.selects RX12 yX12_crates yX12_crates ∈ W0 := w0_m (a := tables_1_7) 62 rfl tb_7 rfl
theorem ln_12_crates : Cond.initialized RX12 ∈ W0 := w0_m (a := tables_1_1) 6 rfl tb_1 rfl
theorem lc_12_crates : Cond.code yX12_crates cX12_crates 9 (some .int) ∈ W0 := w0_m (a := tables_1_7) 63 rfl tb_7 rfl
theorem lk_12_crates : cV RL 129 RX12 yX12_crates cX12_crates 9 (some .int) := ⟨lm_12_crates, li_12_crates, ls_12_crates, ln_12_crates, lc_12_crates⟩
theorem lo_12_crates : yOK yX12_crates 4 := by decide +kernel
theorem lm_11_judge : Cond.methodLink RL 130 yX11_judge ∈ W0 := w0_m (a := tables_1_4) 170 rfl tb_4 rfl
theorem li_11_judge : Cond.instanceMethod yX11_judge ∈ W0 := w0_m (a := tables_1_4) 171 rfl tb_4 rfl
theorem ls_11_judge : Cond.selects RX11 yX11_judge yX11_judge ∈ W0 := w0_m (a := tables_1_4) 172 rfl tb_4 rfl
theorem ln_11_judge : Cond.initialized RX11 ∈ W0 := w0_m (a := tables_1_1) 1 rfl tb_1 rfl
theorem lc_11_judge : Cond.code yX11_judge cX11_judge 9 (some .int) ∈ W0 := w0_m (a := tables_1_4) 173 rfl tb_4 rfl
theorem lk_11_judge : cV RL 130 RX11 yX11_judge cX11_judge 9 (some .int) := ⟨lm_11_judge, li_11_judge, ls_11_judge, ln_11_judge, lc_11_judge⟩
theorem lo_11_judge : yOK yX11_judge 3 := by decide +kernel
theorem lm_12_judge : Cond.methodLink RL 133 yX12_judge ∈ W0 := w0_m (a := tables_1_7) 64 rfl tb_7 rfl
theorem li_12_judge : Cond.instanceMethod yX12_judge ∈ W0 := w0_m (a := tables_1_7) 65 rfl tb_7 rfl
theorem ls_12_judge : Cond.selects RX12 yX12_judge yX12_judge ∈ W0 := w0_m (a := tables_1_7) 66 rfl tb_7 rfl
theorem ln_12_judge : Cond.initialized RX12 ∈ W0 := w0_m (a := tables_1_1) 6 rfl tb_1 rfl
theorem lc_12_judge : Cond.code yX12_judge cX12_judge 7 (some .int) ∈ W0 := w0_m (a := tables_1_7) 67 rfl tb_7 rfl
theorem lk_12_judge : cV RL 133 RX12 yX12_judge cX12_judge 7 (some .int) := ⟨lm_12_judge, li_12_judge, ls_12_judge, ln_12_judge, lc_12_judge⟩
theorem lo_12_judge : yOK yX12_judge 3 := by decide +kernel
theorem lm_11_image : Cond.methodLink RL 134 yX11_image ∈ W0 := w0_m (a := tables_1_4) 179 rfl tb_4 rfl
theorem li_11_image : Cond.instanceMethod yX11_image ∈ W0 := w0_m (a := tables_1_4) 180 rfl tb_4 rfl
theorem ls_11_image : Cond.selects RX11 yX11_image yX11_image ∈ W0 := w0_m (a := tables_1_4) 181 rfl tb_4 rfl
theorem ln_11_image : Cond.initialized RX11 ∈ W0 := w0_m (a := tables_1_1) 1 rfl tb_1 rfl
theorem lc_11_image : Cond.code yX11_image cX11_image 1 (some .int) ∈ W0 := w0_m (a := tables_1_4) 182 rfl tb_4 rfl
theorem lk_11_image : cV RL 134 RX11 yX11_image cX11_image 1 (some .int) := ⟨lm_11_image, li_11_image, ls_11_image, ln_11_image, lc_11_image⟩
theorem lo_11_image : yOK yX11_image 0 := by decide +kernel
theorem lm_12_image : Cond.methodLink RL 138 yX12_image ∈ W0 := w0_m (a := tables_1_7) 73 rfl tb_7 rfl
theorem li_12_image : Cond.instanceMethod yX12_image ∈ W0 := w0_m (a := tables_1_7) 74 rfl tb_7 rfl
theorem ls_12_image : Cond.selects RX12 yX12_image yX12_image ∈ W0 := w0_m (a := tables_1_7) 75 rfl tb_7 rfl
theorem ln_12_image : Cond.initialized RX12 ∈ W0 := w0_m (a := tables_1_1) 6 rfl tb_1 rfl
theorem lc_12_image : Cond.code yX12_image cX12_image 2 (some .int) ∈ W0 := w0_m (a := tables_1_7) 76 rfl tb_7 rfl
theorem lk_12_image : cV RL 138 RX12 yX12_image cX12_image 2 (some .int) := ⟨lm_12_image, li_12_image, ls_12_image, ln_12_image, lc_12_image⟩
theorem lo_12_image : yOK yX12_image 0 := by decide +kernel
theorem lm_11_restore : Cond.methodLink RL 139 yX11_restore ∈ W0 := w0_m (a := tables_1_4) 183 rfl tb_4 rfl
theorem li_11_restore : Cond.instanceMethod yX11_restore ∈ W0 := w0_m (a := tables_1_4) 184 rfl tb_4 rfl
theorem ls_11_restore : Cond.selects RX11 yX11_restore yX11_restore ∈ W0 := w0_m (a := tables_1_4) 185 rfl tb_4 rfl
theorem ln_11_restore : Cond.initialized RX11 ∈ W0 := w0_m (a := tables_1_1) 1 rfl tb_1 rfl
theorem lc_11_restore : Cond.code yX11_restore cX11_restore 1 (some .int) ∈ W0 := w0_m (a := tables_1_4) 186 rfl tb_4 rfl
theorem lk_11_restore : cV RL 139 RX11 yX11_restore cX11_restore 1 (some .int) := ⟨lm_11_restore, li_11_restore, ls_11_restore, ln_11_restore, lc_11_restore⟩
theorem lo_11_restore : yOK yX11_restore 0 := by decide +kernel
theorem lm_12_restore : Cond.methodLink RL 142 yX12_restore ∈ W0 := w0_m (a := tables_1_7) 77 rfl tb_7 rfl
theorem li_12_restore : Cond.instanceMethod yX12_restore ∈ W0 := w0_m (a := tables_1_7) 78 rfl tb_7 rfl
theorem ls_12_restore : Cond.selects RX12 yX12_restore yX12_restore ∈ W0 := w0_m (a := tables_1_7) 79 rfl tb_7 rfl
theorem ln_12_restore : Cond.initialized RX12 ∈ W0 := w0_m (a := tables_1_1) 6 rfl tb_1 rfl
theorem lc_12_restore : Cond.code yX12_restore cX12_restore 2 (some .int) ∈ W0 := w0_m (a := tables_1_7) 80 rfl tb_7 rfl
theorem lk_12_restore : cV RL 142 RX12 yX12_restore cX12_restore 2 (some .int) := ⟨lm_12_restore, li_12_restore, ls_12_restore, ln_12_restore, lc_12_restore⟩
theorem lo_12_restore : yOK yX12_restore 0 := by decide +kernel
theorem lm_11_count : Cond.methodLink RL 143 yX11_count ∈ W0 := w0_m (a := tables_1_4) 187 rfl tb_4 rfl
theorem li_11_count : Cond.instanceMethod yX11_count ∈ W0 := w0_m (a := tables_1_4) 188 rfl tb_4 rfl
theorem ls_11_count : Cond.selects RX11 yX11_count yX11_count ∈ W0 := w0_m (a := tables_1_4) 189 rfl tb_4 rfl
theorem ln_11_count : Cond.initialized RX11 ∈ W0 := w0_m (a := tables_1_1) 1 rfl tb_1 rfl
theorem lc_11_count : Cond.code yX11_count cX11_count 2 (some .int) ∈ W0 := w0_m (a := tables_1_4) 190 rfl tb_4 rfl
theorem lk_11_count : cV RL 143 RX11 yX11_count cX11_count 2 (some .int) := ⟨lm_11_count, li_11_count, ls_11_count, ln_11_count, lc_11_count⟩
theorem lo_11_count : yOK yX11_count 1 := by decide +kernel
theorem lm_12_count : Cond.methodLink RL 146 yX12_count ∈ W0 := w0_m (a := tables_1_7) 81 rfl tb_7 rfl
theorem li_12_count : Cond.instanceMethod yX12_count ∈ W0 := w0_m (a := tables_1_7) 82 rfl tb_7 rfl
theorem ls_12_count : Cond.selects RX12 yX12_count yX12_count ∈ W0 := w0_m (a := tables_1_7) 83 rfl tb_7 rfl
theorem ln_12_count : Cond.initialized RX12 ∈ W0 := w0_m (a := tables_1_1) 6 rfl tb_1 rfl
theorem lc_12_count : Cond.code yX12_count cX12_count 4 (some .int) ∈ W0 := w0_m (a := tables_1_7) 84 rfl tb_7 rfl
theorem lk_12_count : cV RL 146 RX12 yX12_count cX12_count 4 (some .int) := ⟨lm_12_count, li_12_count, ls_12_count, ln_12_count, lc_12_count⟩
theorem lo_12_count : yOK yX12_count 1 := by decide +kernel
theorem lm_11_keep : Cond.methodLink RL 147 yX11_keep ∈ W0 := w0_m (a := tables_1_4) 195 rfl tb_4 rfl
theorem li_11_keep : Cond.instanceMethod yX11_keep ∈ W0 := w0_m (a := tables_1_4) 196 rfl tb_4 rfl
theorem ls_11_keep : Cond.selects RX11 yX11_keep yX11_keep ∈ W0 := w0_m (a := tables_1_4) 197 rfl tb_4 rfl
theorem ln_11_keep : Cond.initialized RX11 ∈ W0 := w0_m (a := tables_1_1) 1 rfl tb_1 rfl
theorem lc_11_keep : Cond.code yX11_keep cX11_keep 6 (some .int) ∈ W0 := w0_m (a := tables_1_4) 198 rfl tb_4 rfl
theorem lk_11_keep : cV RL 147 RX11 yX11_keep cX11_keep 6 (some .int) := ⟨lm_11_keep, li_11_keep, ls_11_keep, ln_11_keep, lc_11_keep⟩
theorem lo_11_keep : yOK yX11_keep 3 := by decide +kernel
theorem lm_12_keep : Cond.methodLink RL 150 yX12_keep ∈ W0 := w0_m (a := tables_1_7) 85 rfl tb_7 rfl
theorem li_12_keep : Cond.instanceMethod yX12_keep ∈ W0 := w0_m (a := tables_1_7) 86 rfl tb_7 rfl
theorem ls_12_keep : Cond.selects RX12 yX12_keep yX12_keep ∈ W0 := w0_m (a := tables_1_7) 87 rfl tb_7 rfl
theorem ln_12_keep : Cond.initialized RX12 ∈ W0 := w0_m (a := tables_1_1) 6 rfl tb_1 rfl
theorem lc_12_keep : Cond.code yX12_keep cX12_keep 5 (some .int) ∈ W0 := w0_m (a := tables_1_7) 88 rfl tb_7 rfl
theorem lk_12_keep : cV RL 150 RX12 yX12_keep cX12_keep 5 (some .int) := ⟨lm_12_keep, li_12_keep, ls_12_keep, ln_12_keep, lc_12_keep⟩
theorem lo_12_keep : yOK yX12_keep 3 := by decide +kernel
theorem lm_11_row : Cond.methodLink RL 151 yX11_row ∈ W0 := w0_m (a := tables_1_4) 208 rfl tb_4 rfl
theorem li_11_row : Cond.instanceMethod yX11_row ∈ W0 := w0_m (a := tables_1_4) 209 rfl tb_4 rfl
theorem ls_11_row : Cond.selects RX11 yX11_row yX11_row ∈ W0 := w0_m (a := tables_1_4) 210 rfl tb_4 rfl
theorem ln_11_row : Cond.initialized RX11 ∈ W0 := w0_m (a := tables_1_1) 1 rfl tb_1 rfl
theorem lc_11_row : Cond.code yX11_row cX11_row 5 (some .int) ∈ W0 := w0_m (a := tables_1_4) 211 rfl tb_4 rfl
theorem lk_11_row : cV RL 151 RX11 yX11_row cX11_row 5 (some .int) := ⟨lm_11_row, li_11_row, ls_11_row, ln_11_row, lc_11_row⟩
theorem lo_11_row : yOK yX11_row 3 := by decide +kernel
theorem lm_12_row : Cond.methodLink RL 154 yX12_row ∈ W0 := w0_m (a := tables_1_7) 93 rfl tb_7 rfl
theorem li_12_row : Cond.instanceMethod yX12_row ∈ W0 := w0_m (a := tables_1_7) 94 rfl tb_7 rfl
theorem ls_12_row : Cond.selects RX12 yX12_row yX12_row ∈ W0 := w0_m (a := tables_1_7) 95 rfl tb_7 rfl
theorem ln_12_row : Cond.initialized RX12 ∈ W0 := w0_m (a := tables_1_1) 6 rfl tb_1 rfl
theorem lc_12_row : Cond.code yX12_row cX12_row 5 (some .int) ∈ W0 := w0_m (a := tables_1_7) 96 rfl tb_7 rfl
theorem lk_12_row : cV RL 154 RX12 yX12_row cX12_row 5 (some .int) := ⟨lm_12_row, li_12_row, ls_12_row, ln_12_row, lc_12_row⟩
theorem lo_12_row : yOK yX12_row 3 := by decide +kernel
theorem lm_11_put : Cond.methodLink RL 155 yX11_put ∈ W0 := w0_m (a := tables_1_4) 218 rfl tb_4 rfl
theorem li_11_put : Cond.instanceMethod yX11_put ∈ W0 := w0_m (a := tables_1_4) 219 rfl tb_4 rfl
theorem ls_11_put : Cond.selects RX11 yX11_put yX11_put ∈ W0 := w0_m (a := tables_1_4) 220 rfl tb_4 rfl
theorem ln_11_put : Cond.initialized RX11 ∈ W0 := w0_m (a := tables_1_1) 1 rfl tb_1 rfl
theorem lc_11_put : Cond.code yX11_put cX11_put 6 (some .int) ∈ W0 := w0_m (a := tables_1_4) 221 rfl tb_4 rfl
theorem lk_11_put : cV RL 155 RX11 yX11_put cX11_put 6 (some .int) := ⟨lm_11_put, li_11_put, ls_11_put, ln_11_put, lc_11_put⟩
theorem lo_11_put : yOK yX11_put 3 := by decide +kernel
theorem lm_12_put : Cond.methodLink RL 158 yX12_put ∈ W0 := w0_m (a := tables_1_7) 97 rfl tb_7 rfl
theorem li_12_put : Cond.instanceMethod yX12_put ∈ W0 := w0_m (a := tables_1_7) 98 rfl tb_7 rfl
theorem ls_12_put : Cond.selects RX12 yX12_put yX12_put ∈ W0 := w0_m (a := tables_1_7) 99 rfl tb_7 rfl
theorem ln_12_put : Cond.initialized RX12 ∈ W0 := w0_m (a := tables_1_1) 6 rfl tb_1 rfl
theorem lc_12_put : Cond.code yX12_put cX12_put 5 (some .int) ∈ W0 := w0_m (a := tables_1_7) 100 rfl tb_7 rfl
theorem lk_12_put : cV RL 158 RX12 yX12_put cX12_put 5 (some .int) := ⟨lm_12_put, li_12_put, ls_12_put, ln_12_put, lc_12_put⟩
theorem lo_12_put : yOK yX12_put 3 := by decide +kernel
theorem lm_12_element : Cond.methodLink RL 164 yX12_element ∈ W0 := w0_m (a := tables_1_7) 101 rfl tb_7 rfl
theorem li_12_element : Cond.instanceMethod yX12_element ∈ W0 := w0_m (a := tables_1_7) 102 rfl tb_7 rfl
theorem ls_12_element : Cond.selects RX12 yX12_element yX12_element ∈ W0 := w0_m (a := tables_1_7) 103 rfl tb_7 rfl
theorem ln_12_element : Cond.initialized RX12 ∈ W0 := w0_m (a := tables_1_1) 6 rfl tb_1 rfl
theorem lc_12_element : Cond.code yX12_element cX12_element 3 (some .long) ∈ W0 := w0_m (a := tables_1_7) 104 rfl tb_7 rfl
theorem lk_12_element : cV RL 164 RX12 yX12_element cX12_element 3 (some .long) := ⟨lm_12_element, li_12_element, ls_12_element, ln_12_element, lc_12_element⟩
theorem lo_12_element : yOK yX12_element 2 := by decide +kernel
theorem lm_11_copy : Cond.methodLink RL 168 yX11_copy ∈ W0 := w0_m (a := tables_1_4) 227 rfl tb_4 rfl
theorem li_11_copy : Cond.instanceMethod yX11_copy ∈ W0 := w0_m (a := tables_1_4) 228 rfl tb_4 rfl
theorem ls_11_copy : Cond.selects RX11 yX11_copy yX11_copy ∈ W0 := w0_m (a := tables_1_4) 229 rfl tb_4 rfl
theorem ln_11_copy : Cond.initialized RX11 ∈ W0 := w0_m (a := tables_1_1) 1 rfl tb_1 rfl
theorem lc_11_copy : Cond.code yX11_copy cX11_copy 8 (some .int) ∈ W0 := w0_m (a := tables_1_4) 230 rfl tb_4 rfl
theorem lk_11_copy : cV RL 168 RX11 yX11_copy cX11_copy 8 (some .int) := ⟨lm_11_copy, li_11_copy, ls_11_copy, ln_11_copy, lc_11_copy⟩
theorem lo_11_copy : yOK yX11_copy 5 := by decide +kernel
theorem lm_12_copy : Cond.methodLink RL 171 yX12_copy ∈ W0 := w0_m (a := tables_1_7) 105 rfl tb_7 rfl
theorem li_12_copy : Cond.instanceMethod yX12_copy ∈ W0 := w0_m (a := tables_1_7) 106 rfl tb_7 rfl
theorem ls_12_copy : Cond.selects RX12 yX12_copy yX12_copy ∈ W0 := w0_m (a := tables_1_7) 107 rfl tb_7 rfl
theorem ln_12_copy : Cond.initialized RX12 ∈ W0 := w0_m (a := tables_1_1) 6 rfl tb_1 rfl
theorem lc_12_copy : Cond.code yX12_copy cX12_copy 8 (some .int) ∈ W0 := w0_m (a := tables_1_7) 108 rfl tb_7 rfl
theorem lk_12_copy : cV RL 171 RX12 yX12_copy cX12_copy 8 (some .int) := ⟨lm_12_copy, li_12_copy, ls_12_copy, ln_12_copy, lc_12_copy⟩
theorem lo_12_copy : yOK yX12_copy 5 := by decide +kernel
theorem lm_11_care : Cond.methodLink RL 172 yX11_care ∈ W0 := w0_m (a := tables_1_4) 232 rfl tb_4 rfl
theorem li_11_care : Cond.instanceMethod yX11_care ∈ W0 := w0_m (a := tables_1_4) 233 rfl tb_4 rfl
theorem ls_11_care : Cond.selects RX11 yX11_care yX11_care ∈ W0 := w0_m (a := tables_1_4) 234 rfl tb_4 rfl
theorem ln_11_care : Cond.initialized RX11 ∈ W0 := w0_m (a := tables_1_1) 1 rfl tb_1 rfl
theorem lc_11_care : Cond.code yX11_care cX11_care 4 (some .int) ∈ W0 := w0_m (a := tables_1_4) 235 rfl tb_4 rfl
theorem lk_11_care : cV RL 172 RX11 yX11_care cX11_care 4 (some .int) := ⟨lm_11_care, li_11_care, ls_11_care, ln_11_care, lc_11_care⟩
theorem lo_11_care : yOK yX11_care 1 := by decide +kernel
theorem lm_12_care : Cond.methodLink RL 175 yX12_care ∈ W0 := w0_m (a := tables_1_7) 109 rfl tb_7 rfl
theorem li_12_care : Cond.instanceMethod yX12_care ∈ W0 := w0_m (a := tables_1_7) 110 rfl tb_7 rfl
theorem ls_12_care : Cond.selects RX12 yX12_care yX12_care ∈ W0 := w0_m (a := tables_1_7) 111 rfl tb_7 rfl
theorem ln_12_care : Cond.initialized RX12 ∈ W0 := w0_m (a := tables_1_1) 6 rfl tb_1 rfl
theorem lc_12_care : Cond.code yX12_care cX12_care 3 (some .int) ∈ W0 := w0_m (a := tables_1_7) 112 rfl tb_7 rfl
theorem lk_12_care : cV RL 175 RX12 yX12_care cX12_care 3 (some .int) := ⟨lm_12_care, li_12_care, ls_12_care, ln_12_care, lc_12_care⟩
theorem lo_12_care : yOK yX12_care 1 := by decide +kernel
theorem lm_11_toss : Cond.methodLink RL 176 yX11_toss ∈ W0 := w0_m (a := tables_1_4) 236 rfl tb_4 rfl
theorem li_11_toss : Cond.instanceMethod yX11_toss ∈ W0 := w0_m (a := tables_1_4) 237 rfl tb_4 rfl
theorem ls_11_toss : Cond.selects RX11 yX11_toss yX11_toss ∈ W0 := w0_m (a := tables_1_4) 238 rfl tb_4 rfl
theorem ln_11_toss : Cond.initialized RX11 ∈ W0 := w0_m (a := tables_1_1) 1 rfl tb_1 rfl
theorem lo_11_toss : yOK yX11_toss 1 := by decide +kernel
theorem lm_12_toss : Cond.methodLink RL 179 yX12_toss ∈ W0 := w0_m (a := tables_1_7) 117 rfl tb_7 rfl
theorem li_12_toss : Cond.instanceMethod yX12_toss ∈ W0 := w0_m (a := tables_1_7) 118 rfl tb_7 rfl
theorem ls_12_toss : Cond.selects RX12 yX12_toss yX12_toss ∈ W0 := w0_m (a := tables_1_7) 119 rfl tb_7 rfl
theorem ln_12_toss : Cond.initialized RX12 ∈ W0 := w0_m (a := tables_1_1) 6 rfl tb_1 rfl
theorem lc_12_toss : Cond.code yX12_toss cX12_toss 3 (some .int) ∈ W0 := w0_m (a := tables_1_7) 120 rfl tb_7 rfl
theorem lk_12_toss : cV RL 179 RX12 yX12_toss cX12_toss 3 (some .int) := ⟨lm_12_toss, li_12_toss, ls_12_toss, ln_12_toss, lc_12_toss⟩
theorem lo_12_toss : yOK yX12_toss 1 := by decide +kernel
theorem lm_12_thrown : Cond.methodLink RL 165 yX12_thrown ∈ W0 := w0_m (a := tables_1_6) 9 rfl tb_6 rfl
theorem li_12_thrown : Cond.instanceMethod yX12_thrown ∈ W0 := w0_m (a := tables_1_6) 10 rfl tb_6 rfl
theorem ls_12_thrown : Cond.selects RX12 yX12_thrown yX12_thrown ∈ W0 := w0_m (a := tables_1_6) 11 rfl tb_6 rfl
theorem ln_12_thrown : Cond.initialized RX12 ∈ W0 := w0_m (a := tables_1_1) 6 rfl tb_1 rfl
theorem lc_12_thrown : Cond.code yX12_thrown cX12_thrown 1 (some .int) ∈ W0 := w0_m (a := tables_1_6) 12 rfl tb_6 rfl
theorem lk_12_thrown : cV RL 165 RX12 yX12_thrown cX12_thrown 1 (some .int) := ⟨lm_12_thrown, li_12_thrown, ls_12_thrown, ln_12_thrown, lc_12_thrown⟩
theorem lo_12_thrown : yOK yX12_thrown 0 := by decide +kernel
