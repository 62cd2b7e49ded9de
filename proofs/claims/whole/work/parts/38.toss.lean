/-! toss: FAILURES are thrown and caught -/
def MIW (l : Launch) (D : va_G) (ad : Nat → Nat → Nat) (cs : Nat → ClassId) (sk : (Nat → Nat) × (Nat → Nat)) (y : MethodName) (bs : ByteArray) (n : Nat) (hh : List (Nat × Nat × Nat × Nat)) (rm : Room) (vs : List Value) (z : ZS) (post : Int32 → ZS → Prop) : Prop :=
  ∀ (A : Nat → Prop) (sz : Nat), (∀ q, sz ≤ q → A q) → Met l y (.codeWith y bs n (some .int) hh :: W0) rm (PP D ad cs A sk sz z vs) (va_Qi post (BB D ad cs A) A) rm.cells rm.slots A
theorem MIW.of {l : Launch} {D : va_G} {ad : Nat → Nat → Nat} {cs : Nat → ClassId} {sk : (Nat → Nat) × (Nat → Nat)} {y : MethodName} {bs : ByteArray} {n : Nat} {hh : List (Nat × Nat × Nat × Nat)} {rm : Room} {vs : List Value} {z : ZS} {post : Int32 → ZS → Prop} (own : String) (ho : y.cls = own) (hy : plainName y.cls = true) (hl : (lg_sl vs).length ≤ n)
    (body : ∀ (p : Program) (e : Env) (s : State) (m : MethodId) (args : Array Value) (below : List Frame) (meth : Method) (c : Code) (A : Nat → Prop) (Q : State → Prop), EN p m c bs n s args own D cs A sk → OW D ad cs A s.heap z s.heap [] → (∀ q, s.heap.size ≤ q → A q) → c.exceptionTable.toList = tableOf hh → (∀ (v : Int32) (z1 : ZS) (H : Heap) (locs : List Loc) (pc : Nat) (ls : Array Slot), OW D ad cs A s.heap z1 H locs → post v z1 → decode bs pc = .ok (.ireturn, 1) → W p l e rm s m args below meth c H locs rm.cells rm.slots Q (F0 m pc ls [.int v])) → ∀ ls : Array Slot, lv_has ls n (lv_args 0 vs) → W p l e rm s m args below meth c s.heap [] 0 0 Q (F0 m 0 ls [])) : MIW l D ad cs sk y bs n hh rm vs z post := by
  subst ho
  intro A sz hA
  refine va_MetW (cc := bs) (maxL := n) (ret := some .int) (hh := hh) hy rfl ?_
  intro p e s m args below meth c s₁ B hml hv
  obtain ⟨rfl, hsz, hP, hK, hD, hX⟩ := hv
  subst hsz
  have hts := atoms_spec (ws := Cond.codeWith y bs n (some .int) hh :: W0) B.pre
  have htab := vx_table (x := y) B (hts _ List.mem_cons_self)
  rw [lg_entry_eq]
  refine body p e s m _ below meth c A _ ⟨⟨B.exec, B.bytes, hml, findClass_of_methodNamed B.named, fun w h => hts w (List.mem_cons_of_mem _ h)⟩, hK, hX⟩ ⟨hP, hD, va_S.rf⟩ hA htab (fun v z1 H locs pc ls hw hp hd => ?_) _ (lv_entry vs hl)
  exact xrI B.exec B.bytes B.returns B.notSynchronized hw hp hd
/-- which FAILURE a kind has -/
def failX (k : Nat) : String := if k = 5 then EXU else if k = 7 then EXA else EXI
theorem qz_ml : Cond.methodLink RX11 328 yX4_fail ∈ W0 := w0_m (a := tables_1_5) 3 rfl tb_5 rfl
theorem qz_im : Cond.instanceMethod yX4_fail ∈ W0 := w0_m (a := tables_1_5) 4 rfl tb_5 rfl
theorem qz_sm : Cond.sameMethod (yX4_fail).cls RX4 (yX4_fail).name (yX4_fail).desc ∈ W0 := w0_m (a := tables_1_5) 6 rfl tb_5 rfl
theorem qz_co : Cond.code yX4_fail cX4_fail 1 none ∈ W0 := w0_m (a := tables_1_5) 103 rfl tb_5 rfl
theorem qz_in4 : Cond.initialized RX4 ∈ W0 := w0_m (a := tables_1_1) 4 rfl tb_1 rfl
theorem yz_fail : yOK yX4_fail 0 := by decide +kernel
theorem xz_fail : xOK yX4_fail RX4 0 := by decide +kernel
theorem qz_se4 : Cond.selects RX4 yX4_fail yX4_fail ∈ W0 := w0_m (a := tables_1_5) 5 rfl tb_5 rfl
theorem qz_se7 : Cond.selects RX7 yX4_fail yX4_fail ∈ W0 := w0_m (a := tables_1_5) 80 rfl tb_5 rfl
theorem qz_se5 : Cond.selects RX5 yX4_fail yX4_fail ∈ W0 := w0_m (a := tables_1_5) 78 rfl tb_5 rfl
theorem qz_se6 : Cond.selects RX6 yX4_fail yX4_fail ∈ W0 := w0_m (a := tables_1_5) 79 rfl tb_5 rfl
theorem qz_se2 : Cond.selects RX2 yX4_fail yX4_fail ∈ W0 := w0_m (a := tables_1_5) 77 rfl tb_5 rfl
theorem kz_8 : cU RX11 328 RX8 RX4 yX4_fail yX8_fail cX8_fail 1 none := ⟨qz_ml, qz_sm, w0_m (a := tables_1_5) 81 rfl tb_5 rfl, w0_m (a := tables_1_5) 82 rfl tb_5 rfl, w0_m (a := tables_1_1) 12 rfl tb_1 rfl, w0_m (a := tables_1_5) 83 rfl tb_5 rfl⟩
theorem kz_1 : cU RX11 328 RX1 RX4 yX4_fail yX1_fail cX1_fail 1 none := ⟨qz_ml, qz_sm, w0_m (a := tables_1_5) 7 rfl tb_5 rfl, w0_m (a := tables_1_5) 8 rfl tb_5 rfl, w0_m (a := tables_1_1) 16 rfl tb_1 rfl, w0_m (a := tables_1_5) 9 rfl tb_5 rfl⟩
theorem kz_10 : cU RX11 328 RX10 RX4 yX4_fail yX10_fail cX10_fail 1 none := ⟨qz_ml, qz_sm, w0_m (a := tables_1_5) 84 rfl tb_5 rfl, w0_m (a := tables_1_5) 85 rfl tb_5 rfl, w0_m (a := tables_1_1) 18 rfl tb_1 rfl, w0_m (a := tables_1_5) 86 rfl tb_5 rfl⟩
set_option maxHeartbeats 4000000 in
theorem xfail {p : Program} {l : Launch} {e : Env} {R : Room} {s : State} {m : MethodId} {args : Array Value} {below : List Frame} {meth : Method} {c : Code} {H : Heap} {locs : List Loc} {cells slots : Nat} {Q : State → Prop} {cc : ByteArray} {nL pc : Nat} {ls : Array Slot} {rest : List Value} {D : va_G} {ad : Nat → Nat → Nat} {cs : Nat → ClassId} {A : Nat → Prop} {sk : (Nat → Nat) × (Nat → Nat)} {z : ZS} (E : EN p m c cc nL s args RX11 D cs A sk) (hw : OW D ad cs A s.heap z H locs) (hA : ∀ q, s.heap.size ≤ q → A q) (hst : l.stackTraces = false) {a : Nat} (ha : a ∈ zP z) (hR : 7 ≤ R.frames ∧ 280 ≤ R.locals) (hsz : ls.size = nL) (h8 : (rest.map fun v => v.category).sum ≤ 8) (hdg : decode cc pc = .ok (.invokevirtual 328, 3)) (hf : cells + 1 ≤ R.cells ∧ slots + 6 ≤ R.slots)
    (kk : (zK z a = 1 ∨ zF z a 1 = 0) → ∀ (H1 : Heap) (locs1 : List Loc), OW D ad cs A s.heap z H1 locs1 → W p l e R s m args below meth c H1 locs1 (cells + 1) (slots + 6) Q (F0 m (pc + 3) ls rest))
    (kx : ¬ zK z a = 1 → ¬ zF z a 1 = 0 → ∀ (ce : Cell) (q9 : Addr) (H1 : Heap) (locs1 : List Loc), OW D ad cs A s.heap z H1 locs1 → H1[q9]? = some ce → ce.vm = .none → s.vm.findClass (failX (zK z a)) = some ce.cls → vx_W p l e R s m args below meth c H1 locs1 (cells + 1) (slots + 6) Q (F0 m pc ls rest) q9) : W p l e R s m args below meth c H locs cells slots Q (F0 m pc ls (.ref a :: rest)) := by
  have room : (rmq 6 1 6).frames + 1 ≤ R.frames ∧ 8 + (1 + 11) + (rmq 6 1 6).locals ≤ R.locals := ⟨by simp only [rmq]; omega, by simp only [rmq]; omega⟩
  have own4 : ∀ (k : Nat) (C : String) (T : u_T), zK z a = k → cls[fc k]? = some (C, T, 8) → Cond.selects C yX4_fail yX4_fail ∈ W0 → ¬ k = 1 → failX k = EXI → W p l e R s m args below meth c H locs cells slots Q (F0 m pc ls (.ref a :: rest)) := by
    intro k C T hk hC hse h1 hX
    refine vx_callv (vx_runV (As := []) (rest := rest) E.1 (c_X4_fail l hst D ad cs sk z a ha A H.size (xA hw hA)) ⟨callB_of 0 E.1.2.2.2.2 (w0_c qz_co) rfl rfl rfl (E.1.2.2.2.2 _ qz_in4) (E.1.2.2.2.2 _ qz_ml) yz_fail room, E.1.2.2.2.2 _ qz_im, E.1.2.2.2.2 _ hse⟩ ⟨PP.blind, xrF E hw ha hk hC, PP.pre E.2.1 E.2.2 hw⟩ rfl rfl hsz rfl (lv_room h8) hdg hf) hw.2.2 (fun _ _ h => h) (fun _ h => h) (fun _ _ h => h) ?_ ?_
    · intro EE ce q9 u t H1 locs1 ht _ _ hB _ _ hS1 h1c hv hcl
      obtain ⟨⟨hE, hu, hne⟩, hP, hD⟩ := hB
      subst hu
      refine kx (by rw [hk]; exact h1) hne ce q9 H1 locs1 ⟨by rw [← ht]; exact hP, hD, hS1⟩ h1c hv ?_
      rw [hk, hX, ← hE]
      exact hcl
    · intro u t H1 locs1 ht _ hp hB _ _ hS1
      obtain ⟨hu, h0⟩ := hp
      subst hu
      exact kk (Or.inr h0) H1 locs1 ⟨by rw [← ht]; exact hB.1, hB.2, hS1⟩
  obtain ⟨k, hk⟩ : ∃ k, zK z a = k := ⟨_, rfl⟩
  match k, hk with
  | 0, hk => exact own4 0 RX4 TX4 hk rfl qz_se4 (by decide) rfl
  | 1, hk =>
    refine vx_callv (yx_runU (As := []) (rest := rest) E.1 (c_X8_fail l D ad cs sk z a A H.size (xA hw hA)) (xwU E kz_8 (Or.inr ⟨_, _, _, qz_im, qz_co⟩) xz_fail room) ⟨PP.blind, xrF E hw ha hk (C := RX8) (T := TX8) (n := 8) rfl, PP.pre E.2.1 E.2.2 hw⟩ rfl rfl hsz rfl (lv_room h8) hdg hf) hw.2.2 (fun _ _ h => h) (fun _ h => h) (fun _ _ h => h) ?_ ?_
    · intro EE ce q9 u t H1 locs1 ht _ _ hB _ _ hS1 h1c hv hcl
      exact hB.1.elim
    · intro u t H1 locs1 ht _ hp hB _ _ hS1
      subst hp
      exact kk (Or.inl hk) H1 locs1 ⟨by rw [← ht]; exact hB.1, hB.2, hS1⟩
  | 2, hk => exact own4 2 RX7 TX7 hk rfl qz_se7 (by decide) rfl
  | 3, hk => exact own4 3 RX5 TX5 hk rfl qz_se5 (by decide) rfl
  | 4, hk => exact own4 4 RX6 TX6 hk rfl qz_se6 (by decide) rfl
  | 5, hk =>
    refine vx_callv (yx_runU (As := []) (rest := rest) E.1 (c_X1_fail l hst D ad cs sk z a ha A H.size (xA hw hA)) (xwU E kz_1 (Or.inr ⟨_, _, _, qz_im, qz_co⟩) xz_fail room) ⟨PP.blind, xrF E hw ha hk (C := RX1) (T := TX1) (n := 8) rfl, PP.pre E.2.1 E.2.2 hw⟩ rfl rfl hsz rfl (lv_room h8) hdg hf) hw.2.2 (fun _ _ h => h) (fun _ h => h) (fun _ _ h => h) ?_ ?_
    · intro EE ce q9 u t H1 locs1 ht _ _ hB _ _ hS1 h1c hv hcl
      obtain ⟨⟨hE, hu, hne⟩, hP, hD⟩ := hB
      subst hu
      refine kx (by rw [hk]; decide) hne ce q9 H1 locs1 ⟨by rw [← ht]; exact hP, hD, hS1⟩ h1c hv ?_
      rw [hk, show failX 5 = EXU from rfl, ← hE]
      exact hcl
    · intro u t H1 locs1 ht _ hp hB _ _ hS1
      obtain ⟨hu, h0⟩ := hp
      subst hu
      exact kk (Or.inr h0) H1 locs1 ⟨by rw [← ht]; exact hB.1, hB.2, hS1⟩
  | 6, hk => exact own4 6 RX2 TX2 hk rfl qz_se2 (by decide) rfl
  | 7, hk =>
    refine vx_callv (yx_runU (As := []) (rest := rest) E.1 (c_X10_fail l hst D ad cs sk z a ha A H.size (xA hw hA)) (xwU E kz_10 (Or.inr ⟨_, _, _, qz_im, qz_co⟩) xz_fail room) ⟨PP.blind, xrF E hw ha hk (C := RX10) (T := TX10) (n := 8) rfl, PP.pre E.2.1 E.2.2 hw⟩ rfl rfl hsz rfl (lv_room h8) hdg hf) hw.2.2 (fun _ _ h => h) (fun _ h => h) (fun _ _ h => h) ?_ ?_
    · intro EE ce q9 u t H1 locs1 ht _ _ hB _ _ hS1 h1c hv hcl
      obtain ⟨⟨hE, hu, hne⟩, hP, hD⟩ := hB
      subst hu
      refine kx (by rw [hk]; decide) hne ce q9 H1 locs1 ⟨by rw [← ht]; exact hP, hD, hS1⟩ h1c hv ?_
      rw [hk, show failX 7 = EXA from rfl, ← hE]
      exact hcl
    · intro u t H1 locs1 ht _ hp hB _ _ hS1
      obtain ⟨hu, h0⟩ := hp
      subst hu
      exact kk (Or.inr h0) H1 locs1 ⟨by rw [← ht]; exact hB.1, hB.2, hS1⟩
  | (n + 8), hk => exact own4 (n + 8) RX4 TX4 hk rfl qz_se4 (by omega) (by unfold failX; rw [if_neg (by omega), if_neg (by omega)])
/-- what toss answers of a Faller -/
def tossV (k : Nat) (f : Nat → Int32) : Int32 := if k = 1 ∨ f 1 = 0 then -15 else if k = 5 then f 0 + 100 else if k = 7 then 200 + f 7 else f 0
def V_X11_toss (z : ZS) (p1 : Int32) (post : Int32 → ZS → Prop) : Prop := V_X11_shelfAt z p1 (fun r z1 => (r = none → post (-1) z1) ∧ (∀ o, r = some o → isS o ∧ ((zG z1 o 0 = none → (zI z1 o 1 = 0 → post (-11) z1) ∧ (¬ zI z1 o 1 = 0 → post (-12) z1)) ∧ (∀ a, zG z1 o 0 = some a → a ∈ zP z1 ∧ post (tossV (zK z1 a) (zF z1 a)) z1))))
abbrev hhT : List (Nat × Nat × Nat × Nat) := [(36, 40, 43, 299), (36, 40, 50, 334), (36, 40, 60, 289)]
theorem qz_k299 : Cond.classLink RX11 299 EXI ∈ W0 := w0_m (a := tables_1_5) 0 rfl tb_5 rfl
theorem qz_k334 : Cond.classLink RX11 334 EXU ∈ W0 := w0_m (a := tables_1_5) 1 rfl tb_5 rfl
theorem qz_k289 : Cond.classLink RX11 289 EXA ∈ W0 := w0_m (a := tables_1_5) 2 rfl tb_5 rfl
theorem qz_f331 : Cond.fieldLink RX11 331 "TenYards$Faller" (TX4 0).2.1 (TX4 0).2.2.1 ∈ W0 := w0_m (a := tables_1_1) 100 rfl tb_1 rfl
theorem qz_f325 : Cond.fieldLink RX11 325 "TenYards$Faller" (TX4 7).2.1 (TX4 7).2.2.1 ∈ W0 := w0_m (a := tables_1_1) 183 rfl tb_1 rfl
theorem qz_f321 : Cond.fieldLink RX11 321 "TenYards$Shelf" "faller" "LTenYards$Faller;" ∈ W0 := w0_m (a := tables_1_2) 11 rfl tb_2 rfl
theorem qz_f296 : Cond.fieldLink RX11 296 "TenYards$Shelf" "isRow" "Z" ∈ W0 := w0_m (a := tables_1_2) 13 rfl tb_2 rfl
set_option maxHeartbeats 4000000 in
theorem c_X11_toss (l : Launch) (hst : l.stackTraces = false) (D : va_G) (ad : Nat → Nat → Nat) (cs : Nat → ClassId) (sk : (Nat → Nat) × (Nat → Nat)) (z : ZS) (p1 : Int32) (post : Int32 → ZS → Prop) (h : V_X11_toss z p1 post) : MIW l D ad cs sk yX11_toss cX11_toss 5 hhT (rmq 8 1 6) [.ref (ad 0 100), .int p1] z post := by
  refine MIW.of RX11 rfl (by decide) (Nat.le_of_ble_eq_true rfl) ?_
  intro p e s m args below meth c A Q E hw hA htab hret ls hl
  have hx := E.1.1
  have hb := E.1.2.1
  have hown := E.1.2.2.2.1
  have h0 := E.1.2.2.2.2
  have hl : lv_has ls 5 [(0, .ref (ad 0 100)), (1, .int p1)] := hl
  unfold V_X11_toss at h
  refine lv_aload_n hx hb dX11_toss_0 rfl (lv_at hl 0 rfl) ?_
  refine lv_iload_n hx hb dX11_toss_1 rfl (lv_at hl 1 rfl) ?_
  refine xcVA (As := [.int p1]) (rest := []) E hw hA (c_X11_shelfAt l D ad cs sk z p1 _ h) kc_11_58 yo_X11_shelfAt ⟨Nat.le_of_ble_eq_true rfl, Nat.le_of_ble_eq_true rfl⟩ (xrc E hw ky_0_100 rfl) rfl hl.1 rfl (Nat.le_of_ble_eq_true rfl) dX11_toss_2 ⟨Nat.le_of_ble_eq_true rfl, Nat.le_of_ble_eq_true rfl⟩ (fun r z1 H locs hp hw => ?_)
  obtain ⟨ro, rfl, hp⟩ := hp
  clear h
  refine xsqastore_n (lv' := [(2, va_rf (Option.map (fun o => ad o 100) ro)), (0, .ref (ad 0 100)), (1, .int p1)]) hx hb dX11_toss_5 rfl hl (by decide) rfl (fun ls hl => ?_)
  refine xlqaload_n hx hb dX11_toss_6 rfl (lv_at hl 0 rfl) ?_
  refine xnnlo (tgt := 12) hx hb dX11_toss_7 (by decide) (fun e1 => ?_) (fun o e1 => ?_)
  · refine lv_iconst (v := -1) hx hb dX11_toss_10 (by decide) ?_
    exact W.widen (by decide) (by decide) (hret (-1) z1 H locs 11 ls hw (hp.1 e1) dX11_toss_11)
  replace hp := hp.2 o e1
  obtain ⟨ho, hp⟩ := hp
  subst e1
  have hl : lv_has ls 5 [(2, .ref (ad o 100)), (0, .ref (ad 0 100)), (1, .int p1)] := hl
  refine lv_aload_n hx hb dX11_toss_12 rfl (lv_at hl 0 rfl) ?_
  refine xgG E hw (c1 := 9) (ciisS ho) (kyisS_100 ho) fo_9_0 qz_f321 dX11_toss_13 ?_
  refine xtopq (fun rg eg => ?_)
  rw [← eg] at hp
  refine xsqastore_n (lv' := [(3, va_rf rg), (2, .ref (ad o 100)), (0, .ref (ad 0 100)), (1, .int p1)]) hx hb dX11_toss_16 rfl hl (by decide) rfl (fun ls hl => ?_)
  refine xlqaload_n hx hb dX11_toss_17 rfl (lv_at hl 0 rfl) ?_
  refine xnnl (tgt := 36) hx hb dX11_toss_18 (by decide) (fun e2 => ?_) (fun a e2 => ?_)
  · replace hp := hp.1 e2
    refine lv_aload_n hx hb dX11_toss_21 rfl (lv_at hl 1 rfl) ?_
    refine xgI E hw (c1 := 9) (ciisS ho) (kyisS_100 ho) fo_9_1 qz_f296 dX11_toss_22 ?_
    refine lv_if_eq (tgt := 33) hx hb dX11_toss_25 (by decide) (fun c1 => ?_) (fun c1 => ?_)
    · refine lv_bipush (v := -11) hx hb dX11_toss_33 (by decide) ?_
      exact W.widen (by decide) (by decide) (hret (-11) z1 H locs 35 ls hw (hp.1 c1) dX11_toss_35)
    · refine lv_bipush (v := -12) hx hb dX11_toss_28 (by decide) ?_
      refine lv_goto (tgt := 35) hx hb dX11_toss_30 (by decide) ?_
      exact W.widen (by decide) (by decide) (hret (-12) z1 H locs 35 ls hw (hp.2 c1) dX11_toss_35)
  replace hp := hp.2 a e2
  obtain ⟨ha, hp⟩ := hp
  have hl : lv_has ls 5 [(3, .ref a), (2, .ref (ad o 100)), (0, .ref (ad 0 100)), (1, .int p1)] := by rw [e2] at hl; exact hl
  refine lv_aload_n hx hb dX11_toss_36 rfl (lv_at hl 0 rfl) ?_
  refine xfail (rest := []) E hw hA hst ha ⟨Nat.le_of_ble_eq_true rfl, Nat.le_of_ble_eq_true rfl⟩ hl.1 (Nat.le_of_ble_eq_true rfl) dX11_toss_37 ⟨Nat.le_of_ble_eq_true rfl, Nat.le_of_ble_eq_true rfl⟩ (fun h1 H locs hw => ?_) (fun h1 h2 ce q9 H locs hw hcell hv hcl => ?_)
  · rw [show tossV (zK z1 a) (zF z1 a) = -15 from if_pos h1] at hp
    refine lv_goto (tgt := 71) hx hb dX11_toss_40 (by decide) ?_
    refine lv_bipush (v := -15) hx hb dX11_toss_71 (by decide) ?_
    exact W.widen (by decide) (by decide) (hret (-15) z1 H locs 73 ls hw hp dX11_toss_73)
  · have hn : ¬ (zK z1 a = 1 ∨ zF z1 a 1 = 0) := fun q => q.elim h1 h2
    by_cases h5 : zK z1 a = 5
    · rw [show failX (zK z1 a) = EXU from by rw [h5]; rfl] at hcl
      rw [show tossV (zK z1 a) (zF z1 a) = zF z1 a 0 + 100 from by unfold tossV; rw [if_neg hn, if_pos h5]] at hp
      refine vx_catch (name := EXU) hown [⟨36, 40, 43, 299⟩] ⟨36, 40, 50, 334⟩ [⟨36, 40, 60, 289⟩] htab (fun w hw => ?_) (by decide) (by decide) (h0 _ qz_k334) (va_Nw.use rfl (E.2.1.2.2.2.2.1 EXU (by simp))) hcell hv hcl ?_
      · rw [List.mem_singleton.mp hw]
        exact Or.inr ⟨by decide, EXI, h0 _ qz_k299, E.2.1.2.2.2.2.2.1⟩
      refine lv_astore (lv' := [(4, .ref q9), (3, .ref a), (2, .ref (ad o 100)), (0, .ref (ad 0 100)), (1, .int p1)]) hx hb dX11_toss_50 hl (by decide) rfl (fun ls hl => ?_)
      refine lv_aload_n hx hb dX11_toss_52 rfl (lv_at hl 1 rfl) ?_
      refine xgF E hw ha (k := 0) (ref := "TenYards$Faller") (by decide) qz_f331 (Or.inl rfl) dX11_toss_53 ?_
      refine lv_bipush (v := 100) hx hb dX11_toss_56 (by decide) ?_
      refine lv_iadd hx hb dX11_toss_58 ?_
      exact W.widen (by decide) (by decide) (hret _ z1 H locs 59 ls hw hp dX11_toss_59)
    by_cases h7 : zK z1 a = 7
    · rw [show failX (zK z1 a) = EXA from by rw [h7]; rfl] at hcl
      rw [show tossV (zK z1 a) (zF z1 a) = 200 + zF z1 a 7 from by unfold tossV; rw [if_neg hn, if_neg h5, if_pos h7]] at hp
      refine vx_catch (name := EXA) hown [⟨36, 40, 43, 299⟩, ⟨36, 40, 50, 334⟩] ⟨36, 40, 60, 289⟩ [] htab (fun w hw => ?_) (by decide) (by decide) (h0 _ qz_k289) (va_Nw.use rfl (E.2.1.2.2.2.2.1 EXA (by simp))) hcell hv hcl ?_
      · rcases List.mem_cons.mp hw with hw | hw
        · rw [hw]; exact Or.inr ⟨by decide, EXI, h0 _ qz_k299, E.2.1.2.2.2.2.2.2.1⟩
        · rw [List.mem_singleton.mp hw]; exact Or.inr ⟨by decide, EXU, h0 _ qz_k334, E.2.1.2.2.2.2.2.2.2.1⟩
      refine lv_astore (lv' := [(4, .ref q9), (3, .ref a), (2, .ref (ad o 100)), (0, .ref (ad 0 100)), (1, .int p1)]) hx hb dX11_toss_60 hl (by decide) rfl (fun ls hl => ?_)
      refine lv_sipush (v := 200) hx hb dX11_toss_62 (by decide) ?_
      refine lv_aload_n hx hb dX11_toss_65 rfl (lv_at hl 1 rfl) ?_
      refine xgF E hw ha (k := 7) (ref := "TenYards$Faller") (by decide) qz_f325 (Or.inl rfl) dX11_toss_66 ?_
      refine lv_iadd hx hb dX11_toss_69 ?_
      exact W.widen (by decide) (by decide) (hret _ z1 H locs 70 ls hw hp dX11_toss_70)
    rw [show failX (zK z1 a) = EXI from by unfold failX; rw [if_neg h5, if_neg h7]] at hcl
    rw [show tossV (zK z1 a) (zF z1 a) = zF z1 a 0 from by unfold tossV; rw [if_neg hn, if_neg h5, if_neg h7]] at hp
    refine vx_catch (name := EXI) hown [] ⟨36, 40, 43, 299⟩ [⟨36, 40, 50, 334⟩, ⟨36, 40, 60, 289⟩] htab (fun w hw => absurd hw List.not_mem_nil) (by decide) (by decide) (h0 _ qz_k299) (va_Nw.use rfl (E.2.1.2.2.2.2.1 EXI (by simp))) hcell hv hcl ?_
    refine lv_astore (lv' := [(4, .ref q9), (3, .ref a), (2, .ref (ad o 100)), (0, .ref (ad 0 100)), (1, .int p1)]) hx hb dX11_toss_43 hl (by decide) rfl (fun ls hl => ?_)
    refine lv_aload_n hx hb dX11_toss_45 rfl (lv_at hl 1 rfl) ?_
    refine xgF E hw ha (k := 0) (ref := "TenYards$Faller") (by decide) qz_f331 (Or.inl rfl) dX11_toss_46 ?_
    exact W.widen (by decide) (by decide) (hret _ z1 H locs 49 ls hw hp dX11_toss_49)
