/-! rows for Fallers (the pool), calls by name of a class above, copies of arrays -/
theorem good_list {L : List Cond} (h : ∀ w ∈ L, w ∈ W0) : GoodIn W0 L := fun w hw => w0_good w (h w hw)
theorem fc_cases (k : Nat) : fc k = 4 ∨ fc k = 8 ∨ fc k = 7 ∨ fc k = 5 ∨ fc k = 6 ∨ fc k = 1 ∨ fc k = 2 ∨ fc k = 10 := by
  unfold fc
  split <;> simp
theorem eT8 : TX8 = TX4 := rfl
theorem eT7 : TX7 = TX4 := rfl
theorem eT5 : TX5 = TX4 := rfl
theorem eT6 : TX6 = TX4 := rfl
theorem eT1 : TX1 = TX4 := rfl
theorem eT2 : TX2 = TX4 := rfl
theorem eT10 : TX10 = TX4 := rfl
/-- a Faller's class: its name, the words of its fields, its place among the classes -/
theorem fcl_at (k : Nat) : ∃ C : String, cls[fc k]? = some (C, TX4, 8) ∧ (∀ w ∈ u_ws C TX4 8, w ∈ W0) ∧ (C = RX4 ∨ C ∈ [RX8, RX7, RX5, RX6, RX1, RX2, RX10]) := by
  rcases fc_cases k with e | e | e | e | e | e | e | e <;> rw [e]
  · exact ⟨RX4, rfl, in_4, Or.inl rfl⟩
  · exact ⟨RX8, rfl, eT8 ▸ in_8, Or.inr (by simp)⟩
  · exact ⟨RX7, rfl, eT7 ▸ in_7, Or.inr (by simp)⟩
  · exact ⟨RX5, rfl, eT5 ▸ in_5, Or.inr (by simp)⟩
  · exact ⟨RX6, rfl, eT6 ▸ in_6, Or.inr (by simp)⟩
  · exact ⟨RX1, rfl, eT1 ▸ in_1, Or.inr (by simp)⟩
  · exact ⟨RX2, rfl, eT2 ▸ in_2, Or.inr (by simp)⟩
  · exact ⟨RX10, rfl, eT10 ▸ in_10, Or.inr (by simp)⟩
theorem pool_at {ad : Nat → Nat → Nat} {cs : Nat → ClassId} {z : ZS} {a : Nat} (ha : a ∈ zP z) : ∃ j : Nat, (wd ad cs z)[j]? = some (a, .inr (fc (zK z a), [.int (zF z a 0), .int (zF z a 1), .int (zF z a 2), .int (zF z a 3), .int (zF z a 4), .int (zF z a 5), .int (zF z a 6), .int (zF z a 7)])) := va_pl_get (X := sw ad cs z) (f := fun a => fe (zK z a) (zF z a)) ha
theorem f8_at (f : Nat → Int32) {k : Nat} (hk : k < 8) : ([.int (f 0), .int (f 1), .int (f 2), .int (f 3), .int (f 4), .int (f 5), .int (f 6), .int (f 7)] : List Value)[k]? = some (.int (f k)) := by
  rcases (show k = 0 ∨ k = 1 ∨ k = 2 ∨ k = 3 ∨ k = 4 ∨ k = 5 ∨ k = 6 ∨ k = 7 by omega) with rfl | rfl | rfl | rfl | rfl | rfl | rfl | rfl <;> rfl
section XR3
variable {p : Program} {l : Launch} {e : Env} {R : Room} {s : State} {m : MethodId} {args : Array Value} {below : List Frame} {meth : Method} {c : Code} {H : Heap} {locs : List Loc} {cells slots : Nat} {Q : State → Prop}
variable {cc : ByteArray} {nL pc : Nat} {ls : Array Slot} {rest st0 : List Value} {D : va_G} {ad : Nat → Nat → Nat} {cs : Nat → ClassId} {A : Nat → Prop} {sk : (Nat → Nat) × (Nat → Nat)} {H0 : Heap} {z : ZS} {own : String}
theorem xgF (E : EN p m c cc nL s args own D cs A sk) (hw : OW D ad cs A H0 z H locs) {a k idx : Nat} (ha : a ∈ zP z) (hk : k < 8) {ref : String} (hq : Cond.fieldLink own idx ref (TX4 k).2.1 (TX4 k).2.2.1 ∈ W0) (hs : (TX4 k).1 = ref ∨ Cond.sameField ref (TX4 k).1 (TX4 k).2.1 (TX4 k).2.2.1 ∈ W0) (hdg : decode cc pc = .ok (.getfield idx, 3))
    (kk : W p l e R s m args below meth c H locs cells slots Q (F0 m (pc + 3) ls (.int (zF z a k) :: rest))) : W p l e R s m args below meth c H locs cells slots Q (F0 m pc ls (.ref a :: rest)) := by
  obtain ⟨j, hj⟩ := pool_at (ad := ad) (cs := cs) ha
  obtain ⟨C, hC, hin, -⟩ := fcl_at (zK z a)
  have hsame : ∀ x, s.fieldFound? (TX4 k).1 (TX4 k).2.1 (TX4 k).2.2.1 = some x → s.fieldFound? ref (TX4 k).2.1 (TX4 k).2.2.1 = some x := by
    rcases hs with hs | hs
    · rw [hs]; exact fun _ h => h
    · exact fun x hx => u_same (E.1.2.2.2.2 _ hs) x hx
  exact va_get E.1.1 E.1.2.1 E.1.2.2.2.2 hin E.1.2.2.2.1 E.2.1.1 hw.1 j hj hC k hk (E.1.2.2.2.2 _ hq) hsame (f8_at _ hk) hdg kk
theorem xgS (E : EN p m c cc nL s args own D cs A sk) (hw : OW D ad cs A H0 z H locs) {o k c1 idx a : Nat} (hc : ci o = c1) (ho : (o, 100) ∈ KY) (hk : k < cN c1 ∧ fk c1 k = 2) (ha : zG z o k = some a) (hq : Cond.fieldLink own idx (cT c1 k).1 (cT c1 k).2.1 (cT c1 k).2.2.1 ∈ W0) (hdg : decode cc pc = .ok (.getfield idx, 3))
    (kk : W p l e R s m args below meth c H locs cells slots Q (F0 m (pc + 3) ls (.ref a :: rest))) : W p l e R s m args below meth c H locs cells slots Q (F0 m pc ls (.ref (ad o 100) :: rest)) := by
  refine xgG E hw hc ho hk hq hdg ?_
  rw [ha]
  exact kk
/-- a Faller as a receiver -/
theorem xrF (E : EN p m c cc nL s args own D cs A sk) (hw : OW D ad cs A H0 z H locs) {a k : Nat} (ha : a ∈ zP z) (hk : zK z a = k) {C : String} {T : u_T} {n : Nat} (hC : cls[fc k]? = some (C, T, n)) : ∃ cell : Cell, H[a]? = some cell ∧ cell.vm.isStatics = false ∧ s.vm.findClass C = some cell.cls := by
  subst hk
  obtain ⟨j, hj⟩ := pool_at (ad := ad) (cs := cs) ha
  exact va_recv E.2.1.1 hw.1 hC hj
theorem xcl (E : EN p m c cc nL s args own D cs A sk) (hw : OW D ad cs A H0 z H locs) {a : Nat} (ha : a ∈ zP z) : ∃ (C : String) (cC : ClassId), ClassAt s C cC ∧ ∃ cell : Cell, H[a]? = some cell ∧ cell.vm.isStatics = false ∧ s.vm.findClass C = some cell.cls := by
  obtain ⟨C, hC, -, -⟩ := fcl_at (zK z a)
  exact ⟨C, _, (E.2.1.1.1 _ _ hC).2, xrF E hw ha rfl hC⟩
-- arrays of Fallers
theorem xfs (E : EN p m c cc nL s args own D cs A sk) (hw : OW D ad cs A H0 z H locs) {o : Nat} (ho : (o, 5) ∈ KY) (hc : ci o = 0) (h5 : o ≠ 15) (h0 : o ≠ 0) {r : Option Nat} (hr : ∀ v, r = some v → v ∈ zP z) {i : Int32} (hin : vp_in i 8) (hdg : decode cc pc = .ok (.aastore, 1))
    (kk : ∀ (z1 : ZS), z1 = wQ z o i.toNatClampNeg r → ∀ (H1 : Heap) (locs1 : List Loc), OW D ad cs A H0 z1 H1 locs1 → W p l e R s m args below meth c H1 locs1 cells slots Q (F0 m (pc + 1) ls rest)) : W p l e R s m args below meth c H locs cells slots Q (F0 m pc ls (va_rf r :: .int i :: .ref (ad o 5) :: rest)) := by
  obtain ⟨j, hj0, hj⟩ := wd_at ad cs z ho
  rw [ce_fa ad cs z hc h5 h0] at hj
  cases r with
  | none =>
    refine va_astqN E.1.1 E.1.2.1 E.2.1.1 hw.1 hw.2.1 hw.2.2 j 2 hj rfl hin hdg (fun H1 locs1 hP1 hD1 hS1 => ?_)
    rw [set_wB ad cs z _ hj0 hc h5 h0] at hP1 hD1
    exact kk _ rfl H1 locs1 ⟨hP1, hD1, hS1⟩
  | some v =>
    have hv := hr v rfl
    obtain ⟨jv, hjv⟩ := pool_at (ad := ad) (cs := cs) hv
    obtain ⟨C, hC, -, hcast⟩ := fcl_at (zK z v)
    rcases hcast with rfl | hcast
    · refine va_astq E.1.1 E.1.2.1 E.2.1.1 hw.1 hw.2.1 hw.2.2 j 2 jv _ hj rfl hjv hC hin hdg (fun H1 locs1 hP1 hD1 hS1 => ?_)
      rw [set_wB ad cs z _ hj0 hc h5 h0] at hP1 hD1
      exact kk _ rfl H1 locs1 ⟨hP1, hD1, hS1⟩
    · refine va_astqO E.1.1 E.1.2.1 E.2.1.1 hw.1 hw.2.1 hw.2.2 j 2 jv _ hj rfl (E.2.1.2.2.2.1 C hcast) hjv hC hin hdg (fun H1 locs1 hP1 hD1 hS1 => ?_)
      rw [set_wB ad cs z _ hj0 hc h5 h0] at hP1 hD1
      exact kk _ rfl H1 locs1 ⟨hP1, hD1, hS1⟩
-- System.arraycopy of ints
theorem xcp (E : EN p m c cc nL s args own D cs A sk) (hw : OW D ad cs A H0 z H locs) (hsz : ls.size = nL) {o1 k1 n1 o2 k2 n2 idx : Nat} (ho1 : (o1, k1) ∈ KY) (ha1 : k1 ≠ 100 ∧ ak (o1, k1) = 0 ∧ al (ci o1) k1 = n1) (ho2 : (o2, k2) ∈ KY) (ha2 : k2 ≠ 100 ∧ ak (o2, k2) = 0 ∧ al (ci o2) k2 = n2) {sp dp n : Int32} (h1 : ¬ sp < 0) (h2 : ¬ dp < 0) (h3 : ¬ n < 0) (h4 : sp.toNatClampNeg + n.toNatClampNeg ≤ n1) (h5 : dp.toNatClampNeg + n.toNatClampNeg ≤ n2)
    (hq : Cond.methodLink own idx arraycopyName ∈ W0 ∧ Cond.native arraycopyName ∈ W0 ∧ Cond.static arraycopyName ∈ W0 ∧ Cond.initialized "java/lang/System" ∈ W0) (hframes : 1 ≤ R.frames) (hlocals : (rest.map fun v => v.category).sum + (nativeFrameWords "java/lang/System" "arraycopy" 5 + 11) ≤ R.locals) (hdg : decode cc pc = .ok (.invokestatic idx, 3))
    (kk : ∀ (z1 : ZS), z1 = wA z o2 k2 (va_cpy (zR z o1 k1) (zR z o2 k2) sp.toNatClampNeg dp.toNatClampNeg n.toNatClampNeg) → ∀ (H1 : Heap) (locs1 : List Loc), OW D ad cs A H0 z1 H1 locs1 → W p l e R s m args below meth c H1 locs1 cells slots Q (F0 m (pc + 3) ls rest)) : W p l e R s m args below meth c H locs cells slots Q (F0 m pc ls (.int n :: .int dp :: .ref (ad o2 k2) :: .int sp :: .ref (ad o1 k1) :: rest)) := by
  obtain ⟨g1, g2, rfl⟩ := ha1
  obtain ⟨f1, f2, rfl⟩ := ha2
  obtain ⟨j1, -, hj1⟩ := wd_at ad cs z ho1
  obtain ⟨j2, hj0, hj2⟩ := wd_at ad cs z ho2
  rw [ce_arr ad cs z g1 g2] at hj1
  rw [ce_arr ad cs z f1 f2] at hj2
  refine va_copyi E.1.1 E.1.2.1 (E.1.2.2.1.trans hsz.symm) E.1.2.2.2.1 (E.1.2.2.2.2 _ hq.1) (E.1.2.2.2.2 _ hq.2.1) (E.1.2.2.2.2 _ hq.2.2.1) (E.1.2.2.2.2 _ hq.2.2.2) E.2.1.1 hw.1 hw.2.1 hw.2.2 j1 j2 0 0 hj1 hj2 rfl rfl rfl h1 h2 h3 h4 h5 (fun _ _ => rfl) hframes hlocals hdg (fun H1 locs1 hP1 hD1 hS1 => ?_)
  rw [set_wA ad cs z _ hj0 f1 f2] at hP1 hD1
  exact kk _ rfl H1 locs1 ⟨hP1, hD1, hS1⟩
end XR3
-- calls by the name of a class above
abbrev cU (own : String) (idx : Nat) (C owner : String) (x y : MethodName) (bs : ByteArray) (n : Nat) (ret : Option FieldType) : Prop := Cond.methodLink own idx x ∈ W0 ∧ Cond.sameMethod x.cls owner x.name x.desc ∈ W0 ∧ Cond.selects C x y ∈ W0 ∧ Cond.instanceMethod y ∈ W0 ∧ Cond.initialized y.cls ∈ W0 ∧ Cond.code y bs n ret ∈ W0
abbrev cP (own : String) (idx : Nat) (y : MethodName) (bs : ByteArray) (n : Nat) (ret : Option FieldType) : Prop := Cond.methodLink own idx y ∈ W0 ∧ Cond.sameMethod y.cls y.cls y.name y.desc ∈ W0 ∧ Cond.superclass own y.cls ∈ W0 ∧ Cond.instanceMethod y ∈ W0 ∧ Cond.initialized y.cls ∈ W0 ∧ Cond.code y bs n ret ∈ W0
abbrev xOK (x : MethodName) (owner : String) (n : Nat) : Prop := owner ≠ "java/lang/invoke/MethodHandle" ∧ owner ≠ "java/lang/invoke/VarHandle" ∧ (parseMethodDescriptor x.desc).map (fun d => d.parameters.length) = some n
section XC3
variable {p : Program} {l : Launch} {e : Env} {R : Room} {s : State} {m : MethodId} {args : Array Value} {below : List Frame} {meth : Method} {c : Code} {H : Heap} {locs : List Loc} {cells slots : Nat} {Q : State → Prop}
variable {cc : ByteArray} {nL pc : Nat} {ls : Array Slot} {rest st0 : List Value} {D : va_G} {ad : Nat → Nat → Nat} {cs : Nat → ClassId} {A : Nat → Prop} {sk : (Nat → Nat) × (Nat → Nat)} {z : ZS} {own C owner : String} {x y : MethodName} {bs : ByteArray} {n na idx : Nat} {rm : Room} {As : List Value} {b : Nat}
theorem xwU (E : EN p m c cc nL s args own D cs A sk) {ret : Option FieldType} (hq : cU own idx C owner x y bs n ret) (hyx : y = ⟨owner, x.name, x.desc⟩ ∨ ∃ (b0 : ByteArray) (m0 : Nat) (r0 : Option FieldType), Cond.instanceMethod ⟨owner, x.name, x.desc⟩ ∈ W0 ∧ Cond.code ⟨owner, x.name, x.desc⟩ b0 m0 r0 ∈ W0) (hy : xOK x owner na) (hR : rm.frames + 1 ≤ R.frames ∧ 8 + (n + 11) + rm.locals ≤ R.locals) : va_CU R s args own C owner idx x y bs n ret (.code y bs n ret :: W0) rm rm.cells rm.slots na := by
  have hc := w0_c hq.2.2.2.2.2
  rcases hyx with hyx | ⟨b0, m0, r0, h1, h2⟩
  · refine va_cwU na E.1.2.2.2.2 ?_ rfl rfl rfl hyx hy hR
    intro w hw
    rcases List.mem_append.mp (show w ∈ ([.methodLink own idx x, .sameMethod x.cls owner x.name x.desc, .selects C x y, .instanceMethod y, .initialized y.cls] : List Cond) ++ (.code y bs n ret :: W0) from hw) with h | h
    · refine w0_good w ?_
      simp only [List.mem_cons, List.not_mem_nil, or_false] at h
      rcases h with rfl | rfl | rfl | rfl | rfl
      · exact hq.1
      · exact hq.2.1
      · exact hq.2.2.1
      · exact hq.2.2.2.1
      · exact hq.2.2.2.2.1
    · exact hc w h
  · refine va_cwO na E.1.2.2.2.2 ?_ rfl rfl rfl h2 hy hR
    intro w hw
    rcases List.mem_append.mp (show w ∈ ([.methodLink own idx x, .sameMethod x.cls owner x.name x.desc, .instanceMethod ⟨owner, x.name, x.desc⟩, .selects C x y, .instanceMethod y, .initialized y.cls] : List Cond) ++ (.code y bs n ret :: W0) from hw) with h | h
    · refine w0_good w ?_
      simp only [List.mem_cons, List.not_mem_nil, or_false] at h
      rcases h with rfl | rfl | rfl | rfl | rfl | rfl
      · exact hq.1
      · exact hq.2.1
      · exact h1
      · exact hq.2.2.1
      · exact hq.2.2.2.1
      · exact hq.2.2.2.2.1
    · exact hc w h
theorem xcUI (E : EN p m c cc nL s args own D cs A sk) (hw : OW D ad cs A s.heap z H locs) (hA : ∀ q, s.heap.size ≤ q → A q) {ty : FieldType} {post : Int32 → ZS → Prop} (hM : MI l D ad cs sk y bs n ty rm (.ref b :: As) z post) (hcw : va_CU R s args own C owner idx x y bs n (some ty) (.code y bs n (some ty) :: W0) rm rm.cells rm.slots na) (hrc : ∃ cell : Cell, H[b]? = some cell ∧ cell.vm.isStatics = false ∧ s.vm.findClass C = some cell.cls) (hna : As.length = na) (hsz : ls.size = nL) (hst : st0 = As.reverse ++ .ref b :: rest) (h8 : (rest.map fun v => v.category).sum ≤ 8) (hdg : decode cc pc = .ok (.invokevirtual idx, 3)) (hf : cells + rm.cells ≤ R.cells ∧ slots + rm.slots ≤ R.slots)
    (kk : ∀ (r : Int32) (z1 : ZS) (H1 : Heap) (locs1 : List Loc), post r z1 → OW D ad cs A s.heap z1 H1 locs1 → W p l e R s m args below meth c H1 locs1 (cells + rm.cells) (slots + rm.slots) Q (F0 m (pc + 3) ls (.int r :: rest))) : W p l e R s m args below meth c H locs cells slots Q (F0 m pc ls st0) :=
  va_calli (va_runU E.1 (hM A H.size (xA hw hA)) hcw ⟨PP.blind, hrc, PP.pre E.2.1 E.2.2 hw⟩ rfl hna hsz hst (lv_room h8) hdg hf) hw.2.2 (fun _ _ h => h) (fun _ h => h) (fun r u t H1 locs1 ht _ hp hB _ _ hS1 => kk r u H1 locs1 hp ⟨by rw [← ht]; exact hB.1, hB.2, hS1⟩)
theorem xwP (E : EN p m c cc nL s args own D cs A sk) {ret : Option FieldType} (hq : cP own idx y bs n ret) (hy : y.name ≠ "<init>" ∧ (parseMethodDescriptor y.desc).map (fun d => d.parameters.length) = some na) (hR : rm.frames + 1 ≤ R.frames ∧ 8 + (n + 11) + rm.locals ≤ R.locals) : va_CS R s args own idx y bs n ret (.code y bs n ret :: W0) rm rm.cells rm.slots na := by
  have hc := w0_c hq.2.2.2.2.2
  refine va_cwSU na E.1.2.2.2.2 ?_ rfl rfl rfl hy hR
  intro w hw
  rcases List.mem_append.mp (show w ∈ ([.methodLink own idx y, .sameMethod y.cls y.cls y.name y.desc, .superclass own y.cls, .instanceMethod y, .initialized y.cls] : List Cond) ++ (.code y bs n ret :: W0) from hw) with h | h
  · refine w0_good w ?_
    simp only [List.mem_cons, List.not_mem_nil, or_false] at h
    rcases h with rfl | rfl | rfl | rfl | rfl
    · exact hq.1
    · exact hq.2.1
    · exact hq.2.2.1
    · exact hq.2.2.2.1
    · exact hq.2.2.2.2.1
  · exact hc w h
theorem xcPI (E : EN p m c cc nL s args own D cs A sk) (hw : OW D ad cs A s.heap z H locs) (hA : ∀ q, s.heap.size ≤ q → A q) {ty : FieldType} {post : Int32 → ZS → Prop} (hM : MI l D ad cs sk y bs n ty rm (.ref b :: As) z post) (hb : b ∈ zP z) (hq : cP own idx y bs n (some ty)) (hy : y.name ≠ "<init>" ∧ (parseMethodDescriptor y.desc).map (fun d => d.parameters.length) = some na) (hR : rm.frames + 1 ≤ R.frames ∧ 8 + (n + 11) + rm.locals ≤ R.locals) (hna : As.length = na) (hsz : ls.size = nL) (hst : st0 = As.reverse ++ .ref b :: rest) (h8 : (rest.map fun v => v.category).sum ≤ 8) (hdg : decode cc pc = .ok (.invokespecial idx, 3)) (hf : cells + rm.cells ≤ R.cells ∧ slots + rm.slots ≤ R.slots)
    (kk : ∀ (r : Int32) (z1 : ZS) (H1 : Heap) (locs1 : List Loc), post r z1 → OW D ad cs A s.heap z1 H1 locs1 → W p l e R s m args below meth c H1 locs1 (cells + rm.cells) (slots + rm.slots) Q (F0 m (pc + 3) ls (.int r :: rest))) : W p l e R s m args below meth c H locs cells slots Q (F0 m pc ls st0) := by
  obtain ⟨C, cC, hat, hrc⟩ := xcl E hw hb
  exact va_calli (va_runSU hat E.1 (hM A H.size (xA hw hA)) (xwP E hq hy hR) ⟨PP.blind, hrc, PP.pre E.2.1 E.2.2 hw⟩ rfl hna hsz hst (lv_room h8) hdg hf) hw.2.2 (fun _ _ h => h) (fun _ h => h) (fun r u t H1 locs1 ht _ hp hB _ _ hS1 => kk r u H1 locs1 hp ⟨by rw [← ht]; exact hB.1, hB.2, hS1⟩)
end XC3
