/-! ROWS over the world: each takes E (the method's own facts) and hw (the world as it is now). -/
abbrev tyx (cs : Nat → ClassId) : List (ClassId × FieldType) := [(cs 0, .int), (cs 1, .object "TenYards$Shelf"), (cs 2, .object "TenYards$Faller"), (cs 3, .long)]
def EXI : String := "java/lang/IllegalStateException"
def EXU : String := "java/lang/UnsupportedOperationException"
def EXA : String := "java/lang/IllegalArgumentException"
def dcX : List MethodName := [⟨"java/lang/RuntimeException", "<init>", "(Ljava/lang/String;)V"⟩, ⟨"java/lang/Exception", "<init>", "(Ljava/lang/String;)V"⟩, ⟨"java/lang/Throwable", "<init>", "(Ljava/lang/String;)V"⟩]
/-- the tables: classes, private members of nest mates, casts -/
def KX (D : va_G) (cs : Nat → ClassId) (U : State) : Prop := va_K D cls (tyx cs) U ∧ va_Nw (.methodLinkNest RX0 52 yX11_isFrom RX11) U ∧ va_Nw (.methodLinkNest RX0 121 yX11_isLayer RX11) U ∧ (∀ c ∈ [RX8, RX7, RX5, RX6, RX1, RX2, RX10], va_Nw (.castable c RX4) U) ∧ (∀ c ∈ [EXI, EXU, EXA], va_Nw (.castable c c) U) ∧ va_Nc EXU EXI U ∧ va_Nc EXA EXI U ∧ va_Nc EXA EXU U ∧ va_Nc EXI EXA U ∧ (∀ x ∈ dcX, va_Nw (.declares x) U)
theorem KX.warm {D : va_G} {cs : Nat → ClassId} {s U : State} (h : KX D cs s) (hW : s.WarmedH U.vm) : KX D cs U := ⟨va_K.moved hW.alike h.1, va_Nw.warmM hW h.2.1, va_Nw.warmM hW h.2.2.1, fun c hc => va_Nw.warmC hW (h.2.2.2.1 c hc), fun c hc => va_Nw.warmC hW (h.2.2.2.2.1 c hc), va_Nc.moved hW.alike h.2.2.2.2.2.1, va_Nc.moved hW.alike h.2.2.2.2.2.2.1, va_Nc.moved hW.alike h.2.2.2.2.2.2.2.1, va_Nc.moved hW.alike h.2.2.2.2.2.2.2.2.1, fun x hx => va_Nw.warmD hW (h.2.2.2.2.2.2.2.2.2 x hx)⟩
theorem KX.call {D : va_G} {cs : Nat → ClassId} {U : State} (h : KX D cs U) (g : JFrame) (mk : MethodId) (a : Array Value) : KX D cs (U.calling g mk a) := ⟨va_K.moved (u := U) (U := U.calling g mk a) (Vm.Alike.refl U.vm) h.1, va_Nw.same (u := U) (U := U.calling g mk a) rfl rfl h.2.1, va_Nw.same (u := U) (U := U.calling g mk a) rfl rfl h.2.2.1, fun c hc => va_Nw.same (u := U) (U := U.calling g mk a) rfl rfl (h.2.2.2.1 c hc), fun c hc => va_Nw.same (u := U) (U := U.calling g mk a) rfl rfl (h.2.2.2.2.1 c hc), va_Nc.moved (u := U) (U := U.calling g mk a) (Vm.Alike.refl U.vm) h.2.2.2.2.2.1, va_Nc.moved (u := U) (U := U.calling g mk a) (Vm.Alike.refl U.vm) h.2.2.2.2.2.2.1, va_Nc.moved (u := U) (U := U.calling g mk a) (Vm.Alike.refl U.vm) h.2.2.2.2.2.2.2.1, va_Nc.moved (u := U) (U := U.calling g mk a) (Vm.Alike.refl U.vm) h.2.2.2.2.2.2.2.2.1, fun x hx => va_Nw.same (u := U) (U := U.calling g mk a) rfl rfl (h.2.2.2.2.2.2.2.2.2 x hx)⟩
/-- the text constants: six forms of statements (0 .. 5), six messages (6 .. 11): class, entry, text -/
def slT (i : Nat) : String × Nat × String := match i with
  | 0 => (RX0, 106, "dsnsn;") | 1 => (RX0, 108, "n;") | 2 => (RX0, 110, "n n;") | 3 => (RX0, 112, "dd n;") | 4 => (RX0, 114, "snsnsnsn;") | 5 => (RX0, 116, "")
  | 6 => (RX1, 33, "a crabbing one fails") | 7 => (RX10, 31, "a stalled one fails") | 8 => (RX4, 81, "a faller fails") | 9 => (RX11, 291, "no such shelf") | 10 => (RX11, 301, "no row on the shelf") | _ => (RX11, 304, "no such place in the row")
def sLen : List Nat := [6, 2, 4, 5, 9, 0]
def sByt : List (List Int32) := [[100, 115, 110, 115, 110, 59], [110, 59], [110, 32, 110, 59], [100, 100, 32, 110, 59], [115, 110, 115, 110, 115, 110, 115, 110, 59], []]
/-- texts, and the statics that throwing and texts read -/
def SX (sk : (Nat → Nat) × (Nat → Nat)) (A : Nat → Prop) (U : State) : Prop := vk_S 6 sLen sByt sk.1 sk.2 A U U.heap ∧ va_Z "java/lang/String" "COMPACT_STRINGS" "Z" (.int 1) A U U.heap ∧ (∀ i, i < 12 → vk_R (slT i).1 (slT i).2.1 (slT i).2.2 (sk.1 i) U) ∧ vx_Zq Bundle.tN "UNASSIGNED_STACK" Bundle.steD A U U.heap ∧ vx_Zq Bundle.tN "SUPPRESSED_SENTINEL" Bundle.listD A U U.heap ∧ va_Zq "jdk/internal/util/Preconditions" "SIOOBE_FORMATTER" "Ljava/util/function/BiFunction;" A U U.heap
theorem SX.at {sk : (Nat → Nat) × (Nat → Nat)} {A : Nat → Prop} {s U : State} {H : Heap} {locs : List Loc} (h : SX sk A s) (hS : va_S A s.heap H locs) (hU : U.heap = H) (hW : s.WarmedH U.vm) : SX sk A U := by
  subst hU
  exact ⟨(h.1.kept hS.2.1).moved hW.alike, va_Z.moved hW.alike (h.2.1.kept hS.2.1), fun i hi => (h.2.2.1 i hi).warm hW, vx_Zq.moved hW.alike (h.2.2.2.1.kept hS.2.1), vx_Zq.moved hW.alike (h.2.2.2.2.1.kept hS.2.1), va_Zq.moved hW.alike (h.2.2.2.2.2.kept hS.2.1)⟩
theorem SX.call {sk : (Nat → Nat) × (Nat → Nat)} {A : Nat → Prop} {U : State} (h : SX sk A U) (g : JFrame) (mk : MethodId) (a : Array Value) : SX sk A (U.calling g mk a) := ⟨vk_S.moved (u := U) (U := U.calling g mk a) (Vm.Alike.refl U.vm) h.1, va_Z.moved (u := U) (U := U.calling g mk a) (Vm.Alike.refl U.vm) h.2.1, fun i hi => vk_R.same (u := U) (U := U.calling g mk a) rfl (h.2.2.1 i hi), vx_Zq.moved (u := U) (U := U.calling g mk a) (Vm.Alike.refl U.vm) h.2.2.2.1, vx_Zq.moved (u := U) (U := U.calling g mk a) (Vm.Alike.refl U.vm) h.2.2.2.2.1, va_Zq.moved (u := U) (U := U.calling g mk a) (Vm.Alike.refl U.vm) h.2.2.2.2.2⟩
/-- the world z, in A, nothing else changed since H0 -/
def OW (D : va_G) (ad : Nat → Nat → Nat) (cs : Nat → ClassId) (A : Nat → Prop) (H0 : Heap) (z : ZS) (H : Heap) (locs : List Loc) : Prop := va_P D cls (wd ad cs z) H ∧ va_D A (wd ad cs z) ∧ va_S A H0 H locs
/-- a method's own facts: the machine, its code, its locals, its class, the words, the tables -/
def EN (p : Program) (m : MethodId) (c : Code) (cc : ByteArray) (nL : Nat) (s : State) (args : Array Value) (own : String) (D : va_G) (cs : Nat → ClassId) (A : Nat → Prop) (sk : (Nat → Nat) × (Nat → Nat)) : Prop := CallFix p m c cc nL s args W0 own ∧ KX D cs s ∧ SX sk A s
section XR
variable {p : Program} {l : Launch} {e : Env} {R : Room} {s : State} {m : MethodId} {args : Array Value} {below : List Frame} {meth : Method} {c : Code} {H : Heap} {locs : List Loc} {cells slots : Nat} {Q : State → Prop}
variable {cc : ByteArray} {nL pc : Nat} {ls : Array Slot} {rest : List Value} {D : va_G} {ad : Nat → Nat → Nat} {cs : Nat → ClassId} {A : Nat → Prop} {sk : (Nat → Nat) × (Nat → Nat)} {H0 : Heap} {z : ZS} {own : String}
-- fields
theorem xgI (E : EN p m c cc nL s args own D cs A sk) (hw : OW D ad cs A H0 z H locs) {o k c1 idx : Nat} (hc : ci o = c1) (ho : (o, 100) ∈ KY) (hk : k < cN c1 ∧ fk c1 k = 0) (hq : Cond.fieldLink own idx (cT c1 k).1 (cT c1 k).2.1 (cT c1 k).2.2.1 ∈ W0) (hdg : decode cc pc = .ok (.getfield idx, 3))
    (kk : W p l e R s m args below meth c H locs cells slots Q (F0 m (pc + 3) ls (.int (zI z o k) :: rest))) : W p l e R s m args below meth c H locs cells slots Q (F0 m pc ls (.ref (ad o 100) :: rest)) := by
  subst hc
  obtain ⟨j, -, hj⟩ := wd_at ad cs z ho
  rw [ce_obj] at hj
  exact va_get E.1.1 E.1.2.1 E.1.2.2.2.2 (cin_at (ci_ok o)) E.1.2.2.2.1 E.2.1.1 hw.1 j hj (cls_at (ci_ok o)) k hk.1 (E.1.2.2.2.2 _ hq) (fun _ h => h) (by rw [fl_at ad z o hk.1]; unfold fv; rw [hk.2]; rfl) hdg kk
theorem xgC (E : EN p m c cc nL s args own D cs A sk) (hw : OW D ad cs A H0 z H locs) {o k c1 idx : Nat} (hc : ci o = c1) (ho : (o, 100) ∈ KY) (hk : k < cN c1 ∧ fk c1 k = 1) {t : Nat × Nat} (ht : rf c1 o k = t) (hq : Cond.fieldLink own idx (cT c1 k).1 (cT c1 k).2.1 (cT c1 k).2.2.1 ∈ W0) (hdg : decode cc pc = .ok (.getfield idx, 3))
    (kk : W p l e R s m args below meth c H locs cells slots Q (F0 m (pc + 3) ls (.ref (ad t.1 t.2) :: rest))) : W p l e R s m args below meth c H locs cells slots Q (F0 m pc ls (.ref (ad o 100) :: rest)) := by
  subst hc; subst ht
  obtain ⟨j, -, hj⟩ := wd_at ad cs z ho
  rw [ce_obj] at hj
  exact va_get E.1.1 E.1.2.1 E.1.2.2.2.2 (cin_at (ci_ok o)) E.1.2.2.2.1 E.2.1.1 hw.1 j hj (cls_at (ci_ok o)) k hk.1 (E.1.2.2.2.2 _ hq) (fun _ h => h) (by rw [fl_at ad z o hk.1]; unfold fv; rw [hk.2]; rfl) hdg kk
theorem xgG (E : EN p m c cc nL s args own D cs A sk) (hw : OW D ad cs A H0 z H locs) {o k c1 idx : Nat} (hc : ci o = c1) (ho : (o, 100) ∈ KY) (hk : k < cN c1 ∧ fk c1 k = 2) (hq : Cond.fieldLink own idx (cT c1 k).1 (cT c1 k).2.1 (cT c1 k).2.2.1 ∈ W0) (hdg : decode cc pc = .ok (.getfield idx, 3))
    (kk : W p l e R s m args below meth c H locs cells slots Q (F0 m (pc + 3) ls (va_rf (zG z o k) :: rest))) : W p l e R s m args below meth c H locs cells slots Q (F0 m pc ls (.ref (ad o 100) :: rest)) := by
  subst hc
  obtain ⟨j, -, hj⟩ := wd_at ad cs z ho
  rw [ce_obj] at hj
  exact va_get E.1.1 E.1.2.1 E.1.2.2.2.2 (cin_at (ci_ok o)) E.1.2.2.2.1 E.2.1.1 hw.1 j hj (cls_at (ci_ok o)) k hk.1 (E.1.2.2.2.2 _ hq) (fun _ h => h) (by rw [fl_at ad z o hk.1]; unfold fv; rw [hk.2]; rfl) hdg kk
theorem xpI (E : EN p m c cc nL s args own D cs A sk) (hw : OW D ad cs A H0 z H locs) {o k c1 idx : Nat} {v : Int32} {ty : FieldType} (hc : ci o = c1) (ho : (o, 100) ∈ KY) (hk : k < cN c1 ∧ fk c1 k = 0 ∧ (cT c1 k).2.2.2 = false ∧ parseFieldDescriptor (cT c1 k).2.2.1 = some ty) (hn : narrow ty (.int v) = .int v) (hft : fits ty (.int v) = true) (hq : Cond.fieldLink own idx (cT c1 k).1 (cT c1 k).2.1 (cT c1 k).2.2.1 ∈ W0) (hdg : decode cc pc = .ok (.putfield idx, 3))
    (kk : ∀ (z1 : ZS), z1 = wI z o k v → ∀ (H1 : Heap) (locs1 : List Loc), OW D ad cs A H0 z1 H1 locs1 → W p l e R s m args below meth c H1 locs1 cells slots Q (F0 m (pc + 3) ls rest)) : W p l e R s m args below meth c H locs cells slots Q (F0 m pc ls (.int v :: .ref (ad o 100) :: rest)) := by
  subst hc
  obtain ⟨j, hj0, hj⟩ := wd_at ad cs z ho
  rw [ce_obj] at hj
  refine va_put E.1.1 E.1.2.1 E.1.2.2.2.2 (cin_at (ci_ok o)) (cY (ci o)) (cty_at (ci_ok o)) (cnm_at (ci_ok o)) E.1.2.2.2.1 E.2.1.1 hw.1 hw.2.1 hw.2.2 j hj (cls_at (ci_ok o)) k hk.1 (E.1.2.2.2.2 _ hq) (fun _ h => h) hk.2.2.1 hk.2.2.2 hn hft (by rw [fl_len]; exact hk.1) hdg (fun H1 locs1 hP1 hD1 hS1 => ?_)
  rw [set_wI ad cs z v hj0 hk.1 hk.2.1] at hP1 hD1
  exact kk _ rfl H1 locs1 ⟨hP1, hD1, hS1⟩
theorem xpG (E : EN p m c cc nL s args own D cs A sk) (hw : OW D ad cs A H0 z H locs) {o k c1 idx : Nat} {r : Option Nat} {cn : String} (hc : ci o = c1) (ho : (o, 100) ∈ KY) (hk : k < cN c1 ∧ fk c1 k = 2 ∧ (cT c1 k).2.2.2 = false ∧ parseFieldDescriptor (cT c1 k).2.2.1 = some (.object cn)) (hq : Cond.fieldLink own idx (cT c1 k).1 (cT c1 k).2.1 (cT c1 k).2.2.1 ∈ W0) (hdg : decode cc pc = .ok (.putfield idx, 3))
    (kk : ∀ (z1 : ZS), z1 = wG z o k r → ∀ (H1 : Heap) (locs1 : List Loc), OW D ad cs A H0 z1 H1 locs1 → W p l e R s m args below meth c H1 locs1 cells slots Q (F0 m (pc + 3) ls rest)) : W p l e R s m args below meth c H locs cells slots Q (F0 m pc ls (va_rf r :: .ref (ad o 100) :: rest)) := by
  subst hc
  obtain ⟨j, hj0, hj⟩ := wd_at ad cs z ho
  rw [ce_obj] at hj
  refine va_put E.1.1 E.1.2.1 E.1.2.2.2.2 (cin_at (ci_ok o)) (cY (ci o)) (cty_at (ci_ok o)) (cnm_at (ci_ok o)) E.1.2.2.2.1 E.2.1.1 hw.1 hw.2.1 hw.2.2 j hj (cls_at (ci_ok o)) k hk.1 (E.1.2.2.2.2 _ hq) (fun _ h => h) hk.2.2.1 hk.2.2.2 (by cases r <;> rfl) (by cases r <;> rfl) (by rw [fl_len]; exact hk.1) hdg (fun H1 locs1 hP1 hD1 hS1 => ?_)
  rw [set_wG ad cs z r hj0 hk.1 hk.2.1] at hP1 hD1
  exact kk _ rfl H1 locs1 ⟨hP1, hD1, hS1⟩
-- arrays of ints
theorem xal (E : EN p m c cc nL s args own D cs A sk) (hw : OW D ad cs A H0 z H locs) {o k n : Nat} (ho : (o, k) ∈ KY) (ha : k ≠ 100 ∧ ak (o, k) = 0 ∧ al (ci o) k = n) {i : Int32} (hin : vp_in i n) (hdg : decode cc pc = .ok (.iaload, 1))
    (kk : W p l e R s m args below meth c H locs cells slots Q (F0 m (pc + 1) ls (.int (zR z o k i.toNatClampNeg) :: rest))) : W p l e R s m args below meth c H locs cells slots Q (F0 m pc ls (.int i :: .ref (ad o k) :: rest)) := by
  obtain ⟨h1, h2, rfl⟩ := ha
  obtain ⟨j, -, hj⟩ := wd_at ad cs z ho
  rw [ce_arr ad cs z h1 h2] at hj
  exact va_iald E.1.1 E.1.2.1 E.2.1.1 hw.1 j 0 hj rfl hin hdg kk
theorem xas (E : EN p m c cc nL s args own D cs A sk) (hw : OW D ad cs A H0 z H locs) {o k n : Nat} (ho : (o, k) ∈ KY) (ha : k ≠ 100 ∧ ak (o, k) = 0 ∧ al (ci o) k = n) {i v : Int32} (hin : vp_in i n) (hdg : decode cc pc = .ok (.iastore, 1))
    (kk : ∀ (z1 : ZS), z1 = wR z o k i.toNatClampNeg v → ∀ (H1 : Heap) (locs1 : List Loc), OW D ad cs A H0 z1 H1 locs1 → W p l e R s m args below meth c H1 locs1 cells slots Q (F0 m (pc + 1) ls rest)) : W p l e R s m args below meth c H locs cells slots Q (F0 m pc ls (.int v :: .int i :: .ref (ad o k) :: rest)) := by
  obtain ⟨h1, h2, rfl⟩ := ha
  obtain ⟨j, hj0, hj⟩ := wd_at ad cs z ho
  rw [ce_arr ad cs z h1 h2] at hj
  refine va_iast E.1.1 E.1.2.1 E.2.1.1 hw.1 hw.2.1 hw.2.2 j 0 hj rfl hin hdg (fun H1 locs1 hP1 hD1 hS1 => ?_)
  rw [set_wA ad cs z _ hj0 h1 h2] at hP1 hD1
  exact kk _ rfl H1 locs1 ⟨hP1, hD1, hS1⟩
theorem xln (E : EN p m c cc nL s args own D cs A sk) (hw : OW D ad cs A H0 z H locs) {o k n : Nat} (ho : (o, k) ∈ KY) (ha : k ≠ 100 ∧ ak (o, k) = 0 ∧ al (ci o) k = n) {v : Int32} (hv : Int32.ofNat n = v) (hdg : decode cc pc = .ok (.arraylength, 1))
    (kk : W p l e R s m args below meth c H locs cells slots Q (F0 m (pc + 1) ls (.int v :: rest))) : W p l e R s m args below meth c H locs cells slots Q (F0 m pc ls (.ref (ad o k) :: rest)) := by
  obtain ⟨h1, h2, rfl⟩ := ha
  obtain ⟨j, -, hj⟩ := wd_at ad cs z ho
  rw [ce_arr ad cs z h1 h2] at hj
  exact va_alen E.1.1 E.1.2.1 E.2.1.1 hw.1 j 0 hj rfl hv hdg kk
-- arrays of references
theorem xsh (E : EN p m c cc nL s args own D cs A sk) (hw : OW D ad cs A H0 z H locs) {i : Int32} (hin : vp_in i 8) (hdg : decode cc pc = .ok (.aaload, 1))
    (kk : W p l e R s m args below meth c H locs cells slots Q (F0 m (pc + 1) ls (.ref (ad (6 + i.toNatClampNeg) 100) :: rest))) : W p l e R s m args below meth c H locs cells slots Q (F0 m pc ls (.int i :: .ref (ad 0 6) :: rest)) := by
  obtain ⟨j, -, hj⟩ := wd_at ad cs z (q := (0, 6)) (by decide)
  rw [ce_sh] at hj
  refine va_aldq E.1.1 E.1.2.1 E.2.1.1 hw.1 j 1 hj rfl hin hdg ?_
  have h8 : i.toNatClampNeg < 8 := Nat.lt_of_not_le (fun q => hin (Or.inr q))
  rw [if_pos h8]
  exact kk
theorem xfl (E : EN p m c cc nL s args own D cs A sk) (hw : OW D ad cs A H0 z H locs) {o : Nat} (ho : (o, 5) ∈ KY) (hc : ci o = 0) (h5 : o ≠ 15) (h0 : o ≠ 0) {i : Int32} (hin : vp_in i 8) (hdg : decode cc pc = .ok (.aaload, 1))
    (kk : W p l e R s m args below meth c H locs cells slots Q (F0 m (pc + 1) ls (va_rf (zQ z o i.toNatClampNeg) :: rest))) : W p l e R s m args below meth c H locs cells slots Q (F0 m pc ls (.int i :: .ref (ad o 5) :: rest)) := by
  obtain ⟨j, -, hj⟩ := wd_at ad cs z ho
  rw [ce_fa ad cs z hc h5 h0] at hj
  exact va_aldq E.1.1 E.1.2.1 E.2.1.1 hw.1 j 2 hj rfl hin hdg kk
-- the end of a method
abbrev BB (D : va_G) (ad : Nat → Nat → Nat) (cs : Nat → ClassId) (A : Nat → Prop) (u : ZS) (t : State) : Prop := va_P D cls (wd ad cs u) t.heap ∧ va_D A (wd ad cs u)
theorem xrI (hx : p.tables.exec = Jvm.exec) (hb : c.code = cc) (hr : meth.sig.returnType = some .int) (hlocks : meth.locks = false) (hw : OW D ad cs A s.heap z H locs) {post : Int32 → ZS → Prop} {v : Int32} (hp : post v z) (hdg : decode cc pc = .ok (.ireturn, 1)) : W p l e R s m args below meth c H locs cells slots (MQ below (va_Qi post (BB D ad cs A) A) args s cells slots A) (F0 m pc ls [.int v]) :=
  W.iret (v := v) hx hb hr (fun t ht _ => ⟨⟨v, z, rfl, hp, by rw [ht]; exact hw.1, hw.2.1⟩, hw.2.2.F ht⟩) hw.2.2.2.2 hdg hlocks
theorem xrZ (hx : p.tables.exec = Jvm.exec) (hb : c.code = cc) {ty : FieldType} (hr : meth.sig.returnType = some ty) (hlocks : meth.locks = false) (hw : OW D ad cs A s.heap z H locs) {post : Int32 → ZS → Prop} {v : Int32} (hn : narrow ty (.int v) = .int v) (hp : post v z) (hdg : decode cc pc = .ok (.ireturn, 1)) : W p l e R s m args below meth c H locs cells slots (MQ below (va_Qi post (BB D ad cs A) A) args s cells slots A) (F0 m pc ls [.int v]) :=
  W.zret (v := v) hx hb hr hn (fun t ht _ => ⟨⟨v, z, rfl, hp, by rw [ht]; exact hw.1, hw.2.1⟩, hw.2.2.F ht⟩) hw.2.2.2.2 hdg hlocks
theorem xrV (hx : p.tables.exec = Jvm.exec) (hb : c.code = cc) (hr : meth.sig.returnType = none) (hlocks : meth.locks = false) (hw : OW D ad cs A s.heap z H locs) {post : ZS → Prop} (hp : post z) (hdg : decode cc pc = .ok (.return_, 1)) : W p l e R s m args below meth c H locs cells slots (MQ below (va_Qv post (BB D ad cs A) A) args s cells slots A) (F0 m pc ls []) :=
  W.vret hx hb hr (fun t ht _ => ⟨⟨z, rfl, hp, by rw [ht]; exact hw.1, hw.2.1⟩, hw.2.2.F ht⟩) hw.2.2.2.2 hdg hlocks
theorem xrL (hx : p.tables.exec = Jvm.exec) (hb : c.code = cc) (hr : meth.sig.returnType = some .long) (hlocks : meth.locks = false) (hw : OW D ad cs A s.heap z H locs) {post : Int64 → ZS → Prop} {v : Int64} (hp : post v z) (hdg : decode cc pc = .ok (.lreturn, 1)) : W p l e R s m args below meth c H locs cells slots (MQ below (va_Ql post (BB D ad cs A) A) args s cells slots A) (F0 m pc ls [.long v]) :=
  W.lret (v := v) hx hb hr (fun t ht _ => ⟨⟨v, z, rfl, hp, by rw [ht]; exact hw.1, hw.2.1⟩, hw.2.2.F ht⟩) hw.2.2.2.2 hdg hlocks
theorem xrA (hx : p.tables.exec = Jvm.exec) (hb : c.code = cc) {cn : String} (hr : meth.sig.returnType = some (.object cn)) (hlocks : meth.locks = false) (hw : OW D ad cs A s.heap z H locs) {post : Option Nat → ZS → Prop} {r : Option Nat} (hp : post r z) (hdg : decode cc pc = .ok (.areturn, 1)) : W p l e R s m args below meth c H locs cells slots (MQ below (va_Qq post (BB D ad cs A) A) args s cells slots A) (F0 m pc ls [va_rf r]) :=
  W.aret hx hb hr (Or.inl ⟨_, rfl⟩) (by cases r; exact Or.inl rfl; exact Or.inr ⟨_, rfl⟩) (fun t ht _ => ⟨⟨r, z, rfl, hp, by rw [ht]; exact hw.1, hw.2.1⟩, hw.2.2.F ht⟩) hw.2.2.2.2 hdg hlocks
end XR
-- contracts
abbrev PP (D : va_G) (ad : Nat → Nat → Nat) (cs : Nat → ClassId) (A : Nat → Prop) (sk : (Nat → Nat) × (Nat → Nat)) (sz : Nat) (z : ZS) (vs : List Value) : Array Value → State → Prop := va_Pc vs (fun U => U.heap.size = sz ∧ va_P D cls (wd ad cs z) U.heap ∧ KX D cs U ∧ va_D A (wd ad cs z) ∧ SX sk A U)
theorem PP.blind {D : va_G} {ad : Nat → Nat → Nat} {cs : Nat → ClassId} {A : Nat → Prop} {sk : (Nat → Nat) × (Nat → Nat)} {sz : Nat} {z : ZS} {vs : List Value} : FrameBlind (PP D ad cs A sk sz z vs) := fun a U g mk q => ⟨q.1, q.2.1, q.2.2.1, q.2.2.2.1.call g mk a, q.2.2.2.2.1, q.2.2.2.2.2.call g mk a⟩
theorem PP.pre {D : va_G} {ad : Nat → Nat → Nat} {cs : Nat → ClassId} {A : Nat → Prop} {sk : (Nat → Nat) × (Nat → Nat)} {z : ZS} {vs : List Value} {s : State} {H : Heap} {locs : List Loc} (hK : KX D cs s) (hX : SX sk A s) (hw : OW D ad cs A s.heap z H locs) : ∀ U : State, U.heap = H → s.WarmedH U.vm → PP D ad cs A sk H.size z vs vs.toArray U := fun U hU hW => ⟨rfl, by rw [hU], by rw [hU]; exact hw.1, hK.warm hW, hw.2.1, hX.at hw.2.2 hU hW⟩
def MI (l : Launch) (D : va_G) (ad : Nat → Nat → Nat) (cs : Nat → ClassId) (sk : (Nat → Nat) × (Nat → Nat)) (y : MethodName) (bs : ByteArray) (n : Nat) (ty : FieldType) (rm : Room) (vs : List Value) (z : ZS) (post : Int32 → ZS → Prop) : Prop :=
  ∀ (A : Nat → Prop) (sz : Nat), (∀ q, sz ≤ q → A q) → Met l y (.code y bs n (some ty) :: W0) rm (PP D ad cs A sk sz z vs) (va_Qi post (BB D ad cs A) A) rm.cells rm.slots A
def ML (l : Launch) (D : va_G) (ad : Nat → Nat → Nat) (cs : Nat → ClassId) (sk : (Nat → Nat) × (Nat → Nat)) (y : MethodName) (bs : ByteArray) (n : Nat) (rm : Room) (vs : List Value) (z : ZS) (post : Int64 → ZS → Prop) : Prop :=
  ∀ (A : Nat → Prop) (sz : Nat), (∀ q, sz ≤ q → A q) → Met l y (.code y bs n (some .long) :: W0) rm (PP D ad cs A sk sz z vs) (va_Ql post (BB D ad cs A) A) rm.cells rm.slots A
def MV (l : Launch) (D : va_G) (ad : Nat → Nat → Nat) (cs : Nat → ClassId) (sk : (Nat → Nat) × (Nat → Nat)) (y : MethodName) (bs : ByteArray) (n : Nat) (rm : Room) (vs : List Value) (z : ZS) (post : ZS → Prop) : Prop :=
  ∀ (A : Nat → Prop) (sz : Nat), (∀ q, sz ≤ q → A q) → Met l y (.code y bs n none :: W0) rm (PP D ad cs A sk sz z vs) (va_Qv post (BB D ad cs A) A) rm.cells rm.slots A
def MA (l : Launch) (D : va_G) (ad : Nat → Nat → Nat) (cs : Nat → ClassId) (sk : (Nat → Nat) × (Nat → Nat)) (y : MethodName) (bs : ByteArray) (n : Nat) (cn : String) (rm : Room) (vs : List Value) (z : ZS) (post : Option Nat → ZS → Prop) : Prop :=
  ∀ (A : Nat → Prop) (sz : Nat), (∀ q, sz ≤ q → A q) → Met l y (.code y bs n (some (.object cn)) :: W0) rm (PP D ad cs A sk sz z vs) (va_Qq post (BB D ad cs A) A) rm.cells rm.slots A
/-- a level: how deep the calls go, what is made -/
abbrev rmq (d k n : Nat) : Room := { frames := d, cells := k, slots := n, locals := 40 * d }
-- the words of a call
abbrev cV (own : String) (idx : Nat) (C : String) (y : MethodName) (bs : ByteArray) (n : Nat) (ret : Option FieldType) : Prop := Cond.methodLink own idx y ∈ W0 ∧ Cond.instanceMethod y ∈ W0 ∧ Cond.selects C y y ∈ W0 ∧ Cond.initialized y.cls ∈ W0 ∧ Cond.code y bs n ret ∈ W0
abbrev cS (own : String) (idx : Nat) (y : MethodName) (bs : ByteArray) (n : Nat) (ret : Option FieldType) : Prop := Cond.methodLink own idx y ∈ W0 ∧ Cond.static y ∈ W0 ∧ Cond.initialized y.cls ∈ W0 ∧ Cond.code y bs n ret ∈ W0
abbrev yOK (y : MethodName) (n : Nat) : Prop := y.cls ≠ "java/lang/invoke/MethodHandle" ∧ y.cls ≠ "java/lang/invoke/VarHandle" ∧ (parseMethodDescriptor y.desc).map (fun d => d.parameters.length) = some n
section XC
variable {p : Program} {l : Launch} {e : Env} {R : Room} {s : State} {m : MethodId} {args : Array Value} {below : List Frame} {meth : Method} {c : Code} {H : Heap} {locs : List Loc} {cells slots : Nat} {Q : State → Prop}
variable {cc : ByteArray} {nL pc : Nat} {ls : Array Slot} {rest st0 : List Value} {D : va_G} {ad : Nat → Nat → Nat} {cs : Nat → ClassId} {A : Nat → Prop} {sk : (Nat → Nat) × (Nat → Nat)} {z : ZS} {own C : String} {y : MethodName} {bs : ByteArray} {n na idx : Nat} {rm : Room} {As : List Value} {b : Nat}
theorem xwV (E : EN p m c cc nL s args own D cs A sk) {ret : Option FieldType} (hq : cV own idx C y bs n ret) (hy : yOK y na) (hR : rm.frames + 1 ≤ R.frames ∧ 8 + (n + 11) + rm.locals ≤ R.locals) : CallW R s args own C idx y bs n ret (.code y bs n ret :: W0) rm rm.cells rm.slots na :=
  ⟨callB_of na E.1.2.2.2.2 (w0_c hq.2.2.2.2) rfl rfl rfl (E.1.2.2.2.2 _ hq.2.2.2.1) (E.1.2.2.2.2 _ hq.1) hy hR, E.1.2.2.2.2 _ hq.2.1, E.1.2.2.2.2 _ hq.2.2.1⟩
theorem xwS (E : EN p m c cc nL s args own D cs A sk) {ret : Option FieldType} (hq : cS own idx y bs n ret) (hy : yOK y na) (hR : rm.frames + 1 ≤ R.frames ∧ 8 + (n + 11) + rm.locals ≤ R.locals) : CallB R s args own idx y bs n ret (.code y bs n ret :: W0) rm rm.cells rm.slots na ∧ (Cond.static y).before args s = true :=
  ⟨callB_of na E.1.2.2.2.2 (w0_c hq.2.2.2) rfl rfl rfl (E.1.2.2.2.2 _ hq.2.2.1) (E.1.2.2.2.2 _ hq.1) hy hR, E.1.2.2.2.2 _ hq.2.1⟩
theorem xwN (E : EN p m c cc nL s args own D cs A sk) {ret : Option FieldType} {host : String} (hl : va_Nw (.methodLinkNest own idx y host) s) (hq : Cond.static y ∈ W0 ∧ Cond.initialized y.cls ∈ W0 ∧ Cond.code y bs n ret ∈ W0) (hy : yOK y na) (hR : rm.frames + 1 ≤ R.frames ∧ 8 + (n + 11) + rm.locals ≤ R.locals) : va_CN R s args own idx y host bs n ret (.code y bs n ret :: W0) rm rm.cells rm.slots na ∧ (Cond.static y).before args s = true ∧ True :=
  ⟨va_cnB na E.1.2.2.2.2 (w0_c hq.2.2) rfl rfl rfl hl (E.1.2.2.2.2 _ hq.2.1) hy hR, E.1.2.2.2.2 _ hq.1, trivial⟩
/-- the receiver among the numbered objects -/
theorem xrc (E : EN p m c cc nL s args own D cs A sk) (hw : OW D ad cs A s.heap z H locs) {o : Nat} (ho : (o, 100) ∈ KY) {c1 : Nat} (hc : ci o = c1) : ∃ cell : Cell, H[ad o 100]? = some cell ∧ cell.vm.isStatics = false ∧ s.vm.findClass (cC c1) = some cell.cls := by
  subst hc
  obtain ⟨j, -, hj⟩ := wd_at ad cs z ho
  rw [ce_obj] at hj
  exact va_recv E.2.1.1 hw.1 (cls_at (ci_ok o)) hj
theorem xA (hw : OW D ad cs A s.heap z H locs) (hA : ∀ q, s.heap.size ≤ q → A q) : ∀ q, H.size ≤ q → A q := fun q h => hA q (Nat.le_trans hw.2.2.1 h)
-- calls that answer an int or a boolean
theorem xcVI (E : EN p m c cc nL s args own D cs A sk) (hw : OW D ad cs A s.heap z H locs) (hA : ∀ q, s.heap.size ≤ q → A q) {ty : FieldType} {post : Int32 → ZS → Prop} (hM : MI l D ad cs sk y bs n ty rm (.ref b :: As) z post) (hq : cV own idx C y bs n (some ty)) (hy : yOK y na) (hR : rm.frames + 1 ≤ R.frames ∧ 8 + (n + 11) + rm.locals ≤ R.locals) (hrc : ∃ cell : Cell, H[b]? = some cell ∧ cell.vm.isStatics = false ∧ s.vm.findClass C = some cell.cls) (hna : As.length = na) (hsz : ls.size = nL) (hst : st0 = As.reverse ++ .ref b :: rest) (h8 : (rest.map fun v => v.category).sum ≤ 8) (hdg : decode cc pc = .ok (.invokevirtual idx, 3)) (hf : cells + rm.cells ≤ R.cells ∧ slots + rm.slots ≤ R.slots)
    (kk : ∀ (r : Int32) (z1 : ZS) (H1 : Heap) (locs1 : List Loc), post r z1 → OW D ad cs A s.heap z1 H1 locs1 → W p l e R s m args below meth c H1 locs1 (cells + rm.cells) (slots + rm.slots) Q (F0 m (pc + 3) ls (.int r :: rest))) : W p l e R s m args below meth c H locs cells slots Q (F0 m pc ls st0) :=
  va_calli (va_runV E.1 (hM A H.size (xA hw hA)) (xwV E hq hy hR) ⟨PP.blind, hrc, PP.pre E.2.1 E.2.2 hw⟩ rfl hna hsz hst (lv_room h8) hdg hf) hw.2.2 (fun _ _ h => h) (fun _ h => h) (fun r u t H1 locs1 ht _ hp hB _ _ hS1 => kk r u H1 locs1 hp ⟨by rw [← ht]; exact hB.1, hB.2, hS1⟩)
theorem xcSI (E : EN p m c cc nL s args own D cs A sk) (hw : OW D ad cs A s.heap z H locs) (hA : ∀ q, s.heap.size ≤ q → A q) {ty : FieldType} {post : Int32 → ZS → Prop} (hM : MI l D ad cs sk y bs n ty rm As z post) (hq : cS own idx y bs n (some ty)) (hy : yOK y na) (hR : rm.frames + 1 ≤ R.frames ∧ 8 + (n + 11) + rm.locals ≤ R.locals) (hna : As.length = na) (hsz : ls.size = nL) (hst : st0 = As.reverse ++ rest) (h8 : (rest.map fun v => v.category).sum ≤ 8) (hdg : decode cc pc = .ok (.invokestatic idx, 3)) (hf : cells + rm.cells ≤ R.cells ∧ slots + rm.slots ≤ R.slots)
    (kk : ∀ (r : Int32) (z1 : ZS) (H1 : Heap) (locs1 : List Loc), post r z1 → OW D ad cs A s.heap z1 H1 locs1 → W p l e R s m args below meth c H1 locs1 (cells + rm.cells) (slots + rm.slots) Q (F0 m (pc + 3) ls (.int r :: rest))) : W p l e R s m args below meth c H locs cells slots Q (F0 m pc ls st0) :=
  va_calli (va_runS E.1 (hM A H.size (xA hw hA)) (xwS E hq hy hR) ⟨PP.blind, PP.pre E.2.1 E.2.2 hw⟩ rfl hna hsz hst (lv_room h8) hdg hf) hw.2.2 (fun _ _ h => h) (fun _ h => h) (fun r u t H1 locs1 ht _ hp hB _ _ hS1 => kk r u H1 locs1 hp ⟨by rw [← ht]; exact hB.1, hB.2, hS1⟩)
theorem xcNI (E : EN p m c cc nL s args own D cs A sk) (hw : OW D ad cs A s.heap z H locs) (hA : ∀ q, s.heap.size ≤ q → A q) {ty : FieldType} {post : Int32 → ZS → Prop} {host : String} (hM : MI l D ad cs sk y bs n ty rm As z post) (hl : va_Nw (.methodLinkNest own idx y host) s) (hq : Cond.static y ∈ W0 ∧ Cond.initialized y.cls ∈ W0 ∧ Cond.code y bs n (some ty) ∈ W0) (hy : yOK y na) (hR : rm.frames + 1 ≤ R.frames ∧ 8 + (n + 11) + rm.locals ≤ R.locals) (hna : As.length = na) (hsz : ls.size = nL) (hst : st0 = As.reverse ++ rest) (h8 : (rest.map fun v => v.category).sum ≤ 8) (hdg : decode cc pc = .ok (.invokestatic idx, 3)) (hf : cells + rm.cells ≤ R.cells ∧ slots + rm.slots ≤ R.slots)
    (kk : ∀ (r : Int32) (z1 : ZS) (H1 : Heap) (locs1 : List Loc), post r z1 → OW D ad cs A s.heap z1 H1 locs1 → W p l e R s m args below meth c H1 locs1 (cells + rm.cells) (slots + rm.slots) Q (F0 m (pc + 3) ls (.int r :: rest))) : W p l e R s m args below meth c H locs cells slots Q (F0 m pc ls st0) :=
  va_calli (va_runSN E.1 (hM A H.size (xA hw hA)) (xwN E hl hq hy hR) ⟨PP.blind, PP.pre E.2.1 E.2.2 hw⟩ rfl hna hsz hst (lv_room h8) hdg hf) hw.2.2 (fun _ _ h => h) (fun _ h => h) (fun r u t H1 locs1 ht _ hp hB _ _ hS1 => kk r u H1 locs1 hp ⟨by rw [← ht]; exact hB.1, hB.2, hS1⟩)
-- calls that answer a long
theorem xcVL (E : EN p m c cc nL s args own D cs A sk) (hw : OW D ad cs A s.heap z H locs) (hA : ∀ q, s.heap.size ≤ q → A q) {post : Int64 → ZS → Prop} (hM : ML l D ad cs sk y bs n rm (.ref b :: As) z post) (hq : cV own idx C y bs n (some .long)) (hy : yOK y na) (hR : rm.frames + 1 ≤ R.frames ∧ 8 + (n + 11) + rm.locals ≤ R.locals) (hrc : ∃ cell : Cell, H[b]? = some cell ∧ cell.vm.isStatics = false ∧ s.vm.findClass C = some cell.cls) (hna : As.length = na) (hsz : ls.size = nL) (hst : st0 = As.reverse ++ .ref b :: rest) (h8 : (rest.map fun v => v.category).sum ≤ 8) (hdg : decode cc pc = .ok (.invokevirtual idx, 3)) (hf : cells + rm.cells ≤ R.cells ∧ slots + rm.slots ≤ R.slots)
    (kk : ∀ (r : Int64) (z1 : ZS) (H1 : Heap) (locs1 : List Loc), post r z1 → OW D ad cs A s.heap z1 H1 locs1 → W p l e R s m args below meth c H1 locs1 (cells + rm.cells) (slots + rm.slots) Q (F0 m (pc + 3) ls (.long r :: rest))) : W p l e R s m args below meth c H locs cells slots Q (F0 m pc ls st0) :=
  va_calll (va_runV E.1 (hM A H.size (xA hw hA)) (xwV E hq hy hR) ⟨PP.blind, hrc, PP.pre E.2.1 E.2.2 hw⟩ rfl hna hsz hst (lv_room h8) hdg hf) hw.2.2 (fun _ _ h => h) (fun _ h => h) (fun r u t H1 locs1 ht _ hp hB _ _ hS1 => kk r u H1 locs1 hp ⟨by rw [← ht]; exact hB.1, hB.2, hS1⟩)
-- calls that answer nothing
theorem xcVV (E : EN p m c cc nL s args own D cs A sk) (hw : OW D ad cs A s.heap z H locs) (hA : ∀ q, s.heap.size ≤ q → A q) {post : ZS → Prop} (hM : MV l D ad cs sk y bs n rm (.ref b :: As) z post) (hq : cV own idx C y bs n none) (hy : yOK y na) (hR : rm.frames + 1 ≤ R.frames ∧ 8 + (n + 11) + rm.locals ≤ R.locals) (hrc : ∃ cell : Cell, H[b]? = some cell ∧ cell.vm.isStatics = false ∧ s.vm.findClass C = some cell.cls) (hna : As.length = na) (hsz : ls.size = nL) (hst : st0 = As.reverse ++ .ref b :: rest) (h8 : (rest.map fun v => v.category).sum ≤ 8) (hdg : decode cc pc = .ok (.invokevirtual idx, 3)) (hf : cells + rm.cells ≤ R.cells ∧ slots + rm.slots ≤ R.slots)
    (kk : ∀ (z1 : ZS) (H1 : Heap) (locs1 : List Loc), post z1 → OW D ad cs A s.heap z1 H1 locs1 → W p l e R s m args below meth c H1 locs1 (cells + rm.cells) (slots + rm.slots) Q (F0 m (pc + 3) ls rest)) : W p l e R s m args below meth c H locs cells slots Q (F0 m pc ls st0) :=
  va_callv (va_runV E.1 (hM A H.size (xA hw hA)) (xwV E hq hy hR) ⟨PP.blind, hrc, PP.pre E.2.1 E.2.2 hw⟩ rfl hna hsz hst (lv_room h8) hdg hf) hw.2.2 (fun _ _ h => h) (fun _ h => h) (fun u t H1 locs1 ht _ hp hB _ _ hS1 => kk u H1 locs1 hp ⟨by rw [← ht]; exact hB.1, hB.2, hS1⟩)
-- calls that answer a reference
theorem xcVA (E : EN p m c cc nL s args own D cs A sk) (hw : OW D ad cs A s.heap z H locs) (hA : ∀ q, s.heap.size ≤ q → A q) {cn : String} {post : Option Nat → ZS → Prop} (hM : MA l D ad cs sk y bs n cn rm (.ref b :: As) z post) (hq : cV own idx C y bs n (some (.object cn))) (hy : yOK y na) (hR : rm.frames + 1 ≤ R.frames ∧ 8 + (n + 11) + rm.locals ≤ R.locals) (hrc : ∃ cell : Cell, H[b]? = some cell ∧ cell.vm.isStatics = false ∧ s.vm.findClass C = some cell.cls) (hna : As.length = na) (hsz : ls.size = nL) (hst : st0 = As.reverse ++ .ref b :: rest) (h8 : (rest.map fun v => v.category).sum ≤ 8) (hdg : decode cc pc = .ok (.invokevirtual idx, 3)) (hf : cells + rm.cells ≤ R.cells ∧ slots + rm.slots ≤ R.slots)
    (kk : ∀ (r : Option Nat) (z1 : ZS) (H1 : Heap) (locs1 : List Loc), post r z1 → OW D ad cs A s.heap z1 H1 locs1 → W p l e R s m args below meth c H1 locs1 (cells + rm.cells) (slots + rm.slots) Q (F0 m (pc + 3) ls (va_rf r :: rest))) : W p l e R s m args below meth c H locs cells slots Q (F0 m pc ls st0) :=
  va_callq (va_runV E.1 (hM A H.size (xA hw hA)) (xwV E hq hy hR) ⟨PP.blind, hrc, PP.pre E.2.1 E.2.2 hw⟩ rfl hna hsz hst (lv_room h8) hdg hf) hw.2.2 (fun _ _ h => h) (fun _ h => h) (fun r u t H1 locs1 ht _ hp hB _ _ hS1 => kk r u H1 locs1 hp ⟨by rw [← ht]; exact hB.1, hB.2, hS1⟩)
theorem xcSA (E : EN p m c cc nL s args own D cs A sk) (hw : OW D ad cs A s.heap z H locs) (hA : ∀ q, s.heap.size ≤ q → A q) {cn : String} {post : Option Nat → ZS → Prop} (hM : MA l D ad cs sk y bs n cn rm As z post) (hq : cS own idx y bs n (some (.object cn))) (hy : yOK y na) (hR : rm.frames + 1 ≤ R.frames ∧ 8 + (n + 11) + rm.locals ≤ R.locals) (hna : As.length = na) (hsz : ls.size = nL) (hst : st0 = As.reverse ++ rest) (h8 : (rest.map fun v => v.category).sum ≤ 8) (hdg : decode cc pc = .ok (.invokestatic idx, 3)) (hf : cells + rm.cells ≤ R.cells ∧ slots + rm.slots ≤ R.slots)
    (kk : ∀ (r : Option Nat) (z1 : ZS) (H1 : Heap) (locs1 : List Loc), post r z1 → OW D ad cs A s.heap z1 H1 locs1 → W p l e R s m args below meth c H1 locs1 (cells + rm.cells) (slots + rm.slots) Q (F0 m (pc + 3) ls (va_rf r :: rest))) : W p l e R s m args below meth c H locs cells slots Q (F0 m pc ls st0) :=
  va_callq (va_runS E.1 (hM A H.size (xA hw hA)) (xwS E hq hy hR) ⟨PP.blind, PP.pre E.2.1 E.2.2 hw⟩ rfl hna hsz hst (lv_room h8) hdg hf) hw.2.2 (fun _ _ h => h) (fun _ h => h) (fun r u t H1 locs1 ht _ hp hB _ _ hS1 => kk r u H1 locs1 hp ⟨by rw [← ht]; exact hB.1, hB.2, hS1⟩)
end XC
-- a contract out of the walk of its body
theorem MI.of {l : Launch} {D : va_G} {ad : Nat → Nat → Nat} {cs : Nat → ClassId} {sk : (Nat → Nat) × (Nat → Nat)} {y : MethodName} {bs : ByteArray} {n : Nat} {ty : FieldType} {rm : Room} {vs : List Value} {z : ZS} {post : Int32 → ZS → Prop} (own : String) (ho : y.cls = own) (hy : plainName y.cls = true) (hl : (lg_sl vs).length ≤ n)
    (body : ∀ (p : Program) (e : Env) (s : State) (m : MethodId) (args : Array Value) (below : List Frame) (meth : Method) (c : Code) (A : Nat → Prop) (Q : State → Prop), EN p m c bs n s args own D cs A sk → OW D ad cs A s.heap z s.heap [] → (∀ q, s.heap.size ≤ q → A q) → (∀ (v : Int32) (z1 : ZS) (H : Heap) (locs : List Loc) (pc : Nat) (ls : Array Slot), OW D ad cs A s.heap z1 H locs → narrow ty (.int v) = .int v → post v z1 → decode bs pc = .ok (.ireturn, 1) → W p l e rm s m args below meth c H locs rm.cells rm.slots Q (F0 m pc ls [.int v])) → ∀ ls : Array Slot, lv_has ls n (lv_args 0 vs) → W p l e rm s m args below meth c s.heap [] 0 0 Q (F0 m 0 ls [])) : MI l D ad cs sk y bs n ty rm vs z post := by
  subst ho
  intro A sz hA
  refine Met.ofW (cc := bs) (maxL := n) (ret := some ty) hy rfl ?_
  intro p e s m args below meth c s₁ B hml hv
  obtain ⟨rfl, hsz, hP, hK, hD, hX⟩ := hv
  subst hsz
  have hts := atoms_spec (ws := Cond.code y bs n (some ty) :: W0) B.pre
  rw [lg_entry_eq]
  refine body p e s m _ below meth c A _ ⟨⟨B.exec, B.bytes, hml, findClass_of_methodNamed B.named, fun w h => hts w (List.mem_cons_of_mem _ h)⟩, hK, hX⟩ ⟨hP, hD, va_S.rf⟩ hA (fun v z1 H locs pc ls hw hn hp hd => ?_) _ (lv_entry vs hl)
  exact xrZ B.exec B.bytes B.returns B.notSynchronized hw hn hp hd
theorem ML.of {l : Launch} {D : va_G} {ad : Nat → Nat → Nat} {cs : Nat → ClassId} {sk : (Nat → Nat) × (Nat → Nat)} {y : MethodName} {bs : ByteArray} {n : Nat} {rm : Room} {vs : List Value} {z : ZS} {post : Int64 → ZS → Prop} (own : String) (ho : y.cls = own) (hy : plainName y.cls = true) (hl : (lg_sl vs).length ≤ n)
    (body : ∀ (p : Program) (e : Env) (s : State) (m : MethodId) (args : Array Value) (below : List Frame) (meth : Method) (c : Code) (A : Nat → Prop) (Q : State → Prop), EN p m c bs n s args own D cs A sk → OW D ad cs A s.heap z s.heap [] → (∀ q, s.heap.size ≤ q → A q) → (∀ (v : Int64) (z1 : ZS) (H : Heap) (locs : List Loc) (pc : Nat) (ls : Array Slot), OW D ad cs A s.heap z1 H locs → post v z1 → decode bs pc = .ok (.lreturn, 1) → W p l e rm s m args below meth c H locs rm.cells rm.slots Q (F0 m pc ls [.long v])) → ∀ ls : Array Slot, lv_has ls n (lv_args 0 vs) → W p l e rm s m args below meth c s.heap [] 0 0 Q (F0 m 0 ls [])) : ML l D ad cs sk y bs n rm vs z post := by
  subst ho
  intro A sz hA
  refine Met.ofW (cc := bs) (maxL := n) (ret := some .long) hy rfl ?_
  intro p e s m args below meth c s₁ B hml hv
  obtain ⟨rfl, hsz, hP, hK, hD, hX⟩ := hv
  subst hsz
  have hts := atoms_spec (ws := Cond.code y bs n (some .long) :: W0) B.pre
  rw [lg_entry_eq]
  refine body p e s m _ below meth c A _ ⟨⟨B.exec, B.bytes, hml, findClass_of_methodNamed B.named, fun w h => hts w (List.mem_cons_of_mem _ h)⟩, hK, hX⟩ ⟨hP, hD, va_S.rf⟩ hA (fun v z1 H locs pc ls hw hp hd => ?_) _ (lv_entry vs hl)
  exact xrL B.exec B.bytes B.returns B.notSynchronized hw hp hd
theorem MV.of {l : Launch} {D : va_G} {ad : Nat → Nat → Nat} {cs : Nat → ClassId} {sk : (Nat → Nat) × (Nat → Nat)} {y : MethodName} {bs : ByteArray} {n : Nat} {rm : Room} {vs : List Value} {z : ZS} {post : ZS → Prop} (own : String) (ho : y.cls = own) (hy : plainName y.cls = true) (hl : (lg_sl vs).length ≤ n)
    (body : ∀ (p : Program) (e : Env) (s : State) (m : MethodId) (args : Array Value) (below : List Frame) (meth : Method) (c : Code) (A : Nat → Prop) (Q : State → Prop), EN p m c bs n s args own D cs A sk → OW D ad cs A s.heap z s.heap [] → (∀ q, s.heap.size ≤ q → A q) → (∀ (z1 : ZS) (H : Heap) (locs : List Loc) (pc : Nat) (ls : Array Slot), OW D ad cs A s.heap z1 H locs → post z1 → decode bs pc = .ok (.return_, 1) → W p l e rm s m args below meth c H locs rm.cells rm.slots Q (F0 m pc ls [])) → ∀ ls : Array Slot, lv_has ls n (lv_args 0 vs) → W p l e rm s m args below meth c s.heap [] 0 0 Q (F0 m 0 ls [])) : MV l D ad cs sk y bs n rm vs z post := by
  subst ho
  intro A sz hA
  refine Met.ofW (cc := bs) (maxL := n) (ret := none) hy rfl ?_
  intro p e s m args below meth c s₁ B hml hv
  obtain ⟨rfl, hsz, hP, hK, hD, hX⟩ := hv
  subst hsz
  have hts := atoms_spec (ws := Cond.code y bs n (none) :: W0) B.pre
  rw [lg_entry_eq]
  refine body p e s m _ below meth c A _ ⟨⟨B.exec, B.bytes, hml, findClass_of_methodNamed B.named, fun w h => hts w (List.mem_cons_of_mem _ h)⟩, hK, hX⟩ ⟨hP, hD, va_S.rf⟩ hA (fun z1 H locs pc ls hw hp hd => ?_) _ (lv_entry vs hl)
  exact xrV B.exec B.bytes B.returns B.notSynchronized hw hp hd
theorem MA.of {l : Launch} {D : va_G} {ad : Nat → Nat → Nat} {cs : Nat → ClassId} {sk : (Nat → Nat) × (Nat → Nat)} {y : MethodName} {bs : ByteArray} {n : Nat} {cn : String} {rm : Room} {vs : List Value} {z : ZS} {post : Option Nat → ZS → Prop} (own : String) (ho : y.cls = own) (hy : plainName y.cls = true) (hl : (lg_sl vs).length ≤ n)
    (body : ∀ (p : Program) (e : Env) (s : State) (m : MethodId) (args : Array Value) (below : List Frame) (meth : Method) (c : Code) (A : Nat → Prop) (Q : State → Prop), EN p m c bs n s args own D cs A sk → OW D ad cs A s.heap z s.heap [] → (∀ q, s.heap.size ≤ q → A q) → (∀ (v : Option Nat) (z1 : ZS) (H : Heap) (locs : List Loc) (pc : Nat) (ls : Array Slot), OW D ad cs A s.heap z1 H locs → post v z1 → decode bs pc = .ok (.areturn, 1) → W p l e rm s m args below meth c H locs rm.cells rm.slots Q (F0 m pc ls [va_rf v])) → ∀ ls : Array Slot, lv_has ls n (lv_args 0 vs) → W p l e rm s m args below meth c s.heap [] 0 0 Q (F0 m 0 ls [])) : MA l D ad cs sk y bs n cn rm vs z post := by
  subst ho
  intro A sz hA
  refine Met.ofW (cc := bs) (maxL := n) (ret := some (.object cn)) hy rfl ?_
  intro p e s m args below meth c s₁ B hml hv
  obtain ⟨rfl, hsz, hP, hK, hD, hX⟩ := hv
  subst hsz
  have hts := atoms_spec (ws := Cond.code y bs n (some (.object cn)) :: W0) B.pre
  rw [lg_entry_eq]
  refine body p e s m _ below meth c A _ ⟨⟨B.exec, B.bytes, hml, findClass_of_methodNamed B.named, fun w h => hts w (List.mem_cons_of_mem _ h)⟩, hK, hX⟩ ⟨hP, hD, va_S.rf⟩ hA (fun v z1 H locs pc ls hw hp hd => ?_) _ (lv_entry vs hl)
  exact xrA B.exec B.bytes B.returns B.notSynchronized hw hp hd
