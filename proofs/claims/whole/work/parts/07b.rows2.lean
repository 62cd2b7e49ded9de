/-! more rows: arrays at written places; references that may be null -/
section XR2
variable {p : Program} {l : Launch} {e : Env} {R : Room} {s : State} {m : MethodId} {args : Array Value} {below : List Frame} {meth : Method} {c : Code} {H : Heap} {locs : List Loc} {cells slots : Nat} {Q : State → Prop}
variable {cc : ByteArray} {nL pc : Nat} {ls : Array Slot} {rest : List Value} {D : va_G} {ad : Nat → Nat → Nat} {cs : Nat → ClassId} {A : Nat → Prop} {sk : (Nat → Nat) × (Nat → Nat)} {H0 : Heap} {z : ZS} {own : String}
theorem xalL (E : EN p m c cc nL s args own D cs A sk) (hw : OW D ad cs A H0 z H locs) {o k n : Nat} (ho : (o, k) ∈ KY) (ha : k ≠ 100 ∧ ak (o, k) = 0 ∧ al (ci o) k = n) {i : Int32} {j : Nat} (hj : i.toNatClampNeg = j) (hin : ¬ (i < 0 ∨ n ≤ i.toNatClampNeg)) (hdg : decode cc pc = .ok (.iaload, 1))
    (kk : W p l e R s m args below meth c H locs cells slots Q (F0 m (pc + 1) ls (.int (zR z o k j) :: rest))) : W p l e R s m args below meth c H locs cells slots Q (F0 m pc ls (.int i :: .ref (ad o k) :: rest)) := by
  subst hj
  exact xal E hw ho ha hin hdg kk
theorem xasL (E : EN p m c cc nL s args own D cs A sk) (hw : OW D ad cs A H0 z H locs) {o k n : Nat} (ho : (o, k) ∈ KY) (ha : k ≠ 100 ∧ ak (o, k) = 0 ∧ al (ci o) k = n) {i v : Int32} {j : Nat} (hj : i.toNatClampNeg = j) (hin : ¬ (i < 0 ∨ n ≤ i.toNatClampNeg)) (hdg : decode cc pc = .ok (.iastore, 1))
    (kk : ∀ (z1 : ZS), z1 = wR z o k j v → ∀ (H1 : Heap) (locs1 : List Loc), OW D ad cs A H0 z1 H1 locs1 → W p l e R s m args below meth c H1 locs1 cells slots Q (F0 m (pc + 1) ls rest)) : W p l e R s m args below meth c H locs cells slots Q (F0 m pc ls (.int v :: .int i :: .ref (ad o k) :: rest)) := by
  subst hj
  exact xas E hw ho ha hin hdg kk
theorem xlqaload_n (hx : p.tables.exec = Jvm.exec) (hb : c.code = cc) {k : Fin 4} {i : Nat} {r : Option Nat} (hdg : decode cc pc = .ok (.aload_n k, 1)) (hi : (k : Nat) = i) (hl : ls[i]? = some (.val (va_rf r)))
    (kk : W p l e R s m args below meth c H locs cells slots Q (F0 m (pc + 1) ls (va_rf r :: rest))) : W p l e R s m args below meth c H locs cells slots Q (F0 m pc ls rest) := by
  cases r with
  | none => exact lv_aload_nN hx hb hdg hi hl kk
  | some a => exact lv_aload_n hx hb hdg hi hl kk
theorem xlqaload (hx : p.tables.exec = Jvm.exec) (hb : c.code = cc) {i : Nat} {r : Option Nat} (hdg : decode cc pc = .ok (.aload i, 2)) (hl : ls[i]? = some (.val (va_rf r)))
    (kk : W p l e R s m args below meth c H locs cells slots Q (F0 m (pc + 2) ls (va_rf r :: rest))) : W p l e R s m args below meth c H locs cells slots Q (F0 m pc ls rest) := by
  cases r with
  | none => exact lv_aloadN hx hb hdg hl kk
  | some a => exact lv_aload hx hb hdg hl kk
theorem xsqastore_n (hx : p.tables.exec = Jvm.exec) (hb : c.code = cc) {k : Fin 4} {i nL : Nat} {r : Option Nat} {lv lv' : List (Nat × Value)} (hdg : decode cc pc = .ok (.astore_n k, 1)) (hi : (k : Nat) = i) (h : lv_has ls nL lv) (hn : i < nL) (hl : (i, va_rf r) :: lv.filter (fun q => !(q.1 == i) && !(q.1 + 1 == i && q.2.category == 2)) = lv')
    (kk : ∀ ls' : Array Slot, lv_has ls' nL lv' → W p l e R s m args below meth c H locs cells slots Q (F0 m (pc + 1) ls' rest)) : W p l e R s m args below meth c H locs cells slots Q (F0 m pc ls (va_rf r :: rest)) := by
  cases r with
  | none => exact lv_astore_nN hx hb hdg hi h hn hl kk
  | some a => exact lv_astore_n hx hb hdg hi h hn hl kk
theorem xsqastore (hx : p.tables.exec = Jvm.exec) (hb : c.code = cc) {i nL : Nat} {r : Option Nat} {lv lv' : List (Nat × Value)} (hdg : decode cc pc = .ok (.astore i, 2)) (h : lv_has ls nL lv) (hn : i < nL) (hl : (i, va_rf r) :: lv.filter (fun q => !(q.1 == i) && !(q.1 + 1 == i && q.2.category == 2)) = lv')
    (kk : ∀ ls' : Array Slot, lv_has ls' nL lv' → W p l e R s m args below meth c H locs cells slots Q (F0 m (pc + 2) ls' rest)) : W p l e R s m args below meth c H locs cells slots Q (F0 m pc ls (va_rf r :: rest)) := by
  cases r with
  | none => exact lv_astoreN hx hb hdg h hn hl kk
  | some a => exact lv_astore hx hb hdg h hn hl kk
theorem xtopq {r : Option Nat} (k : ∀ y : Option Nat, y = r → W p l e R s m args below meth c H locs cells slots Q (F0 m pc ls (va_rf y :: rest))) : W p l e R s m args below meth c H locs cells slots Q (F0 m pc ls (va_rf r :: rest)) := k r rfl
theorem xnul (hx : p.tables.exec = Jvm.exec) (hb : c.code = cc) {r : Option Nat} {off : Int} {tgt : Nat} (hdg : decode cc pc = .ok (.ifnull off, 3)) (ht : (pc : Int) + off = (tgt : Int)) (kt : r = none → W p l e R s m args below meth c H locs cells slots Q (F0 m tgt ls rest)) (kf : ∀ a, r = some a → W p l e R s m args below meth c H locs cells slots Q (F0 m (pc + 3) ls rest)) : W p l e R s m args below meth c H locs cells slots Q (F0 m pc ls (va_rf r :: rest)) := by
  cases r with
  | none => exact lv_ifnullN hx hb hdg ht (kt rfl)
  | some a => exact lv_ifnull hx hb hdg (kf a rfl)
theorem xnnl (hx : p.tables.exec = Jvm.exec) (hb : c.code = cc) {r : Option Nat} {off : Int} {tgt : Nat} (hdg : decode cc pc = .ok (.ifnonnull off, 3)) (ht : (pc : Int) + off = (tgt : Int)) (kf : r = none → W p l e R s m args below meth c H locs cells slots Q (F0 m (pc + 3) ls rest)) (kt : ∀ a, r = some a → W p l e R s m args below meth c H locs cells slots Q (F0 m tgt ls rest)) : W p l e R s m args below meth c H locs cells slots Q (F0 m pc ls (va_rf r :: rest)) := by
  cases r with
  | none => exact lv_ifnonnullN hx hb hdg (kf rfl)
  | some a => exact lv_ifnonnull hx hb hdg ht (kt a rfl)
theorem xnulo (hx : p.tables.exec = Jvm.exec) (hb : c.code = cc) {r : Option Nat} {f : Nat → Nat} {off : Int} {tgt : Nat} (hdg : decode cc pc = .ok (.ifnull off, 3)) (ht : (pc : Int) + off = (tgt : Int)) (kt : r = none → W p l e R s m args below meth c H locs cells slots Q (F0 m tgt ls rest)) (kf : ∀ a, r = some a → W p l e R s m args below meth c H locs cells slots Q (F0 m (pc + 3) ls rest)) : W p l e R s m args below meth c H locs cells slots Q (F0 m pc ls (va_rf (Option.map f r) :: rest)) := by
  cases r with
  | none => exact lv_ifnullN hx hb hdg ht (kt rfl)
  | some a => exact lv_ifnull hx hb hdg (kf a rfl)
theorem xnnlo (hx : p.tables.exec = Jvm.exec) (hb : c.code = cc) {r : Option Nat} {f : Nat → Nat} {off : Int} {tgt : Nat} (hdg : decode cc pc = .ok (.ifnonnull off, 3)) (ht : (pc : Int) + off = (tgt : Int)) (kf : r = none → W p l e R s m args below meth c H locs cells slots Q (F0 m (pc + 3) ls rest)) (kt : ∀ a, r = some a → W p l e R s m args below meth c H locs cells slots Q (F0 m tgt ls rest)) : W p l e R s m args below meth c H locs cells slots Q (F0 m pc ls (va_rf (Option.map f r) :: rest)) := by
  cases r with
  | none => exact lv_ifnonnullN hx hb hdg (kf rfl)
  | some a => exact lv_ifnonnull hx hb hdg ht (kt a rfl)
end XR2
-- the numbered objects of a class
def isA (o : Nat) : Prop := o = 1 ∨ o = 2 ∨ o = 3
def isL (o : Nat) : Prop := o = 4 ∨ o = 5
def isS (o : Nat) : Prop := 6 ≤ o ∧ o < 14
theorem is_1 : isA 1 := Or.inl rfl
theorem is_2 : isA 2 := Or.inr (Or.inl rfl)
theorem is_3 : isA 3 := Or.inr (Or.inr rfl)
theorem is_4 : isL 4 := Or.inl rfl
theorem is_5 : isL 5 := Or.inr rfl
theorem isS_cases {P : Nat → Prop} (h6 : P 6) (h7 : P 7) (h8 : P 8) (h9 : P 9) (h10 : P 10) (h11 : P 11) (h12 : P 12) (h13 : P 13) {o : Nat} (h : isS o) : P o := by
  obtain ⟨h1, h2⟩ := h
  rcases (show o = 6 ∨ o = 7 ∨ o = 8 ∨ o = 9 ∨ o = 10 ∨ o = 11 ∨ o = 12 ∨ o = 13 by omega) with rfl | rfl | rfl | rfl | rfl | rfl | rfl | rfl <;> assumption
theorem isA_cases {P : Nat → Prop} (h1 : P 1) (h2 : P 2) (h3 : P 3) {o : Nat} (h : isA o) : P o := by
  rcases h with rfl | rfl | rfl <;> assumption
theorem isL_cases {P : Nat → Prop} (h1 : P 4) (h2 : P 5) {o : Nat} (h : isL o) : P o := by
  rcases h with rfl | rfl <;> assumption
theorem ciisA {o : Nat} (h : isA o) : ci o = 0 := isA_cases (P := fun o => ci o = 0) rfl rfl rfl h
theorem ciisL {o : Nat} (h : isL o) : ci o = 3 := isL_cases (P := fun o => ci o = 3) rfl rfl h
theorem ciisS {o : Nat} (h : isS o) : ci o = 9 := isS_cases (P := fun o => ci o = 9) rfl rfl rfl rfl rfl rfl rfl rfl h
theorem kyisA_100 {o : Nat} (h : isA o) : ((o, 100) : Nat × Nat) ∈ KY := isA_cases (P := fun o => ((o, 100) : Nat × Nat) ∈ KY) (by decide) (by decide) (by decide) h
theorem kyisL_100 {o : Nat} (h : isL o) : ((o, 100) : Nat × Nat) ∈ KY := isL_cases (P := fun o => ((o, 100) : Nat × Nat) ∈ KY) (by decide) (by decide) h
theorem kyisS_100 {o : Nat} (h : isS o) : ((o, 100) : Nat × Nat) ∈ KY := isS_cases (P := fun o => ((o, 100) : Nat × Nat) ∈ KY) (by decide) (by decide) (by decide) (by decide) (by decide) (by decide) (by decide) (by decide) h
theorem kyisA_0 {o : Nat} (h : isA o) : ((o, 0) : Nat × Nat) ∈ KY := isA_cases (P := fun o => ((o, 0) : Nat × Nat) ∈ KY) (by decide) (by decide) (by decide) h
theorem kyisA_1 {o : Nat} (h : isA o) : ((o, 1) : Nat × Nat) ∈ KY := isA_cases (P := fun o => ((o, 1) : Nat × Nat) ∈ KY) (by decide) (by decide) (by decide) h
theorem kyisA_5 {o : Nat} (h : isA o) : ((o, 5) : Nat × Nat) ∈ KY := isA_cases (P := fun o => ((o, 5) : Nat × Nat) ∈ KY) (by decide) (by decide) (by decide) h
theorem kyisA_7 {o : Nat} (h : isA o) : ((o, 7) : Nat × Nat) ∈ KY := isA_cases (P := fun o => ((o, 7) : Nat × Nat) ∈ KY) (by decide) (by decide) (by decide) h
theorem kyisA_9 {o : Nat} (h : isA o) : ((o, 9) : Nat × Nat) ∈ KY := isA_cases (P := fun o => ((o, 9) : Nat × Nat) ∈ KY) (by decide) (by decide) (by decide) h
theorem kyisS_4 {o : Nat} (h : isS o) : ((o, 4) : Nat × Nat) ∈ KY := isS_cases (P := fun o => ((o, 4) : Nat × Nat) ∈ KY) (by decide) (by decide) (by decide) (by decide) (by decide) (by decide) (by decide) (by decide) h
theorem kaisA_0 {o : Nat} (h : isA o) : 0 ≠ 100 ∧ ak (o, 0) = 0 ∧ al (ci o) 0 = 10 := isA_cases (P := fun o => 0 ≠ 100 ∧ ak (o, 0) = 0 ∧ al (ci o) 0 = 10) (by decide) (by decide) (by decide) h
theorem kaisA_1 {o : Nat} (h : isA o) : 1 ≠ 100 ∧ ak (o, 1) = 0 ∧ al (ci o) 1 = 10 := isA_cases (P := fun o => 1 ≠ 100 ∧ ak (o, 1) = 0 ∧ al (ci o) 1 = 10) (by decide) (by decide) (by decide) h
theorem kaisA_7 {o : Nat} (h : isA o) : 7 ≠ 100 ∧ ak (o, 7) = 0 ∧ al (ci o) 7 = 24 := isA_cases (P := fun o => 7 ≠ 100 ∧ ak (o, 7) = 0 ∧ al (ci o) 7 = 24) (by decide) (by decide) (by decide) h
theorem kaisA_9 {o : Nat} (h : isA o) : 9 ≠ 100 ∧ ak (o, 9) = 0 ∧ al (ci o) 9 = 4 := isA_cases (P := fun o => 9 ≠ 100 ∧ ak (o, 9) = 0 ∧ al (ci o) 9 = 4) (by decide) (by decide) (by decide) h
theorem kaisS_4 {o : Nat} (h : isS o) : 4 ≠ 100 ∧ ak (o, 4) = 0 ∧ al (ci o) 4 = 100 := isS_cases (P := fun o => 4 ≠ 100 ∧ ak (o, 4) = 0 ∧ al (ci o) 4 = 100) (by decide) (by decide) (by decide) (by decide) (by decide) (by decide) (by decide) (by decide) h
