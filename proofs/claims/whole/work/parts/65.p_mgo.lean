/-! PURE, part 16: falls by so many seconds, of the reference -/
abbrev FU : Type := Int32 × Int32 × Int32
/-- the reference's air is P's -/
def AM (z : ZS) (P : FP) : Prop := zR z 14 0 0 = P.1.2.1 ∧ zR z 14 0 1 = P.1.1 ∧ ∀ l, l < 10 → zR z 14 0 (5 + 2 * l) = P.1.2.2.1 l ∧ zR z 14 0 (6 + 2 * l) = P.1.2.2.2 l
def wyE (w p : Int32) : Int32 := if w = 1 ∨ w = 5 ∨ w = 7 then p else if w = 2 ∨ w = 6 ∨ w = 8 then -p else 0
def wyN (w p : Int32) : Int32 := if w = 3 ∨ w = 5 ∨ w = 6 then p else if w = 4 ∨ w = 7 ∨ w = 8 then -p else 0
/-- the reference's fall is at t, with P; where and when it opened: u -/
def MF (z : ZS) (P : FP) (t : FS) (u : FU) : Prop := AM z P ∧ zI z 14 18 = P.2.1.1 ∧ zI z 14 19 = P.2.1.2.1 ∧ zI z 14 20 = P.2.1.2.2 ∧ (match P.2.2 with | none => zI z 14 21 = -1 | some w => ¬ zI z 14 21 = -1 ∧ w = (wyE (zI z 14 21) (paceB P.2.1.1 P.2.1.2.1), wyN (zI z 14 21) (paceB P.2.1.1 P.2.1.2.1))) ∧ zI z 14 22 = t.1 ∧ zI z 14 23 = t.2.1 ∧ zI z 14 24 = t.2.2.1 ∧ zI z 14 25 = t.2.2.2.1 ∧ zI z 14 26 = t.2.2.2.2 ∧ zI z 14 27 = u.1 ∧ zI z 14 28 = u.2.1 ∧ zI z 14 29 = u.2.2
theorem MF.a {z : ZS} {P : FP} {t : FS} {u : FU} (h : MF z P t u) (v : Int32) : MF (wI z 14 16 v) P t u := h
theorem MF.b {z : ZS} {P : FP} {t : FS} {u : FU} (h : MF z P t u) (v : Int32) : MF (wI z 14 17 v) P t u := h
theorem MF.x {z : ZS} {P : FP} {t : FS} {u : FU} (h : MF z P t u) (v : Int32) : MF (wI z 14 22 v) P (v, t.2) u := by
  obtain ⟨h1, h2, h3, h4, h5, h6, h7⟩ := h
  exact ⟨h1, h2, h3, h4, h5, rfl, h7⟩
theorem MF.y {z : ZS} {P : FP} {t : FS} {u : FU} (h : MF z P t u) (v : Int32) : MF (wI z 14 23 v) P (t.1, v, t.2.2) u := by
  obtain ⟨h1, h2, h3, h4, h5, h6, h7, h8⟩ := h
  exact ⟨h1, h2, h3, h4, h5, h6, rfl, h8⟩
theorem MF.h {z : ZS} {P : FP} {t : FS} {u : FU} (h : MF z P t u) (v : Int32) : MF (wI z 14 24 v) P (t.1, t.2.1, v, t.2.2.2) u := by
  obtain ⟨h1, h2, h3, h4, h5, h6, h7, h8, h9⟩ := h
  exact ⟨h1, h2, h3, h4, h5, h6, h7, rfl, h9⟩
theorem MF.s {z : ZS} {P : FP} {t : FS} {u : FU} (h : MF z P t u) (v : Int32) : MF (wI z 14 25 v) P (t.1, t.2.1, t.2.2.1, v, t.2.2.2.2) u := by
  obtain ⟨h1, h2, h3, h4, h5, h6, h7, h8, h9, h10⟩ := h
  exact ⟨h1, h2, h3, h4, h5, h6, h7, h8, rfl, h10⟩
theorem MF.d {z : ZS} {P : FP} {t : FS} {u : FU} (h : MF z P t u) (v : Int32) : MF (wI z 14 26 v) P (t.1, t.2.1, t.2.2.1, t.2.2.2.1, v) u := by
  obtain ⟨h1, h2, h3, h4, h5, h6, h7, h8, h9, h10, h11⟩ := h
  exact ⟨h1, h2, h3, h4, h5, h6, h7, h8, h9, rfl, h11⟩
theorem MF.u {z : ZS} {P : FP} {t : FS} {u : FU} (h : MF z P t u) (a b c : Int32) : MF (wI (wI (wI z 14 27 a) 14 28 b) 14 29 c) P t (a, b, c) := by
  obtain ⟨h1, h2, h3, h4, h5, h6, h7, h8, h9, h10, h11⟩ := h
  exact ⟨h1, h2, h3, h4, h5, h6, h7, h8, h9, h10, rfl, rfl, rfl⟩
/-- only the reference's ints of a fall have changed -/
def OM (z z1 : ZS) : Prop := (∀ a k, ¬ (a = 14 ∧ 16 ≤ k ∧ k ≤ 29) → zI z1 a k = zI z a k) ∧ zR z1 = zR z ∧ zG z1 = zG z ∧ zQ z1 = zQ z ∧ zP z1 = zP z ∧ zK z1 = zK z ∧ zF z1 = zF z
theorem OM.rf (z : ZS) : OM z z := ⟨fun _ _ _ => rfl, rfl, rfl, rfl, rfl, rfl, rfl⟩
theorem OM.I {z z1 : ZS} (h : OM z z1) (k : Nat) (v : Int32) (hk : 16 ≤ k ∧ k ≤ 29) : OM z (wI z1 14 k v) := ⟨fun a b ha => (if_neg (fun q => ha ⟨q.1, by omega⟩)).trans (h.1 a b ha), h.2⟩
theorem OM.tr {z z1 z2 : ZS} (h : OM z z1) (g : OM z1 z2) : OM z z2 := ⟨fun a b ha => (g.1 a b ha).trans (h.1 a b ha), g.2.1.trans h.2.1, g.2.2.1.trans h.2.2.1, g.2.2.2.1.trans h.2.2.2.1, g.2.2.2.2.1.trans h.2.2.2.2.1, g.2.2.2.2.2.1.trans h.2.2.2.2.2.1, g.2.2.2.2.2.2.trans h.2.2.2.2.2.2⟩
theorem OM.kp {z z1 : ZS} (h : OM z z1) : Kp z z1 := by
  refine ⟨fun a k q => h.1 a k (by unfold keepI at q; omega), fun a k _ => by rw [h.2.1], fun a _ => by rw [h.2.2.1], h.2.2.2.1, fun a q => ⟨by rw [h.2.2.2.2.1]; exact q, by rw [h.2.2.2.2.2.1], by rw [h.2.2.2.2.2.2]⟩⟩
theorem lsr_lay {h : Int32} (hh : 0 ≤ h.toInt ∧ h.toInt ≤ 3000) : lsr (h / 300) 9 = lay h := by
  have ed : (h / 300).toInt = h.toInt / 300 := by
    rw [Int32.toInt_div_of_ne_right _ _ (by decide)]
    show h.toInt.tdiv 300 = _
    rw [Int.tdiv_eq_ediv_of_nonneg hh.1]
  unfold lsr lay
  by_cases c : (9 : Int32) < h / 300
  · rw [if_pos c, if_pos (by decide)]
  · rw [if_neg c]
    split
    · rfl
    · rename_i q
      rw [Int32.lt_iff_toInt_lt, i_0, ed] at q
      apply Int32.toInt_inj.mp
      rw [i_0, ed]
      omega
theorem m_235 {z : ZS} {P : FP} {t : FS} {u : FU} {e n sE sN : Int32} (hP : PI P) (hF : FI t) (h : MF z P t u) (h16 : zI z 14 16 = sE) (h17 : zI z 14 17 = sN) {post : ZS → Prop} (kk : ∀ z1, OM z z1 → MF z1 P (hB (t.1 + (sE + driftB P.2.1.1 e)), hB (t.2.1 + (sN + driftB P.2.1.1 n)), dnB t.2.2.1 (sinksB P.2.1.1 P.2.1.2.1), t.2.2.2.1 + 1, t.2.2.2.2) u → post z1) : V_X12_goesSecond_235 post z e n := by
  unfold V_X12_goesSecond_235
  have hs := hP.sinks
  have k18 : zI z 14 18 = P.2.1.1 := h.2.1
  have k22 : zI z 14 22 = t.1 := h.2.2.2.2.2.1
  refine m_driftBy (m_held ?_)
  intro z17 e17
  rw [k18, k22, h16, Int32.add_assoc] at e17
  have a1 := h.x (hB (t.1 + (sE + driftB P.2.1.1 e)))
  have o1 := (OM.rf z).I 22 (hB (t.1 + (sE + driftB P.2.1.1 e))) (by decide)
  have b1 : zI (wI z 14 22 (hB (t.1 + (sE + driftB P.2.1.1 e)))) 14 17 = sN := h17
  rw [← e17] at a1 o1 b1
  have k18' : zI z17 14 18 = P.2.1.1 := a1.2.1
  have k23 : zI z17 14 23 = t.2.1 := a1.2.2.2.2.2.2.1
  refine m_driftBy (m_held ?_)
  intro z22 e22
  rw [k18', k23, b1, Int32.add_assoc] at e22
  have a2 := a1.y (hB (t.2.1 + (sN + driftB P.2.1.1 n)))
  have o2 := o1.I 23 (hB (t.2.1 + (sN + driftB P.2.1.1 n))) (by decide)
  rw [← e22] at a2 o2
  have k18'' : zI z22 14 18 = P.2.1.1 := a2.2.1
  have k19 : zI z22 14 19 = P.2.1.2.1 := a2.2.2.1
  have k24 : zI z22 14 24 = t.2.2.1 := a2.2.2.2.2.2.2.2.1
  rw [k18'', k19]
  refine m_sinksBy (m_goesDown (by rw [k24]; exact hF.h) ⟨by omega, by omega⟩ ?_)
  rw [k24]
  have a3 := a2.h (dnB t.2.2.1 (sinksB P.2.1.1 P.2.1.2.1))
  have o3 := o2.I 24 (dnB t.2.2.1 (sinksB P.2.1.1 P.2.1.2.1)) (by decide)
  unfold V_X12_goesSecond_300
  intro z27 e27
  have k25 : zI (wI z22 14 24 (dnB t.2.2.1 (sinksB P.2.1.1 P.2.1.2.1))) 14 25 = t.2.2.2.1 := a3.2.2.2.2.2.2.2.2.1
  rw [k25] at e27
  subst e27
  exact kk _ (o3.I 25 _ (by decide)) (a3.s _)
theorem m_57 {z : ZS} {P : FP} {t : FS} {u : FU} {e n lf : Int32} (hP : PI P) (hF : FI t) (h : MF z P t u) {post : ZS → Prop} (kk : ∀ z1, OM z z1 → MF z1 P (hB (t.1 + (P.1.1 * lf / 10 + driftB P.2.1.1 e / 2)), hB (t.2.1 + driftB P.2.1.1 n / 2), dnB t.2.2.1 (fallsB P.2.1.1), t.2.2.2.1 + 1, t.2.2.2.2) u → post z1) : V_X12_goesSecond_57 post z e n lf := by
  unfold V_X12_goesSecond_57
  have hs := hP.falls
  have k18 : zI z 14 18 = P.2.1.1 := h.2.1
  have k22 : zI z 14 22 = t.1 := h.2.2.2.2.2.1
  have kp : zR z 14 0 1 = P.1.1 := h.1.2.1
  refine m_driftBy (m_held ?_)
  intro z17 e17
  rw [k18, k22, kp, Int32.add_assoc] at e17
  have a1 := h.x (hB (t.1 + (P.1.1 * lf / 10 + driftB P.2.1.1 e / 2)))
  have o1 := (OM.rf z).I 22 (hB (t.1 + (P.1.1 * lf / 10 + driftB P.2.1.1 e / 2))) (by decide)
  rw [← e17] at a1 o1
  have k18' : zI z17 14 18 = P.2.1.1 := a1.2.1
  have k23 : zI z17 14 23 = t.2.1 := a1.2.2.2.2.2.2.1
  refine m_driftBy (m_held ?_)
  intro z22 e22
  rw [k18', k23] at e22
  have a2 := a1.y (hB (t.2.1 + driftB P.2.1.1 n / 2))
  have o2 := o1.I 23 (hB (t.2.1 + driftB P.2.1.1 n / 2)) (by decide)
  rw [← e22] at a2 o2
  have k18'' : zI z22 14 18 = P.2.1.1 := a2.2.1
  have k24 : zI z22 14 24 = t.2.2.1 := a2.2.2.2.2.2.2.2.1
  rw [k18'']
  refine m_fallsBy (m_goesDown (by rw [k24]; exact hF.h) ⟨by omega, by omega⟩ ?_)
  rw [k24]
  have a3 := a2.h (dnB t.2.2.1 (fallsB P.2.1.1))
  have o3 := o2.I 24 (dnB t.2.2.1 (fallsB P.2.1.1)) (by decide)
  unfold V_X12_goesSecond_300
  intro z27 e27
  have k25 : zI (wI z22 14 24 (dnB t.2.2.1 (fallsB P.2.1.1))) 14 25 = t.2.2.2.1 := a3.2.2.2.2.2.2.2.2.1
  rw [k25] at e27
  subst e27
  exact kk _ (o3.I 25 _ (by decide)) (a3.s _)
theorem m_way74 {z : ZS} {w p s : Int32} (hw : zI z 14 21 = w) {post : ZS → Prop} (kk : post (ST z s (wyN w p))) : V_X12_holdsWay_74 post z p s := by
  unfold V_X12_holdsWay_74 V_X12_holdsWay_103 V_X12_holdsWay_133 V_X12_holdsWay_139
  intro z4 e4
  subst e4
  have hw' : zI (wI z 14 16 s) 14 21 = w := hw
  rw [hw']
  unfold wyN ST at kk
  refine ⟨fun c z6 e6 => ?_, fun c3 => ⟨fun c z6 e6 => ?_, fun c5 => ⟨fun c6 => ⟨fun c z6 e6 => ?_, fun c4 => ⟨fun c z6 e6 => ?_, fun c7 => ⟨fun c8 z6 e6 => ?_, fun c8 z6 e6 => ?_⟩⟩⟩, fun c z6 e6 => ?_⟩⟩⟩
  · subst e6; rw [if_pos (Or.inl c)] at kk; exact kk
  · subst e6; rw [if_pos (Or.inr (Or.inl c))] at kk; exact kk
  · subst e6; rw [if_neg (fun r => r.elim c3 (fun r => r.elim c5 c6)), if_pos (Or.inl c)] at kk; exact kk
  · subst e6; rw [if_neg (fun r => r.elim c3 (fun r => r.elim c5 c6)), if_pos (Or.inr (Or.inl c))] at kk; exact kk
  · subst e6; rw [if_neg (fun r => r.elim c3 (fun r => r.elim c5 c6)), if_neg (fun r => r.elim c4 (fun r => r.elim c7 c8))] at kk; exact kk
  · subst e6; rw [if_neg (fun r => r.elim c3 (fun r => r.elim c5 c6)), if_pos (Or.inr (Or.inr c8))] at kk; exact kk
  · subst e6; rw [if_pos (Or.inr (Or.inr c))] at kk; exact kk
theorem m_way {z : ZS} {k f w : Int32} (hk : zI z 14 18 = k) (hf : zI z 14 19 = f) (hw : zI z 14 21 = w) {post : ZS → Prop} (kk : post (ST z (wyE w (paceB k f)) (wyN w (paceB k f)))) : V_X12_holdsWay z post := by
  unfold V_X12_holdsWay V_X12_holdsWay_38 V_X12_holdsWay_68
  rw [hk, hf]
  refine m_paceBy ?_
  rw [hw]
  unfold wyE at kk
  refine ⟨fun c => ?_, fun c1 => ⟨fun c => ?_, fun c5 => ⟨fun c7 => ⟨fun c => ?_, fun c2 => ⟨fun c => ?_, fun c6 => ⟨fun c8 => ?_, fun c8 => ?_⟩⟩⟩, fun c => ?_⟩⟩⟩
  · rw [if_pos (Or.inl c)] at kk; exact m_way74 hw kk
  · rw [if_pos (Or.inr (Or.inl c))] at kk; exact m_way74 hw kk
  · rw [if_neg (fun r => r.elim c1 (fun r => r.elim c5 c7)), if_pos (Or.inl c)] at kk; exact m_way74 hw kk
  · rw [if_neg (fun r => r.elim c1 (fun r => r.elim c5 c7)), if_pos (Or.inr (Or.inl c))] at kk; exact m_way74 hw kk
  · rw [if_neg (fun r => r.elim c1 (fun r => r.elim c5 c7)), if_neg (fun r => r.elim c2 (fun r => r.elim c6 c8))] at kk; exact m_way74 hw kk
  · rw [if_neg (fun r => r.elim c1 (fun r => r.elim c5 c7)), if_pos (Or.inr (Or.inr c8))] at kk; exact m_way74 hw kk
  · rw [if_pos (Or.inr (Or.inr c))] at kk; exact m_way74 hw kk
theorem MF.ST {z : ZS} {P : FP} {t : FS} {u : FU} (h : MF z P t u) (a b : Int32) : MF (ST z a b) P t u := h
theorem OM.ST {z z1 : ZS} (h : OM z z1) (a b : Int32) : OM z (ST z1 a b) := (h.I 16 a (by decide)).I 17 b (by decide)
theorem m_198 {z : ZS} {P : FP} {t : FS} {u : FU} {e n : Int32} (hP : PI P) (hF : FI t) (be : -1000 ≤ e.toInt ∧ e.toInt ≤ 1000) (bn : -1000 ≤ n.toInt ∧ n.toInt ≤ 1000) (h : MF z P t u) {post : ZS → Prop} (kk : ∀ z1, OM z z1 → MF z1 P (hB (t.1 + ((stO P t.1 t.2.1 e n).1 + driftB P.2.1.1 e)), hB (t.2.1 + ((stO P t.1 t.2.1 e n).2 + driftB P.2.1.1 n)), dnB t.2.2.1 (sinksB P.2.1.1 P.2.1.2.1), t.2.2.2.1 + 1, t.2.2.2.2) u → post z1) : V_X12_goesSecond_198 post z e n := by
  unfold V_X12_goesSecond_198
  have h0 := h
  obtain ⟨-, k18, k19, -, hw, k22, k23, -⟩ := h
  have go : ∀ a b : Int32, stO P t.1 t.2.1 e n = (a, b) → V_X12_goesSecond_235 post (ST z a b) e n := fun a b eo => by
    rw [eo] at kk
    exact m_235 hP hF (h0.ST a b) rfl rfl (fun z1 o1 c1 => kk z1 (((OM.rf z).ST a b).tr o1) c1)
  cases hp : P.2.2 with
  | none =>
    rw [hp] at hw
    refine ⟨fun q => absurd hw q, fun _ => ?_⟩
    obtain ⟨kn, hk, ek⟩ := hP.2.2.1
    rw [k18, k19, k22, k23, ek]
    refine m_steersBy hk be bn (go _ _ ?_)
    unfold stO
    rw [hp, ek]
  | some w =>
    rw [hp] at hw
    refine ⟨fun _ => ?_, fun q => absurd q hw.1⟩
    refine m_way k18 k19 rfl (go _ _ ?_)
    unfold stO
    rw [hp]
    exact hw.2
theorem m_198v {z : ZS} {P : FP} {t : FS} {u : FU} {e v : Int32} (hP : PI P) (hF : FI t) (be : -1000 ≤ e.toInt ∧ e.toInt ≤ 1000) (bn : -1000 ≤ (P.1.2.2.2 (lay t.2.2.1).toNatClampNeg).toInt ∧ (P.1.2.2.2 (lay t.2.2.1).toNatClampNeg).toInt ≤ 1000) (h : MF z P (t.1, t.2.1, t.2.2.1, t.2.2.2.1, v) u) {post : ZS → Prop} (kk : ∀ z1, OM z z1 → MF z1 P (opF P t e v) u → post z1) : V_X12_goesSecond_198 post z e (P.1.2.2.2 (lay t.2.2.1).toNatClampNeg) :=
  m_198 (t := (t.1, t.2.1, t.2.2.1, t.2.2.2.1, v)) hP hF be bn h kk
theorem m_198w {z : ZS} {P : FP} {t : FS} {u : FU} {e : Int32} (hP : PI P) (hF : FI t) (be : -1000 ≤ e.toInt ∧ e.toInt ≤ 1000) (bn : -1000 ≤ (P.1.2.2.2 (lay t.2.2.1).toNatClampNeg).toInt ∧ (P.1.2.2.2 (lay t.2.2.1).toNatClampNeg).toInt ≤ 1000) (h : MF z P t u) {post : ZS → Prop} (kk : ∀ z1, OM z z1 → MF z1 P (opF P t e t.2.2.2.2) u → post z1) : V_X12_goesSecond_198 post z e (P.1.2.2.2 (lay t.2.2.1).toNatClampNeg) :=
  m_198 (t := t) hP hF be bn h kk
/-- when it opened -/
def opn (P : FP) (t : FS) (u : FU) : FU := if P.2.1.2.2 ≤ t.2.2.2.1 ∧ ¬ 0 ≤ u.2.2 then (t.1, t.2.1, t.2.2.2.1) else u
theorem m_161 {z : ZS} {P : FP} {t : FS} {u : FU} (hs : P.2.1.2.2 ≤ t.2.2.2.1) (hP : PI P) (hF : FI t) (h : MF z P t u) {post : ZS → Prop} (kk : ∀ z1, OM z z1 → MF z1 P (secF P t) u → post z1) : V_X12_goesSecond_161 post z (lay t.2.2.1) (P.1.2.2.1 (lay t.2.2.1).toNatClampNeg) (P.1.2.2.2 (lay t.2.2.1).toNatClampNeg) := by
  unfold V_X12_goesSecond_161
  have bg := gst_bd hP (sd := t.2.2.2.2) hF.h
  have bn := nw_bd hP hF.h
  have kg : zR z 14 0 0 = P.1.2.1 := h.1.1
  have still : ¬ (lay t.2.2.1 = 0 ∧ 0 < P.1.2.1) → V_X12_goesSecond_198 post z (P.1.2.2.1 (lay t.2.2.1).toNatClampNeg) (P.1.2.2.2 (lay t.2.2.1).toNatClampNeg) := fun q => by
    have eg : gst P t.2.2.1 t.2.2.2.2 = (P.1.2.2.1 (lay t.2.2.1).toNatClampNeg, t.2.2.2.2) := if_neg q
    rw [eg] at bg
    rw [sec_open hs eg] at kk
    exact m_198w hP hF bg bn h kk
  refine ⟨fun q => still (fun r => q r.1), fun l0 => ⟨fun q => still (fun r => ?_), fun q => ?_⟩⟩
  · rw [kg] at q
    have r2 := r.2
    rw [Int32.lt_iff_toInt_lt] at r2
    rw [Int32.le_iff_toInt_le] at q
    omega
  · rw [kg] at q
    have hg : 0 < P.1.2.1 := by
      rw [Int32.le_iff_toInt_le] at q
      rw [Int32.lt_iff_toInt_lt]
      omega
    have ez : P.1.2.2.1 (lay t.2.2.1).toNatClampNeg = P.1.2.2.1 0 := by rw [l0]; rfl
    have eg : gst P t.2.2.1 t.2.2.2.2 = (P.1.2.2.1 0 + (puffB t.2.2.2.2 P.1.2.1 - P.1.2.1), sdB t.2.2.2.2) := if_pos ⟨l0, hg⟩
    rw [eg] at bg
    rw [sec_open hs eg] at kk
    unfold V_X12_drawn
    intro z1 e1
    have k26 : zI z 14 26 = t.2.2.2.2 := h.2.2.2.2.2.2.2.2.2.1
    rw [k26] at e1
    have a1 := h.d (sdB t.2.2.2.2)
    have o1 := (OM.rf z).I 26 (sdB t.2.2.2.2) (by decide)
    have e1 : z1 = wI z 14 26 (sdB t.2.2.2.2) := e1
    rw [← e1] at a1 o1
    have k26' : zI z1 14 26 = sdB t.2.2.2.2 := a1.2.2.2.2.2.2.2.2.2.1
    have kg' : zR z1 14 0 0 = P.1.2.1 := a1.1.1
    rw [kg, k26']
    refine ⟨fun r => ?_, fun t33 e33 => ?_⟩
    · obtain ⟨g, e, e2, -⟩ := nat_of hP.1.1
      rw [e, puff_m] at r
      exact nI_ne0 (by omega) (by have := hP.1.2; omega) r
    · rw [kg', ez] at e33
      have e33 : t33 = P.1.2.2.1 0 + (puffB t.2.2.2.2 P.1.2.1 - P.1.2.1) := e33
      rw [e33]
      exact m_198v hP hF bg bn a1 (fun z2 o2 c2 => kk z2 (o1.tr o2) c2)
theorem m_sec {z : ZS} {P : FP} {t : FS} {u : FU} (hP : PI P) (hF : FI t) (h : MF z P t u) {post : ZS → Prop} (kk : ∀ z1, OM z z1 → MF z1 P (secF P t) (opn P t u) → post z1) : V_X12_goesSecond z post := by
  unfold V_X12_goesSecond
  have h0 := h
  obtain ⟨am, -, -, k20, -, k22, k23, k24, k25, -, -, -, k29⟩ := h
  obtain ⟨l, hl, el, -⟩ := lay_in hF.h
  rw [k24]
  refine m_lesser ?_
  rw [lsr_lay hF.h, el, e_east hl, e_north hl, (am.2.2 l hl).1, (am.2.2 l hl).2, k20, k25, k29]
  have c1 : P.1.2.2.1 l = P.1.2.2.1 (lay t.2.2.1).toNatClampNeg := by rw [el, nI_clamp (by omega)]
  have c2 : P.1.2.2.2 l = P.1.2.2.2 (lay t.2.2.1).toNatClampNeg := by rw [el, nI_clamp (by omega)]
  rw [← el, c1, c2]
  refine ⟨fun hs => ⟨fun q => ?_, fun q z34 e34 z35 e35 z36 e36 => ?_⟩, fun hs => ?_⟩
  · have eo : opn P t u = u := if_neg (fun r => r.2 q)
    rw [eo] at kk
    exact m_161 hs hP hF h0 kk
  · have eo : opn P t u = (t.1, t.2.1, t.2.2.2.1) := if_pos ⟨hs, q⟩
    rw [eo] at kk
    subst e34
    subst e35
    have w23 : zI (wI z 14 27 (zI z 14 22)) 14 23 = t.2.1 := k23
    have w25 : zI (wI (wI z 14 27 (zI z 14 22)) 14 28 (zI (wI z 14 27 (zI z 14 22)) 14 23)) 14 25 = t.2.2.2.1 := k25
    rw [w25, w23, k22] at e36
    subst e36
    refine m_161 hs hP hF (h0.u _ _ _) (fun z1 o1 c1 => kk z1 (OM.tr ?_ o1) c1)
    exact (((OM.rf z).I 27 _ (by decide)).I 28 _ (by decide)).I 29 _ (by decide)
  · have eo : opn P t u = u := if_neg (fun r => hs r.1)
    rw [eo] at kk
    unfold secF at kk
    rw [if_neg hs] at kk
    have hb := hF.2.2.2
    have i10 : (10 : Int32).toInt = 10 := by decide
    have e10 : ((10 : Int32) - t.2.2.2.1).toInt = 10 - t.2.2.2.1.toInt := by
      rw [Int32.toInt_sub, i10, Int.bmod_def]
      split <;> omega
    refine ⟨fun q => ?_, fun q => ?_⟩
    · rw [Int32.le_iff_toInt_le, i10] at q
      rw [if_neg (fun r => by rw [Int32.lt_iff_toInt_lt, i_0, e10] at r; omega)] at kk
      exact m_57 hP hF h0 kk
    · rw [Int32.le_iff_toInt_le, i10] at q
      rw [if_pos (by rw [Int32.lt_iff_toInt_lt, i_0, e10]; omega)] at kk
      exact m_57 hP hF h0 kk
/-- when it opened, after so many seconds -/
noncomputable def itU (P : FP) : Nat → FS → FU → FU
  | 0, _, u => u
  | (n + 1), t, u => if t.2.2.1 = 0 then u else itU P n (secF P t) (opn P t u)
theorem m_landed {z : ZS} {P : FP} {t : FS} {u : FU} (h : MF z P t u) {post : Int32 → ZS → Prop} (h1 : t.2.2.1 = 0 → post 1 z) (h0 : ¬ t.2.2.1 = 0 → post 0 z) : V_X12_hasLanded z post := by
  unfold V_X12_hasLanded
  have k24 : zI z 14 24 = t.2.2.1 := h.2.2.2.2.2.2.2.1
  rw [k24]
  exact ⟨h0, h1⟩
theorem m_lands_lp {P : FP} (hP : PI P) {post : ZS → Prop} : ∀ (k : Nat) (z : ZS) (t : FS) (u : FU), MF z P t u → FI t → 231 ≤ (k : Int) + t.2.2.2.1.toInt → (∀ z1, OM z z1 → MF z1 P (itF P k t) (itU P k t u) → post z1) → V_X12_lands_0 post (k + 1) z := by
  intro k
  induction k with
  | zero =>
    intro z t u h f q kk
    unfold V_X12_lands_0
    exact m_landed h (fun _ => ⟨fun _ => kk z (OM.rf z) h, fun r => absurd r one_ne⟩) (fun r => absurd (itF_land hP 0 t f q) r)
  | succ k ih =>
    intro z t u h f q kk
    unfold V_X12_lands_0
    refine m_landed h (fun h1 => ⟨fun _ => kk z (OM.rf z) ?_, fun r => absurd r one_ne⟩) (fun h1 => ⟨fun r => absurd rfl r, fun _ => m_sec hP f h (fun z1 o1 c1 => ?_)⟩)
    · have e : itU P (k + 1) t u = u := if_pos h1
      rw [itF_0 h1, e]
      exact h
    · have e2 := sec_FI hP f h1
      have e : itU P (k + 1) t u = itU P k (secF P t) (opn P t u) := if_neg h1
      rw [itF_s h1, e] at kk
      exact ih z1 _ _ c1 e2.1 (by rw [e2.2]; omega) (fun z2 o2 c2 => kk z2 (o1.tr o2) c2)
theorem m_lands {P : FP} (hP : PI P) {post : ZS → Prop} {z : ZS} {t : FS} {u : FU} (h : MF z P t u) (f : FI t) (kk : ∀ z1, OM z z1 → MF z1 P (fin P t) (itU P 231 t u) → post z1) : V_X12_lands z post := ⟨232, m_lands_lp hP 231 z t u h f (by have := f.2.2.2.1; omega) kk⟩
