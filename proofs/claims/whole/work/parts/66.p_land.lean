/-! PURE, part 17: where one lands, one function for both; tests of arguments; fall, fallBy -/
theorem no1 {A B : Prop} (h : B) : ((1 : Int32) = 0 → A) ∧ (¬ (1 : Int32) = 0 → B) := ⟨fun q => absurd q one_ne, fun _ => h⟩
theorem no0 {A B : Prop} (h : A) : ((0 : Int32) = 0 → A) ∧ (¬ (0 : Int32) = 0 → B) := ⟨fun _ => h, fun q => absurd rfl q⟩
theorem on1 {A B : Prop} (h : B) : (¬ (1 : Int32) = 0 → B) ∧ ((1 : Int32) = 0 → A) := ⟨fun _ => h, fun q => absurd q one_ne⟩
theorem on0 {A B : Prop} (h : A) : (¬ (0 : Int32) = 0 → B) ∧ ((0 : Int32) = 0 → A) := ⟨fun q => absurd rfl q, fun _ => h⟩
/-- a place's number -/
def EG (v : Int32) : Prop := -30000 ≤ v.toInt ∧ v.toInt ≤ 30000
theorem ge_edge {z : ZS} {v : Int32} {post : Int32 → ZS → Prop} (h1 : EG v → post 1 z) (h0 : ¬ EG v → post 0 z) : V_X12_isEdge z v post := by
  rw [e_isEdge]
  by_cases c : EG v
  · have e : (if -30000 ≤ v.toInt ∧ v.toInt ≤ 30000 then (1 : Int32) else 0) = 1 := if_pos c
    rw [e]; exact h1 c
  · have e : (if -30000 ≤ v.toInt ∧ v.toInt ≤ 30000 then (1 : Int32) else 0) = 0 := if_neg c
    rw [e]; exact h0 c
theorem ge_place {z : ZS} {x y : Int32} {post : Int32 → ZS → Prop} (h1 : EG x → EG y → post 1 z) (h0 : ¬ (EG x ∧ EG y) → post 0 z) : V_X11_isPlace z x y post := by
  rw [e_isPlace]
  by_cases c : EG x ∧ EG y
  · have e : (if (-30000 ≤ x.toInt ∧ x.toInt ≤ 30000) ∧ (-30000 ≤ y.toInt ∧ y.toInt ≤ 30000) then (1 : Int32) else 0) = 1 := if_pos c
    rw [e]; exact h1 c.1 c.2
  · have e : (if (-30000 ≤ x.toInt ∧ x.toInt ≤ 30000) ∧ (-30000 ≤ y.toInt ∧ y.toInt ≤ 30000) then (1 : Int32) else 0) = 0 := if_neg c
    rw [e]; exact h0 c
theorem ge_in {z : ZS} {v : Int32} {b c : Int64} (B C : Int) (hb : b.toInt = B) (hc : c.toInt = C) {post : Int32 → ZS → Prop} (h1 : B ≤ v.toInt ∧ v.toInt ≤ C → post 1 z) (h0 : ¬ (B ≤ v.toInt ∧ v.toInt ≤ C) → post 0 z) : V_X12_isIn z (Int32.toInt64 v) b c post := by
  rw [e_isInI, hb, hc]
  by_cases q : B ≤ v.toInt ∧ v.toInt ≤ C
  · rw [if_pos q]; exact h1 q
  · rw [if_neg q]; exact h0 q
theorem ge_from {z : ZS} {v b c : Int32} (B C : Int) (hb : b.toInt = B) (hc : c.toInt = C) {post : Int32 → ZS → Prop} (h1 : B ≤ v.toInt ∧ v.toInt ≤ C → post 1 z) (h0 : ¬ (B ≤ v.toInt ∧ v.toInt ≤ C) → post 0 z) : V_X11_isFrom z b v c post := by
  rw [e_isFrom, hb, hc]
  by_cases q : B ≤ v.toInt ∧ v.toInt ≤ C
  · rw [if_pos q]; exact h1 q
  · rw [if_neg q]; exact h0 q
theorem ge_gap {z : ZS} {v : Int32} {post : Int32 → ZS → Prop} (h1 : 1 ≤ v.toInt ∧ v.toInt ≤ 20 → post 1 z) (h0 : ¬ (1 ≤ v.toInt ∧ v.toInt ≤ 20) → post 0 z) : V_X11_isGap z v post := by
  rw [e_isGap]
  by_cases q : 1 ≤ v.toInt ∧ v.toInt ≤ 20
  · rw [if_pos q]; exact h1 q
  · rw [if_neg q]; exact h0 q
/-- the air and one that falls -/
def aP (z : ZS) (k f op g : Int32) (w : Option (Int32 × Int32)) : FP := ((zI z 1 3, g, zR z 1 0, zR z 1 1), (k, f, op), w)
theorem aP_kp {z z1 : ZS} (h : Kp z z1) (k f op g : Int32) (w : Option (Int32 × Int32)) : aP z1 k f op g w = aP z k f op g w := by
  unfold aP
  rw [h.1 1 3 (by unfold keepI; omega), h.2.1 1 0 (by unfold keepR; omega), h.2.1 1 1 (by unfold keepR; omega)]
theorem aP_I {z : ZS} {a : Nat} {k f op g : Int32} {w : Option (Int32 × Int32)} (hR : Rel z) (hf : FA z a k f op) (hg : 0 ≤ g.toInt ∧ g.toInt ≤ 30) : PI (aP z k f op g w) :=
  ⟨hg, fun l hl => ⟨(hR.1.2.1 l hl).2.2.1, (hR.1.2.1 l hl).2.2.2⟩, ⟨zK z a, hf.2.1, hf.2.2.1⟩, hf.2.2.2.2.2.2.2.2.2.2.1⟩
theorem Rel.gust {z : ZS} (hR : Rel z) : 0 ≤ (zI z 1 2).toInt ∧ (zI z 1 2).toInt ≤ 30 := by
  have h := hR.1.2.2.2.2.1
  rw [hR.1.1.1] at h
  exact h
theorem Rel.plane {z : ZS} (hR : Rel z) : 0 ≤ (zI z 1 3).toInt ∧ (zI z 1 3).toInt ≤ 900 := by
  have h := hR.1.2.2.2.2.2.1
  rw [hR.1.1.2.1] at h
  exact h
theorem Rel.exit {z : ZS} (hR : Rel z) : 300 ≤ (zI z 1 4).toInt ∧ (zI z 1 4).toInt ≤ 3000 := by
  have h := hR.1.2.2.2.2.2.2
  rw [hR.1.1.2.2.1] at h
  exact h
theorem aP_AM {z : ZS} (hR : Rel z) (k f op : Int32) (w : Option (Int32 × Int32)) : AM z (aP z k f op (zI z 1 2) w) :=
  ⟨hR.1.1.1, hR.1.1.2.1, fun l hl => ⟨(hR.1.2.1 l hl).1, (hR.1.2.1 l hl).2.1⟩⟩
/-- where it begins -/
def aF (z : ZS) (x y sd : Int32) : FS := (x, y, zI z 1 4, 0, sd)
theorem aF_I {z : ZS} (hR : Rel z) {x y : Int32} (hx : EG x) (hy : EG y) (sd : Int32) : FI (aF z x y sd) := by
  have h := hR.exit
  refine ⟨hx, hy, ?_, ?_, ?_, Or.inr ?_⟩
  · show 0 ≤ (zI z 1 4).toInt; omega
  · show 0 ≤ (0 : Int32).toInt; decide
  · show (0 : Int32).toInt ≤ 231; decide
  · show (zI z 1 4).toInt + 13 * (0 : Int32).toInt ≤ 3000
    rw [i_0]; omega
theorem aF_kp {z z1 : ZS} (h : Kp z z1) (x y sd : Int32) : aF z1 x y sd = aF z x y sd := by
  unfold aF
  rw [h.1 1 4 (by unfold keepI; omega)]
/-- where one lands -/
noncomputable def LA (z : ZS) (k f op x y sd : Int32) : FS := fin (aP z k f op (zI z 1 2) none) (aF z x y sd)
theorem LA_kp {z z1 : ZS} (h : Kp z z1) (k f op x y sd : Int32) : LA z1 k f op x y sd = LA z k f op x y sd := by
  unfold LA
  rw [h.1 1 2 (by unfold keepI; omega), aP_kp h, aF_kp h]
theorem fin_FI {P : FP} (hP : PI P) {t : FS} (h : FI t) : FI (fin P t) := itF_FI hP _ t h
theorem LA_I {z : ZS} (hR : Rel z) {a : Nat} {k f op : Int32} (g : FA z a k f op) {x y : Int32} (hx : EG x) (hy : EG y) (sd : Int32) : FI (LA z k f op x y sd) := fin_FI (aP_I hR g hR.gust) (aF_I hR hx hy sd)
def offT (t : FS) : Int32 := am t.1 + am t.2.1
theorem am_int {v : Int32} (h : EG v) : (am v).toInt = if 0 ≤ v.toInt then v.toInt else - v.toInt := by
  unfold EG at h
  unfold am
  by_cases c : 0 ≤ v
  · rw [if_pos c]
    rw [Int32.le_iff_toInt_le, i_0] at c
    rw [if_pos c]
  · rw [if_neg c]
    rw [Int32.le_iff_toInt_le, i_0] at c
    rw [if_neg c, Int32.toInt_sub, i_0, Int.bmod_def]
    split <;> omega
theorem off_bd {t : FS} (h : FI t) : 0 ≤ (offT t).toInt ∧ (offT t).toInt ≤ 60000 := by
  have h1 := am_int (v := t.1) h.1
  have h2 := am_int (v := t.2.1) h.2.1
  have b1 := h.1
  have b2 := h.2.1
  unfold offT
  rw [Int32.toInt_add, Int.bmod_def, h1, h2]
  split <;> split <;> split <;> omega
theorem c_begin {z : ZS} {o a : Nat} {k f op x y sd : Int32} (ho : o = 4 ∨ o = 5) (g : FA z a k f op) {post : ZS → Prop} (kk : ∀ z1, OF o z z1 → CF z1 o (aP z k f op (zI z 1 2) none) (aF z x y sd) → post z1) : V_X3_begin z o a x y sd post := by
  unfold V_X3_begin
  intro z1 e1 z2 e2 z3 e3 z4 e4 z5 e5 z6 e6
  have hop : zF z a 2 = op := g.2.2.2.2.1
  rcases ho with rfl | rfl
  · subst e1; subst e2; subst e3; subst e4; subst e5; subst e6
    refine ⟨g.1, ?_⟩
    intro z7 e7 z8 e8 z9 e9
    subst e7; subst e8; subst e9
    refine kk _ ?_ ⟨Or.inl rfl, ⟨a, op, rfl, g⟩, hop, rfl, rfl, rfl, rfl, rfl, rfl, rfl, rfl, rfl, rfl⟩
    exact (((((((((OF.rf 4 z).G 1 _).I 2 _).I 3 _).I 8 _).I 4 _).I 6 _).I 7 _).I 5 _).I 9 _
  · subst e1; subst e2; subst e3; subst e4; subst e5; subst e6
    refine ⟨g.1, ?_⟩
    intro z7 e7 z8 e8 z9 e9
    subst e7; subst e8; subst e9
    refine kk _ ?_ ⟨Or.inr rfl, ⟨a, op, rfl, g⟩, hop, rfl, rfl, rfl, rfl, rfl, rfl, rfl, rfl, rfl, rfl⟩
    exact (((((((((OF.rf 5 z).G 1 _).I 2 _).I 3 _).I 8 _).I 4 _).I 6 _).I 7 _).I 5 _).I 9 _
theorem CF.at {z : ZS} {o : Nat} {P : FP} {t : FS} (h : CF z o P t) : zI z o 2 = t.1 ∧ zI z o 3 = t.2.1 ∧ zI z o 4 = t.2.2.1 ∧ zI z o 5 = t.2.2.2.1 := ⟨h.2.2.2.2.2.2.2.2.1, h.2.2.2.2.2.2.2.2.2.1, h.2.2.2.2.2.2.2.2.2.2.1, h.2.2.2.2.2.2.2.2.2.2.2.1⟩
theorem MF.at {z : ZS} {P : FP} {t : FS} {u : FU} (h : MF z P t u) : zI z 14 22 = t.1 ∧ zI z 14 23 = t.2.1 ∧ zI z 14 24 = t.2.2.1 ∧ zI z 14 25 = t.2.2.2.1 := ⟨h.2.2.2.2.2.1, h.2.2.2.2.2.2.1, h.2.2.2.2.2.2.2.1, h.2.2.2.2.2.2.2.2.1⟩
theorem c_off {z : ZS} {o : Nat} {P : FP} {t : FS} (h : CF z o P t) {post : Int32 → ZS → Prop} (kk : post (offT t) z) : V_X3_off z o post := by
  unfold V_X3_off
  rw [h.at.1, h.at.2.1]
  exact kk
theorem c_bland {z : ZS} {a : Nat} {k f op x y sd : Int32} (hR : Rel z) (g : FA z a k f op) (hx : EG x) (hy : EG y) {post : ZS → Prop} (kk : ∀ z1, OF 4 z z1 → CF z1 4 (aP z k f op (zI z 1 2) none) (LA z k f op x y sd) → post z1) : V_X3_begin z 4 a x y sd (fun z1 => V_X3_goOn z1 4 (400 : Int32) post) :=
  c_begin (Or.inl rfl) g (fun z1 o1 c1 => c_land (aP_I hR g hR.gust) c1 (aF_I hR hx hy sd) (fun z2 o2 c2 => kk z2 (o1.tr o2) c2))
theorem c_offFrom {z : ZS} {a : Nat} {k f op x y : Int32} (hR : Rel z) (g : FA z a k f op) (hx : EG x) (hy : EG y) {post : Int32 → ZS → Prop} (kk : ∀ z1, OF 4 z z1 → CF z1 4 (aP z k f op (zI z 1 2) none) (LA z k f op x y 1) → post (offT (LA z k f op x y 1)) z1) : V_X3_offFrom z 4 a x y post := c_bland hR g hx hy (fun z1 o1 c1 => c_off c1 (kk z1 o1 c1))
theorem m_leaves {z : ZS} {P : FP} {x y sd : Int32} (hw : P.2.2 = none) (am : AM z P) {post : ZS → Prop} (kk : ∀ z1, OM z z1 → MF z1 P (x, y, zR z 14 0 2, 0, sd) (zI z 14 27, zI z 14 28, -4) → post z1) : V_X12_leaves z P.2.1.1 P.2.1.2.1 P.2.1.2.2 x y sd post := by
  unfold V_X12_leaves
  intro z1 e1 z2 e2 z3 e3 z4 e4 z5 e5 z6 e6 z7 e7 z8 e8 z9 e9 z10 e10
  subst e1; subst e2; subst e3; subst e4; subst e5; subst e6; subst e7; subst e8; subst e9; subst e10
  refine kk _ ?_ ⟨am, rfl, rfl, rfl, by rw [hw]; rfl, rfl, rfl, rfl, rfl, rfl, rfl, rfl, rfl⟩
  exact ((((((((((OM.rf z).I 18 _ (by decide)).I 19 _ (by decide)).I 20 _ (by decide)).I 21 _ (by decide)).I 22 _ (by decide)).I 23 _ (by decide)).I 24 _ (by decide)).I 25 _ (by decide)).I 26 _ (by decide)).I 29 _ (by decide)
/-- the one that falls, by its number -/
abbrev kO (z : ZS) (f : Nat) : Int32 := zR z 14 0 (25 + 3 * f)
abbrev fO (z : ZS) (f : Nat) : Int32 := zR z 14 0 (26 + 3 * f)
abbrev oO (z : ZS) (f : Nat) : Int32 := zR z 14 0 (27 + 3 * f)
theorem m_leavesOne {z : ZS} {f : Nat} {x y sd : Int32} (hR : Rel z) (hf : f < 8) {post : ZS → Prop} (kk : ∀ z1, OM z z1 → MF z1 (aP z (kO z f) (fO z f) (oO z f) (zI z 1 2) none) (aF z x y sd) (zI z 14 27, zI z 14 28, -4) → post z1) : V_X12_leavesOne z (nI f) x y sd post := by
  unfold V_X12_leavesOne
  rw [e_of0 hf, e_of1 hf, e_of2 hf]
  refine m_leaves (P := aP z (kO z f) (fO z f) (oO z f) (zI z 1 2) none) rfl (aP_AM hR _ _ _ _) (fun z1 o1 c1 => kk z1 o1 ?_)
  have e : zR z 14 0 2 = zI z 1 4 := hR.1.1.2.2.1
  rw [e] at c1
  exact c1
theorem m_falls {z : ZS} {f a : Nat} {p x y sd : Int32} (hR : Rel z) (g : FO z p f a) (hx : EG x) (hy : EG y) {post : ZS → Prop} (kk : ∀ z1 u, OM z z1 → MF z1 (aP z (kO z f) (fO z f) (oO z f) (zI z 1 2) none) (LA z (kO z f) (fO z f) (oO z f) x y sd) u → post z1) : V_X12_falls z p x y sd post := by
  obtain ⟨rfl, hf, -, -, -, g5⟩ := g
  unfold V_X12_falls
  exact m_leavesOne hR hf (fun z1 o1 c1 => m_lands (aP_I hR g5 hR.gust) c1 (aF_I hR hx hy sd) (fun z2 o2 c2 => kk z2 _ (o1.tr o2) c2))
theorem m_off {z : ZS} {P : FP} {t : FS} {u : FU} (h : MF z P t u) {post : Int32 → ZS → Prop} (kk : post (offT t) z) : V_X12_off z post := by
  unfold V_X12_off
  rw [h.at.1]
  refine m_amount ?_
  rw [h.at.2.1]
  exact m_amount kk
theorem OF.rel {z z1 : ZS} (hR : Rel z) (h : OF 4 z z1) : Rel z1 := hR.kp (h.kp (Or.inl rfl))
theorem OF.k4 {z z1 : ZS} (h : OF 4 z z1) : Kp z z1 := h.kp (Or.inl rfl)
-- fall, fallBy
theorem kO_kp {z z1 : ZS} (h : Kp z z1) (f : Nat) : kO z1 f = kO z f ∧ fO z1 f = fO z f ∧ oO z1 f = oO z f := by
  unfold kO fO oO
  rw [h.2.1 14 0 (by unfold keepR; omega)]
  exact ⟨rfl, rfl, rfl⟩
theorem LO_kp {z z1 : ZS} (h : Kp z z1) (f : Nat) (x y sd : Int32) : LA z1 (kO z1 f) (fO z1 f) (oO z1 f) x y sd = LA z (kO z f) (fO z f) (oO z f) x y sd := by
  rw [(kO_kp h f).1, (kO_kp h f).2.1, (kO_kp h f).2.2, LA_kp h]
theorem m_fallBy {z : ZS} {f a : Nat} {p x y sd w : Int32} (hR : Rel z) (g : FO z p f a) {post : Int32 → ZS → Prop} (h1 : EG x → EG y → (0 ≤ w.toInt ∧ w.toInt ≤ 4) → V_X12_falls z p x y sd (fun z13 => V_X12_toldOf z13 w (fun r16 z15 => post r16 z15))) (h0 : ¬ (EG x ∧ EG y ∧ 0 ≤ w.toInt ∧ w.toInt ≤ 4) → post (-1000000001) z) : V_X12_fallBy z p x y sd w post := by
  unfold V_X12_fallBy
  exact m_fO hR g (no1 (ge_edge (fun c1 => no1 (ge_edge (fun c2 => no1 (ge_in 0 4 rfl rfl (fun c3 => on1 (h1 c1 c2 c3)) (fun c => on0 (h0 (fun q => c q.2.2))))) (fun c => no0 (h0 (fun q => c q.2.1))))) (fun c => no0 (h0 (fun q => c q.1)))))
theorem sk_8 : SK_8 Rel := by
  intro z p1 p2 p3 p4 p5 hR
  unfold V_X11_fallBy V_X11_landing
  rcases fcase hR p1 with hb | ⟨f, a, g⟩
  · exact c_fB hb ⟨fun _ => (by unfold V_X12_fallBy; exact m_fB hR hb (no0 ⟨rfl, hR⟩)), fun a q => by cases q⟩
  refine c_fO g ⟨fun q => (by cases q), fun a' q => ?_⟩
  cases q
  have g5 := g.2.2.2.2.2
  have bad : ¬ (EG p2 ∧ EG p3 ∧ 0 ≤ p5.toInt ∧ p5.toInt ≤ 4) → V_X12_fallBy z p1 p2 p3 p4 p5 (fun r2 z2 => r2 = -1000000001 ∧ Rel z2) := fun q => m_fallBy hR g (fun c1 c2 c3 => absurd ⟨c1, c2, c3⟩ q) (fun _ => ⟨rfl, hR⟩)
  refine ge_place (fun c1 c2 => no1 (ge_from 0 4 rfl rfl (fun c3 => on1 ?_) (fun c => on0 (bad (fun q => c q.2.2))))) (fun c => no0 (bad (fun q => c ⟨q.1, q.2.1⟩)))
  refine c_bland hR g5 c1 c2 (fun z1 o1 k1 => ?_)
  have hR1 := o1.rel hR
  have g1 := g.kp o1.k4
  have e1 := LO_kp o1.k4 f p2 p3 p4
  have mm : ∀ post : Int32 → ZS → Prop, (∀ z2 P u, OM z1 z2 → MF z2 P (LA z (kO z f) (fO z f) (oO z f) p2 p3 p4) u → V_X12_toldOf z2 p5 post) → V_X12_fallBy z1 p1 p2 p3 p4 p5 post := fun post k => m_fallBy hR1 g1 (fun _ _ _ => m_falls hR1 g1 c1 c2 (fun z2 u o2 k2 => k z2 _ u o2 (by rw [e1] at k2; exact k2))) (fun q => absurd ⟨c1, c2, c3⟩ q)
  dsimp only
  rw [k1.at.1, k1.at.2.1, k1.at.2.2.2]
  unfold V_X12_toldOf at mm
  refine ⟨fun w0 => mm _ (fun z2 P u o2 k2 => ⟨fun q => absurd w0 q, fun _ => ⟨k2.at.1, hR1.kp o2.kp⟩⟩), fun w0 => ⟨fun w1 => mm _ (fun z2 P u o2 k2 => ⟨fun _ => ⟨fun q => absurd w1 q, fun _ => ⟨k2.at.2.1, hR1.kp o2.kp⟩⟩, fun q => absurd q w0⟩), fun w1 => ⟨fun w2 => mm _ (fun z2 P u o2 k2 => ⟨fun _ => ⟨fun _ => ⟨fun q => absurd w2 q, fun _ => ⟨k2.at.2.2.2, hR1.kp o2.kp⟩⟩, fun q => absurd q w1⟩, fun q => absurd q w0⟩), fun w2 => ⟨fun w3 => c_off k1 (mm _ (fun z2 P u o2 k2 => ⟨fun _ => ⟨fun _ => ⟨fun _ => ⟨fun q => absurd w3 q, fun _ => m_off k2 ⟨rfl, hR1.kp o2.kp⟩⟩, fun q => absurd q w2⟩, fun q => absurd q w1⟩, fun q => absurd q w0⟩)), fun w3 => c_bars hR1 ?_⟩⟩⟩⟩
  have last : ∀ r : Int32, (barV z1 (LA z (kO z f) (fO z f) (oO z f) p2 p3 p4).1 (LA z (kO z f) (fO z f) (oO z f) p2 p3 p4).2.1 = 0 → r = 0) → (¬ barV z1 (LA z (kO z f) (fO z f) (oO z f) p2 p3 p4).1 (LA z (kO z f) (fO z f) (oO z f) p2 p3 p4).2.1 = 0 → r = 1) → V_X12_fallBy z1 p1 p2 p3 p4 p5 (fun r2 z2 => r2 = r ∧ Rel z2) := fun r r0 r1 => mm _ (fun z2 P u o2 k2 => ⟨fun _ => ⟨fun _ => ⟨fun _ => ⟨fun _ => m_bars (hR1.kp o2.kp) (by
    rw [barV_kp o2.kp, k2.at.1, k2.at.2.1]
    exact ⟨fun q => ⟨(r0 q).symm, hR1.kp o2.kp⟩, fun q => ⟨(r1 q).symm, hR1.kp o2.kp⟩⟩), fun q => absurd q w3⟩, fun q => absurd q w2⟩, fun q => absurd q w1⟩, fun q => absurd q w0⟩)
  exact ⟨fun q => last 0 (fun _ => rfl) (fun r => absurd q r), fun q => last 1 (fun r => absurd r q) (fun _ => rfl)⟩
theorem sk_7 : SK_7 Rel := fun z p1 p2 p3 p4 hR => sk_8 z p1 p2 p3 1 p4 hR
