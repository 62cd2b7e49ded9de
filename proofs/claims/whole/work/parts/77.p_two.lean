/-! PURE, part 28: two -/
theorem CF.of {z z1 : ZS} {o o' : Nat} {P : FP} {t : FS} (h : OF o z z1) (ho : o = 4 ∨ o = 5) (hne : o' ≠ o) (c : CF z o' P t) : CF z1 o' P t := by
  obtain ⟨h1, ⟨a, op, g1, g2⟩, h3, h4, h5, h6, h7, h8, h9, h10, h11, h12, h13⟩ := c
  have e1 : ∀ k, zI z1 o' k = zI z o' k := fun k => h.1 o' k hne
  have e2 : zI z1 1 3 = zI z 1 3 := h.1 1 3 (by omega)
  have e3 : zR z1 = zR z := h.2.2.1
  have e4 : zG z1 o' = zG z o' := h.2.1 o' hne
  unfold CF
  rw [e4, e1, e1, e1, e1, e1, e1, e1, e1, e1, e1, e2, e3]
  exact ⟨h1, ⟨a, op, g1, g2.eqv h.2.2.2.2.1 h.2.2.2.2.2.1 h.2.2.2.2.2.2⟩, h3, h4, h5, h6, h7, h8, h9, h10, h11, h12, h13⟩
def twD (s t : FS) : Int32 := am (s.1 - t.1) + am (s.2.1 - t.2.1) + am (s.2.2.1 - t.2.2.1)
theorem FI.hE {t : FS} (h : FI t) : EG t.2.2.1 := by
  have := h.h
  unfold EG
  omega
theorem twD_bd {s t : FS} (hs : FI s) (ht : FI t) : 0 ≤ (twD s t).toInt := by
  have h1 := dist_bd (a := s.1) (b := t.1) hs.1 ht.1
  have h2 := dist_bd (a := s.2.1) (b := t.2.1) hs.2.1 ht.2.1
  have h3 := dist_bd (a := s.2.2.1) (b := t.2.2.1) hs.hE ht.hE
  unfold twD
  rw [Int32.toInt_add, Int32.toInt_add]
  generalize (am (s.1 - t.1)).toInt = a at h1 ⊢
  generalize (am (s.2.1 - t.2.1)).toInt = b at h2 ⊢
  generalize (am (s.2.2.1 - t.2.2.1)).toInt = c at h3 ⊢
  have e : Int.bmod (a + b) (2 ^ 32) = a + b := by rw [Int.bmod_def]; split <;> omega
  rw [e, Int.bmod_def]
  split <;> omega
def twU (l d : Int32) : Int32 := if l < 0 then d else if l ≤ d then l else d
noncomputable def twL (a b : Nat → FS) : Nat → Nat → Int32 → Int32
  | 0, _, l => l
  | (r + 1), i, l => if (a i).2.2.1 = 0 then l else if (b i).2.2.1 = 0 then l else twL a b r (i + 1) (twU l (twD (a i) (b i)))
theorem twL_s {a b : Nat → FS} (ha : (a 231).2.2.1 = 0) : ∀ (r i : Nat) (l : Int32), 232 ≤ r + i → i ≤ 231 → twL a b r i l = twL a b (r + 1) i l := by
  intro r
  induction r with
  | zero => intro i l h1 h2; omega
  | succ r ih =>
    intro i l h1 h2
    unfold twL
    by_cases c : (a i).2.2.1 = 0
    · rw [if_pos c, if_pos c]
    · rw [if_neg c, if_neg c]
      have hi : i ≠ 231 := fun q => c (by rw [q]; exact ha)
      by_cases c2 : (b i).2.2.1 = 0
      · rw [if_pos c2, if_pos c2]
      · rw [if_neg c2, if_neg c2]
        exact ih (i + 1) _ (by omega) (by omega)
theorem c_landed {z : ZS} {o : Nat} {P : FP} {t : FS} (c : CF z o P t) (f : FI t) {post : Int32 → ZS → Prop} (h1 : t.2.2.1 = 0 → post 1 z) (h0 : ¬ t.2.2.1 = 0 → post 0 z) : V_X3_hasLanded z o post := by
  unfold V_X3_hasLanded
  rw [c.at.2.2.1]
  refine ⟨fun q => h0 (fun r => ?_), fun q => h1 (f.zero ?_)⟩
  · rw [r] at q; exact absurd q (by decide)
  · rw [Int32.lt_iff_toInt_lt] at q
    rw [Int32.le_iff_toInt_le]
    omega
theorem OF.k5 {z z1 : ZS} (h : OF 5 z z1) : Kp z z1 := h.kp (Or.inr rfl)
theorem c_two_lp {z0 : ZS} {P1 P2 : FP} {G : Nat} {t1 t2 : FS} (hP1 : PI P1) (hP2 : PI P2) (hF1 : FI t1) (hF2 : FI t2) {post : Int32 → ZS → Prop} : ∀ (r i : Nat) (z : ZS) (l : Int32), r + i = 400 → (l = -4 ∨ 0 ≤ l.toInt) → Kp z0 z → CF z 4 P1 (itF P1 (G + i) t1) → CF z 5 P2 (itF P2 i t2) → (∀ z1, Kp z0 z1 → post (twL (fun i => itF P1 (G + i) t1) (fun i => itF P2 i t2) r i l) z1) → V_X11_two_110 post (r + 1) z l (nI i) := by
  intro r
  induction r with
  | zero =>
    intro i z l e hl o _ _ kk
    unfold V_X11_two_110
    have hi : i = 400 := by omega
    subst hi
    exact ⟨fun _ => kk z o, fun q => absurd (by decide : (400 : Int32) ≤ nI 400) q⟩
  | succ r ih =>
    intro i z l e hl o c4 c5 kk
    unfold V_X11_two_110
    have hi : ¬ (400 : Int32) ≤ nI i := fun q => by
      rw [Int32.le_iff_toInt_le, nI_toInt (by omega), show (400 : Int32).toInt = 400 by decide] at q
      omega
    have f4 := itF_FI hP1 (G + i) t1 hF1
    have f5 := itF_FI hP2 i t2 hF2
    refine ⟨fun q => absurd q hi, fun _ => c_landed c4 f4 (fun h4 => on1 ?_) (fun h4 => on0 (c_landed c5 f5 (fun h5 => on1 ?_) (fun h5 => on0 ?_)))⟩
    · have h := kk z o
      unfold twL at h
      rw [if_pos h4] at h
      exact h
    · have h := kk z o
      unfold twL at h
      rw [if_neg h4, if_pos h5] at h
      exact h
    · have next : ∀ d : Int32, d = twU l (twD (itF P1 (G + i) t1) (itF P2 i t2)) → V_X11_two_169 post (V_X11_two_110 post (r + 1)) z d (nI i) := fun d ed => by
        unfold V_X11_two_169
        refine c_goOn (n := 1) hP1 (by decide) c4 f4 (fun z1 o1 k1 => c_goOn (n := 1) hP2 (by decide) (CF.of o1 (Or.inl rfl) (by decide) c5) f5 (fun z2 o2 k2 t36 e36 => ?_))
        have k1' := CF.of o2 (Or.inr rfl) (by decide) k1
        rw [← itF_add] at k1' k2
        rw [e36, nI_1]
        refine ih (i + 1) z2 d (by omega) (Or.inr ?_) ((o.tr o1.k4).tr o2.k5) k1' k2 (fun z3 k3 => ?_)
        · have hb := twD_bd f4 f5
          rw [ed]
          unfold twU
          rcases hl with hl | hl
          · rw [if_pos (by rw [hl]; decide)]; exact hb
          · rw [if_neg (fun q => by rw [Int32.lt_iff_toInt_lt, i_0] at q; omega)]
            split
            · exact hl
            · exact hb
        · have h := kk z3 k3
          unfold twL at h
          rw [if_neg h4, if_neg h5, ← ed] at h
          exact h
      unfold V_X3_apartFrom V_X11_two_165
      rw [c4.at.1, c4.at.2.1, c4.at.2.2.1, c5.at.1, c5.at.2.1, c5.at.2.2.1]
      refine ⟨fun q => next _ ?_, fun q => ⟨fun q2 => next _ ?_, fun q2 => next _ ?_⟩⟩
      · have n1 : l < 0 := by rw [q]; decide
        unfold twU
        rw [if_pos n1]
        rfl
      · have n1 : ¬ l < 0 := fun r => by
          rcases hl with hl | hl
          · exact q hl
          · rw [Int32.lt_iff_toInt_lt, i_0] at r; omega
        unfold twU
        rw [if_neg n1, if_pos (show l ≤ twD (itF P1 (G + i) t1) (itF P2 i t2) from q2)]
      · have n1 : ¬ l < 0 := fun r => by
          rcases hl with hl | hl
          · exact q hl
          · rw [Int32.lt_iff_toInt_lt, i_0] at r; omega
        unfold twU
        rw [if_neg n1, if_neg (show ¬ l ≤ twD (itF P1 (G + i) t1) (itF P2 i t2) from q2)]
        rfl
theorem m_two95 {P : FP} (hP : PI P) {p1 p2 x y fx l : Int32} {G T : Nat} (hn : G + T ≤ 500) {post : Int32 → ZS → Prop} {rr : ZS → Int32 → Int32 → Int32 → Int32 → Int32 → Int32 → Int32 → Int32 → Prop} : ∀ (k i : Nat) (z : ZS) (t : FS) (u : FU), k + i = G + T → MF z P t u → FI t → (∀ z1 u1, OM z z1 → MF z1 P (itF P k t) u1 → V_X12_two_121 post rr z1 p1 p2 (nI G) x y fx l (nI T)) → V_X12_two_95 post rr (k + 1) z p1 p2 (nI G) x y fx l (nI T) (nI i) := by
  intro k
  induction k with
  | zero =>
    intro i z t u e c f kk
    unfold V_X12_two_95
    rw [nI_add]
    exact ⟨fun _ => kk z u (OM.rf z) c, fun q => absurd (nI_le (by omega) (by omega)) q⟩
  | succ k ih =>
    intro i z t u e c f kk
    unfold V_X12_two_95
    rw [nI_add]
    refine ⟨fun q => absurd q (nI_ge (by omega) (by omega)), fun _ => m_landed c (fun h1 => on1 (kk z u (OM.rf z) ?_)) (fun h1 => on0 (m_sec hP f c (fun z1 o1 c1 t26 e26 => ?_)))⟩
    · rw [itF_0 h1]; exact c
    · rw [e26, nI_1]
      exact ih (i + 1) z1 _ _ (by omega) c1 (sec_FI hP f h1).1 (fun z2 u2 o2 c2 => kk z2 u2 (o1.tr o2) (by rw [itF_s h1]; exact c2))
theorem m_two162 {P : FP} (hP : PI P) {p1 p2 g x y fx l v9 v10 v11 : Int32} {T : Nat} (hn : T ≤ 500) {post : Int32 → ZS → Prop} {rr : ZS → Int32 → Int32 → Int32 → Int32 → Int32 → Int32 → Int32 → Int32 → Prop} : ∀ (k i : Nat) (z : ZS) (t : FS) (u : FU), k + i = T → MF z P t u → FI t → (∀ z1 u1, OM z z1 → MF z1 P (itF P k t) u1 → V_X12_two_186 post rr z1 p1 p2 g x y fx l (nI T) v9 v10 v11) → V_X12_two_162 post rr (k + 1) z p1 p2 g x y fx l (nI T) v9 v10 v11 (nI i) := by
  intro k
  induction k with
  | zero =>
    intro i z t u e c f kk
    unfold V_X12_two_162
    exact ⟨fun _ => kk z u (OM.rf z) c, fun q => absurd (nI_le (by omega) (by omega)) q⟩
  | succ k ih =>
    intro i z t u e c f kk
    unfold V_X12_two_162
    refine ⟨fun q => absurd q (nI_ge (by omega) (by omega)), fun _ => m_landed c (fun h1 => on1 (kk z u (OM.rf z) ?_)) (fun h1 => on0 (m_sec hP f c (fun z1 o1 c1 t26 e26 => ?_)))⟩
    · rw [itF_0 h1]; exact c
    · rw [e26, nI_1]
      exact ih (i + 1) z1 _ _ (by omega) c1 (sec_FI hP f h1).1 (fun z2 u2 o2 c2 => kk z2 u2 (o1.tr o2) (by rw [itF_s h1]; exact c2))
noncomputable abbrev twP (z : ZS) (f : Nat) : FP := aP z (kO z f) (fO z f) (oO z f) (zI z 1 2) none
theorem twP_kp {z z1 : ZS} (h : Kp z z1) (f : Nat) : twP z1 f = twP z f := by
  unfold twP
  rw [aP_kp h, (kO_kp h f).1, (kO_kp h f).2.1, (kO_kp h f).2.2, (g_kp h).1]
theorem m_two_lp {z0 : ZS} {f1 f2 a1 a2 G : Nat} {p1 p2 x y fx : Int32} (hR : Rel z0) (g1 : FO z0 p1 f1 a1) (g2 : FO z0 p2 f2 a2) (hG : G ≤ 20) (hx : EG x) (hy : EG y) (hfx : EG fx) {post : Int32 → ZS → Prop} : ∀ (r i : Nat) (z : ZS) (l : Int32), r + i = 401 → OM z0 z → (∀ z1, OM z0 z1 → post (twL (fun i => itF (twP z0 f1) (G + i) (aF z0 x y 1)) (fun i => itF (twP z0 f2) i (aF z0 fx y 1)) r i l) z1) → V_X12_two_74 post (r + 1) z p1 p2 (nI G) x y fx l (nI i) := by
  intro r
  induction r with
  | zero =>
    intro i z l e o kk
    unfold V_X12_two_74
    have hi : i = 401 := by omega
    subst hi
    exact ⟨fun _ => kk z o, fun q => absurd (by decide : (400 : Int32) < nI 401) q⟩
  | succ r ih =>
    intro i z l e o kk
    unfold V_X12_two_74
    have hi : ¬ (400 : Int32) < nI i := fun q => by
      rw [Int32.lt_iff_toInt_lt, nI_toInt (by omega), show (400 : Int32).toInt = 400 by decide] at q
      omega
    refine ⟨fun q => absurd q hi, fun _ => ?_⟩
    have ep1 := g1.1
    have ep2 := g2.1
    subst ep1
    subst ep2
    have hRz := hR.kp o.kp
    have hP1 : PI (twP z0 f1) := aP_I hR g1.2.2.2.2.2 hR.gust
    have hP2 : PI (twP z0 f2) := aP_I hR g2.2.2.2.2.2 hR.gust
    have hF1 := aF_I hR hx hy 1
    have hF2 := aF_I hR hfx hy 1
    refine m_leavesOne hRz g1.2.1 (fun z1 o1 k1 => ?_)
    change MF z1 (twP z f1) (aF z x y 1) _ at k1
    rw [twP_kp o.kp f1, aF_kp o.kp] at k1
    refine ⟨G + i + 1, m_two95 hP1 (by omega) (G + i) 0 z1 _ _ (by omega) k1 hF1 (fun z2 u2 o2 k2 => ?_)⟩
    have o02 := o.tr (o1.tr o2)
    unfold V_X12_two_121
    refine m_landed k2 (fun h4 => no1 ?_) (fun h4 => no0 ?_)
    · have h := kk z2 o02
      unfold twL at h
      rw [if_pos h4] at h
      exact h
    · intro t26 e26 t27 e27 t28 e28
      rw [k2.at.1] at e26
      rw [k2.at.2.1] at e27
      rw [k2.at.2.2.1] at e28
      subst e26
      subst e27
      subst e28
      refine m_leavesOne (hR.kp o02.kp) g2.2.1 (fun z3 o3 k3 => ?_)
      change MF z3 (twP z2 f2) (aF z2 fx y 1) _ at k3
      rw [twP_kp o02.kp f2, aF_kp o02.kp] at k3
      refine ⟨i + 1, m_two162 hP2 (by omega) i 0 z3 _ _ (by omega) k3 hF2 (fun z4 u4 o4 k4 => ?_)⟩
      have o04 := o02.tr (o3.tr o4)
      unfold V_X12_two_186 V_X12_two_242
      refine m_landed k4 (fun h5 => no1 ?_) (fun h5 => no0 ?_)
      · have h := kk z4 o04
        unfold twL at h
        rw [if_neg h4, if_pos h5] at h
        exact h
      · rw [k4.at.1]
        refine m_amount ?_
        rw [k4.at.2.1]
        refine m_amount ?_
        rw [k4.at.2.2.1]
        refine m_amount (fun t41 e41 => ?_)
        have e41 : t41 = twD (itF (twP z0 f1) (G + i) (aF z0 x y 1)) (itF (twP z0 f2) i (aF z0 fx y 1)) := e41
        have next : ∀ d : Int32, d = twU l t41 → V_X12_two_249 post (V_X12_two_74 post (r + 1)) z4 (nI f1) (nI f2) (nI G) x y fx (nI i) d := fun d ed => by
          unfold V_X12_two_249
          intro t43 e43
          rw [e43, nI_1]
          refine ih (i + 1) z4 d (by omega) o04 (fun z5 o5 => ?_)
          have h := kk z5 o5
          unfold twL at h
          rw [if_neg h4, if_neg h5, ← e41, ← ed] at h
          exact h
        refine ⟨fun q => next _ ?_, fun q => ⟨fun q2 => next _ ?_, fun q2 => next _ ?_⟩⟩
        · unfold twU; rw [if_pos q]
        · unfold twU; rw [if_neg q, if_pos q2]
        · unfold twU; rw [if_neg q, if_neg q2]
theorem sk_22 : SK_22 Rel := by
  intro z p1 p2 p3 p4 p5 hR
  unfold V_X11_two
  rcases fcase hR p1 with hb | ⟨f, a, g⟩
  · rcases fcase hR p2 with hb2 | ⟨f2, a2, g2⟩
    · exact c_fB hb (c_fB hb2 ⟨fun _ => (by unfold V_X12_two; exact m_fB hR hb (no0 ⟨rfl, hR⟩)), fun a q => by cases q⟩)
    · exact c_fB hb (c_fO g2 ⟨fun _ => (by unfold V_X12_two; exact m_fB hR hb (no0 ⟨rfl, hR⟩)), fun a q => by cases q⟩)
  rcases fcase hR p2 with hb2 | ⟨f2, a2, g2⟩
  · refine c_fO g (c_fB hb2 ⟨fun q => (by cases q), fun a' q => ⟨fun _ => ?_, fun a'' q => by cases q⟩⟩)
    unfold V_X12_two
    exact m_fO hR g (no1 (m_fB hR hb2 (no0 ⟨rfl, hR⟩)))
  refine c_fO g (c_fO g2 ⟨fun q => (by cases q), fun a' q => ⟨fun q => (by cases q), fun a'' q2 => ?_⟩⟩)
  cases q
  cases q2
  have g5 := g.2.2.2.2.2
  have h5 := g2.2.2.2.2.2
  refine ⟨fun e => ?_, fun e => ?_⟩
  · unfold V_X12_two
    exact m_fO hR g (no1 (m_fO hR g2 (no1 ⟨fun _ => ⟨rfl, hR⟩, fun q => absurd e q⟩)))
  have mm : ∀ (z1 : ZS) (post : Int32 → ZS → Prop), Rel z1 → FO z1 p1 f a → FO z1 p2 f2 a2 → (¬ ((1 ≤ p3.toInt ∧ p3.toInt ≤ 20) ∧ EG p4 ∧ EG p5) → post (-1) z1) → ((1 ≤ p3.toInt ∧ p3.toInt ≤ 20) ∧ EG p4 ∧ EG p5 → (∃ n59 : Nat, V_X12_two_74 post n59 z1 p1 p2 p3 p4 p5 (hB (p4 + ((zR z1 14 0 1) * p3))) (-4 : Int32) (0 : Int32))) → V_X12_two z1 p1 p2 p3 p4 p5 post := fun z1 post hR1 g1 g21 h0 h1 => by
    unfold V_X12_two
    exact m_fO hR1 g1 (no1 (m_fO hR1 g21 (no1 ⟨fun q => absurd q e, fun _ => ge_in 1 20 rfl rfl (fun c1 => no1 (ge_edge (fun c2 => no1 (ge_edge (fun c3 => on1 (m_held (h1 ⟨c1, c2, c3⟩))) (fun c => on0 (h0 (fun q => c q.2.2))))) (fun c => no0 (h0 (fun q => c q.2.1))))) (fun c => no0 (h0 (fun q => c q.1)))⟩)))
  have bad : ¬ ((1 ≤ p3.toInt ∧ p3.toInt ≤ 20) ∧ EG p4 ∧ EG p5) → V_X12_two z p1 p2 p3 p4 p5 (fun r2 z2 => r2 = -1 ∧ Rel z2) := fun q => mm z _ hR g g2 (fun _ => ⟨rfl, hR⟩) (fun c => absurd c q)
  refine ge_gap (fun c1 => no1 (ge_place (fun c2 c3 => on1 ?_) (fun c => on0 (bad (fun q => c q.2))))) (fun c => no0 (bad (fun q => c q.1)))
  obtain ⟨G, eG, eG2, -⟩ := nat_of (p := p3) (by omega)
  subst eG
  have hP1 : PI (twP z f) := aP_I hR g5 hR.gust
  have hP2 : PI (twP z f2) := aP_I hR h5 hR.gust
  have hF1 := aF_I hR c2 c3 1
  have hfx : EG (hB (p4 + zI z 1 3 * nI G)) := hB_bd _
  have hF2 := aF_I hR hfx c3 1
  refine c_begin (Or.inl rfl) g5 (fun z1 o1 k1 => c_goOn (n := G) hP1 (by omega) k1 hF1 (fun z2 o2 k2 => ?_))
  have o02 := o1.tr o2
  have hR2 := o02.rel hR
  rw [(g_kp o02.k4).2.1]
  refine c_held (c_begin (Or.inr rfl) (h5.kp o02.k4) (fun z3 o3 k3 => ?_))
  have k03 : Kp z z3 := o02.k4.tr o3.k5
  rw [aP_kp o02.k4, aF_kp o02.k4, (g_kp o02.k4).1] at k3
  have k23 := CF.of o3 (Or.inr rfl) (by decide) k2
  have ha : (itF (twP z f) (G + 231) (aF z p4 p5 1)).2.2.1 = 0 := itF_land hP1 (G + 231) _ hF1 (by have := hF1.2.2.2.1; omega)
  have hs := twL_s (a := fun i => itF (twP z f) (G + i) (aF z p4 p5 1)) (b := fun i => itF (twP z f2) i (aF z (hB (p4 + zI z 1 3 * nI G)) p5 1)) ha 400 0 (-4) (by decide) (by decide)
  obtain ⟨A, hA⟩ : ∃ A, twL (fun i => itF (twP z f) (G + i) (aF z p4 p5 1)) (fun i => itF (twP z f2) i (aF z (hB (p4 + zI z 1 3 * nI G)) p5 1)) 400 0 (-4) = A := ⟨_, rfl⟩
  rw [hA] at hs
  have hc := c_two_lp (z0 := z3) (G := G) hP1 hP2 hF1 hF2 (post := fun r z1 => V_X12_two z1 p1 p2 (nI G) p4 p5 (fun r2 z2 => r2 = r ∧ Rel z2)) 400 0 z3 (-4) rfl (Or.inl rfl) (Kp.rf z3) k23 k3 (by
    rw [hA]
    intro z4 k4
    have k04 := k03.tr k4
    have hR4 := hR.kp k04
    have g4 := g.kp k04
    have g24 := g2.kp k04
    refine mm z4 _ hR4 g4 g24 (fun q => absurd ⟨c1, c2, c3⟩ q) (fun _ => ?_)
    have ep : zR z4 14 0 1 = zI z 1 3 := by rw [hR4.1.1.2.1]; exact (g_kp k04).2.1
    rw [ep]
    have hm := m_two_lp hR4 g4 g24 (G := G) (by omega) c2 c3 hfx (post := fun r2 z2 => r2 = A ∧ Rel z2) 401 0 z4 (-4) rfl (OM.rf z4) (by
      rw [twP_kp k04, twP_kp k04, aF_kp k04, aF_kp k04, ← hs]
      exact fun z5 o5 => ⟨rfl, hR4.kp o5.kp⟩)
    exact ⟨401 + 1, hm⟩)
  exact ⟨400 + 1, hc⟩
