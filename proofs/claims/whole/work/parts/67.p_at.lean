/-! PURE, part 18: at, mean -/
theorem m_at_lp {P : FP} (hP : PI P) {w : Int32} {post : Int32 → ZS → Prop} {n : Nat} (hn : n ≤ 400) : ∀ (k i : Nat) (z : ZS) (t : FS) (u : FU), k + i = n → MF z P t u → FI t → (∀ z1 u1, OM z z1 → MF z1 P (itF P k t) u1 → V_X12_at_86 post z1 w) → V_X12_at_62 post (k + 1) z (nI n) w (nI i) := by
  intro k
  induction k with
  | zero =>
    intro i z t u e c f kk
    unfold V_X12_at_62
    exact ⟨fun _ => kk z u (OM.rf z) c, fun q => absurd (nI_le (by omega) (by omega)) q⟩
  | succ k ih =>
    intro i z t u e c f kk
    unfold V_X12_at_62
    refine ⟨fun q => absurd q (nI_ge (by omega) (by omega)), fun _ => m_landed c (fun h1 => on1 (kk z u (OM.rf z) ?_)) (fun h1 => on0 (m_sec hP f c (fun z1 o1 c1 t26 e26 => ?_)))⟩
    · rw [itF_0 h1]; exact c
    · rw [e26, nI_1]
      exact ih (i + 1) z1 _ _ (by omega) c1 (sec_FI hP f h1).1 (fun z2 u2 o2 c2 => kk z2 u2 (o1.tr o2) (by rw [itF_s h1]; exact c2))
theorem sk_9 : SK_9 Rel := by
  intro z p1 p2 p3 p4 p5 hR
  unfold V_X11_at
  rcases fcase hR p1 with hb | ⟨f, a, g⟩
  · exact c_fB hb ⟨fun _ => (by unfold V_X12_at; exact m_fB hR hb (no0 ⟨rfl, hR⟩)), fun a q => by cases q⟩
  refine c_fO g ⟨fun q => (by cases q), fun a' q => ?_⟩
  cases q
  have g5 := g.2.2.2.2.2
  have mm : ∀ (z1 : ZS) (post : Int32 → ZS → Prop), Rel z1 → FO z1 p1 f a → (¬ (EG p2 ∧ EG p3 ∧ (0 ≤ p4.toInt ∧ p4.toInt ≤ 400) ∧ 0 ≤ p5.toInt ∧ p5.toInt ≤ 2) → post (-1000000001) z1) → (EG p2 → EG p3 → (0 ≤ p4.toInt ∧ p4.toInt ≤ 400) → (0 ≤ p5.toInt ∧ p5.toInt ≤ 2) → V_X12_leavesOne z1 p1 p2 p3 (1 : Int32) (fun z16 => (∃ n27 : Nat, V_X12_at_62 post n27 z16 p4 p5 (0 : Int32)))) → V_X12_at z1 p1 p2 p3 p4 p5 post := fun z1 post hR1 g1 h0 h1 => by
    unfold V_X12_at
    exact m_fO hR1 g1 (no1 (ge_edge (fun c1 => no1 (ge_edge (fun c2 => no1 (ge_in 0 400 rfl rfl (fun c3 => no1 (ge_in 0 2 rfl rfl (fun c4 => on1 (h1 c1 c2 c3 c4)) (fun c => on0 (h0 (fun q => c q.2.2.2))))) (fun c => no0 (h0 (fun q => c q.2.2.1))))) (fun c => no0 (h0 (fun q => c q.2.1))))) (fun c => no0 (h0 (fun q => c q.1)))))
  have bad : ¬ (EG p2 ∧ EG p3 ∧ (0 ≤ p4.toInt ∧ p4.toInt ≤ 400) ∧ 0 ≤ p5.toInt ∧ p5.toInt ≤ 2) → V_X12_at z p1 p2 p3 p4 p5 (fun r2 z2 => r2 = -1000000001 ∧ Rel z2) := fun q => mm z _ hR g (fun _ => ⟨rfl, hR⟩) (fun c1 c2 c3 c4 => absurd ⟨c1, c2, c3, c4⟩ q)
  refine ge_place (fun c1 c2 => no1 (ge_from 0 400 rfl rfl (fun c3 => no1 (ge_from 0 2 rfl rfl (fun c4 => on1 ?_) (fun c => on0 (bad (fun q => c q.2.2.2))))) (fun c => no0 (bad (fun q => c q.2.2.1))))) (fun c => no0 (bad (fun q => c ⟨q.1, q.2.1⟩)))
  obtain ⟨n, en, en2, -⟩ := nat_of c3.1
  have hn : n ≤ 400 := by omega
  have hP := aP_I (w := none) hR g5 hR.gust
  have hF := aF_I hR c1 c2 1
  have hf := g.2.1
  refine c_begin (Or.inl rfl) g5 (fun z1 o1 k1 => ?_)
  rw [en]
  refine c_goOn (n := n) hP (by omega) k1 hF (fun z2 o2 k2 => ?_)
  have o12 := o1.tr o2
  have hR2 := o12.rel hR
  have g2 := g.kp o12.k4
  dsimp only
  rw [k2.at.1, k2.at.2.1, k2.at.2.2.1]
  rw [← en]
  have go : ∀ post : Int32 → ZS → Prop, (∀ z3 P u, OM z2 z3 → MF z3 P (itF (aP z (kO z f) (fO z f) (oO z f) (zI z 1 2) none) n (aF z p2 p3 1)) u → V_X12_at_86 post z3 p5) → V_X12_at z2 p1 p2 p3 p4 p5 post := fun post k => mm z2 post hR2 g2 (fun q => absurd ⟨c1, c2, c3, c4⟩ q) (fun _ _ _ _ => by
    rw [g.1]
    refine m_leavesOne hR2 hf (fun z3 o3 k3 => ?_)
    rw [aP_kp o12.k4, aF_kp o12.k4, (kO_kp o12.k4 f).1, (kO_kp o12.k4 f).2.1, (kO_kp o12.k4 f).2.2, o12.k4.1 1 2 (by unfold keepI; omega)] at k3
    rw [en]
    exact ⟨n + 1, m_at_lp hP hn n 0 z3 _ _ (by omega) k3 hF (fun z4 u4 o4 k4 => k z4 _ u4 (o3.tr o4) k4)⟩)
  unfold V_X12_at_86 at go
  exact ⟨fun w0 => ⟨fun w1 => go _ (fun z3 P u o3 k3 => ⟨fun _ => ⟨fun _ => ⟨k3.at.2.2.1, hR2.kp o3.kp⟩, fun q => absurd q w1⟩, fun q => absurd q w0⟩), fun w1 => go _ (fun z3 P u o3 k3 => ⟨fun _ => ⟨fun q => absurd w1 q, fun _ => ⟨k3.at.2.1, hR2.kp o3.kp⟩⟩, fun q => absurd q w0⟩)⟩, fun w0 => go _ (fun z3 P u o3 k3 => ⟨fun q => absurd w0 q, fun _ => ⟨k3.at.1, hR2.kp o3.kp⟩⟩)⟩
-- mean
theorem c_hold {z : ZS} {o : Nat} {P : FP} {t : FS} {e n : Int32} (h : CF z o P t) {post : ZS → Prop} (kk : ∀ z1, OF o z z1 → CF z1 o (P.1, P.2.1, some (e, n)) t → post z1) : V_X3_holdWay z o e n post := by
  unfold V_X3_holdWay
  intro z1 e1 z2 e2 z3 e3
  subst e1; subst e2; subst e3
  obtain ⟨h1, ⟨a, op, g1, g2⟩, h3, -, h5, h6, h7, h8, h9, h10, h11, h12, h13⟩ := h
  rcases h1 with rfl | rfl
  · exact kk _ ((((OF.rf 4 z).I 9 _).I 10 _).I 11 _) ⟨Or.inl rfl, ⟨a, op, g1, g2⟩, h3, ⟨one_ne, rfl, rfl⟩, h5, h6, h7, h8, h9, h10, h11, h12, h13⟩
  · exact kk _ ((((OF.rf 5 z).I 9 _).I 10 _).I 11 _) ⟨Or.inr rfl, ⟨a, op, g1, g2⟩, h3, ⟨one_ne, rfl, rfl⟩, h5, h6, h7, h8, h9, h10, h11, h12, h13⟩
theorem MF.way {z : ZS} {P : FP} {t : FS} {u : FU} (h : MF z P t u) {w : Int32} (hw : ¬ w = -1) : MF (wI z 14 21 w) (P.1, P.2.1, some (wyE w (paceB P.2.1.1 P.2.1.2.1), wyN w (paceB P.2.1.1 P.2.1.2.1))) t u := by
  obtain ⟨h1, h2, h3, h4, -, h6⟩ := h
  exact ⟨h1, h2, h3, h4, ⟨hw, rfl⟩, h6⟩
theorem itU_0 {P : FP} {n : Nat} {t : FS} {u : FU} (h : t.2.2.1 = 0) : itU P n t u = u := by
  cases n with
  | zero => rfl
  | succ n => exact if_pos h
theorem itU_s {P : FP} {n : Nat} {t : FS} {u : FU} (h : ¬ t.2.2.1 = 0) : itU P (n + 1) t u = itU P n (secF P t) (opn P t u) := if_neg h
theorem itU_add {P : FP} (m : Nat) : ∀ (n : Nat) (t : FS) (u : FU), itU P (n + m) t u = itU P m (itF P n t) (itU P n t u) := by
  intro n
  induction n with
  | zero => intro t u; rw [Nat.zero_add]; rfl
  | succ n ih =>
    intro t u
    by_cases c : t.2.2.1 = 0
    · rw [itU_0 c, itU_0 c, itF_0 c, itU_0 c]
    · rw [show n + 1 + m = n + m + 1 by omega, itU_s c, itU_s c, itF_s c]; exact ih _ _
theorem itU_early {P : FP} (hP : PI P) : ∀ (n : Nat) (t : FS) (u : FU), FI t → t.2.2.2.1.toInt + n ≤ P.2.1.2.2.toInt → itU P n t u = u := by
  intro n
  induction n with
  | zero => intro t u _ _; rfl
  | succ n ih =>
    intro t u f q
    by_cases c : t.2.2.1 = 0
    · exact itU_0 c
    · have eo : opn P t u = u := if_neg (fun r => by
        have r1 := r.1
        rw [Int32.le_iff_toInt_le] at r1
        omega)
      have e := sec_FI hP f c
      rw [itU_s c, eo]
      exact ih _ _ e.1 (by rw [e.2]; omega)
theorem itU_late {P : FP} {u : FU} (h : 0 ≤ u.2.2) : ∀ (n : Nat) (t : FS), itU P n t u = u := by
  intro n
  induction n with
  | zero => intro t; rfl
  | succ n ih =>
    intro t
    by_cases c : t.2.2.1 = 0
    · exact itU_0 c
    · have eo : opn P t u = u := if_neg (fun r => r.2 h)
      rw [itU_s c, eo]
      exact ih _
theorem itF_sec {P : FP} (hP : PI P) : ∀ (n : Nat) (t : FS), FI t → ¬ (itF P n t).2.2.1 = 0 → (itF P n t).2.2.2.1.toInt = t.2.2.2.1.toInt + n := by
  intro n
  induction n with
  | zero => intro t _ _; show t.2.2.2.1.toInt = _; omega
  | succ n ih =>
    intro t f h
    by_cases c : t.2.2.1 = 0
    · rw [itF_0 c] at h; exact absurd c h
    · rw [itF_s c] at h ⊢
      have e := sec_FI hP f c
      rw [ih _ e.1 h, e.2]
      omega
theorem itF_mono {P : FP} (hP : PI P) : ∀ (n : Nat) (t : FS), FI t → t.2.2.2.1.toInt ≤ (itF P n t).2.2.2.1.toInt := by
  intro n
  induction n with
  | zero => intro t _; exact Int.le_refl _
  | succ n ih =>
    intro t f
    by_cases c : t.2.2.1 = 0
    · rw [itF_0 c]; exact Int.le_refl _
    · rw [itF_s c]
      have e := sec_FI hP f c
      have h := ih _ e.1
      rw [e.2] at h
      omega
theorem fin_it {P : FP} (hP : PI P) (n : Nat) {t : FS} (h : FI t) : fin P (itF P n t) = fin P t := by
  have e := itF_fin hP (n := n + 231) (by omega) h
  rw [itF_add] at e
  exact e
theorem fin_later {P : FP} (hP : PI P) {t : FS} (h : FI t) (h0 : ¬ t.2.2.1 = 0) : t.2.2.2.1.toInt < (fin P t).2.2.2.1.toInt := by
  have e := sec_FI hP h h0
  have m := itF_mono hP 230 _ e.1
  have q : fin P t = itF P 230 (secF P t) := itF_s h0
  rw [q]
  rw [e.2] at m
  omega
/-- when it opened, of a whole fall -/
theorem U_fin {P : FP} (hP : PI P) {n : Nat} (hn : n ≤ 20) (ho : P.2.1.2.2 = nI n) {t : FS} {u : FU} (hF : FI t) (hs : t.2.2.2.1 = 0) (hu : u.2.2 = -4) : ((itF P n t).2.2.1 = 0 ∧ itU P 231 t u = u) ∨ (¬ (itF P n t).2.2.1 = 0 ∧ itU P 231 t u = ((itF P n t).1, (itF P n t).2.1, (itF P n t).2.2.2.1)) := by
  have hoi : P.2.1.2.2.toInt = n := by rw [ho, nI_toInt (by omega)]
  have e1 : itU P n t u = u := itU_early hP n t u hF (by rw [hs, i_0, hoi]; omega)
  have e2 : itU P 231 t u = itU P (231 - n) (itF P n t) u := by
    have q := itU_add (P := P) (231 - n) n t u
    rw [show n + (231 - n) = 231 by omega, e1] at q
    exact q
  by_cases c : (itF P n t).2.2.1 = 0
  · exact Or.inl ⟨c, by rw [e2, itU_0 c]⟩
  · refine Or.inr ⟨c, ?_⟩
    have q := itF_sec hP n t hF c
    rw [hs, i_0] at q
    obtain ⟨m, em⟩ : ∃ m, 231 - n = m + 1 := ⟨230 - n, by omega⟩
    have eo : opn P (itF P n t) u = ((itF P n t).1, (itF P n t).2.1, (itF P n t).2.2.2.1) := if_pos ⟨by rw [Int32.le_iff_toInt_le, hoi]; omega, by rw [hu]; decide⟩
    rw [e2, em, itU_s c, eo]
    exact itU_late (by rw [Int32.le_iff_toInt_le, i_0]; show 0 ≤ (itF P n t).2.2.2.1.toInt; omega) m _
theorem sk_10 : SK_10 Rel := by
  intro z p1 p2 p3 p4 hp4 hR
  unfold V_X11_mean
  rcases fcase hR p1 with hb | ⟨f, a, g⟩
  · exact c_fB hb ⟨fun _ => (by unfold V_X12_mean; exact m_fB hR hb (no0 ⟨rfl, hR⟩)), fun a q => by cases q⟩
  refine c_fO g ⟨fun q => (by cases q), fun a' q => ?_⟩
  cases q
  have g5 := g.2.2.2.2.2
  have hf := g.2.1
  refine ge_place (fun c1 c2 => on1 ?_) (fun c => on0 ?_)
  · have hP : PI (aP z (kO z f) (fO z f) (oO z f) (zI z 1 2) (some (0, 0))) := aP_I hR g5 hR.gust
    have hF := aF_I hR c1 c2 1
    obtain ⟨n, en, en2, -⟩ := nat_of g5.2.2.2.2.2.2.2.2.2.2.2.1
    have hn : n ≤ 20 := by have := g5.2.2.2.2.2.2.2.2.2.2.2.2; omega
    refine c_begin (Or.inl rfl) g5 (fun z1 o1 k1 => c_hold k1 (fun z2 o2 k2 => ?_))
    have g2 := (g.kp ((o1.tr o2).k4)).2.2.2.2.2
    refine ⟨g2.1, ?_⟩
    have eo : zF z2 a 2 = nI n := by rw [g2.2.2.2.2.1, ← en, (o1.tr o2).k4.2.1 14 0 (by unfold keepR; omega)]
    rw [eo]
    refine c_goOn (n := n) hP (by omega) k2 hF (fun z3 o3 k3 => ?_)
    have hF3 := itF_FI hP n _ hF
    have o13 := (o1.tr o2).tr o3
    have mm : ∀ (z4 : ZS) (post : Int32 → ZS → Prop), OF 4 z z4 → (∀ z5 u, OM z4 z5 → MF z5 (aP z (kO z f) (fO z f) (oO z f) (zI z 1 2) (some (0, 0))) (fin (aP z (kO z f) (fO z f) (oO z f) (zI z 1 2) (some (0, 0))) (aF z p2 p3 1)) (itU (aP z (kO z f) (fO z f) (oO z f) (zI z 1 2) (some (0, 0))) 231 (aF z p2 p3 1) u) → u.2.2 = -4 → ((0 ≤ (zI z5 14 29) → (∀ t16 : Int32, t16 = ((zI z5 14 25) - (zI z5 14 29)) → ((p4 = 0 → (¬ t16 = 0 ∧ post (((zI z5 14 22) - (zI z5 14 27)) / t16) z5)) ∧ (¬ p4 = 0 → (¬ t16 = 0 ∧ post (((zI z5 14 23) - (zI z5 14 28)) / t16) z5))))) ∧ (¬ 0 ≤ (zI z5 14 29) → post (0 : Int32) z5))) → V_X12_mean z4 p1 p2 p3 p4 post := fun z4 post o4 k => by
      unfold V_X12_mean
      have hR4 := o4.rel hR
      have g4 := g.kp o4.k4
      refine m_fO hR4 g4 (no1 (ge_edge (fun _ => no1 (ge_edge (fun _ => on1 ?_) (fun c => absurd c2 c))) (fun c => absurd c1 c)))
      rw [g.1]
      refine m_leavesOne hR4 hf (fun z5 o5 k5 => ?_)
      rw [aP_kp o4.k4, aF_kp o4.k4, (kO_kp o4.k4 f).1, (kO_kp o4.k4 f).2.1, (kO_kp o4.k4 f).2.2, o4.k4.1 1 2 (by unfold keepI; omega)] at k5
      intro z6 e6
      have k6 := k5.way (w := 0) (by decide)
      rw [← e6] at k6
      have o6 := o5.I 21 (0 : Int32) (by decide)
      rw [← e6] at o6
      exact m_lands hP k6 hF (fun z7 o7 k7 => k z7 _ (o6.tr o7) k7 rfl)
    have body : ∀ (pz : Int32) (sel : FS → Int32), pz = sel (itF (aP z (kO z f) (fO z f) (oO z f) (zI z 1 2) (some (0, 0))) n (aF z p2 p3 1)) → ((p4 = 0 → sel = fun t => t.1) ∧ (¬ p4 = 0 → sel = fun t => t.2.1)) → V_X11_mean_81 (fun r z1 => V_X12_mean z1 p1 p2 p3 p4 (fun r2 z2 => r2 = r ∧ Rel z2)) z3 p4 pz := fun pz sel epz esel => by
      unfold V_X11_mean_81
      intro t14 e14
      rw [k3.at.2.2.2] at e14
      refine c_land hP k3 hF3 (fun z4 o4 k4 => ?_)
      rw [fin_it hP n hF] at k4
      have o14 := o13.tr o4
      intro t17 e17
      rw [k4.at.2.2.2, e14] at e17
      have hU := fun u => U_fin hP hn (show (oO z f) = nI n from en) (u := u) hF rfl
      have b3 := hF3.2.2.2
      have b4 := (fin_FI hP hF).2.2.2
      have esub : t17.toInt = (fin (aP z (kO z f) (fO z f) (oO z f) (zI z 1 2) (some (0, 0))) (aF z p2 p3 1)).2.2.2.1.toInt - (itF (aP z (kO z f) (fO z f) (oO z f) (zI z 1 2) (some (0, 0))) n (aF z p2 p3 1)).2.2.2.1.toInt := by
        rw [e17, Int32.toInt_sub, Int.bmod_def]
        split <;> omega
      by_cases c : (itF (aP z (kO z f) (fO z f) (oO z f) (zI z 1 2) (some (0, 0))) n (aF z p2 p3 1)).2.2.1 = 0
      · have es : fin (aP z (kO z f) (fO z f) (oO z f) (zI z 1 2) (some (0, 0))) (aF z p2 p3 1) = itF (aP z (kO z f) (fO z f) (oO z f) (zI z 1 2) (some (0, 0))) n (aF z p2 p3 1) := by
          rw [← fin_it hP n hF]; exact itF_0 c
        rw [es] at esub
        have h0 : ¬ 0 < t17 := fun q => by rw [Int32.lt_iff_toInt_lt, i_0] at q; omega
        refine ⟨fun q => absurd q h0, fun _ => mm z4 _ o14 (fun z5 u o5 k5 hu => ?_)⟩
        have k29 : zI z5 14 29 = -4 := by
          rcases hU u hu with ⟨-, q⟩ | ⟨q, -⟩
          · rw [q] at k5; exact k5.2.2.2.2.2.2.2.2.2.2.2.2.trans hu
          · exact absurd c q
        rw [k29]
        exact ⟨fun q => absurd q (by decide), fun _ => ⟨rfl, (o14.rel hR).kp o5.kp⟩⟩
      · have hl := fin_later hP hF3 c
        rw [fin_it hP n hF] at hl
        have h0 : 0 < t17 := by rw [Int32.lt_iff_toInt_lt, i_0]; omega
        have h1 : ¬ t17 = 0 := fun q => by rw [q, i_0] at esub; omega
        have fin2 : ∀ (sv : Int32), sv = sel (fin (aP z (kO z f) (fO z f) (oO z f) (zI z 1 2) (some (0, 0))) (aF z p2 p3 1)) → V_X11_mean_140 (fun r z1 => V_X12_mean z1 p1 p2 p3 p4 (fun r2 z2 => r2 = r ∧ Rel z2)) z4 pz t17 sv := fun sv esv => by
          unfold V_X11_mean_140
          refine ⟨h1, mm z4 _ o14 (fun z5 u o5 k5 hu => ?_)⟩
          have ku : itU (aP z (kO z f) (fO z f) (oO z f) (zI z 1 2) (some (0, 0))) 231 (aF z p2 p3 1) u = ((itF (aP z (kO z f) (fO z f) (oO z f) (zI z 1 2) (some (0, 0))) n (aF z p2 p3 1)).1, (itF (aP z (kO z f) (fO z f) (oO z f) (zI z 1 2) (some (0, 0))) n (aF z p2 p3 1)).2.1, (itF (aP z (kO z f) (fO z f) (oO z f) (zI z 1 2) (some (0, 0))) n (aF z p2 p3 1)).2.2.2.1) := by
            rcases hU u hu with ⟨q, -⟩ | ⟨-, q⟩
            · exact absurd q c
            · exact q
          rw [ku] at k5
          obtain ⟨-, -, -, -, -, q22, q23, -, q25, -, q27, q28, q29⟩ := k5
          have q27 : zI z5 14 27 = (itF (aP z (kO z f) (fO z f) (oO z f) (zI z 1 2) (some (0, 0))) n (aF z p2 p3 1)).1 := q27
          have q28 : zI z5 14 28 = (itF (aP z (kO z f) (fO z f) (oO z f) (zI z 1 2) (some (0, 0))) n (aF z p2 p3 1)).2.1 := q28
          have q29 : zI z5 14 29 = (itF (aP z (kO z f) (fO z f) (oO z f) (zI z 1 2) (some (0, 0))) n (aF z p2 p3 1)).2.2.2.1 := q29
          rw [q22, q23, q25, q27, q28, q29]
          refine ⟨fun _ t16 e16 => ?_, fun q => absurd (by rw [Int32.le_iff_toInt_le, i_0]; omega) q⟩
          rw [← e17] at e16
          subst e16
          refine ⟨fun w => ⟨h1, ?_⟩, fun w => ⟨h1, ?_⟩⟩
          · have es := esel.1 w
            rw [es] at esv epz
            rw [esv, epz]
            exact ⟨rfl, (o14.rel hR).kp o5.kp⟩
          · have es := esel.2 w
            rw [es] at esv epz
            rw [esv, epz]
            exact ⟨rfl, (o14.rel hR).kp o5.kp⟩
        refine ⟨fun _ => ⟨fun w => fin2 _ ?_, fun w => fin2 _ ?_⟩, fun q => absurd h0 q⟩
        · rw [k4.at.1, esel.1 w]
        · rw [k4.at.2.1, esel.2 w]
    exact ⟨fun w => body _ (fun t => t.1) k3.at.1 ⟨fun _ => rfl, fun q => absurd w q⟩, fun w => body _ (fun t => t.2.1) k3.at.2.1 ⟨fun q => absurd q w, fun _ => rfl⟩⟩
  · unfold V_X12_mean
    exact m_fO hR g (no1 (ge_edge (fun c1 => no1 (ge_edge (fun c2 => absurd ⟨c1, c2⟩ c) (fun _ => on0 ⟨rfl, hR⟩))) (fun _ => no0 ⟨rfl, hR⟩)))
