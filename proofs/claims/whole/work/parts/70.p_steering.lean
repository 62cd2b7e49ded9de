/-! PURE, part 21: steering -/
noncomputable def wyO (z : ZS) (k f op x y : Int32) (i : Nat) : Int32 := offT (fin (aP z k f op (zI z 1 2) (some (wyE (nI i) (paceB k f), wyN (nI i) (paceB k f)))) (aF z x y 1))
abbrev T2 : Type := Int32 × Int32
def wyC (o : Nat → Int32) (i : Nat) (a : T2) : T2 := if a.1 ≤ o i then a else (o i, nI i)
def wyM (o : Nat → Int32) (i : Nat) (a : T2) : T2 := if a.1 < 0 then (nI i, o i) else if o i < a.2 then (nI i, o i) else a
def wyR (a b : T2) : Prop := (a.1 = 2147483647 ∧ b.1 = -4) ∨ (a = (b.2, b.1) ∧ 0 ≤ b.1.toInt ∧ 0 ≤ b.2.toInt ∧ b.2.toInt ≤ 60000)
def wyS (a b : T2) : Prop := a = (b.2, b.1) ∧ 0 ≤ b.1.toInt ∧ 0 ≤ b.2.toInt ∧ b.2.toInt ≤ 60000
theorem wy_st {o : Nat → Int32} {i : Nat} (hi : i < 9) (ho : 0 ≤ (o i).toInt ∧ (o i).toInt ≤ 60000) {a b : T2} (h : wyR a b) : wyS (wyC o i a) (wyM o i b) := by
  unfold wyC wyM
  have hn : 0 ≤ (nI i).toInt := by rw [nI_toInt (by omega)]; omega
  rcases h with ⟨e1, e2⟩ | ⟨e1, e2, e3, e4⟩
  · rw [if_neg (fun q => by rw [e1, Int32.le_iff_toInt_le, show (2147483647 : Int32).toInt = 2147483647 by decide] at q; omega), if_pos (by rw [e2]; decide)]
    exact ⟨rfl, hn, ho⟩
  · rw [e1, if_neg (show ¬ b.1 < 0 from fun q => by rw [Int32.lt_iff_toInt_lt, i_0] at q; omega)]
    by_cases c : b.2 ≤ o i
    · rw [if_pos (show (b.2, b.1).1 ≤ o i from c), if_neg (fun q => by rw [Int32.lt_iff_toInt_lt] at q; rw [Int32.le_iff_toInt_le] at c; omega)]
      exact ⟨rfl, e2, e3, e4⟩
    · rw [if_neg (show ¬ (b.2, b.1).1 ≤ o i from c), if_pos (by rw [Int32.lt_iff_toInt_lt]; rw [Int32.le_iff_toInt_le] at c; omega)]
      exact ⟨rfl, hn, ho⟩
theorem wy_both {o : Nat → Int32} (ho : ∀ i, i < 9 → 0 ≤ (o i).toInt ∧ (o i).toInt ≤ 60000) : wyS (fo (wyC o) 9 0 (2147483647, 0)) (fo (wyM o) 9 0 (-4, 0)) :=
  fo_rel (N := 9) wyR wyS (fun _ _ h => Or.inr h) (fun i a b hi h => wy_st hi (ho i hi) h) 8 0 _ _ (by omega) (Or.inl ⟨rfl, rfl⟩)
theorem c_steer45 {z0 : ZS} {a : Nat} {k f op x y w : Int32} (hR : Rel z0) (g : FA z0 a k f op) (hx : EG x) (hy : EG y) {post : Int32 → ZS → Prop} : ∀ (m i : Nat) (z : ZS) (c : T2), m + i = 9 → OF 4 z0 z → (∀ z1, OF 4 z0 z1 → ((¬ w = 0 → post (fo (wyC (wyO z0 k f op x y)) m i c).1 z1) ∧ (w = 0 → post (fo (wyC (wyO z0 k f op x y)) m i c).2 z1))) → V_X11_steering_45 post (m + 1) z x y w a c.1 c.2 (nI i) := by
  intro m
  induction m with
  | zero =>
    intro i z c e o kk
    unfold V_X11_steering_45
    have hi : i = 9 := by omega
    subst hi
    exact ⟨fun _ => kk z o, fun q => absurd (by decide : (8 : Int32) < nI 9) q⟩
  | succ m ih =>
    intro i z c e o kk
    unfold V_X11_steering_45 V_X11_steering_124
    have hi : i < 9 := by omega
    have hi8 : ¬ (8 : Int32) < nI i := fun q => by
      rw [Int32.lt_iff_toInt_lt, nI_toInt (by omega), show (8 : Int32).toInt = 8 by decide] at q
      omega
    rw [fo_s] at kk
    have hRz := o.rel hR
    have gz := g.kp o.k4
    refine ⟨fun q => absurd q hi8, fun _ => c_begin (Or.inl rfl) gz (fun z1 o1 k1 => c_ew hi ?_)⟩
    have g1 := gz.kp o1.k4
    refine ⟨g1.1, c_nw hi ⟨g1.1, ?_⟩⟩
    rw [g1.2.2.2.2.2.2.2.2.1, ew_mul, nw_mul]
    refine c_hold k1 (fun z2 o2 k2 => c_land (aP_I hRz gz hRz.gust) k2 (aF_I hRz hx hy 1) (fun z3 o3 k3 => c_off k3 ?_))
    have eo : offT (fin (aP z k f op (zI z 1 2) (some (wyE (nI i) (paceB k f), wyN (nI i) (paceB k f)))) (aF z x y 1)) = wyO z0 k f op x y i := by
      unfold wyO
      rw [aP_kp o.k4, (g_kp o.k4).1, aF_kp o.k4]
    refine ⟨fun q t15 e15 => ?_, fun q t15 e15 => ?_⟩
    · have q : c.1 ≤ offT (fin (aP z k f op (zI z 1 2) (some (wyE (nI i) (paceB k f), wyN (nI i) (paceB k f)))) (aF z x y 1)) := q
      rw [eo] at q
      have e3 : wyC (wyO z0 k f op x y) i c = c := if_pos q
      rw [e3] at kk
      rw [e15, nI_1]
      exact ih (i + 1) z3 c (by omega) (o.tr (o1.tr (o2.tr o3))) kk
    · have q : ¬ c.1 ≤ offT (fin (aP z k f op (zI z 1 2) (some (wyE (nI i) (paceB k f), wyN (nI i) (paceB k f)))) (aF z x y 1)) := q
      rw [eo] at q
      have e3 : wyC (wyO z0 k f op x y) i c = (wyO z0 k f op x y i, nI i) := if_neg q
      rw [e3] at kk
      rw [e15, nI_1]
      have h := ih (i + 1) z3 (wyO z0 k f op x y i, nI i) (by omega) (o.tr (o1.tr (o2.tr o3))) kk
      rw [← eo] at h
      exact h
theorem m_steer45 {z0 : ZS} {a f : Nat} {p x y w : Int32} (hR : Rel z0) (g : FO z0 p f a) (hx : EG x) (hy : EG y) {post : Int32 → ZS → Prop} : ∀ (m i : Nat) (z : ZS) (c : T2), m + i = 9 → OM z0 z → (∀ z1, OM z0 z1 → ((¬ w = 0 → post (fo (wyM (wyO z0 (kO z0 f) (fO z0 f) (oO z0 f) x y)) m i c).2 z1) ∧ (w = 0 → post (fo (wyM (wyO z0 (kO z0 f) (fO z0 f) (oO z0 f) x y)) m i c).1 z1))) → V_X12_steering_45 post (m + 1) z p x y w c.1 c.2 (nI i) := by
  intro m
  induction m with
  | zero =>
    intro i z c e o kk
    unfold V_X12_steering_45
    have hi : i = 9 := by omega
    subst hi
    exact ⟨fun _ => kk z o, fun q => absurd (by decide : (9 : Int32) ≤ nI 9) q⟩
  | succ m ih =>
    intro i z c e o kk
    unfold V_X12_steering_45 V_X12_steering_87 V_X12_steering_97
    have hi : i < 9 := by omega
    have hi8 : ¬ (9 : Int32) ≤ nI i := fun q => by
      rw [Int32.le_iff_toInt_le, nI_toInt (by omega), show (9 : Int32).toInt = 9 by decide] at q
      omega
    rw [fo_s] at kk
    have hRz := hR.kp o.kp
    have gz := g.kp o.kp
    have g5 := gz.2.2.2.2.2
    have ep := g.1
    subst ep
    refine ⟨fun q => absurd q hi8, fun _ => m_leavesOne hRz g.2.1 (fun z1 o1 k1 z2 e2 => ?_)⟩
    have nm : ¬ nI i = -1 := fun q => by
      have q2 := congrArg Int32.toInt q
      rw [nI_toInt (by omega), show (-1 : Int32).toInt = -1 by decide] at q2
      omega
    have k2 := k1.way nm
    have o2 := o1.I 21 (nI i) (by decide)
    rw [← e2] at k2 o2
    refine m_lands (aP_I hRz g5 hRz.gust) k2 (aF_I hRz hx hy 1) (fun z3 o3 k3 => ?_)
    have eo : offT (fin (aP z (kO z f) (fO z f) (oO z f) (zI z 1 2) (some (wyE (nI i) (paceB (kO z f) (fO z f)), wyN (nI i) (paceB (kO z f) (fO z f))))) (aF z x y 1)) = wyO z0 (kO z0 f) (fO z0 f) (oO z0 f) x y i := by
      unfold wyO
      rw [aP_kp o.kp, (g_kp o.kp).1, aF_kp o.kp, (kO_kp o.kp f).1, (kO_kp o.kp f).2.1, (kO_kp o.kp f).2.2]
    have o3' := o.tr (o2.tr o3)
    have take : wyM (wyO z0 (kO z0 f) (fO z0 f) (oO z0 f) x y) i c = (nI i, wyO z0 (kO z0 f) (fO z0 f) (oO z0 f) x y i) → V_X12_off z3 (fun r22 z21 => (∀ t23 : Int32, t23 = nI i + (1 : Int32) → V_X12_steering_45 post (m + 1) z21 (nI f) x y w (nI i) r22 t23)) := fun e3 => m_off k3 (fun t17 e17 => by
      rw [e3] at kk
      rw [e17, nI_1]
      have h := ih (i + 1) z3 (nI i, wyO z0 (kO z0 f) (fO z0 f) (oO z0 f) x y i) (by omega) o3' kk
      rw [← eo] at h
      exact h)
    refine ⟨fun q => take (if_pos q), fun q => m_off k3 ⟨fun q2 => take ((if_neg q).trans (if_pos ?_)), fun q2 t17 e17 => ?_⟩⟩
    · rw [← eo]; exact q2
    · have e3 : wyM (wyO z0 (kO z0 f) (fO z0 f) (oO z0 f) x y) i c = c := (if_neg q).trans (if_neg (by rw [← eo]; exact q2))
      rw [e3] at kk
      rw [e17, nI_1]
      exact ih (i + 1) z3 c (by omega) o3' kk
theorem wyO_kp {z z1 : ZS} (h : Kp z z1) (f : Nat) (x y : Int32) : wyO z1 (kO z1 f) (fO z1 f) (oO z1 f) x y = wyO z (kO z f) (fO z f) (oO z f) x y := by
  funext i
  unfold wyO
  rw [aP_kp h, (g_kp h).1, aF_kp h, (kO_kp h f).1, (kO_kp h f).2.1, (kO_kp h f).2.2]
theorem sk_16 : SK_16 Rel := by
  intro z p1 p2 p3 p4 hR
  unfold V_X11_steering
  rcases fcase hR p1 with hb | ⟨f, a, g⟩
  · exact c_fB hb ⟨fun _ => (by unfold V_X12_steering; exact m_fB hR hb (no0 ⟨rfl, hR⟩)), fun a q => by cases q⟩
  refine c_fO g ⟨fun q => (by cases q), fun a' q => ?_⟩
  cases q
  have g5 := g.2.2.2.2.2
  have mm : ∀ (z1 : ZS) (post : Int32 → ZS → Prop), Rel z1 → FO z1 p1 f a → (¬ (EG p2 ∧ EG p3 ∧ 0 ≤ p4.toInt ∧ p4.toInt ≤ 1) → post (-1) z1) → (EG p2 → EG p3 → (0 ≤ p4.toInt ∧ p4.toInt ≤ 1) → (∃ n28 : Nat, V_X12_steering_45 post n28 z1 p1 p2 p3 p4 (-4 : Int32) (0 : Int32) (0 : Int32))) → V_X12_steering z1 p1 p2 p3 p4 post := fun z1 post hR1 g1 h0 h1 => by
    unfold V_X12_steering
    exact m_fO hR1 g1 (no1 (ge_edge (fun c1 => no1 (ge_edge (fun c2 => no1 (ge_in 0 1 rfl rfl (fun c3 => on1 (h1 c1 c2 c3)) (fun c => on0 (h0 (fun q => c q.2.2))))) (fun c => no0 (h0 (fun q => c q.2.1))))) (fun c => no0 (h0 (fun q => c q.1)))))
  have bad : ¬ (EG p2 ∧ EG p3 ∧ 0 ≤ p4.toInt ∧ p4.toInt ≤ 1) → V_X12_steering z p1 p2 p3 p4 (fun r2 z2 => r2 = -1 ∧ Rel z2) := fun q => mm z _ hR g (fun _ => ⟨rfl, hR⟩) (fun c1 c2 c3 => absurd ⟨c1, c2, c3⟩ q)
  refine ge_place (fun c1 c2 => no1 (ge_from 0 1 rfl rfl (fun c3 => on1 ?_) (fun c => on0 (bad (fun q => c q.2.2))))) (fun c => no0 (bad (fun q => c ⟨q.1, q.2.1⟩)))
  have bo : ∀ i, i < 9 → 0 ≤ (wyO z (kO z f) (fO z f) (oO z f) p2 p3 i).toInt ∧ (wyO z (kO z f) (fO z f) (oO z f) p2 p3 i).toInt ≤ 60000 := fun i hi => off_bd (fin_FI (aP_I hR g5 hR.gust) (aF_I hR c1 c2 1))
  obtain ⟨A, hA⟩ : ∃ A, fo (wyC (wyO z (kO z f) (fO z f) (oO z f) p2 p3)) 9 0 (2147483647, 0) = A := ⟨_, rfl⟩
  obtain ⟨B, hB⟩ : ∃ B, fo (wyM (wyO z (kO z f) (fO z f) (oO z f) p2 p3)) 9 0 (-4, 0) = B := ⟨_, rfl⟩
  have both := wy_both bo
  rw [hA, hB] at both
  have q0 := both.1
  have hc := c_steer45 hR (k := kO z f) (f := fO z f) (op := oO z f) g5 c1 c2 (w := p4) (post := fun r z1 => V_X12_steering z1 p1 p2 p3 p4 (fun r2 z2 => r2 = r ∧ Rel z2)) 9 0 z (2147483647, 0) rfl (OF.rf 4 z) (by
    rw [hA]
    intro z1 o1
    have hR1 := o1.rel hR
    have g1 := g.kp o1.k4
    have hm := fun (post : Int32 → ZS → Prop) (k : ∀ z2, OM z1 z2 → ((¬ p4 = 0 → post B.2 z2) ∧ (p4 = 0 → post B.1 z2))) => m_steer45 hR1 g1 c1 c2 (w := p4) (post := post) 9 0 z1 (-4, 0) rfl (OM.rf z1) (by
      rw [wyO_kp o1.k4, hB]
      exact k)
    refine ⟨fun w0 => mm z1 _ hR1 g1 (fun q => absurd ⟨c1, c2, c3⟩ q) (fun _ _ _ => ⟨9 + 1, hm _ (fun z2 o2 => ⟨fun _ => ⟨?_, hR1.kp o2.kp⟩, fun q => absurd q w0⟩)⟩), fun w0 => mm z1 _ hR1 g1 (fun q => absurd ⟨c1, c2, c3⟩ q) (fun _ _ _ => ⟨9 + 1, hm _ (fun z2 o2 => ⟨fun q => absurd w0 q, fun _ => ⟨?_, hR1.kp o2.kp⟩⟩)⟩)⟩
    · rw [q0]
    · rw [q0])
  exact ⟨9 + 1, hc⟩
