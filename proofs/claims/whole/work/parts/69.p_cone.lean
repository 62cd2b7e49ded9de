/-! PURE, part 20: cone, steering -/
def cn (j : Nat) : Int32 := -5000 + 500 * nI j
theorem cn_all : ∀ j, j < 21 → ¬ (5000 : Int32) < cn j ∧ cn j + 500 = cn (j + 1) ∧ (-30000 ≤ (cn j).toInt ∧ (cn j).toInt ≤ 30000) := by decide +kernel
theorem cn_end : (5000 : Int32) < cn 21 := by decide +kernel
theorem cn_E {j : Nat} (h : j < 21) : EG (cn j) := (cn_all j h).2.2
theorem cn_0 : cn 0 = -5000 := by decide +kernel
theorem c_open {z : ZS} {o : Nat} {P : FP} {t : FS} {h : Int32} (c : CF z o P t) {post : ZS → Prop} (kk : ∀ z1, OF o z z1 → CF z1 o (P.1, (P.2.1.1, P.2.1.2.1, 0), P.2.2) (t.1, t.2.1, h, t.2.2.2) → post z1) : V_X3_openAt z o h post := by
  unfold V_X3_openAt
  intro z1 e1 z2 e2
  subst e1; subst e2
  obtain ⟨h1, ⟨a, op, g1, g2⟩, h3, h4, h5, h6, h7, h8, h9, h10, h11, h12, h13⟩ := c
  rcases h1 with rfl | rfl
  · exact kk _ (((OF.rf 4 z).I 4 _).I 7 _) ⟨Or.inl rfl, ⟨a, op, g1, g2⟩, rfl, h4, h5, h6, h7, h8, h9, h10, rfl, h12, h13⟩
  · exact kk _ (((OF.rf 5 z).I 4 _).I 7 _) ⟨Or.inr rfl, ⟨a, op, g1, g2⟩, rfl, h4, h5, h6, h7, h8, h9, h10, rfl, h12, h13⟩
noncomputable def cnO (z : ZS) (k f h : Int32) (i j : Nat) : Int32 := offT (fin (aP z k f 0 (zI z 1 2) none) (cn i, cn j, h, 0, 1))
def cnS (o : Nat → Nat → Int32) (n : Int32) (i j : Nat) (a : Int32) : Int32 := if n < o i j then a else a + 1
theorem cn_FI {x y h sd : Int32} (hx : EG x) (hy : EG y) (hh : 1 ≤ h.toInt ∧ h.toInt ≤ 3000) : FI (x, y, h, 0, sd) := by
  refine ⟨hx, hy, ?_, ?_, ?_, Or.inr ?_⟩
  · show 0 ≤ h.toInt; omega
  · show 0 ≤ (0 : Int32).toInt; decide
  · show (0 : Int32).toInt ≤ 231; decide
  · show h.toInt + 13 * (0 : Int32).toInt ≤ 3000
    rw [i_0]; omega
theorem aP_I0 {z : ZS} {a : Nat} {k f op g o' : Int32} {w : Option (Int32 × Int32)} (hR : Rel z) (hf : FA z a k f op) (hg : 0 ≤ g.toInt ∧ g.toInt ≤ 30) : PI (aP z k f o' g w) :=
  ⟨hg, fun l hl => ⟨(hR.1.2.1 l hl).2.2.1, (hR.1.2.1 l hl).2.2.2⟩, ⟨zK z a, hf.2.1, hf.2.2.1⟩, hf.2.2.2.2.2.2.2.2.2.2.1⟩
theorem g_kp {z z1 : ZS} (h : Kp z z1) : zI z1 1 2 = zI z 1 2 ∧ zI z1 1 3 = zI z 1 3 ∧ zI z1 1 4 = zI z 1 4 := ⟨h.1 1 2 (by unfold keepI; omega), h.1 1 3 (by unfold keepI; omega), h.1 1 4 (by unfold keepI; omega)⟩
theorem c_cone59 {z0 : ZS} {a : Nat} {k f op h n : Int32} (hR : Rel z0) (g : FA z0 a k f op) (hh : 1 ≤ h.toInt ∧ h.toInt ≤ 3000) {post : Int32 → ZS → Prop} {rr : ZS → Int32 → Int32 → Nat → Int32 → Int32 → Prop} {i : Nat} (hi : i < 21) : ∀ (m j : Nat) (z : ZS) (c : Int32), m + j = 21 → OF 4 z0 z → (∀ z1, OF 4 z0 z1 → rr z1 h n a (fo (cnS (cnO z0 k f h) n i) m j c) (cn (i + 1))) → V_X11_cone_59 post rr (m + 1) z h n a c (cn i) (cn j) := by
  intro m
  induction m with
  | zero =>
    intro j z c e o kk
    unfold V_X11_cone_59
    have hj : j = 21 := by omega
    subst hj
    refine ⟨fun _ t11 e11 => ?_, fun q => absurd cn_end q⟩
    rw [e11, (cn_all i hi).2.1]
    exact kk z o
  | succ m ih =>
    intro j z c e o kk
    unfold V_X11_cone_59 V_X11_cone_110
    have hj : j < 21 := by omega
    rw [fo_s] at kk
    have hRz := o.rel hR
    have gz := g.kp o.k4
    refine ⟨fun q => absurd q (cn_all j hj).1, fun _ => c_begin (Or.inl rfl) gz (fun z1 o1 k1 => c_open k1 (fun z2 o2 k2 => c_land (aP_I0 (o' := 0) (w := none) hRz gz hRz.gust) k2 (cn_FI (cn_E hi) (cn_E hj) hh) (fun z3 o3 k3 => c_off k3 ?_)))⟩
    have eo : offT (fin (aP z k f 0 (zI z 1 2) none) (cn i, cn j, h, 0, 1)) = cnO z0 k f h i j := by
      unfold cnO
      rw [aP_kp o.k4, (g_kp o.k4).1]
    refine ⟨fun q t15 e15 => ?_, fun q t23 e23 t15 e15 => ?_⟩
    · have q : n < offT (fin (aP z k f 0 (zI z 1 2) none) (cn i, cn j, h, 0, 1)) := q
      rw [eo] at q
      have e3 : cnS (cnO z0 k f h) n i j c = c := if_pos q
      rw [e3] at kk
      rw [e15, (cn_all j hj).2.1]
      exact ih (j + 1) z3 c (by omega) (o.tr (o1.tr (o2.tr o3))) kk
    · have q : ¬ n < offT (fin (aP z k f 0 (zI z 1 2) none) (cn i, cn j, h, 0, 1)) := q
      rw [eo] at q
      have e3 : cnS (cnO z0 k f h) n i j c = c + 1 := if_neg q
      rw [e3] at kk
      rw [e15, e23, (cn_all j hj).2.1]
      exact ih (j + 1) z3 (c + 1) (by omega) (o.tr (o1.tr (o2.tr o3))) kk
theorem c_cone46 {z0 : ZS} {a : Nat} {k f op h n : Int32} (hR : Rel z0) (g : FA z0 a k f op) (hh : 1 ≤ h.toInt ∧ h.toInt ≤ 3000) {post : Int32 → ZS → Prop} : ∀ (m i : Nat) (z : ZS) (c : Int32), m + i = 21 → OF 4 z0 z → (∀ z1, OF 4 z0 z1 → post (fo (fun i a => fo (cnS (cnO z0 k f h) n i) 21 0 a) m i c) z1) → V_X11_cone_46 post (m + 1) z h n a c (cn i) := by
  intro m
  induction m with
  | zero =>
    intro i z c e o kk
    unfold V_X11_cone_46
    have hi : i = 21 := by omega
    subst hi
    exact ⟨fun _ => kk z o, fun q => absurd cn_end q⟩
  | succ m ih =>
    intro i z c e o kk
    unfold V_X11_cone_46
    have hi : i < 21 := by omega
    refine ⟨fun q => absurd q (cn_all i hi).1, fun _ => ?_⟩
    have hx := c_cone59 hR g hh (post := post) (n := n) (rr := V_X11_cone_46 post (m + 1)) hi 21 0 z c rfl o (fun z1 o1 => ih (i + 1) z1 (fo (cnS (cnO z0 k f h) n i) 21 0 c) (by omega) o1 kk)
    rw [cn_0] at hx
    exact ⟨21 + 1, hx⟩
theorem m_cone55 {z0 : ZS} {a f : Nat} {p h n : Int32} (hR : Rel z0) (g : FO z0 p f a) (hh : 1 ≤ h.toInt ∧ h.toInt ≤ 3000) {post : Int32 → ZS → Prop} {rr : ZS → Int32 → Int32 → Int32 → Int32 → Int32 → Prop} {i : Nat} (hi : i < 21) : ∀ (m j : Nat) (z : ZS) (c : Int32), m + j = 21 → OM z0 z → (∀ z1, OM z0 z1 → rr z1 p h n (fo (cnS (cnO z0 (kO z0 f) (fO z0 f) h) n i) m j c) (cn (i + 1))) → V_X12_cone_55 post rr (m + 1) z p h n c (cn i) (cn j) := by
  intro m
  induction m with
  | zero =>
    intro j z c e o kk
    unfold V_X12_cone_55
    have hj : j = 21 := by omega
    subst hj
    refine ⟨fun _ t11 e11 => ?_, fun q => absurd cn_end q⟩
    rw [e11, (cn_all i hi).2.1]
    exact kk z o
  | succ m ih =>
    intro j z c e o kk
    unfold V_X12_cone_55 V_X12_cone_109
    have hj : j < 21 := by omega
    rw [fo_s] at kk
    have hRz := hR.kp o.kp
    have gz := g.kp o.kp
    have g5 := gz.2.2.2.2.2
    refine ⟨fun q => absurd q (cn_all j hj).1, fun _ => ?_⟩
    have ep := g.1
    subst ep
    rw [e_of0 g.2.1, e_of1 g.2.1]
    refine m_leaves (P := aP z (kO z f) (fO z f) 0 (zI z 1 2) none) rfl (aP_AM hRz _ _ _ _) (fun z1 o1 k1 z2 e2 => ?_)
    have k2 := k1.h h
    have o2 := o1.I 24 h (by decide)
    rw [← e2] at k2 o2
    refine m_lands (aP_I0 hRz g5 hRz.gust) k2 (cn_FI (cn_E hi) (cn_E hj) hh) (fun z3 o3 k3 => m_off k3 ?_)
    have eo : offT (fin (aP z (kO z f) (fO z f) 0 (zI z 1 2) none) (cn i, cn j, h, 0, 1)) = cnO z0 (kO z0 f) (fO z0 f) h i j := by
      unfold cnO
      rw [aP_kp o.kp, (g_kp o.kp).1, (kO_kp o.kp f).1, (kO_kp o.kp f).2.1]
    have fin2 : ∀ s1 : Int32, cnS (cnO z0 (kO z0 f) (fO z0 f) h) n i j c = c + s1 → (∀ t25 : Int32, t25 = c + s1 → (∀ t26 : Int32, t26 = cn j + (500 : Int32) → V_X12_cone_55 post rr (m + 1) z3 (nI f) h n t25 (cn i) t26)) := fun s1 e3 t25 e25 t26 e26 => by
      rw [e3] at kk
      rw [e26, e25, (cn_all j hj).2.1]
      exact ih (j + 1) z3 (c + s1) (by omega) (o.tr (o2.tr o3)) kk
    refine ⟨fun q => fin2 0 ?_, fun q => fin2 1 ?_⟩
    · rw [Int32.add_zero]
      exact if_pos (by rw [← eo]; exact q)
    · exact if_neg (by rw [← eo]; exact q)
theorem m_cone42 {z0 : ZS} {a f : Nat} {p h n : Int32} (hR : Rel z0) (g : FO z0 p f a) (hh : 1 ≤ h.toInt ∧ h.toInt ≤ 3000) {post : Int32 → ZS → Prop} : ∀ (m i : Nat) (z : ZS) (c : Int32), m + i = 21 → OM z0 z → (∀ z1, OM z0 z1 → post (fo (fun i a => fo (cnS (cnO z0 (kO z0 f) (fO z0 f) h) n i) 21 0 a) m i c) z1) → V_X12_cone_42 post (m + 1) z p h n c (cn i) := by
  intro m
  induction m with
  | zero =>
    intro i z c e o kk
    unfold V_X12_cone_42
    have hi : i = 21 := by omega
    subst hi
    exact ⟨fun _ => kk z o, fun q => absurd cn_end q⟩
  | succ m ih =>
    intro i z c e o kk
    unfold V_X12_cone_42
    have hi : i < 21 := by omega
    refine ⟨fun q => absurd q (cn_all i hi).1, fun _ => ?_⟩
    have hx := m_cone55 hR g hh (post := post) (n := n) (rr := V_X12_cone_42 post (m + 1)) hi 21 0 z c rfl o (fun z1 o1 => ih (i + 1) z1 (fo (cnS (cnO z0 (kO z0 f) (fO z0 f) h) n i) 21 0 c) (by omega) o1 kk)
    rw [cn_0] at hx
    exact ⟨21 + 1, hx⟩
theorem cnO_kp {z z1 : ZS} (h : Kp z z1) (f : Nat) (hh : Int32) : cnO z1 (kO z1 f) (fO z1 f) hh = cnO z (kO z f) (fO z f) hh := by
  funext i j
  unfold cnO
  rw [aP_kp h, (g_kp h).1, (kO_kp h f).1, (kO_kp h f).2.1]
theorem sk_15 : SK_15 Rel := by
  intro z p1 p2 p3 hR
  unfold V_X11_cone
  rcases fcase hR p1 with hb | ⟨f, a, g⟩
  · exact c_fB hb ⟨fun _ => (by unfold V_X12_cone; exact m_fB hR hb (no0 ⟨rfl, hR⟩)), fun a q => by cases q⟩
  refine c_fO g ⟨fun q => (by cases q), fun a' q => ?_⟩
  cases q
  have g5 := g.2.2.2.2.2
  have mm : ∀ (z1 : ZS) (post : Int32 → ZS → Prop), Rel z1 → FO z1 p1 f a → (¬ ((1 ≤ p2.toInt ∧ p2.toInt ≤ 3000) ∧ 0 ≤ p3.toInt ∧ p3.toInt ≤ 60000) → post (-1) z1) → ((1 ≤ p2.toInt ∧ p2.toInt ≤ 3000) → (0 ≤ p3.toInt ∧ p3.toInt ≤ 60000) → (∃ n28 : Nat, V_X12_cone_42 post n28 z1 p1 p2 p3 (0 : Int32) (-5000 : Int32))) → V_X12_cone z1 p1 p2 p3 post := fun z1 post hR1 g1 h0 h1 => by
    unfold V_X12_cone
    exact m_fO hR1 g1 (no1 (ge_in 1 3000 rfl rfl (fun c1 => no1 (ge_in 0 60000 rfl rfl (fun c2 => on1 (h1 c1 c2)) (fun c => on0 (h0 (fun q => c q.2))))) (fun c => no0 (h0 (fun q => c q.1)))))
  have bad : ¬ ((1 ≤ p2.toInt ∧ p2.toInt ≤ 3000) ∧ 0 ≤ p3.toInt ∧ p3.toInt ≤ 60000) → V_X12_cone z p1 p2 p3 (fun r2 z2 => r2 = -1 ∧ Rel z2) := fun q => mm z _ hR g (fun _ => ⟨rfl, hR⟩) (fun c1 c2 => absurd ⟨c1, c2⟩ q)
  refine ge_from 1 3000 rfl rfl (fun c1 => no1 (ge_from 0 60000 rfl rfl (fun c2 => on1 ?_) (fun c => on0 (bad (fun q => c q.2))))) (fun c => no0 (bad (fun q => c q.1)))
  obtain ⟨A, hA⟩ : ∃ A, fo (fun i a => fo (cnS (cnO z (kO z f) (fO z f) p2) p3 i) 21 0 a) 21 0 0 = A := ⟨_, rfl⟩
  have hc := c_cone46 hR (k := kO z f) (f := fO z f) g5 c1 (n := p3) (post := fun r z1 => V_X12_cone z1 p1 p2 p3 (fun r2 z2 => r2 = r ∧ Rel z2)) 21 0 z 0 rfl (OF.rf 4 z) (by
    rw [hA]
    intro z1 o1
    have hR1 := o1.rel hR
    have g1 := g.kp o1.k4
    refine mm z1 _ hR1 g1 (fun q => absurd ⟨c1, c2⟩ q) (fun _ _ => ?_)
    have hm := m_cone42 hR1 g1 c1 (n := p3) (post := fun r2 z2 => r2 = A ∧ Rel z2) 21 0 z1 0 rfl (OM.rf z1) (by
      rw [cnO_kp o1.k4, hA]
      exact fun z2 o2 => ⟨rfl, hR1.kp o2.kp⟩)
    rw [cn_0] at hm
    exact ⟨21 + 1, hm⟩)
  rw [cn_0] at hc
  exact ⟨21 + 1, hc⟩
-- steering
def ewB (w : Int32) : Int32 := if w = 1 ∨ w = 5 ∨ w = 7 then 1 else if w = 2 ∨ w = 6 ∨ w = 8 then -1 else 0
def nwB (w : Int32) : Int32 := if w = 3 ∨ w = 5 ∨ w = 6 then 1 else if w = 4 ∨ w = 7 ∨ w = 8 then -1 else 0
theorem ew_mul (w p : Int32) : ewB w * p = wyE w p := by
  unfold ewB wyE
  split
  · exact (sgn_m p).1
  · split
    · exact (sgn_m p).2.1
    · exact (sgn_m p).2.2
theorem nw_mul (w p : Int32) : nwB w * p = wyN w p := by
  unfold nwB wyN
  split
  · exact (sgn_m p).1
  · split
    · exact (sgn_m p).2.1
    · exact (sgn_m p).2.2
theorem c_ew {z : ZS} {i : Nat} (hi : i < 9) {post : Int32 → ZS → Prop} (h : post (ewB (nI i)) z) : V_X11_eastOfWay z (nI i) post := by
  unfold V_X11_eastOfWay
  have e : i = 0 ∨ i = 1 ∨ i = 2 ∨ i = 3 ∨ i = 4 ∨ i = 5 ∨ i = 6 ∨ i = 7 ∨ i = 8 := by omega
  rcases e with rfl | rfl | rfl | rfl | rfl | rfl | rfl | rfl | rfl
  all_goals
    refine ⟨fun q => ?_, fun q => ⟨fun q2 => ?_, fun q2 => ⟨fun q3 => ?_, fun q3 => ⟨fun q4 => ?_, fun q4 => ⟨fun q5 => ?_, fun q5 => ⟨fun q6 => ?_, fun q6 => ?_⟩⟩⟩⟩⟩⟩
    all_goals first | exact h | exact absurd rfl (by assumption) | exact absurd (by assumption) (by decide)
theorem c_nw {z : ZS} {i : Nat} (hi : i < 9) {post : Int32 → ZS → Prop} (h : post (nwB (nI i)) z) : V_X11_northOfWay z (nI i) post := by
  unfold V_X11_northOfWay
  have e : i = 0 ∨ i = 1 ∨ i = 2 ∨ i = 3 ∨ i = 4 ∨ i = 5 ∨ i = 6 ∨ i = 7 ∨ i = 8 := by omega
  rcases e with rfl | rfl | rfl | rfl | rfl | rfl | rfl | rfl | rfl
  all_goals
    refine ⟨fun q => ?_, fun q => ⟨fun q2 => ?_, fun q2 => ⟨fun q3 => ?_, fun q3 => ⟨fun q4 => ?_, fun q4 => ⟨fun q5 => ?_, fun q5 => ⟨fun q6 => ?_, fun q6 => ?_⟩⟩⟩⟩⟩⟩
    all_goals first | exact h | exact absurd rfl (by assumption) | exact absurd (by assumption) (by decide)
