/-! PURE, part 24: a row on a shelf, judge; the tests of a load -/
/-- the shelf d holds a row of n -/
def RW (z : ZS) (d n : Nat) : Prop := zR z 14 3 d = 2 ∧ zG z (6 + d) 0 = none ∧ zI z (6 + d) 1 = 1 ∧ zI z (6 + d) 2 = zR z 14 4 d ∧ (0 ≤ (zR z 14 4 d).toInt ∧ (zR z 14 4 d).toInt ≤ 2) ∧ n ≤ 100 ∧ zI z (6 + d) 3 = nI n ∧ zR z 14 5 d = nI n ∧ ∀ k, k < n → zR z (6 + d) 4 k = zR z 14 6 (100 * d + k)
abbrev eL (z : ZS) (d k : Nat) : Int32 := zR z 14 6 (100 * d + k)
theorem k14 {z z1 : ZS} (h : Kp z z1) {k : Nat} (hk : 3 ≤ k ∧ k < 9) : zR z1 14 k = zR z 14 k := h.2.1 14 k (by unfold keepR; omega)
theorem RW.kp {z z1 : ZS} (h : Kp z z1) {d n : Nat} (hd : d < 8) (g : RW z d n) : RW z1 d n := by
  have hI : ∀ k, zI z1 (6 + d) k = zI z (6 + d) k := fun k => h.1 _ k (by unfold keepI; omega)
  have hR : ∀ k, zR z1 (6 + d) k = zR z (6 + d) k := fun k => h.2.1 _ k (by unfold keepR; omega)
  have hG : zG z1 (6 + d) = zG z (6 + d) := h.2.2.1 _ (by omega)
  unfold RW
  rw [hG, hI, hI, hI, hR, k14 h (k := 3) (by decide), k14 h (k := 4) (by decide), k14 h (k := 5) (by decide), k14 h (k := 6) (by decide)]
  exact g
theorem eL_kp {z z1 : ZS} (h : Kp z z1) (d k : Nat) : eL z1 d k = eL z d k := by
  unfold eL
  rw [k14 h (k := 6) (by decide)]
/-- a shelf of both: none or a faller: the same refusal; or a row -/
theorem rcase {z : ZS} (hR : Rel z) {d : Nat} (hd : d < 8) : (∃ r : Int32, ¬ r = 0 ∧ (∀ post : Int32 → ZS → Prop, post r z → V_X11_refusalOfRow z (6 + d) post) ∧ (∀ (o : Int32) (post : Int32 → ZS → Prop), post r z → V_X12_wrongRow z (nI d) o post)) ∨ ∃ n, RW z d n := by
  rcases hR.2.2.1 d hd with ⟨k0, k1, k2⟩ | ⟨k0, k1, a, k2, k3, k4, k5⟩ | ⟨k0, k1, k2, k3, k4, n, k5, k6, k7, k8⟩
  · exact Or.inl ⟨-11, by decide, fun post h => c_ref0 k1 k2 h, fun o post h => m_row0 hd k0 h⟩
  · exact Or.inl ⟨-12, by decide, fun post h => c_ref1 k2 k1 h, fun o post h => m_row1 hd k0 h⟩
  · exact Or.inr ⟨n, k0, k1, k2, k3, k4, k5, k6, k7, k8⟩
theorem RW.c {z : ZS} {d n : Nat} (g : RW z d n) {post : Int32 → ZS → Prop} (h : post 0 z) : V_X11_refusalOfRow z (6 + d) post := c_ref2 g.2.1 g.2.2.1 h
theorem RW.m {z : ZS} {d n : Nat} (hd : d < 8) (g : RW z d n) {post : Int32 → ZS → Prop} (h : post 0 z) : V_X12_wrongRow z (nI d) (-1) post := m_row2 hd g.1 (Or.inl (by decide)) h
theorem RW.v {z : ZS} {d n i : Nat} (g : RW z d n) (hi : i < n) {post : Int32 → ZS → Prop} (h : post (eL z d i) z) : V_X9_valueAt z (6 + d) (nI i) post := by
  obtain ⟨-, -, -, -, -, hn, hs, -, he⟩ := g
  exact c_valueO hs hn hi (by rw [he i hi]; exact h)
def lsB (s : Int32) : Int32 := if s = 0 then -128 else if s = 1 then -32768 else -2147483648
theorem c_least {z : ZS} {o : Nat} {post : Int32 → ZS → Prop} (h : post (lsB (zI z o 2)) z) : V_X9_leastOfSort z o post := by
  unfold V_X9_leastOfSort
  unfold lsB at h
  refine ⟨fun q => ⟨fun q1 => ?_, fun q1 => ?_⟩, fun q => ?_⟩
  · rw [if_neg q, if_neg q1] at h; exact h
  · rw [if_neg q, if_pos q1] at h; exact h
  · rw [if_pos q] at h; exact h
theorem m_least {z : ZS} {d : Nat} (hd : d < 8) {post : Int32 → ZS → Prop} (h : post (lsB (zR z 14 4 d)) z) : V_X12_leastOf z (nI d) post := by
  unfold V_X12_leastOf
  unfold lsB at h
  rw [cl8 hd]
  refine ⟨vin hd (by decide), fun q => ⟨vin hd (by decide), fun q1 => ?_, fun q1 => ?_⟩, fun q => ?_⟩
  · rw [if_neg q, if_neg q1] at h; exact h
  · rw [if_neg q, if_pos q1] at h; exact h
  · rw [if_pos q] at h; exact h
noncomputable def jdO (z : ZS) (k f op y : Int32) (i : Nat) : Int32 := offT (LA z k f op (nI i * 1000) y 1)
noncomputable def jdL (v : Nat → Int32) (l : Int32) (o : Nat → Int32) : Nat → Nat → Int32
  | 0, _ => -4
  | (r + 1), i => if v i = l then jdL v l o r (i + 1) else if v i = o i then jdL v l o r (i + 1) else nI i
theorem jd_E {i : Nat} (hi : i < 31) : EG (nI i * 1000) ∧ (1000 : Int32) * nI i = nI i * 1000 := by
  have e : nI i * (1000 : Int32) = nI (i * 1000) := (Int32.ofNat_mul i 1000).symm
  refine ⟨?_, Int32.mul_comm _ _⟩
  unfold EG
  rw [e, nI_toInt (by omega)]
  omega
theorem c_judge_lp {z0 : ZS} {a d n : Nat} {k f op y : Int32} (hd : d < 8) (hn : n ≤ 31) (hR : Rel z0) (g : FA z0 a k f op) (w : RW z0 d n) (hy : EG y) {post : Int32 → ZS → Prop} : ∀ (r i : Nat) (z : ZS), r + i = n → OF 4 z0 z → (∀ z1, OF 4 z0 z1 → post (jdL (eL z0 d) (lsB (zR z0 14 4 d)) (jdO z0 k f op y) r i) z1) → V_X11_judge_68 post (r + 1) z y a (6 + d) (nI i) := by
  intro r
  induction r with
  | zero =>
    intro i z e o kk
    unfold V_X11_judge_68
    have wz := w.kp o.k4 hd
    rw [wz.2.2.2.2.2.2.1]
    exact ⟨fun _ => kk z o, fun q => absurd (nI_le (by omega) (by omega)) q⟩
  | succ r ih =>
    intro i z e o kk
    unfold V_X11_judge_68 V_X11_judge_121
    have wz := w.kp o.k4 hd
    rw [wz.2.2.2.2.2.2.1]
    have hi : i < 31 := by omega
    refine ⟨fun q => absurd q (nI_ge (by omega) (by omega)), fun _ => wz.v (by omega) (c_least ?_)⟩
    rw [wz.2.2.2.1, eL_kp o.k4, k14 o.k4 (k := 4) (by decide)]
    unfold jdL at kk
    refine ⟨fun q t20 e20 => ?_, fun q => c_offFrom (o.rel hR) (g.kp o.k4) (jd_E hi).1 hy (fun z1 o1 k1 => ?_)⟩
    · rw [if_pos q] at kk
      rw [e20, nI_1]
      exact ih (i + 1) z (by omega) o kk
    · rw [if_neg q] at kk
      rw [LA_kp o.k4]
      refine ⟨fun q2 t20 e20 => ?_, fun q2 => ?_⟩
      · rw [if_pos (show eL z0 d i = jdO z0 k f op y i from q2)] at kk
        rw [e20, nI_1]
        exact ih (i + 1) z1 (by omega) (o.tr o1) kk
      · rw [if_neg (show ¬ eL z0 d i = jdO z0 k f op y i from q2)] at kk
        exact kk z1 (o.tr o1)
theorem m_judge_lp {z0 : ZS} {a f d n : Nat} {p y : Int32} (hd : d < 8) (hn : n ≤ 31) (hR : Rel z0) (g : FO z0 p f a) (w : RW z0 d n) (hy : EG y) {post : Int32 → ZS → Prop} : ∀ (r i : Nat) (z : ZS), r + i = n → OM z0 z → (∀ z1, OM z0 z1 → post (jdL (eL z0 d) (lsB (zR z0 14 4 d)) (jdO z0 (kO z0 f) (fO z0 f) (oO z0 f) y) r i) z1) → V_X12_judge_57 post (r + 1) z p y (nI d) (nI i) := by
  intro r
  induction r with
  | zero =>
    intro i z e o kk
    unfold V_X12_judge_57
    have wz := w.kp o.kp hd
    rw [cl8 hd, wz.2.2.2.2.2.2.2.1]
    exact ⟨vin hd (by decide), fun _ => kk z o, fun q => absurd (nI_le (by omega) (by omega)) q⟩
  | succ r ih =>
    intro i z e o kk
    unfold V_X12_judge_57 V_X12_judge_120
    have wz := w.kp o.kp hd
    rw [cl8 hd, wz.2.2.2.2.2.2.2.1, ix_s, nI_clamp (show 100 * d + i < 2 ^ 31 by omega)]
    have hi : i < 31 := by omega
    unfold jdL at kk
    refine ⟨vin hd (by decide), fun q => absurd q (nI_ge (by omega) (by omega)), fun _ => ⟨vin (by omega) (by decide), fun t15 e15 => m_least hd ?_⟩⟩
    have e15 : t15 = eL z0 d i := by rw [e15, ← eL_kp o.kp]
    subst e15
    rw [k14 o.kp (k := 4) (by decide)]
    refine ⟨fun q => ?_, fun q t24 e24 => ?_⟩
    · rw [if_neg q] at kk
      rw [(jd_E hi).2]
      refine m_falls (hR.kp o.kp) (g.kp o.kp) (jd_E hi).1 hy (fun z1 u o1 k1 => m_off k1 ?_)
      rw [LO_kp o.kp]
      refine ⟨fun q2 t20 e20 => ?_, fun q2 => ?_⟩
      · rw [if_pos (show eL z0 d i = jdO z0 (kO z0 f) (fO z0 f) (oO z0 f) y i from q2)] at kk
        rw [e20, nI_1]
        exact ih (i + 1) z1 (by omega) (o.tr o1) kk
      · rw [if_neg (show ¬ eL z0 d i = jdO z0 (kO z0 f) (fO z0 f) (oO z0 f) y i from q2)] at kk
        exact kk z1 (o.tr o1)
    · rw [if_pos q] at kk
      rw [e24, nI_1]
      exact ih (i + 1) z (by omega) o kk
theorem jdO_kp {z z1 : ZS} (h : Kp z z1) (f : Nat) (y : Int32) : jdO z1 (kO z1 f) (fO z1 f) (oO z1 f) y = jdO z (kO z f) (fO z f) (oO z f) y := by
  funext i
  unfold jdO
  rw [LO_kp h]
theorem eL_fun {z z1 : ZS} (h : Kp z z1) (d : Nat) : eL z1 d = eL z d := by
  funext k
  exact eL_kp h d k
theorem EG_0 : EG 0 := by unfold EG; rw [i_0]; omega
theorem sk_25 : SK_25 Rel := by
  intro z p1 p2 p3 hR
  unfold V_X11_judge
  rcases fcase hR p1 with hb | ⟨f, a, g⟩
  · have bad : V_X12_judge z p1 p2 p3 (fun r2 z2 => r2 = -1 ∧ Rel z2) := by
      unfold V_X12_judge
      exact m_fB hR hb (no0 ⟨rfl, hR⟩)
    rcases scase p3 with sb | ⟨d, hd, rfl⟩
    · exact c_fB hb (c_sB sb ⟨fun _ => bad, fun a q => by cases q⟩)
    · exact c_fB hb (c_sO hd ⟨fun _ => bad, fun a q => by cases q⟩)
  have g5 := g.2.2.2.2.2
  rcases scase p3 with sb | ⟨d, hd, rfl⟩
  · refine c_fO g (c_sB sb ⟨fun q => (by cases q), fun a' q => ⟨fun _ => ?_, fun a'' q => by cases q⟩⟩)
    unfold V_X12_judge
    exact m_fO hR g (no1 (ge_edge (fun _ => no1 (m_sB sb (on0 ⟨rfl, hR⟩))) (fun _ => no0 ⟨rfl, hR⟩)))
  refine c_fO g (c_sO hd ⟨fun q => (by cases q), fun a' q => ⟨fun q => (by cases q), fun a'' q2 => ⟨?_, ?_⟩⟩⟩)
  · cases q2; exact isS_of hd
  cases q
  cases q2
  have mm : ∀ (z1 : ZS) (post : Int32 → ZS → Prop), Rel z1 → FO z1 p1 f a → EG p2 → V_X12_wrongRow z1 (nI d) (-1 : Int32) (fun r11 z10 => ((r11 = 0 → (vp_in (nI d) 8 ∧ (((zR z10 14 5 (Int32.toNatClampNeg (nI d))) ≤ (31 : Int32) → (∃ n25 : Nat, V_X12_judge_57 post n25 z10 p1 p2 (nI d) (0 : Int32))) ∧ (¬ (zR z10 14 5 (Int32.toNatClampNeg (nI d))) ≤ (31 : Int32) → post (-13 : Int32) z10)))) ∧ (¬ r11 = 0 → post r11 z10))) → V_X12_judge z1 p1 p2 (nI d) post := fun z1 post hR1 g1 c1 h => by
    unfold V_X12_judge
    exact m_fO hR1 g1 (no1 (ge_edge (fun _ => no1 (m_sO hd (on1 h))) (fun c => absurd c1 c)))
  refine ge_place (fun _ c1 => on1 ?_) (fun c => on0 ?_)
  · rcases rcase hR hd with ⟨r, r0, hc, hm⟩ | ⟨n, w⟩
    · exact hc _ ⟨fun q => absurd q r0, fun _ => mm z _ hR g c1 (hm _ _ ⟨fun q => absurd q r0, fun _ => ⟨rfl, hR⟩⟩)⟩
    · have hn := w.2.2.2.2.2.1
      have i31 : (31 : Int32).toInt = 31 := by decide
      refine w.c ⟨fun _ => ⟨fun q => ?_, fun q => ?_⟩, fun q => absurd rfl q⟩
      · rw [w.2.2.2.2.2.2.1, Int32.le_iff_toInt_le, nI_toInt (by omega), i31] at q
        obtain ⟨A, hA⟩ : ∃ A, jdL (eL z d) (lsB (zR z 14 4 d)) (jdO z (kO z f) (fO z f) (oO z f) p2) n 0 = A := ⟨_, rfl⟩
        refine ⟨n + 1, c_judge_lp hd (by omega) hR (k := kO z f) (f := fO z f) (op := oO z f) g5 w c1 n 0 z (by omega) (OF.rf 4 z) (fun z1 o1 => ?_)⟩
        rw [hA]
        have hR1 := o1.rel hR
        have g1 := g.kp o1.k4
        have w1 := w.kp o1.k4 hd
        refine mm z1 _ hR1 g1 c1 (w1.m hd ⟨fun _ => ⟨vin hd (by decide), fun _ => ?_, fun q2 => absurd ?_ q2⟩, fun q => absurd rfl q⟩)
        · refine ⟨n + 1, m_judge_lp hd (by omega) hR1 g1 w1 c1 n 0 z1 (by omega) (OM.rf z1) (fun z2 o2 => ?_)⟩
          rw [jdO_kp o1.k4, eL_fun o1.k4, k14 o1.k4 (k := 4) (by decide), hA]
          exact ⟨rfl, hR1.kp o2.kp⟩
        · rw [cl8 hd, w1.2.2.2.2.2.2.2.1, Int32.le_iff_toInt_le, nI_toInt (by omega), i31]
          exact q
      · rw [w.2.2.2.2.2.2.1, Int32.le_iff_toInt_le, nI_toInt (by omega), i31] at q
        refine mm z _ hR g c1 (w.m hd ⟨fun _ => ⟨vin hd (by decide), fun q2 => absurd ?_ q, fun q2 => ⟨rfl, hR⟩⟩, fun q => absurd rfl q⟩)
        rw [cl8 hd, w.2.2.2.2.2.2.2.1, Int32.le_iff_toInt_le, nI_toInt (by omega), i31] at q2
        exact q2
  · unfold V_X12_judge
    exact m_fO hR g (no1 (ge_edge (fun c1 => absurd ⟨EG_0, c1⟩ c) (fun _ => no0 ⟨rfl, hR⟩)))
-- the tests of a load
theorem c_rl_lp {z : ZS} {d n : Nat} (hR : Rel z) (w : RW z d n) {post : Int32 → ZS → Prop} : ∀ (r i : Nat), r + i = n → ((∃ j, i ≤ j ∧ j < n ∧ FB z (eL z d j)) → post (-13) z) → ((∀ j, i ≤ j → j < n → ∃ f a, FO z (eL z d j) f a) → post 0 z) → V_X11_refusalOfLoad_28 (6 + d) post (r + 1) z (nI i) := by
  intro r
  induction r with
  | zero =>
    intro i e h0 h1
    unfold V_X11_refusalOfLoad_28
    have hn := w.2.2.2.2.2.1
    rw [w.2.2.2.2.2.2.1]
    exact ⟨fun _ => h1 (fun j a b => by omega), fun q => absurd (nI_le (by omega) (by omega)) q⟩
  | succ r ih =>
    intro i e h0 h1
    unfold V_X11_refusalOfLoad_28
    have hn := w.2.2.2.2.2.1
    rw [w.2.2.2.2.2.2.1]
    refine ⟨fun q => absurd q (nI_ge (by omega) (by omega)), fun _ => w.v (by omega) ?_⟩
    rcases fcase hR (eL z d i) with hb | ⟨f, a, g⟩
    · exact c_fB hb ⟨fun _ => h0 ⟨i, by omega, by omega, hb⟩, fun a q => by cases q⟩
    · refine c_fO g ⟨fun q => (by cases q), fun a' q t13 e13 => ?_⟩
      rw [e13, nI_1]
      refine ih (i + 1) (by omega) (fun ⟨j, a, b, c⟩ => h0 ⟨j, by omega, b, c⟩) (fun q => h1 (fun j hj hj2 => ?_))
      by_cases c : j = i
      · subst c; exact ⟨_, _, g⟩
      · exact q j (by omega) hj2
theorem m_rl_lp {z : ZS} {d n : Nat} (hd : d < 8) (hR : Rel z) (w : RW z d n) {post : Int32 → ZS → Prop} : ∀ (r i : Nat), r + i = n → ((∃ j, i ≤ j ∧ j < n ∧ FB z (eL z d j)) → post (-13) z) → ((∀ j, i ≤ j → j < n → ∃ f a, FO z (eL z d j) f a) → post 0 z) → V_X12_wrongLoad_35 post (r + 1) z (nI d) (nI i) := by
  intro r
  induction r with
  | zero =>
    intro i e h0 h1
    unfold V_X12_wrongLoad_35
    have hn := w.2.2.2.2.2.1
    rw [cl8 hd, w.2.2.2.2.2.2.2.1]
    exact ⟨vin hd (by decide), fun _ => h1 (fun j a b => by omega), fun q => absurd (nI_le (by omega) (by omega)) q⟩
  | succ r ih =>
    intro i e h0 h1
    unfold V_X12_wrongLoad_35
    have hn := w.2.2.2.2.2.1
    rw [cl8 hd, w.2.2.2.2.2.2.2.1, ix_s, nI_clamp (show 100 * d + i < 2 ^ 31 by omega)]
    refine ⟨vin hd (by decide), fun q => absurd q (nI_ge (by omega) (by omega)), fun _ => ⟨vin (by omega) (by decide), ?_⟩⟩
    rcases fcase hR (eL z d i) with hb | ⟨f, a, g⟩
    · exact m_fB hR hb (on0 (h0 ⟨i, by omega, by omega, hb⟩))
    · refine m_fO hR g (on1 (fun t13 e13 => ?_))
      rw [e13, nI_1]
      refine ih (i + 1) (by omega) (fun ⟨j, a, b, c⟩ => h0 ⟨j, by omega, b, c⟩) (fun q => h1 (fun j hj hj2 => ?_))
      by_cases c : j = i
      · subst c; exact ⟨_, _, g⟩
      · exact q j (by omega) hj2
/-- a load: as many as n, each a FALLER -/
def LD (z : ZS) (d n : Nat) : Prop := RW z d n ∧ (1 ≤ n ∧ n ≤ 5 ∧ zR z 14 4 d = 0) ∧ ∀ j, j < n → ∃ f a, FO z (eL z d j) f a
theorem LD.kp {z z1 : ZS} (h : Kp z z1) {d n : Nat} (hd : d < 8) (g : LD z d n) : LD z1 d n := by
  obtain ⟨g1, g2, g3⟩ := g
  refine ⟨g1.kp h hd, by rw [k14 h (k := 4) (by decide)]; exact g2, fun j hj => ?_⟩
  obtain ⟨f, a, q⟩ := g3 j hj
  exact ⟨f, a, by rw [eL_kp h]; exact q.kp h⟩
theorem lcase {z : ZS} (hR : Rel z) {d : Nat} (hd : d < 8) : (∃ r : Int32, ¬ r = 0 ∧ (∀ post : Int32 → ZS → Prop, post r z → V_X11_refusalOfLoad z (6 + d) post) ∧ (∀ (post : Int32 → ZS → Prop), post r z → V_X12_wrongLoad z (nI d) post)) ∨ ∃ n, LD z d n ∧ (∀ post : Int32 → ZS → Prop, post 0 z → V_X11_refusalOfLoad z (6 + d) post) ∧ (∀ (post : Int32 → ZS → Prop), post 0 z → V_X12_wrongLoad z (nI d) post) := by
  rcases rcase hR hd with ⟨r, r0, hc, hm⟩ | ⟨n, w⟩
  · refine Or.inl ⟨r, r0, fun post h => ?_, fun post h => ?_⟩
    · unfold V_X11_refusalOfLoad V_X11_refusalOfBytes
      exact hc _ ⟨fun _ => ⟨fun q => absurd q r0, fun _ => h⟩, fun q => absurd q r0⟩
    · unfold V_X12_wrongLoad
      exact hm _ _ ⟨fun q => absurd q r0, fun _ => h⟩
  · have hn := w.2.2.2.2.2.1
    by_cases s0 : zR z 14 4 d = 0
    · have cb : ∀ (post : Int32 → ZS → Prop), post 0 z → V_X11_refusalOfBytes z (6 + d) post := fun post h => by
        unfold V_X11_refusalOfBytes
        refine w.c ⟨fun q => absurd rfl q, fun _ => ⟨fun _ => h, fun q => absurd ?_ q⟩⟩
        rw [w.2.2.2.1]; exact s0
      have cm : ∀ (post : Int32 → ZS → Prop), post 0 z → V_X12_wrongRow z (nI d) 0 post := fun post h => m_row2 hd w.1 (Or.inr s0) h
      have iN : ((nI n).toInt : Int) = n := nI_toInt (by omega)
      by_cases b : 1 ≤ n ∧ n ≤ 5
      · have c28 : ∀ (post : Int32 → ZS → Prop), (∃ n14 : Nat, V_X11_refusalOfLoad_28 (6 + d) post n14 z (0 : Int32)) → V_X11_refusalOfLoad z (6 + d) post := fun post h => by
          unfold V_X11_refusalOfLoad
          refine cb _ ⟨fun _ => ?_, fun q => absurd rfl q⟩
          rw [w.2.2.2.2.2.2.1]
          exact ge_from 1 5 rfl rfl (fun _ => on1 h) (fun c => absurd ⟨by omega, by omega⟩ c)
        have m35 : ∀ (post : Int32 → ZS → Prop), (∃ n14 : Nat, V_X12_wrongLoad_35 post n14 z (nI d) (0 : Int32)) → V_X12_wrongLoad z (nI d) post := fun post h => by
          unfold V_X12_wrongLoad
          refine cm _ ⟨fun _ => ⟨vin hd (by decide), ?_⟩, fun q => absurd rfl q⟩
          rw [cl8 hd, w.2.2.2.2.2.2.2.1]
          exact ge_in 1 5 rfl rfl (fun _ => on1 h) (fun c => absurd ⟨by omega, by omega⟩ c)
        by_cases al : ∀ j, j < n → ∃ f a, FO z (eL z d j) f a
        · refine Or.inr ⟨n, ⟨w, ⟨b.1, b.2, s0⟩, al⟩, fun post h => c28 post ⟨n + 1, c_rl_lp hR w n 0 (by omega) (fun ⟨j, _, hj, fb⟩ => ?_) (fun _ => h)⟩, fun post h => m35 post ⟨n + 1, m_rl_lp hd hR w n 0 (by omega) (fun ⟨j, _, hj, fb⟩ => ?_) (fun _ => h)⟩⟩
          · obtain ⟨f, a, q⟩ := al j hj
            exact absurd ⟨by rw [q.1, nI_toInt (by have := q.2.1; omega)]; omega, by rw [q.1, nI_toInt (by have := q.2.1; omega)]; exact q.2.2.1⟩ fb
          · obtain ⟨f, a, q⟩ := al j hj
            exact absurd ⟨by rw [q.1, nI_toInt (by have := q.2.1; omega)]; omega, by rw [q.1, nI_toInt (by have := q.2.1; omega)]; exact q.2.2.1⟩ fb
        · exact Or.inl ⟨-13, by decide, fun post h => c28 post ⟨n + 1, c_rl_lp hR w n 0 (by omega) (fun _ => h) (fun q => absurd (fun j hj => q j (by omega) hj) al)⟩, fun post h => m35 post ⟨n + 1, m_rl_lp hd hR w n 0 (by omega) (fun _ => h) (fun q => absurd (fun j hj => q j (by omega) hj) al)⟩⟩
      · refine Or.inl ⟨-13, by decide, fun post h => ?_, fun post h => ?_⟩
        · unfold V_X11_refusalOfLoad
          refine cb _ ⟨fun _ => ?_, fun q => absurd rfl q⟩
          rw [w.2.2.2.2.2.2.1]
          exact ge_from 1 5 rfl rfl (fun c => absurd ⟨by omega, by omega⟩ b) (fun _ => on0 h)
        · unfold V_X12_wrongLoad
          refine cm _ ⟨fun _ => ⟨vin hd (by decide), ?_⟩, fun q => absurd rfl q⟩
          rw [cl8 hd, w.2.2.2.2.2.2.2.1]
          exact ge_in 1 5 rfl rfl (fun c => absurd ⟨by omega, by omega⟩ b) (fun _ => on0 h)
    · refine Or.inl ⟨-12, by decide, fun post h => ?_, fun post h => ?_⟩
      · unfold V_X11_refusalOfLoad V_X11_refusalOfBytes
        refine w.c ⟨fun q => absurd rfl q, fun _ => ⟨fun q => absurd ?_ s0, fun _ => ⟨fun q => absurd q (by decide), fun _ => h⟩⟩⟩
        rw [w.2.2.2.1] at q; exact q
      · unfold V_X12_wrongLoad
        exact m_row2B hd w.1 ⟨by decide, s0⟩ ⟨fun q => absurd q (by decide), fun _ => h⟩
theorem LD.m {z : ZS} (hR : Rel z) {d n : Nat} (hd : d < 8) (g : LD z d n) {post : Int32 → ZS → Prop} (h : post 0 z) : V_X12_wrongLoad z (nI d) post := by
  obtain ⟨w, b, al⟩ := g
  unfold V_X12_wrongLoad
  have iN : ((nI n).toInt : Int) = n := nI_toInt (by omega)
  refine m_row2 hd w.1 (Or.inr b.2.2) ⟨fun _ => ⟨vin hd (by decide), ?_⟩, fun q => absurd rfl q⟩
  rw [cl8 hd, w.2.2.2.2.2.2.2.1]
  refine ge_in 1 5 rfl rfl (fun _ => on1 ⟨n + 1, m_rl_lp hd hR w n 0 (by omega) (fun ⟨j, _, hj, fb⟩ => ?_) (fun _ => h)⟩) (fun c => absurd ⟨by omega, by omega⟩ c)
  obtain ⟨f, a, q⟩ := al j hj
  exact absurd ⟨by rw [q.1, nI_toInt (by have := q.2.1; omega)]; omega, by rw [q.1, nI_toInt (by have := q.2.1; omega)]; exact q.2.2.1⟩ fb
