/-! PURE, part 27: crates -/
theorem am_sub {a b : Int32} (ha : EG a) (hb : EG b) : am (a - b) = am (b - a) := by
  unfold EG at ha hb
  have e1 : (a - b).toInt = a.toInt - b.toInt := by
    rw [Int32.toInt_sub, Int.bmod_def]
    split <;> omega
  have e2 : (b - a).toInt = b.toInt - a.toInt := by
    rw [Int32.toInt_sub, Int.bmod_def]
    split <;> omega
  have key : ∀ v : Int32, -60000 ≤ v.toInt ∧ v.toInt ≤ 60000 → (am v).toInt = if 0 ≤ v.toInt then v.toInt else - v.toInt := fun v hv => by
    unfold am
    by_cases c : 0 ≤ v
    · rw [if_pos c]
      rw [Int32.le_iff_toInt_le, i_0] at c
      rw [if_pos c]
    · rw [if_neg c]
      rw [Int32.le_iff_toInt_le, i_0] at c
      rw [if_neg c, Int32.toInt_sub, i_0, Int.bmod_def]
      split <;> omega
  apply Int32.toInt_inj.mp
  rw [key _ (by omega), key _ (by omega), e1, e2]
  split <;> split <;> omega
noncomputable def crT (z : ZS) (x y sd : Int32) (i : Nat) : FS := LA z (nI 1) 0 0 x y (sd + nI i)
def crD (t : Nat → FS) (i k : Nat) : Int32 := am ((t i).1 - (t k).1) + am ((t i).2.1 - (t k).2.1)
def crI (t : Nat → FS) (i k : Nat) (a : Int32) : Int32 := if a < crD t i k then crD t i k else a
theorem c_cr97 {n : Nat} (hn : n ≤ 5) {z : ZS} {q i : Nat} {x y sd : Int32} {t : Nat → FS} (hi : i < n) (h9 : ∀ k, k ≤ i → zR z 0 9 k = (t k).1) (h10 : ∀ k, k ≤ i → zR z 0 10 k = (t k).2.1) {post : Int32 → ZS → Prop} {rr : ZS → Int32 → Int32 → Int32 → Int32 → Nat → Int32 → Int32 → Prop} : ∀ (r k : Nat) (c : Int32), r + k = i → rr z (nI n) x y sd q (fo (crI t i) r k c) (nI (i + 1)) → V_X11_crates_97 post rr (r + 1) z (nI n) x y sd q c (nI i) (nI k) := by
  intro r
  induction r with
  | zero =>
    intro k c e kk
    unfold V_X11_crates_97
    refine ⟨fun _ t17 e17 => ?_, fun q => absurd (nI_le (by omega) (by omega)) q⟩
    rw [e17, nI_1]
    exact kk
  | succ r ih =>
    intro k c e kk
    unfold V_X11_crates_97
    rw [nI_clamp (show i < 2 ^ 31 by omega), nI_clamp (show k < 2 ^ 31 by omega), h9 i (by omega), h9 k (by omega), h10 i (by omega), h10 k (by omega)]
    rw [fo_s] at kk
    refine ⟨fun q => absurd q (nI_ge (by omega) (by omega)), fun _ => ⟨vin (by omega) (by decide), vin (by omega) (by decide), vin (by omega) (by decide), vin (by omega) (by decide), fun t18 e18 t19 e19 t20 e20 => ?_⟩⟩
    have e18 : t18 = crD t i k := e18
    subst e18
    have e19 : t19 = crI t i k c := e19
    rw [e19, e20, nI_1]
    exact ih (k + 1) _ (by omega) kk
theorem c_cr37 {z0 : ZS} {n q : Nat} (hn : n ≤ 5) {x y sd : Int32} (hR : Rel z0) (g : FA z0 q (nI 1) 0 0) (hx : EG x) (hy : EG y) {post : Int32 → ZS → Prop} : ∀ (r i : Nat) (z : ZS) (c : Int32), r + i = n → Kp z0 z → (∀ k, k < i → zR z 0 9 k = (crT z0 x y sd k).1 ∧ zR z 0 10 k = (crT z0 x y sd k).2.1) → (∀ z1, Kp z0 z1 → post (fo (fun i a => fo (crI (crT z0 x y sd) i) i 0 a) r i c) z1) → V_X11_crates_37 post (r + 1) z (nI n) x y sd q c (nI i) := by
  intro r
  induction r with
  | zero =>
    intro i z c e o _ kk
    unfold V_X11_crates_37
    exact ⟨fun _ => kk z o, fun q => absurd (nI_le (by omega) (by omega)) q⟩
  | succ r ih =>
    intro i z c e o ha kk
    unfold V_X11_crates_37
    rw [fo_s] at kk
    refine ⟨fun q => absurd q (nI_ge (by omega) (by omega)), fun _ => c_bland (hR.kp o) (g.kp o) hx hy (fun z1 o1 k1 => ?_)⟩
    have et : LA z (nI 1) 0 0 x y (sd + nI i) = crT z0 x y sd i := LA_kp o _ _ _ _ _ _
    rw [et] at k1
    rw [nI_clamp (show i < 2 ^ 31 by omega)]
    refine ⟨vin (by omega) (by decide), fun z14 e14 => ⟨vin (by omega) (by decide), fun z15 e15 => ?_⟩⟩
    have x3 : zI z14 4 3 = (crT z0 x y sd i).2.1 := by rw [e14]; exact k1.at.2.1
    rw [k1.at.1] at e14
    rw [x3] at e15
    have k15 : Kp z0 z15 := by
      rw [e15, e14]
      exact ((o.tr o1.k4).R 0 9 _ _ (by unfold keepR; omega)).R 0 10 _ _ (by unfold keepR; omega)
    have r9 : ∀ k, zR z15 0 9 k = if k = i then (crT z0 x y sd i).1 else zR z 0 9 k := fun k => by
      have e9 : zR z15 0 9 = zR z14 0 9 := by rw [e15]; rfl
      rw [e9, e14, zR_wR, o1.2.2.1]
    have r10 : ∀ k, zR z15 0 10 k = if k = i then (crT z0 x y sd i).2.1 else zR z 0 10 k := fun k => by
      rw [e15, zR_wR]
      have e10 : zR z14 0 10 = zR z 0 10 := by rw [e14, ← o1.2.2.1]; rfl
      rw [e10]
    have a9 : ∀ k, k ≤ i → zR z15 0 9 k = (crT z0 x y sd k).1 := fun k hk => by
      rw [r9]
      by_cases c : k = i
      · rw [if_pos c, c]
      · rw [if_neg c]; exact (ha k (by omega)).1
    have a10 : ∀ k, k ≤ i → zR z15 0 10 k = (crT z0 x y sd k).2.1 := fun k hk => by
      rw [r10]
      by_cases c : k = i
      · rw [if_pos c, c]
      · rw [if_neg c]; exact (ha k (by omega)).2
    exact ⟨i + 1, c_cr97 hn (by omega) a9 a10 i 0 c (by omega) (ih (i + 1) z15 _ (by omega) k15 (fun k hk => ⟨a9 k (by omega), a10 k (by omega)⟩) kk)⟩
theorem m_cr83 {n : Nat} (hn : n ≤ 5) {z : ZS} {i : Nat} {x y sd : Int32} {t : Nat → FS} (hi : i < n) (hE : ∀ k, EG (t k).1 ∧ EG (t k).2.1) (h9 : ∀ k, k < i → zR z 14 34 k = (t k).1 ∧ zR z 14 35 k = (t k).2.1) (hx : zI z 14 22 = (t i).1) (hy : zI z 14 23 = (t i).2.1) {post : Int32 → ZS → Prop} {rr : ZS → Int32 → Int32 → Int32 → Int32 → Int32 → Int32 → Prop} : ∀ (r k : Nat) (c : Int32), r + k = i → rr z (nI n) x y sd (fo (crI t i) r k c) (nI (i + 1)) → V_X12_crates_83 post rr (r + 1) z (nI n) x y sd c (nI i) (nI k) := by
  intro r
  induction r with
  | zero =>
    intro k c e kk
    unfold V_X12_crates_83
    refine ⟨fun _ t17 e17 => ?_, fun q => absurd (nI_le (by omega) (by omega)) q⟩
    rw [e17, nI_1]
    exact kk
  | succ r ih =>
    intro k c e kk
    unfold V_X12_crates_83 V_X12_crates_137
    rw [fo_s] at kk
    rw [nI_clamp (show k < 2 ^ 31 by omega), (h9 k (by omega)).1, hx]
    refine ⟨fun q => absurd q (nI_ge (by omega) (by omega)), fun _ => ⟨vin (by omega) (by decide), m_amount ⟨vin (by omega) (by decide), ?_⟩⟩⟩
    rw [(h9 k (by omega)).2, hy]
    refine m_amount (fun t23 e23 => ?_)
    rw [am_sub (hE k).1 (hE i).1, am_sub (hE k).2 (hE i).2] at e23
    have e23 : t23 = crD t i k := e23
    subst e23
    refine ⟨fun q t25 e25 => ?_, fun q t25 e25 => ?_⟩
    · have e3 : crI t i k c = c := if_neg (fun r => by rw [Int32.lt_iff_toInt_lt] at r; rw [Int32.le_iff_toInt_le] at q; omega)
      rw [e3] at kk
      rw [e25, nI_1]
      exact ih (k + 1) _ (by omega) kk
    · have e3 : crI t i k c = crD t i k := if_pos (by rw [Int32.le_iff_toInt_le] at q; rw [Int32.lt_iff_toInt_lt]; omega)
      rw [e3] at kk
      rw [e25, nI_1]
      exact ih (k + 1) _ (by omega) kk
theorem crT_E {z0 : ZS} (hR : Rel z0) {x y : Int32} (hx : EG x) (hy : EG y) (sd : Int32) (k : Nat) : EG (crT z0 x y sd k).1 ∧ EG (crT z0 x y sd k).2.1 := by
  have h := fin_FI (aP_Ik (kn := 1) (fi := 0) (op := 0) (w := none) (by decide) hR (by rw [i_0]; omega) hR.gust) (aF_I hR hx hy (sd + nI k))
  exact ⟨h.1, h.2.1⟩
theorem m_cr34 {z0 : ZS} {n : Nat} (hn : n ≤ 5) {x y sd : Int32} (hR : Rel z0) (hx : EG x) (hy : EG y) {post : Int32 → ZS → Prop} : ∀ (r i : Nat) (z : ZS) (c : Int32), r + i = n → Kp z0 z → (∀ k, k < i → zR z 14 34 k = (crT z0 x y sd k).1 ∧ zR z 14 35 k = (crT z0 x y sd k).2.1) → (∀ z1, Kp z0 z1 → post (fo (fun i a => fo (crI (crT z0 x y sd) i) i 0 a) r i c) z1) → V_X12_crates_34 post (r + 1) z (nI n) x y sd c (nI i) := by
  intro r
  induction r with
  | zero =>
    intro i z c e o _ kk
    unfold V_X12_crates_34
    exact ⟨fun _ => kk z o, fun q => absurd (nI_le (by omega) (by omega)) q⟩
  | succ r ih =>
    intro i z c e o ha kk
    unfold V_X12_crates_34
    rw [fo_s] at kk
    refine ⟨fun q => absurd q (nI_ge (by omega) (by omega)), fun _ => m_leavesK (kn := 1) (by decide) (hR.kp o) (by rw [i_0]; omega) hx hy (fun z1 u o1 k1 => ?_)⟩
    have et : LA z (nI 1) 0 0 x y (sd + nI i) = crT z0 x y sd i := LA_kp o _ _ _ _ _ _
    rw [et] at k1
    rw [nI_clamp (show i < 2 ^ 31 by omega)]
    refine ⟨vin (by omega) (by decide), fun z14 e14 => ⟨vin (by omega) (by decide), fun z15 e15 => ?_⟩⟩
    have x3 : zI z14 14 23 = (crT z0 x y sd i).2.1 := by rw [e14]; exact k1.at.2.1
    rw [k1.at.1] at e14
    rw [x3] at e15
    have k15 : Kp z0 z15 := by
      rw [e15, e14]
      exact ((o.tr o1.kp).R 14 34 _ _ (by unfold keepR; omega)).R 14 35 _ _ (by unfold keepR; omega)
    have r9 : ∀ k, zR z15 14 34 k = if k = i then (crT z0 x y sd i).1 else zR z 14 34 k := fun k => by
      have e9 : zR z15 14 34 = zR z14 14 34 := by rw [e15]; rfl
      rw [e9, e14, zR_wR, o1.2.1]
    have r10 : ∀ k, zR z15 14 35 k = if k = i then (crT z0 x y sd i).2.1 else zR z 14 35 k := fun k => by
      rw [e15, zR_wR]
      have e10 : zR z14 14 35 = zR z 14 35 := by rw [e14, ← o1.2.1]; rfl
      rw [e10]
    have a9 : ∀ k, k ≤ i → zR z15 14 34 k = (crT z0 x y sd k).1 ∧ zR z15 14 35 k = (crT z0 x y sd k).2.1 := fun k hk => by
      rw [r9, r10]
      by_cases c : k = i
      · rw [if_pos c, if_pos c, c]; exact ⟨rfl, rfl⟩
      · rw [if_neg c, if_neg c]; exact ha k (by omega)
    have x22 : zI z15 14 22 = (crT z0 x y sd i).1 := by rw [e15, e14]; exact k1.at.1
    have x23 : zI z15 14 23 = (crT z0 x y sd i).2.1 := by rw [e15, e14]; exact k1.at.2.1
    exact ⟨i + 1, m_cr83 hn (by omega) (crT_E hR hx hy sd) (fun k hk => a9 k (by omega)) x22 x23 i 0 c (by omega) (ih (i + 1) z15 _ (by omega) k15 (fun k hk => a9 k (by omega)) kk)⟩
theorem crT_kp {z z1 : ZS} (h : Kp z z1) (x y sd : Int32) : crT z1 x y sd = crT z x y sd := by
  funext i
  unfold crT
  rw [LA_kp h]
theorem sk_24 : SK_24 Rel := by
  intro z p1 p2 p3 p4 hR
  unfold V_X11_crates
  have mm : ∀ (z1 : ZS) (post : Int32 → ZS → Prop), (¬ ((1 ≤ p1.toInt ∧ p1.toInt ≤ 5) ∧ EG p2 ∧ EG p3) → post (-1) z1) → (((1 ≤ p1.toInt ∧ p1.toInt ≤ 5) ∧ EG p2 ∧ EG p3) → (∃ n27 : Nat, V_X12_crates_34 post n27 z1 p1 p2 p3 p4 (0 : Int32) (0 : Int32))) → V_X12_crates z1 p1 p2 p3 p4 post := fun z1 post h0 h1 => by
    unfold V_X12_crates
    exact ge_in 1 5 rfl rfl (fun c1 => no1 (ge_edge (fun c2 => no1 (ge_edge (fun c3 => on1 (h1 ⟨c1, c2, c3⟩)) (fun c => on0 (h0 (fun q => c q.2.2))))) (fun c => no0 (h0 (fun q => c q.2.1))))) (fun c => no0 (h0 (fun q => c q.1)))
  have bad : ¬ ((1 ≤ p1.toInt ∧ p1.toInt ≤ 5) ∧ EG p2 ∧ EG p3) → V_X12_crates z p1 p2 p3 p4 (fun r2 z2 => r2 = -1 ∧ Rel z2) := fun q => mm z _ (fun _ => ⟨rfl, hR⟩) (fun c => absurd c q)
  refine ge_from 1 5 rfl rfl (fun c1 => no1 (ge_place (fun c2 c3 => on1 ?_) (fun c => on0 (bad (fun q => c q.2))))) (fun c => no0 (bad (fun q => c q.1)))
  intro q hq z8 e8
  obtain ⟨n, en, en2, -⟩ := nat_of (p := p1) (by omega)
  subst en
  have k8 : Kp z z8 := by rw [e8]; exact (Kp.rf z).P q 1 _ hq
  have g8 : FA z8 q (nI 1) 0 0 := by rw [e8]; exact FA_new (kn := 1) (by decide) (by rw [i_0]; omega) (by rw [i_0]; omega)
  have hR8 := hR.kp k8
  refine ⟨n + 1, c_cr37 (sd := p4) (by omega) hR8 g8 c2 c3 n 0 z8 0 (by omega) (Kp.rf z8) (fun k hk => by omega) (fun z1 k1 => ?_)⟩
  have hR1 := hR8.kp k1
  refine mm z1 _ (fun q => absurd ⟨c1, c2, c3⟩ q) (fun _ => ⟨n + 1, m_cr34 (sd := p4) (by omega) hR1 c2 c3 n 0 z1 0 (by omega) (Kp.rf z1) (fun k hk => by omega) (fun z2 k2 => ⟨?_, hR1.kp k2⟩)⟩)
  rw [crT_kp k1]
