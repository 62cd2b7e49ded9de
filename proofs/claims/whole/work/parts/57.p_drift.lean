/-! PURE, part 8: drift, barred, last -/
def driftB (k w : Int32) : Int32 := if k = 2 then w * 5 / 4 else if k = 3 then w * 4 / 5 else if k = 7 then w * 4 / 5 / 2 else w
theorem m_driftBy {z : ZS} {k w : Int32} {post : Int32 → ZS → Prop} (h : post (driftB k w) z) : V_X12_driftBy z k w post := by
  unfold driftB at h
  unfold V_X12_driftBy
  by_cases c2 : k = 2
  · rw [if_pos c2] at h; exact ⟨fun q => absurd c2 q, fun _ => h⟩
  rw [if_neg c2] at h
  refine ⟨fun _ => ?_, fun q => absurd q c2⟩
  by_cases c3 : k = 3
  · rw [if_pos c3] at h; exact ⟨fun q => absurd c3 q, fun _ => h⟩
  rw [if_neg c3] at h
  refine ⟨fun _ => ?_, fun q => absurd q c3⟩
  by_cases c7 : k = 7
  · rw [if_pos c7] at h; exact ⟨fun q => absurd c7 q, fun _ => h⟩
  rw [if_neg c7] at h
  exact ⟨fun _ => h, fun q => absurd q c7⟩
theorem kcase {n : Nat} (h : n < 8) : n = 0 ∨ n = 1 ∨ n = 2 ∨ n = 3 ∨ n = 4 ∨ n = 5 ∨ n = 6 ∨ n = 7 := by omega
theorem c_drift {z : ZS} {a : Nat} {k f o w : Int32} (g : FA z a k f o) {post : Int32 → ZS → Prop} (h : post (driftB k w) z) : Vd_driftOf z a w post := by
  obtain ⟨hP, hk, e, -⟩ := g
  subst e
  unfold Vd_driftOf
  rcases kcase hk with q | q | q | q | q | q | q | q <;> rw [q] at h ⊢
  · exact h
  · exact h
  · exact ⟨hP, h⟩
  · exact ⟨hP, h⟩
  · exact h
  · exact h
  · exact h
  · exact ⟨hP, hP, h⟩
theorem sk_4 : SK_4 Rel := by
  intro z p1 p2 hR
  unfold V_X11_drift V_X12_drift
  rcases fcase hR p1 with hb | ⟨f, a, g⟩
  · exact c_fB hb ⟨fun _ => m_fB hR hb ⟨fun _ => ⟨rfl, hR⟩, fun q => absurd rfl q⟩, fun a q => by cases q⟩
  · have g0 := g
    obtain ⟨rfl, hf, -, -, -, g5⟩ := g
    refine c_fO g0 ⟨fun q => (by cases q), fun a' q => ?_⟩
    cases q
    rw [e_isFrom]
    by_cases h : -120 ≤ p2.toInt ∧ p2.toInt ≤ 120
    · have m1 : (if (-120 : Int32).toInt ≤ p2.toInt ∧ p2.toInt ≤ (120 : Int32).toInt then (1 : Int32) else 0) = 1 := if_pos h
      have m2 : (if (-120 : Int64).toInt ≤ p2.toInt ∧ p2.toInt ≤ (120 : Int64).toInt then (1 : Int32) else 0) = 1 := if_pos h
      rw [m1]
      refine ⟨fun _ => ⟨g5.1, c_drift g5 (m_fO hR g0 ⟨fun q => absurd q one_ne, fun _ => ?_⟩)⟩, fun q => absurd q one_ne⟩
      rw [e_isInI, m2]
      refine ⟨fun q => absurd q one_ne, fun _ => ?_⟩
      rw [e_of0 hf]
      exact m_driftBy ⟨rfl, hR⟩
    · have m1 : (if (-120 : Int32).toInt ≤ p2.toInt ∧ p2.toInt ≤ (120 : Int32).toInt then (1 : Int32) else 0) = 0 := if_neg h
      have m2 : (if (-120 : Int64).toInt ≤ p2.toInt ∧ p2.toInt ≤ (120 : Int64).toInt then (1 : Int32) else 0) = 0 := if_neg h
      rw [m1]
      refine ⟨fun q => absurd rfl q, fun _ => m_fO hR g0 ⟨fun q => absurd q one_ne, fun _ => ?_⟩⟩
      rw [e_isInI, m2]
      exact ⟨fun _ => ⟨rfl, hR⟩, fun q => absurd rfl q⟩
-- bars
def barB (f : Nat → Int32) (x y : Int32) : Nat → Nat → Int32
  | 0, _ => 0
  | (k + 1), b => if ((f (4 * b)).toInt ≤ x.toInt ∧ x.toInt ≤ (f (4 * b + 2)).toInt) ∧ ((f (4 * b + 1)).toInt ≤ y.toInt ∧ y.toInt ≤ (f (4 * b + 3)).toInt) then 1 else barB f x y k (b + 1)
theorem barB_eq {f g : Nat → Int32} {n : Nat} (h : ∀ b, b < n → ∀ k, k < 4 → f (4 * b + k) = g (4 * b + k)) (x y : Int32) : ∀ k i, k + i = n → barB f x y k i = barB g x y k i := by
  intro k
  induction k with
  | zero => intro i _; rfl
  | succ k ih =>
    intro i hi
    unfold barB
    have q0 := h i (by omega) 0 (by decide)
    have q1 := h i (by omega) 1 (by decide)
    have q2 := h i (by omega) 2 (by decide)
    have q3 := h i (by omega) 3 (by decide)
    rw [Nat.add_zero] at q0
    rw [q0, q1, q2, q3, ih (i + 1) (by omega)]
theorem ix_4 (b k : Nat) : (4 : Int32) * nI b + nI k = nI (4 * b + k) := by
  have e : (4 : Int32) * nI b = nI (4 * b) := (Int32.ofNat_mul 4 b).symm
  rw [e, nI_add]
theorem ix_40 (b : Nat) : (4 : Int32) * nI b = nI (4 * b) := (Int32.ofNat_mul 4 b).symm
theorem c_bars_lp {z : ZS} {n : Nat} (hn : n ≤ 6) (hz : zI z 1 8 = nI n) (x y : Int32) (post : Int32 → ZS → Prop) : ∀ (k i : Nat), k + i = n → post (barB (zR z 1 7) x y k i) z → V_X0_bars_2 1 post (k + 1) z x y (nI i) := by
  intro k
  induction k with
  | zero =>
    intro i h hp
    unfold V_X0_bars_2
    rw [hz]
    exact ⟨fun _ => hp, fun c => absurd ((nI_leI (by omega) (by omega)).mpr (by omega)) c⟩
  | succ k ih =>
    intro i h hp
    unfold V_X0_bars_2 V_X0_bars_70
    have i1 : (4 : Int32) * nI i + (1 : Int32) = nI (4 * i + 1) := ix_4 i 1
    have i2 : (4 : Int32) * nI i + (2 : Int32) = nI (4 * i + 2) := ix_4 i 2
    have i3 : (4 : Int32) * nI i + (3 : Int32) = nI (4 * i + 3) := ix_4 i 3
    rw [hz, i1, i2, i3, ix_40]
    rw [nI_clamp (show 4 * i < 2 ^ 31 by omega), nI_clamp (show 4 * i + 1 < 2 ^ 31 by omega), nI_clamp (show 4 * i + 2 < 2 ^ 31 by omega), nI_clamp (show 4 * i + 3 < 2 ^ 31 by omega)]
    simp only [e_isFrom]
    unfold barB at hp
    have next : ¬ (((zR z 1 7 (4 * i)).toInt ≤ x.toInt ∧ x.toInt ≤ (zR z 1 7 (4 * i + 2)).toInt) ∧ ((zR z 1 7 (4 * i + 1)).toInt ≤ y.toInt ∧ y.toInt ≤ (zR z 1 7 (4 * i + 3)).toInt)) → ∀ t6 : Int32, t6 = nI i + 1 → V_X0_bars_2 1 post (k + 1) z x y t6 := fun c t6 e6 => by
      rw [if_neg c] at hp
      rw [e6, nI_1]
      exact ih (i + 1) (by omega) hp
    refine ⟨fun c => absurd ((nI_leI (by omega) (by omega)).mp c) (by omega), fun _ => ⟨fun c => ?_, fun _ => ⟨vin (by omega) (by decide), vin (by omega) (by decide), ?_⟩⟩⟩
    · have := (nI_leI (a := 6) (b := i) (by omega) (by omega)).mp c
      omega
    by_cases h1 : (zR z 1 7 (4 * i)).toInt ≤ x.toInt ∧ x.toInt ≤ (zR z 1 7 (4 * i + 2)).toInt
    · rw [if_pos h1]
      refine ⟨fun q => absurd q one_ne, fun _ => ⟨vin (by omega) (by decide), vin (by omega) (by decide), ?_⟩⟩
      by_cases h2 : (zR z 1 7 (4 * i + 1)).toInt ≤ y.toInt ∧ y.toInt ≤ (zR z 1 7 (4 * i + 3)).toInt
      · rw [if_pos h2]
        rw [if_pos ⟨h1, h2⟩] at hp
        exact ⟨fun q => absurd q one_ne, fun _ => hp⟩
      · rw [if_neg h2]
        exact ⟨fun _ => next (fun q => h2 q.2), fun q => absurd rfl q⟩
    · rw [if_neg h1]
      exact ⟨fun _ => next (fun q => h1 q.1), fun q => absurd rfl q⟩
theorem ix_b (b : Nat) : (49 : Int32) + (4 : Int32) * nI b = nI (49 + 4 * b) := nI_lin 49 4 b
theorem m_bars_lp {z : ZS} {n : Nat} (hn : n ≤ 6) (hz : zR z 14 0 4 = nI n) (x y : Int32) (post : Int32 → ZS → Prop) : ∀ (k i : Nat), k + i = n → post (barB (fun t => zR z 14 0 (49 + t)) x y k i) z → V_X12_isBarred_2 post (k + 1) z x y (nI i) := by
  intro k
  induction k with
  | zero =>
    intro i h hp
    unfold V_X12_isBarred_2
    rw [hz]
    exact ⟨fun _ => hp, fun c => absurd ((nI_leI (by omega) (by omega)).mpr (by omega)) c⟩
  | succ k ih =>
    intro i h hp
    unfold V_X12_isBarred_2 V_X12_isBarred_72
    unfold barB at hp
    rw [hz]
    have next : ¬ (((zR z 14 0 (49 + 4 * i)).toInt ≤ x.toInt ∧ x.toInt ≤ (zR z 14 0 (49 + (4 * i + 2))).toInt) ∧ ((zR z 14 0 (49 + (4 * i + 1))).toInt ≤ y.toInt ∧ y.toInt ≤ (zR z 14 0 (49 + (4 * i + 3))).toInt)) → ∀ t6 : Int32, t6 = nI i + 1 → V_X12_isBarred_2 post (k + 1) z x y t6 := fun c t6 e6 => by
      rw [if_neg c] at hp
      rw [e6, nI_1]
      exact ih (i + 1) (by omega) hp
    refine ⟨fun c => absurd ((nI_leI (by omega) (by omega)).mp c) (by omega), fun _ t2 e2 => ?_⟩
    rw [ix_b] at e2
    subst e2
    have i1 : nI (49 + 4 * i) + (1 : Int32) = nI (49 + (4 * i + 1)) := nI_add (49 + 4 * i) 1
    have i2 : nI (49 + 4 * i) + (2 : Int32) = nI (49 + (4 * i + 2)) := nI_add (49 + 4 * i) 2
    have i3 : nI (49 + 4 * i) + (3 : Int32) = nI (49 + (4 * i + 3)) := nI_add (49 + 4 * i) 3
    rw [i1, i2, i3, nI_clamp (show 49 + 4 * i < 2 ^ 31 by omega), nI_clamp (show 49 + (4 * i + 1) < 2 ^ 31 by omega), nI_clamp (show 49 + (4 * i + 2) < 2 ^ 31 by omega), nI_clamp (show 49 + (4 * i + 3) < 2 ^ 31 by omega)]
    simp only [Int32.lt_iff_toInt_lt]
    refine ⟨vin (by omega) (by decide), fun c => next (fun q => by omega), fun c1 => ⟨vin (by omega) (by decide), fun c => next (fun q => by omega), fun c2 => ⟨vin (by omega) (by decide), fun c => next (fun q => by omega), fun c3 => ⟨vin (by omega) (by decide), fun c => next (fun q => by omega), fun c4 => ?_⟩⟩⟩⟩
    rw [if_pos (by omega)] at hp
    exact hp
/-- whether a place is barred: one answer for both -/
def barV (z : ZS) (x y : Int32) : Int32 := barB (zR z 1 7) x y (zI z 1 8).toNatClampNeg 0
theorem c_bars {z : ZS} (hR : Rel z) {x y : Int32} {post : Int32 → ZS → Prop} (h : post (barV z x y) z) : V_X0_bars z 1 x y post := by
  obtain ⟨-, -, -, ⟨n, hn, e, -⟩, -⟩ := hR.1
  unfold barV at h
  rw [e, nI_clamp (by omega)] at h
  exact ⟨n + 1, c_bars_lp hn e x y post n 0 (by omega) h⟩
theorem m_bars {z : ZS} (hR : Rel z) {x y : Int32} {post : Int32 → ZS → Prop} (h : post (barV z x y) z) : V_X12_isBarred z x y post := by
  obtain ⟨⟨-, -, -, -, a4⟩, -, -, ⟨n, hn, e, g⟩, -⟩ := hR.1
  unfold barV at h
  rw [e, nI_clamp (by omega)] at h
  refine ⟨n + 1, m_bars_lp hn (a4.trans e) x y post n 0 (by omega) ?_⟩
  rw [barB_eq (f := fun t => zR z 14 0 (49 + t)) (g := zR z 1 7) (n := n) (fun b hb k hk => by rw [← g b hb k hk]; congr 1; omega) x y n 0 (by omega)]
  exact h
theorem barV_kp {z z1 : ZS} (h : Kp z z1) (x y : Int32) : barV z1 x y = barV z x y := by
  unfold barV
  rw [h.1 1 8 (by unfold keepI; omega), h.2.1 1 7 (by unfold keepR; omega)]
theorem e_isPlace (z : ZS) (a b : Int32) (post : Int32 → ZS → Prop) : V_X11_isPlace z a b post = post (if (-30000 ≤ a.toInt ∧ a.toInt ≤ 30000) ∧ (-30000 ≤ b.toInt ∧ b.toInt ≤ 30000) then 1 else 0) z := by
  unfold V_X11_isPlace
  simp only [e_isFrom]
  by_cases h1 : -30000 ≤ a.toInt ∧ a.toInt ≤ 30000
  · have m1 : (if (-30000 : Int32).toInt ≤ a.toInt ∧ a.toInt ≤ (30000 : Int32).toInt then (1 : Int32) else 0) = 1 := if_pos h1
    rw [m1]
    by_cases h2 : -30000 ≤ b.toInt ∧ b.toInt ≤ 30000
    · have m2 : (if (-30000 : Int32).toInt ≤ b.toInt ∧ b.toInt ≤ (30000 : Int32).toInt then (1 : Int32) else 0) = 1 := if_pos h2
      rw [m2, if_pos ⟨h1, h2⟩]
      exact propext ⟨fun h => (h.2 one_ne).2 one_ne, fun h => ⟨fun q => absurd q one_ne, fun _ => ⟨fun q => absurd q one_ne, fun _ => h⟩⟩⟩
    · have m2 : (if (-30000 : Int32).toInt ≤ b.toInt ∧ b.toInt ≤ (30000 : Int32).toInt then (1 : Int32) else 0) = 0 := if_neg h2
      rw [m2, if_neg (fun q => h2 q.2)]
      exact propext ⟨fun h => (h.2 one_ne).1 rfl, fun h => ⟨fun q => absurd q one_ne, fun _ => ⟨fun _ => h, fun q => absurd rfl q⟩⟩⟩
  · have m1 : (if (-30000 : Int32).toInt ≤ a.toInt ∧ a.toInt ≤ (30000 : Int32).toInt then (1 : Int32) else 0) = 0 := if_neg h1
    have m0 : (if (-30000 ≤ a.toInt ∧ a.toInt ≤ 30000) ∧ (-30000 ≤ b.toInt ∧ b.toInt ≤ 30000) then (1 : Int32) else 0) = 0 := if_neg (fun q => h1 q.1)
    rw [m1, m0]
    exact propext ⟨fun h => h.1 rfl, fun h => ⟨fun _ => h, fun q => absurd rfl q⟩⟩
theorem sk_6 : SK_6 Rel := by
  intro z p1 p2 hR
  unfold V_X11_barred V_X12_barred V_X12_barred_14
  simp only [e_isPlace, e_isEdge]
  by_cases h1 : -30000 ≤ p1.toInt ∧ p1.toInt ≤ 30000
  · rw [if_pos h1]
    by_cases h2 : -30000 ≤ p2.toInt ∧ p2.toInt ≤ 30000
    · rw [if_pos h2, if_pos ⟨h1, h2⟩]
      refine ⟨fun _ => c_bars hR ⟨fun c => ⟨fun q => absurd q one_ne, fun _ => ⟨fun _ => m_bars hR ⟨fun _ => ⟨trivial, hR⟩, fun q => absurd c q⟩, fun q => absurd q one_ne⟩⟩, fun c => ⟨fun q => absurd q one_ne, fun _ => ⟨fun _ => m_bars hR ⟨fun q => absurd q c, fun _ => ⟨trivial, hR⟩⟩, fun q => absurd q one_ne⟩⟩⟩, fun q => absurd q one_ne⟩
    · rw [if_neg h2, if_neg (fun q => h2 q.2)]
      exact ⟨fun q => absurd rfl q, fun _ => ⟨fun q => absurd q one_ne, fun _ => ⟨fun q => absurd rfl q, fun _ => ⟨trivial, hR⟩⟩⟩⟩
  · rw [if_neg h1, if_neg (fun q => h1 q.1)]
    exact ⟨fun q => absurd rfl q, fun _ => ⟨fun _ => ⟨trivial, hR⟩, fun q => absurd rfl q⟩⟩
-- last
def lastB (hh fl : Int32) : Nat → Nat → Int32 → Int32
  | 0, _, v => v
  | (k + 1), i, v => lastB hh fl k (i + 1) (if hh - nI i * fl < 200 then v else nI i)
theorem c_last_lp {z : ZS} {a : Nat} (ha : a ∈ zP z) (post : Int32 → ZS → Prop) : ∀ (k i : Nat) (v : Int32), k + i = 21 → post (lastB (zI z 1 4) (zF z a 4) k i v) z → V_X11_last_21 post (k + 1) z a v (nI i) := by
  intro k
  induction k with
  | zero =>
    intro i v h hp
    unfold V_X11_last_21
    have hi : i = 21 := by omega
    subst hi
    exact ⟨fun _ => hp, fun c => absurd (by decide : (20 : Int32) < nI 21) c⟩
  | succ k ih =>
    intro i v h hp
    unfold V_X11_last_21 V_X11_last_52
    unfold lastB at hp
    have hi : ¬ (20 : Int32) < nI i := by
      intro r
      rw [Int32.lt_iff_toInt_lt, nI_toInt (by omega)] at r
      have e : (20 : Int32).toInt = 20 := by decide
      omega
    refine ⟨fun q => absurd q hi, fun _ => ⟨ha, fun c t6 e6 => ?_, fun c t6 e6 => ?_⟩⟩
    · rw [if_pos c] at hp
      rw [e6, nI_1]
      exact ih (i + 1) v (by omega) hp
    · rw [if_neg c] at hp
      rw [e6, nI_1]
      exact ih (i + 1) _ (by omega) hp
theorem m_last_lp {z : ZS} {f : Nat} (hf : f < 8) (post : Int32 → ZS → Prop) : ∀ (k i : Nat) (v : Int32), k + i = 21 → post (lastB (zR z 14 0 2) (fallsB (zR z 14 0 (25 + 3 * f))) k i v) z → V_X12_last_15 post (k + 1) z (nI f) v (nI i) := by
  intro k
  induction k with
  | zero =>
    intro i v h hp
    unfold V_X12_last_15
    have hi : i = 21 := by omega
    subst hi
    exact ⟨fun _ => hp, fun c => absurd (by decide : (20 : Int32) < nI 21) c⟩
  | succ k ih =>
    intro i v h hp
    unfold V_X12_last_15 V_X12_last_50
    unfold lastB at hp
    have hi : ¬ (20 : Int32) < nI i := by
      intro r
      rw [Int32.lt_iff_toInt_lt, nI_toInt (by omega)] at r
      have e : (20 : Int32).toInt = 20 := by decide
      omega
    refine ⟨fun q => absurd q hi, fun _ => ?_⟩
    rw [e_of0 hf]
    refine m_fallsBy ⟨fun c t6 e6 => ?_, fun c t6 e6 => ?_⟩
    · rw [if_pos c] at hp
      rw [e6, nI_1]
      exact ih (i + 1) v (by omega) hp
    · rw [if_neg c] at hp
      rw [e6, nI_1]
      exact ih (i + 1) _ (by omega) hp
theorem sk_17 : SK_17 Rel := by
  intro z p1 hR
  unfold V_X11_last V_X12_last
  rcases fcase hR p1 with hb | ⟨f, a, g⟩
  · exact c_fB hb ⟨fun _ => m_fB hR hb ⟨fun q => absurd rfl q, fun _ => ⟨rfl, hR⟩⟩, fun a q => by cases q⟩
  · have g0 := g
    obtain ⟨rfl, hf, -, -, -, g5⟩ := g
    refine c_fO g0 ⟨fun q => (by cases q), fun a' q => ?_⟩
    cases q
    refine ⟨22, c_last_lp g5.1 _ 21 0 (-4) rfl (m_fO hR g0 ⟨fun _ => ⟨22, m_last_lp hf _ 21 0 (-4) rfl ⟨?_, hR⟩⟩, fun q => absurd q one_ne⟩)⟩
    rw [hR.1.1.2.2.1, g5.2.2.2.2.2.2.1]
