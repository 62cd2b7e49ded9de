/-! PURE, part 38: air: what a STATEMENT does, of the reference -/
theorem MR.w {z0 z : ZS} {d n p cnt : Nat} {m2 tl : Nat → Int32} (h : MR z0 d n m2 z p cnt tl) (i : Nat) (v : Int32) : MR z0 d n (upd m2 i v) (wR z 14 2 i v) p cnt tl := by
  obtain ⟨h1, h2, h3, h4, h5, h6, h7⟩ := h
  refine ⟨h1.R 14 2 _ _ (by unfold keepR; omega), ?_, h3, h4, h5, h6, h7⟩
  show (if 14 = 14 ∧ 2 = 2 then upd (zR z 14 2) i v else zR z 14 2) = _
  rw [if_pos ⟨rfl, rfl⟩, h2]
/-- how many it can have -/
def BM (m : Nat → Int32) : Prop := (∃ k, k ≤ 8 ∧ m 3 = nI k) ∧ (∃ k, k ≤ 6 ∧ m 4 = nI k)
theorem BM_cm {c : Int32} {tl m m1 : Nat → Int32} (hb : BM m) (ht : tlOK c tl) (e : cmF c tl m = some m1) : BM m1 := by
  obtain ⟨⟨k3, h3, e3⟩, ⟨k4, h4, e4⟩⟩ := hb
  unfold cmF at e
  split at e
  · split at e
    · cases e
      exact ⟨⟨k3, h3, e3⟩, ⟨k4, h4, e4⟩⟩
    · cases e
  · split at e
    · split at e
      · rename_i h
        cases e
        have hk : k3 ≠ 8 := fun r => h.2.2 (by rw [e3, r]; rfl)
        refine ⟨⟨k3 + 1, by omega, by rw [upd_at, e3, nI_1]⟩, ⟨k4, h4, ?_⟩⟩
        rw [upd_ne (by decide), upd_ne (by omega), upd_ne (by omega), upd_ne (by omega)]
        exact e4
      · cases e
    · split at e
      · split at e
        · cases e
          exact ⟨⟨k3, h3, e3⟩, ⟨k4, h4, e4⟩⟩
        · cases e
      · split at e
        · split at e
          · cases e
            refine ⟨⟨k3, h3, ?_⟩, ⟨k4, h4, ?_⟩⟩
            · rw [upd_ne (by omega), upd_ne (by omega)]; exact e3
            · rw [upd_ne (by omega), upd_ne (by omega)]; exact e4
          · cases e
        · split at e
          · rename_i h
            cases e
            have hk : k4 < 6 := Nat.lt_of_not_le (fun r => h.1 (by rw [e4]; exact nI_le (a := 6) r (by omega)))
            refine ⟨⟨k3, h3, ?_⟩, ⟨k4 + 1, by omega, by rw [upd_at, e4, nI_1]⟩⟩
            rw [upd_ne (by decide), upd_ne (by omega), upd_ne (by omega), upd_ne (by omega), upd_ne (by omega)]
            exact e3
          · cases e
abbrev yd (t : Int32) : Prop := -3000 ≤ t.toInt ∧ t.toInt ≤ 3000
theorem m_312a {post : Int32 → ZS → Prop} {z : ZS} (h : post 0 z) : ∀ (r k : Nat), r + k = 4 → V_X12_comes_312 post (r + 1) z 0 (nI k) := by
  intro r
  induction r with
  | zero =>
    intro k e
    unfold V_X12_comes_312
    have hk : k = 4 := by omega
    subst hk
    exact ⟨fun _ => on0 h, fun q => absurd (by decide : (4 : Int32) ≤ nI 4) q⟩
  | succ r ih =>
    intro k e
    unfold V_X12_comes_312 V_X12_comes_344 V_X12_comes_345
    have hk : ¬ (4 : Int32) ≤ nI k := fun q => by
      rw [Int32.le_iff_toInt_le, nI_toInt (by omega), show (4 : Int32).toInt = 4 by decide] at q
      omega
    refine ⟨fun q => absurd q hk, fun _ => no0 (fun t18 e18 => ?_)⟩
    rw [e18, nI_1]
    exact ih (k + 1) (by omega)
theorem m_312b {post : Int32 → ZS → Prop} {z : ZS} {tl : Nat → Int32} (h15 : ∀ j, j < 4 → zR z 14 15 j = tl j) (h1 : (∀ j, j < 4 → yd (tl j)) → ∀ t4 : Int32, t4 = ((49 : Int32) + ((4 : Int32) * (zR z 14 2 4))) → (∃ n16 : Nat, V_X12_comes_373 post n16 z t4 (0 : Int32))) (h0 : ¬ (∀ j, j < 4 → yd (tl j)) → post 0 z) : ∀ (r k : Nat), r + k = 4 → (∀ j, j < k → yd (tl j)) → V_X12_comes_312 post (r + 1) z 1 (nI k) := by
  intro r
  induction r with
  | zero =>
    intro k e hj
    unfold V_X12_comes_312
    have hk : k = 4 := by omega
    subst hk
    exact ⟨fun _ => on1 (h1 hj), fun q => absurd (by decide : (4 : Int32) ≤ nI 4) q⟩
  | succ r ih =>
    intro k e hj
    unfold V_X12_comes_312 V_X12_comes_344 V_X12_comes_345
    have hk : ¬ (4 : Int32) ≤ nI k := fun q => by
      rw [Int32.le_iff_toInt_le, nI_toInt (by omega), show (4 : Int32).toInt = 4 by decide] at q
      omega
    rw [nI_clamp (show k < 2 ^ 31 by omega), h15 k (by omega)]
    refine ⟨fun q => absurd q hk, fun _ => no1 ⟨vin (by omega) (by decide), ge_in (-3000) 3000 rfl rfl (fun c => no1 (fun t18 e18 => ?_)) (fun c => no0 (fun t18 e18 => ?_))⟩⟩
    · rw [e18, nI_1]
      refine ih (k + 1) (by omega) (fun j hj2 => ?_)
      by_cases cj : j = k
      · rw [cj]; exact c
      · exact hj j (by omega)
    · rw [e18, nI_1]
      exact m_312a (h0 (fun q => c (q k (by omega)))) r (k + 1) (by omega)
theorem m_373 {z0 z : ZS} {d n p b : Nat} {m2 tl : Nat → Int32} (hb : b < 6) (h : MR z0 d n m2 z p 4 tl) (e4 : m2 4 = nI b) {post : Int32 → ZS → Prop} (kk : ∀ z1, MR z0 d n (upd (upd (upd (upd (upd m2 (49 + 4 * b) (lsr (10 * tl 0) (10 * tl 2))) (51 + 4 * b) (10 * tl 0 + 10 * tl 2 - lsr (10 * tl 0) (10 * tl 2))) (50 + 4 * b) (lsr (10 * tl 1) (10 * tl 3))) (52 + 4 * b) (10 * tl 1 + 10 * tl 3 - lsr (10 * tl 1) (10 * tl 3))) 4 (m2 4 + 1)) z1 p 4 tl → post 1 z1) : ∃ n16 : Nat, V_X12_comes_373 post n16 z (nI (49 + 4 * b)) (0 : Int32) := by
  refine ⟨3, ?_⟩
  unfold V_X12_comes_373
  have a0 : zR z 14 15 0 = tl 0 := h.2.2.2.2.2.2 0 (by decide)
  have a2 : zR z 14 15 2 = tl 2 := h.2.2.2.2.2.2 2 (by decide)
  have i0 : nI (49 + 4 * b) + (0 : Int32) = nI (49 + 4 * b) := Int32.add_zero _
  have i2 : nI (49 + 4 * b) + (2 : Int32) = nI (49 + 4 * b + 2) := nI_add (49 + 4 * b) 2
  have c0 : (0 : Int32).toNatClampNeg = 0 := rfl
  have c2 : ((0 : Int32) + 2).toNatClampNeg = 2 := rfl
  refine ⟨fun q => absurd q (by decide), fun _ => ⟨vin (n := 0) (by decide) (by decide), fun t7 e7 => ⟨vin (n := 2) (by decide) (by decide), fun t8 e8 => m_lesser ⟨?_, fun z11 e11 => m_lesser ⟨?_, fun z14 e14 t15 e15 => ?_⟩⟩⟩⟩⟩
  · rw [i0]; exact vin (by omega) (by decide)
  · rw [i2, Int32.add_zero]; exact vin (by omega) (by decide)
  rw [c0, a0] at e7
  rw [c2, a2] at e8
  rw [i0, nI_clamp (show 49 + 4 * b < 2 ^ 31 by omega), e7, e8] at e11
  rw [i2, Int32.add_zero, nI_clamp (show 49 + 4 * b + 2 < 2 ^ 31 by omega), e7, e8] at e14
  have h11 := h.w (49 + 4 * b) (lsr (10 * tl 0) (10 * tl 2))
  rw [← e11] at h11
  have h14 := h11.w (49 + 4 * b + 2) (10 * tl 0 + 10 * tl 2 - lsr (10 * tl 0) (10 * tl 2))
  rw [← e14, show 49 + 4 * b + 2 = 51 + 4 * b by omega] at h14
  rw [e15]
  unfold V_X12_comes_373
  have b1 : zR z14 14 15 1 = tl 1 := h14.2.2.2.2.2.2 1 (by decide)
  have b3 : zR z14 14 15 3 = tl 3 := h14.2.2.2.2.2.2 3 (by decide)
  have j1 : nI (49 + 4 * b) + ((0 : Int32) + 1) = nI (49 + 4 * b + 1) := nI_add (49 + 4 * b) 1
  have j3 : nI (49 + 4 * b) + (2 : Int32) + ((0 : Int32) + 1) = nI (49 + 4 * b + 2 + 1) := by rw [i2]; exact nI_add (49 + 4 * b + 2) 1
  have d1 : ((0 : Int32) + 1).toNatClampNeg = 1 := rfl
  have d3 : ((0 : Int32) + 1 + 2).toNatClampNeg = 3 := rfl
  refine ⟨fun q => absurd q (by decide), fun _ => ⟨vin (n := 1) (by decide) (by decide), fun t7' e7' => ⟨vin (n := 3) (by decide) (by decide), fun t8' e8' => m_lesser ⟨?_, fun z21 e21 => m_lesser ⟨?_, fun z24 e24 t25 e25 => ?_⟩⟩⟩⟩⟩
  · rw [j1]; exact vin (by omega) (by decide)
  · rw [j3]; exact vin (by omega) (by decide)
  rw [d1, b1] at e7'
  rw [d3, b3] at e8'
  rw [j1, nI_clamp (show 49 + 4 * b + 1 < 2 ^ 31 by omega), e7', e8'] at e21
  rw [j3, nI_clamp (show 49 + 4 * b + 2 + 1 < 2 ^ 31 by omega), e7', e8'] at e24
  have h21 := h14.w (49 + 4 * b + 1) (lsr (10 * tl 1) (10 * tl 3))
  rw [← e21, show 49 + 4 * b + 1 = 50 + 4 * b by omega] at h21
  have h24 := h21.w (49 + 4 * b + 2 + 1) (10 * tl 1 + 10 * tl 3 - lsr (10 * tl 1) (10 * tl 3))
  rw [← e24, show 49 + 4 * b + 2 + 1 = 52 + 4 * b by omega] at h24
  rw [e25]
  unfold V_X12_comes_373
  refine ⟨fun _ z6 e6 => ?_, fun q => absurd (by decide) q⟩
  have v4 : zR z24 14 2 4 = m2 4 := by rw [h24.2.1, upd_ne (by omega), upd_ne (by omega), upd_ne (by omega), upd_ne (by omega)]
  rw [v4] at e6
  rw [e6]
  exact kk _ (h24.w 4 _)
theorem m_comes {z0 z : ZS} {d n p : Nat} {m2 tl : Nat → Int32} {c : Int32} (hl : isLt c) (ht : tlOK c tl) (hb : BM m2) (h : MR z0 d n m2 z p (nN (fL c)) tl) {post : Int32 → ZS → Prop} (k0 : cmF c tl m2 = none → ∀ z1, Kp z0 z1 → post 0 z1) (k1 : ∀ m1, cmF c tl m2 = some m1 → ∀ z1, MR z0 d n m1 z1 p (nN (fL c)) tl → post 1 z1) : V_X12_comes z c post := by
  unfold V_X12_comes
  unfold cmF at k0 k1
  obtain ⟨⟨n3, hn3, e3⟩, ⟨n4, hn4, e4⟩⟩ := hb
  refine ⟨fun q => ?_, fun q1 => ⟨fun q => ?_, fun q2 => ⟨fun q => ?_, fun q3 => ⟨fun q => ?_, fun q4 => ?_⟩⟩⟩⟩
  · subst q
    rw [if_pos rfl] at k0 k1
    intro z47 e47 z48 e48
    have t0 : zR z 14 15 0 = tl 0 := h.2.2.2.2.2.2 0 (by decide)
    rw [t0] at e47
    have h47 := h.w 1 (tl 0)
    rw [← e47] at h47
    have t1 : zR z47 14 15 1 = tl 1 := h47.2.2.2.2.2.2 1 (by decide)
    rw [t1] at e48
    have h48 := h47.w 2 (tl 1)
    rw [← e48] at h48
    have u0 : zR z48 14 15 0 = tl 0 := h48.2.2.2.2.2.2 0 (by decide)
    have u1 : zR z48 14 15 1 = tl 1 := h48.2.2.2.2.2.2 1 (by decide)
    unfold V_X12_isValue
    rw [u0]
    refine ⟨fun _ => ⟨fun q => absurd rfl q, fun _ => ge_in 0 900 rfl rfl (fun c1 => ⟨rfl, no1 ?_⟩) (fun c1 => ⟨rfl, no0 (k0 (if_neg (fun q => c1 q.1)) z48 h48.1)⟩)⟩, fun q => absurd q one_ne⟩
    rw [u1]
    exact ⟨fun _ => ⟨fun _ => ⟨fun q => absurd rfl q, fun _ => ge_in 300 3000 rfl rfl (fun c2 => no1 (no1 (k1 _ (if_pos ⟨c1, c2⟩) z48 h48))) (fun c2 => no0 (no0 (k0 (if_neg (fun q => c2 q.2)) z48 h48.1)))⟩, fun q => absurd q (by decide)⟩, fun q => absurd q (by decide)⟩
  · subst q
    rw [if_neg (by decide), if_pos rfl] at k0 k1
    have t0 : zR z 14 15 0 = tl 0 := h.2.2.2.2.2.2 0 (by decide)
    have t2 : zR z 14 15 2 = tl 2 := h.2.2.2.2.2.2 2 (by decide)
    have i7 : (7 : Int32).toInt = 7 := by decide
    have i20 : (20 : Int32).toInt = 20 := by decide
    have em : zR z 14 2 3 = m2 3 := by rw [h.2.1]
    rw [t0, t2, em]
    refine ⟨fun r => k0 (if_neg (fun q => ?_)) z h.1, fun r => ⟨fun r2 => k0 (if_neg (fun q => ?_)) z h.1, fun r2 => ⟨fun r3 => ⟨4, ?_⟩, fun r3 => k0 (if_neg (fun q => q.2.2 r3)) z h.1⟩⟩⟩
    · rw [Int32.lt_iff_toInt_lt, i7] at r; have := q.1; omega
    · rw [Int32.lt_iff_toInt_lt, i20] at r2; have := q.2.1; omega
    · rw [Int32.lt_iff_toInt_lt, i7] at r
      rw [Int32.lt_iff_toInt_lt, i20] at r2
      have hk := k1 _ (if_pos ⟨by omega, by omega, r3⟩)
      have hn8 : n3 < 8 := by
        apply Nat.lt_of_not_le
        intro s
        have : n3 = 8 := by omega
        exact r3 (by rw [e3, this]; rfl)
      have ec : (m2 3).toNatClampNeg = n3 := by rw [e3, nI_clamp (by omega)]
      rw [ec] at hk
      have f0 : (25 : Int32) + (3 : Int32) * nI n3 + (0 : Int32) = nI (25 + 3 * n3) := ix_f n3 0
      have f1 : (25 : Int32) + (3 : Int32) * nI n3 + ((0 : Int32) + 1) = nI (25 + 3 * n3 + 1) := ix_f n3 1
      have f2 : (25 : Int32) + (3 : Int32) * nI n3 + ((0 : Int32) + 1 + 1) = nI (25 + 3 * n3 + 2) := ix_f n3 2
      unfold V_X12_comes_246
      rw [em, e3, f0, nI_clamp (show 25 + 3 * n3 < 2 ^ 31 by omega)]
      refine ⟨fun q => absurd q (by decide), fun _ => ⟨vin (n := 0) (by decide) (by decide), vin (by omega) (by decide), fun z1 ez1 t1 et1 => ?_⟩⟩
      have s0 : zR z 14 15 (Int32.toNatClampNeg 0) = tl 0 := t0
      rw [s0] at ez1
      have h1 := h.w (25 + 3 * n3) (tl 0)
      rw [← ez1] at h1
      have em1 : zR z1 14 2 3 = nI n3 := by rw [h1.2.1, upd_ne (by omega)]; exact e3
      rw [et1]
      unfold V_X12_comes_246
      rw [em1, f1, nI_clamp (show 25 + 3 * n3 + 1 < 2 ^ 31 by omega)]
      refine ⟨fun q => absurd q (by decide), fun _ => ⟨vin (n := 1) (by decide) (by decide), vin (by omega) (by decide), fun z2 ez2 t2' et2 => ?_⟩⟩
      have s1 : zR z1 14 15 (Int32.toNatClampNeg (0 + 1)) = tl 1 := h1.2.2.2.2.2.2 1 (by decide)
      rw [s1] at ez2
      have h2 := h1.w (25 + 3 * n3 + 1) (tl 1)
      rw [← ez2, show 25 + 3 * n3 + 1 = 26 + 3 * n3 by omega] at h2
      have em2 : zR z2 14 2 3 = nI n3 := by rw [h2.2.1, upd_ne (by omega), upd_ne (by omega)]; exact e3
      rw [et2]
      unfold V_X12_comes_246
      rw [em2, f2, nI_clamp (show 25 + 3 * n3 + 2 < 2 ^ 31 by omega)]
      refine ⟨fun q => absurd q (by decide), fun _ => ⟨vin (n := 2) (by decide) (by decide), vin (by omega) (by decide), fun z3 ez3 t3' et3 => ?_⟩⟩
      have s2 : zR z2 14 15 (Int32.toNatClampNeg (0 + 1 + 1)) = tl 2 := h2.2.2.2.2.2.2 2 (by decide)
      rw [s2] at ez3
      have h3 := h2.w (25 + 3 * n3 + 2) (tl 2)
      rw [← ez3, show 25 + 3 * n3 + 2 = 27 + 3 * n3 by omega] at h3
      have em3 : zR z3 14 2 3 = m2 3 := by rw [h3.2.1, upd_ne (by omega), upd_ne (by omega), upd_ne (by omega)]
      rw [et3]
      unfold V_X12_comes_246
      refine ⟨fun _ z43 e43 => ?_, fun q => absurd (by decide) q⟩
      rw [em3] at e43
      rw [e43]
      exact hk _ (h3.w 3 _)
  · subst q
    rw [if_neg (by decide), if_neg (by decide), if_pos rfl] at k0 k1
    intro z36 e36
    have t0 : zR z 14 15 0 = tl 0 := h.2.2.2.2.2.2 0 (by decide)
    rw [t0] at e36
    have h36 := h.w 0 (tl 0)
    rw [← e36] at h36
    have u0 : zR z36 14 15 0 = tl 0 := h36.2.2.2.2.2.2 0 (by decide)
    unfold V_X12_isValue
    rw [u0]
    exact ⟨fun q => absurd rfl q, fun _ => ge_in 0 30 rfl rfl (fun c1 => ⟨rfl, rfl, k1 _ (if_pos c1) z36 h36⟩) (fun c1 => ⟨rfl, rfl, k0 (if_neg c1) z36 h36.1⟩)⟩
  · subst q
    rw [if_neg (by decide), if_neg (by decide), if_neg (by decide), if_pos rfl] at k0 k1
    have hb := ht.1 rfl
    obtain ⟨l0, el, el2, -⟩ := nat_of hb.1
    have hl0 : l0 < 10 := by omega
    have t0 : zR z 14 15 0 = nI l0 := (h.2.2.2.2.2.2 0 (by decide)).trans el
    have t1 : zR z 14 15 1 = tl 1 := h.2.2.2.2.2.2 1 (by decide)
    have t2 : zR z 14 15 2 = tl 2 := h.2.2.2.2.2.2 2 (by decide)
    rw [t1]
    refine ge_in (-90) 90 rfl rfl (fun c1 => no1 ?_) (fun c1 => no0 (k0 (if_neg (fun q => c1 q.1)) z h.1))
    rw [t2]
    refine ge_in (-90) 90 rfl rfl (fun c2 => on1 ?_) (fun c2 => on0 (k0 (if_neg (fun q => c2 q.2)) z h.1))
    have hk := k1 _ (if_pos ⟨c1, c2⟩)
    rw [el, nI_clamp (show l0 < 2 ^ 31 by omega)] at hk
    rw [t0, t1, ix_e, nI_clamp (show 5 + 2 * l0 < 2 ^ 31 by omega)]
    refine ⟨vin (by omega) (by decide), fun z34 e34 => ?_⟩
    have h34 := h.w (5 + 2 * l0) (tl 1)
    rw [← e34] at h34
    have w0 : zR z34 14 15 0 = nI l0 := (h34.2.2.2.2.2.2 0 (by decide)).trans el
    have w2 : zR z34 14 15 2 = tl 2 := h34.2.2.2.2.2.2 2 (by decide)
    rw [w0, w2, ix_n, nI_clamp (show 6 + 2 * l0 < 2 ^ 31 by omega)]
    refine ⟨vin (by omega) (by decide), fun z35 e35 => ?_⟩
    have h35 := h34.w (6 + 2 * l0) (tl 2)
    rw [← e35] at h35
    exact hk z35 h35
  · have q : c = 98 := hl.elim (fun h => absurd h q1) (fun h => h.elim id (fun h => h.elim (fun h => absurd h q2) (fun h => h.elim (fun h => absurd h q3) (fun h => absurd h q4))))
    subst q
    rw [if_neg (by decide), if_neg (by decide), if_neg (by decide), if_neg (by decide)] at k0 k1
    have em : zR z 14 2 4 = m2 4 := by rw [h.2.1]
    rw [em]
    unfold V_X12_comes_309
    refine ⟨fun r => ⟨5, m_312a (k0 (if_neg (fun q => q.1 r)) z h.1) 4 0 rfl⟩, fun r => ⟨5, m_312b (tl := tl) (fun j hj => h.2.2.2.2.2.2 j hj) (fun al t4 et4 => ?_) (fun al => k0 (if_neg (fun q => al (fun j hj => ?_))) z h.1) 4 0 rfl (fun j hj => absurd hj (Nat.not_lt_zero j))⟩⟩
    · have hn6 : n4 < 6 := Nat.lt_of_not_le (fun s => r (by rw [e4]; exact nI_le (a := 6) s (by omega)))
      have hk := k1 _ (if_pos ⟨r, al 0 (by decide), al 1 (by decide), al 2 (by decide), al 3 (by decide)⟩)
      have ec : (m2 4).toNatClampNeg = n4 := by rw [e4, nI_clamp (by omega)]
      rw [ec] at hk
      rw [em, e4, ix_b] at et4
      rw [et4]
      exact m_373 hn6 h e4 hk
    · rcases (show j = 0 ∨ j = 1 ∨ j = 2 ∨ j = 3 by omega) with rfl | rfl | rfl | rfl
      · exact q.2.1
      · exact q.2.2.1
      · exact q.2.2.2.1
      · exact q.2.2.2.2
