/-! PURE, part 31: the offs of an order, of both -/
noncomputable def orO (z : ZS) (d : Nat) (x y gap : Int32) (k t : Nat) : Int32 := offT (LA z (kO z (eF z d k)) (fO z (eF z d k)) (oO z (eF z d k)) (xG z x gap t) y 1)
theorem orO_kp {z z1 : ZS} (h : Kp z z1) (d : Nat) (x y gap : Int32) : orO z1 d x y gap = orO z d x y gap := by
  funext k t
  unfold orO
  rw [show eF z1 d k = eF z d k by unfold eF; rw [eL_kp h], LO_kp h, xG_kp h]
theorem c_tell38 {z0 : ZS} {d n i a f : Nat} {x y gap : Int32} (hn : n ≤ 5) (hi : i < n) (hR : Rel z0) (g : FO z0 (eL z0 d i) f a) (hy : EG y) {post : ZS → Prop} {rr : ZS → Int32 → Int32 → Int32 → Int32 → Int32 → Prop} : ∀ (r j : Nat) (z : ZS), r + j = n → Kp z0 z → (∀ k t, k < n → t < n → (k < i ∨ (k = i ∧ t < j)) → zR z 0 7 (5 * k + t) = orO z0 d x y gap k t) → (∀ z1, Kp z0 z1 → (∀ k t, k < n → t < n → k < i + 1 → zR z1 0 7 (5 * k + t) = orO z0 d x y gap k t) → rr z1 x y gap (nI n) (nI (i + 1))) → V_X11_tellOffs_38 (6 + d) post rr (r + 1) z x y gap (nI n) (nI i) (some a) (nI j) := by
  intro r
  induction r with
  | zero =>
    intro j z e o h kk
    unfold V_X11_tellOffs_38 V_X11_tellOffs_96
    refine ⟨fun _ t8 e8 => ?_, fun q => absurd (nI_le (by omega) (by omega)) q⟩
    rw [e8, nI_1]
    exact kk z o (fun k t hk ht hki => h k t hk ht (by omega))
  | succ r ih =>
    intro j z e o h kk
    unfold V_X11_tellOffs_38
    refine ⟨fun q => absurd q (nI_ge (by omega) (by omega)), fun _ => ⟨fun q => (by cases q), fun a' q => ?_⟩⟩
    cases q
    have gz := g.kp o
    refine c_held (c_offFrom (x := xG z x gap j) (hR.kp o) gz.2.2.2.2.2 (hB_bd _) hy (fun z1 o1 k1 => ?_))
    have et : offT (LA z (zR z 14 0 (25 + 3 * f)) (zR z 14 0 (26 + 3 * f)) (zR z 14 0 (27 + 3 * f)) (xG z x gap j) y 1) = orO z0 d x y gap i j := by
      rw [← orO_kp o]
      unfold orO
      rw [show eF z d i = f by unfold eF; rw [eL_kp o]; exact eF_of g]
    have ei : nI i * (5 : Int32) + nI j = nI (5 * i + j) := by
      rw [show nI i * (5 : Int32) = nI (i * 5) from (Int32.ofNat_mul i 5).symm, nI_add, Nat.mul_comm]
    rw [et, ei, nI_clamp (show 5 * i + j < 2 ^ 31 by omega)]
    refine ⟨vin (by omega) (by decide), fun z14 e14 t15 e15 => ?_⟩
    have k14 : Kp z0 z14 := by
      rw [e14]
      exact (o.tr o1.k4).R 0 7 _ _ (by unfold keepR; omega)
    rw [e15, nI_1]
    refine ih (j + 1) z14 (by omega) k14 (fun k t hk ht hki => ?_) kk
    rw [e14, zR_wR, o1.2.2.1]
    by_cases c : 5 * k + t = 5 * i + j
    · rw [if_pos c]
      have c1 : k = i := by omega
      have c2 : t = j := by omega
      rw [c1, c2]
    · rw [if_neg c]
      exact h k t hk ht (by omega)
theorem c_tell13 {z0 : ZS} {d n : Nat} {x y gap : Int32} (hd : d < 8) (hR : Rel z0) (l : LD z0 d n) (hy : EG y) {post : ZS → Prop} (kk : ∀ z1, Kp z0 z1 → OFS z1 n (orO z0 d x y gap) → post z1) : ∀ (r i : Nat) (z : ZS), r + i = n → Kp z0 z → (∀ k t, k < n → t < n → k < i → zR z 0 7 (5 * k + t) = orO z0 d x y gap k t) → V_X11_tellOffs_13 (6 + d) post (r + 1) z x y gap (nI n) (nI i) := by
  have hn := l.2.1
  intro r
  induction r with
  | zero =>
    intro i z e o h
    unfold V_X11_tellOffs_13
    exact ⟨fun _ => kk z o (fun k t hk ht => h k t hk ht (by omega)), fun q => absurd (nI_le (by omega) (by omega)) q⟩
  | succ r ih =>
    intro i z e o h
    unfold V_X11_tellOffs_13
    have lz := l.kp o hd
    obtain ⟨f, a, g⟩ := l.2.2 i (by omega)
    refine ⟨fun q => absurd q (nI_ge (by omega) (by omega)), fun _ => lz.1.v (by omega) ?_⟩
    rw [eL_kp o]
    refine c_fO (g.kp o) ⟨n + 1, c_tell38 (by omega) (by omega) hR g hy n 0 z (by omega) o (fun k t hk ht hki => h k t hk ht (by omega)) (fun z1 o1 h1 => ?_)⟩
    exact ih (i + 1) z1 (by omega) o1 h1
theorem m_or104 {z0 : ZS} {d n i : Nat} {x y gap w fr : Int32} (hd : d < 8) (hi : i < n) (hR : Rel z0) (l : LD z0 d n) (hy : EG y) (ef : fr = xG z0 x gap i) {post : Int32 → ZS → Prop} {rr : ZS → Int32 → Int32 → Int32 → Int32 → Int32 → Int32 → Prop} : ∀ (r j : Nat) (z : ZS), r + j = n → Kp z0 z → (∀ k t, k < n → t < n → (t < i ∨ (t = i ∧ k < j)) → zR z 14 30 (5 * k + t) = orO z0 d x y gap k t) → (∀ z1, Kp z0 z1 → (∀ k t, k < n → t < n → t < i + 1 → zR z1 14 30 (5 * k + t) = orO z0 d x y gap k t) → rr z1 (nI d) y gap w fr (nI (i + 1))) → V_X12_order_104 post rr (r + 1) z (nI d) y gap w fr (nI i) (nI j) := by
  have hn := l.2.1
  intro r
  induction r with
  | zero =>
    intro j z e o h kk
    unfold V_X12_order_104
    have lz := l.kp o hd
    rw [cl8 hd, lz.1.2.2.2.2.2.2.2.1]
    refine ⟨vin hd (by decide), fun _ t8 e8 => ?_, fun q => absurd (nI_le (by omega) (by omega)) q⟩
    rw [e8, nI_1]
    exact kk z o (fun k t hk ht hki => h k t hk ht (by omega))
  | succ r ih =>
    intro j z e o h kk
    unfold V_X12_order_104
    have lz := l.kp o hd
    obtain ⟨f, a, g⟩ := l.2.2 j (by omega)
    have e5 : (5 : Int32) * nI j + nI i = nI (5 * j + i) := by
      rw [show (5 : Int32) * nI j = nI (5 * j) from (Int32.ofNat_mul 5 j).symm, nI_add]
    rw [cl8 hd, lz.1.2.2.2.2.2.2.2.1, ix_s, nI_clamp (show 100 * d + j < 2 ^ 31 by omega), show zR z 14 6 (100 * d + j) = eL z0 d j from eL_kp o d j, e5, nI_clamp (show 5 * j + i < 2 ^ 31 by omega)]
    have efE : EG fr := by rw [ef]; exact hB_bd _
    refine ⟨vin hd (by decide), fun q => absurd q (nI_ge (by omega) (by omega)), fun _ => ⟨vin (by omega) (by decide), m_falls (hR.kp o) (g.kp o) efE hy (fun z1 u o1 k1 => m_off k1 ⟨vin (by omega) (by decide), fun z31 e31 t32 e32 => ?_⟩)⟩⟩
    have et : offT (LA z (kO z f) (fO z f) (oO z f) fr y 1) = orO z0 d x y gap j i := by
      rw [LO_kp o, ef]
      unfold orO
      rw [eF_of g]
    rw [et] at e31
    have k31 : Kp z0 z31 := by
      rw [e31]
      exact (o.tr o1.kp).R 14 30 _ _ (by unfold keepR; omega)
    rw [e32, nI_1]
    refine ih (j + 1) z31 (by omega) k31 (fun k t hk ht hki => ?_) kk
    rw [e31, zR_wR, o1.2.1]
    by_cases c : 5 * k + t = 5 * j + i
    · rw [if_pos c]
      have c1 : k = j := by omega
      have c2 : t = i := by omega
      rw [c1, c2]
    · rw [if_neg c]
      exact h k t hk ht (by omega)
theorem m_or68 {z0 : ZS} {d n : Nat} {x y gap w : Int32} (hd : d < 8) (hR : Rel z0) (l : LD z0 d n) (hx : EG x) (hy : EG y) (hg : 1 ≤ gap.toInt ∧ gap.toInt ≤ 20) {post : Int32 → ZS → Prop} (kk : ∀ z1, Kp z0 z1 → (∀ k t, k < n → t < n → zR z1 14 30 (5 * k + t) = orO z0 d x y gap k t) → (∀ z20 : ZS, z20 = wI z1 14 33 (-4 : Int32) → V_X12_lines 6 z20 (nI n) (0 : Int32) (0 : Int32) (0 : Int32) (fun z21 => ((¬ w = 0 → post (zI z21 14 33) z21) ∧ (w = 0 → post (zI z21 14 32) z21))))) : ∀ (r i : Nat) (z : ZS), r + i = n → Kp z0 z → (∀ k t, k < n → t < n → t < i → zR z 14 30 (5 * k + t) = orO z0 d x y gap k t) → V_X12_order_68 post (r + 1) z (nI d) y gap w (xG z0 x gap (i - 1)) (nI i) := by
  have hn := l.2.1
  intro r
  induction r with
  | zero =>
    intro i z e o h
    unfold V_X12_order_68
    have lz := l.kp o hd
    rw [cl8 hd, lz.1.2.2.2.2.2.2.2.1]
    refine ⟨vin hd (by decide), fun _ z20 e20 => ⟨vin hd (by decide), ?_⟩, fun q => absurd (nI_le (by omega) (by omega)) q⟩
    have es : zR z20 14 5 d = nI n := by rw [e20]; exact lz.1.2.2.2.2.2.2.2.1
    rw [es]
    exact kk z o (fun k t hk ht => h k t hk ht (by omega)) z20 e20
  | succ r ih =>
    intro i z e o h
    unfold V_X12_order_68
    have lz := l.kp o hd
    rw [cl8 hd, lz.1.2.2.2.2.2.2.2.1]
    have next : ∀ fr : Int32, fr = xG z0 x gap i → V_X12_order_101 post (V_X12_order_68 post (r + 1)) z (nI d) y gap w fr (nI i) := fun fr ef => by
      unfold V_X12_order_101
      refine ⟨n + 1, m_or104 hd (by omega) hR l hy ef n 0 z (by omega) o (fun k t hk ht hki => h k t hk ht (by omega)) (fun z1 o1 h1 => ?_)⟩
      rw [ef]
      exact ih (i + 1) z1 (by omega) o1 h1
    refine ⟨vin hd (by decide), fun q => absurd q (nI_ge (by omega) (by omega)), fun _ => ⟨fun q => ?_, fun q => ?_⟩⟩
    · have hi : i = 0 := by
        rw [Int32.le_iff_toInt_le, nI_toInt (by omega), i_0] at q
        omega
      subst hi
      exact next _ rfl
    · have hi : 0 < i := by
        rw [Int32.le_iff_toInt_le, nI_toInt (by omega), i_0] at q
        omega
      refine m_held (next _ ?_)
      have ep : zR z 14 0 1 = zI z0 1 3 := by rw [o.2.1 14 0 (by unfold keepR; omega)]; exact hR.1.1.2.1
      rw [ep, xG_s hR hx hg (by omega)]
      congr 1
      omega
