/-! PURE, part 25: load, bestLoad -/
abbrev eF (z : ZS) (d i : Nat) : Nat := (eL z d i).toNatClampNeg
/-- where the one at place i leaves -/
def xG (z : ZS) (x gap : Int32) (i : Nat) : Int32 := hB (x + nI i * gap * zI z 1 3)
theorem hB_int (v : Int32) : (hB v).toInt = if v.toInt < -30000 then -30000 else if 30000 < v.toInt then 30000 else v.toInt := by
  by_cases h1 : v.toInt < -30000
  · rw [hB_lo h1, if_pos h1, i_m3]
  · by_cases h2 : 30000 < v.toInt
    · rw [hB_hi h2, if_neg h1, if_pos h2, i_p3]
    · rw [hB_in (by omega), if_neg h1, if_neg h2]
theorem xG_0 {z : ZS} {x gap : Int32} (hx : EG x) : xG z x gap 0 = x := by
  unfold xG
  rw [nI_0, Int32.zero_mul, Int32.zero_mul, Int32.add_zero]
  exact hB_in hx
theorem xG_s {z : ZS} (hR : Rel z) {x gap : Int32} (hx : EG x) (hg : 1 ≤ gap.toInt ∧ gap.toInt ≤ 20) {i : Nat} (hi : i < 5) : hB (xG z x gap i + zI z 1 3 * gap) = xG z x gap (i + 1) := by
  obtain ⟨G, e1, e2, -⟩ := nat_of (p := gap) (by omega)
  have hp := hR.plane
  obtain ⟨Q, e3, e4, -⟩ := nat_of hp.1
  unfold EG at hx
  have hG : G ≤ 20 := by omega
  have hQ : Q ≤ 900 := by omega
  have hS : G * Q ≤ 18000 := Nat.le_trans (Nat.mul_le_mul hG hQ) (by decide)
  have m1 : ∀ j : Nat, nI j * gap * zI z 1 3 = nI (j * (G * Q)) := fun j => by
    rw [e1, e3, show nI j * nI G = nI (j * G) from (Int32.ofNat_mul j G).symm, show nI (j * G) * nI Q = nI (j * G * Q) from (Int32.ofNat_mul _ _).symm, Nat.mul_assoc]
  have m2 : zI z 1 3 * gap = nI (G * Q) := by
    rw [e1, e3, show nI Q * nI G = nI (Q * G) from (Int32.ofNat_mul _ _).symm, Nat.mul_comm]
  have hT : i * (G * Q) ≤ 5 * 18000 := Nat.mul_le_mul (by omega) hS
  have hs : (i + 1) * (G * Q) = i * (G * Q) + G * Q := Nat.succ_mul i (G * Q)
  apply Int32.toInt_inj.mp
  unfold xG
  rw [m1, m1, m2, hs]
  generalize i * (G * Q) = T at hT
  generalize G * Q = S at hS
  have a1 : (x + nI T).toInt = x.toInt + T := by
    rw [Int32.toInt_add, nI_toInt (by omega), Int.bmod_def]
    split <;> omega
  have a2 : (x + nI (T + S)).toInt = x.toInt + T + S := by
    rw [Int32.toInt_add, nI_toInt (by omega), Int.bmod_def]
    split <;> omega
  have a3 : (hB (x + nI T) + nI S).toInt = (hB (x + nI T)).toInt + S := by
    have := hB_bd (x + nI T)
    rw [Int32.toInt_add, nI_toInt (by omega), Int.bmod_def]
    split <;> omega
  rw [hB_int, a3, hB_int, a1, hB_int, a2]
  split <;> split <;> split <;> (try split) <;> (try split) <;> omega
noncomputable def ldT (z : ZS) (d : Nat) (x y gap : Int32) (i : Nat) : FS := LA z (kO z (eF z d i)) (fO z (eF z d i)) (oO z (eF z d i)) (xG z x gap i) y 1
noncomputable def ldS (z : ZS) (d : Nat) (x y gap n : Int32) (i : Nat) (a : Int32) : Int32 := if n < offT (ldT z d x y gap i) then a else if barV z (ldT z d x y gap i).1 (ldT z d x y gap i).2.1 = 0 then a + 1 else a
noncomputable def ldN (z : ZS) (d : Nat) (x y gap n : Int32) (m : Nat) : Int32 := fo (ldS z d x y gap n) m 0 0
theorem eF_of {z : ZS} {d i f a : Nat} (g : FO z (eL z d i) f a) : eF z d i = f := by
  unfold eF
  rw [g.1, nI_clamp (by have := g.2.1; omega)]
theorem xG_kp {z z1 : ZS} (h : Kp z z1) (x gap : Int32) (i : Nat) : xG z1 x gap i = xG z x gap i := by
  unfold xG
  rw [(g_kp h).2.1]
theorem ldT_kp {z z1 : ZS} (h : Kp z z1) (d : Nat) (x y gap : Int32) (i : Nat) : ldT z1 d x y gap i = ldT z d x y gap i := by
  unfold ldT
  rw [show eF z1 d i = eF z d i by unfold eF; rw [eL_kp h], LO_kp h, xG_kp h]
theorem ldS_kp {z z1 : ZS} (h : Kp z z1) (d : Nat) (x y gap n : Int32) : ldS z1 d x y gap n = ldS z d x y gap n := by
  funext i a
  unfold ldS
  rw [ldT_kp h, barV_kp h]
theorem ldN_kp {z z1 : ZS} (h : Kp z z1) (d : Nat) (x y gap n : Int32) (m : Nat) : ldN z1 d x y gap n m = ldN z d x y gap n m := by
  unfold ldN
  rw [ldS_kp h]
theorem c_load_lp {z0 : ZS} {d m : Nat} {x y gap n : Int32} (hd : d < 8) (hR : Rel z0) (g : LD z0 d m) (hy : EG y) {post : Int32 → ZS → Prop} : ∀ (r i : Nat) (z : ZS) (c : Int32), r + i = m → OF 4 z0 z → (∀ z1, OF 4 z0 z1 → post (fo (ldS z0 d x y gap n) r i c) z1) → V_X11_loadWithin_6 (6 + d) post (r + 1) z x y gap n c (nI i) := by
  intro r
  induction r with
  | zero =>
    intro i z c e o kk
    unfold V_X11_loadWithin_6
    have gz := g.kp o.k4 hd
    have hm := g.2.1
    rw [gz.1.2.2.2.2.2.2.1]
    exact ⟨fun _ => kk z o, fun q => absurd (nI_le (by omega) (by omega)) q⟩
  | succ r ih =>
    intro i z c e o kk
    unfold V_X11_loadWithin_6 V_X11_loadWithin_95
    have gz := g.kp o.k4 hd
    have hm := g.2.1
    rw [gz.1.2.2.2.2.2.2.1]
    obtain ⟨f, a, fo0⟩ := g.2.2 i (by omega)
    have foz := fo0.kp o.k4
    have hRz := o.rel hR
    refine ⟨fun q => absurd q (nI_ge (by omega) (by omega)), fun _ => gz.1.v (by omega) ?_⟩
    rw [eL_kp o.k4]
    refine c_fO foz ⟨fun q => (by cases q), fun a' q => ?_⟩
    cases q
    refine c_held (c_offFrom (x := xG z x gap i) hRz foz.2.2.2.2.2 (hB_bd _) hy (fun z1 o1 k1 => ?_))
    have et : LA z (zR z 14 0 (25 + 3 * f)) (zR z 14 0 (26 + 3 * f)) (zR z 14 0 (27 + 3 * f)) (xG z x gap i) y 1 = ldT z0 d x y gap i := by
      rw [← ldT_kp o.k4]
      unfold ldT
      rw [show eF z d i = f by unfold eF; rw [eL_kp o.k4]; exact eF_of fo0]
    rw [et] at k1 ⊢
    rw [fo_s] at kk
    have o01 := o.tr o1
    have keep : ldS z0 d x y gap n i c = c → ∀ t7 : Int32, t7 = nI i + 1 → V_X11_loadWithin_6 (6 + d) post (r + 1) z1 x y gap n c t7 := fun e3 t7 e7 => by
      rw [e3] at kk
      rw [e7, nI_1]
      exact ih (i + 1) z1 c (by omega) o01 kk
    refine ⟨fun q => keep (if_pos q), fun q => ?_⟩
    rw [k1.at.1, k1.at.2.1]
    refine c_bars (o1.rel hRz) ?_
    rw [barV_kp o01.k4]
    refine ⟨fun q2 => keep ((if_neg q).trans (if_neg q2)), fun q2 t16 e16 t7 e7 => ?_⟩
    have e3 : ldS z0 d x y gap n i c = c + 1 := (if_neg q).trans (if_pos q2)
    rw [e3] at kk
    rw [e7, e16, nI_1]
    exact ih (i + 1) z1 (c + 1) (by omega) o01 kk
theorem c_loadW {z0 z : ZS} {d m : Nat} {x y gap n : Int32} (hd : d < 8) (hR : Rel z0) (g : LD z0 d m) (hy : EG y) (o : OF 4 z0 z) {post : Int32 → ZS → Prop} (kk : ∀ z1, OF 4 z0 z1 → post (ldN z0 d x y gap n m) z1) : V_X11_loadWithin z (6 + d) x y gap n post := ⟨m + 1, c_load_lp hd hR g hy m 0 z 0 (by omega) o kk⟩
theorem m_load42 {z0 : ZS} {d m : Nat} {x y gap n v6 : Int32} (hd : d < 8) (hR : Rel z0) (g : LD z0 d m) (hy : EG y) {post : Int32 → ZS → Prop} {rr : ZS → Int32 → Int32 → Int32 → Int32 → Int32 → Int32 → Int32 → Prop} {i : Nat} (hi : i < m) {z : ZS} (o : OM z0 z) {c : Int32} (e6 : v6 = xG z0 x gap i) (kk : ∀ z1, OM z0 z1 → rr z1 (nI d) y gap n (xG z0 x gap i) (ldS z0 d x y gap n i c) (nI (i + 1))) : V_X12_loadOf_42 post rr z (nI d) y gap n v6 c (nI i) := by
  unfold V_X12_loadOf_42 V_X12_loadOf_92 V_X12_loadOf_93
  have gz := g.kp o.kp hd
  have hm := g.2.1
  obtain ⟨f, a, fo0⟩ := g.2.2 i hi
  have foz := fo0.kp o.kp
  have hRz := hR.kp o.kp
  rw [ix_s, nI_clamp (show 100 * d + i < 2 ^ 31 by omega), show zR z 14 6 (100 * d + i) = eL z0 d i from eL_kp o.kp d i]
  subst e6
  refine ⟨vin (by omega) (by decide), m_falls (x := xG z0 x gap i) hRz foz (hB_bd _) hy (fun z1 u o1 k1 => m_off k1 ?_)⟩
  have et : LA z (kO z f) (fO z f) (oO z f) (xG z0 x gap i) y 1 = ldT z0 d x y gap i := by
    rw [LO_kp o.kp]
    unfold ldT
    rw [eF_of fo0]
  rw [et] at k1 ⊢
  have o01 := o.tr o1
  have fin2 : ∀ s1 : Int32, ldS z0 d x y gap n i c = c + s1 → (∀ t8 : Int32, t8 = c + s1 → (∀ t9 : Int32, t9 = nI i + (1 : Int32) → rr z1 (nI d) y gap n (xG z0 x gap i) t8 t9)) := fun s1 e3 t8 e8 t9 e9 => by
    rw [e8, e9, nI_1, ← e3]
    exact kk z1 o01
  refine ⟨fun q => fin2 0 ?_, fun q => ?_⟩
  · rw [Int32.add_zero]; exact if_pos q
  · rw [k1.at.1, k1.at.2.1]
    refine m_bars (hRz.kp o1.kp) ?_
    rw [barV_kp o01.kp]
    refine ⟨fun q2 => fin2 0 ?_, fun q2 => fin2 1 ?_⟩
    · rw [Int32.add_zero]; exact (if_neg q).trans (if_neg q2)
    · exact (if_neg q).trans (if_pos q2)
theorem m_load_lp {z0 : ZS} {d m : Nat} {x y gap n : Int32} (hd : d < 8) (hR : Rel z0) (g : LD z0 d m) (hx : EG x) (hy : EG y) (hg : 1 ≤ gap.toInt ∧ gap.toInt ≤ 20) {post : Int32 → ZS → Prop} : ∀ (r i : Nat) (z : ZS) (c : Int32), r + i = m → OM z0 z → (∀ z1, OM z0 z1 → post (fo (ldS z0 d x y gap n) r i c) z1) → V_X12_loadOf_9 post (r + 1) z (nI d) y gap n (xG z0 x gap (i - 1)) c (nI i) := by
  intro r
  induction r with
  | zero =>
    intro i z c e o kk
    unfold V_X12_loadOf_9
    have gz := g.kp o.kp hd
    have hm := g.2.1
    rw [cl8 hd, gz.1.2.2.2.2.2.2.2.1]
    exact ⟨vin hd (by decide), fun _ => kk z o, fun q => absurd (nI_le (by omega) (by omega)) q⟩
  | succ r ih =>
    intro i z c e o kk
    unfold V_X12_loadOf_9
    have gz := g.kp o.kp hd
    have hm := g.2.1
    rw [cl8 hd, gz.1.2.2.2.2.2.2.2.1]
    rw [fo_s] at kk
    have next : ∀ z1, OM z0 z1 → V_X12_loadOf_9 post (r + 1) z1 (nI d) y gap n (xG z0 x gap i) (ldS z0 d x y gap n i c) (nI (i + 1)) := fun z1 o1 => ih (i + 1) z1 _ (by omega) o1 kk
    refine ⟨vin hd (by decide), fun q => absurd q (nI_ge (by omega) (by omega)), fun _ => ⟨fun q => ?_, fun q => ?_⟩⟩
    · have hi : i = 0 := by
        rw [Int32.le_iff_toInt_le, nI_toInt (by omega), i_0] at q
        omega
      subst hi
      exact m_load42 hd hR g hy (by omega) o rfl next
    · have hi : 0 < i := by
        rw [Int32.le_iff_toInt_le, nI_toInt (by omega), i_0] at q
        omega
      refine m_held (m_load42 hd hR g hy (by omega) o ?_ next)
      have ep : zR z 14 0 1 = zI z0 1 3 := by rw [o.2.1]; exact hR.1.1.2.1
      rw [ep, xG_s hR hx hg (by omega)]
      congr 1
      omega
theorem m_loadO {z0 z : ZS} {d m : Nat} {x y gap n : Int32} (hd : d < 8) (hR : Rel z0) (g : LD z0 d m) (hx : EG x) (hy : EG y) (hg : 1 ≤ gap.toInt ∧ gap.toInt ≤ 20) (o : OM z0 z) {post : Int32 → ZS → Prop} (kk : ∀ z1, OM z0 z1 → post (ldN z0 d x y gap n m) z1) : V_X12_loadOf z (nI d) x y gap n post := by
  have h := m_load_lp hd hR g hx hy hg (n := n) (post := post) m 0 z 0 (by omega) o kk
  rw [show 0 - 1 = 0 from rfl, xG_0 hx] at h
  exact ⟨m + 1, h⟩
theorem sk_12 : SK_12 Rel := by
  intro z p1 p2 p3 p4 p5 hR
  unfold V_X11_load
  rcases scase p1 with sb | ⟨d, hd, rfl⟩
  · refine c_sB sb ⟨fun _ => ?_, fun a q => by cases q⟩
    unfold V_X12_load
    exact m_sB sb (no0 ⟨rfl, hR⟩)
  refine c_sO hd ⟨fun q => (by cases q), fun a q => ?_⟩
  cases q
  refine ⟨isS_of hd, ?_⟩
  have mm : ∀ (z1 : ZS) (post : Int32 → ZS → Prop), (¬ (EG p2 ∧ EG p3 ∧ (1 ≤ p4.toInt ∧ p4.toInt ≤ 20) ∧ 0 ≤ p5.toInt ∧ p5.toInt ≤ 60000) → post (-1) z1) → (EG p2 → EG p3 → (1 ≤ p4.toInt ∧ p4.toInt ≤ 20) → (0 ≤ p5.toInt ∧ p5.toInt ≤ 60000) → V_X12_wrongLoad z1 (nI d) (fun r17 z16 => ((r17 = 0 → V_X12_loadOf z16 (nI d) p2 p3 p4 p5 (fun r20 z19 => post r20 z19)) ∧ (¬ r17 = 0 → post r17 z16)))) → V_X12_load z1 (nI d) p2 p3 p4 p5 post := fun z1 post h0 h1 => by
    unfold V_X12_load
    exact m_sO hd (no1 (ge_edge (fun c1 => no1 (ge_edge (fun c2 => no1 (ge_in 1 20 rfl rfl (fun c3 => no1 (ge_in 0 60000 rfl rfl (fun c4 => on1 (h1 c1 c2 c3 c4)) (fun c => on0 (h0 (fun q => c q.2.2.2))))) (fun c => no0 (h0 (fun q => c q.2.2.1))))) (fun c => no0 (h0 (fun q => c q.2.1))))) (fun c => no0 (h0 (fun q => c q.1)))))
  have bad : ¬ (EG p2 ∧ EG p3 ∧ (1 ≤ p4.toInt ∧ p4.toInt ≤ 20) ∧ 0 ≤ p5.toInt ∧ p5.toInt ≤ 60000) → V_X12_load z (nI d) p2 p3 p4 p5 (fun r2 z2 => r2 = -1 ∧ Rel z2) := fun q => mm z _ (fun _ => ⟨rfl, hR⟩) (fun c1 c2 c3 c4 => absurd ⟨c1, c2, c3, c4⟩ q)
  refine ge_place (fun c1 c2 => no1 (ge_gap (fun c3 => no1 (ge_from 0 60000 rfl rfl (fun c4 => on1 ?_) (fun c => on0 (bad (fun q => c q.2.2.2))))) (fun c => no0 (bad (fun q => c q.2.2.1))))) (fun c => no0 (bad (fun q => c ⟨q.1, q.2.1⟩)))
  rcases lcase hR hd with ⟨r, r0, hc, hm⟩ | ⟨m, g, hc, -⟩
  · exact hc _ ⟨fun q => absurd q r0, fun _ => mm z _ (fun q => absurd ⟨c1, c2, c3, c4⟩ q) (fun _ _ _ _ => hm _ ⟨fun q => absurd q r0, fun _ => ⟨rfl, hR⟩⟩)⟩
  · refine hc _ ⟨fun _ => c_loadW hd hR g c2 (OF.rf 4 z) (fun z1 o1 => ?_), fun q => absurd rfl q⟩
    have hR1 := o1.rel hR
    have g1 := g.kp o1.k4 hd
    refine mm z1 _ (fun q => absurd ⟨c1, c2, c3, c4⟩ q) (fun _ _ _ _ => ?_)
    refine g1.m hR1 hd ⟨fun _ => m_loadO hd hR1 g1 c1 c2 c3 (OM.rf z1) (fun z2 o2 => ⟨?_, hR1.kp o2.kp⟩), fun q => absurd rfl q⟩
    rw [ldN_kp o1.k4]
-- bestLoad
theorem ldN_bd {z : ZS} {d : Nat} {x y gap n : Int32} : ∀ (k i : Nat) (c : Int32), k + i ≤ 5 → (0 ≤ c.toInt ∧ c.toInt ≤ i) → 0 ≤ (fo (ldS z d x y gap n) k i c).toInt ∧ (fo (ldS z d x y gap n) k i c).toInt ≤ k + i := by
  intro k
  induction k with
  | zero => intro i c h hc; show 0 ≤ c.toInt ∧ c.toInt ≤ _; omega
  | succ k ih =>
    intro i c h hc
    rw [fo_s]
    have e1 : (c + 1).toInt = c.toInt + 1 := s_1 (by omega)
    have hs : 0 ≤ (ldS z d x y gap n i c).toInt ∧ (ldS z d x y gap n i c).toInt ≤ ((i + 1 : Nat) : Int) := by
      unfold ldS
      split
      · omega
      · split <;> omega
    have := ih (i + 1) _ (by omega) hs
    omega
def blC (v : Nat → Nat → Int32) (sz : Int32) (g j : Nat) (a : T3) : T3 := if sz ≤ a.1 then a else if v g j ≤ a.1 then a else (v g j, ex j, nI (g + 1))
def blM (v : Nat → Nat → Int32) (g j : Nat) (a : T3) : T3 := if a.2.2 < v g j then (ex j, nI (g + 1), v g j) else a
def blR (sz : Int32) (a b : T3) : Prop := (a = (-1, b.1, b.2.1) ∧ b.2.2 = -4) ∨ (a = (b.2.2, b.1, b.2.1) ∧ 0 ≤ b.2.2.toInt ∧ b.2.2.toInt ≤ sz.toInt)
def blE (sz : Int32) (a b : T3) : Prop := a = (b.2.2, b.1, b.2.1) ∧ 0 ≤ b.2.2.toInt ∧ b.2.2.toInt ≤ sz.toInt
theorem bl_st {v : Nat → Nat → Int32} {sz : Int32} (hs : 1 ≤ sz.toInt ∧ sz.toInt ≤ 5) {g j : Nat} (ho : 0 ≤ (v g j).toInt ∧ (v g j).toInt ≤ sz.toInt) {a b : T3} (h : blR sz a b) : blE sz (blC v sz g j a) (blM v g j b) := by
  unfold blC blM
  rcases h with ⟨e1, e2⟩ | ⟨e1, e2, e3⟩
  · have n1 : ¬ sz ≤ a.1 := fun q => by rw [e1, Int32.le_iff_toInt_le, show (-1 : Int32).toInt = -1 by decide] at q; omega
    have n2 : ¬ v g j ≤ a.1 := fun q => by rw [e1, Int32.le_iff_toInt_le, show (-1 : Int32).toInt = -1 by decide] at q; omega
    have n3 : b.2.2 < v g j := by rw [e2, Int32.lt_iff_toInt_lt, show (-4 : Int32).toInt = -4 by decide]; omega
    rw [if_neg n1, if_neg n2, if_pos n3]
    exact ⟨rfl, ho⟩
  · have ea : a.1 = b.2.2 := by rw [e1]
    by_cases c0 : sz ≤ b.2.2
    · have n3 : ¬ b.2.2 < v g j := fun q => by rw [Int32.lt_iff_toInt_lt] at q; rw [Int32.le_iff_toInt_le] at c0; omega
      rw [if_pos (by rw [ea]; exact c0), if_neg n3]
      exact ⟨e1, e2, e3⟩
    · rw [if_neg (by rw [ea]; exact c0)]
      by_cases c : v g j ≤ b.2.2
      · have n3 : ¬ b.2.2 < v g j := fun q => by rw [Int32.lt_iff_toInt_lt] at q; rw [Int32.le_iff_toInt_le] at c; omega
        rw [if_pos (by rw [ea]; exact c), if_neg n3]
        exact ⟨e1, e2, e3⟩
      · have n3 : b.2.2 < v g j := by rw [Int32.le_iff_toInt_le] at c; rw [Int32.lt_iff_toInt_lt]; omega
        rw [if_neg (by rw [ea]; exact c), if_pos n3]
        exact ⟨rfl, ho⟩
theorem bl_both {v : Nat → Nat → Int32} {sz : Int32} (hs : 1 ≤ sz.toInt ∧ sz.toInt ≤ 5) (ho : ∀ g j, g < 10 → j < 21 → 0 ≤ (v g j).toInt ∧ (v g j).toInt ≤ sz.toInt) : blE sz (fo (fun g a => fo (blC v sz g) 21 0 a) 10 0 (-1, 0, 0)) (fo (fun g a => fo (blM v g) 21 0 a) 10 0 (0, 0, -4)) :=
  fo_rel (N := 10) (blR sz) (blE sz) (fun _ _ h => Or.inr h) (fun i a b hi h => fo_rel (N := 21) (blR sz) (blE sz) (fun _ _ h => Or.inr h) (fun j a b hj h => bl_st hs (ho i j hi hj) h) 20 0 a b (by omega) h) 9 0 _ _ (by omega) (Or.inl ⟨rfl, rfl⟩)
theorem fo_stuck {α : Type} {g : Nat → α → α} {c : α} (h : ∀ i, g i c = c) : ∀ k i, fo g k i c = c := by
  intro k
  induction k with
  | zero => intro i; rfl
  | succ k ih => intro i; rw [fo_s, h]; exact ih _
noncomputable def blV (z : ZS) (d : Nat) (y n : Int32) (m g j : Nat) : Int32 := ldN z d (ex j) y (nI (g + 1)) n m
theorem c_bl96 {z0 : ZS} {d m : Nat} {y n w : Int32} (hd : d < 8) (hR : Rel z0) (l : LD z0 d m) (hy : EG y) {post : Int32 → ZS → Prop} {rr : ZS → Int32 → Int32 → Int32 → Nat → Int32 → Int32 → Int32 → Int32 → Prop} {g : Nat} (hg : g < 10) : ∀ (r j : Nat) (z : ZS) (c : T3), r + j = 21 → OF 4 z0 z → (∀ z1, OF 4 z0 z1 → rr z1 y n w (6 + d) (fo (blC (blV z0 d y n m) (nI m) g) r j c).1 (fo (blC (blV z0 d y n m) (nI m) g) r j c).2.1 (fo (blC (blV z0 d y n m) (nI m) g) r j c).2.2 (nI (g + 1 + 1))) → V_X11_bestLoad_96 post rr (r + 1) z y n w (6 + d) c.1 c.2.1 c.2.2 (nI (g + 1)) (ex j) := by
  intro r
  induction r with
  | zero =>
    intro j z c e o kk
    unfold V_X11_bestLoad_96 V_X11_bestLoad_156
    have hj : j = 21 := by omega
    subst hj
    refine ⟨fun _ t11 e11 => ?_, fun q => absurd ex_end q⟩
    rw [e11, nI_1]
    exact kk z o
  | succ r ih =>
    intro j z c e o kk
    unfold V_X11_bestLoad_96 V_X11_bestLoad_156 V_X11_bestLoad_147
    have hj : j < 21 := by omega
    have lz := l.kp o.k4 hd
    rw [lz.1.2.2.2.2.2.2.1]
    refine ⟨fun q => absurd q (ex_all j hj).1, fun _ => ⟨fun q t21 e21 => ?_, fun q => c_loadW hd hR l hy o (fun z1 o1 => ⟨fun q2 t26 e26 => ?_, fun q2 t26 e26 => ?_⟩)⟩⟩
    · rw [fo_stuck (g := blC (blV z0 d y n m) (nI m) g) (c := c) (fun i => if_pos q)] at kk
      rw [e21, nI_1]
      exact kk z o
    · rw [fo_s] at kk
      have e3 : blC (blV z0 d y n m) (nI m) g j c = c := (if_neg q).trans (if_pos q2)
      rw [e3] at kk
      rw [e26, (ex_all j hj).2.1]
      exact ih (j + 1) z1 c (by omega) o1 kk
    · rw [fo_s] at kk
      have e3 : blC (blV z0 d y n m) (nI m) g j c = (blV z0 d y n m g j, ex j, nI (g + 1)) := (if_neg q).trans (if_neg q2)
      rw [e3] at kk
      rw [e26, (ex_all j hj).2.1]
      exact ih (j + 1) z1 (blV z0 d y n m g j, ex j, nI (g + 1)) (by omega) o1 kk
theorem c_bl74 {z0 : ZS} {d m : Nat} {y n w : Int32} (hd : d < 8) (hR : Rel z0) (l : LD z0 d m) (hy : EG y) {post : Int32 → ZS → Prop} : ∀ (r g : Nat) (z : ZS) (c : T3), r + g = 10 → OF 4 z0 z → (∀ z1, OF 4 z0 z1 → V_X11_bestLoad_162 post z1 w (fo (fun g a => fo (blC (blV z0 d y n m) (nI m) g) 21 0 a) r g c).1 (fo (fun g a => fo (blC (blV z0 d y n m) (nI m) g) 21 0 a) r g c).2.1 (fo (fun g a => fo (blC (blV z0 d y n m) (nI m) g) 21 0 a) r g c).2.2) → V_X11_bestLoad_74 post (r + 1) z y n w (6 + d) c.1 c.2.1 c.2.2 (nI (g + 1)) := by
  intro r
  induction r with
  | zero =>
    intro g z c e o kk
    unfold V_X11_bestLoad_74
    have hg : g = 10 := by omega
    subst hg
    exact ⟨fun _ => kk z o, fun q => absurd (by decide : (10 : Int32) < nI (10 + 1)) q⟩
  | succ r ih =>
    intro g z c e o kk
    unfold V_X11_bestLoad_74
    have hg : g < 10 := by omega
    have lz := l.kp o.k4 hd
    rw [lz.1.2.2.2.2.2.2.1]
    have hg8 : ¬ (10 : Int32) < nI (g + 1) := fun q => by
      rw [Int32.lt_iff_toInt_lt, nI_toInt (by omega), show (10 : Int32).toInt = 10 by decide] at q
      omega
    refine ⟨fun q => absurd q hg8, fun _ => ⟨fun q => ?_, fun q => ?_⟩⟩
    · have h1 : ∀ i j, blC (blV z0 d y n m) (nI m) i j c = c := fun i j => if_pos q
      have h2 : ∀ i, fo (blC (blV z0 d y n m) (nI m) i) 21 0 c = c := fun i => fo_stuck (g := blC (blV z0 d y n m) (nI m) i) (c := c) (h1 i) 21 0
      have h3 := fo_stuck (g := fun g a => fo (blC (blV z0 d y n m) (nI m) g) 21 0 a) (c := c) h2 (r + 1) g
      rw [h3] at kk
      exact kk z o
    · have hx := c_bl96 hd hR l hy (post := post) (n := n) (w := w) (rr := V_X11_bestLoad_74 post (r + 1)) hg 21 0 z c rfl o (fun z1 o1 => ih (g + 1) z1 (fo (blC (blV z0 d y n m) (nI m) g) 21 0 c) (by omega) o1 kk)
      rw [ex_0] at hx
      exact ⟨21 + 1, hx⟩
theorem m_bl86 {z0 : ZS} {d m : Nat} {y n w : Int32} (hd : d < 8) (hR : Rel z0) (l : LD z0 d m) (hy : EG y) {post : Int32 → ZS → Prop} {rr : ZS → Int32 → Int32 → Int32 → Int32 → Int32 → Int32 → Int32 → Int32 → Prop} {g : Nat} (hg : g < 10) : ∀ (r j : Nat) (z : ZS) (c : T3), r + j = 21 → OM z0 z → (∀ z1, OM z0 z1 → rr z1 (nI d) y n w (fo (blM (blV z0 d y n m) g) r j c).1 (fo (blM (blV z0 d y n m) g) r j c).2.1 (fo (blM (blV z0 d y n m) g) r j c).2.2 (nI (g + 1 + 1))) → V_X12_bestLoad_86 post rr (r + 1) z (nI d) y n w c.1 c.2.1 c.2.2 (nI (g + 1)) (ex j) := by
  intro r
  induction r with
  | zero =>
    intro j z c e o kk
    unfold V_X12_bestLoad_86
    have hj : j = 21 := by omega
    subst hj
    refine ⟨fun _ t11 e11 => ?_, fun q => absurd ex_end q⟩
    rw [e11, nI_1]
    exact kk z o
  | succ r ih =>
    intro j z c e o kk
    unfold V_X12_bestLoad_86 V_X12_bestLoad_129
    have hj : j < 21 := by omega
    have gi : (nI (g + 1)).toInt = ((g + 1 : Nat) : Int) := nI_toInt (by omega)
    refine ⟨fun q => absurd q (ex_all j hj).1, fun _ => m_loadO hd hR l (ex_E hj) hy (by rw [gi]; omega) o (fun z1 o1 => ⟨fun q2 t26 e26 => ?_, fun q2 t26 e26 => ?_⟩)⟩
    · rw [fo_s] at kk
      have e3 : blM (blV z0 d y n m) g j c = (ex j, nI (g + 1), blV z0 d y n m g j) := if_pos q2
      rw [e3] at kk
      rw [e26, (ex_all j hj).2.1]
      exact ih (j + 1) z1 (ex j, nI (g + 1), blV z0 d y n m g j) (by omega) o1 kk
    · rw [fo_s] at kk
      have e3 : blM (blV z0 d y n m) g j c = c := if_neg q2
      rw [e3] at kk
      rw [e26, (ex_all j hj).2.1]
      exact ih (j + 1) z1 c (by omega) o1 kk
theorem m_bl74 {z0 : ZS} {d m : Nat} {y n w : Int32} (hd : d < 8) (hR : Rel z0) (l : LD z0 d m) (hy : EG y) {post : Int32 → ZS → Prop} : ∀ (r g : Nat) (z : ZS) (c : T3), r + g = 10 → OM z0 z → (∀ z1, OM z0 z1 → ((¬ w = 0 → ((¬ w = (1 : Int32) → post (fo (fun g a => fo (blM (blV z0 d y n m) g) 21 0 a) r g c).2.2 z1) ∧ (w = (1 : Int32) → post (fo (fun g a => fo (blM (blV z0 d y n m) g) 21 0 a) r g c).2.1 z1))) ∧ (w = 0 → post (fo (fun g a => fo (blM (blV z0 d y n m) g) 21 0 a) r g c).1 z1))) → V_X12_bestLoad_74 post (r + 1) z (nI d) y n w c.1 c.2.1 c.2.2 (nI (g + 1)) := by
  intro r
  induction r with
  | zero =>
    intro g z c e o kk
    unfold V_X12_bestLoad_74
    have hg : g = 10 := by omega
    subst hg
    exact ⟨fun _ => kk z o, fun q => absurd (by decide : (10 : Int32) < nI (10 + 1)) q⟩
  | succ r ih =>
    intro g z c e o kk
    unfold V_X12_bestLoad_74
    have hg : g < 10 := by omega
    have hg8 : ¬ (10 : Int32) < nI (g + 1) := fun q => by
      rw [Int32.lt_iff_toInt_lt, nI_toInt (by omega), show (10 : Int32).toInt = 10 by decide] at q
      omega
    refine ⟨fun q => absurd q hg8, fun _ => ?_⟩
    have hx := m_bl86 hd hR l hy (post := post) (n := n) (w := w) (rr := V_X12_bestLoad_74 post (r + 1)) hg 21 0 z c rfl o (fun z1 o1 => ih (g + 1) z1 (fo (blM (blV z0 d y n m) g) 21 0 c) (by omega) o1 kk)
    rw [ex_0] at hx
    exact ⟨21 + 1, hx⟩
theorem blV_kp {z z1 : ZS} (h : Kp z z1) (d : Nat) (y n : Int32) (m : Nat) : blV z1 d y n m = blV z d y n m := by
  funext g j
  unfold blV
  rw [ldN_kp h]
theorem sk_13 : SK_13 Rel := by
  intro z p1 p2 p3 p4 hR
  unfold V_X11_bestLoad
  rcases scase p1 with sb | ⟨d, hd, rfl⟩
  · refine c_sB sb ⟨fun _ => ?_, fun a q => by cases q⟩
    unfold V_X12_bestLoad
    exact m_sB sb (no0 ⟨rfl, hR⟩)
  refine c_sO hd ⟨fun q => (by cases q), fun a q => ?_⟩
  cases q
  refine ⟨isS_of hd, ?_⟩
  have mm : ∀ (z1 : ZS) (post : Int32 → ZS → Prop), (¬ (EG p2 ∧ (0 ≤ p3.toInt ∧ p3.toInt ≤ 60000) ∧ 0 ≤ p4.toInt ∧ p4.toInt ≤ 2) → post (-1000000001) z1) → (EG p2 → (0 ≤ p3.toInt ∧ p3.toInt ≤ 60000) → (0 ≤ p4.toInt ∧ p4.toInt ≤ 2) → V_X12_wrongLoad z1 (nI d) (fun r14 z13 => ((r14 = 0 → (∃ n26 : Nat, V_X12_bestLoad_74 post n26 z13 (nI d) p2 p3 p4 (0 : Int32) (0 : Int32) (-4 : Int32) (1 : Int32))) ∧ (¬ r14 = 0 → post ((-1000000000 : Int32) + r14) z13)))) → V_X12_bestLoad z1 (nI d) p2 p3 p4 post := fun z1 post h0 h1 => by
    unfold V_X12_bestLoad
    exact m_sO hd (no1 (ge_edge (fun c1 => no1 (ge_in 0 60000 rfl rfl (fun c2 => no1 (ge_in 0 2 rfl rfl (fun c3 => on1 (h1 c1 c2 c3)) (fun c => on0 (h0 (fun q => c q.2.2))))) (fun c => no0 (h0 (fun q => c q.2.1))))) (fun c => no0 (h0 (fun q => c q.1)))))
  have bad : ¬ (EG p2 ∧ (0 ≤ p3.toInt ∧ p3.toInt ≤ 60000) ∧ 0 ≤ p4.toInt ∧ p4.toInt ≤ 2) → V_X12_bestLoad z (nI d) p2 p3 p4 (fun r2 z2 => r2 = -1000000001 ∧ Rel z2) := fun q => mm z _ (fun _ => ⟨rfl, hR⟩) (fun c1 c2 c3 => absurd ⟨c1, c2, c3⟩ q)
  refine ge_place (fun _ c1 => no1 (ge_from 0 60000 rfl rfl (fun c2 => no1 (ge_from 0 2 rfl rfl (fun c3 => on1 ?_) (fun c => on0 (bad (fun q => c q.2.2))))) (fun c => no0 (bad (fun q => c q.2.1))))) (fun c => no0 (bad (fun q => c ⟨EG_0, q.1⟩)))
  rcases lcase hR hd with ⟨r, r0, hc, hm⟩ | ⟨m, g, hc, -⟩
  · exact hc _ ⟨fun q => absurd q r0, fun _ => mm z _ (fun q => absurd ⟨c1, c2, c3⟩ q) (fun _ _ _ => hm _ ⟨fun q => absurd q r0, fun _ => ⟨rfl, hR⟩⟩)⟩
  · have hm := g.2.1
    have im : (nI m).toInt = m := nI_toInt (by omega)
    obtain ⟨A, hA⟩ : ∃ A, fo (fun g a => fo (blC (blV z d p2 p3 m) (nI m) g) 21 0 a) 10 0 (-1, 0, 0) = A := ⟨_, rfl⟩
    obtain ⟨B, hB⟩ : ∃ B, fo (fun g a => fo (blM (blV z d p2 p3 m) g) 21 0 a) 10 0 (0, 0, -4) = B := ⟨_, rfl⟩
    have both := bl_both (v := blV z d p2 p3 m) (sz := nI m) (by rw [im]; omega) (fun g j _ _ => by
      have h := ldN_bd (z := z) (d := d) (x := ex j) (y := p2) (gap := nI (g + 1)) (n := p3) m 0 0 (by omega) (by rw [i_0]; omega)
      rw [im]
      unfold blV ldN
      omega)
    rw [hA, hB] at both
    have q0 := both.1
    have hcl := c_bl74 hd hR g c1 (n := p3) (w := p4) (post := fun r z1 => V_X12_bestLoad z1 (nI d) p2 p3 p4 (fun r2 z2 => r2 = r ∧ Rel z2)) 10 0 z (-1, 0, 0) rfl (OF.rf 4 z) (by
      rw [hA]
      intro z1 o1
      have hR1 := o1.rel hR
      have g1 := g.kp o1.k4 hd
      have go : ∀ post : Int32 → ZS → Prop, (∀ z2, OM z1 z2 → ((¬ p4 = 0 → ((¬ p4 = (1 : Int32) → post B.2.2 z2) ∧ (p4 = (1 : Int32) → post B.2.1 z2))) ∧ (p4 = 0 → post B.1 z2))) → V_X12_bestLoad z1 (nI d) p2 p3 p4 post := fun post k => by
        refine mm z1 _ (fun q => absurd ⟨c1, c2, c3⟩ q) (fun _ _ _ => g1.m hR1 hd ⟨fun _ => ?_, fun q => absurd rfl q⟩)
        have hml := m_bl74 hd hR1 g1 c1 (n := p3) (w := p4) (post := post) 10 0 z1 (0, 0, -4) rfl (OM.rf z1) (by
          rw [blV_kp o1.k4, hB]
          exact k)
        exact ⟨10 + 1, hml⟩
      unfold V_X11_bestLoad_162
      rw [q0]
      exact ⟨fun w0 => ⟨fun w1 => go _ (fun z2 o2 => ⟨fun _ => ⟨fun _ => ⟨rfl, hR1.kp o2.kp⟩, fun q => absurd q w1⟩, fun q => absurd q w0⟩), fun w1 => go _ (fun z2 o2 => ⟨fun _ => ⟨fun q => absurd w1 q, fun _ => ⟨rfl, hR1.kp o2.kp⟩⟩, fun q => absurd q w0⟩)⟩, fun w0 => go _ (fun z2 o2 => ⟨fun q => absurd w0 q, fun _ => ⟨rfl, hR1.kp o2.kp⟩⟩)⟩)
    exact hc _ ⟨fun _ => ⟨10 + 1, hcl⟩, fun q => absurd rfl q⟩
