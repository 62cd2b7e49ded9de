/-! PURE, part 37: air: the reference reads a STATEMENT -/
/-- the reference reads at p; told so many numbers; its draft is m2 -/
def MR (z0 : ZS) (d n : Nat) (m2 : Nat → Int32) (z : ZS) (p cnt : Nat) (tl : Nat → Int32) : Prop := Kp z0 z ∧ zR z 14 2 = m2 ∧ zI z 14 11 = nI p ∧ zI z 14 12 = nI (100 * d) ∧ zI z 14 13 = nI n ∧ zI z 14 14 = nI cnt ∧ (∀ j, j < cnt → zR z 14 15 j = tl j)
theorem MR.p {z0 z : ZS} {d n p cnt : Nat} {m2 tl : Nat → Int32} (h : MR z0 d n m2 z p cnt tl) (q : Nat) : MR z0 d n m2 (wI z 14 11 (nI q)) q cnt tl := by
  obtain ⟨h1, h2, h3, h4, h5, h6, h7⟩ := h
  exact ⟨h1.I 14 11 _ (by unfold keepI; omega), h2, rfl, h4, h5, h6, h7⟩
theorem MR.c {z0 z : ZS} {d n p cnt : Nat} {m2 tl : Nat → Int32} (h : MR z0 d n m2 z p cnt tl) (t1 : Nat → Int32) : MR z0 d n m2 (wI z 14 14 (0 : Int32)) p 0 t1 := by
  obtain ⟨h1, h2, h3, h4, h5, h6, h7⟩ := h
  exact ⟨h1.I 14 14 _ (by unfold keepI; omega), h2, h3, h4, h5, rfl, fun j hj => absurd hj (Nat.not_lt_zero j)⟩
theorem m_here {z0 z : ZS} {d n p cnt : Nat} {m2 tl : Nat → Int32} (hd : d < 8) (hn : n ≤ 100) (hp : p ≤ n) (h : MR z0 d n m2 z p cnt tl) {post : Int32 → ZS → Prop} (k1 : p < n → post (tcZ z0 d n p) z) (k0 : ¬ p < n → post (-1000) z) : V_X12_here z post := by
  obtain ⟨h1, h2, h3, h4, h5, h6, h7⟩ := h
  unfold V_X12_here
  rw [h3, h4, h5, nI_add, nI_clamp (show 100 * d + p < 2 ^ 31 by omega)]
  refine ⟨fun q => k0 (fun c => ?_), fun q => ?_⟩
  · have := (nI_leI (by omega) (by omega)).mp q
    omega
  · have c : p < n := Nat.lt_of_not_le (fun r => q (nI_le r (by omega)))
    refine ⟨vin (by omega) (by decide), ?_⟩
    have h := k1 c
    unfold tcZ at h
    rw [if_pos c, ← eL_kp h1] at h
    exact h
theorem tc_out {z0 : ZS} {d n p : Nat} (h : ¬ p < n) : tcZ z0 d n p = -1 := if_neg h
theorem m_takes {z0 z : ZS} {d n p cnt : Nat} {m2 tl : Nat → Int32} {c : Int32} (hd : d < 8) (hn : n ≤ 100) (hp : p ≤ n) (hc : c ≠ -1 ∧ c ≠ -1000) (h : MR z0 d n m2 z p cnt tl) {post : Int32 → ZS → Prop} (k1 : tcZ z0 d n p = c → p < n → ∀ z1, MR z0 d n m2 z1 (p + 1) cnt tl → post 1 z1) (k0 : ¬ tcZ z0 d n p = c → post 0 z) : V_X12_takes z c post := by
  unfold V_X12_takes
  refine m_here hd hn hp h (fun c1 => ⟨fun q z4 e4 => ?_, k0⟩) (fun c1 => ⟨fun q => absurd q.symm hc.2, fun _ => k0 (fun q => ?_)⟩)
  · rw [h.2.2.1, nI_1] at e4
    subst e4
    exact k1 q c1 _ (h.p (p + 1))
  · rw [tc_out c1] at q
    exact hc.1 q.symm
theorem m_isDg {z0 z : ZS} {d n p cnt : Nat} {m2 tl : Nat → Int32} (hd : d < 8) (hn : n ≤ 100) (hp : p ≤ n) (h : MR z0 d n m2 z p cnt tl) {post : Int32 → ZS → Prop} (k1 : isDg (tcZ z0 d n p) → post 1 z) (k0 : ¬ isDg (tcZ z0 d n p) → post 0 z) : V_X12_isDigit z post := by
  unfold V_X12_isDigit
  refine m_here hd hn hp h (fun c1 => ge_in 48 57 rfl rfl (fun q => ⟨rfl, k1 q⟩) (fun q => ⟨rfl, k0 q⟩)) (fun c1 => ge_in 48 57 rfl rfl (fun q => absurd q.1 (by decide)) (fun _ => ⟨rfl, k0 (fun q => ?_)⟩))
  rw [tc_out c1] at q
  exact absurd q.1 (by decide)
theorem dg_lt {z0 : ZS} {d n p : Nat} (h : isDg (tcZ z0 d n p)) : p < n := Nat.lt_of_not_le (fun q => tcZ_E z0 d n p q h)
theorem MR.num {z0 z : ZS} {d n p cnt : Nat} {m2 tl : Nat → Int32} (h : MR z0 d n m2 z p cnt tl) (v : Int32) (q : Nat) : MR z0 d n m2 (wI (wI (wR z 14 15 cnt v) 14 14 (nI (cnt + 1))) 14 11 (nI q)) q (cnt + 1) (upd tl cnt v) := by
  obtain ⟨h1, h2, h3, h4, h5, h6, h7⟩ := h
  refine ⟨((h1.R 14 15 _ _ (by unfold keepR; omega)).I 14 14 _ (by unfold keepI; omega)).I 14 11 _ (by unfold keepI; omega), h2, rfl, h4, h5, rfl, fun j hj => ?_⟩
  have e : zR (wI (wI (wR z 14 15 cnt v) 14 14 (nI (cnt + 1))) 14 11 (nI q)) 14 15 j = zR (wR z 14 15 cnt v) 14 15 j := rfl
  rw [e, zR_wR]
  unfold upd
  by_cases c : j = cnt
  · rw [if_pos c, if_pos c]
  · rw [if_neg c, if_neg c]; exact h7 j (by omega)
theorem m_readsDigit {z0 z : ZS} {d n p cnt : Nat} {m2 tl : Nat → Int32} (hd : d < 8) (hn : n ≤ 100) (hp : p ≤ n) (hc : cnt < 4) (h : MR z0 d n m2 z p cnt tl) {post : Int32 → ZS → Prop} (k1 : isDg (tcZ z0 d n p) → ∀ z1, MR z0 d n m2 z1 (p + 1) (cnt + 1) (upd tl cnt (tcZ z0 d n p - 48)) → post 1 z1) (k0 : ¬ isDg (tcZ z0 d n p) → post 0 z) : V_X12_readsDigit z post := by
  unfold V_X12_readsDigit
  refine m_isDg hd hn hp h (fun c => on1 ?_) (fun c => on0 (k0 c))
  refine m_here hd hn hp h (fun c1 => ?_) (fun c1 => absurd (dg_lt c) c1)
  rw [h.2.2.2.2.2.1, nI_clamp (show cnt < 2 ^ 31 by omega)]
  refine ⟨vin (by omega) (by decide), fun z6 e6 z7 e7 z8 e8 => ?_⟩
  have i14 : zI z6 14 14 = nI cnt := by rw [e6]; exact h.2.2.2.2.2.1
  rw [i14, nI_1] at e7
  have i11 : zI z7 14 11 = nI p := by rw [e7, e6]; exact h.2.2.1
  rw [i11, nI_1] at e8
  rw [e8, e7, e6]
  exact k1 c _ (h.num _ _)
theorem MR.renum {z0 z : ZS} {d n p cnt : Nat} {m2 tl : Nat → Int32} (h : MR z0 d n m2 z p (cnt + 1) tl) (v : Int32) (q : Nat) : MR z0 d n m2 (wI (wR z 14 15 cnt v) 14 11 (nI q)) q (cnt + 1) (upd tl cnt v) := by
  obtain ⟨h1, h2, h3, h4, h5, h6, h7⟩ := h
  refine ⟨(h1.R 14 15 _ _ (by unfold keepR; omega)).I 14 11 _ (by unfold keepI; omega), h2, rfl, h4, h5, h6, fun j hj => ?_⟩
  have e : zR (wI (wR z 14 15 cnt v) 14 11 (nI q)) 14 15 j = zR (wR z 14 15 cnt v) 14 15 j := rfl
  rw [e, zR_wR]
  unfold upd
  by_cases c : j = cnt
  · rw [if_pos c, if_pos c]
  · rw [if_neg c, if_neg c]; exact h7 j hj
theorem m_num_lp {z0 : ZS} {d n p cnt : Nat} {m2 tl : Nat → Int32} (hd : d < 8) (hn : n ≤ 100) (hc : cnt < 4) {post : Int32 → ZS → Prop} : ∀ (r k : Nat) (v : Int32) (z : ZS), r + k = 4 → p + k ≤ n → MR z0 d n m2 z (p + k) (cnt + 1) (upd tl cnt v) → (∀ z1, MR z0 d n m2 z1 (p + (nlF (tcZ z0 d n) p r k v).1) (cnt + 1) (upd tl cnt (nlF (tcZ z0 d n) p r k v).2) → post 1 z1) → V_X12_readsNumber_11 post (r + 1) z (nI k) := by
  intro r
  induction r with
  | zero =>
    intro k v z e hp h kk
    unfold V_X12_readsNumber_11
    have hk : k = 4 := by omega
    subst hk
    exact ⟨fun _ => kk z h, fun q => absurd (by decide : (4 : Int32) ≤ nI 4) q⟩
  | succ r ih =>
    intro k v z e hp h kk
    unfold V_X12_readsNumber_11
    have hk : ¬ (4 : Int32) ≤ nI k := fun q => by
      rw [Int32.le_iff_toInt_le, nI_toInt (by omega), show (4 : Int32).toInt = 4 by decide] at q
      omega
    have h15 : zR z 14 15 cnt = v := by rw [h.2.2.2.2.2.2 cnt (by omega), upd_at]
    have e14 : zI z 14 14 - 1 = nI cnt := by rw [h.2.2.2.2.2.1, nI_pred]
    rw [e14, nI_clamp (show cnt < 2 ^ 31 by omega), h15]
    rw [nlF_s] at kk
    refine ⟨fun q => absurd q hk, fun _ => ⟨vin (by omega) (by decide), fun q => ?_, fun q => ?_⟩⟩
    · rw [if_pos q] at kk
      exact kk z h
    · rw [if_neg q] at kk
      refine m_isDg hd hn hp h (fun c => no1 ?_) (fun c => no0 ?_)
      · rw [if_pos c] at kk
        rw [e14, nI_clamp (show cnt < 2 ^ 31 by omega), h15]
        refine ⟨vin (by omega) (by decide), m_here hd hn hp h (fun c1 => ⟨vin (by omega) (by decide), fun z11 e11 z12 e12 t13 e13 => ?_⟩) (fun c1 => absurd (dg_lt c) c1)⟩
        have i11 : zI z11 14 11 = nI (p + k) := by rw [e11]; exact h.2.2.1
        rw [i11, nI_1] at e12
        rw [e13, nI_1, e12, e11]
        have hr := h.renum (10 * v + tcZ z0 d n (p + k) - 48) (p + k + 1)
        rw [upd_upd] at hr
        have hlt := dg_lt c
        exact ih (k + 1) (10 * v + tcZ z0 d n (p + k) - 48) _ (by omega) (by omega) hr kk
      · rw [if_neg c] at kk
        exact kk z h
theorem m_readsNumber {z0 z : ZS} {d n p cnt : Nat} {m2 tl : Nat → Int32} (hd : d < 8) (hn : n ≤ 100) (hp : p ≤ n) (hc : cnt < 4) (h : MR z0 d n m2 z p cnt tl) {post : Int32 → ZS → Prop} (k1 : isDg (tcZ z0 d n p) → ∀ z1, MR z0 d n m2 z1 (p + (nmF (tcZ z0 d n) p).1) (cnt + 1) (upd tl cnt (nmF (tcZ z0 d n) p).2) → post 1 z1) (k0 : ¬ isDg (tcZ z0 d n p) → post 0 z) : V_X12_readsNumber z post := by
  unfold V_X12_readsNumber
  refine m_readsDigit hd hn hp hc h (fun c z1 h1 => on1 ⟨4, ?_⟩) (fun c => on0 (k0 c))
  have hlt := dg_lt c
  exact m_num_lp hd hn hc 3 1 (tcZ z0 d n p - 48) z1 rfl (by omega) h1 (k1 c)
/-- what follows, by what the form gives -/
def GK (z0 : ZS) (d n : Nat) (m2 : Nat → Int32) (N : Nat) (post : Int32 → ZS → Prop) (X : SR) : Prop := (∀ q, X = (q, none) → ∀ z1 c t, MR z0 d n m2 z1 q c t → post 0 z1) ∧ (∀ q tl, X = (q, some tl) → ∀ z1, MR z0 d n m2 z1 q N tl → post 1 z1)
theorem f239 {post : Int32 → ZS → Prop} {z : ZS} (h : post 0 z) : V_X12_readsStatement_239 post z 0 := by
  unfold V_X12_readsStatement_239
  exact no0 h
theorem g_d {z0 z : ZS} {d n p cnt N : Nat} {m2 tl : Nat → Int32} {r : List Int32} (hd : d < 8) (hn : n ≤ 100) (hp : p ≤ n) (hc : cnt < 4) (h : MR z0 d n m2 z p cnt tl) {post : Int32 → ZS → Prop} (g : GK z0 d n m2 N post (scF (tcZ z0 d n) (100 :: r) p cnt 0 tl)) {rest : ZS → Prop} (kk : ∀ z1 tl1, p + 1 ≤ n → MR z0 d n m2 z1 (p + 1) (cnt + 1) tl1 → GK z0 d n m2 N post (scF (tcZ z0 d n) r (p + 1) (cnt + 1) 0 tl1) → rest z1) : V_X12_readsDigit z (fun r z1 => ((r = 0 → V_X12_readsStatement_239 post z1 0) ∧ (¬ r = 0 → rest z1))) := by
  rw [scF_s, if_pos rfl, if_pos rfl] at g
  refine m_readsDigit hd hn hp hc h (fun c z1 h1 => no1 ?_) (fun c => no0 (f239 ?_))
  · rw [if_pos c] at g
    exact kk z1 _ (dg_lt c) h1 g
  · rw [if_neg c] at g
    exact g.1 p rfl z cnt tl h
theorem g_n {z0 z : ZS} {d n p cnt N : Nat} {m2 tl : Nat → Int32} {r : List Int32} (hd : d < 8) (hn : n ≤ 100) (hp : p ≤ n) (hc : cnt < 4) (h : MR z0 d n m2 z p cnt tl) {post : Int32 → ZS → Prop} (g : GK z0 d n m2 N post (scF (tcZ z0 d n) (110 :: r) p cnt 0 tl)) {rest : ZS → Prop} (kk : ∀ z1 q tl1, q ≤ n → MR z0 d n m2 z1 q (cnt + 1) tl1 → GK z0 d n m2 N post (scF (tcZ z0 d n) r q (cnt + 1) 0 tl1) → rest z1) : V_X12_readsNumber z (fun r z1 => ((r = 0 → V_X12_readsStatement_239 post z1 0) ∧ (¬ r = 0 → rest z1))) := by
  rw [scF_s, if_neg (by decide), if_pos rfl, if_pos rfl] at g
  refine m_readsNumber hd hn hp hc h (fun c z1 h1 => no1 ?_) (fun c => no0 (f239 ?_))
  · rw [if_pos c] at g
    exact kk z1 _ _ (nm_eq (tcZ_E z0 d n) c).2.2.2.1 h1 g
  · rw [if_neg c] at g
    exact g.1 p rfl z cnt tl h
theorem g_t {z0 z : ZS} {d n p cnt N : Nat} {m2 tl : Nat → Int32} {r : List Int32} (hd : d < 8) (hn : n ≤ 100) (hp : p ≤ n) (h : MR z0 d n m2 z p cnt tl) {post : Int32 → ZS → Prop} (g : GK z0 d n m2 N post (scF (tcZ z0 d n) (32 :: r) p cnt 0 tl)) {rest : ZS → Prop} (kk : ∀ z1, p + 1 ≤ n → MR z0 d n m2 z1 (p + 1) cnt tl → GK z0 d n m2 N post (scF (tcZ z0 d n) r (p + 1) cnt 0 tl) → rest z1) : V_X12_takes z 32 (fun r z1 => ((r = 0 → V_X12_readsStatement_239 post z1 0) ∧ (¬ r = 0 → rest z1))) := by
  rw [scF_s, if_neg (by decide), if_neg (by decide), if_neg (by decide)] at g
  refine m_takes hd hn hp (by decide) h (fun c hlt z1 h1 => no1 ?_) (fun c => no0 (f239 ?_))
  · rw [if_pos c] at g
    exact kk z1 hlt h1 g
  · rw [if_neg c] at g
    exact g.1 p rfl z cnt tl h
theorem g_e {z0 z : ZS} {d n p N : Nat} {m2 tl : Nat → Int32} (hd : d < 8) (hn : n ≤ 100) (hp : p ≤ n) (h : MR z0 d n m2 z p N tl) {post : Int32 → ZS → Prop} (g : GK z0 d n m2 N post (scF (tcZ z0 d n) [59] p N 0 tl)) : V_X12_readsStatement_239 post z 1 := by
  rw [scF_s, if_neg (by decide), if_neg (by decide), if_neg (by decide)] at g
  unfold V_X12_readsStatement_239
  refine no1 (m_takes hd hn hp (by decide) h (fun c hlt z1 h1 => no1 ?_) (fun c => no0 ?_))
  · rw [if_pos c] at g
    exact g.2 _ _ rfl z1 h1
  · rw [if_neg c] at g
    exact g.1 p rfl z N tl h
theorem g_s {z0 z : ZS} {d n p cnt N : Nat} {m2 tl : Nat → Int32} {r : List Int32} (hd : d < 8) (hn : n ≤ 100) (hp : p ≤ n) (hc : cnt < 4) (h : MR z0 d n m2 z p cnt tl) {post : Int32 → ZS → Prop} (g : GK z0 d n m2 N post (scF (tcZ z0 d n) (115 :: 110 :: r) p cnt 0 tl)) {rest : ZS → Prop} (kk : ∀ z1 q tl1, q ≤ n → MR z0 d n m2 z1 q (cnt + 1) tl1 → GK z0 d n m2 N post (scF (tcZ z0 d n) r q (cnt + 1) 0 tl1) → rest z1) : V_X12_readsSigned z (fun r z1 => ((r = 0 → V_X12_readsStatement_239 post z1 0) ∧ (¬ r = 0 → rest z1))) := by
  rw [scF_s, if_neg (by decide), if_neg (by decide), if_pos rfl] at g
  unfold V_X12_readsSigned
  have body : p < n → (tcZ z0 d n p = 43 ∨ tcZ z0 d n p = 45) → V_X12_readsSigned_19 (fun r z1 => ((r = 0 → V_X12_readsStatement_239 post z1 0) ∧ (¬ r = 0 → rest z1))) z (tcZ z0 d n p) := fun hlt sg => by
    rw [if_pos sg, scF_s, if_neg (by decide), if_pos rfl] at g
    unfold V_X12_readsSigned_19
    intro z4 e4
    rw [h.2.2.1, nI_1] at e4
    have h4 := h.p (p + 1)
    rw [← e4] at h4
    refine m_readsNumber hd hn hlt hc h4 (fun c z1 h1 => on1 ⟨fun q => no1 ?_, fun q => ?_⟩) (fun c => on0 (no0 (f239 ?_)))
    · rw [if_pos c, if_neg q, if_pos rfl] at g
      exact kk z1 _ _ (nm_eq (tcZ_E z0 d n) c).2.2.2.1 h1 g
    · rw [if_pos c, if_pos q, if_neg one_ne] at g
      have e14 : zI z1 14 14 - 1 = nI cnt := by rw [h1.2.2.2.2.2.1, nI_pred]
      have h15 : zR z1 14 15 cnt = (nmF (tcZ z0 d n) (p + 1)).2 := by rw [h1.2.2.2.2.2.2 cnt (by omega), upd_at]
      rw [e14, nI_clamp (show cnt < 2 ^ 31 by omega), h15]
      refine ⟨vin (by omega) (by decide), vin (by omega) (by decide), fun z9 e9 => no1 ?_⟩
      have hz9 : MR z0 d n m2 z9 (p + 1 + (nmF (tcZ z0 d n) (p + 1)).1) (cnt + 1) (upd tl cnt (-(nmF (tcZ z0 d n) (p + 1)).2)) := by
        rw [e9]
        obtain ⟨a1, a2, a3, a4, a5, a6, a7⟩ := h1
        refine ⟨a1.R 14 15 _ _ (by unfold keepR; omega), a2, a3, a4, a5, a6, fun j hj => ?_⟩
        rw [zR_wR]
        have aj := a7 j hj
        unfold upd at aj ⊢
        by_cases cj : j = cnt
        · rw [if_pos cj, if_pos cj]
        · rw [if_neg cj, if_neg cj]
          rw [if_neg cj] at aj
          exact aj
      exact kk z9 _ _ (nm_eq (tcZ_E z0 d n) c).2.2.2.1 hz9 g
    · rw [if_neg c] at g
      exact g.1 (p + 1) rfl z4 cnt tl h4
  refine m_here hd hn hp h (fun hlt => ⟨fun q => body hlt (Or.inl q), fun q => ⟨fun q2 => body hlt (Or.inr q2), fun q2 => no0 (f239 ?_)⟩⟩) (fun c => ⟨fun q => absurd q (by decide), fun _ => ⟨fun q => absurd q (by decide), fun _ => no0 (f239 ?_)⟩⟩)
  · rw [if_neg (fun r => r.elim q q2)] at g
    exact g.1 p rfl z cnt tl h
  · rw [if_neg (fun r => by rw [tc_out c] at r; exact absurd r (by decide))] at g
    exact g.1 p rfl z cnt tl h
theorem m_stmt {z0 z : ZS} {d n p cnt : Nat} {m2 tl : Nat → Int32} (hd : d < 8) (hn : n ≤ 100) (hp : p ≤ n) (h : MR z0 d n m2 z p cnt tl) {post : Int32 → ZS → Prop} (g : GK z0 d n m2 (nN (fL (tcZ z0 d n p))) post (stS (tcZ z0 d n) p)) : V_X12_readsStatement z post := by
  unfold V_X12_readsStatement
  have hc := h.c (fun _ => 0)
  unfold stS at g
  have body : p < n → isLt (tcZ z0 d n p) → V_X12_readsStatement_42 post (wI z 14 14 (0 : Int32)) (tcZ z0 d n p) := fun hlt hl => by
    rw [if_pos hl] at g
    unfold V_X12_readsStatement_42 V_X12_readsStatement_161 V_X12_readsStatement_162 V_X12_readsStatement_200 V_X12_readsStatement_201 V_X12_readsStatement_121 V_X12_readsStatement_122 V_X12_readsStatement_237 V_X12_readsStatement_238
    intro z5 e5
    rw [hc.2.2.1, nI_1] at e5
    have h5 := hc.p (p + 1)
    rw [← e5] at h5
    generalize tcZ z0 d n p = c at g hl ⊢
    refine ⟨fun q => ?_, fun q1 => ⟨fun q => ?_, fun q2 => ⟨fun q => ?_, fun q3 => ⟨fun q => ?_, fun q4 => ?_⟩⟩⟩⟩
    · subst q
      exact g_n hd hn hlt (by decide) h5 g (fun z1 r1 t1 hq h1 g1 => g_t hd hn hq h1 g1 (fun z2 hq2 h2 g2 => g_n hd hn hq2 (by decide) h2 g2 (fun z3 r3 t3 hq3 h3 g3 => g_e hd hn hq3 h3 g3)))
    · subst q
      exact g_d hd hn hlt (by decide) h5 g (fun z1 t1 hq h1 g1 => g_d hd hn hq (by decide) h1 g1 (fun z2 t2 hq2 h2 g2 => g_t hd hn hq2 h2 g2 (fun z3 hq3 h3 g3 => g_n hd hn hq3 (by decide) h3 g3 (fun z4 r4 t4 hq4 h4 g4 => g_e hd hn hq4 h4 g4))))
    · subst q
      have g2 : GK z0 d n m2 1 post (scF (tcZ z0 d n) (110 :: [59]) (p + 1) 0 0 (fun _ => 0)) := g
      rw [scF_s, if_neg (by decide), if_pos rfl, if_pos rfl] at g2
      refine m_readsNumber hd hn hlt (by decide) h5 (fun c z1 h1 => ?_) (fun c => f239 ?_)
      · rw [if_pos c] at g2
        exact g_e hd hn (nm_eq (tcZ_E z0 d n) c).2.2.2.1 h1 g2
      · rw [if_neg c] at g2
        exact g2.1 _ rfl z5 _ _ h5
    · subst q
      exact g_d hd hn hlt (by decide) h5 g (fun z1 t1 hq h1 g1 => g_s hd hn hq (by decide) h1 g1 (fun z2 r2 t2 hq2 h2 g2 => g_s hd hn hq2 (by decide) h2 g2 (fun z3 r3 t3 hq3 h3 g3 => g_e hd hn hq3 h3 g3)))
    · have q : c = 98 := hl.elim (fun h => absurd h q1) (fun h => h.elim id (fun h => h.elim (fun h => absurd h q2) (fun h => h.elim (fun h => absurd h q3) (fun h => absurd h q4))))
      subst q
      exact g_s hd hn hlt (by decide) h5 g (fun z1 r1 t1 hq h1 g1 => g_s hd hn hq (by decide) h1 g1 (fun z2 r2 t2 hq2 h2 g2 => g_s hd hn hq2 (by decide) h2 g2 (fun z3 r3 t3 hq3 h3 g3 => g_s hd hn hq3 (by decide) h3 g3 (fun z4 r4 t4 hq4 h4 g4 => g_e hd hn hq4 h4 g4))))
  have none : ¬ isLt (tcZ z0 d n p) → post 0 (wI z 14 14 (0 : Int32)) := fun hl => by
    rw [if_neg hl] at g
    exact g.1 p rfl _ _ _ hc
  refine m_here hd hn hp h (fun hlt z3 e3 => ?_) (fun hlt z3 e3 => ?_)
  · subst e3
    exact ⟨fun q => body hlt (Or.inr (Or.inr (Or.inr (Or.inr q)))), fun q1 => ⟨fun q => body hlt (Or.inr (Or.inr (Or.inr (Or.inl q)))), fun q2 => ⟨fun q => body hlt (Or.inl q), fun q3 => ⟨fun q => body hlt (Or.inr (Or.inr (Or.inl q))), fun q4 => ⟨fun q => body hlt (Or.inr (Or.inl q)), fun q5 => none (fun r => r.elim q3 (fun r => r.elim q5 (fun r => r.elim q4 (fun r => r.elim q2 q1))))⟩⟩⟩⟩⟩
  · subst e3
    have hl : ¬ isLt (tcZ z0 d n p) := fun r => by rw [tc_out hlt] at r; exact absurd r (by decide)
    exact ⟨fun q => absurd q (by decide), fun _ => ⟨fun q => absurd q (by decide), fun _ => ⟨fun q => absurd q (by decide), fun _ => ⟨fun q => absurd q (by decide), fun _ => ⟨fun q => absurd q (by decide), fun _ => none hl⟩⟩⟩⟩⟩
