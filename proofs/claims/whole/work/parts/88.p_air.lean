/-! PURE, part 39: air: the reference's two passes; air -/
theorem scF_le {z0 : ZS} {d n : Nat} : ∀ (L : List Int32) (p cnt : Nat) (bl : Int32) (tl : Nat → Int32), (∀ c, c ∈ L → c ≠ -1) → p ≤ n → (scF (tcZ z0 d n) L p cnt bl tl).1 ≤ n := by
  intro L
  induction L with
  | nil => intro p cnt bl tl _ h; exact h
  | cons c r ih =>
    intro p cnt bl tl hc h
    have hc1 := hc c List.mem_cons_self
    have hc2 : ∀ c, c ∈ r → c ≠ -1 := fun x hx => hc x (List.mem_cons_of_mem _ hx)
    rw [scF_s]
    split
    · split
      · rename_i q; exact ih _ _ _ _ hc2 (dg_lt q)
      · exact h
    · split
      · split
        · rename_i q; exact ih _ _ _ _ hc2 (nm_eq (tcZ_E z0 d n) q).2.2.2.1
        · exact h
      · split
        · split
          · rename_i q
            refine ih _ _ _ _ hc2 (Nat.lt_of_not_le (fun s => ?_))
            rw [tc_out (by omega)] at q
            exact absurd q (by decide)
          · exact h
        · split
          · rename_i q
            refine ih _ _ _ _ hc2 (Nat.lt_of_not_le (fun s => ?_))
            rw [tc_out (by omega)] at q
            exact hc1 q.symm
          · exact h
theorem fL_ne (c : Int32) : ∀ x, x ∈ fL c → x ≠ -1 := by
  unfold fL
  split
  · decide
  · split
    · decide
    · split
      · decide
      · split <;> decide
theorem st_le {z0 : ZS} {d n p : Nat} (hp : p ≤ n) : (stS (tcZ z0 d n) p).1 ≤ n ∧ (isLt (tcZ z0 d n p) → p < n ∧ p < (stS (tcZ z0 d n) p).1) := by
  unfold stS
  by_cases c : isLt (tcZ z0 d n p)
  · have hlt : p < n := Nat.lt_of_not_le (fun s => by
      rw [tc_out (by omega)] at c
      exact absurd c (by decide))
    rw [if_pos c]
    exact ⟨scF_le _ _ _ _ _ (fL_ne _) hlt, fun _ => ⟨hlt, scF_ge _ _ _ _ _ _⟩⟩
  · rw [if_neg c]
    exact ⟨hp, fun q => absurd q c⟩
theorem m_pass1 {z0 : ZS} {d n : Nat} {m2 : Nat → Int32} (hd : d < 8) (hn : n ≤ 100) {post : Int32 → ZS → Prop} : ∀ (fu s p : Nat) (z : ZS) (c : Nat) (t : Nat → Int32), n + 1 ≤ p + fu → p ≤ n → MR z0 d n m2 z p c t → (∀ q, prs (tcZ z0 d n) n fu p = (q, none) → ∀ z1, Kp z0 z1 → post (-1000 - nI q) z1) → (∀ q L, prs (tcZ z0 d n) n fu p = (q, some L) → ∀ z1 q1 c t, MR z0 d n m2 z1 q1 c t → ∃ n30 : Nat, V_X12_air_71 post n30 z1 (nI (s + L.length)) (0 : Int32)) → V_X12_air_38 post fu z (nI s) := by
  intro fu
  induction fu with
  | zero => intro s p z c t h1 h2; omega
  | succ fu ih =>
    intro s p z c t h1 hp h K0 K1
    unfold V_X12_air_38
    have hle := st_le (z0 := z0) (d := d) hp
    refine m_stmt hd hn hp h ⟨fun q e z1 c1 t1 h1 => on0 ?_, fun q tl e z1 h1 => on1 (fun t10 e10 => ?_)⟩
    · rw [h1.2.2.1]
      exact K0 q (prs_0 e) z1 h1.1
    · rw [e] at hle
      have hq : q ≤ n := hle.1
      have hpq : p < q := (hle.2 (st_lt e)).2
      rw [h1.2.2.1, h1.2.2.2.2.1]
      refine ⟨fun r => ?_, fun r => ?_⟩
      · have c : q < n := (nI_ltI (by omega) (by omega)).mp r
        rw [e10, nI_1]
        refine ih (s + 1) q z1 _ _ (by omega) hq h1 (fun q2 e2 => K0 q2 (prs_n e c e2)) (fun q2 L e2 z2 q3 c3 t3 h3 => ?_)
        have h := K1 q2 _ (prs_s e c e2) z2 q3 c3 t3 h3
        rw [List.length_cons] at h
        rw [show s + 1 + L.length = s + (L.length + 1) by omega]
        exact h
      · have c : ¬ q < n := fun c => r (nI_lt c (by omega))
        rw [e10, nI_1]
        exact K1 q _ (prs_e e c) z1 q _ _ h1
theorem m_copy71 {v3 : Int32} {post : Int32 → ZS → Prop} : ∀ (fu i : Nat) (z : ZS), fu + i = 74 → i ≤ 73 → (∀ g : Nat → Int32, (∀ k, i ≤ k → k < 73 → g k = zR z 14 0 k) → (∀ k, ¬ (i ≤ k ∧ k < 73) → g k = zR z 14 2 k) → ∃ n27 : Nat, V_X12_air_103 post n27 (wI (wA z 14 2 g) 14 11 (0 : Int32)) v3) → V_X12_air_71 post fu z v3 (nI i) := by
  intro fu
  induction fu with
  | zero => intro i z h1 h2; omega
  | succ fu ih =>
    intro i z h h9 kk
    unfold V_X12_air_71
    refine ⟨fun c z13 e13 => ?_, fun c => ?_⟩
    · have hi : 73 ≤ i := (nI_leI (a := 73) (b := i) (by decide) (by omega)).mp c
      have := kk (zR z 14 2) (fun k h1 h2 => by omega) (fun k _ => rfl)
      rw [wA_self] at this
      rw [e13]
      exact this
    · have hi : i < 73 := Nat.lt_of_not_le (fun q => c ((nI_leI (a := 73) (b := i) (by decide) (by omega)).mpr q))
      refine ⟨vin hi (by decide), vin hi (by decide), fun z3 e t et => ?_⟩
      rw [nI_clamp (show i < 2 ^ 31 by omega)] at e
      subst e; subst et
      rw [nI_1]
      refine ih (i + 1) _ (by omega) (by omega) (fun g g1 g2 => ?_)
      rw [wA_wR]
      refine kk g (fun k h1 h2 => ?_) (fun k h1 => ?_)
      · by_cases hk : k = i
        · subst hk
          rw [g2 k (by omega), zR_wR, if_pos rfl]
        · exact g1 k (by omega) h2
      · rw [g2 k (by omega), zR_wR, if_neg (by omega)]
theorem m_copy154 {v3 : Int32} {post : Int32 → ZS → Prop} : ∀ (fu i : Nat) (z : ZS), fu + i = 74 → i ≤ 73 → (∀ g : Nat → Int32, (∀ k, i ≤ k → k < 73 → g k = zR z 14 2 k) → (∀ k, k < i → g k = zR z 14 0 k) → post v3 (wA z 14 0 g)) → V_X12_air_154 post fu z v3 (nI i) := by
  intro fu
  induction fu with
  | zero => intro i z h1 h2; omega
  | succ fu ih =>
    intro i z h h9 kk
    unfold V_X12_air_154
    refine ⟨fun c => ?_, fun c => ?_⟩
    · have hi : 73 ≤ i := (nI_leI (a := 73) (b := i) (by decide) (by omega)).mp c
      have := kk (zR z 14 0) (fun k h1 h2 => by omega) (fun k _ => rfl)
      rw [wA_self] at this
      exact this
    · have hi : i < 73 := Nat.lt_of_not_le (fun q => c ((nI_leI (a := 73) (b := i) (by decide) (by omega)).mpr q))
      refine ⟨vin hi (by decide), vin hi (by decide), fun z3 e t et => ?_⟩
      rw [nI_clamp (show i < 2 ^ 31 by omega)] at e
      subst e; subst et
      rw [nI_1]
      refine ih (i + 1) _ (by omega) (by omega) (fun g g1 g2 => ?_)
      rw [wA_wR]
      refine kk g (fun k h1 h2 => ?_) (fun k h1 => ?_)
      · by_cases hk : k = i
        · subst hk
          rw [g2 k (by omega), zR_wR, if_pos rfl]
        · exact g1 k (by omega) h2
      · rw [g2 k (by omega), zR_wR, if_neg (by omega)]
theorem m_pass2 {z0 : ZS} {d n : Nat} {v3 : Int32} (hd : d < 8) (hn : n ≤ 100) {post : Int32 → ZS → Prop} : ∀ (fu p q : Nat) (L : List ST1) (z : ZS) (m2 : Nat → Int32) (c : Nat) (t : Nat → Int32), prs (tcZ z0 d n) n fu p = (q, some L) → p ≤ n → MR z0 d n m2 z p c t → BM m2 → (∀ b, apA (tcZ z0 d n) L m2 = .inl b → ∀ z1, Kp z0 z1 → post (-2000 - nI b) z1) → (∀ m1, apA (tcZ z0 d n) L m2 = .inr m1 → ∀ z1 q c t, MR z0 d n m1 z1 q c t → ∃ n18 : Nat, V_X12_air_154 post n18 z1 v3 (0 : Int32)) → V_X12_air_103 post (L.length + 1) z v3 := by
  intro fu
  induction fu with
  | zero =>
    intro p q L z m2 c t e
    exact absurd (congrArg Prod.snd e) (fun h => by cases h)
  | succ fu ih =>
    intro p q L z m2 c t e hp h hb K0 K1
    have hle := st_le (z0 := z0) (d := d) hp
    rcases hs : stS (tcZ z0 d n) p with ⟨q1, x⟩
    cases x with
    | none =>
      rw [prs_0 hs] at e
      exact absurd (congrArg Prod.snd e) (fun h => by cases h)
    | some tl =>
      rw [hs] at hle
      have hq1 : q1 ≤ n := hle.1
      have hl := st_lt hs
      have hlt : p < n := (hle.2 hl).1
      have hok := st_ok (tcZ_E z0 d n) hs
      unfold V_X12_air_103
      have ng : ¬ zI z 14 13 ≤ zI z 14 11 := by
        rw [h.2.2.1, h.2.2.2.2.1]
        exact nI_ge hlt (by omega)
      refine ⟨fun r => absurd r ng, fun _ t19 e19 => m_here hd hn hp h (fun _ => ?_) (fun r => absurd hlt r)⟩
      rw [h.2.2.1] at e19
      subst e19
      refine m_stmt hd hn hp h ⟨fun q2 e2 => ?_, fun q2 tl2 e2 z1 h1 => ?_⟩
      · rw [hs] at e2
        exact absurd (congrArg Prod.snd e2) (fun h => by cases h)
      · rw [hs] at e2
        cases e2
        refine m_comes hl hok hb h1 (fun ec z2 k2 => on0 ?_) (fun m3 ec z2 h2 => on1 ?_)
        · by_cases cq : q1 < n
          · rcases h3 : prs (tcZ z0 d n) n fu q1 with ⟨q3, y⟩
            cases y with
            | none => rw [prs_n hs cq h3] at e; exact absurd (congrArg Prod.snd e) (fun h => by cases h)
            | some L2 =>
              rw [prs_s hs cq h3] at e
              cases e
              exact K0 p (apA_0 ec) z2 k2
          · rw [prs_e hs cq] at e
            cases e
            exact K0 p (apA_0 ec) z2 k2
        · by_cases cq : q1 < n
          · rcases h3 : prs (tcZ z0 d n) n fu q1 with ⟨q3, y⟩
            cases y with
            | none => rw [prs_n hs cq h3] at e; exact absurd (congrArg Prod.snd e) (fun h => by cases h)
            | some L2 =>
              rw [prs_s hs cq h3] at e
              cases e
              exact ih q1 q L2 z2 m3 _ _ h3 hq1 h2 (BM_cm hb hok ec) (fun b eb => K0 b ((apA_1 ec).trans eb)) (fun m4 em => K1 m4 ((apA_1 ec).trans em))
          · rw [prs_e hs cq] at e
            cases e
            have h := K1 m3 (apA_1 ec) z2 q _ _ h2
            show V_X12_air_103 post 1 z2 v3
            unfold V_X12_air_103
            have ge : zI z2 14 13 ≤ zI z2 14 11 := by
              rw [h2.2.2.1, h2.2.2.2.2.1]
              exact nI_le (by omega) (by omega)
            exact ⟨fun _ => h, fun r => absurd ge r⟩
theorem nI_any (v : Int32) : ∃ k, v = nI k := by
  refine ⟨v.toBitVec.toNat, ?_⟩
  apply Int32.toBitVec_inj.mp
  show v.toBitVec = BitVec.ofNat 32 v.toBitVec.toNat
  rw [BitVec.ofNat_toNat, BitVec.setWidth_eq]
/-- the draft as the reference begins it -/
def mm0 (z : ZS) : Nat → Int32 := fun k => if k < 73 then zR z 14 0 k else zR z 14 2 k
theorem m_airT {z : ZS} {d n : Nat} (hd : d < 8) (w : RW z d n) (s0 : zR z 14 4 d = 0) (hb : BM (mm0 z)) {post : Int32 → ZS → Prop} (K0 : ∀ q, prs (tcZ z d n) n (n + 1) 0 = (q, none) → ∀ z1, Kp z z1 → post (-1000 - nI q) z1) (K1 : ∀ q L b, prs (tcZ z d n) n (n + 1) 0 = (q, some L) → apA (tcZ z d n) L (mm0 z) = .inl b → ∀ z1, Kp z z1 → post (-2000 - nI b) z1) (K2 : ∀ q L m1, prs (tcZ z d n) n (n + 1) 0 = (q, some L) → apA (tcZ z d n) L (mm0 z) = .inr m1 → ∀ z1 g, Kp z z1 → (∀ k, k < 73 → g k = m1 k) → post (nI L.length) (wA z1 14 0 g)) : V_X12_air z (nI d) post := by
  have hn := w.2.2.2.2.2.1
  unfold V_X12_air
  refine m_row2 hd w.1 (Or.inr s0) (no0 (fun z4 e4 => ⟨vin hd (by decide), fun z5 e5 z6 e6 => ?_⟩))
  have ex : (100 : Int32) * nI d = nI (100 * d) := (Int32.ofNat_mul 100 d).symm
  rw [ex] at e4
  have es : zR z4 14 5 (nI d).toNatClampNeg = nI n := by rw [e4, cl8 hd]; exact w.2.2.2.2.2.2.2.1
  rw [es] at e5
  have k6 : Kp z z6 := by
    rw [e6, e5, e4]
    exact (((Kp.rf z).I 14 12 _ (by unfold keepI; omega)).I 14 13 _ (by unfold keepI; omega)).I 14 11 _ (by unfold keepI; omega)
  obtain ⟨cnt, ec⟩ := nI_any (zI z6 14 14)
  have hM : MR z d n (zR z 14 2) z6 0 cnt (zR z6 14 15) := ⟨k6, by rw [e6, e5, e4]; rfl, by rw [e6]; rfl, by rw [e6, e5, e4]; rfl, by rw [e6, e5]; rfl, ec, fun _ _ => rfl⟩
  refine ⟨n + 1, m_pass1 hd hn (n + 1) 0 0 z6 cnt _ (by omega) (by omega) hM K0 (fun q L e z1 q1 c t h1 => ⟨74, m_copy71 74 0 z1 rfl (by decide) (fun g g1 g2 => ?_)⟩)⟩
  have eg : g = mm0 z := by
    funext k
    unfold mm0
    by_cases ck : k < 73
    · rw [if_pos ck, g1 k (by omega) ck, h1.1.2.1 14 0 (by unfold keepR; omega)]
    · rw [if_neg ck, g2 k (by omega), h1.2.1]
  have hM2 : MR z d n (mm0 z) (wI (wA z1 14 2 g) 14 11 (0 : Int32)) 0 c t := by
    obtain ⟨a1, a2, a3, a4, a5, a6, a7⟩ := h1
    refine ⟨(a1.A 14 2 _ (by unfold keepR; omega)).I 14 11 _ (by unfold keepI; omega), ?_, rfl, a4, a5, a6, a7⟩
    have er : zR (wI (wA z1 14 2 g) 14 11 (0 : Int32)) 14 2 = g := zR_wA z1 14 2 g
    rw [er, eg]
  refine ⟨L.length + 1, m_pass2 hd hn (n + 1) 0 q L _ (mm0 z) c t e (by omega) hM2 hb (fun b eb => K1 q L b e eb) (fun m1 em z3 q3 c3 t3 h3 => ⟨74, m_copy154 74 0 z3 rfl (by decide) (fun g2 g3 _ => ?_)⟩)⟩
  rw [Nat.zero_add]
  exact K2 q L m1 e em z3 g2 h3.1 (fun k hk => (g3 k (by omega) hk).trans (by rw [h3.2.1]))
/-- a state in which only the draft has changed is as good -/
theorem Rel.df {z z1 : ZS} (hR : Rel z) (h : DF z z1) (wq : WQ z1) : Rel z1 := by
  have kq : Kp z (z1.1, z1.2.1, z1.2.2.1, zQ z, z1.2.2.2.2) := ⟨fun o k q => h.1 o k (by unfold keepI at q; omega), fun o k q => h.2.1 o k (by unfold keepR at q; omega), fun o _ => by rw [← h.2.2.1]; rfl, rfl, h.2.2.2.2⟩
  obtain ⟨r1, r2, r3, -⟩ := hR.kp kq
  refine ⟨RA.same (z := (z1.1, z1.2.1, z1.2.2.1, zQ z, z1.2.2.2.2)) (z1 := z1) (fun _ => rfl) (fun _ => rfl) (h.2.2.2.1 1 (by decide)) rfl rfl rfl (fun _ _ => rfl) r1, ?_, fun d hd => RS.same (z := (z1.1, z1.2.1, z1.2.2.1, zQ z, z1.2.2.2.2)) (z1 := z1) (fun _ => rfl) (fun _ => rfl) (fun _ _ _ => rfl) rfl rfl rfl rfl (r3 d hd), wq⟩
  rcases r2 with q | ⟨q1, q2, q3⟩
  · exact Or.inl q
  · exact Or.inr ⟨q1, q2, RA.same (z := (z1.1, z1.2.1, z1.2.2.1, zQ z, z1.2.2.2.2)) (z1 := z1) (fun _ => rfl) (fun _ => rfl) (h.2.2.2.1 3 (by decide)) rfl rfl rfl (fun _ _ => rfl) q3⟩
theorem BM_rel {z : ZS} (hR : Rel z) : BM (mm0 z) := by
  obtain ⟨⟨-, -, -, a3, a4⟩, -, ⟨n3, h3, e3, -⟩, ⟨n4, h4, e4, -⟩, -⟩ := hR.1
  exact ⟨⟨n3, h3, by unfold mm0; rw [if_pos (by decide), a3, e3]⟩, ⟨n4, h4, by unfold mm0; rw [if_pos (by decide), a4, e4]⟩⟩
theorem prs_ne {tc : Nat → Int32} {n : Nat} : ∀ (fu p q : Nat) (L : List ST1), prs tc n fu p = (q, some L) → 0 < L.length := by
  intro fu
  induction fu with
  | zero => intro p q L e; exact absurd (congrArg Prod.snd e) (fun h => by cases h)
  | succ fu ih =>
    intro p q L e
    rcases hs : stS tc p with ⟨q1, x⟩
    cases x with
    | none => rw [prs_0 hs] at e; exact absurd (congrArg Prod.snd e) (fun h => by cases h)
    | some tl =>
      by_cases cq : q1 < n
      · rcases h3 : prs tc n fu q1 with ⟨q3, y⟩
        cases y with
        | none => rw [prs_n hs cq h3] at e; exact absurd (congrArg Prod.snd e) (fun h => by cases h)
        | some L2 => rw [prs_s hs cq h3] at e; cases e; exact Nat.succ_pos _
      · rw [prs_e hs cq] at e; cases e; exact Nat.succ_pos _
theorem prs_le {z0 : ZS} {d n : Nat} : ∀ (fu p q : Nat), p ≤ n → prs (tcZ z0 d n) n fu p = (q, none) → q ≤ n := by
  intro fu
  induction fu with
  | zero => intro p q hp e; cases e; exact hp
  | succ fu ih =>
    intro p q hp e
    have hle := (st_le (z0 := z0) (d := d) hp).1
    rcases hs : stS (tcZ z0 d n) p with ⟨q1, x⟩
    rw [hs] at hle
    cases x with
    | none => rw [prs_0 hs] at e; cases e; exact hle
    | some tl =>
      by_cases cq : q1 < n
      · rcases h3 : prs (tcZ z0 d n) n fu q1 with ⟨q3, y⟩
        cases y with
        | none => rw [prs_n hs cq h3] at e; cases e; exact ih q1 q hle h3
        | some L2 => rw [prs_s hs cq h3] at e; exact absurd (congrArg Prod.snd e) (fun h => by cases h)
      · rw [prs_e hs cq] at e; exact absurd (congrArg Prod.snd e) (fun h => by cases h)
theorem prs_L {z0 : ZS} {d n : Nat} : ∀ (fu p q : Nat) (L : List ST1), p ≤ n → prs (tcZ z0 d n) n fu p = (q, some L) → L.length + p ≤ n ∧ ∀ s, s ∈ L → s.1 < n := by
  intro fu
  induction fu with
  | zero => intro p q L hp e; exact absurd (congrArg Prod.snd e) (fun h => by cases h)
  | succ fu ih =>
    intro p q L hp e
    have hle := st_le (z0 := z0) (d := d) hp
    rcases hs : stS (tcZ z0 d n) p with ⟨q1, x⟩
    rw [hs] at hle
    cases x with
    | none => rw [prs_0 hs] at e; exact absurd (congrArg Prod.snd e) (fun h => by cases h)
    | some tl =>
      have h1 : q1 ≤ n := hle.1
      have h2 : p < n ∧ p < q1 := hle.2 (st_lt hs)
      by_cases cq : q1 < n
      · rcases h3 : prs (tcZ z0 d n) n fu q1 with ⟨q3, y⟩
        cases y with
        | none => rw [prs_n hs cq h3] at e; exact absurd (congrArg Prod.snd e) (fun h => by cases h)
        | some L2 =>
          rw [prs_s hs cq h3] at e
          cases e
          have hi := ih q1 q L2 h1 h3
          refine ⟨by rw [List.length_cons]; omega, fun s hs2 => ?_⟩
          rcases List.mem_cons.mp hs2 with r | r
          · rw [r]; exact h2.1
          · exact hi.2 s r
      · rw [prs_e hs cq] at e
        cases e
        refine ⟨by rw [List.length_singleton]; omega, fun s hs2 => ?_⟩
        rw [List.mem_singleton.mp hs2]
        exact h2.1
theorem apA_b {tc : Nat → Int32} {n : Nat} : ∀ (L : List ST1) (m : Nat → Int32) (b : Nat), (∀ s, s ∈ L → s.1 < n) → apA tc L m = .inl b → b < n := by
  intro L
  induction L with
  | nil => intro m b _ e; cases e
  | cons s L ih =>
    intro m b h e
    cases hc : cmF (tc s.1) s.2 m with
    | none => rw [apA_0 hc] at e; cases e; exact h s List.mem_cons_self
    | some m1 => rw [apA_1 hc] at e; exact ih m1 b (fun x hx => h x (List.mem_cons_of_mem _ hx)) e
theorem neg_all : ∀ q, q < 101 → (-1000 - nI q : Int32) ≤ 0 ∧ (-2000 - nI q : Int32) ≤ 0 := by decide +kernel
theorem sk_0 : SK_0 Rel := by
  intro z p1 hR
  unfold V_X11_air
  rcases scase p1 with sb | ⟨d, hd, rfl⟩
  · refine c_sB sb ⟨fun _ => ?_, fun a q => by cases q⟩
    unfold V_X12_air
    exact m_rowB sb ⟨fun q => absurd q (by decide), fun _ => ⟨rfl, hR⟩⟩
  refine c_sO hd ⟨fun q => (by cases q), fun a q => ?_⟩
  cases q
  refine ⟨isS_of hd, ?_⟩
  rcases rcase hR hd with ⟨r, r0, hc, hm⟩ | ⟨n, w⟩
  · unfold V_X11_refusalOfBytes
    refine hc _ ⟨fun _ => ⟨fun q => absurd q r0, fun _ => ?_⟩, fun q => absurd q r0⟩
    unfold V_X12_air
    exact hm _ _ ⟨fun q => absurd q r0, fun _ => ⟨rfl, hR⟩⟩
  have hn := w.2.2.2.2.2.1
  by_cases s0 : zR z 14 4 d = 0
  · unfold V_X11_refusalOfBytes
    refine w.c ⟨fun q => absurd rfl q, fun _ => ⟨fun _ => no0 ?_, fun q => absurd (by rw [w.2.2.2.1]; exact s0) q⟩⟩
    have hR0 := hR
    obtain ⟨r1, r2, r3, r4⟩ := hR
    refine c_become (by decide) r4 (fun z1 hb => ?_)
    obtain ⟨b1, c1, b2, b3, c2, c3, b4, b8, c4, b5, b6, b7⟩ := hb
    have df1 : DF z z1 := ⟨c1, c2, c3, c4, fun a q => ⟨by rw [b5]; exact q, by rw [b6], by rw [b7]⟩⟩
    have wq1 : WQ z1 := fun o k a hq => by
      rw [b5]
      by_cases ho : o = 2
      · subst ho
        by_cases hk : k < 8
        · rw [b4 k hk] at hq; exact r4 _ _ _ hq
        · rw [b8 k (by omega)] at hq; exact r4 _ _ _ hq
      · rw [c4 o ho] at hq; exact r4 _ _ _ hq
    have ra1 : RA z1 2 (mm0 z) := RA.bc (z := z) (z1 := z1) (o := 2) (p := 1) (m := zR z 14 0) b1 b2 b3 b4 b5 b6 b7 (fun k hk => if_pos hk) r1
    have w1 := w.df df1
    have et : tcZ z1 d n = tcZ z d n := tcZ_df df1 d n
    -- the reference, at a state of which only the draft differs
    have ref0 : ∀ z9, DF z z9 → WQ z9 → RW z9 d n ∧ zR z9 14 4 d = 0 ∧ BM (mm0 z9) ∧ tcZ z9 d n = tcZ z d n ∧ mm0 z9 = mm0 z := fun z9 df wq => by
      refine ⟨w.df df, by rw [df.2.1 14 4 (by decide)]; exact s0, BM_rel (hR0.df df wq), tcZ_df df d n, ?_⟩
      unfold mm0
      rw [df.2.1 14 0 (by decide), df.2.1 14 2 (by decide)]
    refine c_read hd w1 wq1 ra1 (fun q e z9 df wq => ?_) (fun q L b e ea z9 df wq => ?_) (fun q L m1 e ea z9 df wq ra => ?_)
    · rw [et] at e
      have df9 := df1.tr df
      have hR9 := hR0.df df9 wq
      obtain ⟨f1, f2, f3, f4, f5⟩ := ref0 z9 df9 wq
      have hq := prs_le _ _ _ (Nat.zero_le _) e
      refine ⟨fun _ => m_airT hd f1 f2 f3 (fun q2 e2 z10 k10 => ?_) (fun q2 L b e2 => ?_) (fun q2 L m1 e2 => ?_), fun r => absurd (neg_all q (by omega)).1 r⟩
      · rw [f4, e] at e2
        cases e2
        exact ⟨rfl, hR9.kp k10⟩
      · rw [f4, e] at e2
        exact absurd (congrArg Prod.snd e2) (fun h => by cases h)
      · rw [f4, e] at e2
        exact absurd (congrArg Prod.snd e2) (fun h => by cases h)
    · rw [et] at e ea
      have df9 := df1.tr df
      have hR9 := hR0.df df9 wq
      obtain ⟨f1, f2, f3, f4, f5⟩ := ref0 z9 df9 wq
      have hb := apA_b L _ b (prs_L _ _ _ _ (Nat.zero_le _) e).2 ea
      refine ⟨fun _ => m_airT hd f1 f2 f3 (fun q2 e2 => ?_) (fun q2 L2 b2 e2 ea2 z10 k10 => ?_) (fun q2 L2 m1 e2 ea2 => ?_), fun r => absurd (neg_all b (by omega)).2 r⟩
      · rw [f4, e] at e2
        exact absurd (congrArg Prod.snd e2) (fun h => by cases h)
      · rw [f4, e] at e2
        cases e2
        rw [f4, f5, ea] at ea2
        cases ea2
        exact ⟨rfl, hR9.kp k10⟩
      · rw [f4, e] at e2
        cases e2
        rw [f4, f5, ea] at ea2
        cases ea2
    · rw [et] at e ea
      have df9 := df1.tr df
      have hR9 := hR0.df df9 wq
      have hL := prs_ne _ _ _ _ e
      have hL2 := (prs_L _ _ _ _ (Nat.zero_le _) e).1
      refine ⟨fun r => absurd r (nI_nle hL (by omega)), fun _ => c_become (by decide) wq (fun z12 hb2 => ?_)⟩
      obtain ⟨x1, y1, x2, x3, y2, y3, x4, x8, y4, x5, x6, x7⟩ := hb2
      have e14 : ∀ k, zR z12 14 k = zR z9 14 k := fun k => y2 14 k (by decide)
      have w12 : RW z12 d n := by
        have g := w.df df9
        unfold RW
        rw [y3, y1 (6 + d) 1 (by omega), y1 (6 + d) 2 (by omega), y1 (6 + d) 3 (by omega), y2 (6 + d) 4 (by omega), e14, e14, e14, e14]
        exact g
      obtain ⟨f1, f2, f3, f4, f5⟩ := ref0 z9 df9 wq
      have et12 : tcZ z12 d n = tcZ z d n := by
        rw [← f4]
        funext p
        unfold tcZ eL
        rw [e14]
      have em12 : mm0 z12 = mm0 z := by
        rw [← f5]
        unfold mm0
        rw [e14, e14]
      refine m_airT hd w12 (by rw [e14]; exact f2) (by rw [em12, ← f5]; exact f3) (fun q2 e2 => ?_) (fun q2 L2 b2 e2 ea2 => ?_) (fun q2 L2 m2 e2 ea2 z13 g k13 hg => ?_)
      · rw [et12, e] at e2
        exact absurd (congrArg Prod.snd e2) (fun h => by cases h)
      · rw [et12, e] at e2
        cases e2
        rw [et12, em12, ea] at ea2
        cases ea2
      · rw [et12, e] at e2
        cases e2
        rw [et12, em12, ea] at ea2
        cases ea2
        refine ⟨rfl, ?_⟩
        obtain ⟨u1, u2, u3, u4⟩ := hR9
        have rel12 : Rel (wA z12 14 0 g) := by
          refine ⟨?_, ?_, ?_, ?_⟩
          · have er : zR (wA z12 14 0 g) 14 0 = g := zR_wA z12 14 0 g
            rw [er]
            exact RA.bc (z := z9) (z1 := wA z12 14 0 g) (o := 1) (p := 2) (m := m1) x1 x2 x3 x4 x5 x6 x7 hg ra
          · rcases u2 with ⟨v1, v2⟩ | ⟨v1, v2, v3⟩
            · exact Or.inl ⟨(y1 0 3 (by decide)).trans v1, (y1 14 9 (by decide)).trans v2⟩
            · refine Or.inr ⟨(y1 0 3 (by decide)).trans v1, (y1 14 9 (by decide)).trans v2, ?_⟩
              refine v3.same (fun k => y1 3 k (by decide)) (fun k => y2 3 k (by decide)) (y4 3 (by decide)) x5 x6 x7 (fun k _ => ?_)
              show zR z12 14 1 k = zR z9 14 1 k
              rw [e14]
          · intro d2 hd2
            refine (u3 d2 hd2).same (fun k => y1 (6 + d2) k (by omega)) (fun k => ?_) (fun k h1 h2 => ?_) (by rw [← y3]; rfl) x5 x6 x7
            · rw [← y2 (6 + d2) k (by omega)]
              show (if 6 + d2 = 14 ∧ k = 0 then _ else zR z12 (6 + d2) k) = _
              rw [if_neg (by omega)]
            · rw [← e14 k]
              show (if 14 = 14 ∧ k = 0 then _ else zR z12 14 k) = _
              rw [if_neg (by omega)]
          · intro o k a hq
            show a ∈ zP z12
            rw [x5]
            have hq : zQ z12 o k = some a := hq
            by_cases ho : o = 1
            · subst ho
              by_cases hk : k < 8
              · rw [x4 k hk] at hq; exact wq _ _ _ hq
              · rw [x8 k (by omega)] at hq; exact wq _ _ _ hq
            · rw [y4 o ho] at hq; exact wq _ _ _ hq
        refine rel12.kp ⟨k13.1, fun o k hk => ?_, k13.2.2.1, k13.2.2.2.1, k13.2.2.2.2⟩
        show (if o = 14 ∧ k = 0 then g else zR z13 o k) = (if o = 14 ∧ k = 0 then g else zR z12 o k)
        by_cases ck : o = 14 ∧ k = 0
        · rw [if_pos ck, if_pos ck]
        · rw [if_neg ck, if_neg ck]; exact k13.2.1 o k hk
  · unfold V_X11_refusalOfBytes
    refine w.c ⟨fun q => absurd rfl q, fun _ => ⟨fun q => absurd (by rw [w.2.2.2.1] at q; exact q) s0, fun _ => ⟨fun q => absurd q (by decide), fun _ => ?_⟩⟩⟩
    unfold V_X12_air
    exact m_row2B hd w.1 ⟨by decide, s0⟩ ⟨fun q => absurd q (by decide), fun _ => ⟨rfl, hR⟩⟩
