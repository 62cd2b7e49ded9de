/-! PURE, part 34: air: a STATEMENT and what it does; the class -/
theorem fml_all : fml 0 (sL 0) 0 = [100, 115, 110, 115, 110, 59] ∧ fml 1 (sL 1) 0 = [110, 59] ∧ fml 2 (sL 2) 0 = [110, 32, 110, 59] ∧ fml 3 (sL 3) 0 = [100, 100, 32, 110, 59] ∧ fml 4 (sL 4) 0 = [115, 110, 115, 110, 115, 110, 115, 110, 59] ∧ sL 5 = 0 := by decide +kernel
theorem sL_all : ∀ i, i < 5 → 0 < sL i ∧ sL i < 100 := by decide +kernel
theorem sCh_ne : ∀ i, i < 5 → ∀ k, k < sL i → sCh i (nI k) ≠ -1 := by decide +kernel
def fL (c : Int32) : List Int32 := if c = 97 then [110, 32, 110, 59] else if c = 98 then [115, 110, 115, 110, 115, 110, 115, 110, 59] else if c = 102 then [100, 100, 32, 110, 59] else if c = 103 then [110, 59] else [100, 115, 110, 115, 110, 59]
abbrev isLt (c : Int32) : Prop := c = 97 ∨ c = 98 ∨ c = 102 ∨ c = 103 ∨ c = 108
def stS (tc : Nat → Int32) (p : Nat) : SR := if isLt (tc p) then scF tc (fL (tc p)) (p + 1) 0 0 (fun _ => 0) else (p, none)
theorem scF_ge (tc : Nat → Int32) : ∀ (L : List Int32) (p cnt : Nat) (bl : Int32) (tl : Nat → Int32), p ≤ (scF tc L p cnt bl tl).1 := by
  intro L
  induction L with
  | nil => intro p cnt bl tl; exact Nat.le_refl _
  | cons c r ih =>
    intro p cnt bl tl
    rw [scF_s]
    split
    · split
      · exact Nat.le_trans (Nat.le_succ p) (ih _ _ _ _)
      · exact Nat.le_refl _
    · split
      · split
        · exact Nat.le_trans (Nat.le_add_right p _) (ih _ _ _ _)
        · exact Nat.le_refl _
      · split
        · split
          · exact Nat.le_trans (Nat.le_succ p) (ih _ _ _ _)
          · exact Nat.le_refl _
        · split
          · exact Nat.le_trans (Nat.le_succ p) (ih _ _ _ _)
          · exact Nat.le_refl _
theorem c_scanF {z : ZS} {d n p i : Nat} {L : List Int32} (hd : d < 8) (w : RW z d n) (hi : i < 5) (hL : fml i (sL i) 0 = L) (hN : nN L ≤ 4) (hp : p < n) {post : Int32 → ZS → Prop} (k0 : ∀ q, scF (tcZ z d n) L (p + 1) 0 0 (fun _ => 0) = (q, none) → q ≤ n → ∀ z1, S9 z z1 → post (nI q ^^^ (-1 : Int32)) z1) (k1 : ∀ q tl1, scF (tcZ z d n) L (p + 1) 0 0 (fun _ => 0) = (q, some tl1) → q ≤ n → ∀ z1, S9 z z1 → (∀ j, j < nN L → zR z1 2 9 j = tl1 j) → post (nI q) z1) : V_J0_isEmpty z i (fun r5 z6 => ((r5 = 0 → (∀ t8 : Int32, t8 = (nI p + (1 : Int32)) → (∃ n33 : Nat, V_X0_scan_34 2 (6 + d) post n33 z6 i t8 (0 : Int32) (0 : Int32) (0 : Int32)))) ∧ (¬ r5 = 0 → post (nI p ^^^ (-1 : Int32)) z6))) := by
  have hs := sL_all i hi
  unfold V_J0_isEmpty
  have e0 : (if sL i = 0 then (1 : Int32) else 0) = 0 := if_neg (by omega)
  rw [e0]
  refine no0 (fun t8 e8 => ?_)
  rw [e8, nI_1]
  have h := c_scan_lp hd w (i := i) hs.2 (sCh_ne i hi) (post := post) (sL i) 0 (p + 1) 0 0 (fun _ => 0) z rfl (by omega) (by rw [hL]; omega) (S9.rf z) (fun j hj => absurd hj (Nat.not_lt_zero j)) (by rw [hL]; exact k0) (by rw [hL]; exact fun q tl1 e hq z1 s1 h1 => k1 q tl1 e hq z1 s1 (fun j hj => h1 j (by omega)))
  exact ⟨sL i + 1, h⟩
theorem c_scan {z : ZS} {d n p : Nat} (hd : d < 8) (w : RW z d n) (hp : p ≤ n) {post : Int32 → ZS → Prop} (k0 : ∀ q, stS (tcZ z d n) p = (q, none) → q ≤ n → ∀ z1, S9 z z1 → post (nI q ^^^ (-1 : Int32)) z1) (k1 : ∀ q tl1, stS (tcZ z d n) p = (q, some tl1) → p < q → q ≤ n → ∀ z1, S9 z z1 → (∀ j, j < nN (fL (tcZ z d n p)) → zR z1 2 9 j = tl1 j) → post (nI q) z1) : V_X0_scan z 2 (6 + d) (nI p) post := by
  have hn := w.2.2.2.2.2.1
  unfold V_X0_scan
  refine c_val w (by omega) ?_
  unfold V_X0_formOf
  unfold stS fL at k0 k1
  generalize hc : tcZ z d n p = c at k0 k1 ⊢
  have hlt : isLt c → p < n := fun h => by
    apply Nat.lt_of_not_le
    intro q
    have e : c = -1 := by rw [← hc]; unfold tcZ; rw [if_neg (by omega)]
    rw [e] at h
    exact absurd h (by decide)
  obtain ⟨f0, f1, f2, f3, f4, f5⟩ := fml_all
  have go : ∀ (i : Nat) (L : List Int32), i < 5 → fml i (sL i) 0 = L → nN L ≤ 4 → isLt c → (if c = 97 then [110, 32, 110, 59] else if c = 98 then [115, 110, 115, 110, 115, 110, 115, 110, 59] else if c = 102 then [100, 100, 32, 110, 59] else if c = 103 then [110, 59] else [100, 115, 110, 115, 110, 59]) = L → V_J0_isEmpty z i (fun r5 z6 => ((r5 = 0 → (∀ t8 : Int32, t8 = (nI p + (1 : Int32)) → (∃ n33 : Nat, V_X0_scan_34 2 (6 + d) post n33 z6 i t8 (0 : Int32) (0 : Int32) (0 : Int32)))) ∧ (¬ r5 = 0 → post (nI p ^^^ (-1 : Int32)) z6))) := fun i L hi hL hN hl eL => by
    rw [if_pos hl, eL] at k0 k1
    refine c_scanF hd w hi hL hN (hlt hl) k0 (fun q tl1 e hq z1 s1 h1 => k1 q tl1 e ?_ hq z1 s1 h1)
    have := scF_ge (tcZ z d n) L (p + 1) 0 0 (fun _ => 0)
    rw [e] at this
    exact this
  refine ⟨fun q => go 2 _ (by decide) f2 (by decide) (Or.inl q) (if_pos q), fun q1 => ⟨fun q => go 4 _ (by decide) f4 (by decide) (Or.inr (Or.inl q)) ((if_neg q1).trans (if_pos q)), fun q2 => ⟨fun q => go 3 _ (by decide) f3 (by decide) (Or.inr (Or.inr (Or.inl q))) ((if_neg q1).trans ((if_neg q2).trans (if_pos q))), fun q3 => ⟨fun q => go 1 _ (by decide) f1 (by decide) (Or.inr (Or.inr (Or.inr (Or.inl q)))) ((if_neg q1).trans ((if_neg q2).trans ((if_neg q3).trans (if_pos q)))), fun q4 => ⟨fun q => go 0 _ (by decide) f0 (by decide) (Or.inr (Or.inr (Or.inr (Or.inr q)))) ((if_neg q1).trans ((if_neg q2).trans ((if_neg q3).trans (if_neg q4)))), fun q5 => ?_⟩⟩⟩⟩⟩
  have nl : ¬ isLt c := fun h => h.elim q1 (fun h => h.elim q2 (fun h => h.elim q3 (fun h => h.elim q4 q5)))
  rw [if_neg nl] at k0
  unfold V_J0_isEmpty
  dsimp only
  rw [f5, if_pos rfl]
  exact no1 (k0 p rfl hp z (S9.rf z))
theorem scF_keep (tc : Nat → Int32) : ∀ (L : List Int32) (p cnt : Nat) (bl : Int32) (tl : Nat → Int32) (q : Nat) (t1 : Nat → Int32), scF tc L p cnt bl tl = (q, some t1) → ∀ j, j < cnt → t1 j = tl j := by
  intro L
  induction L with
  | nil =>
    intro p cnt bl tl q t1 e j _
    have e2 : some tl = some t1 := congrArg Prod.snd e
    rw [Option.some.inj e2]
  | cons c r ih =>
    intro p cnt bl tl q t1 e j hj
    rw [scF_s] at e
    split at e
    · split at e
      · rw [ih _ _ _ _ _ _ e j (by omega), upd_ne (by omega)]
      · exact absurd (congrArg Prod.snd e) (fun h => by cases h)
    · split at e
      · split at e
        · rw [ih _ _ _ _ _ _ e j (by omega), upd_ne (by omega)]
        · exact absurd (congrArg Prod.snd e) (fun h => by cases h)
      · split at e
        · split at e
          · exact ih _ _ _ _ _ _ e j hj
          · exact absurd (congrArg Prod.snd e) (fun h => by cases h)
        · split at e
          · exact ih _ _ _ _ _ _ e j hj
          · exact absurd (congrArg Prod.snd e) (fun h => by cases h)
theorem sc100 {tc : Nat → Int32} {r : List Int32} {p cnt q : Nat} {tl t1 : Nat → Int32} (e : scF tc (100 :: r) p cnt 0 tl = (q, some t1)) : isDg (tc p) ∧ scF tc r (p + 1) (cnt + 1) 0 (upd tl cnt (tc p - 48)) = (q, some t1) := by
  rw [scF_s, if_pos rfl, if_pos rfl] at e
  split at e
  · rename_i h; exact ⟨h, e⟩
  · exact absurd (congrArg Prod.snd e) (fun h => by cases h)
theorem sc110 {tc : Nat → Int32} {r : List Int32} {p cnt q : Nat} {tl t1 : Nat → Int32} (e : scF tc (110 :: r) p cnt 0 tl = (q, some t1)) : isDg (tc p) ∧ scF tc r (p + (nmF tc p).1) (cnt + 1) 0 (upd tl cnt (nmF tc p).2) = (q, some t1) := by
  rw [scF_s, if_neg (by decide), if_pos rfl, if_pos rfl] at e
  split at e
  · rename_i h; exact ⟨h, e⟩
  · exact absurd (congrArg Prod.snd e) (fun h => by cases h)
theorem sc32 {tc : Nat → Int32} {r : List Int32} {p cnt q : Nat} {tl t1 : Nat → Int32} (e : scF tc (32 :: r) p cnt 0 tl = (q, some t1)) : scF tc r (p + 1) cnt 0 tl = (q, some t1) := by
  rw [scF_s, if_neg (by decide), if_neg (by decide), if_neg (by decide)] at e
  split at e
  · exact e
  · exact absurd (congrArg Prod.snd e) (fun h => by cases h)
/-- what a STATEMENT's numbers are, as its form has them -/
theorem st_l {tc : Nat → Int32} {p q : Nat} {t1 : Nat → Int32} (hc : tc p = 108) (e : stS tc p = (q, some t1)) : 0 ≤ (t1 0).toInt ∧ (t1 0).toInt ≤ 9 := by
  unfold stS fL at e
  rw [hc, if_pos (by decide), if_neg (by decide), if_neg (by decide), if_neg (by decide), if_neg (by decide)] at e
  obtain ⟨h1, e1⟩ := sc100 e
  have k := scF_keep tc _ _ _ _ _ _ _ e1 0 (by decide)
  rw [k, upd_at]
  exact (dg_v h1).2
theorem st_f {tc : Nat → Int32} {p q n : Nat} {t1 : Nat → Int32} (hE : ∀ q, n ≤ q → ¬ isDg (tc q)) (hc : tc p = 102) (e : stS tc p = (q, some t1)) : (0 ≤ (t1 0).toInt ∧ (t1 0).toInt ≤ 9) ∧ (0 ≤ (t1 1).toInt ∧ (t1 1).toInt ≤ 9) ∧ 0 ≤ (t1 2).toInt := by
  unfold stS fL at e
  rw [hc, if_pos (by decide), if_neg (by decide), if_neg (by decide), if_pos rfl] at e
  obtain ⟨h1, e1⟩ := sc100 e
  have k0 := scF_keep tc _ _ _ _ _ _ _ e1 0 (by decide)
  obtain ⟨h2, e2⟩ := sc100 e1
  have k1 := scF_keep tc _ _ _ _ _ _ _ e2 1 (by decide)
  have e3 := sc32 e2
  obtain ⟨h4, e4⟩ := sc110 e3
  have k2 := scF_keep tc _ _ _ _ _ _ _ e4 2 (by decide)
  rw [k0, k1, k2, upd_at, upd_at, upd_at]
  exact ⟨(dg_v h1).2, (dg_v h2).2, (nm_eq hE h4).2.2.2.2.1⟩
-- what a STATEMENT does
def cmF (c : Int32) (tl m : Nat → Int32) : Option (Nat → Int32) :=
  if c = 97 then (if (0 ≤ (tl 0).toInt ∧ (tl 0).toInt ≤ 900) ∧ (300 ≤ (tl 1).toInt ∧ (tl 1).toInt ≤ 3000) then some (upd (upd m 1 (tl 0)) 2 (tl 1)) else none)
  else if c = 102 then (if (tl 0).toInt ≤ 7 ∧ (tl 2).toInt ≤ 20 ∧ ¬ m 3 = 8 then some (upd (upd (upd (upd m (25 + 3 * (m 3).toNatClampNeg) (tl 0)) (26 + 3 * (m 3).toNatClampNeg) (tl 1)) (27 + 3 * (m 3).toNatClampNeg) (tl 2)) 3 (m 3 + 1)) else none)
  else if c = 103 then (if 0 ≤ (tl 0).toInt ∧ (tl 0).toInt ≤ 30 then some (upd m 0 (tl 0)) else none)
  else if c = 108 then (if (-90 ≤ (tl 1).toInt ∧ (tl 1).toInt ≤ 90) ∧ (-90 ≤ (tl 2).toInt ∧ (tl 2).toInt ≤ 90) then some (upd (upd m (5 + 2 * (tl 0).toNatClampNeg) (tl 1)) (6 + 2 * (tl 0).toNatClampNeg) (tl 2)) else none)
  else (if (¬ 6 ≤ m 4) ∧ ((-3000 ≤ (tl 0).toInt ∧ (tl 0).toInt ≤ 3000) ∧ (-3000 ≤ (tl 1).toInt ∧ (tl 1).toInt ≤ 3000) ∧ (-3000 ≤ (tl 2).toInt ∧ (tl 2).toInt ≤ 3000) ∧ (-3000 ≤ (tl 3).toInt ∧ (tl 3).toInt ≤ 3000)) then some (upd (upd (upd (upd (upd m (49 + 4 * (m 4).toNatClampNeg) (lsr (10 * tl 0) (10 * tl 2))) (51 + 4 * (m 4).toNatClampNeg) (10 * tl 0 + 10 * tl 2 - lsr (10 * tl 0) (10 * tl 2))) (50 + 4 * (m 4).toNatClampNeg) (lsr (10 * tl 1) (10 * tl 3))) (52 + 4 * (m 4).toNatClampNeg) (10 * tl 1 + 10 * tl 3 - lsr (10 * tl 1) (10 * tl 3))) 4 (m 4 + 1)) else none)
/-- what must hold of the numbers -/
def tlOK (c : Int32) (tl : Nat → Int32) : Prop := (c = 108 → 0 ≤ (tl 0).toInt ∧ (tl 0).toInt ≤ 9) ∧ (c = 102 → (0 ≤ (tl 0).toInt ∧ (tl 0).toInt ≤ 9) ∧ (0 ≤ (tl 1).toInt ∧ (tl 1).toInt ≤ 9) ∧ 0 ≤ (tl 2).toInt)
theorem c_told {z : ZS} {c : Int32} {tl m : Nat → Int32} (hR : RA z 2 m) (hl : isLt c) (ht : tlOK c tl) (h9 : ∀ j, j < nN (fL c) → zR z 2 9 j = tl j) {post : Int32 → ZS → Prop} (k0 : cmF c tl m = none → post 0 z) (k1 : ∀ m1, cmF c tl m = some m1 → post 1 z) : V_X0_isAsTold z 2 c post := by
  unfold V_X0_isAsTold
  unfold cmF at k0 k1
  have a3 : m 3 = zI z 2 6 := hR.1.2.2.2.1
  have a4 : m 4 = zI z 2 8 := hR.1.2.2.2.2
  obtain ⟨n3, hn3, e3, -⟩ := hR.2.2.1
  refine ⟨fun q => ?_, fun q1 => ⟨fun q => ?_, fun q2 => ⟨fun q => ?_, fun q3 => ⟨fun q => ?_, fun q4 => ?_⟩⟩⟩⟩
  · subst q
    rw [if_pos rfl] at k0 k1
    have t0 := h9 0 (by decide)
    have t1 := h9 1 (by decide)
    rw [t0]
    refine ge_from 0 900 rfl rfl (fun c1 => no1 ?_) (fun c1 => no0 (k0 (if_neg (fun q => c1 q.1))))
    rw [t1]
    exact ge_from 300 3000 rfl rfl (fun c2 => no1 (k1 _ (if_pos ⟨c1, c2⟩))) (fun c2 => no0 (k0 (if_neg (fun q => c2 q.2))))
  · subst q
    rw [if_neg (by decide), if_pos rfl] at k0 k1
    have t0 := h9 0 (by decide)
    have t2 := h9 2 (by decide)
    have hb := ht.2 rfl
    rw [t0]
    refine ge_from 0 7 rfl rfl (fun c1 => no1 ?_) (fun c1 => no0 (k0 (if_neg (fun q => c1 ⟨hb.1.1, q.1⟩))))
    rw [t2]
    refine ge_from 0 20 rfl rfl (fun c2 => no1 ⟨fun q => k0 (if_neg (fun r => r.2.2 ?_)), fun q => k1 _ (if_pos ⟨c1.2, c2.2, fun r => q ?_⟩)⟩) (fun c2 => no0 (k0 (if_neg (fun q => c2 ⟨hb.2.2, q.2.1⟩))))
    · rw [e3, show (8 : Int32) = nI 8 from rfl] at q
      have h8 : 8 ≤ n3 := (nI_leI (by omega) (by omega)).mp q
      have : n3 = 8 := by omega
      rw [a3, e3, this]
      rfl
    · rw [← a3, r]
      decide
  · subst q
    rw [if_neg (by decide), if_neg (by decide), if_pos rfl] at k0 k1
    rw [h9 0 (by decide)]
    exact ge_from 0 30 rfl rfl (fun c1 => ⟨rfl, k1 _ (if_pos c1)⟩) (fun c1 => ⟨rfl, k0 (if_neg c1)⟩)
  · subst q
    rw [if_neg (by decide), if_neg (by decide), if_neg (by decide), if_pos rfl] at k0 k1
    have hb := ht.1 rfl
    have t1 := h9 1 (by decide)
    have t2 := h9 2 (by decide)
    rw [h9 0 (by decide), e_isLayer, if_pos hb]
    refine no1 ?_
    unfold V_X0_isWind
    rw [t1]
    refine ge_from (-90) 90 rfl rfl (fun c1 => ⟨rfl, no1 ?_⟩) (fun c1 => ⟨rfl, no0 (k0 (if_neg (fun q => c1 q.1)))⟩)
    rw [t2]
    exact ge_from (-90) 90 rfl rfl (fun c2 => ⟨rfl, no1 (k1 _ (if_pos ⟨c1, c2⟩))⟩) (fun c2 => ⟨rfl, no0 (k0 (if_neg (fun q => c2 q.2)))⟩)
  · have q : c = 98 := hl.elim (fun h => absurd h q1) (fun h => h.elim id (fun h => h.elim (fun h => absurd h q2) (fun h => h.elim (fun h => absurd h q3) (fun h => absurd h q4))))
    subst q
    rw [if_neg (by decide), if_neg (by decide), if_neg (by decide), if_neg (by decide)] at k0 k1
    have t0 := h9 0 (by decide)
    have t1 := h9 1 (by decide)
    have t2 := h9 2 (by decide)
    have t3 := h9 3 (by decide)
    unfold V_X0_isYards
    rw [t0]
    refine ge_from (-3000) 3000 rfl rfl (fun c1 => ⟨rfl, no1 ?_⟩) (fun c1 => ⟨rfl, no0 (k0 (if_neg (fun q => c1 q.2.1)))⟩)
    rw [t1]
    refine ge_from (-3000) 3000 rfl rfl (fun c2 => ⟨rfl, no1 ?_⟩) (fun c1 => ⟨rfl, no0 (k0 (if_neg (fun q => c1 q.2.2.1)))⟩)
    rw [t2]
    refine ge_from (-3000) 3000 rfl rfl (fun c3 => ⟨rfl, no1 ?_⟩) (fun c1 => ⟨rfl, no0 (k0 (if_neg (fun q => c1 q.2.2.2.1)))⟩)
    rw [t3]
    refine ge_from (-3000) 3000 rfl rfl (fun c4 => ⟨rfl, no1 ⟨fun q => k0 (if_neg (fun r => r.1 ?_)), fun q => k1 _ (if_pos ⟨fun r => q ?_, c1, c2, c3, c4⟩)⟩⟩) (fun c1 => ⟨rfl, no0 (k0 (if_neg (fun q => c1 q.2.2.2.2)))⟩)
    · rw [a4]; exact q
    · rw [← a4]; exact r
