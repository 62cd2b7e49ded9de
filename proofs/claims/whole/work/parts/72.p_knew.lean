/-! PURE, part 23: knew, safe -/
theorem sk_21 : SK_21 Rel := by
  intro z p1 p2 p3 p4 hR
  unfold V_X11_knew
  rcases fcase hR p1 with hb | ⟨f, a, g⟩
  · rcases fcase hR p2 with hb2 | ⟨f2, a2, g2⟩
    · exact c_fB hb (c_fB hb2 ⟨fun _ => (by unfold V_X12_knew; exact m_fB hR hb (no0 ⟨rfl, hR⟩)), fun a q => by cases q⟩)
    · exact c_fB hb (c_fO g2 ⟨fun _ => (by unfold V_X12_knew; exact m_fB hR hb (no0 ⟨rfl, hR⟩)), fun a q => by cases q⟩)
  rcases fcase hR p2 with hb2 | ⟨f2, a2, g2⟩
  · refine c_fO g (c_fB hb2 ⟨fun q => (by cases q), fun a' q => ⟨fun _ => ?_, fun a'' q => by cases q⟩⟩)
    unfold V_X12_knew
    exact m_fO hR g (no1 (m_fB hR hb2 (no0 ⟨rfl, hR⟩)))
  refine c_fO g (c_fO g2 ⟨fun q => (by cases q), fun a' q => ⟨fun q => (by cases q), fun a'' q2 => ?_⟩⟩)
  cases q
  cases q2
  have g5 := g.2.2.2.2.2
  have h5 := g2.2.2.2.2.2
  refine ⟨fun e => ?_, fun e => ge_place (fun c1 c2 => on1 ?_) (fun c => on0 ?_)⟩
  · unfold V_X12_knew
    exact m_fO hR g (no1 (m_fO hR g2 (no1 ⟨fun _ => ⟨rfl, hR⟩, fun q => absurd e q⟩)))
  · refine c_offFrom hR g5 c1 c2 (fun z1 o1 k1 => ?_)
    have hR1 := o1.rel hR
    refine c_offFrom hR1 (h5.kp o1.k4) c1 c2 (fun z2 o2 k2 => ?_)
    have o12 := o1.tr o2
    have hR2 := o12.rel hR
    dsimp only
    rw [k2.at.1, LA_kp o1.k4]
    refine c_held ?_
    rw [k2.at.2.1, LA_kp o1.k4]
    refine c_held ?_
    refine c_offFrom hR2 (g5.kp o12.k4) (hB_bd _) (hB_bd _) (fun z3 o3 k3 => ?_)
    have o13 := o12.tr o3
    have hR3 := o13.rel hR
    have g3 := g.kp o13.k4
    have g23 := g2.kp o13.k4
    unfold V_X12_knew
    refine m_fO hR3 g3 (no1 (m_fO hR3 g23 (no1 ⟨fun q => absurd q e, fun _ => ge_edge (fun _ => no1 (ge_edge (fun _ => on1 ?_) (fun c => absurd c2 c))) (fun c => absurd c1 c)⟩)))
    refine m_falls hR3 g23 c1 c2 (fun z4 u4 o4 k4 => ?_)
    rw [k4.at.1, LO_kp o13.k4]
    refine m_held ?_
    rw [k4.at.2.1, LO_kp o13.k4]
    refine m_held ?_
    have hR4 := hR3.kp o4.kp
    refine m_falls hR4 (g3.kp o4.kp) c1 c2 (fun z5 u5 o5 k5 => m_off k5 ?_)
    have hR5 := hR4.kp o5.kp
    refine m_falls hR5 ((g3.kp o4.kp).kp o5.kp) (hB_bd _) (hB_bd _) (fun z6 u6 o6 k6 => m_off k6 ?_)
    refine ⟨?_, hR5.kp o6.kp⟩
    rw [LO_kp o5.kp, LO_kp o4.kp, LO_kp o4.kp, LO_kp o13.k4, LO_kp o13.k4, LA_kp o12.k4]
  · unfold V_X12_knew
    exact m_fO hR g (no1 (m_fO hR g2 (no1 ⟨fun q => absurd q e, fun _ => ge_edge (fun c1 => no1 (ge_edge (fun c2 => absurd ⟨c1, c2⟩ c) (fun _ => on0 ⟨rfl, hR⟩))) (fun _ => no0 ⟨rfl, hR⟩)⟩)))
-- safe
def ys (j : Nat) : Int32 := -3000 + 100 * nI j
def xs (j : Nat) : Int32 := -30000 + 1000 * nI j
theorem ys_all : ∀ j, j < 61 → ¬ (3000 : Int32) < ys j ∧ ys j + 100 = ys (j + 1) ∧ ys j * 10 = xs j ∧ xs j / 10 = ys j ∧ ¬ (30000 : Int32) < xs j ∧ xs j + 1000 = xs (j + 1) ∧ (-30000 ≤ (xs j).toInt ∧ (xs j).toInt ≤ 30000) := by decide +kernel
theorem ys_end : (3000 : Int32) < ys 61 ∧ (30000 : Int32) < xs 61 := by decide +kernel
theorem ys_0 : ys 0 = -3000 := by decide +kernel
theorem xs_0 : xs 0 = -30000 := by decide +kernel
theorem dist_bd {a b : Int32} (ha : EG a) (hb : EG b) : 0 ≤ (am (a - b)).toInt ∧ (am (a - b)).toInt ≤ 60000 := by
  unfold EG at ha hb
  have e : (a - b).toInt = a.toInt - b.toInt := by
    rw [Int32.toInt_sub, Int.bmod_def]
    split <;> omega
  unfold am
  by_cases c : 0 ≤ a - b
  · rw [if_pos c]
    rw [Int32.le_iff_toInt_le, i_0] at c
    omega
  · rw [if_neg c]
    rw [Int32.le_iff_toInt_le, i_0] at c
    rw [Int32.toInt_sub, i_0, Int.bmod_def, e]
    split <;> omega
def sfD (x y : Int32) (i j : Nat) : Int32 := am (xs i - x) + am (xs j - y)
theorem sfD_bd {x y : Int32} (hx : EG x) (hy : EG y) {i j : Nat} (hi : i < 61) (hj : j < 61) : 0 ≤ (sfD x y i j).toInt ∧ (sfD x y i j).toInt ≤ 120000 := by
  have h1 := dist_bd (a := xs i) (b := x) (ys_all i hi).2.2.2.2.2.2 hx
  have h2 := dist_bd (a := xs j) (b := y) (ys_all j hj).2.2.2.2.2.2 hy
  unfold sfD
  rw [Int32.toInt_add, Int.bmod_def]
  split <;> omega
def sfC (d bar : Nat → Nat → Int32) (w : Int32) (i j : Nat) (a : T2) : T2 := if a.1 ≤ d i j then a else if bar i j = 0 then (d i j, if w = 0 then ys i else ys j) else a
def sfM (d bar : Nat → Nat → Int32) (i j : Nat) (a : T3) : T3 := if ¬ a.2.2 < 0 ∧ a.2.2 ≤ d i j then a else if bar i j = 0 then (xs i, xs j, d i j) else a
def sfR (w : Int32) (a : T2) (b : T3) : Prop := (a = (2147483647, -1000000004) ∧ b.2.2 = -4) ∨ (a.1 = b.2.2 ∧ (0 ≤ b.2.2.toInt ∧ b.2.2.toInt ≤ 120000) ∧ a.2 = if w = 0 then b.1 / 10 else b.2.1 / 10)
theorem sf_st {d bar : Nat → Nat → Int32} {w : Int32} {i j : Nat} (hi : i < 61) (hj : j < 61) (ho : 0 ≤ (d i j).toInt ∧ (d i j).toInt ≤ 120000) {a : T2} {b : T3} (h : sfR w a b) : sfR w (sfC d bar w i j a) (sfM d bar i j b) := by
  have next : sfR w (d i j, if w = 0 then ys i else ys j) (xs i, xs j, d i j) := by
    refine Or.inr ⟨rfl, ho, ?_⟩
    show (if w = 0 then ys i else ys j) = if w = 0 then xs i / 10 else xs j / 10
    rw [(ys_all i hi).2.2.2.1, (ys_all j hj).2.2.2.1]
  unfold sfC sfM
  rcases h with ⟨e1, e2⟩ | ⟨e1, e2, e3⟩
  · have n1 : ¬ a.1 ≤ d i j := fun q => by rw [e1, Int32.le_iff_toInt_le, show (2147483647 : Int32).toInt = 2147483647 by decide] at q; omega
    have n2 : ¬ (¬ b.2.2 < 0 ∧ b.2.2 ≤ d i j) := fun q => q.1 (by rw [e2]; decide)
    rw [if_neg n1, if_neg n2]
    by_cases c : bar i j = 0
    · rw [if_pos c, if_pos c]; exact next
    · rw [if_neg c, if_neg c]; exact Or.inl ⟨e1, e2⟩
  · by_cases c0 : b.2.2 ≤ d i j
    · rw [if_pos (by rw [e1]; exact c0), if_pos ⟨fun q => by rw [Int32.lt_iff_toInt_lt, i_0] at q; omega, c0⟩]
      exact Or.inr ⟨e1, e2, e3⟩
    · have n1 : ¬ a.1 ≤ d i j := by rw [e1]; exact c0
      have n2 : ¬ (¬ b.2.2 < 0 ∧ b.2.2 ≤ d i j) := fun q => c0 q.2
      rw [if_neg n1, if_neg n2]
      by_cases c : bar i j = 0
      · rw [if_pos c, if_pos c]; exact next
      · rw [if_neg c, if_neg c]; exact Or.inr ⟨e1, e2, e3⟩
theorem fo_rel1 {α β : Type} {N : Nat} (R : α → β → Prop) {g : Nat → α → α} {h : Nat → β → β} (st : ∀ i a b, i < N → R a b → R (g i a) (h i b)) : ∀ (k i : Nat) (a : α) (b : β), k + i ≤ N → R a b → R (fo g k i a) (fo h k i b) := by
  intro k
  induction k with
  | zero => intro i a b _ hr; exact hr
  | succ k ih =>
    intro i a b hi hr
    rw [fo_s, fo_s]
    exact ih (i + 1) _ _ (by omega) (st i a b (by omega) hr)
theorem sf_both {d bar : Nat → Nat → Int32} {w : Int32} (ho : ∀ i j, i < 61 → j < 61 → 0 ≤ (d i j).toInt ∧ (d i j).toInt ≤ 120000) : sfR w (fo (fun i a => fo (sfC d bar w i) 61 0 a) 61 0 (2147483647, -1000000004)) (fo (fun i a => fo (sfM d bar i) 61 0 a) 61 0 (0, 0, -4)) :=
  fo_rel1 (N := 61) (sfR w) (fun i a b hi h => fo_rel1 (N := 61) (sfR w) (fun j a b hj h => sf_st hi hj (ho i j hi hj) h) 61 0 a b (by omega) h) 61 0 _ _ (by omega) (Or.inl ⟨rfl, rfl⟩)
noncomputable def sfB (z : ZS) (i j : Nat) : Int32 := barV z (xs i) (xs j)
theorem c_safe46 {z : ZS} {x y w : Int32} (hR : Rel z) {post : Int32 → ZS → Prop} {rr : ZS → Int32 → Int32 → Int32 → Int32 → Int32 → Int32 → Prop} {i : Nat} (hi : i < 61) : ∀ (m j : Nat) (c : T2), m + j = 61 → rr z x y w (fo (sfC (sfD x y) (sfB z) w i) m j c).1 (fo (sfC (sfD x y) (sfB z) w i) m j c).2 (ys (i + 1)) → V_X11_safe_46 post rr (m + 1) z x y w c.1 c.2 (ys i) (ys j) := by
  intro m
  induction m with
  | zero =>
    intro j c e kk
    unfold V_X11_safe_46
    have hj : j = 61 := by omega
    subst hj
    refine ⟨fun _ t9 e9 => ?_, fun q => absurd ys_end.1 q⟩
    rw [e9, (ys_all i hi).2.1]
    exact kk
  | succ m ih =>
    intro j c e kk
    unfold V_X11_safe_46 V_X11_safe_119 V_X11_safe_121
    have hj : j < 61 := by omega
    rw [fo_s] at kk
    rw [(ys_all i hi).2.2.1, (ys_all j hj).2.2.1]
    have keep : sfC (sfD x y) (sfB z) w i j c = c → ∀ t12 : Int32, t12 = ys j + 100 → V_X11_safe_46 post rr (m + 1) z x y w c.1 c.2 (ys i) t12 := fun e3 t12 e12 => by
      rw [e3] at kk
      rw [e12, (ys_all j hj).2.1]
      exact ih (j + 1) c (by omega) kk
    refine ⟨fun q => absurd q (ys_all j hj).1, fun _ t10 e10 => ?_⟩
    have e10 : t10 = sfD x y i j := e10
    subst e10
    refine ⟨fun q => keep (if_pos q), fun q => c_bars hR ⟨fun q2 => keep ((if_neg q).trans (if_neg q2)), fun q2 => ⟨fun q3 t12 e12 => ?_, fun q3 t12 e12 => ?_⟩⟩⟩
    · have e3 : sfC (sfD x y) (sfB z) w i j c = (sfD x y i j, ys j) := by
        unfold sfC
        rw [if_neg q, if_pos (show sfB z i j = 0 from q2), if_neg q3]
      rw [e3] at kk
      rw [e12, (ys_all j hj).2.1]
      exact ih (j + 1) (sfD x y i j, ys j) (by omega) kk
    · have e3 : sfC (sfD x y) (sfB z) w i j c = (sfD x y i j, ys i) := by
        unfold sfC
        rw [if_neg q, if_pos (show sfB z i j = 0 from q2), if_pos q3]
      rw [e3] at kk
      rw [e12, (ys_all j hj).2.1]
      exact ih (j + 1) (sfD x y i j, ys i) (by omega) kk
theorem c_safe33 {z : ZS} {x y w : Int32} (hR : Rel z) {post : Int32 → ZS → Prop} : ∀ (m i : Nat) (c : T2), m + i = 61 → post (fo (fun i a => fo (sfC (sfD x y) (sfB z) w i) 61 0 a) m i c).2 z → V_X11_safe_33 post (m + 1) z x y w c.1 c.2 (ys i) := by
  intro m
  induction m with
  | zero =>
    intro i c e kk
    unfold V_X11_safe_33
    have hi : i = 61 := by omega
    subst hi
    exact ⟨fun _ => kk, fun q => absurd ys_end.1 q⟩
  | succ m ih =>
    intro i c e kk
    unfold V_X11_safe_33
    have hi : i < 61 := by omega
    refine ⟨fun q => absurd q (ys_all i hi).1, fun _ => ?_⟩
    have hx := c_safe46 hR (post := post) (x := x) (y := y) (w := w) (rr := V_X11_safe_33 post (m + 1)) hi 61 0 c rfl (ih (i + 1) (fo (sfC (sfD x y) (sfB z) w i) 61 0 c) (by omega) kk)
    rw [ys_0] at hx
    exact ⟨61 + 1, hx⟩
theorem m_safe55 {z : ZS} {x y w : Int32} (hR : Rel z) {post : Int32 → ZS → Prop} {rr : ZS → Int32 → Int32 → Int32 → Int32 → Int32 → Int32 → Int32 → Prop} {i : Nat} (hi : i < 61) : ∀ (m j : Nat) (c : T3), m + j = 61 → rr z x y w (fo (sfM (sfD x y) (sfB z) i) m j c).1 (fo (sfM (sfD x y) (sfB z) i) m j c).2.1 (fo (sfM (sfD x y) (sfB z) i) m j c).2.2 (xs (i + 1)) → V_X12_safe_55 post rr (m + 1) z x y w c.1 c.2.1 c.2.2 (xs i) (xs j) := by
  intro m
  induction m with
  | zero =>
    intro j c e kk
    unfold V_X12_safe_55
    have hj : j = 61 := by omega
    subst hj
    refine ⟨fun _ t9 e9 => ?_, fun q => absurd ys_end.2 q⟩
    rw [e9, (ys_all i hi).2.2.2.2.2.1]
    exact kk
  | succ m ih =>
    intro j c e kk
    unfold V_X12_safe_55 V_X12_safe_92 V_X12_safe_118
    have hj : j < 61 := by omega
    rw [fo_s] at kk
    have keep : sfM (sfD x y) (sfB z) i j c = c → ∀ t24 : Int32, t24 = xs j + 1000 → V_X12_safe_55 post rr (m + 1) z x y w c.1 c.2.1 c.2.2 (xs i) t24 := fun e3 t12 e12 => by
      rw [e3] at kk
      rw [e12, (ys_all j hj).2.2.2.2.2.1]
      exact ih (j + 1) c (by omega) kk
    have take : ¬ (¬ c.2.2 < 0 ∧ c.2.2 ≤ sfD x y i j) → V_X12_isBarred z (xs i) (xs j) (fun r22 z21 => ((r22 = 0 → (∀ t24 : Int32, t24 = xs j + (1000 : Int32) → V_X12_safe_55 post rr (m + 1) z21 x y w (xs i) (xs j) (sfD x y i j) (xs i) t24)) ∧ (¬ r22 = 0 → (∀ t24 : Int32, t24 = xs j + (1000 : Int32) → V_X12_safe_55 post rr (m + 1) z21 x y w c.1 c.2.1 c.2.2 (xs i) t24)))) := fun q => m_bars hR ⟨fun q2 t12 e12 => by
        have e3 : sfM (sfD x y) (sfB z) i j c = (xs i, xs j, sfD x y i j) := (if_neg q).trans (if_pos q2)
        rw [e3] at kk
        rw [e12, (ys_all j hj).2.2.2.2.2.1]
        exact ih (j + 1) (xs i, xs j, sfD x y i j) (by omega) kk, fun q2 => keep ((if_neg q).trans (if_neg q2))⟩
    refine ⟨fun q => absurd q (ys_all j hj).2.2.2.2.1, fun _ => m_amount (m_amount (fun t19 e19 => ?_))⟩
    have e19 : t19 = sfD x y i j := e19
    subst e19
    exact ⟨fun q => take (fun r => r.1 q), fun q => ⟨fun q2 => keep (if_pos ⟨q, q2⟩), fun q2 => take (fun r => q2 r.2)⟩⟩
theorem m_safe42 {z : ZS} {x y w : Int32} (hR : Rel z) {post : Int32 → ZS → Prop} : ∀ (m i : Nat) (c : T3), m + i = 61 → ((0 ≤ (fo (fun i a => fo (sfM (sfD x y) (sfB z) i) 61 0 a) m i c).2.2 → ((¬ w = 0 → post ((fo (fun i a => fo (sfM (sfD x y) (sfB z) i) 61 0 a) m i c).2.1 / (10 : Int32)) z) ∧ (w = 0 → post ((fo (fun i a => fo (sfM (sfD x y) (sfB z) i) 61 0 a) m i c).1 / (10 : Int32)) z))) ∧ (¬ 0 ≤ (fo (fun i a => fo (sfM (sfD x y) (sfB z) i) 61 0 a) m i c).2.2 → post (-1000000004 : Int32) z)) → V_X12_safe_42 post (m + 1) z x y w c.1 c.2.1 c.2.2 (xs i) := by
  intro m
  induction m with
  | zero =>
    intro i c e kk
    unfold V_X12_safe_42
    have hi : i = 61 := by omega
    subst hi
    exact ⟨fun _ => kk, fun q => absurd ys_end.2 q⟩
  | succ m ih =>
    intro i c e kk
    unfold V_X12_safe_42
    have hi : i < 61 := by omega
    refine ⟨fun q => absurd q (ys_all i hi).2.2.2.2.1, fun _ => ?_⟩
    have hx := m_safe55 hR (post := post) (x := x) (y := y) (w := w) (rr := V_X12_safe_42 post (m + 1)) hi 61 0 c rfl (ih (i + 1) (fo (sfM (sfD x y) (sfB z) i) 61 0 c) (by omega) kk)
    rw [xs_0] at hx
    exact ⟨61 + 1, hx⟩
theorem sk_18 : SK_18 Rel := by
  intro z p1 p2 p3 hR
  unfold V_X11_safe
  have mm : ∀ (z1 : ZS) (post : Int32 → ZS → Prop), (¬ (EG p1 ∧ EG p2 ∧ 0 ≤ p3.toInt ∧ p3.toInt ≤ 1) → post (-1000000001) z1) → (EG p1 → EG p2 → (0 ≤ p3.toInt ∧ p3.toInt ≤ 1) → (∃ n28 : Nat, V_X12_safe_42 post n28 z1 p1 p2 p3 (0 : Int32) (0 : Int32) (-4 : Int32) (-30000 : Int32))) → V_X12_safe z1 p1 p2 p3 post := fun z1 post h0 h1 => by
    unfold V_X12_safe
    exact ge_edge (fun c1 => no1 (ge_edge (fun c2 => no1 (ge_in 0 1 rfl rfl (fun c3 => on1 (h1 c1 c2 c3)) (fun c => on0 (h0 (fun q => c q.2.2))))) (fun c => no0 (h0 (fun q => c q.2.1))))) (fun c => no0 (h0 (fun q => c q.1)))
  have bad : ¬ (EG p1 ∧ EG p2 ∧ 0 ≤ p3.toInt ∧ p3.toInt ≤ 1) → V_X12_safe z p1 p2 p3 (fun r2 z2 => r2 = -1000000001 ∧ Rel z2) := fun q => mm z _ (fun _ => ⟨rfl, hR⟩) (fun c1 c2 c3 => absurd ⟨c1, c2, c3⟩ q)
  refine ge_place (fun c1 c2 => no1 (ge_from 0 1 rfl rfl (fun c3 => on1 ?_) (fun c => on0 (bad (fun q => c q.2.2))))) (fun c => no0 (bad (fun q => c ⟨q.1, q.2.1⟩)))
  obtain ⟨A, hA⟩ : ∃ A, fo (fun i a => fo (sfC (sfD p1 p2) (sfB z) p3 i) 61 0 a) 61 0 (2147483647, -1000000004) = A := ⟨_, rfl⟩
  obtain ⟨B, hB⟩ : ∃ B, fo (fun i a => fo (sfM (sfD p1 p2) (sfB z) i) 61 0 a) 61 0 (0, 0, -4) = B := ⟨_, rfl⟩
  have both := sf_both (d := sfD p1 p2) (bar := sfB z) (w := p3) (fun i j hi hj => sfD_bd c1 c2 hi hj)
  rw [hA, hB] at both
  have hc := c_safe33 hR (x := p1) (y := p2) (w := p3) (post := fun r z1 => V_X12_safe z1 p1 p2 p3 (fun r2 z2 => r2 = r ∧ Rel z2)) 61 0 (2147483647, -1000000004) rfl (by
    rw [hA]
    refine mm z _ (fun q => absurd ⟨c1, c2, c3⟩ q) (fun _ _ _ => ?_)
    have hm := m_safe42 hR (x := p1) (y := p2) (w := p3) (post := fun r2 z2 => r2 = A.2 ∧ Rel z2) 61 0 (0, 0, -4) rfl (by
      rw [hB]
      rcases both with ⟨e1, e2⟩ | ⟨e1, e2, e3⟩
      · rw [e1, e2]
        exact ⟨fun q => absurd q (by decide), fun _ => ⟨rfl, hR⟩⟩
      · rw [e3]
        refine ⟨fun _ => ⟨fun q => ?_, fun q => ?_⟩, fun q => absurd (by rw [Int32.le_iff_toInt_le, i_0]; exact e2.1) q⟩
        · rw [if_neg q]; exact ⟨rfl, hR⟩
        · rw [if_pos q]; exact ⟨rfl, hR⟩)
    rw [xs_0] at hm
    exact ⟨61 + 1, hm⟩)
  rw [ys_0] at hc
  exact ⟨61 + 1, hc⟩
