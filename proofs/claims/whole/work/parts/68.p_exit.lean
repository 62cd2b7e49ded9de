/-! PURE, part 19: folds; exit -/
def fo {α : Type} (g : Nat → α → α) : Nat → Nat → α → α
  | 0, _, a => a
  | (k + 1), i, a => fo g k (i + 1) (g i a)
theorem fo_s {α : Type} (g : Nat → α → α) (k i : Nat) (a : α) : fo g (k + 1) i a = fo g k (i + 1) (g i a) := rfl
theorem fo_rel {α β : Type} {N : Nat} (R S : α → β → Prop) (sr : ∀ a b, S a b → R a b) {g : Nat → α → α} {h : Nat → β → β} (st : ∀ i a b, i < N → R a b → S (g i a) (h i b)) : ∀ (k i : Nat) (a : α) (b : β), k + 1 + i ≤ N → R a b → S (fo g (k + 1) i a) (fo h (k + 1) i b) := by
  intro k
  induction k with
  | zero => intro i a b hi hr; exact st i a b (by omega) hr
  | succ k ih =>
    intro i a b hi hr
    rw [fo_s, fo_s]
    exact ih (i + 1) _ _ (by omega) (sr _ _ (st i a b (by omega) hr))
theorem fo_eq {α : Type} {N : Nat} {g h : Nat → α → α} (st : ∀ i a, i < N → g i a = h i a) : ∀ (k i : Nat) (a : α), k + i ≤ N → fo g k i a = fo h k i a := by
  intro k
  induction k with
  | zero => intro i a _; rfl
  | succ k ih =>
    intro i a hi
    rw [fo_s, fo_s, st i a (by omega)]
    exact ih (i + 1) _ (by omega)
theorem fo_inv {α : Type} {N : Nat} (R : α → Prop) {g : Nat → α → α} (st : ∀ i a, i < N → R a → R (g i a)) : ∀ (k i : Nat) (a : α), k + i ≤ N → R a → R (fo g k i a) := by
  intro k
  induction k with
  | zero => intro i a _ h; exact h
  | succ k ih =>
    intro i a hi h
    rw [fo_s]
    exact ih (i + 1) _ (by omega) (st i a (by omega) h)
-- exit
def ex (j : Nat) : Int32 := -10000 + 1000 * nI j
theorem ex_all : ∀ j, j < 21 → ¬ (10000 : Int32) < ex j ∧ ex j + 1000 = ex (j + 1) ∧ (-30000 ≤ (ex j).toInt ∧ (ex j).toInt ≤ 30000) := by decide +kernel
theorem ex_end : (10000 : Int32) < ex 21 := by decide +kernel
theorem ex_E {j : Nat} (h : j < 21) : EG (ex j) := (ex_all j h).2.2
abbrev T3 : Type := Int32 × Int32 × Int32
def exC (o : Nat → Nat → Int32) (i j : Nat) (a : T3) : T3 := if a.1 ≤ o i j then a else (o i j, ex i, ex j)
def exM (o : Nat → Nat → Int32) (i j : Nat) (a : T3) : T3 := if a.2.2 < 0 then (ex i, ex j, o i j) else if o i j < a.2.2 then (ex i, ex j, o i j) else a
def exR (a b : T3) : Prop := (a = (2147483647, b.1, b.2.1) ∧ b.2.2 = -4) ∨ (a = (b.2.2, b.1, b.2.1) ∧ 0 ≤ b.2.2.toInt ∧ b.2.2.toInt ≤ 60000)
def exS (a b : T3) : Prop := a = (b.2.2, b.1, b.2.1) ∧ 0 ≤ b.2.2.toInt ∧ b.2.2.toInt ≤ 60000
theorem ex_st {o : Nat → Nat → Int32} {i j : Nat} (ho : 0 ≤ (o i j).toInt ∧ (o i j).toInt ≤ 60000) {a b : T3} (h : exR a b) : exS (exC o i j a) (exM o i j b) := by
  unfold exC exM
  rcases h with ⟨e1, e2⟩ | ⟨e1, e2, e3⟩
  · rw [e1, e2, if_neg (fun q => by rw [Int32.le_iff_toInt_le, show (2147483647 : Int32).toInt = 2147483647 by decide] at q; omega), if_pos (by decide)]
    exact ⟨rfl, ho⟩
  · rw [e1, if_neg (show ¬ b.2.2 < 0 from fun q => by rw [Int32.lt_iff_toInt_lt, i_0] at q; omega)]
    by_cases c : b.2.2 ≤ o i j
    · rw [if_pos (show (b.2.2, b.1, b.2.1).1 ≤ o i j from c), if_neg (fun q => by rw [Int32.lt_iff_toInt_lt] at q; rw [Int32.le_iff_toInt_le] at c; omega)]
      exact ⟨rfl, e2, e3⟩
    · rw [if_neg (show ¬ (b.2.2, b.1, b.2.1).1 ≤ o i j from c), if_pos (by rw [Int32.lt_iff_toInt_lt]; rw [Int32.le_iff_toInt_le] at c; omega)]
      exact ⟨rfl, ho⟩
theorem ex_both {o : Nat → Nat → Int32} (ho : ∀ i j, i < 21 → j < 21 → 0 ≤ (o i j).toInt ∧ (o i j).toInt ≤ 60000) : exS (fo (fun i a => fo (exC o i) 21 0 a) 21 0 (2147483647, 0, 0)) (fo (fun i a => fo (exM o i) 21 0 a) 21 0 (0, 0, -4)) :=
  fo_rel (N := 21) exR exS (fun _ _ h => Or.inr h) (fun i a b hi h => fo_rel (N := 21) exR exS (fun _ _ h => Or.inr h) (fun j a b hj h => ex_st (ho i j hi hj) h) 20 0 a b (by omega) h) 20 0 _ _ (by omega) (Or.inl ⟨rfl, rfl⟩)
noncomputable def exO (z : ZS) (k f op : Int32) (i j : Nat) : Int32 := offT (LA z k f op (ex i) (ex j) 1)
theorem ex_0 : ex 0 = -10000 := by decide +kernel
theorem c_exit53 {z0 : ZS} {a : Nat} {k f op w : Int32} (hR : Rel z0) (g : FA z0 a k f op) {post : Int32 → ZS → Prop} {rr : ZS → Int32 → Nat → Int32 → Int32 → Int32 → Int32 → Prop} {i : Nat} (hi : i < 21) : ∀ (m j : Nat) (z : ZS) (c : T3), m + j = 21 → OF 4 z0 z → (∀ z1, OF 4 z0 z1 → rr z1 w a (fo (exC (exO z0 k f op) i) m j c).1 (fo (exC (exO z0 k f op) i) m j c).2.1 (fo (exC (exO z0 k f op) i) m j c).2.2 (ex (i + 1))) → V_X11_exit_53 post rr (m + 1) z w a c.1 c.2.1 c.2.2 (ex i) (ex j) := by
  intro m
  induction m with
  | zero =>
    intro j z c e o kk
    unfold V_X11_exit_53
    have hj : j = 21 := by omega
    subst hj
    refine ⟨fun _ t11 e11 => ?_, fun q => absurd ex_end q⟩
    rw [e11, (ex_all i hi).2.1]
    exact kk z o
  | succ m ih =>
    intro j z c e o kk
    unfold V_X11_exit_53 V_X11_exit_94
    have hj : j < 21 := by omega
    refine ⟨fun q => absurd q (ex_all j hj).1, fun _ => c_offFrom (o.rel hR) (g.kp o.k4) (ex_E hi) (ex_E hj) (fun z1 o1 _ => ?_)⟩
    rw [LA_kp o.k4]
    rw [fo_s] at kk
    refine ⟨fun q t15 e15 => ?_, fun q t15 e15 => ?_⟩
    · have e3 : exC (exO z0 k f op) i j c = c := if_pos q
      rw [e3] at kk
      rw [e15, (ex_all j hj).2.1]
      exact ih (j + 1) z1 c (by omega) (o.tr o1) kk
    · have e3 : exC (exO z0 k f op) i j c = (exO z0 k f op i j, ex i, ex j) := if_neg q
      rw [e3] at kk
      rw [e15, (ex_all j hj).2.1]
      exact ih (j + 1) z1 (exO z0 k f op i j, ex i, ex j) (by omega) (o.tr o1) kk
theorem c_exit53n {z0 z : ZS} {a : Nat} {k f op w : Int32} (hR : Rel z0) (g : FA z0 a k f op) {post : Int32 → ZS → Prop} {rr : ZS → Int32 → Nat → Int32 → Int32 → Int32 → Int32 → Prop} {i : Nat} (hi : i < 21) {c : T3} (o : OF 4 z0 z) (kk : ∀ z1, OF 4 z0 z1 → rr z1 w a (fo (exC (exO z0 k f op) i) 21 0 c).1 (fo (exC (exO z0 k f op) i) 21 0 c).2.1 (fo (exC (exO z0 k f op) i) 21 0 c).2.2 (ex (i + 1))) : ∃ n, V_X11_exit_53 post rr n z w a c.1 c.2.1 c.2.2 (ex i) (-10000 : Int32) := by
  have h := c_exit53 hR g (post := post) (rr := rr) (w := w) hi 21 0 z c rfl o kk
  rw [ex_0] at h
  exact ⟨21 + 1, h⟩
theorem c_exit40 {z0 : ZS} {a : Nat} {k f op w : Int32} (hR : Rel z0) (g : FA z0 a k f op) {post : Int32 → ZS → Prop} : ∀ (m i : Nat) (z : ZS) (c : T3), m + i = 21 → OF 4 z0 z → (∀ z1, OF 4 z0 z1 → ((¬ w = 0 → ((¬ w = (1 : Int32) → post (fo (fun i a => fo (exC (exO z0 k f op) i) 21 0 a) m i c).1 z1) ∧ (w = (1 : Int32) → post (fo (fun i a => fo (exC (exO z0 k f op) i) 21 0 a) m i c).2.2 z1))) ∧ (w = 0 → post (fo (fun i a => fo (exC (exO z0 k f op) i) 21 0 a) m i c).2.1 z1))) → V_X11_exit_40 post (m + 1) z w a c.1 c.2.1 c.2.2 (ex i) := by
  intro m
  induction m with
  | zero =>
    intro i z c e o kk
    unfold V_X11_exit_40
    have hi : i = 21 := by omega
    subst hi
    exact ⟨fun _ => kk z o, fun q => absurd ex_end q⟩
  | succ m ih =>
    intro i z c e o kk
    unfold V_X11_exit_40
    have hi : i < 21 := by omega
    refine ⟨fun q => absurd q (ex_all i hi).1, fun _ => c_exit53n hR g hi o (fun z1 o1 => ?_)⟩
    exact ih (i + 1) z1 (fo (exC (exO z0 k f op) i) 21 0 c) (by omega) o1 kk
theorem m_exit50 {z0 : ZS} {a f : Nat} {p w : Int32} (hR : Rel z0) (g : FO z0 p f a) {post : Int32 → ZS → Prop} {rr : ZS → Int32 → Int32 → Int32 → Int32 → Int32 → Int32 → Prop} {i : Nat} (hi : i < 21) : ∀ (m j : Nat) (z : ZS) (c : T3), m + j = 21 → OM z0 z → (∀ z1, OM z0 z1 → rr z1 p w (fo (exM (exO z0 (kO z0 f) (fO z0 f) (oO z0 f)) i) m j c).1 (fo (exM (exO z0 (kO z0 f) (fO z0 f) (oO z0 f)) i) m j c).2.1 (fo (exM (exO z0 (kO z0 f) (fO z0 f) (oO z0 f)) i) m j c).2.2 (ex (i + 1))) → V_X12_exit_50 post rr (m + 1) z p w c.1 c.2.1 c.2.2 (ex i) (ex j) := by
  intro m
  induction m with
  | zero =>
    intro j z c e o kk
    unfold V_X12_exit_50
    have hj : j = 21 := by omega
    subst hj
    refine ⟨fun _ t11 e11 => ?_, fun q => absurd ex_end q⟩
    rw [e11, (ex_all i hi).2.1]
    exact kk z o
  | succ m ih =>
    intro j z c e o kk
    unfold V_X12_exit_50 V_X12_exit_85 V_X12_exit_98
    have hj : j < 21 := by omega
    refine ⟨fun q => absurd q (ex_all j hj).1, fun _ => m_falls (hR.kp o.kp) (g.kp o.kp) (ex_E hi) (ex_E hj) (fun z1 u o1 k1 => ?_)⟩
    rw [LO_kp o.kp] at k1
    rw [fo_s] at kk
    have take : exM (exO z0 (kO z0 f) (fO z0 f) (oO z0 f)) i j c = (ex i, ex j, exO z0 (kO z0 f) (fO z0 f) (oO z0 f) i j) → V_X12_off z1 (fun r16 z15 => (∀ t17 : Int32, t17 = ex j + (1000 : Int32) → V_X12_exit_50 post rr (m + 1) z15 p w (ex i) (ex j) r16 (ex i) t17)) := fun e3 => m_off k1 (fun t17 e17 => by
      rw [e3] at kk
      rw [e17, (ex_all j hj).2.1]
      exact ih (j + 1) z1 (ex i, ex j, exO z0 (kO z0 f) (fO z0 f) (oO z0 f) i j) (by omega) (o.tr o1) kk)
    refine ⟨fun q => take (if_pos q), fun q => m_off k1 ⟨fun q2 => take ((if_neg q).trans (if_pos q2)), fun q2 t17 e17 => ?_⟩⟩
    have e3 : exM (exO z0 (kO z0 f) (fO z0 f) (oO z0 f)) i j c = c := (if_neg q).trans (if_neg q2)
    rw [e3] at kk
    rw [e17, (ex_all j hj).2.1]
    exact ih (j + 1) z1 c (by omega) (o.tr o1) kk
theorem m_exit50n {z0 z : ZS} {a f : Nat} {p w : Int32} (hR : Rel z0) (g : FO z0 p f a) {post : Int32 → ZS → Prop} {rr : ZS → Int32 → Int32 → Int32 → Int32 → Int32 → Int32 → Prop} {i : Nat} (hi : i < 21) {c : T3} (o : OM z0 z) (kk : ∀ z1, OM z0 z1 → rr z1 p w (fo (exM (exO z0 (kO z0 f) (fO z0 f) (oO z0 f)) i) 21 0 c).1 (fo (exM (exO z0 (kO z0 f) (fO z0 f) (oO z0 f)) i) 21 0 c).2.1 (fo (exM (exO z0 (kO z0 f) (fO z0 f) (oO z0 f)) i) 21 0 c).2.2 (ex (i + 1))) : ∃ n, V_X12_exit_50 post rr n z p w c.1 c.2.1 c.2.2 (ex i) (-10000 : Int32) := by
  have h := m_exit50 hR g (post := post) (rr := rr) (w := w) hi 21 0 z c rfl o kk
  rw [ex_0] at h
  exact ⟨21 + 1, h⟩
theorem m_exit37 {z0 : ZS} {a f : Nat} {p w : Int32} (hR : Rel z0) (g : FO z0 p f a) {post : Int32 → ZS → Prop} : ∀ (m i : Nat) (z : ZS) (c : T3), m + i = 21 → OM z0 z → (∀ z1, OM z0 z1 → ((¬ w = 0 → ((¬ w = (1 : Int32) → post (fo (fun i a => fo (exM (exO z0 (kO z0 f) (fO z0 f) (oO z0 f)) i) 21 0 a) m i c).2.2 z1) ∧ (w = (1 : Int32) → post (fo (fun i a => fo (exM (exO z0 (kO z0 f) (fO z0 f) (oO z0 f)) i) 21 0 a) m i c).2.1 z1))) ∧ (w = 0 → post (fo (fun i a => fo (exM (exO z0 (kO z0 f) (fO z0 f) (oO z0 f)) i) 21 0 a) m i c).1 z1))) → V_X12_exit_37 post (m + 1) z p w c.1 c.2.1 c.2.2 (ex i) := by
  intro m
  induction m with
  | zero =>
    intro i z c e o kk
    unfold V_X12_exit_37
    have hi : i = 21 := by omega
    subst hi
    exact ⟨fun _ => kk z o, fun q => absurd ex_end q⟩
  | succ m ih =>
    intro i z c e o kk
    unfold V_X12_exit_37
    have hi : i < 21 := by omega
    refine ⟨fun q => absurd q (ex_all i hi).1, fun _ => m_exit50n hR g hi o (fun z1 o1 => ?_)⟩
    exact ih (i + 1) z1 (fo (exM (exO z0 (kO z0 f) (fO z0 f) (oO z0 f)) i) 21 0 c) (by omega) o1 kk
theorem exS_q {A B : T3} (h : exS A B) : A.1 = B.2.2 ∧ A.2.1 = B.1 ∧ A.2.2 = B.2.1 := by
  rw [h.1]
  exact ⟨rfl, rfl, rfl⟩
theorem c_exit {z0 : ZS} {a : Nat} {k f op w : Int32} (hR : Rel z0) (g : FA z0 a k f op) {A : T3} (hA : fo (fun i a => fo (exC (exO z0 k f op) i) 21 0 a) 21 0 (2147483647, 0, 0) = A) {post : Int32 → ZS → Prop} (kk : ∀ z1, OF 4 z0 z1 → ((¬ w = 0 → ((¬ w = (1 : Int32) → post A.1 z1) ∧ (w = (1 : Int32) → post A.2.2 z1))) ∧ (w = 0 → post A.2.1 z1))) : ∃ n, V_X11_exit_40 post n z0 w a (2147483647 : Int32) (0 : Int32) (0 : Int32) (-10000 : Int32) := by
  have h := c_exit40 hR g (post := post) (w := w) 21 0 z0 (2147483647, 0, 0) rfl (OF.rf 4 z0) (by rw [hA]; exact kk)
  rw [ex_0] at h
  exact ⟨21 + 1, h⟩
theorem m_exit {z0 : ZS} {a f : Nat} {p w : Int32} (hR : Rel z0) (g : FO z0 p f a) {B : T3} (hB : fo (fun i a => fo (exM (exO z0 (kO z0 f) (fO z0 f) (oO z0 f)) i) 21 0 a) 21 0 (0, 0, -4) = B) {post : Int32 → ZS → Prop} (kk : ∀ z1, OM z0 z1 → ((¬ w = 0 → ((¬ w = (1 : Int32) → post B.2.2 z1) ∧ (w = (1 : Int32) → post B.2.1 z1))) ∧ (w = 0 → post B.1 z1))) : ∃ n, V_X12_exit_37 post n z0 p w (0 : Int32) (0 : Int32) (-4 : Int32) (-10000 : Int32) := by
  have h := m_exit37 hR g (post := post) (w := w) 21 0 z0 (0, 0, -4) rfl (OM.rf z0) (by rw [hB]; exact kk)
  rw [ex_0] at h
  exact ⟨21 + 1, h⟩
theorem exO_kp {z z1 : ZS} (h : Kp z z1) (f : Nat) : exO z1 (kO z1 f) (fO z1 f) (oO z1 f) = exO z (kO z f) (fO z f) (oO z f) := by
  funext i j
  unfold exO
  rw [LO_kp h]
theorem sk_11 : SK_11 Rel := by
  intro z p1 p2 hR
  unfold V_X11_exit
  rcases fcase hR p1 with hb | ⟨f, a, g⟩
  · exact c_fB hb ⟨fun _ => (by unfold V_X12_exit; exact m_fB hR hb (no0 ⟨rfl, hR⟩)), fun a q => by cases q⟩
  refine c_fO g ⟨fun q => (by cases q), fun a' q => ?_⟩
  cases q
  have g5 := g.2.2.2.2.2
  refine ge_from 0 2 rfl rfl (fun c1 => on1 ?_) (fun c1 => on0 ?_)
  · have bo : ∀ i j, i < 21 → j < 21 → 0 ≤ (exO z (kO z f) (fO z f) (oO z f) i j).toInt ∧ (exO z (kO z f) (fO z f) (oO z f) i j).toInt ≤ 60000 := fun i j hi hj => off_bd (LA_I hR g5 (ex_E hi) (ex_E hj) 1)
    obtain ⟨A, hA⟩ : ∃ A, fo (fun i a => fo (exC (exO z (kO z f) (fO z f) (oO z f)) i) 21 0 a) 21 0 (2147483647, 0, 0) = A := ⟨_, rfl⟩
    obtain ⟨B, hB⟩ : ∃ B, fo (fun i a => fo (exM (exO z (kO z f) (fO z f) (oO z f)) i) 21 0 a) 21 0 (0, 0, -4) = B := ⟨_, rfl⟩
    have both := ex_both bo
    rw [hA, hB] at both
    obtain ⟨q1, q2, q3⟩ := exS_q both
    refine c_exit hR (k := kO z f) (f := fO z f) (op := oO z f) g5 hA (fun z1 o1 => ?_)
    have hR1 := o1.rel hR
    have g1 := g.kp o1.k4
    rw [← exO_kp o1.k4] at hB
    have mm : ∀ post : Int32 → ZS → Prop, (∀ z2, OM z1 z2 → ((¬ p2 = 0 → ((¬ p2 = (1 : Int32) → post A.1 z2) ∧ (p2 = (1 : Int32) → post A.2.2 z2))) ∧ (p2 = 0 → post A.2.1 z2))) → V_X12_exit z1 p1 p2 post := fun post k => by
      unfold V_X12_exit
      refine m_fO hR1 g1 (no1 (ge_in 0 2 rfl rfl (fun _ => on1 (m_exit hR1 g1 hB (fun z2 o2 => ?_))) (fun c => absurd c1 c)))
      rw [← q1, ← q2, ← q3]
      exact k z2 o2
    exact ⟨fun w0 => ⟨fun w1 => mm _ (fun z2 o2 => ⟨fun _ => ⟨fun _ => ⟨rfl, hR1.kp o2.kp⟩, fun q => absurd q w1⟩, fun q => absurd q w0⟩), fun w1 => mm _ (fun z2 o2 => ⟨fun _ => ⟨fun q => absurd w1 q, fun _ => ⟨rfl, hR1.kp o2.kp⟩⟩, fun q => absurd q w0⟩)⟩, fun w0 => mm _ (fun z2 o2 => ⟨fun q => absurd w0 q, fun _ => ⟨rfl, hR1.kp o2.kp⟩⟩)⟩
  · unfold V_X12_exit
    exact m_fO hR g (no1 (ge_in 0 2 rfl rfl (fun c => absurd c c1) (fun _ => on0 ⟨rfl, hR⟩)))
