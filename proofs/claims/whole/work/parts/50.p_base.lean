/-! PURE, part 1: the relation of the class's cells to the reference's, what keeps it; small methods -/
-- what a FALLER's numbers are, by kind and figure (the reference's words)
def fallsB (k : Int32) : Int32 := if k = 2 then 100 else if k = 3 ∨ k = 7 then 145 else 120
def sinksB (k f : Int32) : Int32 := if k = 1 then 20 else if k = 2 then 13 else if k = 3 then 21 else if k = 4 then 16 + f else if k = 5 then 14 + f else if k = 6 then 18 else if k = 7 then 31 else 16
def paceB (k f : Int32) : Int32 := if k = 1 ∨ k = 7 then 0 else if k = 2 then 34 else if k = 3 then 44 else if k = 4 then 20 else if k = 5 then 30 else if k = 6 then 40 + 3 * f else 40
def careB (k f o : Int32) : Int32 := if k = 1 then 1 else if k = 2 then 10 + f else if k = 3 then 20 else if k = 4 then 10 + o else if k = 5 then 13 + o else if k = 6 then 10 * f else if k = 7 then 70 else 10
/-- the Faller a is of this kind, figure, opens -/
def FA (z : ZS) (a : Nat) (k f o : Int32) : Prop := a ∈ zP z ∧ zK z a < 8 ∧ k = nI (zK z a) ∧ zF z a 1 = f ∧ zF z a 2 = o ∧ zF z a 3 = k ∧ zF z a 4 = fallsB k ∧ zF z a 5 = sinksB k f ∧ zF z a 6 = paceB k f ∧ zF z a 7 = careB k f o ∧ (0 ≤ f.toInt ∧ f.toInt ≤ 9) ∧ (0 ≤ o.toInt ∧ o.toInt ≤ 20)
/-- the Air o is the reference's array m -/
def RA (z : ZS) (o : Nat) (m : Nat → Int32) : Prop :=
  (m 0 = zI z o 2 ∧ m 1 = zI z o 3 ∧ m 2 = zI z o 4 ∧ m 3 = zI z o 6 ∧ m 4 = zI z o 8) ∧
  (∀ l, l < 10 → m (5 + 2 * l) = zR z o 0 l ∧ m (6 + 2 * l) = zR z o 1 l ∧ (-90 ≤ (zR z o 0 l).toInt ∧ (zR z o 0 l).toInt ≤ 90) ∧ (-90 ≤ (zR z o 1 l).toInt ∧ (zR z o 1 l).toInt ≤ 90)) ∧
  (∃ n, n ≤ 8 ∧ zI z o 6 = nI n ∧ ∀ f, f < n → ∃ a, zQ z o f = some a ∧ zF z a 0 = nI f ∧ FA z a (m (25 + 3 * f)) (m (26 + 3 * f)) (m (27 + 3 * f))) ∧
  (∃ n, n ≤ 6 ∧ zI z o 8 = nI n ∧ ∀ b, b < n → ∀ k, k < 4 → m (49 + 4 * b + k) = zR z o 7 (4 * b + k)) ∧
  (0 ≤ (m 0).toInt ∧ (m 0).toInt ≤ 30) ∧ (0 ≤ (m 1).toInt ∧ (m 1).toInt ≤ 900) ∧ (300 ≤ (m 2).toInt ∧ (m 2).toInt ≤ 3000)
/-- the Shelf d -/
def RS (z : ZS) (d : Nat) : Prop :=
  (zR z 14 3 d = 0 ∧ zG z (6 + d) 0 = none ∧ zI z (6 + d) 1 = 0) ∨
  (zR z 14 3 d = 1 ∧ zI z (6 + d) 1 = 0 ∧ ∃ a, zG z (6 + d) 0 = some a ∧ a ∈ zP z ∧ zF z a 7 = zR z 14 7 d ∧ tossV (zK z a) (zF z a) = zR z 14 8 d) ∨
  (zR z 14 3 d = 2 ∧ zG z (6 + d) 0 = none ∧ zI z (6 + d) 1 = 1 ∧ zI z (6 + d) 2 = zR z 14 4 d ∧ (0 ≤ (zR z 14 4 d).toInt ∧ (zR z 14 4 d).toInt ≤ 2) ∧ ∃ n, n ≤ 100 ∧ zI z (6 + d) 3 = nI n ∧ zR z 14 5 d = nI n ∧ ∀ k, k < n → zR z (6 + d) 4 k = zR z 14 6 (100 * d + k))
def Rel (z : ZS) : Prop := RA z 1 (zR z 14 0) ∧ ((zI z 0 3 = 0 ∧ zI z 14 9 = 0) ∨ (zI z 0 3 = 1 ∧ zI z 14 9 = 1 ∧ RA z 3 (zR z 14 1))) ∧ (∀ d, d < 8 → RS z d) ∧ (∀ o k a, zQ z o k = some a → a ∈ zP z)
-- what keeps it
def keepI (o k : Nat) : Prop := (o = 0 ∧ k = 3) ∨ o = 1 ∨ o = 3 ∨ (6 ≤ o ∧ o < 14) ∨ (o = 14 ∧ k = 9)
def keepR (o k : Nat) : Prop := ((o = 1 ∨ o = 3) ∧ k ≠ 9) ∨ (6 ≤ o ∧ o < 14) ∨ (o = 14 ∧ (k < 2 ∨ (3 ≤ k ∧ k < 9)))
/-- nothing that Rel speaks of is changed -/
def Kp (z z1 : ZS) : Prop := (∀ o k, keepI o k → zI z1 o k = zI z o k) ∧ (∀ o k, keepR o k → zR z1 o k = zR z o k) ∧ (∀ o, 6 ≤ o → zG z1 o = zG z o) ∧ zQ z1 = zQ z ∧ (∀ a, a ∈ zP z → a ∈ zP z1 ∧ zK z1 a = zK z a ∧ zF z1 a = zF z a)
theorem Kp.rf (z : ZS) : Kp z z := ⟨fun _ _ _ => rfl, fun _ _ _ => rfl, fun _ _ => rfl, rfl, fun _ h => ⟨h, rfl, rfl⟩⟩
theorem Kp.tr {z z1 z2 : ZS} (h : Kp z z1) (g : Kp z1 z2) : Kp z z2 := ⟨fun o k q => (g.1 o k q).trans (h.1 o k q), fun o k q => (g.2.1 o k q).trans (h.2.1 o k q), fun o q => (g.2.2.1 o q).trans (h.2.2.1 o q), g.2.2.2.1.trans h.2.2.2.1, fun a q => ⟨(g.2.2.2.2 a (h.2.2.2.2 a q).1).1, (g.2.2.2.2 a (h.2.2.2.2 a q).1).2.1.trans (h.2.2.2.2 a q).2.1, (g.2.2.2.2 a (h.2.2.2.2 a q).1).2.2.trans (h.2.2.2.2 a q).2.2⟩⟩
theorem Kp.I {z z1 : ZS} (h : Kp z z1) (o k : Nat) (v : Int32) (hn : ¬ keepI o k) : Kp z (wI z1 o k v) := h.tr ⟨fun a b q => if_neg (fun e => hn (by rw [← e.1, ← e.2]; exact q)), fun _ _ _ => rfl, fun _ _ => rfl, rfl, fun _ h => ⟨h, rfl, rfl⟩⟩
theorem Kp.A {z z1 : ZS} (h : Kp z z1) (o k : Nat) (f : Nat → Int32) (hn : ¬ keepR o k) : Kp z (wA z1 o k f) := h.tr ⟨fun _ _ _ => rfl, fun a b q => if_neg (fun e => hn (by rw [← e.1, ← e.2]; exact q)), fun _ _ => rfl, rfl, fun _ h => ⟨h, rfl, rfl⟩⟩
theorem Kp.R {z z1 : ZS} (h : Kp z z1) (o k i : Nat) (v : Int32) (hn : ¬ keepR o k) : Kp z (wR z1 o k i v) := h.A o k _ hn
theorem Kp.G {z z1 : ZS} (h : Kp z z1) (o k : Nat) (r : Option Nat) (hn : o < 6) : Kp z (wG z1 o k r) := h.tr ⟨fun _ _ _ => rfl, fun _ _ _ => rfl, fun a q => by funext b; exact if_neg (fun e => by omega), rfl, fun _ h => ⟨h, rfl, rfl⟩⟩
theorem Kp.O {z z1 : ZS} (h : Kp z z1) (x : Int64) : Kp z (wO z1 x) := h.tr ⟨fun _ _ _ => rfl, fun _ _ _ => rfl, fun _ _ => rfl, rfl, fun _ h => ⟨h, rfl, rfl⟩⟩
theorem Kp.P {z z1 : ZS} (h : Kp z z1) (q k : Nat) (f : Nat → Int32) (hn : q ∉ zP z1) : Kp z (wP z1 q k f) := h.tr ⟨fun _ _ _ => rfl, fun _ _ _ => rfl, fun _ _ => rfl, rfl, fun a ha => ⟨List.mem_append_left _ ha, va_up_ne _ _ (fun e => hn (e ▸ ha)), va_up_ne _ _ (fun e => hn (e ▸ ha))⟩⟩
theorem FA.kp {z z1 : ZS} (h : Kp z z1) {a : Nat} {k f o : Int32} (g : FA z a k f o) : FA z1 a k f o := by
  obtain ⟨g0, g⟩ := g
  obtain ⟨h1, h2, h3⟩ := h.2.2.2.2 a g0
  unfold FA
  rw [h2, h3]
  exact ⟨h1, g⟩
theorem RA.kp {z z1 : ZS} (h : Kp z z1) {o : Nat} (ho : o = 1 ∨ o = 3) {m : Nat → Int32} (g : RA z o m) : RA z1 o m := by
  have hI : ∀ k, zI z1 o k = zI z o k := fun k => h.1 o k (by unfold keepI; omega)
  have hR : ∀ k, k ≠ 9 → zR z1 o k = zR z o k := fun k hk => h.2.1 o k (by unfold keepR; omega)
  obtain ⟨g1, g2, ⟨n, g3, g4, g5⟩, g6, g7⟩ := g
  refine ⟨by rw [hI, hI, hI, hI, hI]; exact g1, ?_, ⟨n, g3, by rw [hI]; exact g4, fun f hf => ?_⟩, ?_, g7⟩
  · rw [hR 0 (by decide), hR 1 (by decide)]; exact g2
  · obtain ⟨a, e1, e2, e3⟩ := g5 f hf
    exact ⟨a, by rw [h.2.2.2.1]; exact e1, by rw [(h.2.2.2.2 a e3.1).2.2]; exact e2, e3.kp h⟩
  · rw [hI, hR 7 (by decide)]; exact g6
theorem RS.kp {z z1 : ZS} (h : Kp z z1) {d : Nat} (hd : d < 8) (g : RS z d) : RS z1 d := by
  have hI : ∀ k, zI z1 (6 + d) k = zI z (6 + d) k := fun k => h.1 _ k (by unfold keepI; omega)
  have hR : ∀ k, zR z1 (6 + d) k = zR z (6 + d) k := fun k => h.2.1 _ k (by unfold keepR; omega)
  have hM : ∀ k, 3 ≤ k → k < 9 → zR z1 14 k = zR z 14 k := fun k h1 h2 => h.2.1 14 k (by unfold keepR; omega)
  have hG : zG z1 (6 + d) = zG z (6 + d) := h.2.2.1 _ (by omega)
  unfold RS
  rw [hG, hI, hI, hI, hR, hM 3 (by decide) (by decide), hM 4 (by decide) (by decide), hM 5 (by decide) (by decide), hM 6 (by decide) (by decide), hM 7 (by decide) (by decide), hM 8 (by decide) (by decide)]
  rcases g with g | ⟨g1, g2, a, g3, g4, g5, g6⟩ | g
  · exact Or.inl g
  · obtain ⟨h1, h2, h3⟩ := h.2.2.2.2 a g4
    exact Or.inr (Or.inl ⟨g1, g2, a, g3, h1, by rw [h3]; exact g5, by rw [h2, h3]; exact g6⟩)
  · exact Or.inr (Or.inr g)
theorem Rel.kp {z z1 : ZS} (g : Rel z) (h : Kp z z1) : Rel z1 := by
  obtain ⟨g1, g2, g3, g4⟩ := g
  have e0 : zR z1 14 0 = zR z 14 0 := h.2.1 14 0 (by unfold keepR; omega)
  have e1 : zR z1 14 1 = zR z 14 1 := h.2.1 14 1 (by unfold keepR; omega)
  have e3 : zI z1 0 3 = zI z 0 3 := h.1 0 3 (by unfold keepI; omega)
  have e9 : zI z1 14 9 = zI z 14 9 := h.1 14 9 (by unfold keepI; omega)
  refine ⟨by rw [e0]; exact g1.kp h (Or.inl rfl), ?_, fun d hd => (g3 d hd).kp h hd, fun o k a q => (h.2.2.2.2 a (g4 o k a (by rw [← h.2.2.2.1]; exact q))).1⟩
  rcases g2 with ⟨q1, q2⟩ | ⟨q1, q2, q3⟩
  · exact Or.inl ⟨e3.trans q1, e9.trans q2⟩
  · exact Or.inr ⟨e3.trans q1, e9.trans q2, by rw [e1]; exact q3.kp h (Or.inr rfl)⟩
-- the first state
def m0A : Nat → Int32 := upd (upd (fun _ => 0) (1 : Int32).toNatClampNeg (400 : Int32)) (2 : Int32).toNatClampNeg (2000 : Int32)
theorem rel0 (q4 q5 : Nat) (hne : q4 ≠ q5) : Rel (z0 q4 q5) := by
  have em : zR (z0 q4 q5) 14 0 = m0A := rfl
  have e1 : ∀ l, zR (z0 q4 q5) 1 0 l = 0 := fun _ => rfl
  have e2 : ∀ l, zR (z0 q4 q5) 1 1 l = 0 := fun _ => rfl
  unfold Rel RA
  rw [em]
  refine ⟨⟨⟨rfl, rfl, rfl, rfl, rfl⟩, fun l hl => ?_, ⟨0, by decide, rfl, fun f hf => absurd hf (by omega)⟩, ⟨0, by decide, rfl, fun f hf => absurd hf (by omega)⟩, by decide +kernel, by decide +kernel, by decide +kernel⟩, Or.inl ⟨rfl, rfl⟩, fun d hd => Or.inl ⟨?_, ?_, ?_⟩, fun o k a h => by cases h⟩
  · rw [e1, e2]
    have e : ∀ l, l < 10 → m0A (5 + 2 * l) = 0 ∧ m0A (6 + 2 * l) = 0 := by decide +kernel
    exact ⟨(e l hl).1, (e l hl).2, by decide +kernel⟩
  · rfl
  · show (if 6 + d = 4 then _ else if 6 + d = 5 then _ else none) = none
    rw [if_neg (by omega), if_neg (by omega)]
  · show (if 6 + d = 1 ∨ 6 + d = 2 ∨ 6 + d = 3 then _ else 0) = 0
    rw [if_neg (by omega)]
-- comparisons
theorem s_isFrom {z : ZS} {a b c : Int32} {post : Int32 → ZS → Prop} (h : post (if a.toInt ≤ b.toInt ∧ b.toInt ≤ c.toInt then 1 else 0) z) : V_X11_isFrom z a b c post := by
  unfold V_X11_isFrom
  simp only [Int32.lt_iff_toInt_lt]
  refine ⟨fun q => ?_, fun q => ⟨fun r => ?_, fun r => ?_⟩⟩
  · rw [if_neg (by omega)] at h; exact h
  · rw [if_neg (by omega)] at h; exact h
  · rw [if_pos (by omega)] at h; exact h
theorem lcmp_lt (a b : Int64) : lg_cmp a b < 0 ↔ a.toInt < b.toInt := (lg_cmp_lt a b).trans Int64.lt_iff_toInt_lt
theorem lcmp_gt (a b : Int64) : 0 < lg_cmp a b ↔ b.toInt < a.toInt := (lg_cmp_gt a b).trans Int64.lt_iff_toInt_lt
theorem s_isIn {z : ZS} {a b c : Int64} {post : Int32 → ZS → Prop} (h : post (if b.toInt ≤ a.toInt ∧ a.toInt ≤ c.toInt then 1 else 0) z) : V_X12_isIn z a b c post := by
  unfold V_X12_isIn
  simp only [lcmp_lt, lcmp_gt]
  refine ⟨fun q => ?_, fun q => ⟨fun r => ?_, fun r => ?_⟩⟩
  · rw [if_neg (by omega)] at h; exact h
  · rw [if_neg (by omega)] at h; exact h
  · rw [if_pos (by omega)] at h; exact h
theorem b01 (P : Prop) [Decidable P] : narrow .boolean (.int (if P then 1 else 0)) = .int (if P then 1 else 0) := by split <;> rfl
