/-! PURE, part 2: equations of small methods; wind, set, faller, count -/
theorem e_isFrom (z : ZS) (a b c : Int32) (post : Int32 → ZS → Prop) : V_X11_isFrom z a b c post = post (if a.toInt ≤ b.toInt ∧ b.toInt ≤ c.toInt then 1 else 0) z := by
  simp only [V_X11_isFrom, Int32.lt_iff_toInt_lt]
  by_cases h : a.toInt ≤ b.toInt ∧ b.toInt ≤ c.toInt
  · rw [if_pos h]
    have h1 : ¬ b.toInt < a.toInt := by omega
    have h2 : ¬ c.toInt < b.toInt := by omega
    simp only [h1, h2, false_implies, true_and, not_false_iff, true_implies]
  · rw [if_neg h]
    by_cases h1 : b.toInt < a.toInt
    · simp only [h1, not_true_eq_false, true_implies, false_implies, and_true]
    · have h2 : c.toInt < b.toInt := by omega
      simp only [h1, h2, not_true_eq_false, not_false_iff, true_implies, false_implies, and_true, true_and]
theorem e_isIn (z : ZS) (a b c : Int64) (post : Int32 → ZS → Prop) : V_X12_isIn z a b c post = post (if b.toInt ≤ a.toInt ∧ a.toInt ≤ c.toInt then 1 else 0) z := by
  simp only [V_X12_isIn, lcmp_lt, lcmp_gt]
  by_cases h : b.toInt ≤ a.toInt ∧ a.toInt ≤ c.toInt
  · rw [if_pos h]
    have h1 : ¬ a.toInt < b.toInt := by omega
    have h2 : ¬ c.toInt < a.toInt := by omega
    simp only [h1, h2, false_implies, true_and, not_false_iff, true_implies]
  · rw [if_neg h]
    by_cases h1 : a.toInt < b.toInt
    · simp only [h1, not_true_eq_false, true_implies, false_implies, and_true]
    · have h2 : c.toInt < a.toInt := by omega
      simp only [h1, h2, not_true_eq_false, not_false_iff, true_implies, false_implies, and_true, true_and]
theorem e_isInI (z : ZS) (a : Int32) (b c : Int64) (post : Int32 → ZS → Prop) : V_X12_isIn z (Int32.toInt64 a) b c post = post (if b.toInt ≤ a.toInt ∧ a.toInt ≤ c.toInt then 1 else 0) z := by
  rw [e_isIn, Int32.toInt_toInt64]
theorem e_isLayer (z : ZS) (a : Int32) (post : Int32 → ZS → Prop) : V_X11_isLayer z a post = post (if 0 ≤ a.toInt ∧ a.toInt ≤ 9 then 1 else 0) z := by
  simp only [V_X11_isLayer, e_isFrom, b01, true_and]
  rfl
theorem e_isGap (z : ZS) (a : Int32) (post : Int32 → ZS → Prop) : V_X11_isGap z a post = post (if 1 ≤ a.toInt ∧ a.toInt ≤ 20 then 1 else 0) z := by
  simp only [V_X11_isGap, e_isFrom, b01, true_and]
  rfl
theorem e_isShelf (z : ZS) (a : Int32) (post : Int32 → ZS → Prop) : V_X12_isShelf z a post = post (if 0 ≤ a.toInt ∧ a.toInt ≤ 7 then 1 else 0) z := by
  simp only [V_X12_isShelf, e_isInI, b01, true_and]
  rfl
theorem e_isEdge (z : ZS) (a : Int32) (post : Int32 → ZS → Prop) : V_X12_isEdge z a post = post (if -30000 ≤ a.toInt ∧ a.toInt ≤ 30000 then 1 else 0) z := by
  simp only [V_X12_isEdge, e_isInI, b01, true_and]
  rfl
theorem one_ne : ¬ (1 : Int32) = 0 := by decide
/-- an int of 0 .. is a Nat -/
theorem nat_of {p : Int32} (h : 0 ≤ p.toInt) : ∃ n : Nat, p = nI n ∧ p.toInt = (n : Int) ∧ n < 2 ^ 31 := by
  have hb : p.toInt < 2 ^ 31 := Int32.toInt_lt p
  refine ⟨p.toInt.toNat, ?_, by omega, by omega⟩
  apply Int32.toInt_inj.mp
  rw [nI_toInt (by omega)]
  omega
theorem vin {n N : Nat} (h : n < N) (hN : N < 2 ^ 31) : vp_in (nI n) N := nI_in h hN
theorem nI_lin (a b n : Nat) : nI a + nI b * nI n = nI (a + b * n) := by
  have e : nI b * nI n = nI (b * n) := (Int32.ofNat_mul b n).symm
  rw [e, nI_add]
theorem ix_e (l : Nat) : (5 : Int32) + (2 : Int32) * nI l = nI (5 + 2 * l) := nI_lin 5 2 l
theorem ix_n (l : Nat) : (5 : Int32) + (2 : Int32) * nI l + (1 : Int32) = nI (6 + 2 * l) := by
  rw [ix_e]
  have e := nI_add (5 + 2 * l) 1
  rw [show 5 + 2 * l + 1 = 6 + 2 * l by omega] at e
  exact e
theorem ix_f (f k : Nat) : (25 : Int32) + (3 : Int32) * nI f + nI k = nI (25 + 3 * f + k) := by
  have e := nI_lin 25 3 f
  have e2 := nI_add (25 + 3 * f) k
  rw [← e2, ← e]
  rfl
theorem e_east {z : ZS} {l : Nat} (hl : l < 10) (post : Int32 → ZS → Prop) : V_X12_east z (nI l) post = post (zR z 14 0 (5 + 2 * l)) z := by
  unfold V_X12_east
  rw [ix_e, nI_clamp (by omega)]
  exact propext ⟨fun h => h.2, fun h => ⟨vin (by omega) (by omega), h⟩⟩
theorem e_north {z : ZS} {l : Nat} (hl : l < 10) (post : Int32 → ZS → Prop) : V_X12_north z (nI l) post = post (zR z 14 0 (6 + 2 * l)) z := by
  unfold V_X12_north
  rw [ix_n, nI_clamp (by omega)]
  exact propext ⟨fun h => h.2, fun h => ⟨vin (by omega) (by omega), h⟩⟩
theorem e_of {z : ZS} {f k : Nat} (hf : f < 8) (hk : k < 3) (post : Int32 → ZS → Prop) : V_X12_of z (nI f) (nI k) post = post (zR z 14 0 (25 + 3 * f + k)) z := by
  unfold V_X12_of
  rw [ix_f, nI_clamp (by omega)]
  exact propext ⟨fun h => h.2, fun h => ⟨vin (by omega) (by omega), h⟩⟩
theorem e_of0 {z : ZS} {f : Nat} (hf : f < 8) (post : Int32 → ZS → Prop) : V_X12_of z (nI f) (0 : Int32) post = post (zR z 14 0 (25 + 3 * f)) z := e_of hf (k := 0) (by decide) post
theorem e_of1 {z : ZS} {f : Nat} (hf : f < 8) (post : Int32 → ZS → Prop) : V_X12_of z (nI f) (1 : Int32) post = post (zR z 14 0 (26 + 3 * f)) z := by
  have e := e_of (z := z) hf (k := 1) (by decide) post
  rw [show 25 + 3 * f + 1 = 26 + 3 * f by omega] at e
  exact e
theorem e_of2 {z : ZS} {f : Nat} (hf : f < 8) (post : Int32 → ZS → Prop) : V_X12_of z (nI f) (2 : Int32) post = post (zR z 14 0 (27 + 3 * f)) z := by
  have e := e_of (z := z) hf (k := 2) (by decide) post
  rw [show 25 + 3 * f + 2 = 27 + 3 * f by omega] at e
  exact e
theorem m_fallsBy {z : ZS} {k : Int32} {post : Int32 → ZS → Prop} (h : post (fallsB k) z) : V_X12_fallsBy z k post := by
  unfold fallsB at h
  unfold V_X12_fallsBy V_X12_fallsBy_21
  by_cases c2 : k = 2
  · subst c2; exact ⟨fun q => absurd rfl q, fun _ => h⟩
  · rw [if_neg c2] at h
    refine ⟨fun _ => ⟨fun c3 => ?_, fun c3 => ⟨fun c7 => ?_, fun c7 => ?_⟩⟩, fun q => absurd q c2⟩
    · rw [if_pos (Or.inl c3)] at h; exact h
    · rw [if_neg (fun q => q.elim c3 c7)] at h; exact h
    · rw [if_pos (Or.inr c7)] at h; exact h
theorem m_sinksBy {z : ZS} {k f : Int32} {post : Int32 → ZS → Prop} (h : post (sinksB k f) z) : V_X12_sinksBy z k f post := by
  unfold sinksB at h
  unfold V_X12_sinksBy
  by_cases c1 : k = 1
  · rw [if_pos c1] at h; exact ⟨fun _ => h, fun q => absurd c1 q⟩
  rw [if_neg c1] at h; refine ⟨fun q => absurd q c1, fun _ => ?_⟩
  by_cases c2 : k = 2
  · rw [if_pos c2] at h; exact ⟨fun _ => h, fun q => absurd c2 q⟩
  rw [if_neg c2] at h; refine ⟨fun q => absurd q c2, fun _ => ?_⟩
  by_cases c3 : k = 3
  · rw [if_pos c3] at h; exact ⟨fun _ => h, fun q => absurd c3 q⟩
  rw [if_neg c3] at h; refine ⟨fun q => absurd q c3, fun _ => ?_⟩
  by_cases c4 : k = 4
  · rw [if_pos c4] at h; exact ⟨fun _ => h, fun q => absurd c4 q⟩
  rw [if_neg c4] at h; refine ⟨fun q => absurd q c4, fun _ => ?_⟩
  by_cases c5 : k = 5
  · rw [if_pos c5] at h; exact ⟨fun _ => h, fun q => absurd c5 q⟩
  rw [if_neg c5] at h; refine ⟨fun q => absurd q c5, fun _ => ?_⟩
  by_cases c6 : k = 6
  · rw [if_pos c6] at h; exact ⟨fun _ => h, fun q => absurd c6 q⟩
  rw [if_neg c6] at h; refine ⟨fun q => absurd q c6, fun _ => ?_⟩
  by_cases c7 : k = 7
  · rw [if_pos c7] at h; exact ⟨fun _ => h, fun q => absurd c7 q⟩
  rw [if_neg c7] at h; exact ⟨fun q => absurd q c7, fun _ => h⟩
theorem m_paceBy {z : ZS} {k f : Int32} {post : Int32 → ZS → Prop} (h : post (paceB k f) z) : V_X12_paceBy z k f post := by
  unfold paceB at h
  unfold V_X12_paceBy
  by_cases c1 : k = 1
  · rw [if_pos (Or.inl c1)] at h; exact ⟨fun _ => h, fun q => absurd c1 q⟩
  refine ⟨fun q => absurd q c1, fun _ => ?_⟩
  by_cases c7 : k = 7
  · subst c7
    rw [if_pos (Or.inr rfl)] at h
    exact ⟨fun q => absurd q (by decide), fun _ => ⟨fun q => absurd q (by decide), fun _ => ⟨fun q => absurd q (by decide), fun _ => ⟨fun q => absurd q (by decide), fun _ => ⟨fun q => absurd q (by decide), fun _ => ⟨fun _ => h, fun q => absurd rfl q⟩⟩⟩⟩⟩⟩
  rw [if_neg (fun q => q.elim c1 c7)] at h
  by_cases c2 : k = 2
  · rw [if_pos c2] at h; exact ⟨fun _ => h, fun q => absurd c2 q⟩
  rw [if_neg c2] at h; refine ⟨fun q => absurd q c2, fun _ => ?_⟩
  by_cases c3 : k = 3
  · rw [if_pos c3] at h; exact ⟨fun _ => h, fun q => absurd c3 q⟩
  rw [if_neg c3] at h; refine ⟨fun q => absurd q c3, fun _ => ?_⟩
  by_cases c4 : k = 4
  · rw [if_pos c4] at h; exact ⟨fun _ => h, fun q => absurd c4 q⟩
  rw [if_neg c4] at h; refine ⟨fun q => absurd q c4, fun _ => ?_⟩
  by_cases c5 : k = 5
  · rw [if_pos c5] at h; exact ⟨fun _ => h, fun q => absurd c5 q⟩
  rw [if_neg c5] at h; refine ⟨fun q => absurd q c5, fun _ => ?_⟩
  by_cases c6 : k = 6
  · rw [if_pos c6] at h; exact ⟨fun _ => h, fun q => absurd c6 q⟩
  rw [if_neg c6] at h; refine ⟨fun q => absurd q c6, fun _ => ?_⟩
  exact ⟨fun q => absurd q c7, fun _ => h⟩
-- a FALLER's number: none such, or the Faller a
def FB (z : ZS) (p : Int32) : Prop := ¬ (0 ≤ p.toInt ∧ p.toInt < (zI z 1 6).toInt)
def FO (z : ZS) (p : Int32) (f a : Nat) : Prop := p = nI f ∧ f < 8 ∧ (f : Int) < (zI z 1 6).toInt ∧ zQ z 1 f = some a ∧ zF z a 0 = nI f ∧ FA z a (zR z 14 0 (25 + 3 * f)) (zR z 14 0 (26 + 3 * f)) (zR z 14 0 (27 + 3 * f))
theorem fcase {z : ZS} (h : Rel z) (p : Int32) : FB z p ∨ ∃ f a, FO z p f a := by
  by_cases hb : 0 ≤ p.toInt ∧ p.toInt < (zI z 1 6).toInt
  · obtain ⟨f, e, e2, -⟩ := nat_of hb.1
    obtain ⟨-, -, ⟨n, g3, g4, g5⟩, -⟩ := h.1
    rw [g4, nI_toInt (by omega), e2] at hb
    obtain ⟨a, q1, q2, q3⟩ := g5 f (by omega)
    exact Or.inr ⟨f, a, e, by omega, by rw [g4, nI_toInt (by omega)]; omega, q1, q2, q3⟩
  · exact Or.inl hb
theorem FB.kp {z z1 : ZS} (h : Kp z z1) {p : Int32} (g : FB z p) : FB z1 p := by
  unfold FB
  rw [h.1 1 6 (by unfold keepI; omega)]
  exact g
theorem FO.kp {z z1 : ZS} (h : Kp z z1) {p : Int32} {f a : Nat} (g : FO z p f a) : FO z1 p f a := by
  obtain ⟨g1, g2, g3, g4, g5, g6⟩ := g
  refine ⟨g1, g2, by rw [h.1 1 6 (by unfold keepI; omega)]; exact g3, by rw [h.2.2.2.1]; exact g4, by rw [(h.2.2.2.2 a g6.1).2.2]; exact g5, ?_⟩
  rw [h.2.1 14 0 (by unfold keepR; omega)]
  exact g6.kp h
theorem c_fB {z : ZS} {p : Int32} {post : Option Nat → ZS → Prop} (g : FB z p) (h : post none z) : V_X0_fallerAt z 1 p post := by
  unfold V_X0_fallerAt V_X0_fallerAt_27 V_X0_fallerAt_28
  refine ⟨fun _ => h, fun c1 => ⟨fun _ => h, fun c2 => absurd ?_ g⟩⟩
  rw [Int32.lt_iff_toInt_lt] at c1
  rw [Int32.le_iff_toInt_le] at c2
  have e : (0 : Int32).toInt = 0 := by decide
  omega
theorem c_fO {z : ZS} {p : Int32} {f a : Nat} {post : Option Nat → ZS → Prop} (g : FO z p f a) (h : post (some a) z) : V_X0_fallerAt z 1 p post := by
  obtain ⟨g1, g2, g3, g4, -, -⟩ := g
  subst g1
  unfold V_X0_fallerAt V_X0_fallerAt_27 V_X0_fallerAt_28
  have e8 : (8 : Int32).toInt = 8 := by decide
  have e0 : (0 : Int32).toInt = 0 := by decide
  refine ⟨fun c1 => ?_, fun _ => ⟨fun c1 => ?_, fun _ => ⟨fun c1 => ?_, fun _ => ⟨vin g2 (by decide), ?_⟩⟩⟩⟩
  · rw [Int32.lt_iff_toInt_lt, nI_toInt (by omega)] at c1; omega
  · rw [Int32.le_iff_toInt_le, nI_toInt (by omega)] at c1; omega
  · rw [Int32.le_iff_toInt_le, nI_toInt (by omega)] at c1; omega
  · rw [nI_clamp (by omega), g4]; exact h
theorem many_sub {z : ZS} (hR : Rel z) : (Int32.toInt64 ((zR z 14 0 3) - (1 : Int32))).toInt = (zI z 1 6).toInt - 1 := by
  obtain ⟨⟨-, -, -, e3, -⟩, -, ⟨n, g3, g4, -⟩, -⟩ := hR.1
  rw [Int32.toInt_toInt64, e3, g4]
  rw [Int32.toInt_sub, nI_toInt (by omega), show (1 : Int32).toInt = 1 by decide, Int.bmod_def]
  split <;> omega
theorem m_fB {z : ZS} (hR : Rel z) {p : Int32} {post : Int32 → ZS → Prop} (g : FB z p) (h : post 0 z) : V_X12_isFaller z p post := by
  unfold V_X12_isFaller
  rw [e_isInI, many_sub hR, if_neg (fun q => g ⟨q.1, by have := q.2; omega⟩)]
  exact ⟨rfl, h⟩
theorem m_fO {z : ZS} (hR : Rel z) {p : Int32} {f a : Nat} {post : Int32 → ZS → Prop} (g : FO z p f a) (h : post 1 z) : V_X12_isFaller z p post := by
  obtain ⟨g1, g2, g3, -⟩ := g
  unfold V_X12_isFaller
  rw [e_isInI, many_sub hR, g1, nI_toInt (by omega), if_pos ⟨by show (0 : Int) ≤ f; omega, by omega⟩]
  exact ⟨rfl, h⟩
