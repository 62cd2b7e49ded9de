/-! PURE, part 3: wind, set, faller, count -/
theorem sk_1 : SK_1 Rel := by
  intro z p1 p2 hp hR
  unfold V_X11_wind V_X12_wind
  simp only [e_isLayer, e_isInI]
  by_cases h : 0 ≤ p1.toInt ∧ p1.toInt ≤ 9
  · rw [if_pos h]
    obtain ⟨l, rfl, e, -⟩ := nat_of h.1
    have hl : l < 10 := by omega
    obtain ⟨g1, g2, -, -⟩ := hR.1.2.1 l hl
    have m : (if (0 : Int64).toInt ≤ (nI l).toInt ∧ (nI l).toInt ≤ (9 : Int64).toInt then (1 : Int32) else 0) = 1 := if_pos h
    rw [m]
    simp only [nI_clamp (show l < 2 ^ 31 by omega), e_east hl, e_north hl, g1, g2]
    refine ⟨fun _ => ⟨fun c => ⟨vin hl (by decide), fun _ => ⟨fun _ => ⟨trivial, hR⟩, fun q => absurd c q⟩, fun q => absurd q one_ne⟩, fun c => ⟨vin hl (by decide), fun _ => ⟨fun q => absurd q c, fun _ => ⟨trivial, hR⟩⟩, fun q => absurd q one_ne⟩⟩, fun q => absurd q one_ne⟩
  · rw [if_neg h]
    have m : (if (0 : Int64).toInt ≤ p1.toInt ∧ p1.toInt ≤ (9 : Int64).toInt then (1 : Int32) else 0) = 0 := if_neg h
    rw [m]
    exact ⟨fun q => absurd rfl q, fun _ => ⟨fun q => absurd rfl q, fun _ => ⟨trivial, hR⟩⟩⟩
/-- a value set in the air -/
theorem rel_set {z : ZS} (hR : Rel z) (i : Nat) (hi : i < 3) (v : Int32) (hv : (i = 0 → 0 ≤ v.toInt ∧ v.toInt ≤ 30) ∧ (i = 1 → 0 ≤ v.toInt ∧ v.toInt ≤ 900) ∧ (i = 2 → 300 ≤ v.toInt ∧ v.toInt ≤ 3000)) : Rel (wR (wI z 1 (i + 2) v) 14 0 i v) := by
  obtain ⟨⟨g1, g2, ⟨n, g3, g4, g5⟩, ⟨n2, g6, g7, g8⟩, g9, g10, g11⟩, r2, r3, r4⟩ := hR
  have hm : ∀ k, k ≠ i → zR (wR (wI z 1 (i + 2) v) 14 0 i v) 14 0 k = zR z 14 0 k := fun k hk => if_neg hk
  have hi0 : zR (wR (wI z 1 (i + 2) v) 14 0 i v) 14 0 i = v := if_pos rfl
  have hI : ∀ k, k ≠ i + 2 → zI (wR (wI z 1 (i + 2) v) 14 0 i v) 1 k = zI z 1 k := fun k hk => if_neg (fun q => hk q.2)
  have hI0 : zI (wR (wI z 1 (i + 2) v) 14 0 i v) 1 (i + 2) = v := if_pos ⟨rfl, rfl⟩
  have f1 : ∀ l, l < 10 → zR (wR (wI z 1 (i + 2) v) 14 0 i v) 1 0 l = zR z 1 0 l := fun _ _ => rfl
  refine ⟨⟨?_, fun l hl => ?_, ⟨n, g3, ?_, fun f hf => ?_⟩, ⟨n2, g6, ?_, fun b hb k hk => ?_⟩, ?_⟩, ?_, ?_, ?_⟩
  · obtain ⟨a0, a1, a2, a3, a4⟩ := g1
    rcases (show i = 0 ∨ i = 1 ∨ i = 2 by omega) with rfl | rfl | rfl
    · exact ⟨hi0.trans hI0.symm, a1, a2, a3, a4⟩
    · exact ⟨a0, hi0.trans hI0.symm, a2, a3, a4⟩
    · exact ⟨a0, a1, hi0.trans hI0.symm, a3, a4⟩
  · rw [hm _ (by omega), hm _ (by omega)]; exact g2 l hl
  · rw [hI _ (by omega)]; exact g4
  · rw [hm _ (by omega), hm _ (by omega), hm _ (by omega)]; exact g5 f hf
  · rw [hI _ (by omega)]; exact g7
  · rw [hm _ (by omega)]; exact g8 b hb k hk
  · rcases (show i = 0 ∨ i = 1 ∨ i = 2 by omega) with rfl | rfl | rfl
    · rw [hi0]; exact ⟨hv.1 rfl, g10, g11⟩
    · rw [hi0]; exact ⟨g9, hv.2.1 rfl, g11⟩
    · rw [hi0]; exact ⟨g9, g10, hv.2.2 rfl⟩
  · rcases r2 with q | ⟨q1, q2, q3⟩
    · exact Or.inl q
    · exact Or.inr ⟨q1, q2, q3⟩
  · intro d hd
    have h0 : zI (wR (wI z 1 (i + 2) v) 14 0 i v) (6 + d) = zI z (6 + d) := by funext k; exact if_neg (fun q => by omega)
    have h1 : zR (wR (wI z 1 (i + 2) v) 14 0 i v) (6 + d) = zR z (6 + d) := by funext k; exact if_neg (fun q => by omega)
    have := r3 d hd
    unfold RS at this ⊢
    rw [h0, h1]
    exact this
  · exact r4
theorem sk_2 : SK_2 Rel := by
  intro z p1 p2 hR
  have b0 : ∀ P : Prop, P → ∀ (A : Prop), ((1 : Int32) = 0 → A) := fun _ _ _ q => absurd q one_ne
  obtain ⟨⟨m0, m1, m2, -, -⟩, -⟩ := hR.1
  have mod : ∀ (i : Nat), i < 3 → p1 = nI i → ∀ (ok : Bool), (ok = true → ((i = 0 → 0 ≤ p2.toInt ∧ p2.toInt ≤ 30) ∧ (i = 1 → 0 ≤ p2.toInt ∧ p2.toInt ≤ 900) ∧ (i = 2 → 300 ≤ p2.toInt ∧ p2.toInt ≤ 3000))) → (ok = false → ¬ ((i = 0 → 0 ≤ p2.toInt ∧ p2.toInt ≤ 30) ∧ (i = 1 → 0 ≤ p2.toInt ∧ p2.toInt ≤ 900) ∧ (i = 2 → 300 ≤ p2.toInt ∧ p2.toInt ≤ 3000))) → ∀ (z1 : ZS) (post : Int32 → ZS → Prop), (ok = true → post (zR z1 14 0 i) (wR z1 14 0 i p2)) → (ok = false → post (-1) z1) → V_X12_set z1 p1 p2 post := by
    intro i hi hp ok h1 h2 z1 post k1 k2
    unfold V_X12_set V_X12_isValue
    simp only [e_isInI, b01, true_and]
    subst hp
    have c0 : (if (0 : Int64).toInt ≤ (nI i).toInt ∧ (nI i).toInt ≤ (2 : Int64).toInt then (1 : Int32) else 0) = 1 := if_pos (by rw [nI_toInt (by omega)]; exact ⟨by show (0 : Int) ≤ i; omega, by show (i : Int) ≤ 2; omega⟩)
    rw [c0]
    refine ⟨fun q => absurd q one_ne, fun _ => ?_⟩
    rcases (show i = 0 ∨ i = 1 ∨ i = 2 by omega) with rfl | rfl | rfl
    · refine ⟨fun q => absurd rfl q, fun _ => ?_⟩
      cases ok with
      | true =>
        have c1 : (if (0 : Int64).toInt ≤ p2.toInt ∧ p2.toInt ≤ (30 : Int64).toInt then (1 : Int32) else 0) = 1 := if_pos ((h1 rfl).1 rfl)
        rw [c1]
        refine ⟨fun _ => ⟨vin (by decide) (by decide), fun t et => ⟨vin (by decide) (by decide), fun z8 ez => ?_⟩⟩, fun q => absurd q one_ne⟩
        subst et; subst ez; exact k1 rfl
      | false =>
        have c1 : (if (0 : Int64).toInt ≤ p2.toInt ∧ p2.toInt ≤ (30 : Int64).toInt then (1 : Int32) else 0) = 0 := if_neg (fun q => h2 rfl ⟨fun _ => q, fun q => absurd q (by decide), fun q => absurd q (by decide)⟩)
        rw [c1]
        exact ⟨fun q => absurd rfl q, fun _ => k2 rfl⟩
    · refine ⟨fun _ => ⟨fun q => absurd rfl q, fun _ => ?_⟩, fun q => absurd q (by decide)⟩
      cases ok with
      | true =>
        have c1 : (if (0 : Int64).toInt ≤ p2.toInt ∧ p2.toInt ≤ (900 : Int64).toInt then (1 : Int32) else 0) = 1 := if_pos ((h1 rfl).2.1 rfl)
        rw [c1]
        refine ⟨fun _ => ⟨vin (by decide) (by decide), fun t et => ⟨vin (by decide) (by decide), fun z8 ez => ?_⟩⟩, fun q => absurd q one_ne⟩
        subst et; subst ez; exact k1 rfl
      | false =>
        have c1 : (if (0 : Int64).toInt ≤ p2.toInt ∧ p2.toInt ≤ (900 : Int64).toInt then (1 : Int32) else 0) = 0 := if_neg (fun q => h2 rfl ⟨fun q => absurd q (by decide), fun _ => q, fun q => absurd q (by decide)⟩)
        rw [c1]
        exact ⟨fun q => absurd rfl q, fun _ => k2 rfl⟩
    · refine ⟨fun _ => ⟨fun _ => ⟨fun q => absurd rfl q, fun _ => ?_⟩, fun q => absurd q (by decide)⟩, fun q => absurd q (by decide)⟩
      cases ok with
      | true =>
        have c1 : (if (300 : Int64).toInt ≤ p2.toInt ∧ p2.toInt ≤ (3000 : Int64).toInt then (1 : Int32) else 0) = 1 := if_pos ((h1 rfl).2.2 rfl)
        rw [c1]
        refine ⟨fun q => absurd q one_ne, fun _ => ⟨fun _ => ⟨vin (by decide) (by decide), fun t et => ⟨vin (by decide) (by decide), fun z8 ez => ?_⟩⟩, fun q => absurd q one_ne⟩⟩
        subst et; subst ez; exact k1 rfl
      | false =>
        have c1 : (if (300 : Int64).toInt ≤ p2.toInt ∧ p2.toInt ≤ (3000 : Int64).toInt then (1 : Int32) else 0) = 0 := if_neg (fun q => h2 rfl ⟨fun q => absurd q (by decide), fun q => absurd q (by decide), fun _ => q⟩)
        rw [c1]
        exact ⟨fun _ => ⟨fun q => absurd trivial q, fun _ => k2 rfl⟩, fun q => absurd rfl q⟩
  have bad : ¬ (0 ≤ p1.toInt ∧ p1.toInt ≤ 2) → ∀ (z1 : ZS) (post : Int32 → ZS → Prop), post (-1) z1 → V_X12_set z1 p1 p2 post := by
    intro h z1 post k
    unfold V_X12_set
    rw [e_isInI]
    have c0 : (if (0 : Int64).toInt ≤ p1.toInt ∧ p1.toInt ≤ (2 : Int64).toInt then (1 : Int32) else 0) = 0 := if_neg h
    rw [c0]
    exact ⟨fun _ => k, fun q => absurd rfl q⟩
  have fin : ∀ z1, z1 = z → Rel z1 := fun _ e => e ▸ hR
  unfold V_X11_set V_X11_set_35 V_X11_set_70
  simp only [e_isFrom]
  have go : ∀ (i : Nat) (hi : i < 3) (hp : p1 = nI i), ((i = 0 → 0 ≤ p2.toInt ∧ p2.toInt ≤ 30) ∧ (i = 1 → 0 ≤ p2.toInt ∧ p2.toInt ≤ 900) ∧ (i = 2 → 300 ≤ p2.toInt ∧ p2.toInt ≤ 3000)) → ∀ t, t = zI z 1 (i + 2) → V_X12_set (wI z 1 (i + 2) p2) p1 p2 (fun r2 z2 => r2 = t ∧ Rel z2) := by
    intro i hi hp hv t ht
    refine mod i hi hp true (fun _ => hv) (fun q => by cases q) _ _ (fun _ => ⟨?_, rel_set hR i hi p2 hv⟩) (fun q => by cases q)
    subst ht
    rcases (show i = 0 ∨ i = 1 ∨ i = 2 by omega) with rfl | rfl | rfl
    · exact m0
    · exact m1
    · exact m2
  have no : ∀ (i : Nat) (hi : i < 3) (hp : p1 = nI i), ¬ ((i = 0 → 0 ≤ p2.toInt ∧ p2.toInt ≤ 30) ∧ (i = 1 → 0 ≤ p2.toInt ∧ p2.toInt ≤ 900) ∧ (i = 2 → 300 ≤ p2.toInt ∧ p2.toInt ≤ 3000)) → V_X12_set z p1 p2 (fun r2 z2 => r2 = -1 ∧ Rel z2) := fun i hi hp hv =>
    mod i hi hp false (fun q => by cases q) (fun _ => hv) _ _ (fun q => by cases q) (fun _ => ⟨rfl, hR⟩)
  by_cases c0 : p1 = 0
  · refine ⟨fun q => absurd c0 q, fun _ => ?_⟩
    by_cases h : (0 : Int32).toInt ≤ p2.toInt ∧ p2.toInt ≤ (30 : Int32).toInt
    · rw [if_pos h]
      refine ⟨fun q => absurd q one_ne, fun _ t et z8 ez => ?_⟩
      subst ez
      exact go 0 (by decide) c0 ⟨fun _ => h, fun q => absurd q (by decide), fun q => absurd q (by decide)⟩ t et
    · rw [if_neg h]
      have n := no 0 (by decide) c0 (fun q => h (q.1 rfl))
      refine ⟨fun _ => ⟨fun _ => ⟨fun _ => n, fun q => absurd (c0.symm.trans q) (by decide)⟩, fun q => absurd (c0.symm.trans q) (by decide)⟩, fun q => absurd rfl q⟩
  · refine ⟨fun _ => ?_, fun q => absurd q c0⟩
    by_cases c1 : p1 = 1
    · refine ⟨fun q => absurd c1 q, fun _ => ?_⟩
      by_cases h : (0 : Int32).toInt ≤ p2.toInt ∧ p2.toInt ≤ (900 : Int32).toInt
      · rw [if_pos h]
        refine ⟨fun q => absurd q one_ne, fun _ t et z8 ez => ?_⟩
        subst ez
        exact go 1 (by decide) c1 ⟨fun q => absurd q (by decide), fun _ => h, fun q => absurd q (by decide)⟩ t et
      · rw [if_neg h]
        have n := no 1 (by decide) c1 (fun q => h (q.2.1 rfl))
        exact ⟨fun _ => ⟨fun _ => n, fun q => absurd (c1.symm.trans q) (by decide)⟩, fun q => absurd rfl q⟩
    · refine ⟨fun _ => ?_, fun q => absurd q c1⟩
      by_cases c2 : p1 = 2
      · refine ⟨fun q => absurd c2 q, fun _ => ?_⟩
        by_cases h : (300 : Int32).toInt ≤ p2.toInt ∧ p2.toInt ≤ (3000 : Int32).toInt
        · rw [if_pos h]
          refine ⟨fun q => absurd q one_ne, fun _ t et z8 ez => ?_⟩
          subst ez
          exact go 2 (by decide) c2 ⟨fun q => absurd q (by decide), fun q => absurd q (by decide), fun _ => h⟩ t et
        · rw [if_neg h]
          exact ⟨fun _ => no 2 (by decide) c2 (fun q => h (q.2.2 rfl)), fun q => absurd rfl q⟩
      · refine ⟨fun _ => bad (fun h => ?_) z _ ⟨rfl, hR⟩, fun q => absurd q c2⟩
        obtain ⟨i, e, e2, -⟩ := nat_of h.1
        rcases (show i = 0 ∨ i = 1 ∨ i = 2 by omega) with rfl | rfl | rfl
        · exact c0 e
        · exact c1 e
        · exact c2 e
theorem sk_3 : SK_3 Rel := by
  intro z p1 p2 hR
  unfold V_X11_faller V_X12_faller
  rcases fcase hR p1 with hb | ⟨f, a, g⟩
  · exact c_fB hb ⟨fun _ => m_fB hR hb ⟨fun q => absurd rfl q, fun _ => ⟨rfl, hR⟩⟩, fun a q => by cases q⟩
  · have g0 := g
    obtain ⟨rfl, hf, -, -, -, hP, -, -, n1, n2, n3, n4, n5, n6, -, -, -⟩ := g
    have n1' : zF z a 1 = zR z 14 0 (26 + 3 * f) := n1
    refine c_fO g0 ⟨fun q => (by cases q), fun a' q => ?_⟩
    cases q
    have hm : ∀ (v : Int32), (∀ post : Int32 → ZS → Prop, post v z → ((p2 = (0 : Int32) → V_X12_of z (nI f) p2 (fun r28 z27 => post r28 z27)) ∧ (¬ p2 = (0 : Int32) → ((p2 = (1 : Int32) → V_X12_of z (nI f) p2 (fun r26 z25 => post r26 z25)) ∧ (¬ p2 = (1 : Int32) → ((p2 = (2 : Int32) → V_X12_of z (nI f) p2 (fun r24 z23 => post r24 z23)) ∧ (¬ p2 = (2 : Int32) → ((p2 = (3 : Int32) → V_X12_fallsBy z (zR z 14 0 (25 + 3 * f)) (fun r22 z21 => post r22 z21)) ∧ (¬ p2 = (3 : Int32) → ((p2 = (4 : Int32) → V_X12_of z (nI f) (1 : Int32) (fun r18 z17 => V_X12_sinksBy z17 (zR z 14 0 (25 + 3 * f)) r18 (fun r20 z19 => post r20 z19))) ∧ (¬ p2 = (4 : Int32) → ((p2 = (5 : Int32) → V_X12_of z (nI f) (1 : Int32) (fun r14 z13 => V_X12_paceBy z13 (zR z 14 0 (25 + 3 * f)) r14 (fun r16 z15 => post r16 z15))) ∧ (¬ p2 = (5 : Int32) → post (-1 : Int32) z))))))))))))) → V_X12_faller z (nI f) p2 (fun r2 z2 => r2 = v ∧ Rel z2) := by
      intro v h
      unfold V_X12_faller
      refine m_fO hR g0 ⟨fun _ => ?_, fun q => absurd q one_ne⟩
      rw [e_of0 hf]
      exact h _ ⟨rfl, hR⟩
    unfold V_X12_faller at hm
    by_cases c0 : p2 = 0
    · subst c0
      refine ⟨fun _ => ⟨hP, hm _ (fun post h => ⟨fun _ => ?_, fun q => absurd rfl q⟩)⟩, fun q => absurd rfl q⟩
      rw [e_of0 hf, ← n3]; exact h
    refine ⟨fun q => absurd q c0, fun _ => ?_⟩
    by_cases c1 : p2 = 1
    · subst c1
      refine ⟨fun _ => ⟨hP, hm _ (fun post h => ⟨fun q => absurd q c0, fun _ => ⟨fun _ => ?_, fun q => absurd rfl q⟩⟩)⟩, fun q => absurd rfl q⟩
      rw [e_of1 hf, ← n1]; exact h
    refine ⟨fun q => absurd q c1, fun _ => ?_⟩
    by_cases c2 : p2 = 2
    · subst c2
      refine ⟨fun _ => ⟨hP, hm _ (fun post h => ⟨fun q => absurd q c0, fun _ => ⟨fun q => absurd q c1, fun _ => ⟨fun _ => ?_, fun q => absurd rfl q⟩⟩⟩)⟩, fun q => absurd rfl q⟩
      rw [e_of2 hf, ← n2]; exact h
    refine ⟨fun q => absurd q c2, fun _ => ?_⟩
    by_cases c3 : p2 = 3
    · refine ⟨fun _ => ⟨hP, hm _ (fun post h => ⟨fun q => absurd q c0, fun _ => ⟨fun q => absurd q c1, fun _ => ⟨fun q => absurd q c2, fun _ => ⟨fun _ => m_fallsBy (by rw [← n4]; exact h), fun q => absurd c3 q⟩⟩⟩⟩)⟩, fun q => absurd c3 q⟩
    refine ⟨fun q => absurd q c3, fun _ => ?_⟩
    by_cases c4 : p2 = 4
    · refine ⟨fun _ => ⟨hP, hm _ (fun post h => ⟨fun q => absurd q c0, fun _ => ⟨fun q => absurd q c1, fun _ => ⟨fun q => absurd q c2, fun _ => ⟨fun q => absurd q c3, fun _ => ⟨fun _ => by rw [e_of1 hf]; exact m_sinksBy (by rw [← n5]; exact h), fun q => absurd c4 q⟩⟩⟩⟩⟩)⟩, fun q => absurd c4 q⟩
    refine ⟨fun q => absurd q c4, fun _ => ?_⟩
    by_cases c5 : p2 = 5
    · refine ⟨fun _ => ⟨hP, hm _ (fun post h => ⟨fun q => absurd q c0, fun _ => ⟨fun q => absurd q c1, fun _ => ⟨fun q => absurd q c2, fun _ => ⟨fun q => absurd q c3, fun _ => ⟨fun q => absurd q c4, fun _ => ⟨fun _ => by rw [e_of1 hf]; exact m_paceBy (by rw [← n6]; exact h), fun q => absurd c5 q⟩⟩⟩⟩⟩⟩)⟩, fun q => absurd c5 q⟩
    refine ⟨fun q => absurd q c5, fun _ => hm _ (fun post h => ⟨fun q => absurd q c0, fun _ => ⟨fun q => absurd q c1, fun _ => ⟨fun q => absurd q c2, fun _ => ⟨fun q => absurd q c3, fun _ => ⟨fun q => absurd q c4, fun _ => ⟨fun q => absurd q c5, fun _ => h⟩⟩⟩⟩⟩⟩)⟩
