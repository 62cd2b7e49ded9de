/-! PURE, part 10: steering of the reference; steers -/
theorem am_pos {e : Int32} (he : -1000 ≤ e.toInt ∧ e.toInt ≤ 1000) : (am e).toInt = if 0 ≤ e.toInt then e.toInt else - e.toInt := by
  unfold am
  have e0 : (0 : Int32).toInt = 0 := by decide
  by_cases h : 0 ≤ e
  · rw [if_pos h]
    rw [Int32.le_iff_toInt_le, e0] at h
    rw [if_pos h]
  · rw [if_neg h]
    rw [Int32.le_iff_toInt_le, e0] at h
    rw [if_neg h, Int32.toInt_sub, e0, Int.bmod_def]
    split <;> omega
theorem sgn_m (p : Int32) : (1 : Int32) * p = p ∧ (-1 : Int32) * p = -p ∧ (0 : Int32) * p = 0 := ⟨Int32.one_mul p, by rw [Int32.neg_mul, Int32.one_mul], Int32.zero_mul⟩
theorem m_steers45 {z : ZS} {kn : Nat} {f x y e n s0 : Int32} (hk : kn < 8) (he : -1000 ≤ e.toInt ∧ e.toInt ≤ 1000) (hn : -1000 ≤ n.toInt ∧ n.toInt ≤ 1000) (hs0 : s0 = 0 → ¬ (100 * f < am x ∨ 100 * f < am y)) (hs1 : ¬ s0 = 0 → (100 * f < am x ∨ 100 * f < am y)) {post : ZS → Prop} (h : post (ST z (stE (nI kn) f x y e n) (stN (nI kn) f x y e n))) : V_X12_steersBy_45 post (wI (wI z 14 16 0) 14 17 0) (nI kn) x y e n (paceB (nI kn) f) s0 := by
  unfold V_X12_steersBy_45 V_X12_steersBy_236 V_X12_steersBy_214 V_X12_steersBy_194 V_X12_steersBy_149 V_X12_steersBy_116
  have none : ¬ isT (nI kn) f x y → post (wI (wI z 14 16 0) 14 17 0) := fun t => by
    rw [stE_neg (fun q => t q.1), stN_neg (fun q => t q.1)] at h
    exact h
  have east : isT (nI kn) f x y → alX (nI kn) x y e n → post (wI (wI (wI z 14 16 0) 14 17 0) 14 16 (stp (nI kn) f x e)) := fun t c => by
    rw [stE_pos t c, stN_neg (fun q => q.2 c)] at h
    rw [ST_1]; exact h
  have north : isT (nI kn) f x y → ¬ alX (nI kn) x y e n → post (wI (wI (wI z 14 16 0) 14 17 0) 14 17 (stp (nI kn) f y n)) := fun t c => by
    rw [stE_neg (fun q => c q.2), stN_pos t c] at h
    rw [ST_2]; exact h
  have ne : ∀ a b : Nat, a < 8 → b < 8 → a ≠ b → ¬ nI a = nI b := fun a b ha hb hab q => hab ((nI_eq (by omega) (by omega)).mp q)
  rcases kcase hk with rfl | rfl | rfl | rfl | rfl | rfl | rfl | rfl
  · have t : isT (nI 0) f x y := ⟨by decide, by decide, fun r => absurd r (by decide)⟩
    exact ⟨fun q => absurd q (by decide), fun _ => ⟨fun q => absurd q (by decide), fun _ => ⟨fun q => absurd q (by decide), fun _ => ⟨fun q => absurd q (by decide), fun _ => ⟨fun q => absurd q (by decide), fun _ => m_amount (m_amount ⟨fun c => m_toward0 (north t (fun q => q c)), fun c => m_toward1 (east t c)⟩)⟩⟩⟩⟩⟩
  · exact ⟨fun _ => none (fun r => r.1 rfl), fun q => absurd rfl q⟩
  · have t : isT (nI 2) f x y := ⟨by decide, by decide, fun r => absurd r (by decide)⟩
    exact ⟨fun q => absurd q (by decide), fun _ => ⟨fun q => absurd q (by decide), fun _ => ⟨fun q => absurd q (by decide), fun _ => ⟨fun q => absurd q (by decide), fun _ => ⟨fun q => absurd q (by decide), fun _ => m_amount (m_amount ⟨fun c => m_toward0 (north t (fun q => q c)), fun c => m_toward1 (east t c)⟩)⟩⟩⟩⟩⟩
  · have t : isT (nI 3) f x y := ⟨by decide, by decide, fun r => absurd r (by decide)⟩
    exact ⟨fun q => absurd q (by decide), fun _ => ⟨fun q => absurd q (by decide), fun _ => ⟨fun q => absurd q (by decide), fun _ => ⟨fun q => absurd q (by decide), fun _ => ⟨fun q => absurd q (by decide), fun _ => m_amount (m_amount ⟨fun c => m_toward0 (north t (fun q => q c)), fun c => m_toward1 (east t c)⟩)⟩⟩⟩⟩⟩
  · refine ⟨fun q => absurd q (by decide), fun _ => ⟨fun _ => ⟨fun q => none (fun r => hs0 q (r.2.2 (Or.inl rfl))), fun q => ?_⟩, fun q => absurd rfl q⟩⟩
    have t : isT (nI 4) f x y := ⟨by decide, by decide, fun _ => hs1 q⟩
    exact m_amount (m_amount ⟨fun c => m_toward0 (north t (fun q => q c)), fun c => m_toward1 (east t c)⟩)
  · refine ⟨fun q => absurd q (by decide), fun _ => ⟨fun q => absurd q (by decide), fun _ => ⟨fun _ => ⟨fun q => none (fun r => hs0 q (r.2.2 (Or.inr rfl))), fun q => ?_⟩, fun q => absurd rfl q⟩⟩⟩
    have t : isT (nI 5) f x y := ⟨by decide, by decide, fun _ => hs1 q⟩
    refine m_amount (m_amount ⟨fun c => m_toward0 (north t (fun q => ?_)), fun c => m_toward1 (east t ?_)⟩)
    · have q : am e < am n := q
      rw [Int32.lt_iff_toInt_lt] at q
      rw [Int32.le_iff_toInt_le] at c
      omega
    · show am e < am n
      rw [Int32.lt_iff_toInt_lt]
      rw [Int32.le_iff_toInt_le] at c
      omega
  · have t : isT (nI 6) f x y := ⟨by decide, by decide, fun r => absurd r (by decide)⟩
    have e0 : (0 : Int32).toInt = 0 := by decide
    refine ⟨fun q => absurd q (by decide), fun _ => ⟨fun q => absurd q (by decide), fun _ => ⟨fun q => absurd q (by decide), fun _ => ⟨fun _ => m_amount (m_amount ⟨fun c => ?_, fun c => ?_⟩), fun q => absurd rfl q⟩⟩⟩⟩
    · have hh := north t (fun q => (show ¬ am e < am n from q) c)
      have sv : stp (nI 6) f y n = sgn n * paceB (nI 6) f := if_pos rfl
      rw [sv] at hh
      rw [Int32.lt_iff_toInt_lt, am_pos he, am_pos hn] at c
      unfold sgn at hh
      simp only [Int32.lt_iff_toInt_lt, Int32.le_iff_toInt_le, e0] at hh ⊢
      refine ⟨fun c1 z27 e27 => ?_, fun c1 z27 e27 => ?_⟩
      · subst e27
        rw [if_neg (by omega), if_pos (by split at c <;> split at c <;> omega), (sgn_m _).2.1] at hh
        exact hh
      · subst e27
        rw [if_pos (by omega), (sgn_m _).1] at hh
        exact hh
    · have hh := east t (show ¬ am e < am n from c)
      have sv : stp (nI 6) f x e = sgn e * paceB (nI 6) f := if_pos rfl
      rw [sv] at hh
      unfold sgn at hh
      simp only [Int32.lt_iff_toInt_lt, Int32.le_iff_toInt_le, e0] at hh ⊢
      refine ⟨fun c1 => ⟨fun c2 z27 e27 => ?_, fun c2 z27 e27 => ?_⟩, fun c1 z27 e27 => ?_⟩
      · subst e27
        rw [if_neg (by omega), if_neg (by omega), (sgn_m _).2.2] at hh
        exact hh
      · subst e27
        rw [if_neg (by omega), if_pos (by omega), (sgn_m _).2.1] at hh
        exact hh
      · subst e27
        rw [if_pos (by omega), (sgn_m _).1] at hh
        exact hh
  · exact ⟨fun q => absurd q (by decide), fun _ => ⟨fun q => absurd q (by decide), fun _ => ⟨fun q => absurd q (by decide), fun _ => ⟨fun q => absurd q (by decide), fun _ => ⟨fun _ => none (fun r => r.2.1 rfl), fun q => absurd rfl q⟩⟩⟩⟩⟩
theorem m_steersBy {z : ZS} {kn : Nat} {f x y e n : Int32} (hk : kn < 8) (he : -1000 ≤ e.toInt ∧ e.toInt ≤ 1000) (hn : -1000 ≤ n.toInt ∧ n.toInt ≤ 1000) {post : ZS → Prop} (h : post (ST z (stE (nI kn) f x y e n) (stN (nI kn) f x y e n))) : V_X12_steersBy z (nI kn) f x y e n post := by
  unfold V_X12_steersBy V_X12_steersBy_40
  intro z1 e1 z2 e2
  subst e1; subst e2
  refine m_paceBy (m_amount ⟨fun c => m_steers45 hk he hn (fun q => absurd q one_ne) (fun _ => Or.inl c) h, fun c => m_amount ⟨fun c2 => m_steers45 hk he hn (fun _ q => ?_) (fun q => absurd rfl q) h, fun c2 => m_steers45 hk he hn (fun q => absurd q one_ne) (fun _ => Or.inr ?_) h⟩⟩)
  · rcases q with q | q
    · exact c q
    · rw [Int32.lt_iff_toInt_lt] at q
      rw [Int32.le_iff_toInt_le] at c2
      omega
  · rw [Int32.lt_iff_toInt_lt]
    rw [Int32.le_iff_toInt_le] at c2
    omega
theorem Kp.ST {z : ZS} (a b : Int32) : Kp z (ST z a b) := ((Kp.rf z).I 14 16 a (by unfold keepI; omega)).I 14 17 b (by unfold keepI; omega)
theorem sk_5 : SK_5 Rel := by
  intro z p1 p2 p3 p4 p5 hp5 hR
  unfold V_X11_steers
  rcases fcase hR p1 with hb | ⟨f, a, g⟩
  · exact c_fB hb ⟨fun _ => (by unfold V_X12_steers; exact m_fB hR hb ⟨fun _ => ⟨rfl, hR⟩, fun q => absurd rfl q⟩), fun a q => by cases q⟩
  have g0 := g
  obtain ⟨rfl, hf, -, -, -, g5⟩ := g
  refine c_fO g0 ⟨fun q => (by cases q), fun a' q => ?_⟩
  cases q
  rw [e_isPlace]
  by_cases h1 : -30000 ≤ p2.toInt ∧ p2.toInt ≤ 30000
  · by_cases h2 : -30000 ≤ p3.toInt ∧ p3.toInt ≤ 30000
    · rw [if_pos ⟨h1, h2⟩]
      refine ⟨fun q => absurd q one_ne, fun _ => ?_⟩
      rw [e_isLayer]
      by_cases h3 : 0 ≤ p4.toInt ∧ p4.toInt ≤ 9
      · rw [if_pos h3]
        obtain ⟨l, rfl, el, -⟩ := nat_of h3.1
        have hl : l < 10 := by omega
        obtain ⟨w1, w2, w3, w4⟩ := hR.1.2.1 l hl
        rw [nI_clamp (by omega)]
        have mm : ∀ post : Int32 → ZS → Prop, (∀ z1, Kp z z1 → zI z1 14 16 = stE (zR z 14 0 (25 + 3 * f)) (zR z 14 0 (26 + 3 * f)) p2 p3 (zR z 1 0 l) (zR z 1 1 l) → zI z1 14 17 = stN (zR z 14 0 (25 + 3 * f)) (zR z 14 0 (26 + 3 * f)) p2 p3 (zR z 1 0 l) (zR z 1 1 l) → (p5 = 0 → post (zI z1 14 16) z1) ∧ (¬ p5 = 0 → post (zI z1 14 17) z1)) → V_X12_steers z (nI f) p2 p3 (nI l) p5 post := fun post k => by
          unfold V_X12_steers
          refine m_fO hR g0 ⟨fun q => absurd q one_ne, fun _ => ?_⟩
          rw [e_isEdge, if_pos h1]
          refine ⟨fun q => absurd q one_ne, fun _ => ?_⟩
          rw [e_isEdge, if_pos h2]
          refine ⟨fun q => absurd q one_ne, fun _ => ?_⟩
          rw [e_isInI]
          have m9 : (if (0 : Int64).toInt ≤ (nI l).toInt ∧ (nI l).toInt ≤ (9 : Int64).toInt then (1 : Int32) else 0) = 1 := if_pos h3
          rw [m9]
          refine ⟨fun _ => ?_, fun q => absurd q one_ne⟩
          rw [e_of0 hf, e_of1 hf, e_east hl, e_north hl, w1, w2]
          have ek := g5.2.2.1
          rw [ek] at k ⊢
          refine m_steersBy g5.2.1 (by omega) (by omega) ?_
          exact k _ (Kp.ST _ _) rfl rfl
        refine ⟨fun _ => ⟨vin hl (by decide), fun t10 e10 => ⟨vin hl (by decide), fun t11 e11 => ⟨fun c => ⟨g5.1, ?_⟩, fun c => ⟨g5.1, ?_⟩⟩⟩⟩, fun q => absurd q one_ne⟩
        · subst e10; subst e11
          exact c_stE g5 (by omega) (mm _ (fun z1 hk q1 q2 => ⟨fun _ => ⟨q1, hR.kp hk⟩, fun q => absurd c q⟩))
        · subst e10; subst e11
          exact c_stN g5 (by omega) (mm _ (fun z1 hk q1 q2 => ⟨fun q => absurd q c, fun _ => ⟨q2, hR.kp hk⟩⟩))
      · rw [if_neg h3]
        refine ⟨fun q => absurd rfl q, fun _ => ?_⟩
        unfold V_X12_steers
        refine m_fO hR g0 ⟨fun q => absurd q one_ne, fun _ => ?_⟩
        rw [e_isEdge, if_pos h1]
        refine ⟨fun q => absurd q one_ne, fun _ => ?_⟩
        rw [e_isEdge, if_pos h2]
        refine ⟨fun q => absurd q one_ne, fun _ => ?_⟩
        rw [e_isInI]
        have m9 : (if (0 : Int64).toInt ≤ p4.toInt ∧ p4.toInt ≤ (9 : Int64).toInt then (1 : Int32) else 0) = 0 := if_neg h3
        rw [m9]
        exact ⟨fun q => absurd rfl q, fun _ => ⟨rfl, hR⟩⟩
    · rw [if_neg (fun q => h2 q.2)]
      refine ⟨fun _ => ?_, fun q => absurd rfl q⟩
      unfold V_X12_steers
      refine m_fO hR g0 ⟨fun q => absurd q one_ne, fun _ => ?_⟩
      rw [e_isEdge, if_pos h1]
      refine ⟨fun q => absurd q one_ne, fun _ => ?_⟩
      rw [e_isEdge, if_neg h2]
      exact ⟨fun _ => ⟨rfl, hR⟩, fun q => absurd rfl q⟩
  · rw [if_neg (fun q => h1 q.1)]
    refine ⟨fun _ => ?_, fun q => absurd rfl q⟩
    unfold V_X12_steers
    refine m_fO hR g0 ⟨fun q => absurd q one_ne, fun _ => ?_⟩
    rw [e_isEdge, if_neg h1]
    exact ⟨fun _ => ⟨rfl, hR⟩, fun q => absurd rfl q⟩
