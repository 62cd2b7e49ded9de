/-! PURE, part 5: shelves -/
theorem isS_of {d : Nat} (h : d < 8) : isS (6 + d) := ⟨by omega, by omega⟩
theorem c_sB {z : ZS} {p : Int32} {post : Option Nat → ZS → Prop} (hb : ¬ (0 ≤ p.toInt ∧ p.toInt ≤ 7)) (h : post none z) : V_X11_shelfAt z p post := by
  unfold V_X11_shelfAt V_X11_shelfAt_20
  rw [e_isFrom]
  have m : (if (0 : Int32).toInt ≤ p.toInt ∧ p.toInt ≤ (7 : Int32).toInt then (1 : Int32) else 0) = 0 := if_neg hb
  rw [m]
  exact ⟨fun _ => h, fun q => absurd rfl q⟩
theorem c_sO {z : ZS} {d : Nat} {post : Option Nat → ZS → Prop} (hd : d < 8) (h : post (some (6 + d)) z) : V_X11_shelfAt z (nI d) post := by
  unfold V_X11_shelfAt V_X11_shelfAt_20
  rw [e_isFrom]
  have m : (if (0 : Int32).toInt ≤ (nI d).toInt ∧ (nI d).toInt ≤ (7 : Int32).toInt then (1 : Int32) else 0) = 1 := if_pos (by rw [nI_toInt (by omega)]; exact ⟨by show (0 : Int) ≤ d; omega, by show (d : Int) ≤ 7; omega⟩)
  rw [m, nI_clamp (by omega)]
  exact ⟨fun q => absurd q one_ne, fun _ => ⟨vin hd (by decide), h⟩⟩
theorem scase (p : Int32) : ¬ (0 ≤ p.toInt ∧ p.toInt ≤ 7) ∨ ∃ d, d < 8 ∧ p = nI d := by
  by_cases h : 0 ≤ p.toInt ∧ p.toInt ≤ 7
  · obtain ⟨d, e, e2, -⟩ := nat_of h.1
    exact Or.inr ⟨d, by omega, e⟩
  · exact Or.inl h
theorem m_sB {z : ZS} {p : Int32} {post : Int32 → ZS → Prop} (hb : ¬ (0 ≤ p.toInt ∧ p.toInt ≤ 7)) (h : post 0 z) : V_X12_isShelf z p post := by
  rw [e_isShelf, if_neg hb]; exact h
theorem m_sO {z : ZS} {d : Nat} {post : Int32 → ZS → Prop} (hd : d < 8) (h : post 1 z) : V_X12_isShelf z (nI d) post := by
  rw [e_isShelf, if_pos (by rw [nI_toInt (by omega)]; omega)]; exact h
theorem cl8 {d : Nat} (hd : d < 8) : (nI d).toNatClampNeg = d := nI_clamp (by omega)
/-- care and toss of the reference: the shelf's word -/
theorem m_kept0 {z : ZS} {d : Nat} (hd : d < 8) {post : Int32 → ZS → Prop} (h0 : zR z 14 3 d = 0) (h : post (-11) z) : V_X12_wrongKept z (nI d) post := by
  unfold V_X12_wrongKept
  refine m_sO hd ⟨fun _ => ?_, fun q => absurd q one_ne⟩
  rw [cl8 hd, h0]
  exact ⟨vin hd (by decide), fun q => absurd rfl q, fun _ => h⟩
theorem m_kept1 {z : ZS} {d : Nat} (hd : d < 8) {post : Int32 → ZS → Prop} (h0 : zR z 14 3 d = 1) (h : post 0 z) : V_X12_wrongKept z (nI d) post := by
  unfold V_X12_wrongKept
  refine m_sO hd ⟨fun _ => ?_, fun q => absurd q one_ne⟩
  rw [cl8 hd, h0]
  exact ⟨vin hd (by decide), fun _ => ⟨vin hd (by decide), fun q => absurd rfl q, fun _ => h⟩, fun q => absurd q one_ne⟩
theorem m_kept2 {z : ZS} {d : Nat} (hd : d < 8) {post : Int32 → ZS → Prop} (h0 : zR z 14 3 d = 2) (h : post (-12) z) : V_X12_wrongKept z (nI d) post := by
  unfold V_X12_wrongKept
  refine m_sO hd ⟨fun _ => ?_, fun q => absurd q one_ne⟩
  rw [cl8 hd, h0]
  exact ⟨vin hd (by decide), fun _ => ⟨vin hd (by decide), fun _ => h, fun q => absurd q (by decide)⟩, fun q => absurd q (by decide)⟩
theorem m_keptB {z : ZS} {p : Int32} {post : Int32 → ZS → Prop} (hb : ¬ (0 ≤ p.toInt ∧ p.toInt ≤ 7)) (h : post (-1) z) : V_X12_wrongKept z p post := by
  unfold V_X12_wrongKept
  exact m_sB hb ⟨fun q => absurd rfl q, fun _ => h⟩
theorem sk_34 : SK_34 Rel := by
  intro z p1 hR
  unfold V_X11_care V_X12_care
  rcases scase p1 with hb | ⟨d, hd, rfl⟩
  · exact c_sB hb ⟨fun _ => m_keptB hb ⟨fun q => absurd q (by decide), fun _ => ⟨rfl, hR⟩⟩, fun a q => by cases q⟩
  refine c_sO hd ⟨fun q => (by cases q), fun a q => ?_⟩
  cases q
  refine ⟨isS_of hd, fun t et => ?_⟩
  subst et
  rcases hR.2.2.1 d hd with ⟨k0, k1, k2⟩ | ⟨k0, k1, a, k2, k3, k4, k5⟩ | ⟨k0, k1, k2, -⟩
  · rw [k1, k2]
    exact ⟨fun _ => ⟨fun _ => m_kept0 hd k0 ⟨fun q => absurd q (by decide), fun _ => ⟨rfl, hR⟩⟩, fun q => absurd rfl q⟩, fun a q => by cases q⟩
  · rw [k2]
    refine ⟨fun q => (by cases q), fun a' q => ?_⟩
    cases q
    refine ⟨k3, m_kept1 hd k0 ⟨fun _ => ⟨vin hd (by decide), ?_⟩, fun q => absurd rfl q⟩⟩
    rw [cl8 hd]
    exact ⟨k4.symm, hR⟩
  · rw [k1, k2]
    exact ⟨fun _ => ⟨fun q => absurd q one_ne, fun _ => m_kept2 hd k0 ⟨fun q => absurd q (by decide), fun _ => ⟨rfl, hR⟩⟩⟩, fun a q => by cases q⟩
theorem sk_35 : SK_35 Rel := by
  intro z p1 hR
  unfold V_X11_toss V_X12_toss
  rcases scase p1 with hb | ⟨d, hd, rfl⟩
  · exact c_sB hb ⟨fun _ => m_keptB hb ⟨fun q => absurd q (by decide), fun _ => ⟨rfl, hR⟩⟩, fun a q => by cases q⟩
  refine c_sO hd ⟨fun q => (by cases q), fun a q => ?_⟩
  cases q
  refine ⟨isS_of hd, ?_⟩
  rcases hR.2.2.1 d hd with ⟨k0, k1, k2⟩ | ⟨k0, k1, a, k2, k3, k4, k5⟩ | ⟨k0, k1, k2, -⟩
  · rw [k1, k2]
    exact ⟨fun _ => ⟨fun _ => m_kept0 hd k0 ⟨fun q => absurd q (by decide), fun _ => ⟨rfl, hR⟩⟩, fun q => absurd rfl q⟩, fun a q => by cases q⟩
  · rw [k2]
    refine ⟨fun q => (by cases q), fun a' q => ?_⟩
    cases q
    refine ⟨k3, m_kept1 hd k0 ⟨fun _ => ⟨vin hd (by decide), ?_⟩, fun q => absurd rfl q⟩⟩
    rw [cl8 hd]
    exact ⟨k5.symm, hR⟩
  · rw [k1, k2]
    exact ⟨fun _ => ⟨fun q => absurd q one_ne, fun _ => m_kept2 hd k0 ⟨fun q => absurd q (by decide), fun _ => ⟨rfl, hR⟩⟩⟩, fun a q => by cases q⟩
/-- only the Shelf d has changed -/
theorem Rel.shelf {z z1 : ZS} (hR : Rel z) {d : Nat} (hd : d < 8) (hI : ∀ o k, o ≠ 6 + d → zI z1 o k = zI z o k) (hA : ∀ o k, o ≠ 6 + d → o ≠ 14 → zR z1 o k = zR z o k) (h01 : ∀ k, k < 3 → zR z1 14 k = zR z 14 k) (hM : ∀ k, 3 ≤ k → k < 9 → k ≠ 6 → ∀ e, e ≠ d → zR z1 14 k e = zR z 14 k e) (hE : ∀ e, e ≠ d → ∀ k, k < 100 → zR z1 14 6 (100 * e + k) = zR z 14 6 (100 * e + k)) (hG : ∀ o, o ≠ 6 + d → zG z1 o = zG z o) (hQ : zQ z1 = zQ z) (hP : zP z1 = zP z) (hK : zK z1 = zK z) (hF : zF z1 = zF z) (hS : RS z1 d) : Rel z1 := by
  obtain ⟨r1, r2, r3, r4⟩ := hR
  refine ⟨?_, ?_, fun e he => ?_, fun o k a q => by rw [hP]; exact r4 o k a (by rw [← hQ]; exact q)⟩
  · exact r1.same (fun k => hI 1 k (by omega)) (fun k => hA 1 k (by omega) (by omega)) (by rw [hQ]) hP hK hF (fun k _ => by rw [h01 0 (by decide)])
  · rcases r2 with ⟨q1, q2⟩ | ⟨q1, q2, q3⟩
    · exact Or.inl ⟨(hI 0 3 (by omega)).trans q1, (hI 14 9 (by omega)).trans q2⟩
    · exact Or.inr ⟨(hI 0 3 (by omega)).trans q1, (hI 14 9 (by omega)).trans q2, q3.same (fun k => hI 3 k (by omega)) (fun k => hA 3 k (by omega) (by omega)) (by rw [hQ]) hP hK hF (fun k _ => by rw [h01 1 (by decide)])⟩
  · by_cases h : e = d
    · subst h; exact hS
    · have g := r3 e he
      unfold RS at g ⊢
      rw [hI (6 + e) 1 (by omega), hI (6 + e) 2 (by omega), hI (6 + e) 3 (by omega), hA (6 + e) 4 (by omega) (by omega), hG (6 + e) (by omega), hM 3 (by decide) (by decide) (by decide) e h, hM 4 (by decide) (by decide) (by decide) e h, hM 5 (by decide) (by decide) (by decide) e h, hM 7 (by decide) (by decide) (by decide) e h, hM 8 (by decide) (by decide) (by decide) e h, hP, hK, hF]
      rcases g with g | g | ⟨g1, g2, g3, g4, g5, n, g6, g7, g8, g9⟩
      · exact Or.inl g
      · exact Or.inr (Or.inl g)
      · exact Or.inr (Or.inr ⟨g1, g2, g3, g4, g5, n, g6, g7, g8, fun k hk => by rw [hE e h k (by omega)]; exact g9 k hk⟩)
theorem m_careOf {z : ZS} {f : Nat} (hf : f < 8) {post : Int32 → ZS → Prop} (h : post (careB (zR z 14 0 (25 + 3 * f)) (zR z 14 0 (26 + 3 * f)) (zR z 14 0 (27 + 3 * f))) z) : V_X12_careOf z (nI f) post := by
  unfold V_X12_careOf
  rw [e_of1 hf, e_of0 hf]
  simp only [e_of2 hf]
  generalize zR z 14 0 (25 + 3 * f) = k at h ⊢
  generalize zR z 14 0 (26 + 3 * f) = g at h ⊢
  generalize zR z 14 0 (27 + 3 * f) = o at h ⊢
  unfold careB at h
  by_cases c1 : k = 1
  · rw [if_pos c1] at h; exact ⟨fun _ => h, fun q => absurd c1 q⟩
  rw [if_neg c1] at h; refine ⟨fun q => absurd q c1, fun _ => ?_⟩
  by_cases c2 : k = 2
  · rw [if_pos c2] at h; exact ⟨fun _ => h, fun q => absurd c2 q⟩
  rw [if_neg c2] at h; refine ⟨fun q => absurd q c2, fun _ => ?_⟩
  by_cases c3 : k = 3
  · rw [if_pos c3] at h; exact ⟨fun _ => h, fun q => absurd c3 q⟩
  rw [if_neg c3] at h; refine ⟨fun q => absurd q c3, fun _ => ?_⟩
  by_cases c4 : k = 4
  · rw [if_pos c4] at h; exact ⟨fun _ => h, fun q => absurd c4 q⟩
  rw [if_neg c4] at h; refine ⟨fun q => absurd q c4, fun _ => ?_⟩
  by_cases c5 : k = 5
  · rw [if_pos c5] at h; exact ⟨fun _ => h, fun q => absurd c5 q⟩
  rw [if_neg c5] at h; refine ⟨fun q => absurd q c5, fun _ => ?_⟩
  by_cases c6 : k = 6
  · rw [if_pos c6] at h; exact ⟨fun _ => h, fun q => absurd c6 q⟩
  rw [if_neg c6] at h; refine ⟨fun q => absurd q c6, fun _ => ?_⟩
  by_cases c7 : k = 7
  · rw [if_pos c7] at h; exact ⟨fun _ => h, fun q => absurd c7 q⟩
  rw [if_neg c7] at h; exact ⟨fun q => absurd q c7, fun _ => h⟩
/-- a Shelf of the class is emptied, or holds a Faller; the reference's three words of it -/
def hld (z : ZS) (d : Nat) (r : Option Nat) : ZS := wG (wI (wI (wG z (6 + d) 0 none) (6 + d) 1 0) (6 + d) 3 0) (6 + d) 0 r
theorem sk_29 : SK_29 Rel := by
  intro z p1 p2 p3 hR
  unfold V_X11_keep
  rcases scase p1 with hb | ⟨d, hd, rfl⟩
  · exact c_sB hb ⟨fun _ => (by unfold V_X12_keep; exact m_sB hb ⟨fun _ => ⟨rfl, hR⟩, fun q => absurd rfl q⟩), fun a q => by cases q⟩
  refine c_sO hd ⟨fun q => (by cases q), fun a q => ?_⟩
  cases q
  refine ⟨isS_of hd, ?_⟩
  rw [e_isFrom]
  by_cases h : 0 ≤ p2.toInt ∧ p2.toInt ≤ 1
  · have m1 : (if (0 : Int32).toInt ≤ p2.toInt ∧ p2.toInt ≤ (1 : Int32).toInt then (1 : Int32) else 0) = 1 := if_pos h
    have m2 : (if (0 : Int64).toInt ≤ p2.toInt ∧ p2.toInt ≤ (1 : Int64).toInt then (1 : Int32) else 0) = 1 := if_pos h
    have go : ∀ (z1 : ZS) (post : Int32 → ZS → Prop), ((p2 = 1 → V_X12_isFaller z1 p3 (fun r25 z24 => ((¬ r25 = 0 → V_X12_keep_32 post z24 (nI d) p2 p3) ∧ (r25 = 0 → post (-1 : Int32) z24)))) ∧ (¬ p2 = 1 → V_X12_keep_32 post z1 (nI d) p2 p3)) → V_X12_keep z1 (nI d) p2 p3 post := fun z1 post k => by
      unfold V_X12_keep
      refine m_sO hd ⟨fun q => absurd q one_ne, fun _ => ?_⟩
      rw [e_isInI, m2]
      exact ⟨fun q => absurd q one_ne, fun _ => ⟨k.2, k.1⟩⟩
    rw [m1]
    refine ⟨fun _ => ⟨fun c0 => ?_, fun c0 => ?_⟩, fun q => absurd q one_ne⟩
    · have c1 : p2 = 1 := by
        obtain ⟨n, e, e2, -⟩ := nat_of h.1
        rcases (show n = 0 ∨ n = 1 by omega) with rfl | rfl
        · exact absurd e c0
        · exact e
      rcases fcase hR p3 with hb | ⟨f, a, g⟩
      · exact c_fB hb ⟨fun _ => go z _ ⟨fun _ => m_fB hR hb ⟨fun q => absurd rfl q, fun _ => ⟨rfl, hR⟩⟩, fun q => absurd c1 q⟩, fun a q => by cases q⟩
      · have g0 := g
        obtain ⟨rfl, hf, -, -, g4, g5⟩ := g
        refine c_fO g0 ⟨fun q => (by cases q), fun a' q => ?_⟩
        cases q
        unfold V_X9_hold V_X9_empty
        intro z1 e1 z2 e2 z3 e3 z4 e4
        subst e1; subst e2; subst e3; subst e4
        show V_X12_keep (hld z d (some a)) _ _ _ _
        have kI : ∀ o k, o ≠ 6 + d → zI (hld z d (some a)) o k = zI z o k := fun o k ho => by
          show (if o = 6 + d ∧ k = 3 then _ else if o = 6 + d ∧ k = 1 then _ else zI z o k) = _
          rw [if_neg (fun q => ho q.1), if_neg (fun q => ho q.1)]
        have kM : ∀ k, zR (hld z d (some a)) 14 k = zR z 14 k := fun k => rfl
        have hR1 : Rel (hld z d none) ∨ True := Or.inr trivial
        have many : zI (hld z d (some a)) 1 6 = zI z 1 6 := kI 1 6 (by omega)
        refine go _ _ ⟨fun _ => ?_, fun q => absurd c1 q⟩
        have isf : ∀ post : Int32 → ZS → Prop, post 1 (hld z d (some a)) → V_X12_isFaller (hld z d (some a)) (nI f) post := fun post k => by
          unfold V_X12_isFaller
          rw [e_isInI]
          have e9 : (Int32.toInt64 ((zR (hld z d (some a)) 14 0 3) - (1 : Int32))).toInt = (zI z 1 6).toInt - 1 := many_sub hR
          rw [e9, nI_toInt (by omega), if_pos ⟨by show (0 : Int) ≤ f; omega, by have := g0.2.2.1; omega⟩]
          exact ⟨rfl, k⟩
        refine isf _ ⟨fun _ => ?_, fun q => absurd q one_ne⟩
        unfold V_X12_keep_32 V_X12_keep_84 V_X12_keep_122
        rw [cl8 hd]
        refine ⟨vin hd (by decide), fun z8 e8 => ⟨fun _ => ?_, fun q => absurd q c0⟩⟩
        subst e8
        rw [e_of0 hf]
        refine m_careOf hf ⟨vin hd (by decide), fun z14 e14 => ?_⟩
        subst e14
        have fin : ∀ (v : Int32), v = tossV (zK z a) (zF z a) → Rel (wR (wR (wR (hld z d (some a)) 14 3 d p2) 14 7 d (careB (zR z 14 0 (25 + 3 * f)) (zR z 14 0 (26 + 3 * f)) (zR z 14 0 (27 + 3 * f)))) 14 8 d v) := by
          intro v hv
          refine hR.shelf hd kI (fun o k h1 h2 => ?_) (fun k hk => ?_) (fun k h1 h2 h3 e he => ?_) (fun e he k hk => rfl) (fun o ho => ?_) rfl rfl rfl rfl ?_
          · show (if o = 14 ∧ k = 8 then _ else if o = 14 ∧ k = 7 then _ else if o = 14 ∧ k = 3 then _ else zR z o k) = _
            rw [if_neg (fun q => h2 q.1), if_neg (fun q => h2 q.1), if_neg (fun q => h2 q.1)]
          · show (if 14 = 14 ∧ k = 8 then _ else if 14 = 14 ∧ k = 7 then _ else if 14 = 14 ∧ k = 3 then _ else zR z 14 k) = _
            rw [if_neg (by omega), if_neg (by omega), if_neg (by omega)]
          · rcases (show k = 3 ∨ k = 4 ∨ k = 5 ∨ k = 7 ∨ k = 8 by omega) with rfl | rfl | rfl | rfl | rfl
            · exact if_neg he
            · rfl
            · rfl
            · exact if_neg he
            · exact if_neg he
          · funext k
            show (if o = 6 + d ∧ k = 0 then _ else if o = 6 + d ∧ k = 0 then _ else zG z o k) = _
            rw [if_neg (fun q => ho q.1), if_neg (fun q => ho q.1)]
          · refine Or.inr (Or.inl ⟨?_, ?_, a, ?_, g5.1, ?_, ?_⟩)
            · show (if d = d then p2 else _) = 1
              rw [if_pos rfl]; exact c1
            · show (if 6 + d = 6 + d ∧ 1 = 3 then _ else if 6 + d = 6 + d ∧ 1 = 1 then _ else _) = (0 : Int32)
              rw [if_neg (by omega), if_pos ⟨rfl, rfl⟩]
            · show (if 6 + d = 6 + d ∧ 0 = 0 then _ else _) = some a
              rw [if_pos ⟨rfl, rfl⟩]
            · show zF z a 7 = (if d = d then _ else _)
              rw [if_pos rfl]
              exact g5.2.2.2.2.2.2.2.2.2.1
            · show tossV (zK z a) (zF z a) = (if d = d then _ else _)
              rw [if_pos rfl]; exact hv.symm
        obtain ⟨h1, h2, h3, h4, h5, h6, -, -, -, h10, -, -⟩ := g5
        have kd : ∀ n : Nat, n < 8 → (zR z 14 0 (25 + 3 * f) = nI n ↔ zK z a = n) := fun n hn => by
          rw [h3]
          exact nI_eq (by omega) (by omega)
        have fg : zF z a 1 = zR z 14 0 (26 + 3 * f) := h4
        have kd0 : zR (hld z d (some a)) 14 0 (25 + 3 * f) = zR z 14 0 (25 + 3 * f) := rfl
        refine ⟨fun q1 => ⟨vin hd (by decide), fun z16 e16 => ?_⟩, fun q1 => ?_⟩
        · subst e16
          refine ⟨rfl, fin _ ?_⟩
          unfold tossV
          rw [if_pos (Or.inl ((kd 1 (by decide)).mp q1))]
        · have n1 : ¬ zK z a = 1 := fun q => q1 ((kd 1 (by decide)).mpr q)
          rw [e_of1 hf]
          refine ⟨fun q2 => ?_, fun q2 => ⟨vin hd (by decide), fun z16 e16 => ?_⟩⟩
          · have n2 : ¬ zF z a 1 = 0 := fun q => q2 (fg.symm.trans q)
            refine ⟨fun q3 => ⟨fun q4 => ⟨vin hd (by decide), fun z16 e16 => ?_⟩, fun q4 => ?_⟩, fun q3 => ⟨vin hd (by decide), fun z16 e16 => ?_⟩⟩
            · subst e16
              refine ⟨rfl, fin _ ?_⟩
              unfold tossV
              rw [if_neg (fun q => q.elim n1 n2), if_neg (fun q => q3 ((kd 5 (by decide)).mpr q)), if_neg (fun q => q4 ((kd 7 (by decide)).mpr q)), g4]
            · refine m_careOf hf ⟨vin hd (by decide), fun z16 e16 => ?_⟩
              subst e16
              refine ⟨rfl, fin _ ?_⟩
              unfold tossV
              rw [if_neg (fun q => q.elim n1 n2), if_neg (fun q => q3 ((kd 5 (by decide)).mpr q)), if_pos ((kd 7 (by decide)).mp q4), h10]
              rfl
            · subst e16
              refine ⟨rfl, fin _ ?_⟩
              unfold tossV
              rw [if_neg (fun q => q.elim n1 n2), if_pos ((kd 5 (by decide)).mp q3), g4, Int32.add_comm]
          · subst e16
            refine ⟨rfl, fin _ ?_⟩
            unfold tossV
            rw [if_pos (Or.inr (fg.trans q2))]
    · unfold V_X9_empty
      intro z1 e1 z2 e2 z3 e3
      subst e1; subst e2; subst e3
      refine go _ _ ⟨fun q => absurd (c0.symm.trans q) (by decide), fun _ => ?_⟩
      unfold V_X12_keep_32
      rw [cl8 hd]
      refine ⟨vin hd (by decide), fun z8 e8 => ⟨fun q => absurd c0 q, fun _ => ⟨rfl, ?_⟩⟩⟩
      subst e8
      refine hR.shelf hd (fun o k ho => ?_) (fun o k h1 h2 => ?_) (fun k hk => ?_) (fun k h1 h2 h3 e he => ?_) (fun e he k hk => rfl) (fun o ho => ?_) rfl rfl rfl rfl ?_
      · show (if o = 6 + d ∧ k = 3 then _ else if o = 6 + d ∧ k = 1 then _ else zI z o k) = _
        rw [if_neg (fun q => ho q.1), if_neg (fun q => ho q.1)]
      · show (if o = 14 ∧ k = 3 then _ else zR z o k) = _
        rw [if_neg (fun q => h2 q.1)]
      · show (if 14 = 14 ∧ k = 3 then _ else zR z 14 k) = _
        rw [if_neg (by omega)]
      · rcases (show k = 3 ∨ k = 4 ∨ k = 5 ∨ k = 7 ∨ k = 8 by omega) with rfl | rfl | rfl | rfl | rfl
        · exact if_neg he
        · rfl
        · rfl
        · rfl
        · rfl
      · funext k
        show (if o = 6 + d ∧ k = 0 then _ else zG z o k) = _
        rw [if_neg (fun q => ho q.1)]
      · refine Or.inl ⟨?_, ?_, ?_⟩
        · show (if d = d then p2 else _) = 0
          rw [if_pos rfl]; exact c0
        · show (if 6 + d = 6 + d ∧ 0 = 0 then _ else _) = none
          rw [if_pos ⟨rfl, rfl⟩]
        · show (if 6 + d = 6 + d ∧ 1 = 3 then _ else if 6 + d = 6 + d ∧ 1 = 1 then _ else _) = (0 : Int32)
          rw [if_neg (by omega), if_pos ⟨rfl, rfl⟩]
  · have m1 : (if (0 : Int32).toInt ≤ p2.toInt ∧ p2.toInt ≤ (1 : Int32).toInt then (1 : Int32) else 0) = 0 := if_neg h
    have m2 : (if (0 : Int64).toInt ≤ p2.toInt ∧ p2.toInt ≤ (1 : Int64).toInt then (1 : Int32) else 0) = 0 := if_neg h
    rw [m1]
    refine ⟨fun q => absurd rfl q, fun _ => ?_⟩
    unfold V_X12_keep
    refine m_sO hd ⟨fun q => absurd q one_ne, fun _ => ?_⟩
    rw [e_isInI, m2]
    exact ⟨fun _ => ⟨rfl, hR⟩, fun q => absurd rfl q⟩
