/-! PURE, part 7: copy -/
theorem nI_sub {a t : Nat} (h : t ≤ a) (ha : a ≤ 1000) : nI a - nI t = nI (a - t) := by
  apply Int32.toInt_inj.mp
  rw [sub_n ha (by rw [nI_toInt (by omega)]; omega), nI_toInt (by omega), nI_toInt (by omega)]
  omega
theorem ix_3 (d i t : Nat) : (100 : Int32) * nI d + nI i + nI t = nI (100 * d + i + t) := by rw [ix_s, nI_add]
/-- what a copy leaves -/
def cpd (old : Nat → Int32) (s t n : Nat) : Nat → Int32 := fun x => if t ≤ x ∧ x < t + n then old (s + (x - t)) else old x
theorem m_copy_lp (d e i j n : Nat) (hd : d < 8) (he : e < 8) (hin : i + n ≤ 100) (hjn : j + n ≤ 100) (old : Nat → Int32) (post : Int32 → ZS → Prop) : ∀ (fu t : Nat) (z : ZS), fu + t = n + 1 → t ≤ n → (∀ x, zR z 14 6 x = if ((i ≤ j ∧ (100 * e + j + (n - t) ≤ x ∧ x < 100 * e + j + n)) ∨ (¬ i ≤ j ∧ (100 * e + j ≤ x ∧ x < 100 * e + j + t))) then old (100 * d + i + (x - (100 * e + j))) else old x) → (∀ g : Nat → Int32, (∀ x, g x = cpd old (100 * d + i) (100 * e + j) n x) → post (nI n) (wA z 14 6 g)) → V_X12_copy_122 post fu z (nI d) (nI i) (nI e) (nI j) (nI n) (nI t) := by
  intro fu
  induction fu with
  | zero => intro t z h h1; omega
  | succ fu ih =>
    intro t z h h1 hz kk
    unfold V_X12_copy_122 V_X12_copy_147
    refine ⟨fun c => ?_, fun c => ?_⟩
    · have ht : n ≤ t := (nI_leI (by omega) (by omega)).mp c
      have ht : t = n := by omega
      subst ht
      have := kk (zR z 14 6) (fun x => ?_)
      · rw [wA_self] at this; exact this
      · rw [hz x]
        unfold cpd
        by_cases hx : 100 * e + j ≤ x ∧ x < 100 * e + j + t
        · rw [if_pos hx, if_pos (by omega)]
        · rw [if_neg hx, if_neg (by omega)]
    · have ht : t < n := Nat.lt_of_not_le (fun q => c ((nI_leI (by omega) (by omega)).mpr q))
      refine ⟨fun c1 => ?_, fun c1 => ?_⟩
      · have hij : i ≤ j := (nI_leI (by omega) (by omega)).mp c1
        have es : nI n - (1 : Int32) - nI t = nI (n - 1 - t) := by
          have e1 : nI n - (1 : Int32) = nI (n - 1) := nI_sub (a := n) (t := 1) (by omega) (by omega)
          rw [e1, nI_sub (by omega) (by omega)]
        rw [es, ix_3, ix_3, nI_clamp (by omega), nI_clamp (by omega)]
        refine ⟨vin (by omega) (by decide), vin (by omega) (by decide), fun z19 e19 t20 et => ?_⟩
        subst et
        rw [nI_1]
        have er : zR z 14 6 (100 * d + i + (n - 1 - t)) = old (100 * d + i + (n - 1 - t)) := by
          rw [hz, if_neg]
          rcases Nat.lt_trichotomy d e with q | q | q <;> omega
        subst e19
        refine ih (t + 1) _ (by omega) (by omega) (fun x => ?_) (fun g hg => ?_)
        · rw [zR_wR, er, hz x]
          by_cases hx : x = 100 * e + j + (n - 1 - t)
          · rw [if_pos hx, if_pos (by omega)]
            congr 1
            omega
          · rw [if_neg hx]
            by_cases hx2 : ((i ≤ j ∧ (100 * e + j + (n - t) ≤ x ∧ x < 100 * e + j + n)) ∨ (¬ i ≤ j ∧ (100 * e + j ≤ x ∧ x < 100 * e + j + t)))
            · rw [if_pos hx2, if_pos (by omega)]
            · rw [if_neg hx2, if_neg (by omega)]
        · rw [wA_wR]; exact kk g hg
      · have hij : ¬ i ≤ j := fun q => c1 ((nI_leI (by omega) (by omega)).mpr q)
        rw [ix_3, ix_3, nI_clamp (by omega), nI_clamp (by omega)]
        refine ⟨vin (by omega) (by decide), vin (by omega) (by decide), fun z19 e19 t20 et => ?_⟩
        subst et
        rw [nI_1]
        have er : zR z 14 6 (100 * d + i + t) = old (100 * d + i + t) := by
          rw [hz, if_neg]
          rcases Nat.lt_trichotomy d e with q | q | q <;> omega
        subst e19
        refine ih (t + 1) _ (by omega) (by omega) (fun x => ?_) (fun g hg => ?_)
        · rw [zR_wR, er, hz x]
          by_cases hx : x = 100 * e + j + t
          · rw [if_pos hx, if_pos (by omega)]
            congr 1
            omega
          · rw [if_neg hx]
            by_cases hx2 : ((i ≤ j ∧ (100 * e + j + (n - t) ≤ x ∧ x < 100 * e + j + n)) ∨ (¬ i ≤ j ∧ (100 * e + j ≤ x ∧ x < 100 * e + j + t)))
            · rw [if_pos hx2, if_pos (by omega)]
            · rw [if_neg hx2, if_neg (by omega)]
        · rw [wA_wR]; exact kk g hg
/-- what a shelf holds: nothing, a Faller, a row -/
theorem shape {z : ZS} {d : Nat} (g : RS z d) : (zR z 14 3 d = 0 ∧ zG z (6 + d) 0 = none ∧ zI z (6 + d) 1 = 0) ∨ (zR z 14 3 d = 1 ∧ (∃ a, zG z (6 + d) 0 = some a) ∧ zI z (6 + d) 1 = 0) ∨ (zR z 14 3 d = 2 ∧ zG z (6 + d) 0 = none ∧ zI z (6 + d) 1 = 1 ∧ zI z (6 + d) 2 = zR z 14 4 d ∧ (0 ≤ (zR z 14 4 d).toInt ∧ (zR z 14 4 d).toInt ≤ 2) ∧ ∃ n, n ≤ 100 ∧ zI z (6 + d) 3 = nI n ∧ zR z 14 5 d = nI n ∧ ∀ k, k < n → zR z (6 + d) 4 k = zR z 14 6 (100 * d + k)) := by
  rcases g with g | ⟨g1, g2, a, g3, -⟩ | g
  · exact Or.inl g
  · exact Or.inr (Or.inl ⟨g1, ⟨a, g3⟩, g2⟩)
  · exact Or.inr (Or.inr g)
theorem sk_33 : SK_33 Rel := by
  intro z p1 p2 p3 p4 p5 hR
  unfold V_X11_copy
  have bad1 : ¬ (0 ≤ p1.toInt ∧ p1.toInt ≤ 7) → V_X12_copy z p1 p2 p3 p4 p5 (fun r2 z2 => r2 = -1 ∧ Rel z2) := fun h => by
    unfold V_X12_copy
    exact m_sB h ⟨fun _ => ⟨rfl, hR⟩, fun q => absurd rfl q⟩
  rcases scase p1 with hb | ⟨d, hd, rfl⟩
  · refine c_sB hb ?_
    rcases scase p3 with hb3 | ⟨e, he, rfl⟩
    · exact c_sB hb3 ⟨fun _ => bad1 hb, fun a q => by cases q⟩
    · exact c_sO he ⟨fun _ => bad1 hb, fun a q => by cases q⟩
  refine c_sO hd ?_
  rcases scase p3 with hb3 | ⟨e, he, rfl⟩
  · refine c_sB hb3 ⟨fun q => (by cases q), fun a q => ?_⟩
    cases q
    refine ⟨isS_of hd, fun _ => ?_, fun a q => by cases q⟩
    unfold V_X12_copy
    exact m_sO hd ⟨fun q => absurd q one_ne, fun _ => m_sB hb3 ⟨fun q => absurd rfl q, fun _ => ⟨rfl, hR⟩⟩⟩
  refine c_sO he ⟨fun q => (by cases q), fun a q => ?_⟩
  cases q
  refine ⟨isS_of hd, fun q => (by cases q), fun a q => ?_⟩
  cases q
  refine ⟨isS_of he, ?_⟩
  have m00 : zR z 14 3 d = 0 → V_X12_copy z (nI d) p2 (nI e) p4 p5 (fun r2 z2 => r2 = -11 ∧ Rel z2) := fun h => by
    unfold V_X12_copy
    refine m_sO hd ⟨fun q => absurd q one_ne, fun _ => m_sO he ⟨fun _ => ?_, fun q => absurd q one_ne⟩⟩
    rw [cl8 hd, cl8 he]
    exact ⟨vin hd (by decide), fun _ => ⟨rfl, hR⟩, fun q => absurd h q⟩
  have m0e : ¬ zR z 14 3 d = 0 → zR z 14 3 e = 0 → V_X12_copy z (nI d) p2 (nI e) p4 p5 (fun r2 z2 => r2 = -11 ∧ Rel z2) := fun h h2 => by
    unfold V_X12_copy
    refine m_sO hd ⟨fun q => absurd q one_ne, fun _ => m_sO he ⟨fun _ => ?_, fun q => absurd q one_ne⟩⟩
    rw [cl8 hd, cl8 he]
    exact ⟨vin hd (by decide), fun q => absurd q h, fun _ => ⟨vin he (by decide), fun q => absurd h2 q, fun _ => ⟨rfl, hR⟩⟩⟩
  have m12 : ¬ zR z 14 3 d = 0 → ¬ zR z 14 3 e = 0 → (¬ zR z 14 3 d = 2 ∨ ¬ zR z 14 3 e = 2 ∨ ¬ zR z 14 4 d = zR z 14 4 e) → V_X12_copy z (nI d) p2 (nI e) p4 p5 (fun r2 z2 => r2 = -12 ∧ Rel z2) := fun h h2 h3 => by
    unfold V_X12_copy
    refine m_sO hd ⟨fun q => absurd q one_ne, fun _ => m_sO he ⟨fun _ => ?_, fun q => absurd q one_ne⟩⟩
    rw [cl8 hd, cl8 he]
    refine ⟨vin hd (by decide), fun q => absurd q h, fun _ => ⟨vin he (by decide), fun _ => ⟨vin hd (by decide), fun _ => ⟨rfl, hR⟩, fun q2 => ⟨vin he (by decide), fun _ => ⟨rfl, hR⟩, fun q3 => ⟨vin hd (by decide), vin he (by decide), fun q4 => ?_, fun _ => ⟨rfl, hR⟩⟩⟩⟩, fun q => absurd q h2⟩⟩
    rcases h3 with h3 | h3 | h3
    · exact absurd q2 h3
    · exact absurd q3 h3
    · exact absurd q4 h3
  rcases shape (hR.2.2.1 d hd) with ⟨k0, k1, k2⟩ | ⟨k0, k1, k2⟩ | ⟨k0, k1, k2, k3, k4, n, hn, k5, k6, k7⟩
  · exact c_empty1 k1 k2 ⟨fun _ => m00 k0, fun q => absurd q one_ne⟩
  · have nd : ¬ zR z 14 3 d = 0 := by rw [k0]; decide
    have nd2 : ¬ zR z 14 3 d = 2 := by rw [k0]; decide
    refine c_empty0 (Or.inl k1) ⟨fun q => absurd rfl q, fun _ => ?_⟩
    rcases shape (hR.2.2.1 e he) with ⟨j0, j1, j2⟩ | ⟨j0, j1, j2⟩ | ⟨j0, j1, j2, -⟩
    · exact c_empty1 j1 j2 ⟨fun q => absurd q one_ne, fun _ => m0e nd j0⟩
    · exact c_empty0 (Or.inl j1) ⟨fun _ => ⟨fun _ => m12 nd (by rw [j0]; decide) (Or.inl nd2), fun q => absurd k2 q⟩, fun q => absurd rfl q⟩
    · exact c_empty0 (Or.inr ⟨j1, j2⟩) ⟨fun _ => ⟨fun _ => m12 nd (by rw [j0]; decide) (Or.inl nd2), fun q => absurd k2 q⟩, fun q => absurd rfl q⟩
  have nd : ¬ zR z 14 3 d = 0 := by rw [k0]; decide
  have k2n : ¬ zI z (6 + d) 1 = 0 := by rw [k2]; decide
  refine c_empty0 (Or.inr ⟨k1, k2⟩) ⟨fun q => absurd rfl q, fun _ => ?_⟩
  rcases shape (hR.2.2.1 e he) with ⟨j0, j1, j2⟩ | ⟨j0, j1, j2⟩ | ⟨j0, j1, j2, j3, j4, n2, hn2, j5, j6, j7⟩
  · exact c_empty1 j1 j2 ⟨fun q => absurd q one_ne, fun _ => m0e nd j0⟩
  · exact c_empty0 (Or.inl j1) ⟨fun _ => ⟨fun q => absurd q k2n, fun _ => ⟨fun _ => m12 nd (by rw [j0]; decide) (Or.inr (Or.inl (by rw [j0]; decide))), fun q => absurd j2 q⟩⟩, fun q => absurd rfl q⟩
  have ne : ¬ zR z 14 3 e = 0 := by rw [j0]; decide
  have j2n : ¬ zI z (6 + e) 1 = 0 := by rw [j2]; decide
  refine c_empty0 (Or.inr ⟨j1, j2⟩) ⟨fun _ => ⟨fun q => absurd q k2n, fun _ => ⟨fun q => absurd q j2n, fun _ => ⟨fun c => ?_, fun c => m12 nd ne (Or.inr (Or.inr (by rw [← k3, ← j3]; exact c)))⟩⟩⟩, fun q => absurd rfl q⟩
  have c' : zR z 14 4 d = zR z 14 4 e := by rw [← k3, ← j3]; exact c
  have m13 : ∀ z1 : ZS, (∀ k, zR z1 14 k = zR z 14 k) → ∀ post : Int32 → ZS → Prop, ((¬ (0 ≤ p5.toInt ∧ 0 ≤ p2.toInt ∧ 0 ≤ p4.toInt ∧ p2.toInt + p5.toInt ≤ n ∧ p4.toInt + p5.toInt ≤ n2) → post (-13) z1) ∧ ((0 ≤ p5.toInt ∧ 0 ≤ p2.toInt ∧ 0 ≤ p4.toInt ∧ p2.toInt + p5.toInt ≤ n ∧ p4.toInt + p5.toInt ≤ n2) → ∃ n21 : Nat, V_X12_copy_122 post n21 z1 (nI d) p2 (nI e) p4 p5 0)) → V_X12_copy z1 (nI d) p2 (nI e) p4 p5 post := fun z1 h14 post k => by
    unfold V_X12_copy
    refine m_sO hd ⟨fun q => absurd q one_ne, fun _ => m_sO he ⟨fun _ => ?_, fun q => absurd q one_ne⟩⟩
    rw [cl8 hd, cl8 he, h14 3, h14 4, h14 5, k6, j6]
    have e0 : (0 : Int32).toInt = 0 := by decide
    simp only [Int32.lt_iff_toInt_lt, Int32.le_iff_toInt_le, e0]
    refine ⟨vin hd (by decide), fun q => absurd q nd, fun _ => ⟨vin he (by decide), fun _ => ⟨vin hd (by decide), fun q => absurd k0 q, fun _ => ⟨vin he (by decide), fun q => absurd j0 q, fun _ => ⟨vin hd (by decide), vin he (by decide), fun _ => ⟨fun q => k.1 (by omega), fun q5 => ⟨fun q => k.1 (by omega), fun q2 => ⟨fun q => k.1 (by omega), fun q4 => ⟨vin hd (by decide), ?_⟩⟩⟩⟩, fun q => absurd c' q⟩⟩⟩, fun q => absurd q ne⟩⟩
    rw [sub_n (by omega) (by omega), sub_n (by omega) (by omega)]
    exact ⟨fun q => k.1 (by omega), fun q => ⟨vin he (by decide), fun q6 => k.2 (by omega), fun q6 => k.1 (by omega)⟩⟩
  rw [e_places k5 hn]
  by_cases h1 : 0 ≤ p2.toInt ∧ 0 ≤ p5.toInt ∧ p2.toInt + p5.toInt ≤ n
  · rw [if_pos h1]
    refine ⟨fun q => absurd q one_ne, fun _ => ?_⟩
    rw [e_places j5 hn2]
    by_cases h2 : 0 ≤ p4.toInt ∧ 0 ≤ p5.toInt ∧ p4.toInt + p5.toInt ≤ n2
    · rw [if_pos h2]
      obtain ⟨i, rfl, ei, -⟩ := nat_of h1.1
      obtain ⟨j, rfl, ej, -⟩ := nat_of h2.1
      obtain ⟨k, rfl, ek, -⟩ := nat_of h1.2.1
      rw [nI_clamp (show i < 2 ^ 31 by omega), nI_clamp (show j < 2 ^ 31 by omega), nI_clamp (show k < 2 ^ 31 by omega)]
      have g1 : i + k ≤ n := by omega
      have g2 : j + k ≤ n2 := by omega
      refine ⟨fun _ => ⟨nI_pos (by omega), nI_pos (by omega), nI_pos (by omega), by omega, by omega, fun z22 e22 => ?_⟩, fun q => absurd q one_ne⟩
      subst e22
      have f14 : ∀ q, zR (wA z (6 + e) 4 (va_cpy (zR z (6 + d) 4) (zR z (6 + e) 4) i j k)) 14 q = zR z 14 q := fun q => if_neg (by omega)
      refine m13 _ f14 _ ⟨fun q => absurd q (by omega), fun _ => ⟨k + 1, m_copy_lp d e i j k hd he (by omega) (by omega) (zR z 14 6) _ (k + 1) 0 _ rfl (by omega) (fun x => ?_) (fun g hg => ⟨rfl, ?_⟩)⟩⟩
      · rw [f14, if_neg (by omega)]
      · refine hR.shelf he (fun o q ho => rfl) (fun o q ho h14 => ?_) (fun q hq => ?_) (fun q q1 q2 q3 x hx => ?_) (fun x hx q hq => ?_) (fun o ho => rfl) rfl rfl rfl rfl ?_
        · show (if o = 14 ∧ q = 6 then _ else if o = 6 + e ∧ q = 4 then _ else zR z o q) = _
          rw [if_neg (fun r => h14 r.1), if_neg (fun r => ho r.1)]
        · show (if 14 = 14 ∧ q = 6 then _ else if 14 = 6 + e ∧ q = 4 then _ else zR z 14 q) = _
          rw [if_neg (by omega), if_neg (by omega)]
        · show (if 14 = 14 ∧ q = 6 then _ else if 14 = 6 + e ∧ q = 4 then _ else zR z 14 q) x = _
          rw [if_neg (by omega), if_neg (by omega)]
        · rw [zR_wA, hg]
          unfold cpd
          rw [if_neg]
          rintro ⟨r1, r2⟩
          rcases Nat.lt_trichotomy x e with r | r | r <;> omega
        · have b14 : ∀ q, q ≠ 6 → zR (wA (wA z (6 + e) 4 (va_cpy (zR z (6 + d) 4) (zR z (6 + e) 4) i j k)) 14 6 g) 14 q = zR z 14 q := fun q hq => by
            show (if 14 = 14 ∧ q = 6 then _ else if 14 = 6 + e ∧ q = 4 then _ else zR z 14 q) = _
            rw [if_neg (by omega), if_neg (by omega)]
          refine Or.inr (Or.inr ⟨?_, j1, j2, ?_, ?_, n2, hn2, j5, ?_, fun x hx => ?_⟩)
          · rw [b14 3 (by decide)]; exact j0
          · rw [b14 4 (by decide)]; exact j3
          · rw [b14 4 (by decide)]; exact j4
          · rw [b14 5 (by decide)]; exact j6
          · rw [zR_wA, hg]
            show (if 6 + e = 14 ∧ 4 = 6 then _ else if 6 + e = 6 + e ∧ 4 = 4 then _ else zR z (6 + e) 4) x = _
            rw [if_neg (by omega), if_pos ⟨rfl, rfl⟩]
            unfold va_cpy cpd
            by_cases hx2 : j ≤ x ∧ x < j + k
            · rw [if_pos hx2, if_pos (by omega), k7 _ (by omega)]
              congr 1
              omega
            · rw [if_neg hx2, if_neg (by omega), j7 x hx]
    · rw [if_neg h2]
      exact ⟨fun q => absurd rfl q, fun _ => m13 z (fun _ => rfl) _ ⟨fun _ => ⟨rfl, hR⟩, fun q => absurd q (by omega)⟩⟩
  · rw [if_neg h1]
    exact ⟨fun _ => m13 z (fun _ => rfl) _ ⟨fun _ => ⟨rfl, hR⟩, fun q => absurd q (by omega)⟩, fun q => absurd rfl q⟩
