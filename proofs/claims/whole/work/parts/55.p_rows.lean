/-! PURE, part 6: rows on shelves: row, put, element -/
theorem wA_self (z : ZS) (o k : Nat) : wA z o k (zR z o k) = z := by
  obtain ⟨z1, z2, z3⟩ := z
  unfold wA
  congr 1
  congr 1
  funext a b
  show (if a = o ∧ b = k then z2 o k else z2 a b) = z2 a b
  split
  · rename_i q; rw [q.1, q.2]
  · rfl
theorem wA_wR (z : ZS) (o k i : Nat) (v : Int32) (g : Nat → Int32) : wA (wR z o k i v) o k g = wA z o k g := by
  unfold wR wA
  congr 1
  congr 1
  funext a b
  show (if a = o ∧ b = k then g else if a = o ∧ b = k then _ else _) = (if a = o ∧ b = k then g else _)
  split
  · rfl
  · rfl
theorem zR_wA (z : ZS) (o k : Nat) (g : Nat → Int32) : zR (wA z o k g) o k = g := if_pos ⟨rfl, rfl⟩
theorem zR_wR (z : ZS) (o k i : Nat) (v : Int32) (j : Nat) : zR (wR z o k i v) o k j = if j = i then v else zR z o k j := by
  unfold wR
  rw [zR_wA]
  rfl
theorem ix_s (d i : Nat) : (100 : Int32) * nI d + nI i = nI (100 * d + i) := by
  have e : (100 : Int32) * nI d = nI (100 * d) := (Int32.ofNat_mul 100 d).symm
  rw [e, nI_add]
theorem sub_n {n : Nat} (hn : n ≤ 1000) {p : Int32} (h0 : 0 ≤ p.toInt) : (nI n - p).toInt = (n : Int) - p.toInt := by
  have hb : p.toInt < 2 ^ 31 := Int32.toInt_lt p
  rw [Int32.toInt_sub, nI_toInt (by omega), Int.bmod_def]
  split <;> omega
theorem c_zero_lp (o n : Nat) (hn : n ≤ 100) (post : ZS → Prop) : ∀ (fu i : Nat) (z : ZS), fu + i = n + 1 → i ≤ n → zI z o 3 = nI n → (∀ g : Nat → Int32, (∀ k, i ≤ k → k < n → g k = 0) → (∀ k, k < i → g k = zR z o 4 k) → post (wA z o 4 g)) → V_X9_holdRow_30 o post fu z (nI i) := by
  intro fu
  induction fu with
  | zero => intro i z h h1; omega
  | succ fu ih =>
    intro i z h h1 hs kk
    unfold V_X9_holdRow_30
    rw [hs]
    refine ⟨fun c => ?_, fun c => ?_⟩
    · have hi : n ≤ i := (nI_leI (by omega) (by omega)).mp c
      have := kk (zR z o 4) (fun k h1 h2 => by omega) (fun k _ => rfl)
      rw [wA_self] at this
      exact this
    · have hi : i < n := Nat.lt_of_not_le (fun q => c ((nI_leI (by omega) (by omega)).mpr q))
      refine ⟨vin (by omega) (by decide), fun z7 e7 t et => ?_⟩
      subst e7; subst et
      rw [nI_1, nI_clamp (by omega)]
      refine ih (i + 1) _ (by omega) (by omega) hs (fun g g1 g2 => ?_)
      rw [wA_wR]
      refine kk g (fun k h1 h2 => ?_) (fun k h1 => ?_)
      · by_cases hk : k = i
        · subst hk
          rw [g2 k (by omega), zR_wR, if_pos rfl]
        · exact g1 k (by omega) h2
      · rw [g2 k (by omega), zR_wR, if_neg (by omega)]
theorem m_zero_lp (d : Nat) (hd : d < 8) (post : Int32 → ZS → Prop) : ∀ (fu i : Nat) (z : ZS), fu + i = 101 → i ≤ 100 → (∀ g : Nat → Int32, (∀ k, i ≤ k → k < 100 → g (100 * d + k) = 0) → (∀ j, ¬ (100 * d + i ≤ j ∧ j < 100 * d + 100) → g j = zR z 14 6 j) → post 0 (wA z 14 6 g)) → V_X12_row_58 post fu z (nI d) (nI i) := by
  intro fu
  induction fu with
  | zero => intro i z h h1; omega
  | succ fu ih =>
    intro i z h h1 kk
    unfold V_X12_row_58
    rw [ix_s, nI_clamp (by omega)]
    refine ⟨fun c => ?_, fun c => ?_⟩
    · have hi : 100 ≤ i := (nI_leI (a := 100) (by omega) (by omega)).mp c
      have := kk (zR z 14 6) (fun k h1 h2 => by omega) (fun k _ => rfl)
      rw [wA_self] at this
      exact this
    · have hi : i < 100 := Nat.lt_of_not_le (fun q => c ((nI_leI (a := 100) (by omega) (by omega)).mpr q))
      refine ⟨vin (by omega) (by decide), fun z7 e7 t et => ?_⟩
      subst e7; subst et
      rw [nI_1]
      refine ih (i + 1) _ (by omega) (by omega) (fun g g1 g2 => ?_)
      rw [wA_wR]
      refine kk g (fun k h1 h2 => ?_) (fun j h1 => ?_)
      · by_cases hk : k = i
        · subst hk
          rw [g2 (100 * d + k) (by omega), zR_wR, if_pos rfl]
        · exact g1 k (by omega) h2
      · rw [g2 j (by omega), zR_wR, if_neg (by omega)]
theorem sk_30 : SK_30 Rel := by
  intro z p1 p2 p3 hR
  unfold V_X11_row
  rcases scase p1 with hb | ⟨d, hd, rfl⟩
  · exact c_sB hb ⟨fun _ => (by unfold V_X12_row; exact m_sB hb ⟨fun _ => ⟨rfl, hR⟩, fun q => absurd rfl q⟩), fun a q => by cases q⟩
  refine c_sO hd ⟨fun q => (by cases q), fun a q => ?_⟩
  cases q
  refine ⟨isS_of hd, ?_⟩
  rw [e_isFrom]
  by_cases h : 0 ≤ p2.toInt ∧ p2.toInt ≤ 2
  · have m1 : (if (0 : Int32).toInt ≤ p2.toInt ∧ p2.toInt ≤ (2 : Int32).toInt then (1 : Int32) else 0) = 1 := if_pos h
    have m2 : (if (0 : Int64).toInt ≤ p2.toInt ∧ p2.toInt ≤ (2 : Int64).toInt then (1 : Int32) else 0) = 1 := if_pos h
    rw [m1]
    refine ⟨fun q => absurd q one_ne, fun _ => ⟨fun c1 => ⟨fun c2 => ?_, fun c2 => ?_⟩, fun c1 => ?_⟩⟩
    · obtain ⟨n, rfl, e2, -⟩ := nat_of (p := p3) (by rw [Int32.le_iff_toInt_le] at c2; exact c2)
      have hn : n ≤ 100 := by
        rw [Int32.le_iff_toInt_le, e2] at c1
        have e100 : (100 : Int32).toInt = 100 := by decide
        omega
      have sz : (if (0 : Int32) < (if (100 : Int32) < nI n then (100 : Int32) else nI n) then (if (100 : Int32) < nI n then (100 : Int32) else nI n) else (0 : Int32)) = nI n := by
        have q1 : ¬ (100 : Int32) < nI n := nI_nlt (a := 100) (b := n) |> fun _ => (fun q => by
          rw [Int32.lt_iff_toInt_lt, nI_toInt (by omega)] at q
          have e100 : (100 : Int32).toInt = 100 := by decide
          omega)
        rw [if_neg q1]
        split
        · rfl
        · rename_i q
          rw [Int32.lt_iff_toInt_lt, nI_toInt (by omega)] at q
          have e0 : (0 : Int32).toInt = 0 := by decide
          have : n = 0 := by omega
          subst this
          rfl
      unfold V_X9_holdRow V_X9_empty
      intro z1 e1 z2 e2 z3 e3 z4 e4 z5 e5 z6 e6
      subst e1; subst e2; subst e3; subst e4; subst e5; subst e6
      rw [sz]
      refine ⟨n + 1, c_zero_lp (6 + d) n hn _ (n + 1) 0 _ rfl (by omega) (if_pos ⟨rfl, rfl⟩) (fun g g1 _ => ?_)⟩
      unfold V_X12_row
      refine m_sO hd ⟨fun q => absurd q one_ne, fun _ => ?_⟩
      rw [e_isInI, m2]
      refine ⟨fun q => absurd q one_ne, fun _ => ⟨fun _ => ⟨fun _ => ⟨vin hd (by decide), fun z9 e9 => ⟨vin hd (by decide), fun z10 e10 => ⟨vin hd (by decide), fun z11 e11 => ⟨101, m_zero_lp d hd _ 101 0 _ rfl (by decide) (fun g2 h1 h2 => ?_)⟩⟩⟩⟩, fun q => absurd c2 q⟩, fun q => absurd c1 q⟩⟩
      subst e11; subst e10; subst e9
      simp only [cl8 hd]
      simp only [cl8 hd] at h2
      refine ⟨trivial, ?_⟩
      refine hR.shelf hd (fun o k ho => ?_) (fun o k ho h14 => ?_) (fun k hk => ?_) (fun k q1 q2 q3 e he => ?_) (fun e he k hk => ?_) (fun o ho => ?_) rfl rfl rfl rfl ?_
      · show (if o = 6 + d ∧ k = 3 then _ else if o = 6 + d ∧ k = 2 then _ else if o = 6 + d ∧ k = 1 then _ else if o = 6 + d ∧ k = 3 then _ else if o = 6 + d ∧ k = 1 then _ else zI z o k) = _
        rw [if_neg (fun q => ho q.1), if_neg (fun q => ho q.1), if_neg (fun q => ho q.1), if_neg (fun q => ho q.1), if_neg (fun q => ho q.1)]
      · show (if o = 14 ∧ k = 6 then _ else if o = 14 ∧ k = 5 then _ else if o = 14 ∧ k = 4 then _ else if o = 14 ∧ k = 3 then _ else if o = 6 + d ∧ k = 4 then _ else zR z o k) = _
        rw [if_neg (fun q => h14 q.1), if_neg (fun q => h14 q.1), if_neg (fun q => h14 q.1), if_neg (fun q => h14 q.1), if_neg (fun q => ho q.1)]
      · show (if 14 = 14 ∧ k = 6 then _ else if 14 = 14 ∧ k = 5 then _ else if 14 = 14 ∧ k = 4 then _ else if 14 = 14 ∧ k = 3 then _ else if 14 = 6 + d ∧ k = 4 then _ else zR z 14 k) = _
        rw [if_neg (by omega), if_neg (by omega), if_neg (by omega), if_neg (by omega), if_neg (by omega)]
      · have base : ∀ k, (if 14 = 6 + d ∧ k = 4 then g else zR z 14 k) = zR z 14 k := fun k => if_neg (by omega)
        rcases (show k = 3 ∨ k = 4 ∨ k = 5 ∨ k = 7 ∨ k = 8 by omega) with rfl | rfl | rfl | rfl | rfl
        · show (if e = d then _ else (if 14 = 6 + d ∧ 3 = 4 then g else zR z 14 3) e) = _
          rw [if_neg he, base]
        · show (if e = d then _ else (if 14 = 6 + d ∧ 4 = 4 then g else zR z 14 4) e) = _
          rw [if_neg he, base]
        · show (if e = d then _ else (if 14 = 6 + d ∧ 5 = 4 then g else zR z 14 5) e) = _
          rw [if_neg he, base]
        · show (if 14 = 6 + d ∧ 7 = 4 then g else zR z 14 7) e = _
          rw [base]
        · show (if 14 = 6 + d ∧ 8 = 4 then g else zR z 14 8) e = _
          rw [base]
      · rw [zR_wA, h2 _ (by omega)]
        show (if 14 = 6 + d ∧ 6 = 4 then g else zR z 14 6) _ = _
        rw [if_neg (by omega)]
      · funext k
        show (if o = 6 + d ∧ k = 0 then _ else zG z o k) = _
        rw [if_neg (fun q => ho q.1)]
      · refine Or.inr (Or.inr ⟨?_, ?_, ?_, ?_, ?_, n, hn, ?_, ?_, fun k hk => ?_⟩)
        · show (if d = d then _ else _) = (2 : Int32)
          rw [if_pos rfl]
        · show (if 6 + d = 6 + d ∧ 0 = 0 then _ else _) = none
          rw [if_pos ⟨rfl, rfl⟩]
        · show (if 6 + d = 6 + d ∧ 1 = 3 then _ else if 6 + d = 6 + d ∧ 1 = 2 then _ else if 6 + d = 6 + d ∧ 1 = 1 then _ else _) = (1 : Int32)
          rw [if_neg (by omega), if_neg (by omega), if_pos ⟨rfl, rfl⟩]
        · show (if 6 + d = 6 + d ∧ 2 = 3 then _ else if 6 + d = 6 + d ∧ 2 = 2 then p2 else _) = (if d = d then p2 else _)
          rw [if_neg (by omega), if_pos ⟨rfl, rfl⟩, if_pos rfl]
        · have : zR (wA (wR (wR (wR (wA (wI (wI (wI (wI (wI (wG z (6 + d) 0 none) (6 + d) 1 0) (6 + d) 3 0) (6 + d) 1 1) (6 + d) 2 p2) (6 + d) 3 (nI n)) (6 + d) 4 g) 14 3 d 2) 14 4 d p2) 14 5 d (nI n)) 14 6 g2) 14 4 d = p2 := if_pos rfl
          rw [this]; exact h
        · show (if 6 + d = 6 + d ∧ 3 = 3 then nI n else _) = _
          rw [if_pos ⟨rfl, rfl⟩]
        · show (if d = d then nI n else _) = _
          rw [if_pos rfl]
        · rw [zR_wA, h1 k (by omega) (by omega)]
          show (if 6 + d = 14 ∧ 4 = 6 then _ else if 6 + d = 14 ∧ 4 = 5 then _ else if 6 + d = 14 ∧ 4 = 4 then _ else if 6 + d = 14 ∧ 4 = 3 then _ else if 6 + d = 6 + d ∧ 4 = 4 then g else _) k = 0
          rw [if_neg (by omega), if_neg (by omega), if_neg (by omega), if_neg (by omega), if_pos ⟨rfl, rfl⟩]
          exact g1 k (by omega) hk
    · unfold V_X12_row
      refine m_sO hd ⟨fun q => absurd q one_ne, fun _ => ?_⟩
      rw [e_isInI, m2]
      exact ⟨fun q => absurd q one_ne, fun _ => ⟨fun _ => ⟨fun q => absurd q c2, fun _ => ⟨rfl, hR⟩⟩, fun q => absurd c1 q⟩⟩
    · unfold V_X12_row
      refine m_sO hd ⟨fun q => absurd q one_ne, fun _ => ?_⟩
      rw [e_isInI, m2]
      exact ⟨fun q => absurd q one_ne, fun _ => ⟨fun q => absurd q c1, fun _ => ⟨rfl, hR⟩⟩⟩
  · have m1 : (if (0 : Int32).toInt ≤ p2.toInt ∧ p2.toInt ≤ (2 : Int32).toInt then (1 : Int32) else 0) = 0 := if_neg h
    have m2 : (if (0 : Int64).toInt ≤ p2.toInt ∧ p2.toInt ≤ (2 : Int64).toInt then (1 : Int32) else 0) = 0 := if_neg h
    rw [m1]
    refine ⟨fun _ => ?_, fun q => absurd rfl q⟩
    unfold V_X12_row
    refine m_sO hd ⟨fun q => absurd q one_ne, fun _ => ?_⟩
    rw [e_isInI, m2]
    exact ⟨fun _ => ⟨rfl, hR⟩, fun q => absurd rfl q⟩
-- places in a row
theorem e_places {z : ZS} {o n : Nat} (hs : zI z o 3 = nI n) (hn : n ≤ 100) (p1 p2 : Int32) (post : Int32 → ZS → Prop) : V_X9_hasPlaces z o p1 p2 post = post (if 0 ≤ p1.toInt ∧ 0 ≤ p2.toInt ∧ p1.toInt + p2.toInt ≤ n then 1 else 0) z := by
  unfold V_X9_hasPlaces
  rw [hs]
  have e0 : (0 : Int32).toInt = 0 := by decide
  simp only [Int32.lt_iff_toInt_lt, e0]
  by_cases h1 : p1.toInt < 0
  · rw [if_neg (by omega)]
    exact propext ⟨fun h => h.1 h1, fun h => ⟨fun _ => h, fun q => absurd h1 q⟩⟩
  by_cases h2 : p2.toInt < 0
  · rw [if_neg (by omega)]
    exact propext ⟨fun h => (h.2 h1).1 h2, fun h => ⟨fun _ => h, fun _ => ⟨fun _ => h, fun q => absurd h2 q⟩⟩⟩
  rw [nI_toInt (by omega), sub_n (by omega) (by omega)]
  by_cases h3 : (n : Int) < p2.toInt
  · rw [if_neg (by omega)]
    exact propext ⟨fun h => ((h.2 h1).2 h2).1 h3, fun h => ⟨fun q => absurd q h1, fun _ => ⟨fun q => absurd q h2, fun _ => ⟨fun _ => h, fun q => absurd h3 q⟩⟩⟩⟩
  by_cases h4 : (n : Int) - p2.toInt < p1.toInt
  · rw [if_neg (by omega)]
    exact propext ⟨fun h => (((h.2 h1).2 h2).2 h3).1 h4, fun h => ⟨fun q => absurd q h1, fun _ => ⟨fun q => absurd q h2, fun _ => ⟨fun q => absurd q h3, fun _ => ⟨fun _ => h, fun q => absurd h4 q⟩⟩⟩⟩⟩
  · rw [if_pos (by omega)]
    exact propext ⟨fun h => (((h.2 h1).2 h2).2 h3).2 h4, fun h => ⟨fun q => absurd q h1, fun _ => ⟨fun q => absurd q h2, fun _ => ⟨fun q => absurd q h3, fun _ => ⟨fun q => absurd q h4, fun _ => h⟩⟩⟩⟩⟩
theorem c_valueO {z : ZS} {o n i : Nat} (hs : zI z o 3 = nI n) (hn : n ≤ 100) (hi : i < n) {post : Int32 → ZS → Prop} (h : post (zR z o 4 i) z) : V_X9_valueAt z o (nI i) post := by
  unfold V_X9_valueAt
  rw [e_places hs hn, if_pos (by rw [nI_toInt (by omega)]; exact ⟨by omega, by decide, by show (i : Int) + 1 ≤ n; omega⟩), nI_clamp (by omega)]
  exact ⟨fun q => absurd q one_ne, fun _ => ⟨vin (by omega) (by decide), h⟩⟩
theorem c_valueB {z : ZS} {o n : Nat} {p : Int32} (hs : zI z o 3 = nI n) (hn : n ≤ 100) (hp : ¬ (0 ≤ p.toInt ∧ p.toInt < n)) {post : Int32 → ZS → Prop} (h : post (-1) z) : V_X9_valueAt z o p post := by
  unfold V_X9_valueAt
  rw [e_places hs hn, if_neg (by rintro ⟨q1, -, q2⟩; have : p.toInt + 1 ≤ n := q2; omega)]
  exact ⟨fun _ => h, fun q => absurd rfl q⟩
theorem m_rowB {z : ZS} {p o : Int32} {post : Int32 → ZS → Prop} (hb : ¬ (0 ≤ p.toInt ∧ p.toInt ≤ 7)) (h : post (-1) z) : V_X12_wrongRow z p o post := by
  unfold V_X12_wrongRow
  exact m_sB hb ⟨fun q => absurd rfl q, fun _ => h⟩
theorem m_row0 {z : ZS} {d : Nat} (hd : d < 8) {o : Int32} {post : Int32 → ZS → Prop} (h0 : zR z 14 3 d = 0) (h : post (-11) z) : V_X12_wrongRow z (nI d) o post := by
  unfold V_X12_wrongRow
  refine m_sO hd ⟨fun _ => ?_, fun q => absurd q one_ne⟩
  rw [cl8 hd, h0]
  exact ⟨vin hd (by decide), fun q => absurd rfl q, fun _ => h⟩
theorem m_row1 {z : ZS} {d : Nat} (hd : d < 8) {o : Int32} {post : Int32 → ZS → Prop} (h0 : zR z 14 3 d = 1) (h : post (-12) z) : V_X12_wrongRow z (nI d) o post := by
  unfold V_X12_wrongRow V_X12_wrongRow_49
  refine m_sO hd ⟨fun _ => ?_, fun q => absurd q one_ne⟩
  rw [cl8 hd, h0]
  exact ⟨vin hd (by decide), fun _ => ⟨vin hd (by decide), fun _ => h, fun q => absurd q (by decide)⟩, fun q => absurd q one_ne⟩
theorem m_row2 {z : ZS} {d : Nat} (hd : d < 8) {o : Int32} {post : Int32 → ZS → Prop} (h0 : zR z 14 3 d = 2) (ho : o < 0 ∨ zR z 14 4 d = o) (h : post 0 z) : V_X12_wrongRow z (nI d) o post := by
  unfold V_X12_wrongRow V_X12_wrongRow_49
  refine m_sO hd ⟨fun _ => ?_, fun q => absurd q one_ne⟩
  rw [cl8 hd, h0]
  exact ⟨vin hd (by decide), fun _ => ⟨vin hd (by decide), fun q => absurd rfl q, fun _ => ⟨fun _ => h, fun c => ⟨vin hd (by decide), fun _ => h, fun q => ho.elim (fun r => absurd r c) (fun r => absurd r q)⟩⟩⟩, fun q => absurd q (by decide)⟩
theorem m_row2B {z : ZS} {d : Nat} (hd : d < 8) {o : Int32} {post : Int32 → ZS → Prop} (h0 : zR z 14 3 d = 2) (ho : ¬ o < 0 ∧ ¬ zR z 14 4 d = o) (h : post (-12) z) : V_X12_wrongRow z (nI d) o post := by
  unfold V_X12_wrongRow V_X12_wrongRow_49
  refine m_sO hd ⟨fun _ => ?_, fun q => absurd q one_ne⟩
  rw [cl8 hd, h0]
  exact ⟨vin hd (by decide), fun _ => ⟨vin hd (by decide), fun q => absurd rfl q, fun _ => ⟨fun q => absurd q ho.1, fun _ => ⟨vin hd (by decide), fun q => absurd q ho.2, fun _ => h⟩⟩⟩, fun q => absurd q (by decide)⟩
theorem c_empty1 {z : ZS} {o : Nat} {post : Int32 → ZS → Prop} (h0 : zG z o 0 = none) (h1 : zI z o 1 = 0) (h : post 1 z) : V_X9_isEmpty z o post := by
  unfold V_X9_isEmpty
  rw [h0, h1]
  intro t et
  subst et
  exact ⟨fun _ => ⟨fun q => absurd rfl q, fun _ => h⟩, fun a q => by cases q⟩
theorem c_empty0 {z : ZS} {o : Nat} {post : Int32 → ZS → Prop} (h0 : (∃ a, zG z o 0 = some a) ∨ (zG z o 0 = none ∧ zI z o 1 = 1)) (h : post 0 z) : V_X9_isEmpty z o post := by
  unfold V_X9_isEmpty
  rcases h0 with ⟨a, h0⟩ | ⟨h0, h1⟩
  · rw [h0]
    intro t et
    subst et
    exact ⟨fun q => (by cases q), fun a q => h⟩
  · rw [h0, h1]
    intro t et
    subst et
    exact ⟨fun _ => ⟨fun _ => h, fun q => absurd q one_ne⟩, fun a q => by cases q⟩
/-- the class's refusal of a row, by what the shelf holds -/
theorem c_ref0 {z : ZS} {o : Nat} {post : Int32 → ZS → Prop} (h0 : zG z o 0 = none) (h1 : zI z o 1 = 0) (h : post (-11) z) : V_X11_refusalOfRow z o post := by
  unfold V_X11_refusalOfRow
  exact c_empty1 h0 h1 ⟨fun q => absurd q one_ne, fun _ => h⟩
theorem c_ref1 {z : ZS} {o a : Nat} {post : Int32 → ZS → Prop} (h0 : zG z o 0 = some a) (h1 : zI z o 1 = 0) (h : post (-12) z) : V_X11_refusalOfRow z o post := by
  unfold V_X11_refusalOfRow
  exact c_empty0 (Or.inl ⟨a, h0⟩) ⟨fun _ => ⟨fun _ => h, fun q => absurd h1 q⟩, fun q => absurd rfl q⟩
theorem c_ref2 {z : ZS} {o : Nat} {post : Int32 → ZS → Prop} (h0 : zG z o 0 = none) (h1 : zI z o 1 = 1) (h : post 0 z) : V_X11_refusalOfRow z o post := by
  unfold V_X11_refusalOfRow
  refine c_empty0 (Or.inr ⟨h0, h1⟩) ⟨fun _ => ⟨fun q => absurd (h1.symm.trans q) one_ne, fun _ => h⟩, fun q => absurd rfl q⟩
/-- what a sort makes of a value -/
def sortV (s v : Int32) : Int32 := if s = 0 then Int8.toInt32 (Int32.toInt8 v) else if s = 1 then Int16.toInt32 (Int32.toInt16 v) else v
theorem c_store {z : ZS} {o n i : Nat} (hs : zI z o 3 = nI n) (hn : n ≤ 100) (hi : i < n) {v : Int32} {post : ZS → Prop} (h : post (wR z o 4 i (sortV (zI z o 2) v))) : V_X9_store z o (nI i) v post := by
  unfold V_X9_store V_X9_store_40
  rw [e_places hs hn, if_pos (by rw [nI_toInt (by omega)]; exact ⟨by omega, by decide, by show (i : Int) + 1 ≤ n; omega⟩), nI_clamp (by omega)]
  unfold sortV at h
  refine ⟨fun q => absurd q one_ne, fun _ => ⟨fun c0 => ⟨fun c1 => ⟨vin (by omega) (by decide), fun z6 e6 => ?_⟩, fun c1 => ⟨vin (by omega) (by decide), fun z6 e6 => ?_⟩⟩, fun c0 => ⟨vin (by omega) (by decide), fun z6 e6 => ?_⟩⟩⟩
  · subst e6; rw [if_neg c0, if_neg c1] at h; exact h
  · subst e6; rw [if_neg c0, if_pos c1] at h; exact h
  · subst e6; rw [if_pos c0] at h; exact h
theorem m_size {z : ZS} {d n : Nat} (h : zR z 14 5 d = nI n) (hn : n ≤ 100) : (Int32.toInt64 ((zR z 14 5 d) - (1 : Int32))).toInt = (n : Int) - 1 := by
  rw [h, Int32.toInt_toInt64, sub_n (by omega) (by decide)]
  rfl
theorem m_put {z : ZS} {d n i : Nat} (hd : d < 8) (h0 : zR z 14 3 d = 2) (hs : zR z 14 5 d = nI n) (hn : n ≤ 100) (hi : i < n) {v : Int32} {post : Int32 → ZS → Prop} (h : post 0 (wR z 14 6 (100 * d + i) (sortV (zR z 14 4 d) v))) : V_X12_put z (nI d) (nI i) v post := by
  unfold V_X12_put V_X12_put_77
  refine m_row2 hd h0 (Or.inl (by decide)) ⟨fun _ => ⟨vin hd (by decide), ?_⟩, fun q => absurd rfl q⟩
  rw [cl8 hd, e_isInI, m_size hs hn, if_pos (by rw [nI_toInt (by omega)]; exact ⟨by show (0 : Int) ≤ i; omega, by omega⟩), ix_s, nI_clamp (by omega)]
  unfold sortV at h
  refine ⟨fun _ => ⟨vin hd (by decide), fun c0 => ⟨vin hd (by decide), fun c1 => ⟨vin (by omega) (by decide), fun z6 e6 => ?_⟩, fun c1 => ⟨vin (by omega) (by decide), fun z6 e6 => ?_⟩⟩, fun c0 => ⟨vin (by omega) (by decide), fun z6 e6 => ?_⟩⟩, fun q => absurd q one_ne⟩
  · subst e6; rw [if_neg c0, if_neg c1] at h; exact h
  · subst e6; rw [if_neg c0, if_pos c1] at h; exact h
  · subst e6; rw [if_pos c0] at h; exact h
theorem m_putB {z : ZS} {d n : Nat} {p : Int32} (hd : d < 8) (h0 : zR z 14 3 d = 2) (hs : zR z 14 5 d = nI n) (hn : n ≤ 100) (hi : ¬ (0 ≤ p.toInt ∧ p.toInt < n)) {v : Int32} {post : Int32 → ZS → Prop} (h : post (-13) z) : V_X12_put z (nI d) p v post := by
  unfold V_X12_put V_X12_put_77
  refine m_row2 hd h0 (Or.inl (by decide)) ⟨fun _ => ⟨vin hd (by decide), ?_⟩, fun q => absurd rfl q⟩
  rw [cl8 hd, e_isInI, m_size hs hn, if_neg (by rintro ⟨q1, q2⟩; have : (0 : Int) ≤ p.toInt := q1; omega)]
  exact ⟨fun q => absurd rfl q, fun _ => h⟩
theorem sk_31 : SK_31 Rel := by
  intro z p1 p2 p3 hR
  unfold V_X11_put
  rcases scase p1 with hb | ⟨d, hd, rfl⟩
  · exact c_sB hb ⟨fun _ => (by unfold V_X12_put; exact m_rowB hb ⟨fun q => absurd q (by decide), fun _ => ⟨rfl, hR⟩⟩), fun a q => by cases q⟩
  refine c_sO hd ⟨fun q => (by cases q), fun a q => ?_⟩
  cases q
  refine ⟨isS_of hd, ?_⟩
  rcases hR.2.2.1 d hd with ⟨k0, k1, k2⟩ | ⟨k0, k1, a, k2, k3, k4, k5⟩ | ⟨k0, k1, k2, k3, k4, n, hn, k5, k6, k7⟩
  · exact c_ref0 k1 k2 ⟨fun q => absurd q (by decide), fun _ => by unfold V_X12_put; exact m_row0 hd k0 ⟨fun q => absurd q (by decide), fun _ => ⟨rfl, hR⟩⟩⟩
  · exact c_ref1 k2 k1 ⟨fun q => absurd q (by decide), fun _ => by unfold V_X12_put; exact m_row1 hd k0 ⟨fun q => absurd q (by decide), fun _ => ⟨rfl, hR⟩⟩⟩
  · refine c_ref2 k1 k2 ⟨fun _ => ?_, fun q => absurd rfl q⟩
    rw [e_places k5 hn]
    by_cases h : 0 ≤ p2.toInt ∧ p2.toInt < n
    · obtain ⟨i, rfl, e2, -⟩ := nat_of h.1
      have hi : i < n := by omega
      rw [if_pos ⟨h.1, by decide, by show (nI i).toInt + 1 ≤ n; omega⟩]
      have f14 : ∀ k, zR (wR z (6 + d) 4 i (sortV (zI z (6 + d) 2) p3)) 14 k = zR z 14 k := fun k => if_neg (by omega)
      refine ⟨fun _ => c_store k5 hn hi (m_put hd (by rw [f14]; exact k0) (by rw [f14]; exact k6) hn hi ⟨rfl, ?_⟩), fun q => absurd q one_ne⟩
      refine hR.shelf hd (fun o k ho => rfl) (fun o k ho h14 => ?_) (fun k hk => ?_) (fun k q1 q2 q3 e he => ?_) (fun e he k hk => ?_) (fun o ho => rfl) rfl rfl rfl rfl ?_
      · show (if o = 14 ∧ k = 6 then _ else if o = 6 + d ∧ k = 4 then _ else zR z o k) = _
        rw [if_neg (fun q => h14 q.1), if_neg (fun q => ho q.1)]
      · show (if 14 = 14 ∧ k = 6 then _ else if 14 = 6 + d ∧ k = 4 then _ else zR z 14 k) = _
        rw [if_neg (by omega), if_neg (by omega)]
      · show (if 14 = 14 ∧ k = 6 then _ else if 14 = 6 + d ∧ k = 4 then _ else zR z 14 k) e = _
        rw [if_neg (by omega), if_neg (by omega)]
      · rw [zR_wR, if_neg (by omega)]
        show (if 14 = 6 + d ∧ 6 = 4 then _ else zR z 14 6) _ = _
        rw [if_neg (by omega)]
      · have b14 : ∀ k, k ≠ 6 → zR (wR (wR z (6 + d) 4 i (sortV (zI z (6 + d) 2) p3)) 14 6 (100 * d + i) (sortV (zR (wR z (6 + d) 4 i (sortV (zI z (6 + d) 2) p3)) 14 4 d) p3)) 14 k = zR z 14 k := fun k hk => by
          show (if 14 = 14 ∧ k = 6 then _ else if 14 = 6 + d ∧ k = 4 then _ else zR z 14 k) = _
          rw [if_neg (by omega), if_neg (by omega)]
        have e4 : zR (wR z (6 + d) 4 i (sortV (zI z (6 + d) 2) p3)) 14 4 d = zR z 14 4 d := by
          show (if 14 = 6 + d ∧ 4 = 4 then _ else zR z 14 4) d = _
          rw [if_neg (by omega)]
        refine Or.inr (Or.inr ⟨?_, k1, k2, ?_, ?_, n, hn, k5, ?_, fun k hk => ?_⟩)
        · rw [b14 3 (by decide)]; exact k0
        · rw [b14 4 (by decide)]; exact k3
        · rw [b14 4 (by decide)]; exact k4
        · rw [b14 5 (by decide)]; exact k6
        · rw [zR_wR, e4]
          have e6 : zR (wR z (6 + d) 4 i (sortV (zI z (6 + d) 2) p3)) 14 6 = zR z 14 6 := by
            show (if 14 = 6 + d ∧ 6 = 4 then _ else zR z 14 6) = _
            rw [if_neg (by omega)]
          rw [e6]
          show (if 6 + d = 14 ∧ 4 = 6 then _ else if 6 + d = 6 + d ∧ 4 = 4 then _ else zR z (6 + d) 4) k = _
          rw [if_neg (by omega), if_pos ⟨rfl, rfl⟩]
          show (if k = i then _ else zR z (6 + d) 4 k) = _
          by_cases hki : k = i
          · rw [if_pos hki, if_pos (by omega), k3]
          · rw [if_neg hki, if_neg (by omega)]; exact k7 k hk
    · rw [if_neg (by rintro ⟨q1, -, q2⟩; have : p2.toInt + 1 ≤ n := q2; omega)]
      exact ⟨fun q => absurd rfl q, fun _ => m_putB hd k0 k6 hn h ⟨rfl, hR⟩⟩
theorem sk_32 : SK_32 Rel := by
  intro z p1 p2 hR
  unfold V_L_element V_X11_element
  have thr : ∀ (z1 : ZS) (v : Int32) (x : Int64), Kp z z1 → (v = 0 → zO z1 = x) → V_X12_thrown (wI z1 14 10 v) (fun t z3 => t = v ∧ (v = 0 → zO z3 = x) ∧ Rel z3) := fun z1 v x hk hx => by
    unfold V_X12_thrown
    exact ⟨rfl, hx, hR.kp (hk.I 14 10 v (by unfold keepI; omega))⟩
  rcases scase p1 with hb | ⟨d, hd, rfl⟩
  · refine c_sB hb ⟨fun _ => Or.inl ⟨rfl, ?_⟩, fun a q => by cases q⟩
    unfold V_X12_element V_X12_element_45 V_X12_element_71
    refine m_sB hb ⟨fun q => absurd rfl q, fun _ z5 e5 => ⟨fun _ => ?_, fun q => ?_⟩⟩
    · subst e5; exact thr z 1 0 (Kp.rf z) (fun q => absurd q one_ne)
    · subst e5; exact absurd q one_ne
  refine c_sO hd ⟨fun q => (by cases q), fun a q => ?_⟩
  cases q
  refine ⟨isS_of hd, ?_⟩
  have two : ∀ z5 : ZS, z5 = wI z 14 10 2 → (¬ zI z5 14 10 = 0 → V_X12_thrown z5 (fun t z3 => t = 2 ∧ ((2 : Int32) = 0 → zO z3 = 0) ∧ Rel z3)) := fun z5 e5 _ => by
    subst e5; exact thr z 2 0 (Kp.rf z) (fun q => absurd q (by decide))
  have m2 : ¬ zR z 14 3 d = 2 → V_X12_element z (nI d) p2 (fun b2 z2 => V_X12_thrown z2 (fun t z3 => t = 2 ∧ ((2 : Int32) = 0 → zO z3 = b2) ∧ Rel z3)) := fun h => by
    unfold V_X12_element V_X12_element_40 V_X12_element_45 V_X12_element_71
    refine m_sO hd ⟨fun _ => ?_, fun q => absurd q one_ne⟩
    rw [cl8 hd]
    refine ⟨vin hd (by decide), fun _ z5 e5 => ⟨two z5 e5, fun q => ?_⟩, fun q => absurd q h⟩
    subst e5; exact absurd q (show ¬ (2 : Int32) = 0 by decide)
  rcases hR.2.2.1 d hd with ⟨k0, k1, k2⟩ | ⟨k0, k1, a, k2, k3, k4, k5⟩ | ⟨k0, k1, k2, k3, k4, n, hn, k5, k6, k7⟩
  · rw [k2]
    exact ⟨fun _ => Or.inr ⟨rfl, m2 (by rw [k0]; decide)⟩, fun q => absurd rfl q⟩
  · rw [k1]
    exact ⟨fun _ => Or.inr ⟨rfl, m2 (by rw [k0]; decide)⟩, fun q => absurd rfl q⟩
  · rw [k2]
    refine ⟨fun q => absurd q one_ne, fun _ => ?_⟩
    rw [e_places k5 hn]
    by_cases h : 0 ≤ p2.toInt ∧ p2.toInt < n
    · obtain ⟨i, rfl, e2, -⟩ := nat_of h.1
      have hi : i < n := by omega
      rw [if_pos ⟨h.1, by decide, by show (nI i).toInt + 1 ≤ n; omega⟩]
      refine ⟨fun q => absurd q one_ne, fun _ => c_valueO k5 hn hi ?_⟩
      unfold V_X12_element V_X12_element_45 V_X12_element_71
      refine m_sO hd ⟨fun _ => ?_, fun q => absurd q one_ne⟩
      rw [cl8 hd]
      refine ⟨vin hd (by decide), fun q => absurd k0 q, fun _ => ⟨vin hd (by decide), ?_⟩⟩
      have ms := m_size (z := wO z (Int32.toInt64 (zR z (6 + d) 4 i))) k6 hn
      rw [e_isInI, ms, if_pos (by rw [nI_toInt (by omega)]; exact ⟨by show (0 : Int) ≤ i; omega, by omega⟩), ix_s, nI_clamp (by omega)]
      refine ⟨fun _ z5 e5 => ⟨fun q => ?_, fun _ => ⟨vin (by omega) (by decide), ?_⟩⟩, fun q => absurd q one_ne⟩
      · subst e5; exact absurd rfl q
      · subst e5
        refine thr _ 0 _ ((Kp.rf z).O _) (fun _ => ?_)
        show Int32.toInt64 (zR z (6 + d) 4 i) = Int32.toInt64 (zR z 14 6 (100 * d + i))
        rw [k7 i hi]
    · rw [if_neg (by rintro ⟨q1, -, q2⟩; have : p2.toInt + 1 ≤ n := q2; omega)]
      refine ⟨fun _ => Or.inr ⟨rfl, ?_⟩, fun q => absurd rfl q⟩
      unfold V_X12_element V_X12_element_40 V_X12_element_45 V_X12_element_71
      refine m_sO hd ⟨fun _ => ?_, fun q => absurd q one_ne⟩
      rw [cl8 hd]
      refine ⟨vin hd (by decide), fun q => absurd k0 q, fun _ => ⟨vin hd (by decide), ?_⟩⟩
      rw [e_isInI, m_size k6 hn, if_neg (by rintro ⟨q1, q2⟩; have : (0 : Int) ≤ p2.toInt := q1; omega)]
      refine ⟨fun q => absurd rfl q, fun _ z5 e5 => ⟨two z5 e5, fun q => ?_⟩⟩
      subst e5; exact absurd q (show ¬ (2 : Int32) = 0 by decide)
