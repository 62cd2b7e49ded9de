/-! PURE, part 4: image, restore, count -/
theorem nI_le' {a b : Nat} (ha : a < 2 ^ 31) (hb : b < 2 ^ 31) : nI a ≤ nI b ↔ a ≤ b := nI_leI ha hb
/-- the reference copies an array of 73, from place v on -/
theorem m_image_lp (post : Int32 → ZS → Prop) : ∀ (n i : Nat) (z : ZS), n + i = 74 → i ≤ 73 → (∀ g : Nat → Int32, (∀ k, i ≤ k → k < 73 → g k = zR z 14 0 k) → (∀ k, k < i → g k = zR z 14 1 k) → post (zR z 14 0 3) (wI (wA z 14 1 g) 14 9 1)) → V_X12_image_2 post n z (nI i) := by
  intro n
  induction n with
  | zero => intro i z h h9; omega
  | succ n ih =>
    intro i z h h9 kk
    unfold V_X12_image_2
    refine ⟨fun c => ?_, fun c => ?_⟩
    · have hi : 73 ≤ i := by
        have := (nI_leI (a := 73) (b := i) (by decide) (by omega)).mp c
        exact this
      intro z2 e
      subst e
      have := kk (zR z 14 1) (fun k h1 h2 => by omega) (fun k _ => rfl)
      have e1 : wA z 14 1 (zR z 14 1) = z := by
        obtain ⟨z1, z2, z3⟩ := z
        unfold wA
        congr 1
        congr 1
        funext a b
        show (if a = 14 ∧ b = 1 then z2 14 1 else z2 a b) = z2 a b
        split
        · rename_i q; rw [q.1, q.2]
        · rfl
      rw [e1] at this
      exact this
    · have hi : i < 73 := by
        refine Nat.lt_of_not_le (fun q => c ?_)
        exact (nI_leI (a := 73) (b := i) (by decide) (by omega)).mpr q
      refine ⟨vin hi (by decide), vin hi (by decide), fun z3 e t et => ?_⟩
      subst e; subst et
      rw [nI_1, nI_clamp (by omega)]
      refine ih (i + 1) _ (by omega) (by omega) (fun g g1 g2 => ?_)
      have := kk g (fun k h1 h2 => ?_) (fun k h1 => ?_)
      · have e1 : wA (wR z 14 1 i (zR z 14 0 i)) 14 1 g = wA z 14 1 g := by
          unfold wR wA
          congr 1
          congr 1
          funext a b
          show (if a = 14 ∧ b = 1 then g else if a = 14 ∧ b = 1 then _ else _) = (if a = 14 ∧ b = 1 then g else _)
          split
          · rfl
          · rfl
        rw [e1]
        exact this
      · by_cases hk : k = i
        · subst hk
          rw [g2 k (by omega)]
          exact if_pos rfl
        · exact g1 k (by omega) h2
      · rw [g2 k (by omega)]
        exact if_neg (by omega)
theorem m_restore_lp (post : Int32 → ZS → Prop) : ∀ (n i : Nat) (z : ZS), n + i = 74 → i ≤ 73 → (∀ g : Nat → Int32, (∀ k, i ≤ k → k < 73 → g k = zR z 14 1 k) → (∀ k, k < i → g k = zR z 14 0 k) → post (g 3) (wA z 14 0 g)) → V_X12_restore_12 post n z (nI i) := by
  intro n
  induction n with
  | zero => intro i z h h9; omega
  | succ n ih =>
    intro i z h h9 kk
    unfold V_X12_restore_12
    refine ⟨fun c => ?_, fun c => ?_⟩
    · have hi : 73 ≤ i := (nI_leI (a := 73) (b := i) (by decide) (by omega)).mp c
      have := kk (zR z 14 0) (fun k h1 h2 => by omega) (fun k _ => rfl)
      have e1 : wA z 14 0 (zR z 14 0) = z := by
        obtain ⟨z1, z2, z3⟩ := z
        unfold wA
        congr 1
        congr 1
        funext a b
        show (if a = 14 ∧ b = 0 then z2 14 0 else z2 a b) = z2 a b
        split
        · rename_i q; rw [q.1, q.2]
        · rfl
      rw [e1] at this
      exact this
    · have hi : i < 73 := Nat.lt_of_not_le (fun q => c ((nI_leI (a := 73) (b := i) (by decide) (by omega)).mpr q))
      refine ⟨vin hi (by decide), vin hi (by decide), fun z3 e t et => ?_⟩
      subst e; subst et
      rw [nI_1, nI_clamp (by omega)]
      refine ih (i + 1) _ (by omega) (by omega) (fun g g1 g2 => ?_)
      have := kk g (fun k h1 h2 => ?_) (fun k h1 => ?_)
      · have e1 : wA (wR z 14 0 i (zR z 14 1 i)) 14 0 g = wA z 14 0 g := by
          unfold wR wA
          congr 1
          congr 1
          funext a b
          show (if a = 14 ∧ b = 0 then g else if a = 14 ∧ b = 0 then _ else _) = (if a = 14 ∧ b = 0 then g else _)
          split
          · rfl
          · rfl
        rw [e1]
        exact this
      · by_cases hk : k = i
        · subst hk
          rw [g2 k (by omega)]
          exact if_pos rfl
        · exact g1 k (by omega) h2
      · rw [g2 k (by omega)]
        exact if_neg (by omega)
/-- the Air o became the Air p: what the class's become leaves -/
def BC (z z1 : ZS) (o p : Nat) : Prop := (∀ k, k = 2 ∨ k = 3 ∨ k = 4 ∨ k = 6 ∨ k = 8 → zI z1 o k = zI z p k) ∧ (∀ a k, a ≠ o → zI z1 a k = zI z a k) ∧ (∀ l, l < 10 → zR z1 o 0 l = zR z p 0 l ∧ zR z1 o 1 l = zR z p 1 l) ∧ (∀ l, l < 24 → zR z1 o 7 l = zR z p 7 l) ∧ (∀ a k, a ≠ o → zR z1 a k = zR z a k) ∧ zG z1 = zG z ∧ (∀ l, l < 8 → zQ z1 o l = zQ z p l) ∧ (∀ l, 8 ≤ l → zQ z1 o l = zQ z o l) ∧ (∀ a, a ≠ o → zQ z1 a = zQ z a) ∧ zP z1 = zP z ∧ zK z1 = zK z ∧ zF z1 = zF z
theorem c_become_lp (o p : Nat) (hop : o ≠ p) (post : ZS → Prop) (z9 : ZS) (hq : ∀ o k a, zQ z9 o k = some a → a ∈ zP z9) (hz : ∀ z1, BC z9 z1 o p → post z1) : ∀ (n i : Nat) (z : ZS), n + i = 9 → i ≤ 8 → (∀ a k, zI z a k = zI z9 a k) → (∀ l, l < 10 → zR z o 0 l = zR z9 p 0 l ∧ zR z o 1 l = zR z9 p 1 l) → (∀ l, l < 24 → zR z o 7 l = zR z9 p 7 l) → (∀ a k, a ≠ o → zR z a k = zR z9 a k) → zG z = zG z9 → (∀ l, l < i → l < 8 → zQ z o l = zQ z9 p l) → (∀ l, i ≤ l → zQ z o l = zQ z9 o l) → (∀ a, a ≠ o → zQ z a = zQ z9 a) → zP z = zP z9 ∧ zK z = zK z9 ∧ zF z = zF z9 → V_X0_become_47 o p post n z (nI i) := by
  intro n
  induction n with
  | zero => intro i z h h9; omega
  | succ n ih =>
    intro i z h h9 hI hR1 hR7 hRa hG hQ1 hQ2 hQa hP
    unfold V_X0_become_47
    refine ⟨fun c => ?_, fun c => ?_⟩
    · have hi : 8 ≤ i := (nI_leI (a := 8) (b := i) (by decide) (by omega)).mp c
      intro z5 e5 z6 e6 z7 e7 z8 e8 z10 e10
      have f5 : ∀ a k, zI z5 a k = if a = o ∧ k = 2 then zI z9 p 2 else zI z9 a k := fun a k => by rw [e5, ← hI p 2, ← hI a k]; rfl
      have f6 : ∀ a k, zI z6 a k = if a = o ∧ k = 3 then zI z9 p 3 else zI z5 a k := fun a k => by
        rw [e6]
        have : zI z5 p 3 = zI z9 p 3 := by rw [f5, if_neg (fun q => hop q.1.symm)]
        rw [← this]; rfl
      have f7 : ∀ a k, zI z7 a k = if a = o ∧ k = 4 then zI z9 p 4 else zI z6 a k := fun a k => by
        rw [e7]
        have : zI z6 p 4 = zI z9 p 4 := by rw [f6, if_neg (fun q => hop q.1.symm), f5, if_neg (fun q => hop q.1.symm)]
        rw [← this]; rfl
      have f8 : ∀ a k, zI z8 a k = if a = o ∧ k = 6 then zI z9 p 6 else zI z7 a k := fun a k => by
        rw [e8]
        have : zI z7 p 6 = zI z9 p 6 := by rw [f7, if_neg (fun q => hop q.1.symm), f6, if_neg (fun q => hop q.1.symm), f5, if_neg (fun q => hop q.1.symm)]
        rw [← this]; rfl
      have f10 : ∀ a k, zI z10 a k = if a = o ∧ k = 8 then zI z9 p 8 else zI z8 a k := fun a k => by
        rw [e10]
        have : zI z8 p 8 = zI z9 p 8 := by rw [f8, if_neg (fun q => hop q.1.symm), f7, if_neg (fun q => hop q.1.symm), f6, if_neg (fun q => hop q.1.symm), f5, if_neg (fun q => hop q.1.symm)]
        rw [← this]; rfl
      have same : z10.2 = z.2 := by rw [e10, e8, e7, e6, e5]; rfl
      have sR : zR z10 = zR z := congrArg Prod.fst same
      have sG : zG z10 = zG z := congrArg (fun q => q.2.1) same
      have sQ : zQ z10 = zQ z := congrArg (fun q => q.2.2.1) same
      have sP : zP z10 = zP z := congrArg (fun q => q.2.2.2.1) same
      have sK : zK z10 = zK z := congrArg (fun q => q.2.2.2.2.1) same
      have sF : zF z10 = zF z := congrArg (fun q => q.2.2.2.2.2.1) same
      refine hz z10 ⟨fun k hk => ?_, fun a k ha => ?_, by rw [sR]; exact hR1, by rw [sR]; exact hR7, by rw [sR]; exact hRa, by rw [sG]; exact hG, fun l hl => by rw [sQ]; exact hQ1 l (by omega) hl, fun l hl => by rw [sQ]; exact (if h9 : i ≤ l then hQ2 l h9 else absurd hl (by omega)), by rw [sQ]; exact hQa, by rw [sP]; exact hP.1, by rw [sK]; exact hP.2.1, by rw [sF]; exact hP.2.2⟩
      · rcases hk with rfl | rfl | rfl | rfl | rfl
        · rw [f10, if_neg (by omega), f8, if_neg (by omega), f7, if_neg (by omega), f6, if_neg (by omega), f5, if_pos ⟨rfl, rfl⟩]
        · rw [f10, if_neg (by omega), f8, if_neg (by omega), f7, if_neg (by omega), f6, if_pos ⟨rfl, rfl⟩]
        · rw [f10, if_neg (by omega), f8, if_neg (by omega), f7, if_pos ⟨rfl, rfl⟩]
        · rw [f10, if_neg (by omega), f8, if_pos ⟨rfl, rfl⟩]
        · rw [f10, if_pos ⟨rfl, rfl⟩]
      · rw [f10, if_neg (fun q => ha q.1), f8, if_neg (fun q => ha q.1), f7, if_neg (fun q => ha q.1), f6, if_neg (fun q => ha q.1), f5, if_neg (fun q => ha q.1)]
    · have hi : i < 8 := Nat.lt_of_not_le (fun q => c ((nI_leI (a := 8) (b := i) (by decide) (by omega)).mpr q))
      have ep : zQ z p i = zQ z9 p i := by rw [hQa p (fun q => hop q.symm)]
      rw [nI_clamp (by omega), ep]
      refine ⟨vin hi (by decide), vin hi (by decide), fun v hv => by rw [hP.1]; exact hq _ _ _ hv, fun z10 e t et => ?_⟩
      subst e; subst et
      rw [nI_1]
      have q0 : ∀ l, zQ (wQ z o i (zQ z9 p i)) o l = if l = i then zQ z9 p i else zQ z o l := fun l => by
        show (if o = o then va_up (zQ z o) i (zQ z9 p i) else zQ z o) l = _
        rw [if_pos rfl]
        by_cases hl : l = i
        · subst hl; rw [if_pos rfl, va_up_self]
        · rw [if_neg hl, va_up_ne _ _ hl]
      refine ih (i + 1) _ (by omega) (by omega) hI hR1 hR7 hRa hG (fun l h1 h2 => ?_) (fun l h1 => ?_) (fun a ha => ?_) hP
      · rw [q0]
        split
        · rename_i q; rw [q]
        · exact hQ1 l (by omega) h2
      · rw [q0, if_neg (by omega)]; exact hQ2 l (by omega)
      · show (if a = o then _ else zQ z a) = _
        rw [if_neg ha]; exact hQa a ha
theorem c_become {z : ZS} {o p : Nat} (hop : o ≠ p) {post : ZS → Prop} (hq : ∀ o k a, zQ z o k = some a → a ∈ zP z) (hz : ∀ z1, BC z z1 o p → post z1) : V_X0_become z o p post := by
  unfold V_X0_become
  intro z1 e1 z2 e2 z3 e3
  refine ⟨9, ?_⟩
  have cp : ∀ (f g : Nat → Int32) (n : Nat) (l : Nat), l < n → va_cpy f g 0 0 n l = f l := fun f g n l hl => by
    unfold va_cpy
    rw [if_pos (by omega)]
    congr 1
    omega
  have r1 : ∀ a k, zR z1 a k = if a = o ∧ k = 0 then va_cpy (zR z p 0) (zR z o 0) 0 0 10 else zR z a k := fun a k => by rw [e1]; rfl
  have r2 : ∀ a k, zR z2 a k = if a = o ∧ k = 1 then va_cpy (zR z p 1) (zR z o 1) 0 0 10 else zR z1 a k := fun a k => by
    rw [e2]
    have h1 : zR z1 p 1 = zR z p 1 := by rw [r1, if_neg (by omega)]
    have h2 : zR z1 o 1 = zR z o 1 := by rw [r1, if_neg (by omega)]
    rw [← h1, ← h2]; rfl
  have r3 : ∀ a k, zR z3 a k = if a = o ∧ k = 7 then va_cpy (zR z p 7) (zR z o 7) 0 0 24 else zR z2 a k := fun a k => by
    rw [e3]
    have h1 : zR z2 p 7 = zR z p 7 := by rw [r2, if_neg (by omega), r1, if_neg (by omega)]
    have h2 : zR z2 o 7 = zR z o 7 := by rw [r2, if_neg (by omega), r1, if_neg (by omega)]
    rw [← h1, ← h2]; rfl
  refine c_become_lp o p hop post z hq hz 9 0 z3 rfl (by decide) (fun a k => by rw [e3, e2, e1]; rfl) (fun l hl => ⟨?_, ?_⟩) (fun l hl => ?_) (fun a k ha => ?_) (by rw [e3, e2, e1]; rfl) (fun l h => absurd h (by omega)) (fun l _ => by rw [e3, e2, e1]; rfl) (fun a _ => by rw [e3, e2, e1]; rfl) (by rw [e3, e2, e1]; exact ⟨rfl, rfl, rfl⟩)
  · rw [r3, if_neg (by omega), r2, if_neg (by omega), r1, if_pos ⟨rfl, rfl⟩]; exact cp _ _ _ l hl
  · rw [r3, if_neg (by omega), r2, if_pos ⟨rfl, rfl⟩]; exact cp _ _ _ l hl
  · rw [r3, if_pos ⟨rfl, rfl⟩]; exact cp _ _ _ l hl
  · rw [r3, if_neg (fun q => ha q.1), r2, if_neg (fun q => ha q.1), r1, if_neg (fun q => ha q.1)]
/-- an Air that became another: the relation goes with it -/
theorem FA.bc {z z1 : ZS} (hP : zP z1 = zP z) (hK : zK z1 = zK z) (hF : zF z1 = zF z) {a : Nat} {k f o : Int32} (g : FA z a k f o) : FA z1 a k f o := by
  unfold FA
  rw [hP, hK, hF]
  exact g
theorem RA.bc {z z1 : ZS} {o p : Nat} (b1 : ∀ k, k = 2 ∨ k = 3 ∨ k = 4 ∨ k = 6 ∨ k = 8 → zI z1 o k = zI z p k) (b2 : ∀ l, l < 10 → zR z1 o 0 l = zR z p 0 l ∧ zR z1 o 1 l = zR z p 1 l) (b3 : ∀ l, l < 24 → zR z1 o 7 l = zR z p 7 l) (b4 : ∀ l, l < 8 → zQ z1 o l = zQ z p l) (b5 : zP z1 = zP z) (b6 : zK z1 = zK z) (b7 : zF z1 = zF z) {m m1 : Nat → Int32} (hm : ∀ k, k < 73 → m1 k = m k) (g : RA z p m) : RA z1 o m1 := by
  obtain ⟨⟨a0, a1, a2, a3, a4⟩, g2, ⟨n, g3, g4, g5⟩, ⟨n2, g6, g7, g8⟩, g9, g10, g11⟩ := g
  refine ⟨⟨?_, ?_, ?_, ?_, ?_⟩, fun l hl => ?_, ⟨n, g3, ?_, fun f hf => ?_⟩, ⟨n2, g6, ?_, fun b hb k hk => ?_⟩, ?_, ?_, ?_⟩
  · rw [hm 0 (by decide), b1 2 (by simp)]; exact a0
  · rw [hm 1 (by decide), b1 3 (by simp)]; exact a1
  · rw [hm 2 (by decide), b1 4 (by simp)]; exact a2
  · rw [hm 3 (by decide), b1 6 (by simp)]; exact a3
  · rw [hm 4 (by decide), b1 8 (by simp)]; exact a4
  · rw [hm _ (by omega), hm _ (by omega), (b2 l hl).1, (b2 l hl).2]; exact g2 l hl
  · rw [b1 6 (by simp)]; exact g4
  · obtain ⟨a, q1, q2, q3⟩ := g5 f hf
    rw [hm _ (by omega), hm _ (by omega), hm _ (by omega)]
    exact ⟨a, by rw [b4 f (by omega)]; exact q1, by rw [b7]; exact q2, q3.bc b5 b6 b7⟩
  · rw [b1 8 (by simp)]; exact g7
  · rw [hm _ (by omega), b3 _ (by omega)]; exact g8 b hb k hk
  · rw [hm 0 (by decide)]; exact g9
  · rw [hm 1 (by decide)]; exact g10
  · rw [hm 2 (by decide)]; exact g11
/-- an Air that stayed -/
theorem RA.same {z z1 : ZS} {o : Nat} (hI : ∀ k, zI z1 o k = zI z o k) (hR : ∀ k, zR z1 o k = zR z o k) (hQ : zQ z1 o = zQ z o) (hP : zP z1 = zP z) (hK : zK z1 = zK z) (hF : zF z1 = zF z) {m m1 : Nat → Int32} (hm : ∀ k, k < 73 → m1 k = m k) (g : RA z o m) : RA z1 o m1 := by
  obtain ⟨⟨a0, a1, a2, a3, a4⟩, g2, ⟨n, g3, g4, g5⟩, ⟨n2, g6, g7, g8⟩, g9, g10, g11⟩ := g
  refine ⟨⟨?_, ?_, ?_, ?_, ?_⟩, fun l hl => ?_, ⟨n, g3, ?_, fun f hf => ?_⟩, ⟨n2, g6, ?_, fun b hb k hk => ?_⟩, ?_, ?_, ?_⟩
  · rw [hm 0 (by decide), hI]; exact a0
  · rw [hm 1 (by decide), hI]; exact a1
  · rw [hm 2 (by decide), hI]; exact a2
  · rw [hm 3 (by decide), hI]; exact a3
  · rw [hm 4 (by decide), hI]; exact a4
  · rw [hm _ (by omega), hm _ (by omega), hR, hR]; exact g2 l hl
  · rw [hI]; exact g4
  · obtain ⟨a, q1, q2, q3⟩ := g5 f hf
    rw [hm _ (by omega), hm _ (by omega), hm _ (by omega)]
    exact ⟨a, by rw [hQ]; exact q1, by rw [hF]; exact q2, q3.bc hP hK hF⟩
  · rw [hI]; exact g7
  · rw [hm _ (by omega), hR]; exact g8 b hb k hk
  · rw [hm 0 (by decide)]; exact g9
  · rw [hm 1 (by decide)]; exact g10
  · rw [hm 2 (by decide)]; exact g11
theorem RS.same {z z1 : ZS} {d : Nat} (hI : ∀ k, zI z1 (6 + d) k = zI z (6 + d) k) (hR : ∀ k, zR z1 (6 + d) k = zR z (6 + d) k) (hM : ∀ k, 3 ≤ k → k < 9 → zR z1 14 k = zR z 14 k) (hG : zG z1 (6 + d) = zG z (6 + d)) (hP : zP z1 = zP z) (hK : zK z1 = zK z) (hF : zF z1 = zF z) (g : RS z d) : RS z1 d := by
  unfold RS
  rw [hG, hI, hI, hI, hR, hM 3 (by decide) (by decide), hM 4 (by decide) (by decide), hM 5 (by decide) (by decide), hM 6 (by decide) (by decide), hM 7 (by decide) (by decide), hM 8 (by decide) (by decide), hP, hK, hF]
  exact g
theorem sk_26 : SK_26 Rel := by
  intro z hR
  unfold V_X11_image V_X12_image
  obtain ⟨r1, r2, r3, r4⟩ := hR
  refine c_become (by decide) r4 (fun z1 hb z3 e3 => ⟨74, m_image_lp _ 74 0 z3 rfl (by decide) (fun g g1 _ => ?_)⟩)
  subst e3
  have hb0 := hb
  obtain ⟨b1, c1, b2, b3, c2, c3, b4, b8, c4, b5, b6, b7⟩ := hb
  have e0 : zR (wI z1 0 3 1) 14 0 = zR z 14 0 := c2 14 0 (by decide)
  have ei : zI (wI z1 0 3 1) 1 6 = zI z 1 6 := c1 1 6 (by decide)
  refine ⟨?_, ?_, ?_, ?_, ?_⟩
  · rw [e0, ei]; exact r1.1.2.2.2.1
  · refine r1.same (fun k => c1 1 k (by decide)) (fun k => c2 1 k (by decide)) (c4 1 (by decide)) b5 b6 b7 (fun k _ => ?_)
    show zR z1 14 0 k = zR z 14 0 k
    rw [c2 14 0 (by decide)]
  · refine Or.inr ⟨rfl, rfl, ?_⟩
    refine RA.bc (z := z) (z1 := wI (wA (wI z1 0 3 1) 14 1 g) 14 9 1) (o := 3) (p := 1) (m := zR z 14 0) b1 b2 b3 b4 b5 b6 b7 (fun k hk => ?_) r1
    exact (g1 k (by omega) hk).trans (by rw [e0])
  · intro d hd
    refine (r3 d hd).same (fun k => ?_) (fun k => ?_) (fun k h1 h2 => ?_) (by rw [← c3]; rfl) b5 b6 b7
    · rw [← c1 (6 + d) k (by omega)]
      show (if 6 + d = 14 ∧ k = 9 then _ else if 6 + d = 0 ∧ k = 3 then _ else zI z1 (6 + d) k) = _
      rw [if_neg (by omega), if_neg (by omega)]
    · rw [← c2 (6 + d) k (by omega)]
      show (if 6 + d = 14 ∧ k = 1 then _ else zR z1 (6 + d) k) = _
      rw [if_neg (by omega)]
    · rw [← c2 14 k (by decide)]
      show (if 14 = 14 ∧ k = 1 then _ else zR z1 14 k) = _
      rw [if_neg (by omega)]
  · intro o k a hq
    show a ∈ zP z1
    rw [b5]
    have hq : zQ z1 o k = some a := hq
    by_cases ho : o = 3
    · subst ho
      by_cases hk : k < 8
      · rw [b4 k hk] at hq; exact r4 _ _ _ hq
      · rw [b8 k (by omega)] at hq; exact r4 _ _ _ hq
    · rw [c4 o ho] at hq; exact r4 _ _ _ hq
theorem sk_27 : SK_27 Rel := by
  intro z hR
  unfold V_X11_restore V_X12_restore
  have hR0 := hR
  obtain ⟨r1, r2, r3, r4⟩ := hR
  rcases r2 with ⟨q1, q2⟩ | ⟨q1, q2, q3⟩
  · exact ⟨fun q => absurd q1 q, fun _ => ⟨fun q => absurd q2 q, fun _ => ⟨rfl, hR0⟩⟩⟩
  · refine ⟨fun _ => ?_, fun q => absurd (q1.symm.trans q) (by decide)⟩
    refine c_become (by decide) r4 (fun z1 hb => ?_)
    obtain ⟨b1, c1, b2, b3, c2, c3, b4, b8, c4, b5, b6, b7⟩ := hb
    have e9 : zI z1 14 9 = 1 := (c1 14 9 (by decide)).trans q2
    refine ⟨fun _ => ⟨74, m_restore_lp _ 74 0 z1 rfl (by decide) (fun g g1 _ => ?_)⟩, fun q => absurd (e9.symm.trans q) (by decide)⟩
    have em : ∀ k, k < 73 → g k = zR z 14 1 k := fun k hk => (g1 k (by omega) hk).trans (by rw [c2 14 1 (by decide)])
    refine ⟨?_, ?_, ?_, ?_, ?_⟩
    · rw [em 3 (by decide), b1 6 (by simp)]; exact q3.1.2.2.2.1
    · refine RA.bc (z := z) (z1 := wA z1 14 0 g) (o := 1) (p := 3) (m := zR z 14 1) b1 b2 b3 b4 b5 b6 b7 em q3
    · refine Or.inr ⟨(c1 0 3 (by decide)).trans q1, e9, ?_⟩
      refine q3.same (fun k => c1 3 k (by decide)) (fun k => c2 3 k (by decide)) (c4 3 (by decide)) b5 b6 b7 (fun k _ => ?_)
      show zR z1 14 1 k = zR z 14 1 k
      rw [c2 14 1 (by decide)]
    · intro d hd
      refine (r3 d hd).same (fun k => c1 (6 + d) k (by omega)) (fun k => ?_) (fun k h1 h2 => ?_) (by rw [← c3]; rfl) b5 b6 b7
      · rw [← c2 (6 + d) k (by omega)]
        show (if 6 + d = 14 ∧ k = 0 then _ else zR z1 (6 + d) k) = _
        rw [if_neg (by omega)]
      · rw [← c2 14 k (by decide)]
        show (if 14 = 14 ∧ k = 0 then _ else zR z1 14 k) = _
        rw [if_neg (by omega)]
    · intro o k a hq
      show a ∈ zP z1
      rw [b5]
      have hq : zQ z1 o k = some a := hq
      by_cases ho : o = 1
      · subst ho
        by_cases hk : k < 8
        · rw [b4 k hk] at hq; exact r4 _ _ _ hq
        · rw [b8 k (by omega)] at hq; exact r4 _ _ _ hq
      · rw [c4 o ho] at hq; exact r4 _ _ _ hq
-- count: how many layers have wind
def windy (e n : Nat → Int32) : Nat → Nat → Nat
  | 0, _ => 0
  | (k + 1), l => (if e l = 0 ∧ n l = 0 then 0 else 1) + windy e n k (l + 1)
theorem c_windy (post : Int32 → ZS → Prop) (z : ZS) : ∀ (k i v : Nat), k + i = 10 → post (nI (v + windy (zR z 1 0) (zR z 1 1) k i)) z → V_X0_windyLayers_4 1 post (k + 1) z (nI v) (nI i) := by
  intro k
  induction k with
  | zero =>
    intro i v h hp
    have hi : i = 10 := by omega
    subst hi
    unfold V_X0_windyLayers_4
    exact ⟨fun _ => hp, fun c => absurd (by decide : (10 : Int32) ≤ nI 10) c⟩
  | succ k ih =>
    intro i v h hp
    have c0 : ¬ (10 : Int32) ≤ nI i := fun q => by
      have := (nI_leI (a := 10) (b := i) (by decide) (by omega)).mp q
      omega
    unfold V_X0_windyLayers_4 V_X0_windyLayers_28 V_X0_windyLayers_31
    rw [nI_clamp (by omega)]
    unfold windy at hp
    have one : ¬ (zR z 1 0 i = 0 ∧ zR z 1 1 i = 0) → ∀ t3 : Int32, t3 = nI v + 1 → ∀ t4 : Int32, t4 = nI i + 1 → V_X0_windyLayers_4 1 post (k + 1) z t3 t4 := fun c t3 e3 t4 e4 => by
      rw [if_neg c] at hp
      rw [e3, e4, nI_1, nI_1]
      exact ih (i + 1) (v + 1) (by omega) (by rw [Nat.add_assoc]; exact hp)
    refine ⟨fun q => absurd q c0, fun _ => ⟨vin (by omega) (by decide), fun c1 => one (fun q => c1 q.1), fun c1 => ⟨vin (by omega) (by decide), fun c2 t4 e4 => ?_, fun c2 => one (fun q => c2 q.2)⟩⟩⟩
    rw [if_pos ⟨c1, c2⟩, Nat.zero_add] at hp
    rw [e4, nI_1]
    exact ih (i + 1) v (by omega) hp
theorem m_windy (post : Int32 → ZS → Prop) (z : ZS) : ∀ (k i v : Nat), k + i = 10 → post (nI (v + windy (fun l => zR z 14 0 (5 + 2 * l)) (fun l => zR z 14 0 (6 + 2 * l)) k i)) z → V_X12_count_56 post (k + 1) z (nI v) (nI i) := by
  intro k
  induction k with
  | zero =>
    intro i v h hp
    have hi : i = 10 := by omega
    subst hi
    unfold V_X12_count_56
    exact ⟨fun _ => hp, fun c => absurd (by decide : (10 : Int32) ≤ nI 10) c⟩
  | succ k ih =>
    intro i v h hp
    have c0 : ¬ (10 : Int32) ≤ nI i := fun q => by
      have := (nI_leI (a := 10) (b := i) (by decide) (by omega)).mp q
      omega
    unfold V_X12_count_56 V_X12_count_79 V_X12_count_84
    rw [e_east (by omega)]
    unfold windy at hp
    have one : ¬ (zR z 14 0 (5 + 2 * i) = 0 ∧ zR z 14 0 (6 + 2 * i) = 0) → ∀ t3 : Int32, t3 = nI v + 1 → ∀ t4 : Int32, t4 = nI i + 1 → V_X12_count_56 post (k + 1) z t3 t4 := fun c t3 e3 t4 e4 => by
      rw [if_neg c] at hp
      rw [e3, e4, nI_1, nI_1]
      exact ih (i + 1) (v + 1) (by omega) (by rw [Nat.add_assoc]; exact hp)
    refine ⟨fun q => absurd q c0, fun _ => ⟨fun c1 => one (fun q => c1 q.1), fun c1 => ?_⟩⟩
    rw [e_north (by omega)]
    refine ⟨fun c2 t3 e3 t4 e4 => ?_, fun c2 => one (fun q => c2 q.2)⟩
    rw [if_pos ⟨c1, c2⟩, Nat.zero_add] at hp
    rw [e3, e4, nI_1]
    have e0 : nI v + 0 = nI v := Int32.add_zero _
    rw [e0]
    exact ih (i + 1) v (by omega) hp
theorem windy_eq {e n e2 n2 : Nat → Int32} (h : ∀ l, l < 10 → e l = e2 l ∧ n l = n2 l) : ∀ k i, k + i ≤ 10 → windy e n k i = windy e2 n2 k i := by
  intro k
  induction k with
  | zero => intro i _; rfl
  | succ k ih =>
    intro i hi
    unfold windy
    rw [(h i (by omega)).1, (h i (by omega)).2, ih (i + 1) (by omega)]
theorem sk_28 : SK_28 Rel := by
  intro z p1 hR
  obtain ⟨⟨a0, a1, a2, a3, a4⟩, g2, -⟩ := hR.1
  unfold V_X11_count V_X12_count
  by_cases c0 : p1 = 0
  · exact ⟨fun _ => ⟨fun _ => ⟨a3, hR⟩, fun q => absurd c0 q⟩, fun q => absurd c0 q⟩
  refine ⟨fun q => absurd q c0, fun _ => ?_⟩
  by_cases c1 : p1 = 1
  · exact ⟨fun _ => ⟨fun q => absurd q c0, fun _ => ⟨fun _ => ⟨a4, hR⟩, fun q => absurd c1 q⟩⟩, fun q => absurd c1 q⟩
  refine ⟨fun q => absurd q c1, fun _ => ?_⟩
  by_cases c2 : p1 = 2
  · refine ⟨fun _ => ⟨11, c_windy _ z 10 0 0 rfl ⟨fun q => absurd q c0, fun _ => ⟨fun q => absurd q c1, fun _ => ⟨fun _ => ⟨11, m_windy _ z 10 0 0 rfl ⟨?_, hR⟩⟩, fun q => absurd c2 q⟩⟩⟩⟩, fun q => absurd c2 q⟩
    rw [windy_eq (fun l hl => ⟨(g2 l hl).1, (g2 l hl).2.1⟩) 10 0 (by decide)]
  refine ⟨fun q => absurd q c2, fun _ => ?_⟩
  by_cases c3 : p1 = 3
  · exact ⟨fun _ => ⟨fun q => absurd q c0, fun _ => ⟨fun q => absurd q c1, fun _ => ⟨fun q => absurd q c2, fun _ => ⟨fun _ => ⟨a0, hR⟩, fun q => absurd c3 q⟩⟩⟩⟩, fun q => absurd c3 q⟩
  refine ⟨fun q => absurd q c3, fun _ => ?_⟩
  by_cases c4 : p1 = 4
  · exact ⟨fun _ => ⟨fun q => absurd q c0, fun _ => ⟨fun q => absurd q c1, fun _ => ⟨fun q => absurd q c2, fun _ => ⟨fun q => absurd q c3, fun _ => ⟨fun _ => ⟨a1, hR⟩, fun q => absurd c4 q⟩⟩⟩⟩⟩, fun q => absurd c4 q⟩
  refine ⟨fun q => absurd q c4, fun _ => ?_⟩
  by_cases c5 : p1 = 5
  · exact ⟨fun _ => ⟨fun q => absurd q c0, fun _ => ⟨fun q => absurd q c1, fun _ => ⟨fun q => absurd q c2, fun _ => ⟨fun q => absurd q c3, fun _ => ⟨fun q => absurd q c4, fun _ => ⟨fun _ => ⟨a2, hR⟩, fun q => absurd c5 q⟩⟩⟩⟩⟩⟩, fun q => absurd c5 q⟩
  exact ⟨fun q => absurd q c5, fun _ => ⟨fun q => absurd q c0, fun _ => ⟨fun q => absurd q c1, fun _ => ⟨fun q => absurd q c2, fun _ => ⟨fun q => absurd q c3, fun _ => ⟨fun q => absurd q c4, fun _ => ⟨fun q => absurd q c5, fun _ => ⟨rfl, hR⟩⟩⟩⟩⟩⟩⟩⟩
