/-! PURE, part 4: image, restore, count -/
theorem nI_le' {a b : Nat} (ha : a < 2 ^ 31) (hb : b < 2 ^ 31) : nI a ≤ nI b ↔ a ≤ b := nI_leI ha hb
/-- the reference copies an array of 73, from place v on -/
theorem m_image_lp (post : Int32 → ZS → Prop) : ∀ (n i : Nat) (z : ZS), n + i = 74 → (∀ g : Nat → Int32, (∀ k, i ≤ k → k < 73 → g k = zR z 14 0 k) → (∀ k, k < i → g k = zR z 14 1 k) → post (zR z 14 0 3) (wI (wA z 14 1 g) 14 9 1)) → V_X12_image_2 post n z (nI i) := by
  intro n
  induction n with
  | zero => intro i z h; omega
  | succ n ih =>
    intro i z h k
    unfold V_X12_image_2
    refine ⟨fun c => ?_, fun c => ?_⟩
    · have hi : 73 ≤ i := by
        have := (nI_leI (a := 73) (b := i) (by decide) (by omega)).mp c
        exact this
      intro z2 e
      subst e
      have := k (zR z 14 1) (fun k h1 h2 => by omega) (fun k _ => rfl)
      have e1 : wA z 14 1 (zR z 14 1) = z := by
        obtain ⟨z1, z2, z3⟩ := z
        unfold wA
        congr 1
        congr 1
        funext a b
        show (if a = 14 ∧ b = 1 then z2 14 1 else z2 a b) = z2 a b
        split
        · rename_i q; rw [q.1, q.2]
        · rfl
      rw [e1] at this
      exact this
    · have hi : i < 73 := by
        refine Nat.lt_of_not_le (fun q => c ?_)
        exact (nI_leI (a := 73) (b := i) (by decide) (by omega)).mpr q
      refine ⟨vin hi (by decide), vin hi (by decide), fun z3 e t et => ?_⟩
      subst e; subst et
      rw [nI_1, nI_clamp (by omega)]
      refine ih (i + 1) _ (by omega) (fun g g1 g2 => ?_)
      have := k g (fun k h1 h2 => ?_) (fun k h1 => ?_)
      · have e1 : wA (wR z 14 1 i (zR z 14 0 i)) 14 1 g = wA z 14 1 g := by
          unfold wR wA
          congr 1
          congr 1
          funext a b
          show (if a = 14 ∧ b = 1 then g else if a = 14 ∧ b = 1 then _ else _) = (if a = 14 ∧ b = 1 then g else _)
          split
          · rfl
          · rfl
        rw [e1]
        exact this
      · by_cases hk : k = i
        · subst hk
          rw [g2 k (by omega)]
          exact if_pos rfl
        · exact g1 k (by omega) h2
      · rw [g2 k (by omega)]
        exact if_neg (by omega)
theorem m_restore_lp (post : Int32 → ZS → Prop) : ∀ (n i : Nat) (z : ZS), n + i = 74 → (∀ g : Nat → Int32, (∀ k, i ≤ k → k < 73 → g k = zR z 14 1 k) → (∀ k, k < i → g k = zR z 14 0 k) → post (g 3) (wA z 14 0 g)) → V_X12_restore_12 post n z (nI i) := by
  intro n
  induction n with
  | zero => intro i z h; omega
  | succ n ih =>
    intro i z h k
    unfold V_X12_restore_12
    refine ⟨fun c => ?_, fun c => ?_⟩
    · have hi : 73 ≤ i := (nI_leI (a := 73) (b := i) (by decide) (by omega)).mp c
      have := k (zR z 14 0) (fun k h1 h2 => by omega) (fun k _ => rfl)
      have e1 : wA z 14 0 (zR z 14 0) = z := by
        obtain ⟨z1, z2, z3⟩ := z
        unfold wA
        congr 1
        congr 1
        funext a b
        show (if a = 14 ∧ b = 0 then z2 14 0 else z2 a b) = z2 a b
        split
        · rename_i q; rw [q.1, q.2]
        · rfl
      rw [e1] at this
      exact this
    · have hi : i < 73 := Nat.lt_of_not_le (fun q => c ((nI_leI (a := 73) (b := i) (by decide) (by omega)).mpr q))
      refine ⟨vin hi (by decide), vin hi (by decide), fun z3 e t et => ?_⟩
      subst e; subst et
      rw [nI_1, nI_clamp (by omega)]
      refine ih (i + 1) _ (by omega) (fun g g1 g2 => ?_)
      have := k g (fun k h1 h2 => ?_) (fun k h1 => ?_)
      · have e1 : wA (wR z 14 0 i (zR z 14 1 i)) 14 0 g = wA z 14 0 g := by
          unfold wR wA
          congr 1
          congr 1
          funext a b
          show (if a = 14 ∧ b = 0 then g else if a = 14 ∧ b = 0 then _ else _) = (if a = 14 ∧ b = 0 then g else _)
          split
          · rfl
          · rfl
        rw [e1]
        exact this
      · by_cases hk : k = i
        · subst hk
          rw [g2 k (by omega)]
          exact if_pos rfl
        · exact g1 k (by omega) h2
      · rw [g2 k (by omega)]
        exact if_neg (by omega)
/-- the Air o became the Air p: what the class's become leaves -/
def BC (z z1 : ZS) (o p : Nat) : Prop := (∀ k, k = 2 ∨ k = 3 ∨ k = 4 ∨ k = 6 ∨ k = 8 → zI z1 o k = zI z p k) ∧ (∀ a k, a ≠ o → zI z1 a k = zI z a k) ∧ (∀ l, l < 10 → zR z1 o 0 l = zR z p 0 l ∧ zR z1 o 1 l = zR z p 1 l) ∧ (∀ l, l < 24 → zR z1 o 7 l = zR z p 7 l) ∧ (∀ a k, a ≠ o → zR z1 a k = zR z a k) ∧ zG z1 = zG z ∧ (∀ l, l < 8 → zQ z1 o l = zQ z p l) ∧ (∀ l, 8 ≤ l → zQ z1 o l = zQ z o l) ∧ (∀ a, a ≠ o → zQ z1 a = zQ z a) ∧ zP z1 = zP z ∧ zK z1 = zK z ∧ zF z1 = zF z
theorem c_become_lp (o p : Nat) (hop : o ≠ p) (post : ZS → Prop) (z9 : ZS) (hq : ∀ o k a, zQ z9 o k = some a → a ∈ zP z9) (hz : ∀ z1, BC z9 z1 o p → post z1) : ∀ (n i : Nat) (z : ZS), n + i = 9 → (∀ a k, zI z a k = zI z9 a k) → (∀ l, l < 10 → zR z o 0 l = zR z9 p 0 l ∧ zR z o 1 l = zR z9 p 1 l) → (∀ l, l < 24 → zR z o 7 l = zR z9 p 7 l) → (∀ a k, a ≠ o → zR z a k = zR z9 a k) → zG z = zG z9 → (∀ l, l < i → l < 8 → zQ z o l = zQ z9 p l) → (∀ l, i ≤ l → zQ z o l = zQ z9 o l) → (∀ a, a ≠ o → zQ z a = zQ z9 a) → zP z = zP z9 ∧ zK z = zK z9 ∧ zF z = zF z9 → V_X0_become_47 o p post n z (nI i) := by
  intro n
  induction n with
  | zero => intro i z h; omega
  | succ n ih =>
    intro i z h hI hR1 hR7 hRa hG hQ1 hQ2 hQa hP
    unfold V_X0_become_47
    refine ⟨fun c => ?_, fun c => ?_⟩
    · have hi : 8 ≤ i := (nI_leI (a := 8) (b := i) (by decide) (by omega)).mp c
      intro z5 e5 z6 e6 z7 e7 z8 e8 z10 e10
      have f5 : ∀ a k, zI z5 a k = if a = o ∧ k = 2 then zI z9 p 2 else zI z9 a k := fun a k => by rw [e5, ← hI p 2, ← hI a k]; rfl
      have f6 : ∀ a k, zI z6 a k = if a = o ∧ k = 3 then zI z9 p 3 else zI z5 a k := fun a k => by
        rw [e6]
        have : zI z5 p 3 = zI z9 p 3 := by rw [f5, if_neg (fun q => hop q.1.symm)]
        rw [← this]; rfl
      have f7 : ∀ a k, zI z7 a k = if a = o ∧ k = 4 then zI z9 p 4 else zI z6 a k := fun a k => by
        rw [e7]
        have : zI z6 p 4 = zI z9 p 4 := by rw [f6, if_neg (fun q => hop q.1.symm), f5, if_neg (fun q => hop q.1.symm)]
        rw [← this]; rfl
      have f8 : ∀ a k, zI z8 a k = if a = o ∧ k = 6 then zI z9 p 6 else zI z7 a k := fun a k => by
        rw [e8]
        have : zI z7 p 6 = zI z9 p 6 := by rw [f7, if_neg (fun q => hop q.1.symm), f6, if_neg (fun q => hop q.1.symm), f5, if_neg (fun q => hop q.1.symm)]
        rw [← this]; rfl
      have f10 : ∀ a k, zI z10 a k = if a = o ∧ k = 8 then zI z9 p 8 else zI z8 a k := fun a k => by
        rw [e10]
        have : zI z8 p 8 = zI z9 p 8 := by rw [f8, if_neg (fun q => hop q.1.symm), f7, if_neg (fun q => hop q.1.symm), f6, if_neg (fun q => hop q.1.symm), f5, if_neg (fun q => hop q.1.symm)]
        rw [← this]; rfl
      have same : z10.2 = z.2 := by rw [e10, e8, e7, e6, e5]; rfl
      have sR : zR z10 = zR z := congrArg Prod.fst same
      have sG : zG z10 = zG z := congrArg (fun q => q.2.1) same
      have sQ : zQ z10 = zQ z := congrArg (fun q => q.2.2.1) same
      have sP : zP z10 = zP z := congrArg (fun q => q.2.2.2.1) same
      have sK : zK z10 = zK z := congrArg (fun q => q.2.2.2.2.1) same
      have sF : zF z10 = zF z := congrArg (fun q => q.2.2.2.2.2.1) same
      refine hz z10 ⟨fun k hk => ?_, fun a k ha => ?_, by rw [sR]; exact hR1, by rw [sR]; exact hR7, by rw [sR]; exact hRa, by rw [sG]; exact hG, fun l hl => by rw [sQ]; exact hQ1 l (by omega) hl, fun l hl => by rw [sQ]; exact (if h9 : i ≤ l then hQ2 l h9 else absurd hl (by omega)), by rw [sQ]; exact hQa, by rw [sP]; exact hP.1, by rw [sK]; exact hP.2.1, by rw [sF]; exact hP.2.2⟩
      · rcases hk with rfl | rfl | rfl | rfl | rfl
        · rw [f10, if_neg (by omega), f8, if_neg (by omega), f7, if_neg (by omega), f6, if_neg (by omega), f5, if_pos ⟨rfl, rfl⟩]
        · rw [f10, if_neg (by omega), f8, if_neg (by omega), f7, if_neg (by omega), f6, if_pos ⟨rfl, rfl⟩]
        · rw [f10, if_neg (by omega), f8, if_neg (by omega), f7, if_pos ⟨rfl, rfl⟩]
        · rw [f10, if_neg (by omega), f8, if_pos ⟨rfl, rfl⟩]
        · rw [f10, if_pos ⟨rfl, rfl⟩]
      · rw [f10, if_neg (fun q => ha q.1), f8, if_neg (fun q => ha q.1), f7, if_neg (fun q => ha q.1), f6, if_neg (fun q => ha q.1), f5, if_neg (fun q => ha q.1)]
    · have hi : i < 8 := Nat.lt_of_not_le (fun q => c ((nI_leI (a := 8) (b := i) (by decide) (by omega)).mpr q))
      have ep : zQ z p i = zQ z9 p i := by rw [hQa p (fun q => hop q.symm)]
      rw [nI_clamp (by omega), ep]
      refine ⟨vin hi (by decide), vin hi (by decide), fun v hv => by rw [hP.1]; exact hq _ _ _ hv, fun z10 e t et => ?_⟩
      subst e; subst et
      rw [nI_1]
      have q0 : ∀ l, zQ (wQ z o i (zQ z9 p i)) o l = if l = i then zQ z9 p i else zQ z o l := fun l => by
        show (if o = o then va_up (zQ z o) i (zQ z9 p i) else zQ z o) l = _
        rw [if_pos rfl]
        by_cases hl : l = i
        · subst hl; rw [if_pos rfl, va_up_self]
        · rw [if_neg hl, va_up_ne _ _ hl]
      refine ih (i + 1) _ (by omega) hI hR1 hR7 hRa hG (fun l h1 h2 => ?_) (fun l h1 => ?_) (fun a ha => ?_) hP
      · rw [q0]
        split
        · rename_i q; rw [q]
        · exact hQ1 l (by omega) h2
      · rw [q0, if_neg (by omega)]; exact hQ2 l (by omega)
      · show (if a = o then _ else zQ z a) = _
        rw [if_neg ha]; exact hQa a ha
theorem c_become {z : ZS} {o p : Nat} (hop : o ≠ p) {post : ZS → Prop} (hq : ∀ o k a, zQ z o k = some a → a ∈ zP z) (hz : ∀ z1, BC z z1 o p → post z1) : V_X0_become z o p post := by
  unfold V_X0_become
  intro z1 e1 z2 e2 z3 e3
  refine ⟨9, ?_⟩
  have cp : ∀ (f g : Nat → Int32) (n : Nat) (l : Nat), l < n → va_cpy f g 0 0 n l = f l := fun f g n l hl => by
    unfold va_cpy
    rw [if_pos (by omega)]
    congr 1
    omega
  have r1 : ∀ a k, zR z1 a k = if a = o ∧ k = 0 then va_cpy (zR z p 0) (zR z o 0) 0 0 10 else zR z a k := fun a k => by rw [e1]; rfl
  have r2 : ∀ a k, zR z2 a k = if a = o ∧ k = 1 then va_cpy (zR z p 1) (zR z o 1) 0 0 10 else zR z1 a k := fun a k => by
    rw [e2]
    have h1 : zR z1 p 1 = zR z p 1 := by rw [r1, if_neg (by omega)]
    have h2 : zR z1 o 1 = zR z o 1 := by rw [r1, if_neg (by omega)]
    rw [← h1, ← h2]; rfl
  have r3 : ∀ a k, zR z3 a k = if a = o ∧ k = 7 then va_cpy (zR z p 7) (zR z o 7) 0 0 24 else zR z2 a k := fun a k => by
    rw [e3]
    have h1 : zR z2 p 7 = zR z p 7 := by rw [r2, if_neg (by omega), r1, if_neg (by omega)]
    have h2 : zR z2 o 7 = zR z o 7 := by rw [r2, if_neg (by omega), r1, if_neg (by omega)]
    rw [← h1, ← h2]; rfl
  refine c_become_lp o p hop post z hq hz 9 0 z3 rfl (fun a k => by rw [e3, e2, e1]; rfl) (fun l hl => ⟨?_, ?_⟩) (fun l hl => ?_) (fun a k ha => ?_) (by rw [e3, e2, e1]; rfl) (fun l h => absurd h (by omega)) (fun l _ => by rw [e3, e2, e1]; rfl) (fun a _ => by rw [e3, e2, e1]; rfl) (by rw [e3, e2, e1]; exact ⟨rfl, rfl, rfl⟩)
  · rw [r3, if_neg (by omega), r2, if_neg (by omega), r1, if_pos ⟨rfl, rfl⟩]; exact cp _ _ _ l hl
  · rw [r3, if_neg (by omega), r2, if_pos ⟨rfl, rfl⟩]; exact cp _ _ _ l hl
  · rw [r3, if_pos ⟨rfl, rfl⟩]; exact cp _ _ _ l hl
  · rw [r3, if_neg (fun q => ha q.1), r2, if_neg (fun q => ha q.1), r1, if_neg (fun q => ha q.1)]
