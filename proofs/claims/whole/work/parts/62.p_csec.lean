/-! PURE, part 13: the class's second of a fall -/
theorem FA.eqv {z z1 : ZS} (h1 : zP z1 = zP z) (h2 : zK z1 = zK z) (h3 : zF z1 = zF z) {a : Nat} {k f o : Int32} (g : FA z a k f o) : FA z1 a k f o := g.bc h1 h2 h3
theorem CF.x {z : ZS} {o : Nat} {P : FP} {t : FS} (h : CF z o P t) (v : Int32) : CF (wI z o 2 v) o P (v, t.2) := by
  obtain ⟨h1, ⟨a, op, g1, g2⟩, h3, h4, h5, h6, h7, h8, h9, h10, h11, h12, h13⟩ := h
  rcases h1 with rfl | rfl
  · exact ⟨Or.inl rfl, ⟨a, op, g1, g2⟩, h3, h4, h5, h6, h7, h8, rfl, h10, h11, h12, h13⟩
  · exact ⟨Or.inr rfl, ⟨a, op, g1, g2⟩, h3, h4, h5, h6, h7, h8, rfl, h10, h11, h12, h13⟩
theorem CF.y {z : ZS} {o : Nat} {P : FP} {t : FS} (h : CF z o P t) (v : Int32) : CF (wI z o 3 v) o P (t.1, v, t.2.2) := by
  obtain ⟨h1, ⟨a, op, g1, g2⟩, h3, h4, h5, h6, h7, h8, h9, h10, h11, h12, h13⟩ := h
  rcases h1 with rfl | rfl
  · exact ⟨Or.inl rfl, ⟨a, op, g1, g2⟩, h3, h4, h5, h6, h7, h8, h9, rfl, h11, h12, h13⟩
  · exact ⟨Or.inr rfl, ⟨a, op, g1, g2⟩, h3, h4, h5, h6, h7, h8, h9, rfl, h11, h12, h13⟩
theorem CF.h {z : ZS} {o : Nat} {P : FP} {t : FS} (h : CF z o P t) (v : Int32) : CF (wI z o 4 v) o P (t.1, t.2.1, v, t.2.2.2) := by
  obtain ⟨h1, ⟨a, op, g1, g2⟩, h3, h4, h5, h6, h7, h8, h9, h10, h11, h12, h13⟩ := h
  rcases h1 with rfl | rfl
  · exact ⟨Or.inl rfl, ⟨a, op, g1, g2⟩, h3, h4, h5, h6, h7, h8, h9, h10, rfl, h12, h13⟩
  · exact ⟨Or.inr rfl, ⟨a, op, g1, g2⟩, h3, h4, h5, h6, h7, h8, h9, h10, rfl, h12, h13⟩
theorem CF.s {z : ZS} {o : Nat} {P : FP} {t : FS} (h : CF z o P t) (v : Int32) : CF (wI z o 5 v) o P (t.1, t.2.1, t.2.2.1, v, t.2.2.2.2) := by
  obtain ⟨h1, ⟨a, op, g1, g2⟩, h3, h4, h5, h6, h7, h8, h9, h10, h11, h12, h13⟩ := h
  rcases h1 with rfl | rfl
  · exact ⟨Or.inl rfl, ⟨a, op, g1, g2⟩, h3, h4, h5, h6, h7, h8, h9, h10, h11, rfl, h13⟩
  · exact ⟨Or.inr rfl, ⟨a, op, g1, g2⟩, h3, h4, h5, h6, h7, h8, h9, h10, h11, rfl, h13⟩
theorem CF.d {z : ZS} {o : Nat} {P : FP} {t : FS} (h : CF z o P t) (v : Int32) : CF (wI z o 8 v) o P (t.1, t.2.1, t.2.2.1, t.2.2.2.1, v) := by
  obtain ⟨h1, ⟨a, op, g1, g2⟩, h3, h4, h5, h6, h7, h8, h9, h10, h11, h12, h13⟩ := h
  rcases h1 with rfl | rfl
  · exact ⟨Or.inl rfl, ⟨a, op, g1, g2⟩, h3, h4, h5, h6, h7, h8, h9, h10, h11, h12, rfl⟩
  · exact ⟨Or.inr rfl, ⟨a, op, g1, g2⟩, h3, h4, h5, h6, h7, h8, h9, h10, h11, h12, rfl⟩
/-- only ints and the Faller of the Fall o have changed -/
def OF (o : Nat) (z z1 : ZS) : Prop := (∀ a k, a ≠ o → zI z1 a k = zI z a k) ∧ (∀ a, a ≠ o → zG z1 a = zG z a) ∧ zR z1 = zR z ∧ zQ z1 = zQ z ∧ zP z1 = zP z ∧ zK z1 = zK z ∧ zF z1 = zF z
theorem OF.rf (o : Nat) (z : ZS) : OF o z z := ⟨fun _ _ _ => rfl, fun _ _ => rfl, rfl, rfl, rfl, rfl, rfl⟩
theorem OF.I {o : Nat} {z z1 : ZS} (h : OF o z z1) (k : Nat) (v : Int32) : OF o z (wI z1 o k v) := ⟨fun a b ha => (if_neg (fun q => ha q.1)).trans (h.1 a b ha), h.2⟩
theorem OF.G {o : Nat} {z z1 : ZS} (h : OF o z z1) (k : Nat) (v : Option Nat) : OF o z (wG z1 o k v) := ⟨h.1, fun a ha => by rw [← h.2.1 a ha]; funext b; exact if_neg (fun q => ha q.1), h.2.2⟩
theorem OF.tr {o : Nat} {z z1 z2 : ZS} (h : OF o z z1) (g : OF o z1 z2) : OF o z z2 := ⟨fun a b ha => (g.1 a b ha).trans (h.1 a b ha), fun a ha => (g.2.1 a ha).trans (h.2.1 a ha), g.2.2.1.trans h.2.2.1, g.2.2.2.1.trans h.2.2.2.1, g.2.2.2.2.1.trans h.2.2.2.2.1, g.2.2.2.2.2.1.trans h.2.2.2.2.2.1, g.2.2.2.2.2.2.trans h.2.2.2.2.2.2⟩
theorem OF.kp {o : Nat} {z z1 : ZS} (h : OF o z z1) (ho : o = 4 ∨ o = 5) : Kp z z1 := by
  refine ⟨fun a k q => h.1 a k (by unfold keepI at q; omega), fun a k _ => by rw [h.2.2.1], fun a q => h.2.1 a (by omega), h.2.2.2.1, fun a q => ⟨by rw [h.2.2.2.2.1]; exact q, by rw [h.2.2.2.2.2.1], by rw [h.2.2.2.2.2.2]⟩⟩
/-- the end of the class's second -/
theorem c_after {z : ZS} {o : Nat} {P : FP} {u : FS} (h : CF z o P u) {post : ZS → Prop} {rr : ZS → Int32 → Int32 → Prop} {v1 v2 : Int32} (kk : ∀ z1, OF o z z1 → CF z1 o P (hB u.1, hB u.2.1, (if (0 : Int32) < u.2.2.1 then u.2.2.1 else 0), u.2.2.2.1 + 1, u.2.2.2.2) → rr z1 v1 (v2 + 1)) : V_X3_goOn_103 o post rr z v1 v2 := by
  unfold V_X3_goOn_103
  intro z8 e8
  subst e8
  have a1 := h.s (zI z o 5 + 1)
  refine c_held ?_
  intro z11 e11
  have a2 := a1.x (hB (zI (wI z o 5 (zI z o 5 + 1)) o 2))
  rw [← e11] at a2
  refine c_held ?_
  intro z14 e14
  have a3 := a2.y (hB (zI z11 o 3))
  rw [← e14] at a3
  intro z15 e15 t16 e16
  have a4 := a3.h (if (0 : Int32) < (zI z14 o 4) then (zI z14 o 4) else (0 : Int32))
  rw [← e15] at a4
  subst e16
  have q5 : zI z o 5 = u.2.2.2.1 := h.2.2.2.2.2.2.2.2.2.2.2.1
  have q2 : zI (wI z o 5 (zI z o 5 + 1)) o 2 = u.1 := a1.2.2.2.2.2.2.2.2.1
  have q3 : zI z11 o 3 = u.2.1 := a2.2.2.2.2.2.2.2.2.2.1
  have q4 : zI z14 o 4 = u.2.2.1 := a3.2.2.2.2.2.2.2.2.2.2.1
  rw [q2, q3, q4, q5] at a4
  refine kk z15 ?_ a4
  rw [e15, e14, e11]
  exact ((((OF.rf o z).I 5 _).I 2 _).I 3 _).I 4 _
