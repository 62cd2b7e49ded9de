/-! PURE, part 13: the class's second of a fall -/
theorem FA.eqv {z z1 : ZS} (h1 : zP z1 = zP z) (h2 : zK z1 = zK z) (h3 : zF z1 = zF z) {a : Nat} {k f o : Int32} (g : FA z a k f o) : FA z1 a k f o := g.bc h1 h2 h3
theorem CF.x {z : ZS} {o : Nat} {P : FP} {t : FS} (h : CF z o P t) (v : Int32) : CF (wI z o 2 v) o P (v, t.2) := by
  obtain ⟨h1, ⟨a, op, g1, g2⟩, h3, h4, h5, h6, h7, h8, h9, h10, h11, h12, h13⟩ := h
  rcases h1 with rfl | rfl
  · exact ⟨Or.inl rfl, ⟨a, op, g1, g2⟩, h3, h4, h5, h6, h7, h8, rfl, h10, h11, h12, h13⟩
  · exact ⟨Or.inr rfl, ⟨a, op, g1, g2⟩, h3, h4, h5, h6, h7, h8, rfl, h10, h11, h12, h13⟩
theorem CF.y {z : ZS} {o : Nat} {P : FP} {t : FS} (h : CF z o P t) (v : Int32) : CF (wI z o 3 v) o P (t.1, v, t.2.2) := by
  obtain ⟨h1, ⟨a, op, g1, g2⟩, h3, h4, h5, h6, h7, h8, h9, h10, h11, h12, h13⟩ := h
  rcases h1 with rfl | rfl
  · exact ⟨Or.inl rfl, ⟨a, op, g1, g2⟩, h3, h4, h5, h6, h7, h8, h9, rfl, h11, h12, h13⟩
  · exact ⟨Or.inr rfl, ⟨a, op, g1, g2⟩, h3, h4, h5, h6, h7, h8, h9, rfl, h11, h12, h13⟩
theorem CF.h {z : ZS} {o : Nat} {P : FP} {t : FS} (h : CF z o P t) (v : Int32) : CF (wI z o 4 v) o P (t.1, t.2.1, v, t.2.2.2) := by
  obtain ⟨h1, ⟨a, op, g1, g2⟩, h3, h4, h5, h6, h7, h8, h9, h10, h11, h12, h13⟩ := h
  rcases h1 with rfl | rfl
  · exact ⟨Or.inl rfl, ⟨a, op, g1, g2⟩, h3, h4, h5, h6, h7, h8, h9, h10, rfl, h12, h13⟩
  · exact ⟨Or.inr rfl, ⟨a, op, g1, g2⟩, h3, h4, h5, h6, h7, h8, h9, h10, rfl, h12, h13⟩
theorem CF.s {z : ZS} {o : Nat} {P : FP} {t : FS} (h : CF z o P t) (v : Int32) : CF (wI z o 5 v) o P (t.1, t.2.1, t.2.2.1, v, t.2.2.2.2) := by
  obtain ⟨h1, ⟨a, op, g1, g2⟩, h3, h4, h5, h6, h7, h8, h9, h10, h11, h12, h13⟩ := h
  rcases h1 with rfl | rfl
  · exact ⟨Or.inl rfl, ⟨a, op, g1, g2⟩, h3, h4, h5, h6, h7, h8, h9, h10, h11, rfl, h13⟩
  · exact ⟨Or.inr rfl, ⟨a, op, g1, g2⟩, h3, h4, h5, h6, h7, h8, h9, h10, h11, rfl, h13⟩
theorem CF.d {z : ZS} {o : Nat} {P : FP} {t : FS} (h : CF z o P t) (v : Int32) : CF (wI z o 8 v) o P (t.1, t.2.1, t.2.2.1, t.2.2.2.1, v) := by
  obtain ⟨h1, ⟨a, op, g1, g2⟩, h3, h4, h5, h6, h7, h8, h9, h10, h11, h12, h13⟩ := h
  rcases h1 with rfl | rfl
  · exact ⟨Or.inl rfl, ⟨a, op, g1, g2⟩, h3, h4, h5, h6, h7, h8, h9, h10, h11, h12, rfl⟩
  · exact ⟨Or.inr rfl, ⟨a, op, g1, g2⟩, h3, h4, h5, h6, h7, h8, h9, h10, h11, h12, rfl⟩
