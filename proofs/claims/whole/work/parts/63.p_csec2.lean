/-! PURE, part 14: plunge, sink, puff of the class -/
theorem CF.f {z : ZS} {o : Nat} {P : FP} {u : FS} (h : CF z o P u) : ∃ a op, zG z o 1 = some a ∧ FA z a P.2.1.1 P.2.1.2.1 op := h.2.1
theorem c_plunge {z : ZS} {o : Nat} {P : FP} {u : FS} {p1 p2 : Int32} (h : CF z o P u) {post : ZS → Prop} (kk : ∀ z1, OF o z z1 → CF z1 o P (u.1 + (P.1.1 * (if (0 : Int32) < 10 - u.2.2.2.1 then 10 - u.2.2.2.1 else 0) / 10 + driftB P.2.1.1 p1 / 2), u.2.1 + driftB P.2.1.1 p2 / 2, u.2.2.1 - fallsB P.2.1.1, u.2.2.2) → post z1) : V_X3_plunge z o p1 p2 post := by
  unfold V_X3_plunge
  obtain ⟨a, op, g1, g2⟩ := h.f
  have q5 : zI z o 5 = u.2.2.2.1 := h.2.2.2.2.2.2.2.2.2.2.2.1
  have q2 : zI z o 2 = u.1 := h.2.2.2.2.2.2.2.2.1
  have qp : zI z 1 3 = P.1.1 := h.2.2.2.2.2.1
  refine ⟨a, g1, g2.1, c_drift g2 (fun z4 e4 => ?_)⟩
  rw [q5, q2, qp] at e4
  have a1 := h.x (u.1 + (P.1.1 * (if (0 : Int32) < 10 - u.2.2.2.1 then 10 - u.2.2.2.1 else 0) / 10 + driftB P.2.1.1 p1 / 2))
  have o1 := (OF.rf o z).I 2 (u.1 + (P.1.1 * (if (0 : Int32) < 10 - u.2.2.2.1 then 10 - u.2.2.2.1 else 0) / 10 + driftB P.2.1.1 p1 / 2))
  rw [← e4] at a1 o1
  obtain ⟨a5, op5, g51, g52⟩ := a1.f
  have q3 : zI z4 o 3 = u.2.1 := a1.2.2.2.2.2.2.2.2.2.1
  refine ⟨a5, g51, g52.1, c_drift g52 (fun z8 e8 => ?_)⟩
  rw [q3] at e8
  have a2 := a1.y (u.2.1 + driftB P.2.1.1 p2 / 2)
  have o2 := o1.I 3 (u.2.1 + driftB P.2.1.1 p2 / 2)
  rw [← e8] at a2 o2
  obtain ⟨a9, op9, g91, g92⟩ := a2.f
  have q4 : zI z8 o 4 = u.2.2.1 := a2.2.2.2.2.2.2.2.2.2.2.1
  have qf : zF z8 a9 4 = fallsB P.2.1.1 := g92.2.2.2.2.2.2.1
  refine ⟨a9, g91, g92.1, fun z10 e10 => ?_⟩
  rw [q4, qf] at e10
  have a3 := a2.h (u.2.2.1 - fallsB P.2.1.1)
  have o3 := o2.I 4 (u.2.2.1 - fallsB P.2.1.1)
  rw [← e10] at a3 o3
  exact kk z10 o3 a3
theorem c_sink63 {z : ZS} {o : Nat} {P : FP} {u : FS} {v1 v2 sE sN : Int32} (h : CF z o P u) {post : ZS → Prop} (kk : ∀ z1, OF o z z1 → CF z1 o P (u.1 + (sE + driftB P.2.1.1 v1), u.2.1 + (sN + driftB P.2.1.1 v2), u.2.2.1 - sinksB P.2.1.1 P.2.1.2.1, u.2.2.2) → post z1) : V_X3_sink_63 o post z v1 v2 sE sN := by
  unfold V_X3_sink_63
  obtain ⟨a, op, g1, g2⟩ := h.f
  have q2 : zI z o 2 = u.1 := h.2.2.2.2.2.2.2.2.1
  refine ⟨a, g1, g2.1, c_drift g2 (fun z4 e4 => ?_)⟩
  rw [q2] at e4
  have a1 := h.x (u.1 + (sE + driftB P.2.1.1 v1))
  have o1 := (OF.rf o z).I 2 (u.1 + (sE + driftB P.2.1.1 v1))
  rw [← e4] at a1 o1
  obtain ⟨a5, op5, g51, g52⟩ := a1.f
  have q3 : zI z4 o 3 = u.2.1 := a1.2.2.2.2.2.2.2.2.2.1
  refine ⟨a5, g51, g52.1, c_drift g52 (fun z8 e8 => ?_)⟩
  rw [q3] at e8
  have a2 := a1.y (u.2.1 + (sN + driftB P.2.1.1 v2))
  have o2 := o1.I 3 (u.2.1 + (sN + driftB P.2.1.1 v2))
  rw [← e8] at a2 o2
  obtain ⟨a9, op9, g91, g92⟩ := a2.f
  have q4 : zI z8 o 4 = u.2.2.1 := a2.2.2.2.2.2.2.2.2.2.2.1
  have qf : zF z8 a9 5 = sinksB P.2.1.1 P.2.1.2.1 := g92.2.2.2.2.2.2.2.1
  refine ⟨a9, g91, g92.1, fun z10 e10 => ?_⟩
  rw [q4, qf] at e10
  have a3 := a2.h (u.2.2.1 - sinksB P.2.1.1 P.2.1.2.1)
  have o3 := o2.I 4 (u.2.2.1 - sinksB P.2.1.1 P.2.1.2.1)
  rw [← e10] at a3 o3
  exact kk z10 o3 a3
theorem c_sink {z : ZS} {o : Nat} {P : FP} {u : FS} {p1 p2 : Int32} (h : CF z o P u) (b1 : -1000 ≤ p1.toInt ∧ p1.toInt ≤ 1000) (b2 : -1000 ≤ p2.toInt ∧ p2.toInt ≤ 1000) {post : ZS → Prop} (kk : ∀ z1, OF o z z1 → CF z1 o P (u.1 + ((stO P u.1 u.2.1 p1 p2).1 + driftB P.2.1.1 p1), u.2.1 + ((stO P u.1 u.2.1 p1 p2).2 + driftB P.2.1.1 p2), u.2.2.1 - sinksB P.2.1.1 P.2.1.2.1, u.2.2.2) → post z1) : V_X3_sink z o p1 p2 post := by
  unfold V_X3_sink V_X3_sink_31
  have h0 := h
  obtain ⟨-, ⟨a, op, g1, g2⟩, -, h4, -, -, -, -, q2, q3, -⟩ := h
  rw [q2, q3]
  cases hw : P.2.2 with
  | none =>
    rw [hw] at h4
    have e : stO P u.1 u.2.1 p1 p2 = (stE P.2.1.1 P.2.1.2.1 u.1 u.2.1 p1 p2, stN P.2.1.1 P.2.1.2.1 u.1 u.2.1 p1 p2) := by unfold stO; rw [hw]
    rw [e] at kk
    refine ⟨fun _ => ⟨a, g1, g2.1, c_stE g2 b1 ⟨fun _ => ⟨a, g1, g2.1, ?_⟩, fun q => absurd h4 q⟩⟩, fun q => absurd h4 q⟩
    rw [q2, q3]
    exact c_stN g2 b2 (c_sink63 h0 kk)
  | some w =>
    rw [hw] at h4
    have e : stO P u.1 u.2.1 p1 p2 = w := by unfold stO; rw [hw]
    rw [e] at kk
    refine ⟨fun q => absurd q h4.1, fun _ => ⟨fun q => absurd q h4.1, fun _ => ?_⟩⟩
    rw [h4.2.1, h4.2.2]
    exact c_sink63 h0 kk
