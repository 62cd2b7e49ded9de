/-! PURE, part 12: a second of a fall, one function; the class's second -/
def lay (h : Int32) : Int32 := if (0 : Int32) < (if (9 : Int32) < h / 300 then (9 : Int32) else h / 300) then (if (9 : Int32) < h / 300 then (9 : Int32) else h / 300) else (0 : Int32)
def sdB (sd : Int32) : Int32 := sd * 1103515245 + 12345
def puffB (sd g : Int32) : Int32 := ((sdB sd &&& 2147483647) / 65536) - ((sdB sd &&& 2147483647) / 65536) / (2 * g + 1) * (2 * g + 1)
/-- where one is: x, y, height, seconds, seed -/
abbrev FS : Type := Int32 × Int32 × Int32 × Int32 × Int32
/-- the air and the one that falls: plane, gust, east, north; kind, figure, opens; the way held, if any -/
abbrev FP : Type := (Int32 × Int32 × (Nat → Int32) × (Nat → Int32)) × (Int32 × Int32 × Int32) × Option (Int32 × Int32)
/-- east's wind with its gust, and the seed then -/
noncomputable def gst (P : FP) (h sd : Int32) : Int32 × Int32 := if lay h = 0 ∧ 0 < P.1.2.1 then (P.1.2.2.1 0 + (puffB sd P.1.2.1 - P.1.2.1), sdB sd) else (P.1.2.2.1 (lay h).toNatClampNeg, sd)
noncomputable def stO (P : FP) (x y e n : Int32) : Int32 × Int32 := match P.2.2 with
  | none => (stE P.2.1.1 P.2.1.2.1 x y e n, stN P.2.1.1 P.2.1.2.1 x y e n)
  | some w => w
noncomputable def secF (P : FP) (t : FS) : FS :=
  if P.2.1.2.2 ≤ t.2.2.2.1 then
    (hB (t.1 + ((stO P t.1 t.2.1 (gst P t.2.2.1 t.2.2.2.2).1 (P.1.2.2.2 (lay t.2.2.1).toNatClampNeg)).1 + driftB P.2.1.1 (gst P t.2.2.1 t.2.2.2.2).1)), hB (t.2.1 + ((stO P t.1 t.2.1 (gst P t.2.2.1 t.2.2.2.2).1 (P.1.2.2.2 (lay t.2.2.1).toNatClampNeg)).2 + driftB P.2.1.1 (P.1.2.2.2 (lay t.2.2.1).toNatClampNeg))), dnB t.2.2.1 (sinksB P.2.1.1 P.2.1.2.1), t.2.2.2.1 + 1, (gst P t.2.2.1 t.2.2.2.2).2)
  else
    (hB (t.1 + (P.1.1 * (if (0 : Int32) < 10 - t.2.2.2.1 then 10 - t.2.2.2.1 else 0) / 10 + driftB P.2.1.1 (P.1.2.2.1 (lay t.2.2.1).toNatClampNeg) / 2)), hB (t.2.1 + driftB P.2.1.1 (P.1.2.2.2 (lay t.2.2.1).toNatClampNeg) / 2), dnB t.2.2.1 (fallsB P.2.1.1), t.2.2.2.1 + 1, t.2.2.2.2)
/-- the class's Fall o is at t, with P -/
def CF (z : ZS) (o : Nat) (P : FP) (t : FS) : Prop := (o = 4 ∨ o = 5) ∧ (∃ a op, zG z o 1 = some a ∧ FA z a P.2.1.1 P.2.1.2.1 op) ∧ zI z o 7 = P.2.1.2.2 ∧ (match P.2.2 with | none => zI z o 9 = 0 | some w => ¬ zI z o 9 = 0 ∧ zI z o 10 = w.1 ∧ zI z o 11 = w.2) ∧ zI z o 6 = P.1.2.1 ∧ zI z 1 3 = P.1.1 ∧ zR z 1 0 = P.1.2.2.1 ∧ zR z 1 1 = P.1.2.2.2 ∧ zI z o 2 = t.1 ∧ zI z o 3 = t.2.1 ∧ zI z o 4 = t.2.2.1 ∧ zI z o 5 = t.2.2.2.1 ∧ zI z o 8 = t.2.2.2.2
theorem lay_in {h : Int32} (hh : 0 ≤ h.toInt ∧ h.toInt ≤ 3000) : ∃ l : Nat, l < 10 ∧ lay h = nI l ∧ (l : Int) = min (h.toInt / 300) 9 := by
  have e9 : (9 : Int32).toInt = 9 := by decide
  have e0 : (0 : Int32).toInt = 0 := by decide
  have ed : (h / 300).toInt = h.toInt / 300 := by
    rw [Int32.toInt_div_of_ne_right _ _ (by decide)]
    show h.toInt.tdiv 300 = _
    rw [Int.tdiv_eq_ediv_of_nonneg hh.1]
  unfold lay
  by_cases c : (9 : Int32) < h / 300
  · rw [if_pos c, if_pos (by decide)]
    rw [Int32.lt_iff_toInt_lt, e9, ed] at c
    exact ⟨9, by decide, rfl, by omega⟩
  · rw [if_neg c]
    rw [Int32.lt_iff_toInt_lt, e9, ed] at c
    obtain ⟨l, e, e2, -⟩ := nat_of (p := h / 300) (by rw [ed]; omega)
    refine ⟨l, by omega, ?_, by omega⟩
    split
    · exact e
    · rename_i q
      rw [Int32.lt_iff_toInt_lt, e0, e2] at q
      have : l = 0 := by omega
      subst this
      rfl
