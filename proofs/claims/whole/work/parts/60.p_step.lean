/-! PURE, part 11: pieces of a second of a fall -/
def hB (v : Int32) : Int32 := if (-30000 : Int32) < (if (30000 : Int32) < v then (30000 : Int32) else v) then (if (30000 : Int32) < v then (30000 : Int32) else v) else (-30000 : Int32)
theorem c_held {z : ZS} {v : Int32} {post : Int32 → ZS → Prop} (h : post (hB v) z) : V_X3_held z v post := h
theorem i_m3 : (-30000 : Int32).toInt = -30000 := by decide
theorem i_p3 : (30000 : Int32).toInt = 30000 := by decide
theorem hB_lo {v : Int32} (h : v.toInt < -30000) : hB v = -30000 := by
  have a : ¬ (30000 : Int32) < v := fun q => by rw [Int32.lt_iff_toInt_lt, i_p3] at q; omega
  unfold hB
  rw [if_neg a, if_neg (fun q => by rw [Int32.lt_iff_toInt_lt, i_m3] at q; omega)]
theorem hB_hi {v : Int32} (h : 30000 < v.toInt) : hB v = 30000 := by
  have a : (30000 : Int32) < v := by rw [Int32.lt_iff_toInt_lt, i_p3]; exact h
  unfold hB
  rw [if_pos a, if_pos (by decide)]
theorem hB_in {v : Int32} (h : -30000 ≤ v.toInt ∧ v.toInt ≤ 30000) : hB v = v := by
  have a : ¬ (30000 : Int32) < v := fun q => by rw [Int32.lt_iff_toInt_lt, i_p3] at q; omega
  unfold hB
  rw [if_neg a]
  split
  · rfl
  · rename_i q
    apply Int32.toInt_inj.mp
    rw [Int32.lt_iff_toInt_lt, i_m3] at q
    rw [i_m3]
    omega
theorem hB_bd (v : Int32) : -30000 ≤ (hB v).toInt ∧ (hB v).toInt ≤ 30000 := by
  by_cases h1 : v.toInt < -30000
  · rw [hB_lo h1, i_m3]; omega
  by_cases h2 : 30000 < v.toInt
  · rw [hB_hi h2, i_p3]; omega
  · rw [hB_in (by omega)]; omega
theorem m_held {z : ZS} {v : Int32} {post : Int32 → ZS → Prop} (h : post (hB v) z) : V_X12_held z v post := by
  unfold V_X12_held
  simp only [Int32.le_iff_toInt_le, i_m3, i_p3]
  refine ⟨fun c => ⟨fun c2 => ?_, fun c2 => ?_⟩, fun c => ?_⟩
  · rw [hB_in ⟨c, c2⟩] at h; exact h
  · rw [hB_hi (by omega)] at h; exact h
  · rw [hB_lo (by omega)] at h; exact h
/-- how high after going down -/
def dnB (h f : Int32) : Int32 := if (0 : Int32) < h - f then h - f else 0
theorem dn_sub {h f : Int32} (hh : 0 ≤ h.toInt ∧ h.toInt ≤ 3000) (hf : 0 ≤ f.toInt ∧ f.toInt ≤ 1000) : (h - f).toInt = h.toInt - f.toInt := by
  rw [Int32.toInt_sub, Int.bmod_def]
  split <;> omega
theorem m_goesDown {z : ZS} {f : Int32} (hh : 0 ≤ (zI z 14 24).toInt ∧ (zI z 14 24).toInt ≤ 3000) (hf : 0 ≤ f.toInt ∧ f.toInt ≤ 1000) {post : ZS → Prop} (h : post (wI z 14 24 (dnB (zI z 14 24) f))) : V_X12_goesDown z f post := by
  unfold V_X12_goesDown V_X12_goesDown_19
  have e := dn_sub hh hf
  have e0 : (0 : Int32).toInt = 0 := by decide
  unfold dnB at h
  refine ⟨fun c z2 e2 => ?_, fun c z2 e2 => ?_⟩
  · subst e2
    rw [Int32.le_iff_toInt_le] at c
    rw [if_neg (fun q => by rw [Int32.lt_iff_toInt_lt, e, e0] at q; omega)] at h
    exact h
  · subst e2
    rw [Int32.le_iff_toInt_le] at c
    rw [if_pos (by rw [Int32.lt_iff_toInt_lt, e, e0]; omega)] at h
    exact h
