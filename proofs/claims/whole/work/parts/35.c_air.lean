theorem qm_0_77 : Cond.methodLink RX0 77 yX0_formOf ∈ W0 := w0_m (a := tables_1_2) 110 rfl tb_2 rfl
theorem qs_X0_formOf : Cond.static yX0_formOf ∈ W0 := w0_m (a := tables_1_2) 111 rfl tb_2 rfl
theorem qc_X0_formOf : Cond.code yX0_formOf cX0_formOf 1 (some (.object "java/lang/String")) ∈ W0 := w0_m (a := tables_1_2) 112 rfl tb_2 rfl
theorem qm_0_95 : Cond.methodLink RX0 95 yX0_isAsFormed ∈ W0 := w0_m (a := tables_1_2) 171 rfl tb_2 rfl
theorem qs_X0_isAsFormed : Cond.static yX0_isAsFormed ∈ W0 := w0_m (a := tables_1_2) 172 rfl tb_2 rfl
theorem qc_X0_isAsFormed : Cond.code yX0_isAsFormed cX0_isAsFormed 2 (some .boolean) ∈ W0 := w0_m (a := tables_1_2) 173 rfl tb_2 rfl
theorem qm_0_102 : Cond.methodLink RX0 102 yX0_numberBetween ∈ W0 := w0_m (a := tables_1_2) 181 rfl tb_2 rfl
theorem qs_X0_numberBetween : Cond.static yX0_numberBetween ∈ W0 := w0_m (a := tables_1_2) 182 rfl tb_2 rfl
theorem qc_X0_numberBetween : Cond.code yX0_numberBetween cX0_numberBetween 5 (some .int) ∈ W0 := w0_m (a := tables_1_2) 183 rfl tb_2 rfl
theorem qm_0_99 : Cond.methodLink RX0 99 yX0_behindNumber ∈ W0 := w0_m (a := tables_1_2) 178 rfl tb_2 rfl
theorem qs_X0_behindNumber : Cond.static yX0_behindNumber ∈ W0 := w0_m (a := tables_1_2) 179 rfl tb_2 rfl
theorem qc_X0_behindNumber : Cond.code yX0_behindNumber cX0_behindNumber 4 (some .int) ∈ W0 := w0_m (a := tables_1_2) 180 rfl tb_2 rfl
theorem qm_0_61 : Cond.methodLink RX0 61 yX0_scan ∈ W0 := w0_m (a := tables_1_2) 98 rfl tb_2 rfl
theorem qi_X0_scan : Cond.instanceMethod yX0_scan ∈ W0 := w0_m (a := tables_1_2) 100 rfl tb_2 rfl
theorem qe_X0_scan : Cond.selects RX0 yX0_scan yX0_scan ∈ W0 := w0_s 1 rfl rfl
theorem qc_X0_scan : Cond.code yX0_scan cX0_scan 12 (some .int) ∈ W0 := w0_m (a := tables_1_2) 101 rfl tb_2 rfl
theorem qm_0_69 : Cond.methodLink RX0 69 yX0_isAsTold ∈ W0 := w0_m (a := tables_1_2) 184 rfl tb_2 rfl
theorem qi_X0_isAsTold : Cond.instanceMethod yX0_isAsTold ∈ W0 := w0_m (a := tables_1_2) 186 rfl tb_2 rfl
theorem qe_X0_isAsTold : Cond.selects RX0 yX0_isAsTold yX0_isAsTold ∈ W0 := w0_s 2 rfl rfl
theorem qc_X0_isAsTold : Cond.code yX0_isAsTold cX0_isAsTold 2 (some .boolean) ∈ W0 := w0_m (a := tables_1_2) 187 rfl tb_2 rfl
theorem qm_0_73 : Cond.methodLink RX0 73 yX0_takeUp ∈ W0 := w0_m (a := tables_1_2) 197 rfl tb_2 rfl
theorem qi_X0_takeUp : Cond.instanceMethod yX0_takeUp ∈ W0 := w0_m (a := tables_1_2) 199 rfl tb_2 rfl
theorem qe_X0_takeUp : Cond.selects RX0 yX0_takeUp yX0_takeUp ∈ W0 := w0_s 3 rfl rfl
theorem qc_X0_takeUp : Cond.code yX0_takeUp cX0_takeUp 2 none ∈ W0 := w0_m (a := tables_1_2) 200 rfl tb_2 rfl
theorem qf_0_56 : Cond.fieldLink RX0 56 "TenYards$Shelf" "size" "I" ∈ W0 := w0_m (a := tables_1_2) 17 rfl tb_2 rfl
theorem qf_11_16 : Cond.fieldLink RX11 16 "TenYards" "draft" "LTenYards$Air;" ∈ W0 := w0_m (a := tables_1_2) 33 rfl tb_2 rfl
theorem qm_11_69 : Cond.methodLink RX11 69 yX0_readFrom ∈ W0 := w0_m (a := tables_1_2) 94 rfl tb_2 rfl
theorem qi_X0_readFrom : Cond.instanceMethod yX0_readFrom ∈ W0 := w0_m (a := tables_1_2) 95 rfl tb_2 rfl
theorem qe_X0_readFrom : Cond.selects RX0 yX0_readFrom yX0_readFrom ∈ W0 := w0_m (a := tables_1_2) 96 rfl tb_2 rfl
theorem qc_X0_readFrom : Cond.code yX0_readFrom cX0_readFrom 6 (some .int) ∈ W0 := w0_m (a := tables_1_2) 97 rfl tb_2 rfl
theorem kc_0_77 : cS RX0 77 yX0_formOf cX0_formOf 1 (some (.object "java/lang/String")) := ⟨qm_0_77, qs_X0_formOf, qn_0, qc_X0_formOf⟩
theorem kc_0_95 : cS RX0 95 yX0_isAsFormed cX0_isAsFormed 2 (some .boolean) := ⟨qm_0_95, qs_X0_isAsFormed, qn_0, qc_X0_isAsFormed⟩
theorem kc_0_102 : cS RX0 102 yX0_numberBetween cX0_numberBetween 5 (some .int) := ⟨qm_0_102, qs_X0_numberBetween, qn_0, qc_X0_numberBetween⟩
theorem kc_0_99 : cS RX0 99 yX0_behindNumber cX0_behindNumber 4 (some .int) := ⟨qm_0_99, qs_X0_behindNumber, qn_0, qc_X0_behindNumber⟩
theorem kc_0_61 : cV RX0 61 RX0 yX0_scan cX0_scan 12 (some .int) := ⟨qm_0_61, qi_X0_scan, qe_X0_scan, qn_0, qc_X0_scan⟩
theorem kc_0_69 : cV RX0 69 RX0 yX0_isAsTold cX0_isAsTold 2 (some .boolean) := ⟨qm_0_69, qi_X0_isAsTold, qe_X0_isAsTold, qn_0, qc_X0_isAsTold⟩
theorem kc_0_73 : cV RX0 73 RX0 yX0_takeUp cX0_takeUp 2 none := ⟨qm_0_73, qi_X0_takeUp, qe_X0_takeUp, qn_0, qc_X0_takeUp⟩
theorem kc_11_69 : cV RX11 69 RX0 yX0_readFrom cX0_readFrom 6 (some .int) := ⟨qm_11_69, qi_X0_readFrom, qe_X0_readFrom, qn_0, qc_X0_readFrom⟩
theorem yo_X0_formOf : yOK yX0_formOf 1 := by decide +kernel
theorem yo_X0_isAsFormed : yOK yX0_isAsFormed 2 := by decide +kernel
theorem yo_X0_numberBetween : yOK yX0_numberBetween 3 := by decide +kernel
theorem yo_X0_behindNumber : yOK yX0_behindNumber 2 := by decide +kernel
theorem yo_X0_scan : yOK yX0_scan 2 := by decide +kernel
theorem yo_X0_isAsTold : yOK yX0_isAsTold 1 := by decide +kernel
theorem yo_X0_takeUp : yOK yX0_takeUp 1 := by decide +kernel
theorem yo_X0_readFrom : yOK yX0_readFrom 1 := by decide +kernel
theorem fo_11_1 : 1 < cN 11 ∧ fk 11 1 = 1 := by decide
theorem ky_2_100 : ((2, 100) : Nat × Nat) ∈ KY := by decide
def V_X0_formOf (z : ZS) (p0 : Int32) (post : Nat → ZS → Prop) : Prop := ((p0 = (97 : Int32) → post 2 z) ∧ (¬ p0 = (97 : Int32) → ((p0 = (98 : Int32) → post 4 z) ∧ (¬ p0 = (98 : Int32) → ((p0 = (102 : Int32) → post 3 z) ∧ (¬ p0 = (102 : Int32) → ((p0 = (103 : Int32) → post 1 z) ∧ (¬ p0 = (103 : Int32) → ((p0 = (108 : Int32) → post 0 z) ∧ (¬ p0 = (108 : Int32) → post 5 z))))))))))
set_option maxHeartbeats 4000000 in
set_option maxRecDepth 100000 in
theorem c_X0_formOf (l : Launch) (D : va_G) (ad : Nat → Nat → Nat) (cs : Nat → ClassId) (sk : (Nat → Nat) × (Nat → Nat)) (z : ZS) (p0 : Int32) (post : Nat → ZS → Prop) (h : V_X0_formOf z p0 post) : MA l D ad cs sk yX0_formOf cX0_formOf 1 "java/lang/String" (rmq 0 0 0) [.int p0] z (fun r z1 => ∃ i : Nat, i < 6 ∧ r = some (sk.1 i) ∧ post i z1) := by
  refine MA.of RX0 rfl (by decide) (Nat.le_of_ble_eq_true rfl) ?_
  intro p e s m args below meth c A Q E hw hA hret ls hl
  have hx := E.1.1
  have hb := E.1.2.1
  have hml := E.1.2.2.1
  have hown := E.1.2.2.2.1
  have h0 := E.1.2.2.2.2
  have hl : lv_has ls 1 [(0, .int p0)] := hl
  unfold V_X0_formOf at h
  have b00 : ∀ (H : Heap) (locs : List Loc), OW D ad cs A s.heap z H locs → W p l e (rmq 0 0 0) s m args below meth c H locs 0 0 Q (F0 m 0 ls []) := by
    intro H locs hw
    refine lv_iload_n hx hb dX0_formOf_0 rfl (lv_at hl 0 rfl) ?_
    by_cases c1 : p0 = (97 : Int32)
    · replace h := h.1 c1
      refine lv_tableIn (tgt := 70) hx hb dX0_formOf_1 (by rw [c1]; decide) (by rw [c1]; decide) (by rw [c1]; rfl) (by decide) ?_
      refine va_ldcS hx hb hown (E.2.2.2.2.1 2 (by decide)) dX0_formOf_70 ?_
      exact hret (some (sk.1 2)) z H locs 72 ls hw ⟨2, (by decide), rfl, h⟩ dX0_formOf_72
    · replace h := h.2 c1
      by_cases c2 : p0 = (98 : Int32)
      · replace h := h.1 c2
        refine lv_tableIn (tgt := 76) hx hb dX0_formOf_1 (by rw [c2]; decide) (by rw [c2]; decide) (by rw [c2]; rfl) (by decide) ?_
        refine va_ldcS hx hb hown (E.2.2.2.2.1 4 (by decide)) dX0_formOf_76 ?_
        exact hret (some (sk.1 4)) z H locs 78 ls hw ⟨4, (by decide), rfl, h⟩ dX0_formOf_78
      · replace h := h.2 c2
        by_cases c3 : p0 = (102 : Int32)
        · replace h := h.1 c3
          refine lv_tableIn (tgt := 73) hx hb dX0_formOf_1 (by rw [c3]; decide) (by rw [c3]; decide) (by rw [c3]; rfl) (by decide) ?_
          refine va_ldcS hx hb hown (E.2.2.2.2.1 3 (by decide)) dX0_formOf_73 ?_
          exact hret (some (sk.1 3)) z H locs 75 ls hw ⟨3, (by decide), rfl, h⟩ dX0_formOf_75
        · replace h := h.2 c3
          by_cases c4 : p0 = (103 : Int32)
          · replace h := h.1 c4
            refine lv_tableIn (tgt := 67) hx hb dX0_formOf_1 (by rw [c4]; decide) (by rw [c4]; decide) (by rw [c4]; rfl) (by decide) ?_
            refine va_ldcS hx hb hown (E.2.2.2.2.1 1 (by decide)) dX0_formOf_67 ?_
            exact hret (some (sk.1 1)) z H locs 69 ls hw ⟨1, (by decide), rfl, h⟩ dX0_formOf_69
          · replace h := h.2 c4
            by_cases c5 : p0 = (108 : Int32)
            · replace h := h.1 c5
              refine lv_tableIn (tgt := 64) hx hb dX0_formOf_1 (by rw [c5]; decide) (by rw [c5]; decide) (by rw [c5]; rfl) (by decide) ?_
              refine va_ldcS hx hb hown (E.2.2.2.2.1 0 (by decide)) dX0_formOf_64 ?_
              exact hret (some (sk.1 0)) z H locs 66 ls hw ⟨0, (by decide), rfl, h⟩ dX0_formOf_66
            · replace h := h.2 c5
              have k6 : W p l e (rmq 0 0 0) s m args below meth c H locs 0 0 Q (F0 m 79 ls []) := by
                refine va_ldcS hx hb hown (E.2.2.2.2.1 5 (by decide)) dX0_formOf_79 ?_
                exact hret (some (sk.1 5)) z H locs 81 ls hw ⟨5, (by decide), rfl, h⟩ dX0_formOf_81
              by_cases gk6 : (p0).toInt < 97 ∨ 108 < (p0).toInt
              · exact lv_tableOut (tgt := 79) hx hb dX0_formOf_1 gk6 (by decide) k6
              · have g2 : (p0).toInt = 99 ∨ (p0).toInt = 100 ∨ (p0).toInt = 101 ∨ (p0).toInt = 104 ∨ (p0).toInt = 105 ∨ (p0).toInt = 106 ∨ (p0).toInt = 107 := by have n0 := lv_neT c1 (by decide : ((97 : Int32) : Int32).toInt = 97); have n1 := lv_neT c2 (by decide : ((98 : Int32) : Int32).toInt = 98); have n2 := lv_neT c3 (by decide : ((102 : Int32) : Int32).toInt = 102); have n3 := lv_neT c4 (by decide : ((103 : Int32) : Int32).toInt = 103); have n4 := lv_neT c5 (by decide : ((108 : Int32) : Int32).toInt = 108); omega
                rcases g2 with g2 | g2 | g2 | g2 | g2 | g2 | g2
                · exact lv_tableIn (tgt := 79) hx hb dX0_formOf_1 (by rw [g2]; decide) (by rw [g2]; decide) (by rw [g2]; rfl) (by decide) k6
                · exact lv_tableIn (tgt := 79) hx hb dX0_formOf_1 (by rw [g2]; decide) (by rw [g2]; decide) (by rw [g2]; rfl) (by decide) k6
                · exact lv_tableIn (tgt := 79) hx hb dX0_formOf_1 (by rw [g2]; decide) (by rw [g2]; decide) (by rw [g2]; rfl) (by decide) k6
                · exact lv_tableIn (tgt := 79) hx hb dX0_formOf_1 (by rw [g2]; decide) (by rw [g2]; decide) (by rw [g2]; rfl) (by decide) k6
                · exact lv_tableIn (tgt := 79) hx hb dX0_formOf_1 (by rw [g2]; decide) (by rw [g2]; decide) (by rw [g2]; rfl) (by decide) k6
                · exact lv_tableIn (tgt := 79) hx hb dX0_formOf_1 (by rw [g2]; decide) (by rw [g2]; decide) (by rw [g2]; rfl) (by decide) k6
                · exact lv_tableIn (tgt := 79) hx hb dX0_formOf_1 (by rw [g2]; decide) (by rw [g2]; decide) (by rw [g2]; rfl) (by decide) k6
  exact b00 s.heap [] hw
def V_X0_scan_172 (o0 : Nat) (p1 : Nat) (post : Int32 → ZS → Prop) (rr34 : ZS → Nat → Int32 → Int32 → Int32 → Int32 → Prop) (z : ZS) (v3 : Nat) (v5 : Int32) (v7 : Int32) (v10 : Int32) (s0 : Int32) : Prop := (∀ t23 : Int32, t23 = v7 + (1 : Int32) → rr34 z v3 v10 v5 s0 t23)
def V_X0_scan_171 (o0 : Nat) (p1 : Nat) (post : Int32 → ZS → Prop) (rr34 : ZS → Nat → Int32 → Int32 → Int32 → Int32 → Prop) (z : ZS) (v3 : Nat) (v5 : Int32) (v7 : Int32) (v10 : Int32) : Prop := V_X0_scan_172 o0 p1 post rr34 z v3 v5 v7 v10 (0 : Int32)
def V_X0_scan_153 (o0 : Nat) (p1 : Nat) (post : Int32 → ZS → Prop) (rr34 : ZS → Nat → Int32 → Int32 → Int32 → Int32 → Prop) (z : ZS) (v3 : Nat) (v5 : Int32) (v7 : Int32) (v8 : Int32) (v9 : Int32) (v10 : Int32) : Prop := ((¬ v8 = (115 : Int32) → V_X0_scan_171 o0 p1 post rr34 z v3 v5 v7 v10) ∧ (v8 = (115 : Int32) → ((¬ v9 = (45 : Int32) → V_X0_scan_171 o0 p1 post rr34 z v3 v5 v7 v10) ∧ (v9 = (45 : Int32) → V_X0_scan_172 o0 p1 post rr34 z v3 v5 v7 v10 (1 : Int32)))))
def V_X0_scan_149 (o0 : Nat) (p1 : Nat) (post : Int32 → ZS → Prop) (rr34 : ZS → Nat → Int32 → Int32 → Int32 → Int32 → Prop) (z : ZS) (v3 : Nat) (v5 : Int32) (v7 : Int32) (v8 : Int32) (v9 : Int32) (v10 : Int32) (s1 : Int32) (s2 : Int32) : Prop := (vp_in s1 4 ∧ ∀ z28 : ZS, z28 = wR z o0 9 (Int32.toNatClampNeg s1) s2 → (∀ t29 : Int32, t29 = v5 + (1 : Int32) → V_X0_scan_153 o0 p1 post rr34 z28 v3 t29 v7 v8 v9 v10))
def V_X0_scan_110 (o0 : Nat) (p1 : Nat) (post : Int32 → ZS → Prop) (rr34 : ZS → Nat → Int32 → Int32 → Int32 → Int32 → Prop) (z : ZS) (v3 : Nat) (v4 : Int32) (v5 : Int32) (v6 : Int32) (v7 : Int32) (v8 : Int32) (v9 : Int32) (v10 : Int32) : Prop := (((4 : Int32) ≤ v5 → V_X0_scan_153 o0 p1 post rr34 z v3 v5 v7 v8 v9 v10) ∧ (¬ (4 : Int32) ≤ v5 → V_X0_numberBetween z p1 v4 v10 (fun r26 z25 => ((v6 = 0 → V_X0_scan_149 o0 p1 post rr34 z25 v3 v5 v7 v8 v9 v10 v5 r26) ∧ (¬ v6 = 0 → V_X0_scan_149 o0 p1 post rr34 z25 v3 v5 v7 v8 v9 v10 v5 (-r26))))))
def V_X0_scan_94 (o0 : Nat) (p1 : Nat) (post : Int32 → ZS → Prop) (rr34 : ZS → Nat → Int32 → Int32 → Int32 → Int32 → Prop) (z : ZS) (v3 : Nat) (v4 : Int32) (v5 : Int32) (v6 : Int32) (v7 : Int32) (v8 : Int32) (v9 : Int32) (s0 : Int32) : Prop := ((v8 = (110 : Int32) → V_X0_scan_110 o0 p1 post rr34 z v3 v4 v5 v6 v7 v8 v9 s0) ∧ (¬ v8 = (110 : Int32) → ((¬ v8 = (100 : Int32) → V_X0_scan_153 o0 p1 post rr34 z v3 v5 v7 v8 v9 s0) ∧ (v8 = (100 : Int32) → V_X0_scan_110 o0 p1 post rr34 z v3 v4 v5 v6 v7 v8 v9 s0))))
def V_X0_scan_34 (o0 : Nat) (p1 : Nat) (post : Int32 → ZS → Prop) : Nat → ZS → Nat → Int32 → Int32 → Int32 → Int32 → Prop
  | 0, _, _, _, _, _, _ => False
  | (n + 1), z, v3, v4, v5, v6, v7 => V_J0_length z v3 (fun r9 z10 => ((r9 ≤ v7 → post v4 z10) ∧ (¬ r9 ≤ v7 → V_J0_charAt z10 v3 v7 (fun r12 z13 => V_X9_valueAt z13 p1 v4 (fun r15 z14 => V_X0_isAsFormed z14 r12 r15 (fun r17 z16 => ((¬ r17 = 0 → ((¬ r12 = (110 : Int32) → V_X0_scan_94 o0 p1 post (V_X0_scan_34 o0 p1 post n) z16 v3 v4 v5 v6 v7 r12 r15 (v4 + (1 : Int32))) ∧ (r12 = (110 : Int32) → V_X0_behindNumber z16 p1 v4 (fun r32 z31 => V_X0_scan_94 o0 p1 post (V_X0_scan_34 o0 p1 post n) z31 v3 v4 v5 v6 v7 r12 r15 r32)))) ∧ (r17 = 0 → post (v4 ^^^ (-1 : Int32)) z16))))))))
def V_X0_scan (z : ZS) (o0 : Nat) (p1 : Nat) (p2 : Int32) (post : Int32 → ZS → Prop) : Prop := V_X9_valueAt z p1 p2 (fun r2 z1 => V_X0_formOf z1 r2 (fun i3 z4 => V_J0_isEmpty z4 i3 (fun r5 z6 => ((r5 = 0 → (∀ t8 : Int32, t8 = (p2 + (1 : Int32)) → (∃ n33 : Nat, V_X0_scan_34 o0 p1 post n33 z6 i3 t8 (0 : Int32) (0 : Int32) (0 : Int32)))) ∧ (¬ r5 = 0 → post (p2 ^^^ (-1 : Int32)) z6)))))
set_option maxHeartbeats 4000000 in
set_option maxRecDepth 100000 in
theorem c_X0_scan (l : Launch) (D : va_G) (ad : Nat → Nat → Nat) (cs : Nat → ClassId) (sk : (Nat → Nat) × (Nat → Nat)) (z : ZS) (o0 : Nat) (p1 : Nat) (p2 : Int32) (post : Int32 → ZS → Prop) (ho0 : isA o0) (hp1 : isS p1) (h : V_X0_scan z o0 p1 p2 post) : MI l D ad cs sk yX0_scan cX0_scan 12 .int (rmq 6 0 0) [.ref (ad o0 100), .ref (ad p1 100), .int p2] z post := by
  refine MI.of RX0 rfl (by decide) (Nat.le_of_ble_eq_true rfl) ?_
  intro p e s m args below meth c A Q E hw hA hret ls hl
  have hx := E.1.1
  have hb := E.1.2.1
  have hml := E.1.2.2.1
  have hown := E.1.2.2.2.1
  have h0 := E.1.2.2.2.2
  have hl : lv_has ls 12 [(0, .ref (ad o0 100)), (1, .ref (ad p1 100)), (2, .int p2)] := hl
  unfold V_X0_scan at h
  have b34 : ∀ (n : Nat) (z : ZS) (v3 : Nat) (v4 : Int32) (v5 : Int32) (v6 : Int32) (v7 : Int32), v3 < 6 → ∀ (H : Heap) (locs : List Loc), OW D ad cs A s.heap z H locs → ∀ ls : Array Slot, lv_has ls 12 [(0, .ref (ad o0 100)), (1, .ref (ad p1 100)), (3, .ref (sk.1 v3)), (4, .int v4), (5, .int v5), (6, .int v6), (7, .int v7)] → V_X0_scan_34 o0 p1 post n z v3 v4 v5 v6 v7 → W p l e (rmq 6 0 0) s m args below meth c H locs 0 0 Q (F0 m 34 ls []) := by
    intro n
    induction n with
    | zero =>
      intro z v3 v4 v5 v6 v7 hv3 H locs hw ls hl h
      exact h.elim
    | succ n34x ih34 =>
      have b172 : ∀ (z : ZS) (v3 : Nat) (v5 : Int32) (v7 : Int32) (v10 : Int32) (s0 : Int32), v3 < 6 → ∀ (H : Heap) (locs : List Loc), OW D ad cs A s.heap z H locs → ∀ ls : Array Slot, lv_has ls 12 [(0, .ref (ad o0 100)), (1, .ref (ad p1 100)), (3, .ref (sk.1 v3)), (5, .int v5), (7, .int v7), (10, .int v10)] → V_X0_scan_172 o0 p1 post (V_X0_scan_34 o0 p1 post n34x) z v3 v5 v7 v10 s0 → W p l e (rmq 6 0 0) s m args below meth c H locs 0 0 Q (F0 m 172 ls [.int s0]) := by
        intro z v3 v5 v7 v10 s0 hv3 H locs hw ls hl h
        unfold V_X0_scan_172 at h
        refine lv_istore (lv' := [(6, .int s0), (0, .ref (ad o0 100)), (1, .ref (ad p1 100)), (3, .ref (sk.1 v3)), (5, .int v5), (7, .int v7), (10, .int v10)]) hx hb dX0_scan_172 hl (by decide) rfl (fun ls hl => ?_)
        refine lv_iload hx hb dX0_scan_174 (lv_at hl 6 rfl) ?_
        refine lv_istore (lv' := [(4, .int v10), (6, .int s0), (0, .ref (ad o0 100)), (1, .ref (ad p1 100)), (3, .ref (sk.1 v3)), (5, .int v5), (7, .int v7), (10, .int v10)]) hx hb dX0_scan_176 hl (by decide) rfl (fun ls hl => ?_)
        obtain ⟨t23, et23⟩ : ∃ y : Int32, y = v7 + (1 : Int32) := ⟨_, rfl⟩
        replace h := h t23 et23
        refine lv_iinc (v := t23) (lv' := [(7, .int t23), (4, .int v10), (6, .int s0), (0, .ref (ad o0 100)), (1, .ref (ad p1 100)), (3, .ref (sk.1 v3)), (5, .int v5), (10, .int v10)]) hx hb dX0_scan_178 hl (k := 6) rfl (by rw [et23]; rfl) (by decide) rfl (fun ls hl => ?_)
        refine lv_goto (tgt := 34) hx hb dX0_scan_181 (by decide) ?_
        exact ih34 z v3 v10 v5 s0 t23 hv3 H locs hw ls (lv_sub hl [3, 4, 5, 1, 6, 2, 0] rfl) h
      have b171 : ∀ (z : ZS) (v3 : Nat) (v5 : Int32) (v7 : Int32) (v10 : Int32), v3 < 6 → ∀ (H : Heap) (locs : List Loc), OW D ad cs A s.heap z H locs → ∀ ls : Array Slot, lv_has ls 12 [(0, .ref (ad o0 100)), (1, .ref (ad p1 100)), (3, .ref (sk.1 v3)), (5, .int v5), (7, .int v7), (10, .int v10)] → V_X0_scan_171 o0 p1 post (V_X0_scan_34 o0 p1 post n34x) z v3 v5 v7 v10 → W p l e (rmq 6 0 0) s m args below meth c H locs 0 0 Q (F0 m 171 ls []) := by
        intro z v3 v5 v7 v10 hv3 H locs hw ls hl h
        unfold V_X0_scan_171 at h
        refine lv_iconst (v := 0) hx hb dX0_scan_171 (by decide) ?_
        exact b172 z v3 v5 v7 v10 (0 : Int32) hv3 H locs hw ls (lv_sub hl [0, 1, 2, 3, 4, 5] rfl) h
      have b153 : ∀ (z : ZS) (v3 : Nat) (v5 : Int32) (v7 : Int32) (v8 : Int32) (v9 : Int32) (v10 : Int32), v3 < 6 → ∀ (H : Heap) (locs : List Loc), OW D ad cs A s.heap z H locs → ∀ ls : Array Slot, lv_has ls 12 [(0, .ref (ad o0 100)), (1, .ref (ad p1 100)), (3, .ref (sk.1 v3)), (5, .int v5), (7, .int v7), (8, .int v8), (9, .int v9), (10, .int v10)] → V_X0_scan_153 o0 p1 post (V_X0_scan_34 o0 p1 post n34x) z v3 v5 v7 v8 v9 v10 → W p l e (rmq 6 0 0) s m args below meth c H locs 0 0 Q (F0 m 153 ls []) := by
        intro z v3 v5 v7 v8 v9 v10 hv3 H locs hw ls hl h
        unfold V_X0_scan_153 at h
        refine lv_iload hx hb dX0_scan_153 (lv_at hl 5 rfl) ?_
        refine lv_bipush (v := 115) hx hb dX0_scan_155 (by decide) ?_
        refine lv_icmp_ne (tgt := 171) hx hb dX0_scan_157 (by decide) (fun c22 => ?_) (fun c22 => ?_)
        · replace h := h.1 c22
          exact b171 z v3 v5 v7 v10 hv3 H locs hw ls (lv_sub hl [0, 1, 2, 3, 4, 7] rfl) h
        · replace h := h.2 c22
          refine lv_iload hx hb dX0_scan_160 (lv_at hl 6 rfl) ?_
          refine lv_bipush (v := 45) hx hb dX0_scan_162 (by decide) ?_
          refine lv_icmp_ne (tgt := 171) hx hb dX0_scan_164 (by decide) (fun c24 => ?_) (fun c24 => ?_)
          · replace h := h.1 c24
            exact b171 z v3 v5 v7 v10 hv3 H locs hw ls (lv_sub hl [0, 1, 2, 3, 4, 7] rfl) h
          · replace h := h.2 c24
            refine lv_iconst (v := 1) hx hb dX0_scan_167 (by decide) ?_
            refine lv_goto (tgt := 172) hx hb dX0_scan_168 (by decide) ?_
            exact b172 z v3 v5 v7 v10 (1 : Int32) hv3 H locs hw ls (lv_sub hl [0, 1, 2, 3, 4, 7] rfl) h
      have b149 : ∀ (z : ZS) (v3 : Nat) (v5 : Int32) (v7 : Int32) (v8 : Int32) (v9 : Int32) (v10 : Int32) (s1 : Int32) (s2 : Int32), v3 < 6 → ∀ (H : Heap) (locs : List Loc), OW D ad cs A s.heap z H locs → ∀ ls : Array Slot, lv_has ls 12 [(0, .ref (ad o0 100)), (1, .ref (ad p1 100)), (3, .ref (sk.1 v3)), (5, .int v5), (7, .int v7), (8, .int v8), (9, .int v9), (10, .int v10)] → V_X0_scan_149 o0 p1 post (V_X0_scan_34 o0 p1 post n34x) z v3 v5 v7 v8 v9 v10 s1 s2 → W p l e (rmq 6 0 0) s m args below meth c H locs 0 0 Q (F0 m 149 ls [.int s2, .int s1, .ref (ad o0 9)]) := by
        intro z v3 v5 v7 v8 v9 v10 s1 s2 hv3 H locs hw ls hl h
        unfold V_X0_scan_149 at h
        obtain ⟨hi, h⟩ := h
        refine xas E hw (kyisA_9 ho0) (kaisA_9 ho0) hi dX0_scan_149 (fun z28 ez28 H locs hw => ?_)
        replace h := h z28 ez28
        obtain ⟨t29, et29⟩ : ∃ y : Int32, y = v5 + (1 : Int32) := ⟨_, rfl⟩
        replace h := h t29 et29
        refine lv_iinc (v := t29) (lv' := [(5, .int t29), (0, .ref (ad o0 100)), (1, .ref (ad p1 100)), (3, .ref (sk.1 v3)), (7, .int v7), (8, .int v8), (9, .int v9), (10, .int v10)]) hx hb dX0_scan_150 hl (k := 3) rfl (by rw [et29]; rfl) (by decide) rfl (fun ls hl => ?_)
        exact b153 z28 v3 t29 v7 v8 v9 v10 hv3 H locs hw ls (lv_sub hl [1, 2, 3, 0, 4, 5, 6, 7] rfl) h
      have b110 : ∀ (z : ZS) (v3 : Nat) (v4 : Int32) (v5 : Int32) (v6 : Int32) (v7 : Int32) (v8 : Int32) (v9 : Int32) (v10 : Int32), v3 < 6 → ∀ (H : Heap) (locs : List Loc), OW D ad cs A s.heap z H locs → ∀ ls : Array Slot, lv_has ls 12 [(0, .ref (ad o0 100)), (1, .ref (ad p1 100)), (3, .ref (sk.1 v3)), (4, .int v4), (5, .int v5), (6, .int v6), (7, .int v7), (8, .int v8), (9, .int v9), (10, .int v10)] → V_X0_scan_110 o0 p1 post (V_X0_scan_34 o0 p1 post n34x) z v3 v4 v5 v6 v7 v8 v9 v10 → W p l e (rmq 6 0 0) s m args below meth c H locs 0 0 Q (F0 m 110 ls []) := by
        intro z v3 v4 v5 v6 v7 v8 v9 v10 hv3 H locs hw ls hl h
        unfold V_X0_scan_110 at h
        refine lv_iload hx hb dX0_scan_110 (lv_at hl 4 rfl) ?_
        refine lv_aload_n hx hb dX0_scan_112 rfl (lv_at hl 0 rfl) ?_
        refine xgC E hw (c1 := 0) (t := (o0, 9)) (ciisA ho0) (kyisA_100 ho0) fo_0_9 rfl qf_0_43 dX0_scan_113 ?_
        refine xln E hw (kyisA_9 ho0) (kaisA_9 ho0) (v := 4) rfl dX0_scan_116 ?_
        refine lv_icmp_ge (tgt := 153) hx hb dX0_scan_117 (by decide) (fun c21 => ?_) (fun c21 => ?_)
        · replace h := h.1 c21
          exact b153 z v3 v5 v7 v8 v9 v10 hv3 H locs hw ls (lv_sub hl [0, 1, 2, 4, 6, 7, 8, 9] rfl) h
        · replace h := h.2 c21
          refine lv_aload_n hx hb dX0_scan_120 rfl (lv_at hl 1 rfl) ?_
          refine lv_iload hx hb dX0_scan_121 (lv_at hl 3 rfl) ?_
          refine lv_iload hx hb dX0_scan_123 (lv_at hl 9 rfl) ?_
          have hq := h
          clear h
          refine xcSI (As := [.ref (ad p1 100), .int v4, .int v10]) (rest := []) E hw hA (c_X0_numberBetween l D ad cs sk z p1 v4 v10 _ hp1 hq) kc_0_102 yo_X0_numberBetween ⟨Nat.le_of_ble_eq_true rfl, Nat.le_of_ble_eq_true rfl⟩ rfl hl.1 rfl (Nat.le_of_ble_eq_true rfl) dX0_scan_125 ⟨Nat.le_of_ble_eq_true rfl, Nat.le_of_ble_eq_true rfl⟩ (fun r26 z25 H locs h hw => ?_)
          refine lv_istore (lv' := [(11, .int r26), (0, .ref (ad o0 100)), (1, .ref (ad p1 100)), (3, .ref (sk.1 v3)), (4, .int v4), (5, .int v5), (6, .int v6), (7, .int v7), (8, .int v8), (9, .int v9), (10, .int v10)]) hx hb dX0_scan_128 hl (by decide) rfl (fun ls hl => ?_)
          refine lv_aload_n hx hb dX0_scan_130 rfl (lv_at hl 1 rfl) ?_
          refine xgC E hw (c1 := 0) (t := (o0, 9)) (ciisA ho0) (kyisA_100 ho0) fo_0_9 rfl qf_0_43 dX0_scan_131 ?_
          refine lv_iload hx hb dX0_scan_134 (lv_at hl 5 rfl) ?_
          refine lv_iload hx hb dX0_scan_136 (lv_at hl 6 rfl) ?_
          refine lv_if_eq (tgt := 147) hx hb dX0_scan_138 (by decide) (fun c27 => ?_) (fun c27 => ?_)
          · replace h := h.1 c27
            refine lv_iload hx hb dX0_scan_147 (lv_at hl 0 rfl) ?_
            exact b149 z25 v3 v5 v7 v8 v9 v10 v5 r26 hv3 H locs hw ls (lv_sub hl [1, 2, 3, 5, 7, 8, 9, 10] rfl) h
          · replace h := h.2 c27
            refine lv_iload hx hb dX0_scan_141 (lv_at hl 0 rfl) ?_
            refine lv_ineg hx hb dX0_scan_143 ?_
            refine lv_goto (tgt := 149) hx hb dX0_scan_144 (by decide) ?_
            exact b149 z25 v3 v5 v7 v8 v9 v10 v5 (-r26) hv3 H locs hw ls (lv_sub hl [1, 2, 3, 5, 7, 8, 9, 10] rfl) h
      have b94 : ∀ (z : ZS) (v3 : Nat) (v4 : Int32) (v5 : Int32) (v6 : Int32) (v7 : Int32) (v8 : Int32) (v9 : Int32) (s0 : Int32), v3 < 6 → ∀ (H : Heap) (locs : List Loc), OW D ad cs A s.heap z H locs → ∀ ls : Array Slot, lv_has ls 12 [(0, .ref (ad o0 100)), (1, .ref (ad p1 100)), (3, .ref (sk.1 v3)), (4, .int v4), (5, .int v5), (6, .int v6), (7, .int v7), (8, .int v8), (9, .int v9)] → V_X0_scan_94 o0 p1 post (V_X0_scan_34 o0 p1 post n34x) z v3 v4 v5 v6 v7 v8 v9 s0 → W p l e (rmq 6 0 0) s m args below meth c H locs 0 0 Q (F0 m 94 ls [.int s0]) := by
        intro z v3 v4 v5 v6 v7 v8 v9 s0 hv3 H locs hw ls hl h
        unfold V_X0_scan_94 at h
        refine lv_istore (lv' := [(10, .int s0), (0, .ref (ad o0 100)), (1, .ref (ad p1 100)), (3, .ref (sk.1 v3)), (4, .int v4), (5, .int v5), (6, .int v6), (7, .int v7), (8, .int v8), (9, .int v9)]) hx hb dX0_scan_94 hl (by decide) rfl (fun ls hl => ?_)
        refine lv_iload hx hb dX0_scan_96 (lv_at hl 8 rfl) ?_
        refine lv_bipush (v := 110) hx hb dX0_scan_98 (by decide) ?_
        refine lv_icmp_eq (tgt := 110) hx hb dX0_scan_100 (by decide) (fun c20 => ?_) (fun c20 => ?_)
        · replace h := h.1 c20
          exact b110 z v3 v4 v5 v6 v7 v8 v9 s0 hv3 H locs hw ls (lv_sub hl [1, 2, 3, 4, 5, 6, 7, 8, 9, 0] rfl) h
        · replace h := h.2 c20
          refine lv_iload hx hb dX0_scan_103 (lv_at hl 8 rfl) ?_
          refine lv_bipush (v := 100) hx hb dX0_scan_105 (by decide) ?_
          refine lv_icmp_ne (tgt := 153) hx hb dX0_scan_107 (by decide) (fun c30 => ?_) (fun c30 => ?_)
          · replace h := h.1 c30
            exact b153 z v3 v5 v7 v8 v9 s0 hv3 H locs hw ls (lv_sub hl [1, 2, 3, 5, 7, 8, 9, 0] rfl) h
          · replace h := h.2 c30
            exact b110 z v3 v4 v5 v6 v7 v8 v9 s0 hv3 H locs hw ls (lv_sub hl [1, 2, 3, 4, 5, 6, 7, 8, 9, 0] rfl) h
      intro z v3 v4 v5 v6 v7 hv3 H locs hw ls hl h
      unfold V_X0_scan_34 at h
      refine lv_iload hx hb dX0_scan_34 (lv_at hl 6 rfl) ?_
      refine lv_aload_n hx hb dX0_scan_36 rfl (lv_at hl 2 rfl) ?_
      have hq := h
      clear h
      refine xcVI (As := []) (rest := [.int v7]) E hw hA (c_J0_length l D ad cs sk z v3 _ hv3 hq) kj_RX0_87 yj_length ⟨Nat.le_of_ble_eq_true rfl, Nat.le_of_ble_eq_true rfl⟩ (vk_recv E.2.2.1 hv3 hw.2.2) rfl hl.1 rfl (Nat.le_of_ble_eq_true rfl) dX0_scan_37 ⟨Nat.le_of_ble_eq_true rfl, Nat.le_of_ble_eq_true rfl⟩ (fun r9 z10 H locs h hw => ?_)
      refine lv_icmp_ge (tgt := 184) hx hb dX0_scan_40 (by decide) (fun c11 => ?_) (fun c11 => ?_)
      · replace h := h.1 c11
        refine lv_iload hx hb dX0_scan_184 (lv_at hl 3 rfl) ?_
        exact hret v4 z10 H locs 186 ls hw rfl h dX0_scan_186
      · replace h := h.2 c11
        refine lv_aload_n hx hb dX0_scan_43 rfl (lv_at hl 2 rfl) ?_
        refine lv_iload hx hb dX0_scan_44 (lv_at hl 6 rfl) ?_
        have hq := h
        clear h
        refine xcVI (As := [.int v7]) (rest := []) E hw hA (c_J0_charAt l D ad cs sk z10 v3 v7 _ hv3 hq) kj_RX0_91 yj_charAt ⟨Nat.le_of_ble_eq_true rfl, Nat.le_of_ble_eq_true rfl⟩ (vk_recv E.2.2.1 hv3 hw.2.2) rfl hl.1 rfl (Nat.le_of_ble_eq_true rfl) dX0_scan_46 ⟨Nat.le_of_ble_eq_true rfl, Nat.le_of_ble_eq_true rfl⟩ (fun r12 z13 H locs h hw => ?_)
        refine lv_istore (lv' := [(8, .int r12), (0, .ref (ad o0 100)), (1, .ref (ad p1 100)), (3, .ref (sk.1 v3)), (4, .int v4), (5, .int v5), (6, .int v6), (7, .int v7)]) hx hb dX0_scan_49 hl (by decide) rfl (fun ls hl => ?_)
        refine lv_aload_n hx hb dX0_scan_51 rfl (lv_at hl 2 rfl) ?_
        refine lv_iload hx hb dX0_scan_52 (lv_at hl 4 rfl) ?_
        have hq := h
        clear h
        refine xcVI (As := [.int v4]) (rest := []) E hw hA (c_X9_valueAt l D ad cs sk z13 p1 v4 _ hp1 hq) kc_0_65 yo_X9_valueAt ⟨Nat.le_of_ble_eq_true rfl, Nat.le_of_ble_eq_true rfl⟩ (xrc E hw (kyisS_100 hp1) (ciisS hp1)) rfl hl.1 rfl (Nat.le_of_ble_eq_true rfl) dX0_scan_54 ⟨Nat.le_of_ble_eq_true rfl, Nat.le_of_ble_eq_true rfl⟩ (fun r15 z14 H locs h hw => ?_)
        refine lv_istore (lv' := [(9, .int r15), (8, .int r12), (0, .ref (ad o0 100)), (1, .ref (ad p1 100)), (3, .ref (sk.1 v3)), (4, .int v4), (5, .int v5), (6, .int v6), (7, .int v7)]) hx hb dX0_scan_57 hl (by decide) rfl (fun ls hl => ?_)
        refine lv_iload hx hb dX0_scan_59 (lv_at hl 1 rfl) ?_
        refine lv_iload hx hb dX0_scan_61 (lv_at hl 0 rfl) ?_
        have hq := h
        clear h
        refine xcSI (As := [.int r12, .int r15]) (rest := []) E hw hA (c_X0_isAsFormed l D ad cs sk z14 r12 r15 _ hq) kc_0_95 yo_X0_isAsFormed ⟨Nat.le_of_ble_eq_true rfl, Nat.le_of_ble_eq_true rfl⟩ rfl hl.1 rfl (Nat.le_of_ble_eq_true rfl) dX0_scan_63 ⟨Nat.le_of_ble_eq_true rfl, Nat.le_of_ble_eq_true rfl⟩ (fun r17 z16 H locs h hw => ?_)
        refine lv_if_ne (tgt := 74) hx hb dX0_scan_66 (by decide) (fun c18 => ?_) (fun c18 => ?_)
        · replace h := h.1 c18
          refine lv_iload hx hb dX0_scan_74 (lv_at hl 1 rfl) ?_
          refine lv_bipush (v := 110) hx hb dX0_scan_76 (by decide) ?_
          refine lv_icmp_ne (tgt := 90) hx hb dX0_scan_78 (by decide) (fun c19 => ?_) (fun c19 => ?_)
          · replace h := h.1 c19
            refine lv_iload hx hb dX0_scan_90 (lv_at hl 5 rfl) ?_
            refine lv_iconst (v := 1) hx hb dX0_scan_92 (by decide) ?_
            refine lv_iadd hx hb dX0_scan_93 ?_
            exact b94 z16 v3 v4 v5 v6 v7 r12 r15 (v4 + (1 : Int32)) hv3 H locs hw ls (lv_sub hl [2, 3, 4, 5, 6, 7, 8, 1, 0] rfl) h
          · replace h := h.2 c19
            refine lv_aload_n hx hb dX0_scan_81 rfl (lv_at hl 3 rfl) ?_
            refine lv_iload hx hb dX0_scan_82 (lv_at hl 5 rfl) ?_
            have hq := h
            clear h
            refine xcSI (As := [.ref (ad p1 100), .int v4]) (rest := []) E hw hA (c_X0_behindNumber l D ad cs sk z16 p1 v4 _ hp1 hq) kc_0_99 yo_X0_behindNumber ⟨Nat.le_of_ble_eq_true rfl, Nat.le_of_ble_eq_true rfl⟩ rfl hl.1 rfl (Nat.le_of_ble_eq_true rfl) dX0_scan_84 ⟨Nat.le_of_ble_eq_true rfl, Nat.le_of_ble_eq_true rfl⟩ (fun r32 z31 H locs h hw => ?_)
            refine lv_goto (tgt := 94) hx hb dX0_scan_87 (by decide) ?_
            exact b94 z31 v3 v4 v5 v6 v7 r12 r15 r32 hv3 H locs hw ls (lv_sub hl [2, 3, 4, 5, 6, 7, 8, 1, 0] rfl) h
        · replace h := h.2 c18
          refine lv_iload hx hb dX0_scan_69 (lv_at hl 5 rfl) ?_
          refine lv_iconst (v := -1) hx hb dX0_scan_71 (by decide) ?_
          refine lv_ixor hx hb dX0_scan_72 ?_
          exact hret (v4 ^^^ (-1 : Int32)) z16 H locs 73 ls hw rfl h dX0_scan_73
  have b00 : ∀ (H : Heap) (locs : List Loc), OW D ad cs A s.heap z H locs → W p l e (rmq 6 0 0) s m args below meth c H locs 0 0 Q (F0 m 0 ls []) := by
    intro H locs hw
    refine lv_aload_n hx hb dX0_scan_0 rfl (lv_at hl 1 rfl) ?_
    refine lv_iload_n hx hb dX0_scan_1 rfl (lv_at hl 2 rfl) ?_
    have hq := h
    clear h
    refine xcVI (As := [.int p2]) (rest := []) E hw hA (c_X9_valueAt l D ad cs sk z p1 p2 _ hp1 hq) kc_0_65 yo_X9_valueAt ⟨Nat.le_of_ble_eq_true rfl, Nat.le_of_ble_eq_true rfl⟩ (xrc E hw (kyisS_100 hp1) (ciisS hp1)) rfl hl.1 rfl (Nat.le_of_ble_eq_true rfl) dX0_scan_2 ⟨Nat.le_of_ble_eq_true rfl, Nat.le_of_ble_eq_true rfl⟩ (fun r2 z1 H locs h hw => ?_)
    have hq := h
    clear h
    refine xcSA (As := [.int r2]) (rest := []) E hw hA (c_X0_formOf l D ad cs sk z1 r2 _ hq) kc_0_77 yo_X0_formOf ⟨Nat.le_of_ble_eq_true rfl, Nat.le_of_ble_eq_true rfl⟩ rfl hl.1 rfl (Nat.le_of_ble_eq_true rfl) dX0_scan_5 ⟨Nat.le_of_ble_eq_true rfl, Nat.le_of_ble_eq_true rfl⟩ (fun r z4 H locs h hw => ?_)
    obtain ⟨i3, hi3, rfl, h⟩ := h
    refine lv_astore_n (lv' := [(3, .ref (sk.1 i3)), (0, .ref (ad o0 100)), (1, .ref (ad p1 100)), (2, .int p2)]) hx hb dX0_scan_8 rfl hl (by decide) rfl (fun ls hl => ?_)
    refine lv_aload_n hx hb dX0_scan_9 rfl (lv_at hl 0 rfl) ?_
    have hq := h
    clear h
    refine xcVI (As := []) (rest := []) E hw hA (c_J0_isEmpty l D ad cs sk z4 i3 _ hi3 hq) kj_RX0_81 yj_isEmpty ⟨Nat.le_of_ble_eq_true rfl, Nat.le_of_ble_eq_true rfl⟩ (vk_recv E.2.2.1 hi3 hw.2.2) rfl hl.1 rfl (Nat.le_of_ble_eq_true rfl) dX0_scan_10 ⟨Nat.le_of_ble_eq_true rfl, Nat.le_of_ble_eq_true rfl⟩ (fun r5 z6 H locs h hw => ?_)
    refine lv_if_eq (tgt := 20) hx hb dX0_scan_13 (by decide) (fun c7 => ?_) (fun c7 => ?_)
    · replace h := h.1 c7
      refine lv_iload_n hx hb dX0_scan_20 rfl (lv_at hl 3 rfl) ?_
      refine lv_iconst (v := 1) hx hb dX0_scan_21 (by decide) ?_
      refine lv_iadd hx hb dX0_scan_22 ?_
      refine lv_topi (fun t8 et8 => ?_)
      replace h := h t8 et8
      refine lv_istore (lv' := [(4, .int t8), (3, .ref (sk.1 i3)), (0, .ref (ad o0 100)), (1, .ref (ad p1 100)), (2, .int p2)]) hx hb dX0_scan_23 hl (by decide) rfl (fun ls hl => ?_)
      refine lv_iconst (v := 0) hx hb dX0_scan_25 (by decide) ?_
      refine lv_istore (lv' := [(5, .int (0 : Int32)), (4, .int t8), (3, .ref (sk.1 i3)), (0, .ref (ad o0 100)), (1, .ref (ad p1 100)), (2, .int p2)]) hx hb dX0_scan_26 hl (by decide) rfl (fun ls hl => ?_)
      refine lv_iconst (v := 0) hx hb dX0_scan_28 (by decide) ?_
      refine lv_istore (lv' := [(6, .int (0 : Int32)), (5, .int (0 : Int32)), (4, .int t8), (3, .ref (sk.1 i3)), (0, .ref (ad o0 100)), (1, .ref (ad p1 100)), (2, .int p2)]) hx hb dX0_scan_29 hl (by decide) rfl (fun ls hl => ?_)
      refine lv_iconst (v := 0) hx hb dX0_scan_31 (by decide) ?_
      refine lv_istore (lv' := [(7, .int (0 : Int32)), (6, .int (0 : Int32)), (5, .int (0 : Int32)), (4, .int t8), (3, .ref (sk.1 i3)), (0, .ref (ad o0 100)), (1, .ref (ad p1 100)), (2, .int p2)]) hx hb dX0_scan_32 hl (by decide) rfl (fun ls hl => ?_)
      obtain ⟨n33, h⟩ := h
      exact b34 n33 z6 i3 t8 (0 : Int32) (0 : Int32) (0 : Int32) hi3 H locs hw ls (lv_sub hl [5, 6, 4, 3, 2, 1, 0] rfl) h
    · replace h := h.2 c7
      refine lv_iload_n hx hb dX0_scan_16 rfl (lv_at hl 3 rfl) ?_
      refine lv_iconst (v := -1) hx hb dX0_scan_17 (by decide) ?_
      refine lv_ixor hx hb dX0_scan_18 ?_
      exact hret (p2 ^^^ (-1 : Int32)) z6 H locs 19 ls hw rfl h dX0_scan_19
  exact b00 s.heap [] hw
def V_X0_readFrom_93 (o0 : Nat) (p1 : Nat) (post : Int32 → ZS → Prop) (z : ZS) (v2 : Int32) (v4 : Int32) : Prop := ((0 ≤ v4 → post ((-2000 : Int32) - v4) z) ∧ (¬ 0 ≤ v4 → post v2 z))
def V_X0_readFrom_84 (o0 : Nat) (p1 : Nat) (post : Int32 → ZS → Prop) (rr7 : ZS → Int32 → Int32 → Int32 → Prop) (z : ZS) (v2 : Int32) (v4 : Int32) (v5 : Int32) : Prop := (∀ t9 : Int32, t9 = v2 + (1 : Int32) → rr7 z t9 v5 v4)
def V_X0_readFrom_76 (o0 : Nat) (p1 : Nat) (post : Int32 → ZS → Prop) (rr7 : ZS → Int32 → Int32 → Int32 → Prop) (z : ZS) (v2 : Int32) (v3 : Int32) (v4 : Int32) (v5 : Int32) : Prop := ((0 ≤ v4 → V_X0_readFrom_84 o0 p1 post rr7 z v2 v4 v5) ∧ (¬ 0 ≤ v4 → V_X0_readFrom_84 o0 p1 post rr7 z v2 v3 v5))
def V_X0_readFrom_25 (o0 : Nat) (p1 : Nat) (post : Int32 → ZS → Prop) (rr7 : ZS → Int32 → Int32 → Int32 → Prop) (z : ZS) (v2 : Int32) (v3 : Int32) (v4 : Int32) : Prop := V_X0_scan z o0 p1 v3 (fun r5 z4 => ((0 ≤ r5 → ((0 ≤ v4 → V_X0_readFrom_76 o0 p1 post rr7 z4 v2 v3 v4 r5) ∧ (¬ 0 ≤ v4 → V_X9_valueAt z4 p1 v3 (fun r11 z10 => V_X0_isAsTold z10 o0 r11 (fun r13 z12 => ((r13 = 0 → V_X0_readFrom_76 o0 p1 post rr7 z12 v2 v3 v4 r5) ∧ (¬ r13 = 0 → V_X9_valueAt z12 p1 v3 (fun r16 z15 => V_X0_takeUp z15 o0 r16 (fun z17 => V_X0_readFrom_84 o0 p1 post rr7 z17 v2 v4 r5))))))))) ∧ (¬ 0 ≤ r5 → post ((-1000 : Int32) - (r5 ^^^ (-1 : Int32))) z4)))
def V_X0_readFrom_7 (o0 : Nat) (p1 : Nat) (post : Int32 → ZS → Prop) : Nat → ZS → Int32 → Int32 → Int32 → Prop
  | 0, _, _, _, _ => False
  | (n + 1), z, v2, v3, v4 => (((100 : Int32) ≤ v2 → V_X0_readFrom_93 o0 p1 post z v2 v4) ∧ (¬ (100 : Int32) ≤ v2 → ((v2 = 0 → V_X0_readFrom_25 o0 p1 post (V_X0_readFrom_7 o0 p1 post n) z v2 v3 v4) ∧ (¬ v2 = 0 → (((zI z p1 3) ≤ v3 → V_X0_readFrom_93 o0 p1 post z v2 v4) ∧ (¬ (zI z p1 3) ≤ v3 → V_X0_readFrom_25 o0 p1 post (V_X0_readFrom_7 o0 p1 post n) z v2 v3 v4))))))
def V_X0_readFrom (z : ZS) (o0 : Nat) (p1 : Nat) (post : Int32 → ZS → Prop) : Prop := (∃ n20 : Nat, n20 ≤ 101 ∧ V_X0_readFrom_7 o0 p1 post n20 z (0 : Int32) (0 : Int32) (-1 : Int32))
set_option maxHeartbeats 4000000 in
set_option maxRecDepth 100000 in
theorem c_X0_readFrom (l : Launch) (D : va_G) (ad : Nat → Nat → Nat) (cs : Nat → ClassId) (sk : (Nat → Nat) × (Nat → Nat)) (z : ZS) (o0 : Nat) (p1 : Nat) (post : Int32 → ZS → Prop) (ho0 : isA o0) (hp1 : isS p1) (h : V_X0_readFrom z o0 p1 post) : MI l D ad cs sk yX0_readFrom cX0_readFrom 6 .int (rmq 7 101 808) [.ref (ad o0 100), .ref (ad p1 100)] z post := by
  refine MI.of RX0 rfl (by decide) (Nat.le_of_ble_eq_true rfl) ?_
  intro p e s m args below meth c A Q E hw hA hret ls hl
  have hx := E.1.1
  have hb := E.1.2.1
  have hml := E.1.2.2.1
  have hown := E.1.2.2.2.1
  have h0 := E.1.2.2.2.2
  have hl : lv_has ls 6 [(0, .ref (ad o0 100)), (1, .ref (ad p1 100))] := hl
  unfold V_X0_readFrom at h
  have b93 : ∀ (z : ZS) (v2 : Int32) (v4 : Int32), ∀ (H : Heap) (locs : List Loc), OW D ad cs A s.heap z H locs → ∀ ls : Array Slot, lv_has ls 6 [(2, .int v2), (4, .int v4)] → V_X0_readFrom_93 o0 p1 post z v2 v4 → W p l e (rmq 7 101 808) s m args below meth c H locs 101 808 Q (F0 m 93 ls []) := by
    intro z v2 v4 H locs hw ls hl h
    unfold V_X0_readFrom_93 at h
    refine lv_iload hx hb dX0_readFrom_93 (lv_at hl 1 rfl) ?_
    refine lv_if_ge (tgt := 102) hx hb dX0_readFrom_95 (by decide) (fun c2 => ?_) (fun c2 => ?_)
    · replace h := h.1 c2
      refine lv_sipush (v := -2000) hx hb dX0_readFrom_102 (by decide) ?_
      refine lv_iload hx hb dX0_readFrom_105 (lv_at hl 1 rfl) ?_
      refine lv_isub hx hb dX0_readFrom_107 ?_
      exact W.widen (by first | omega | (simp only [rmq]; omega)) (by first | omega | (simp only [rmq]; omega)) (hret ((-2000 : Int32) - v4) z H locs 108 ls hw rfl h dX0_readFrom_108)
    · replace h := h.2 c2
      refine lv_iload_n hx hb dX0_readFrom_98 rfl (lv_at hl 0 rfl) ?_
      refine lv_goto (tgt := 108) hx hb dX0_readFrom_99 (by decide) ?_
      exact W.widen (by first | omega | (simp only [rmq]; omega)) (by first | omega | (simp only [rmq]; omega)) (hret v2 z H locs 108 ls hw rfl h dX0_readFrom_108)
  have b7 : ∀ (n : Nat), n ≤ 101 → ∀ (z : ZS) (v2 : Int32) (v3 : Int32) (v4 : Int32), ∀ (H : Heap) (locs : List Loc), OW D ad cs A s.heap z H locs → ∀ ls : Array Slot, lv_has ls 6 [(0, .ref (ad o0 100)), (1, .ref (ad p1 100)), (2, .int v2), (3, .int v3), (4, .int v4)] → V_X0_readFrom_7 o0 p1 post n z v2 v3 v4 → W p l e (rmq 7 101 808) s m args below meth c H locs ((101 - n) * 1) ((101 - n) * 8) Q (F0 m 7 ls []) := by
    intro n
    induction n with
    | zero =>
      intro hN
      intro z v2 v3 v4 H locs hw ls hl h
      exact h.elim
    | succ n7x ih7 =>
      intro hN
      have b84 : ∀ (z : ZS) (v2 : Int32) (v4 : Int32) (v5 : Int32), ∀ (H : Heap) (locs : List Loc), OW D ad cs A s.heap z H locs → ∀ ls : Array Slot, lv_has ls 6 [(0, .ref (ad o0 100)), (1, .ref (ad p1 100)), (2, .int v2), (4, .int v4), (5, .int v5)] → V_X0_readFrom_84 o0 p1 post (V_X0_readFrom_7 o0 p1 post n7x) z v2 v4 v5 → W p l e (rmq 7 101 808) s m args below meth c H locs ((101 - n7x) * 1) ((101 - n7x) * 8) Q (F0 m 84 ls []) := by
        intro z v2 v4 v5 H locs hw ls hl h
        unfold V_X0_readFrom_84 at h
        refine lv_iload hx hb dX0_readFrom_84 (lv_at hl 4 rfl) ?_
        refine lv_istore_n (lv' := [(3, .int v5), (0, .ref (ad o0 100)), (1, .ref (ad p1 100)), (2, .int v2), (4, .int v4), (5, .int v5)]) hx hb dX0_readFrom_86 rfl hl (by decide) rfl (fun ls hl => ?_)
        obtain ⟨t9, et9⟩ : ∃ y : Int32, y = v2 + (1 : Int32) := ⟨_, rfl⟩
        replace h := h t9 et9
        refine lv_iinc (v := t9) (lv' := [(2, .int t9), (3, .int v5), (0, .ref (ad o0 100)), (1, .ref (ad p1 100)), (4, .int v4), (5, .int v5)]) hx hb dX0_readFrom_87 hl (k := 3) rfl (by rw [et9]; rfl) (by decide) rfl (fun ls hl => ?_)
        refine lv_goto (tgt := 7) hx hb dX0_readFrom_90 (by decide) ?_
        exact W.widen (by first | omega | (simp only [rmq]; omega)) (by first | omega | (simp only [rmq]; omega)) (ih7 (by omega) z t9 v5 v4 H locs hw ls (lv_sub hl [2, 3, 0, 1, 4] rfl) h)
      have b76 : ∀ (z : ZS) (v2 : Int32) (v3 : Int32) (v4 : Int32) (v5 : Int32), ∀ (H : Heap) (locs : List Loc), OW D ad cs A s.heap z H locs → ∀ ls : Array Slot, lv_has ls 6 [(0, .ref (ad o0 100)), (1, .ref (ad p1 100)), (2, .int v2), (3, .int v3), (4, .int v4), (5, .int v5)] → V_X0_readFrom_76 o0 p1 post (V_X0_readFrom_7 o0 p1 post n7x) z v2 v3 v4 v5 → W p l e (rmq 7 101 808) s m args below meth c H locs ((101 - (n7x + 1)) * 1) ((101 - (n7x + 1)) * 8) Q (F0 m 76 ls []) := by
        intro z v2 v3 v4 v5 H locs hw ls hl h
        unfold V_X0_readFrom_76 at h
        refine lv_iload hx hb dX0_readFrom_76 (lv_at hl 4 rfl) ?_
        refine lv_if_ge (tgt := 84) hx hb dX0_readFrom_78 (by decide) (fun c8 => ?_) (fun c8 => ?_)
        · replace h := h.1 c8
          exact W.widen (by first | omega | (simp only [rmq]; omega)) (by first | omega | (simp only [rmq]; omega)) (b84 z v2 v4 v5 H locs hw ls (lv_sub hl [0, 1, 2, 4, 5] rfl) h)
        · replace h := h.2 c8
          refine lv_iload_n hx hb dX0_readFrom_81 rfl (lv_at hl 3 rfl) ?_
          refine lv_istore (lv' := [(4, .int v3), (0, .ref (ad o0 100)), (1, .ref (ad p1 100)), (2, .int v2), (3, .int v3), (5, .int v5)]) hx hb dX0_readFrom_82 hl (by decide) rfl (fun ls hl => ?_)
          exact W.widen (by first | omega | (simp only [rmq]; omega)) (by first | omega | (simp only [rmq]; omega)) (b84 z v2 v3 v5 H locs hw ls (lv_sub hl [1, 2, 3, 0, 5] rfl) h)
      have b25 : ∀ (z : ZS) (v2 : Int32) (v3 : Int32) (v4 : Int32), ∀ (H : Heap) (locs : List Loc), OW D ad cs A s.heap z H locs → ∀ ls : Array Slot, lv_has ls 6 [(0, .ref (ad o0 100)), (1, .ref (ad p1 100)), (2, .int v2), (3, .int v3), (4, .int v4)] → V_X0_readFrom_25 o0 p1 post (V_X0_readFrom_7 o0 p1 post n7x) z v2 v3 v4 → W p l e (rmq 7 101 808) s m args below meth c H locs ((101 - (n7x + 1)) * 1) ((101 - (n7x + 1)) * 8) Q (F0 m 25 ls []) := by
        intro z v2 v3 v4 H locs hw ls hl h
        unfold V_X0_readFrom_25 at h
        refine lv_aload_n hx hb dX0_readFrom_25 rfl (lv_at hl 0 rfl) ?_
        refine lv_aload_n hx hb dX0_readFrom_26 rfl (lv_at hl 1 rfl) ?_
        refine lv_iload_n hx hb dX0_readFrom_27 rfl (lv_at hl 3 rfl) ?_
        have hq := h
        clear h
        refine xcVI (As := [.ref (ad p1 100), .int v3]) (rest := []) E hw hA (c_X0_scan l D ad cs sk z o0 p1 v3 _ ho0 hp1 hq) kc_0_61 yo_X0_scan ⟨Nat.le_of_ble_eq_true rfl, Nat.le_of_ble_eq_true rfl⟩ (xrc E hw (kyisA_100 ho0) (ciisA ho0)) rfl hl.1 rfl (Nat.le_of_ble_eq_true rfl) dX0_readFrom_28 ⟨by simp only [rmq]; omega, by simp only [rmq]; omega⟩ (fun r5 z4 H locs h hw => ?_)
        refine lv_istore (lv' := [(5, .int r5), (0, .ref (ad o0 100)), (1, .ref (ad p1 100)), (2, .int v2), (3, .int v3), (4, .int v4)]) hx hb dX0_readFrom_31 hl (by decide) rfl (fun ls hl => ?_)
        refine lv_iload hx hb dX0_readFrom_33 (lv_at hl 0 rfl) ?_
        refine lv_if_ge (tgt := 47) hx hb dX0_readFrom_35 (by decide) (fun c6 => ?_) (fun c6 => ?_)
        · replace h := h.1 c6
          refine lv_iload hx hb dX0_readFrom_47 (lv_at hl 5 rfl) ?_
          refine lv_if_ge (tgt := 76) hx hb dX0_readFrom_49 (by decide) (fun c7 => ?_) (fun c7 => ?_)
          · replace h := h.1 c7
            exact W.widen (by first | omega | (simp only [rmq]; omega)) (by first | omega | (simp only [rmq]; omega)) (b76 z4 v2 v3 v4 r5 H locs hw ls (lv_sub hl [1, 2, 3, 4, 5, 0] rfl) h)
          · replace h := h.2 c7
            refine lv_aload_n hx hb dX0_readFrom_52 rfl (lv_at hl 1 rfl) ?_
            refine lv_aload_n hx hb dX0_readFrom_53 rfl (lv_at hl 2 rfl) ?_
            refine lv_iload_n hx hb dX0_readFrom_54 rfl (lv_at hl 4 rfl) ?_
            have hq := h
            clear h
            refine xcVI (As := [.int v3]) (rest := [.ref (ad o0 100)]) E hw hA (c_X9_valueAt l D ad cs sk z4 p1 v3 _ hp1 hq) kc_0_65 yo_X9_valueAt ⟨Nat.le_of_ble_eq_true rfl, Nat.le_of_ble_eq_true rfl⟩ (xrc E hw (kyisS_100 hp1) (ciisS hp1)) rfl hl.1 rfl (Nat.le_of_ble_eq_true rfl) dX0_readFrom_55 ⟨by simp only [rmq]; omega, by simp only [rmq]; omega⟩ (fun r11 z10 H locs h hw => ?_)
            have hq := h
            clear h
            refine xcVI (As := [.int r11]) (rest := []) E hw hA (c_X0_isAsTold l D ad cs sk z10 o0 r11 _ ho0 hq) kc_0_69 yo_X0_isAsTold ⟨Nat.le_of_ble_eq_true rfl, Nat.le_of_ble_eq_true rfl⟩ (xrc E hw (kyisA_100 ho0) (ciisA ho0)) rfl hl.1 rfl (Nat.le_of_ble_eq_true rfl) dX0_readFrom_58 ⟨by simp only [rmq]; omega, by simp only [rmq]; omega⟩ (fun r13 z12 H locs h hw => ?_)
            refine lv_if_eq (tgt := 76) hx hb dX0_readFrom_61 (by decide) (fun c14 => ?_) (fun c14 => ?_)
            · replace h := h.1 c14
              exact W.widen (by first | omega | (simp only [rmq]; omega)) (by first | omega | (simp only [rmq]; omega)) (b76 z12 v2 v3 v4 r5 H locs hw ls (lv_sub hl [1, 2, 3, 4, 5, 0] rfl) h)
            · replace h := h.2 c14
              refine lv_aload_n hx hb dX0_readFrom_64 rfl (lv_at hl 1 rfl) ?_
              refine lv_aload_n hx hb dX0_readFrom_65 rfl (lv_at hl 2 rfl) ?_
              refine lv_iload_n hx hb dX0_readFrom_66 rfl (lv_at hl 4 rfl) ?_
              have hq := h
              clear h
              refine xcVI (As := [.int v3]) (rest := [.ref (ad o0 100)]) E hw hA (c_X9_valueAt l D ad cs sk z12 p1 v3 _ hp1 hq) kc_0_65 yo_X9_valueAt ⟨Nat.le_of_ble_eq_true rfl, Nat.le_of_ble_eq_true rfl⟩ (xrc E hw (kyisS_100 hp1) (ciisS hp1)) rfl hl.1 rfl (Nat.le_of_ble_eq_true rfl) dX0_readFrom_67 ⟨by simp only [rmq]; omega, by simp only [rmq]; omega⟩ (fun r16 z15 H locs h hw => ?_)
              have hq := h
              clear h
              refine xcVV (As := [.int r16]) (rest := []) E hw hA (c_X0_takeUp l D ad cs sk z15 o0 r16 _ ho0 hq) kc_0_73 yo_X0_takeUp ⟨Nat.le_of_ble_eq_true rfl, Nat.le_of_ble_eq_true rfl⟩ (xrc E hw (kyisA_100 ho0) (ciisA ho0)) rfl hl.1 rfl (Nat.le_of_ble_eq_true rfl) dX0_readFrom_70 ⟨by simp only [rmq]; omega, by simp only [rmq]; omega⟩ (fun z17 H locs h hw => ?_)
              refine lv_goto (tgt := 84) hx hb dX0_readFrom_73 (by decide) ?_
              exact W.widen (by first | omega | (simp only [rmq]; omega)) (by first | omega | (simp only [rmq]; omega)) (b84 z17 v2 v4 r5 H locs hw ls (lv_sub hl [1, 2, 3, 5, 0] rfl) h)
        · replace h := h.2 c6
          refine lv_sipush (v := -1000) hx hb dX0_readFrom_38 (by decide) ?_
          refine lv_iload hx hb dX0_readFrom_41 (lv_at hl 0 rfl) ?_
          refine lv_iconst (v := -1) hx hb dX0_readFrom_43 (by decide) ?_
          refine lv_ixor hx hb dX0_readFrom_44 ?_
          refine lv_isub hx hb dX0_readFrom_45 ?_
          exact W.widen (by first | omega | (simp only [rmq]; omega)) (by first | omega | (simp only [rmq]; omega)) (hret ((-1000 : Int32) - (r5 ^^^ (-1 : Int32))) z4 H locs 46 ls hw rfl h dX0_readFrom_46)
      intro z v2 v3 v4 H locs hw ls hl h
      unfold V_X0_readFrom_7 at h
      refine lv_iload_n hx hb dX0_readFrom_7 rfl (lv_at hl 2 rfl) ?_
      refine lv_bipush (v := 100) hx hb dX0_readFrom_8 (by decide) ?_
      refine lv_icmp_ge (tgt := 93) hx hb dX0_readFrom_10 (by decide) (fun c1 => ?_) (fun c1 => ?_)
      · replace h := h.1 c1
        exact W.widen (by first | omega | (simp only [rmq]; omega)) (by first | omega | (simp only [rmq]; omega)) (b93 z v2 v4 H locs hw ls (lv_sub hl [2, 4] rfl) h)
      · replace h := h.2 c1
        refine lv_iload_n hx hb dX0_readFrom_13 rfl (lv_at hl 2 rfl) ?_
        refine lv_if_eq (tgt := 25) hx hb dX0_readFrom_14 (by decide) (fun c3 => ?_) (fun c3 => ?_)
        · replace h := h.1 c3
          exact W.widen (by first | omega | (simp only [rmq]; omega)) (by first | omega | (simp only [rmq]; omega)) (b25 z v2 v3 v4 H locs hw ls (lv_sub hl [0, 1, 2, 3, 4] rfl) h)
        · replace h := h.2 c3
          refine lv_iload_n hx hb dX0_readFrom_17 rfl (lv_at hl 3 rfl) ?_
          refine lv_aload_n hx hb dX0_readFrom_18 rfl (lv_at hl 1 rfl) ?_
          refine xgI E hw (c1 := 9) (ciisS hp1) (kyisS_100 hp1) fo_9_3 qf_0_56 dX0_readFrom_19 ?_
          refine lv_icmp_ge (tgt := 93) hx hb dX0_readFrom_22 (by decide) (fun c19 => ?_) (fun c19 => ?_)
          · replace h := h.1 c19
            exact W.widen (by first | omega | (simp only [rmq]; omega)) (by first | omega | (simp only [rmq]; omega)) (b93 z v2 v4 H locs hw ls (lv_sub hl [2, 4] rfl) h)
          · replace h := h.2 c19
            exact W.widen (by first | omega | (simp only [rmq]; omega)) (by first | omega | (simp only [rmq]; omega)) (b25 z v2 v3 v4 H locs hw ls (lv_sub hl [0, 1, 2, 3, 4] rfl) h)
  have b00 : ∀ (H : Heap) (locs : List Loc), OW D ad cs A s.heap z H locs → W p l e (rmq 7 101 808) s m args below meth c H locs 0 0 Q (F0 m 0 ls []) := by
    intro H locs hw
    refine lv_iconst (v := 0) hx hb dX0_readFrom_0 (by decide) ?_
    refine lv_istore_n (lv' := [(2, .int (0 : Int32)), (0, .ref (ad o0 100)), (1, .ref (ad p1 100))]) hx hb dX0_readFrom_1 rfl hl (by decide) rfl (fun ls hl => ?_)
    refine lv_iconst (v := 0) hx hb dX0_readFrom_2 (by decide) ?_
    refine lv_istore_n (lv' := [(3, .int (0 : Int32)), (2, .int (0 : Int32)), (0, .ref (ad o0 100)), (1, .ref (ad p1 100))]) hx hb dX0_readFrom_3 rfl hl (by decide) rfl (fun ls hl => ?_)
    refine lv_iconst (v := -1) hx hb dX0_readFrom_4 (by decide) ?_
    refine lv_istore (lv' := [(4, .int (-1 : Int32)), (3, .int (0 : Int32)), (2, .int (0 : Int32)), (0, .ref (ad o0 100)), (1, .ref (ad p1 100))]) hx hb dX0_readFrom_5 hl (by decide) rfl (fun ls hl => ?_)
    obtain ⟨n20, hN, h⟩ := h
    exact W.widen (by first | omega | (simp only [rmq]; omega)) (by first | omega | (simp only [rmq]; omega)) (b7 n20 hN z (0 : Int32) (0 : Int32) (-1 : Int32) H locs hw ls (lv_sub hl [3, 4, 2, 1, 0] rfl) h)
  exact b00 s.heap [] hw
def V_X11_air (z : ZS) (p1 : Int32) (post : Int32 → ZS → Prop) : Prop := V_X11_shelfAt z p1 (fun r2o z1 => ((r2o = none → post (-1 : Int32) z1) ∧ (∀ a3 : Nat, r2o = some a3 → isS a3 ∧ V_X11_refusalOfBytes z1 a3 (fun r5 z4 => ((r5 = 0 → V_X0_become z4 2 1 (fun z7 => V_X0_readFrom z7 2 a3 (fun r10 z9 => ((r10 ≤ 0 → post r10 z9) ∧ (¬ r10 ≤ 0 → V_X0_become z9 1 2 (fun z12 => post r10 z12)))))) ∧ (¬ r5 = 0 → post r5 z4))))))
set_option maxHeartbeats 4000000 in
set_option maxRecDepth 100000 in
theorem c_X11_air (l : Launch) (D : va_G) (ad : Nat → Nat → Nat) (cs : Nat → ClassId) (sk : (Nat → Nat) × (Nat → Nat)) (z : ZS) (p1 : Int32) (post : Int32 → ZS → Prop) (h : V_X11_air z p1 post) : MI l D ad cs sk yX11_air cX11_air 5 .int (rmq 8 101 808) [.ref (ad 0 100), .int p1] z post := by
  refine MI.of RX11 rfl (by decide) (Nat.le_of_ble_eq_true rfl) ?_
  intro p e s m args below meth c A Q E hw hA hret ls hl
  have hx := E.1.1
  have hb := E.1.2.1
  have hml := E.1.2.2.1
  have hown := E.1.2.2.2.1
  have h0 := E.1.2.2.2.2
  have hl : lv_has ls 5 [(0, .ref (ad 0 100)), (1, .int p1)] := hl
  unfold V_X11_air at h
  have b00 : ∀ (H : Heap) (locs : List Loc), OW D ad cs A s.heap z H locs → W p l e (rmq 8 101 808) s m args below meth c H locs 0 0 Q (F0 m 0 ls []) := by
    intro H locs hw
    refine lv_aload_n hx hb dX11_air_0 rfl (lv_at hl 0 rfl) ?_
    refine lv_iload_n hx hb dX11_air_1 rfl (lv_at hl 1 rfl) ?_
    have hq := h
    clear h
    refine xcVA (As := [.int p1]) (rest := []) E hw hA (c_X11_shelfAt l D ad cs sk z p1 _ hq) kc_11_58 yo_X11_shelfAt ⟨Nat.le_of_ble_eq_true rfl, Nat.le_of_ble_eq_true rfl⟩ (xrc E hw ky_0_100 rfl) rfl hl.1 rfl (Nat.le_of_ble_eq_true rfl) dX11_air_2 ⟨Nat.le_of_ble_eq_true rfl, Nat.le_of_ble_eq_true rfl⟩ (fun r2 z1 H locs h hw => ?_)
    obtain ⟨r2o, rfl, h⟩ := h
    refine xsqastore_n (lv' := [(2, va_rf (Option.map (fun o => ad o 100) r2o)), (0, .ref (ad 0 100)), (1, .int p1)]) hx hb dX11_air_5 rfl hl (by decide) rfl (fun ls hl => ?_)
    refine xlqaload_n hx hb dX11_air_6 rfl (lv_at hl 0 rfl) ?_
    refine xnnlo (tgt := 12) hx hb dX11_air_7 (by decide) (fun ea3 => ?_) (fun a3 ea3 => ?_)
    · replace h := h.1 ea3
      subst ea3
      have hl : lv_has ls 5 [(2, .null), (0, .ref (ad 0 100)), (1, .int p1)] := hl
      refine lv_iconst (v := -1) hx hb dX11_air_10 (by decide) ?_
      exact W.widen (by decide) (by decide) (hret (-1 : Int32) z1 H locs 11 ls hw rfl h dX11_air_11)
    · replace h := h.2 a3 ea3
      obtain ⟨ha3, h⟩ := h
      subst ea3
      have hl : lv_has ls 5 [(2, .ref (ad a3 100)), (0, .ref (ad 0 100)), (1, .int p1)] := hl
      refine lv_aload_n hx hb dX11_air_12 rfl (lv_at hl 0 rfl) ?_
      have hq := h
      clear h
      refine xcSI (As := [.ref (ad a3 100)]) (rest := []) E hw hA (c_X11_refusalOfBytes l D ad cs sk z1 a3 _ ha3 hq) kc_11_62 yo_X11_refusalOfBytes ⟨Nat.le_of_ble_eq_true rfl, Nat.le_of_ble_eq_true rfl⟩ rfl hl.1 rfl (Nat.le_of_ble_eq_true rfl) dX11_air_13 ⟨Nat.le_of_ble_eq_true rfl, Nat.le_of_ble_eq_true rfl⟩ (fun r5 z4 H locs h hw => ?_)
      refine lv_istore_n (lv' := [(3, .int r5), (2, .ref (ad a3 100)), (0, .ref (ad 0 100)), (1, .int p1)]) hx hb dX11_air_16 rfl hl (by decide) rfl (fun ls hl => ?_)
      refine lv_iload_n hx hb dX11_air_17 rfl (lv_at hl 0 rfl) ?_
      refine lv_if_eq (tgt := 23) hx hb dX11_air_18 (by decide) (fun c6 => ?_) (fun c6 => ?_)
      · replace h := h.1 c6
        refine lv_aload_n hx hb dX11_air_23 rfl (lv_at hl 2 rfl) ?_
        refine xgC E hw (c1 := 11) (t := (2, 100)) rfl ky_0_100 fo_11_1 rfl qf_11_16 dX11_air_24 ?_
        refine lv_aload_n hx hb dX11_air_27 rfl (lv_at hl 2 rfl) ?_
        refine xgC E hw (c1 := 11) (t := (1, 100)) rfl ky_0_100 fo_11_0 rfl qf_11_10 dX11_air_28 ?_
        have hq := h
        clear h
        refine xcVV (As := [.ref (ad 1 100)]) (rest := []) E hw hA (c_X0_become l D ad cs sk z4 2 1 _ is_2 is_1 hq) kc_11_66 yo_X0_become ⟨Nat.le_of_ble_eq_true rfl, Nat.le_of_ble_eq_true rfl⟩ (xrc E hw ky_2_100 rfl) rfl hl.1 rfl (Nat.le_of_ble_eq_true rfl) dX11_air_31 ⟨Nat.le_of_ble_eq_true rfl, Nat.le_of_ble_eq_true rfl⟩ (fun z7 H locs h hw => ?_)
        refine lv_aload_n hx hb dX11_air_34 rfl (lv_at hl 2 rfl) ?_
        refine xgC E hw (c1 := 11) (t := (2, 100)) rfl ky_0_100 fo_11_1 rfl qf_11_16 dX11_air_35 ?_
        refine lv_aload_n hx hb dX11_air_38 rfl (lv_at hl 1 rfl) ?_
        have hq := h
        clear h
        refine xcVI (As := [.ref (ad a3 100)]) (rest := []) E hw hA (c_X0_readFrom l D ad cs sk z7 2 a3 _ is_2 ha3 hq) kc_11_69 yo_X0_readFrom ⟨Nat.le_of_ble_eq_true rfl, Nat.le_of_ble_eq_true rfl⟩ (xrc E hw ky_2_100 rfl) rfl hl.1 rfl (Nat.le_of_ble_eq_true rfl) dX11_air_39 ⟨Nat.le_of_ble_eq_true rfl, Nat.le_of_ble_eq_true rfl⟩ (fun r10 z9 H locs h hw => ?_)
        refine lv_istore (lv' := [(4, .int r10), (3, .int r5), (2, .ref (ad a3 100)), (0, .ref (ad 0 100)), (1, .int p1)]) hx hb dX11_air_42 hl (by decide) rfl (fun ls hl => ?_)
        refine lv_iload hx hb dX11_air_44 (lv_at hl 0 rfl) ?_
        refine lv_if_le (tgt := 60) hx hb dX11_air_46 (by decide) (fun c11 => ?_) (fun c11 => ?_)
        · replace h := h.1 c11
          refine lv_iload hx hb dX11_air_60 (lv_at hl 0 rfl) ?_
          exact W.widen (by decide) (by decide) (hret r10 z9 H locs 62 ls hw rfl h dX11_air_62)
        · replace h := h.2 c11
          refine lv_aload_n hx hb dX11_air_49 rfl (lv_at hl 3 rfl) ?_
          refine xgC E hw (c1 := 11) (t := (1, 100)) rfl ky_0_100 fo_11_0 rfl qf_11_10 dX11_air_50 ?_
          refine lv_aload_n hx hb dX11_air_53 rfl (lv_at hl 3 rfl) ?_
          refine xgC E hw (c1 := 11) (t := (2, 100)) rfl ky_0_100 fo_11_1 rfl qf_11_16 dX11_air_54 ?_
          have hq := h
          clear h
          refine xcVV (As := [.ref (ad 2 100)]) (rest := []) E hw hA (c_X0_become l D ad cs sk z9 1 2 _ is_1 is_2 hq) kc_11_66 yo_X0_become ⟨Nat.le_of_ble_eq_true rfl, Nat.le_of_ble_eq_true rfl⟩ (xrc E hw ky_1_100 rfl) rfl hl.1 rfl (Nat.le_of_ble_eq_true rfl) dX11_air_57 ⟨Nat.le_of_ble_eq_true rfl, Nat.le_of_ble_eq_true rfl⟩ (fun z12 H locs h hw => ?_)
          refine lv_iload hx hb dX11_air_60 (lv_at hl 0 rfl) ?_
          exact W.widen (by decide) (by decide) (hret r10 z12 H locs 62 ls hw rfl h dX11_air_62)
      · replace h := h.2 c6
        refine lv_iload_n hx hb dX11_air_21 rfl (lv_at hl 0 rfl) ?_
        exact W.widen (by decide) (by decide) (hret r5 z4 H locs 22 ls hw rfl h dX11_air_22)
  exact b00 s.heap [] hw
