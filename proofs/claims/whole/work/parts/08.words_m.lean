theorem qf_12_52 : Cond.fieldLink RX12 52 "TenYardsModel" "thrown" "I" ∈ W0 := w0_t 1110 (by decide +kernel) rfl
theorem qf_12_9 : Cond.fieldLink RX12 9 "TenYardsModel" "s" "[I" ∈ W0 := w0_t 1100 (by decide +kernel) rfl
theorem qm_12_56 : Cond.methodLink RX12 56 yX12_isIn ∈ W0 := w0_t 1225 (by decide +kernel) rfl
theorem qs_X12_isIn : Cond.static yX12_isIn ∈ W0 := w0_t 1226 (by decide +kernel) rfl
theorem qn_12 : Cond.initialized RX12 ∈ W0 := w0_t 6 (by decide +kernel) rfl
theorem qc_X12_isIn : Cond.code yX12_isIn cX12_isIn 6 (some .boolean) ∈ W0 := w0_t 1227 (by decide +kernel) rfl
theorem ql_12_60 : Cond.constantLong RX12 60 (7) ∈ W0 := w0_t 1224 (by decide +kernel) rfl
theorem ql_12_62 : Cond.constantLong RX12 62 (-30000) ∈ W0 := w0_t 1331 (by decide +kernel) rfl
theorem ql_12_64 : Cond.constantLong RX12 64 (30000) ∈ W0 := w0_t 1332 (by decide +kernel) rfl
theorem qf_12_66 : Cond.fieldLink RX12 66 "TenYardsModel" "pos" "I" ∈ W0 := w0_t 1111 (by decide +kernel) rfl
theorem qf_12_69 : Cond.fieldLink RX12 69 "TenYardsModel" "end" "I" ∈ W0 := w0_t 1113 (by decide +kernel) rfl
theorem qf_12_28 : Cond.fieldLink RX12 28 "TenYardsModel" "element" "[I" ∈ W0 := w0_t 1106 (by decide +kernel) rfl
theorem qf_12_72 : Cond.fieldLink RX12 72 "TenYardsModel" "base" "I" ∈ W0 := w0_t 1112 (by decide +kernel) rfl
theorem qm_12_75 : Cond.methodLink RX12 75 yX12_here ∈ W0 := w0_t 1232 (by decide +kernel) rfl
theorem qi_X12_here : Cond.instanceMethod yX12_here ∈ W0 := w0_t 1234 (by decide +kernel) rfl
theorem qe_X12_here : Cond.selects RX12 yX12_here yX12_here ∈ W0 := w0_s 19 (by decide +kernel) rfl
theorem qc_X12_here : Cond.code yX12_here cX12_here 1 (some .int) ∈ W0 := w0_t 1235 (by decide +kernel) rfl
theorem ql_12_79 : Cond.constantLong RX12 79 (48) ∈ W0 := w0_t 1244 (by decide +kernel) rfl
theorem ql_12_81 : Cond.constantLong RX12 81 (57) ∈ W0 := w0_t 1245 (by decide +kernel) rfl
theorem qm_12_83 : Cond.methodLink RX12 83 yX12_isDigit ∈ W0 := w0_t 1240 (by decide +kernel) rfl
theorem qi_X12_isDigit : Cond.instanceMethod yX12_isDigit ∈ W0 := w0_t 1242 (by decide +kernel) rfl
theorem qe_X12_isDigit : Cond.selects RX12 yX12_isDigit yX12_isDigit ∈ W0 := w0_s 21 (by decide +kernel) rfl
theorem qc_X12_isDigit : Cond.code yX12_isDigit cX12_isDigit 1 (some .boolean) ∈ W0 := w0_t 1243 (by decide +kernel) rfl
theorem qf_12_37 : Cond.fieldLink RX12 37 "TenYardsModel" "numbers" "[I" ∈ W0 := w0_t 1115 (by decide +kernel) rfl
theorem qf_12_87 : Cond.fieldLink RX12 87 "TenYardsModel" "told" "I" ∈ W0 := w0_t 1114 (by decide +kernel) rfl
theorem qm_12_90 : Cond.methodLink RX12 90 yX12_readsDigit ∈ W0 := w0_t 1236 (by decide +kernel) rfl
theorem qi_X12_readsDigit : Cond.instanceMethod yX12_readsDigit ∈ W0 := w0_t 1238 (by decide +kernel) rfl
theorem qe_X12_readsDigit : Cond.selects RX12 yX12_readsDigit yX12_readsDigit ∈ W0 := w0_s 20 (by decide +kernel) rfl
theorem qc_X12_readsDigit : Cond.code yX12_readsDigit cX12_readsDigit 1 (some .boolean) ∈ W0 := w0_t 1239 (by decide +kernel) rfl
theorem kc_12_56 : cS RX12 56 yX12_isIn cX12_isIn 6 (some .boolean) := ⟨qm_12_56, qs_X12_isIn, qn_12, qc_X12_isIn⟩
theorem kc_12_75 : cV RX12 75 RX12 yX12_here cX12_here 1 (some .int) := ⟨qm_12_75, qi_X12_here, qe_X12_here, qn_12, qc_X12_here⟩
theorem kc_12_83 : cV RX12 83 RX12 yX12_isDigit cX12_isDigit 1 (some .boolean) := ⟨qm_12_83, qi_X12_isDigit, qe_X12_isDigit, qn_12, qc_X12_isDigit⟩
theorem kc_12_90 : cV RX12 90 RX12 yX12_readsDigit cX12_readsDigit 1 (some .boolean) := ⟨qm_12_90, qi_X12_readsDigit, qe_X12_readsDigit, qn_12, qc_X12_readsDigit⟩
theorem yo_X12_isIn : yOK yX12_isIn 3 := by decide +kernel
theorem yo_X12_here : yOK yX12_here 0 := by decide +kernel
theorem yo_X12_isDigit : yOK yX12_isDigit 0 := by decide +kernel
theorem yo_X12_readsDigit : yOK yX12_readsDigit 0 := by decide +kernel
theorem fo_12_10 : 10 < cN 12 ∧ fk 12 10 = 0 := by decide
theorem ky_14_100 : ((14, 100) : Nat × Nat) ∈ KY := by decide
theorem fo_12_0 : 0 < cN 12 ∧ fk 12 0 = 1 := by decide
theorem ky_14_0 : ((14, 0) : Nat × Nat) ∈ KY := by decide
theorem ka_14_0 : 0 ≠ 100 ∧ ak (14, 0) = 0 ∧ al (ci 14) 0 = 73 := by decide
theorem fo_12_11 : 11 < cN 12 ∧ fk 12 11 = 0 := by decide
theorem fo_12_13 : 13 < cN 12 ∧ fk 12 13 = 0 := by decide
theorem fo_12_6 : 6 < cN 12 ∧ fk 12 6 = 1 := by decide
theorem fo_12_12 : 12 < cN 12 ∧ fk 12 12 = 0 := by decide
theorem ky_14_6 : ((14, 6) : Nat × Nat) ∈ KY := by decide
theorem ka_14_6 : 6 ≠ 100 ∧ ak (14, 6) = 0 ∧ al (ci 14) 6 = 800 := by decide
theorem fp_12_11 : 11 < cN 12 ∧ fk 12 11 = 0 ∧ (cT 12 11).2.2.2 = false ∧ parseFieldDescriptor (cT 12 11).2.2.1 = some .int := by decide +kernel
theorem fo_12_15 : 15 < cN 12 ∧ fk 12 15 = 1 := by decide
theorem fo_12_14 : 14 < cN 12 ∧ fk 12 14 = 0 := by decide
theorem ky_14_15 : ((14, 15) : Nat × Nat) ∈ KY := by decide
theorem ka_14_15 : 15 ≠ 100 ∧ ak (14, 15) = 0 ∧ al (ci 14) 15 = 4 := by decide
theorem fp_12_14 : 14 < cN 12 ∧ fk 12 14 = 0 ∧ (cT 12 14).2.2.2 = false ∧ parseFieldDescriptor (cT 12 14).2.2.1 = some .int := by decide +kernel
