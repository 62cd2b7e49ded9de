theorem qf_12_52 : Cond.fieldLink RX12 52 "TenYardsModel" "thrown" "I" ∈ W0 := w0_m (a := tables_1_5) 150 rfl tb_5 rfl
theorem qf_12_9 : Cond.fieldLink RX12 9 "TenYardsModel" "s" "[I" ∈ W0 := w0_m (a := tables_1_5) 140 rfl tb_5 rfl
theorem qm_12_56 : Cond.methodLink RX12 56 yX12_isIn ∈ W0 := w0_m (a := tables_1_6) 25 rfl tb_6 rfl
theorem qs_X12_isIn : Cond.static yX12_isIn ∈ W0 := w0_m (a := tables_1_6) 26 rfl tb_6 rfl
theorem qn_12 : Cond.initialized RX12 ∈ W0 := w0_m (a := tables_1_1) 6 rfl tb_1 rfl
theorem qc_X12_isIn : Cond.code yX12_isIn cX12_isIn 6 (some .boolean) ∈ W0 := w0_m (a := tables_1_6) 27 rfl tb_6 rfl
theorem ql_12_60 : Cond.constantLong RX12 60 (7) ∈ W0 := w0_m (a := tables_1_6) 24 rfl tb_6 rfl
theorem ql_12_62 : Cond.constantLong RX12 62 (-30000) ∈ W0 := w0_m (a := tables_1_6) 131 rfl tb_6 rfl
theorem ql_12_64 : Cond.constantLong RX12 64 (30000) ∈ W0 := w0_m (a := tables_1_6) 132 rfl tb_6 rfl
theorem qf_12_66 : Cond.fieldLink RX12 66 "TenYardsModel" "pos" "I" ∈ W0 := w0_m (a := tables_1_5) 151 rfl tb_5 rfl
theorem qf_12_69 : Cond.fieldLink RX12 69 "TenYardsModel" "end" "I" ∈ W0 := w0_m (a := tables_1_5) 153 rfl tb_5 rfl
theorem qf_12_28 : Cond.fieldLink RX12 28 "TenYardsModel" "element" "[I" ∈ W0 := w0_m (a := tables_1_5) 146 rfl tb_5 rfl
theorem qf_12_72 : Cond.fieldLink RX12 72 "TenYardsModel" "base" "I" ∈ W0 := w0_m (a := tables_1_5) 152 rfl tb_5 rfl
theorem qm_12_75 : Cond.methodLink RX12 75 yX12_here ∈ W0 := w0_m (a := tables_1_6) 32 rfl tb_6 rfl
theorem qi_X12_here : Cond.instanceMethod yX12_here ∈ W0 := w0_m (a := tables_1_6) 34 rfl tb_6 rfl
theorem qe_X12_here : Cond.selects RX12 yX12_here yX12_here ∈ W0 := w0_s 19 rfl rfl
theorem qc_X12_here : Cond.code yX12_here cX12_here 1 (some .int) ∈ W0 := w0_m (a := tables_1_6) 35 rfl tb_6 rfl
theorem ql_12_79 : Cond.constantLong RX12 79 (48) ∈ W0 := w0_m (a := tables_1_6) 44 rfl tb_6 rfl
theorem ql_12_81 : Cond.constantLong RX12 81 (57) ∈ W0 := w0_m (a := tables_1_6) 45 rfl tb_6 rfl
theorem qm_12_83 : Cond.methodLink RX12 83 yX12_isDigit ∈ W0 := w0_m (a := tables_1_6) 40 rfl tb_6 rfl
theorem qi_X12_isDigit : Cond.instanceMethod yX12_isDigit ∈ W0 := w0_m (a := tables_1_6) 42 rfl tb_6 rfl
theorem qe_X12_isDigit : Cond.selects RX12 yX12_isDigit yX12_isDigit ∈ W0 := w0_s 21 rfl rfl
theorem qc_X12_isDigit : Cond.code yX12_isDigit cX12_isDigit 1 (some .boolean) ∈ W0 := w0_m (a := tables_1_6) 43 rfl tb_6 rfl
theorem qf_12_37 : Cond.fieldLink RX12 37 "TenYardsModel" "numbers" "[I" ∈ W0 := w0_m (a := tables_1_5) 155 rfl tb_5 rfl
theorem qf_12_87 : Cond.fieldLink RX12 87 "TenYardsModel" "told" "I" ∈ W0 := w0_m (a := tables_1_5) 154 rfl tb_5 rfl
theorem qm_12_90 : Cond.methodLink RX12 90 yX12_readsDigit ∈ W0 := w0_m (a := tables_1_6) 36 rfl tb_6 rfl
theorem qi_X12_readsDigit : Cond.instanceMethod yX12_readsDigit ∈ W0 := w0_m (a := tables_1_6) 38 rfl tb_6 rfl
theorem qe_X12_readsDigit : Cond.selects RX12 yX12_readsDigit yX12_readsDigit ∈ W0 := w0_s 20 rfl rfl
theorem qc_X12_readsDigit : Cond.code yX12_readsDigit cX12_readsDigit 1 (some .boolean) ∈ W0 := w0_m (a := tables_1_6) 39 rfl tb_6 rfl
theorem qm_12_93 : Cond.methodLink RX12 93 yX12_readsNumber ∈ W0 := w0_m (a := tables_1_6) 50 rfl tb_6 rfl
theorem qi_X12_readsNumber : Cond.instanceMethod yX12_readsNumber ∈ W0 := w0_m (a := tables_1_6) 52 rfl tb_6 rfl
theorem qe_X12_readsNumber : Cond.selects RX12 yX12_readsNumber yX12_readsNumber ∈ W0 := w0_s 23 rfl rfl
theorem qc_X12_readsNumber : Cond.code yX12_readsNumber cX12_readsNumber 2 (some .boolean) ∈ W0 := w0_m (a := tables_1_6) 53 rfl tb_6 rfl
theorem qm_12_96 : Cond.methodLink RX12 96 yX12_readsSigned ∈ W0 := w0_m (a := tables_1_6) 46 rfl tb_6 rfl
theorem qi_X12_readsSigned : Cond.instanceMethod yX12_readsSigned ∈ W0 := w0_m (a := tables_1_6) 48 rfl tb_6 rfl
theorem qe_X12_readsSigned : Cond.selects RX12 yX12_readsSigned yX12_readsSigned ∈ W0 := w0_s 22 rfl rfl
theorem qc_X12_readsSigned : Cond.code yX12_readsSigned cX12_readsSigned 2 (some .boolean) ∈ W0 := w0_m (a := tables_1_6) 49 rfl tb_6 rfl
theorem qm_12_99 : Cond.methodLink RX12 99 yX12_takes ∈ W0 := w0_m (a := tables_1_6) 54 rfl tb_6 rfl
theorem qi_X12_takes : Cond.instanceMethod yX12_takes ∈ W0 := w0_m (a := tables_1_6) 56 rfl tb_6 rfl
theorem qe_X12_takes : Cond.selects RX12 yX12_takes yX12_takes ∈ W0 := w0_s 24 rfl rfl
theorem qc_X12_takes : Cond.code yX12_takes cX12_takes 2 (some .boolean) ∈ W0 := w0_m (a := tables_1_6) 57 rfl tb_6 rfl
theorem ql_12_107 : Cond.constantLong RX12 107 (300) ∈ W0 := w0_m (a := tables_1_6) 69 rfl tb_6 rfl
theorem ql_12_109 : Cond.constantLong RX12 109 (3000) ∈ W0 := w0_m (a := tables_1_6) 70 rfl tb_6 rfl
theorem ql_12_105 : Cond.constantLong RX12 105 (900) ∈ W0 := w0_m (a := tables_1_6) 68 rfl tb_6 rfl
theorem ql_12_103 : Cond.constantLong RX12 103 (30) ∈ W0 := w0_m (a := tables_1_6) 67 rfl tb_6 rfl
theorem qf_12_16 : Cond.fieldLink RX12 16 "TenYardsModel" "read" "[I" ∈ W0 := w0_m (a := tables_1_5) 142 rfl tb_5 rfl
theorem qm_12_121 : Cond.methodLink RX12 121 yX12_lesser ∈ W0 := w0_m (a := tables_1_6) 72 rfl tb_6 rfl
theorem qs_X12_lesser : Cond.static yX12_lesser ∈ W0 := w0_m (a := tables_1_6) 73 rfl tb_6 rfl
theorem qc_X12_lesser : Cond.code yX12_lesser cX12_lesser 2 (some .int) ∈ W0 := w0_m (a := tables_1_6) 74 rfl tb_6 rfl
theorem ql_12_119 : Cond.constantLong RX12 119 (-3000) ∈ W0 := w0_m (a := tables_1_6) 71 rfl tb_6 rfl
theorem ql_12_111 : Cond.constantLong RX12 111 (-90) ∈ W0 := w0_m (a := tables_1_6) 62 rfl tb_6 rfl
theorem ql_12_113 : Cond.constantLong RX12 113 (90) ∈ W0 := w0_m (a := tables_1_6) 63 rfl tb_6 rfl
theorem qm_12_115 : Cond.methodLink RX12 115 yX12_isValue ∈ W0 := w0_m (a := tables_1_6) 64 rfl tb_6 rfl
theorem qs_X12_isValue : Cond.static yX12_isValue ∈ W0 := w0_m (a := tables_1_6) 65 rfl tb_6 rfl
theorem qc_X12_isValue : Cond.code yX12_isValue cX12_isValue 2 (some .boolean) ∈ W0 := w0_m (a := tables_1_6) 66 rfl tb_6 rfl
theorem qm_12_125 : Cond.methodLink RX12 125 yX12_isShelf ∈ W0 := w0_m (a := tables_1_6) 21 rfl tb_6 rfl
theorem qs_X12_isShelf : Cond.static yX12_isShelf ∈ W0 := w0_m (a := tables_1_6) 22 rfl tb_6 rfl
theorem qc_X12_isShelf : Cond.code yX12_isShelf cX12_isShelf 1 (some .boolean) ∈ W0 := w0_m (a := tables_1_6) 23 rfl tb_6 rfl
theorem qf_12_19 : Cond.fieldLink RX12 19 "TenYardsModel" "kept" "[I" ∈ W0 := w0_m (a := tables_1_5) 143 rfl tb_5 rfl
theorem qf_12_22 : Cond.fieldLink RX12 22 "TenYardsModel" "sort" "[I" ∈ W0 := w0_m (a := tables_1_5) 144 rfl tb_5 rfl
theorem qm_12_128 : Cond.methodLink RX12 128 yX12_wrongRow ∈ W0 := w0_m (a := tables_1_6) 17 rfl tb_6 rfl
theorem qi_X12_wrongRow : Cond.instanceMethod yX12_wrongRow ∈ W0 := w0_m (a := tables_1_6) 19 rfl tb_6 rfl
theorem qe_X12_wrongRow : Cond.selects RX12 yX12_wrongRow yX12_wrongRow ∈ W0 := w0_s 17 rfl rfl
theorem qc_X12_wrongRow : Cond.code yX12_wrongRow cX12_wrongRow 3 (some .int) ∈ W0 := w0_m (a := tables_1_6) 20 rfl tb_6 rfl
theorem qf_12_25 : Cond.fieldLink RX12 25 "TenYardsModel" "size" "[I" ∈ W0 := w0_m (a := tables_1_5) 145 rfl tb_5 rfl
theorem qm_12_131 : Cond.methodLink RX12 131 yX12_readsStatement ∈ W0 := w0_m (a := tables_1_6) 28 rfl tb_6 rfl
theorem qi_X12_readsStatement : Cond.instanceMethod yX12_readsStatement ∈ W0 := w0_m (a := tables_1_6) 30 rfl tb_6 rfl
theorem qe_X12_readsStatement : Cond.selects RX12 yX12_readsStatement yX12_readsStatement ∈ W0 := w0_s 18 rfl rfl
theorem qc_X12_readsStatement : Cond.code yX12_readsStatement cX12_readsStatement 3 (some .boolean) ∈ W0 := w0_m (a := tables_1_6) 31 rfl tb_6 rfl
theorem qm_12_134 : Cond.methodLink RX12 134 yX12_comes ∈ W0 := w0_m (a := tables_1_6) 58 rfl tb_6 rfl
theorem qi_X12_comes : Cond.instanceMethod yX12_comes ∈ W0 := w0_m (a := tables_1_6) 60 rfl tb_6 rfl
theorem qe_X12_comes : Cond.selects RX12 yX12_comes yX12_comes ∈ W0 := w0_s 25 rfl rfl
theorem qc_X12_comes : Cond.code yX12_comes cX12_comes 7 (some .boolean) ∈ W0 := w0_m (a := tables_1_6) 61 rfl tb_6 rfl
theorem ql_12_137 : Cond.constantLong RX12 137 (9) ∈ W0 := w0_m (a := tables_1_6) 79 rfl tb_6 rfl
theorem qm_12_144 : Cond.methodLink RX12 144 yX12_east ∈ W0 := w0_m (a := tables_1_6) 85 rfl tb_6 rfl
theorem qi_X12_east : Cond.instanceMethod yX12_east ∈ W0 := w0_m (a := tables_1_6) 87 rfl tb_6 rfl
theorem qe_X12_east : Cond.selects RX12 yX12_east yX12_east ∈ W0 := w0_s 27 rfl rfl
theorem qc_X12_east : Cond.code yX12_east cX12_east 2 (some .int) ∈ W0 := w0_m (a := tables_1_6) 88 rfl tb_6 rfl
theorem qm_12_140 : Cond.methodLink RX12 140 yX12_north ∈ W0 := w0_m (a := tables_1_6) 81 rfl tb_6 rfl
theorem qi_X12_north : Cond.instanceMethod yX12_north ∈ W0 := w0_m (a := tables_1_6) 83 rfl tb_6 rfl
theorem qe_X12_north : Cond.selects RX12 yX12_north yX12_north ∈ W0 := w0_s 26 rfl rfl
theorem qc_X12_north : Cond.code yX12_north cX12_north 2 (some .int) ∈ W0 := w0_m (a := tables_1_6) 84 rfl tb_6 rfl
theorem qk_12_139 : Cond.constant RX12 139 (-1000000001) ∈ W0 := w0_m (a := tables_1_6) 80 rfl tb_6 rfl
theorem ql_12_147 : Cond.constantLong RX12 147 (2) ∈ W0 := w0_m (a := tables_1_6) 93 rfl tb_6 rfl
theorem qm_12_149 : Cond.methodLink RX12 149 yX12_isFaller ∈ W0 := w0_m (a := tables_1_6) 98 rfl tb_6 rfl
theorem qi_X12_isFaller : Cond.instanceMethod yX12_isFaller ∈ W0 := w0_m (a := tables_1_6) 100 rfl tb_6 rfl
theorem qe_X12_isFaller : Cond.selects RX12 yX12_isFaller yX12_isFaller ∈ W0 := w0_s 28 rfl rfl
theorem qc_X12_isFaller : Cond.code yX12_isFaller cX12_isFaller 2 (some .boolean) ∈ W0 := w0_m (a := tables_1_6) 101 rfl tb_6 rfl
theorem qm_12_152 : Cond.methodLink RX12 152 yX12_of ∈ W0 := w0_m (a := tables_1_6) 102 rfl tb_6 rfl
theorem qi_X12_of : Cond.instanceMethod yX12_of ∈ W0 := w0_m (a := tables_1_6) 104 rfl tb_6 rfl
theorem qe_X12_of : Cond.selects RX12 yX12_of yX12_of ∈ W0 := w0_s 29 rfl rfl
theorem qc_X12_of : Cond.code yX12_of cX12_of 3 (some .int) ∈ W0 := w0_m (a := tables_1_6) 105 rfl tb_6 rfl
theorem qm_12_161 : Cond.methodLink RX12 161 yX12_paceBy ∈ W0 := w0_m (a := tables_1_6) 112 rfl tb_6 rfl
theorem qs_X12_paceBy : Cond.static yX12_paceBy ∈ W0 := w0_m (a := tables_1_6) 113 rfl tb_6 rfl
theorem qc_X12_paceBy : Cond.code yX12_paceBy cX12_paceBy 2 (some .int) ∈ W0 := w0_m (a := tables_1_6) 114 rfl tb_6 rfl
theorem qm_12_158 : Cond.methodLink RX12 158 yX12_sinksBy ∈ W0 := w0_m (a := tables_1_6) 109 rfl tb_6 rfl
theorem qs_X12_sinksBy : Cond.static yX12_sinksBy ∈ W0 := w0_m (a := tables_1_6) 110 rfl tb_6 rfl
theorem qc_X12_sinksBy : Cond.code yX12_sinksBy cX12_sinksBy 2 (some .int) ∈ W0 := w0_m (a := tables_1_6) 111 rfl tb_6 rfl
theorem qm_12_155 : Cond.methodLink RX12 155 yX12_fallsBy ∈ W0 := w0_m (a := tables_1_6) 106 rfl tb_6 rfl
theorem qs_X12_fallsBy : Cond.static yX12_fallsBy ∈ W0 := w0_m (a := tables_1_6) 107 rfl tb_6 rfl
theorem qc_X12_fallsBy : Cond.code yX12_fallsBy cX12_fallsBy 1 (some .int) ∈ W0 := w0_m (a := tables_1_6) 108 rfl tb_6 rfl
theorem ql_12_164 : Cond.constantLong RX12 164 (-120) ∈ W0 := w0_m (a := tables_1_6) 119 rfl tb_6 rfl
theorem ql_12_166 : Cond.constantLong RX12 166 (120) ∈ W0 := w0_m (a := tables_1_6) 120 rfl tb_6 rfl
theorem qm_12_168 : Cond.methodLink RX12 168 yX12_driftBy ∈ W0 := w0_m (a := tables_1_6) 121 rfl tb_6 rfl
theorem qs_X12_driftBy : Cond.static yX12_driftBy ∈ W0 := w0_m (a := tables_1_6) 122 rfl tb_6 rfl
theorem qc_X12_driftBy : Cond.code yX12_driftBy cX12_driftBy 2 (some .int) ∈ W0 := w0_m (a := tables_1_6) 123 rfl tb_6 rfl
theorem qm_12_171 : Cond.methodLink RX12 171 yX12_amount ∈ W0 := w0_m (a := tables_1_6) 137 rfl tb_6 rfl
theorem qs_X12_amount : Cond.static yX12_amount ∈ W0 := w0_m (a := tables_1_6) 138 rfl tb_6 rfl
theorem qc_X12_amount : Cond.code yX12_amount cX12_amount 1 (some .int) ∈ W0 := w0_m (a := tables_1_6) 139 rfl tb_6 rfl
theorem qf_12_177 : Cond.fieldLink RX12 177 "TenYardsModel" "steerY" "I" ∈ W0 := w0_m (a := tables_1_5) 157 rfl tb_5 rfl
theorem qf_12_174 : Cond.fieldLink RX12 174 "TenYardsModel" "steerX" "I" ∈ W0 := w0_m (a := tables_1_5) 156 rfl tb_5 rfl
theorem qm_12_180 : Cond.methodLink RX12 180 yX12_toward ∈ W0 := w0_m (a := tables_1_6) 140 rfl tb_6 rfl
theorem qi_X12_toward : Cond.instanceMethod yX12_toward ∈ W0 := w0_m (a := tables_1_6) 142 rfl tb_6 rfl
theorem qe_X12_toward : Cond.selects RX12 yX12_toward yX12_toward ∈ W0 := w0_s 31 rfl rfl
theorem qc_X12_toward : Cond.code yX12_toward cX12_toward 7 none ∈ W0 := w0_m (a := tables_1_6) 143 rfl tb_6 rfl
theorem qm_12_184 : Cond.methodLink RX12 184 yX12_isEdge ∈ W0 := w0_m (a := tables_1_6) 128 rfl tb_6 rfl
theorem qs_X12_isEdge : Cond.static yX12_isEdge ∈ W0 := w0_m (a := tables_1_6) 129 rfl tb_6 rfl
theorem qc_X12_isEdge : Cond.code yX12_isEdge cX12_isEdge 1 (some .boolean) ∈ W0 := w0_m (a := tables_1_6) 130 rfl tb_6 rfl
theorem qm_12_187 : Cond.methodLink RX12 187 yX12_steersBy ∈ W0 := w0_m (a := tables_1_6) 133 rfl tb_6 rfl
theorem qi_X12_steersBy : Cond.instanceMethod yX12_steersBy ∈ W0 := w0_m (a := tables_1_6) 135 rfl tb_6 rfl
theorem qe_X12_steersBy : Cond.selects RX12 yX12_steersBy yX12_steersBy ∈ W0 := w0_s 30 rfl rfl
theorem qc_X12_steersBy : Cond.code yX12_steersBy cX12_steersBy 9 none ∈ W0 := w0_m (a := tables_1_6) 136 rfl tb_6 rfl
theorem qm_12_191 : Cond.methodLink RX12 191 yX12_isBarred ∈ W0 := w0_m (a := tables_1_6) 148 rfl tb_6 rfl
theorem qi_X12_isBarred : Cond.instanceMethod yX12_isBarred ∈ W0 := w0_m (a := tables_1_6) 150 rfl tb_6 rfl
theorem qe_X12_isBarred : Cond.selects RX12 yX12_isBarred yX12_isBarred ∈ W0 := w0_s 32 rfl rfl
theorem qc_X12_isBarred : Cond.code yX12_isBarred cX12_isBarred 5 (some .boolean) ∈ W0 := w0_m (a := tables_1_6) 151 rfl tb_6 rfl
theorem qf_12_194 : Cond.fieldLink RX12 194 "TenYardsModel" "kind" "I" ∈ W0 := w0_m (a := tables_1_5) 158 rfl tb_5 rfl
theorem qf_12_197 : Cond.fieldLink RX12 197 "TenYardsModel" "figure" "I" ∈ W0 := w0_m (a := tables_1_5) 159 rfl tb_5 rfl
theorem qf_12_200 : Cond.fieldLink RX12 200 "TenYardsModel" "opens" "I" ∈ W0 := w0_m (a := tables_1_5) 160 rfl tb_5 rfl
theorem qf_12_203 : Cond.fieldLink RX12 203 "TenYardsModel" "way" "I" ∈ W0 := w0_m (a := tables_1_5) 161 rfl tb_5 rfl
theorem qf_12_206 : Cond.fieldLink RX12 206 "TenYardsModel" "atX" "I" ∈ W0 := w0_m (a := tables_1_5) 162 rfl tb_5 rfl
theorem qf_12_209 : Cond.fieldLink RX12 209 "TenYardsModel" "atY" "I" ∈ W0 := w0_m (a := tables_1_5) 163 rfl tb_5 rfl
theorem qf_12_212 : Cond.fieldLink RX12 212 "TenYardsModel" "height" "I" ∈ W0 := w0_m (a := tables_1_5) 164 rfl tb_5 rfl
theorem qf_12_215 : Cond.fieldLink RX12 215 "TenYardsModel" "seconds" "I" ∈ W0 := w0_m (a := tables_1_5) 165 rfl tb_5 rfl
theorem qf_12_218 : Cond.fieldLink RX12 218 "TenYardsModel" "seed" "I" ∈ W0 := w0_m (a := tables_1_5) 166 rfl tb_5 rfl
theorem qf_12_221 : Cond.fieldLink RX12 221 "TenYardsModel" "openAt" "I" ∈ W0 := w0_m (a := tables_1_5) 169 rfl tb_5 rfl
theorem qm_12_224 : Cond.methodLink RX12 224 yX12_leaves ∈ W0 := w0_m (a := tables_1_6) 165 rfl tb_6 rfl
theorem qi_X12_leaves : Cond.instanceMethod yX12_leaves ∈ W0 := w0_m (a := tables_1_6) 167 rfl tb_6 rfl
theorem qe_X12_leaves : Cond.selects RX12 yX12_leaves yX12_leaves ∈ W0 := w0_s 35 rfl rfl
theorem qc_X12_leaves : Cond.code yX12_leaves cX12_leaves 7 none ∈ W0 := w0_m (a := tables_1_6) 168 rfl tb_6 rfl
theorem qk_12_227 : Cond.constant RX12 227 (1103515245) ∈ W0 := w0_m (a := tables_1_6) 192 rfl tb_6 rfl
theorem qk_12_228 : Cond.constant RX12 228 (2147483647) ∈ W0 := w0_m (a := tables_1_6) 193 rfl tb_6 rfl
theorem qk_12_229 : Cond.constant RX12 229 (65536) ∈ W0 := w0_m (a := tables_1_6) 194 rfl tb_6 rfl
theorem qm_12_246 : Cond.methodLink RX12 246 yX12_holdsWay ∈ W0 := w0_m (a := tables_1_6) 195 rfl tb_6 rfl
theorem qi_X12_holdsWay : Cond.instanceMethod yX12_holdsWay ∈ W0 := w0_m (a := tables_1_6) 197 rfl tb_6 rfl
theorem qe_X12_holdsWay : Cond.selects RX12 yX12_holdsWay yX12_holdsWay ∈ W0 := w0_s 41 rfl rfl
theorem qc_X12_holdsWay : Cond.code yX12_holdsWay cX12_holdsWay 2 none ∈ W0 := w0_m (a := tables_1_6) 198 rfl tb_6 rfl
theorem qm_12_230 : Cond.methodLink RX12 230 yX12_held ∈ W0 := w0_m (a := tables_1_6) 181 rfl tb_6 rfl
theorem qs_X12_held : Cond.static yX12_held ∈ W0 := w0_m (a := tables_1_6) 182 rfl tb_6 rfl
theorem qc_X12_held : Cond.code yX12_held cX12_held 1 (some .int) ∈ W0 := w0_m (a := tables_1_6) 183 rfl tb_6 rfl
theorem qm_12_233 : Cond.methodLink RX12 233 yX12_goesDown ∈ W0 := w0_m (a := tables_1_6) 184 rfl tb_6 rfl
theorem qi_X12_goesDown : Cond.instanceMethod yX12_goesDown ∈ W0 := w0_m (a := tables_1_6) 186 rfl tb_6 rfl
theorem qe_X12_goesDown : Cond.selects RX12 yX12_goesDown yX12_goesDown ∈ W0 := w0_s 39 rfl rfl
theorem qc_X12_goesDown : Cond.code yX12_goesDown cX12_goesDown 2 none ∈ W0 := w0_m (a := tables_1_6) 187 rfl tb_6 rfl
theorem qm_12_243 : Cond.methodLink RX12 243 yX12_drawn ∈ W0 := w0_m (a := tables_1_6) 188 rfl tb_6 rfl
theorem qi_X12_drawn : Cond.instanceMethod yX12_drawn ∈ W0 := w0_m (a := tables_1_6) 190 rfl tb_6 rfl
theorem qe_X12_drawn : Cond.selects RX12 yX12_drawn yX12_drawn ∈ W0 := w0_s 40 rfl rfl
theorem qc_X12_drawn : Cond.code yX12_drawn cX12_drawn 2 (some .int) ∈ W0 := w0_m (a := tables_1_6) 191 rfl tb_6 rfl
theorem qf_12_237 : Cond.fieldLink RX12 237 "TenYardsModel" "openX" "I" ∈ W0 := w0_m (a := tables_1_5) 167 rfl tb_5 rfl
theorem qf_12_240 : Cond.fieldLink RX12 240 "TenYardsModel" "openY" "I" ∈ W0 := w0_m (a := tables_1_5) 168 rfl tb_5 rfl
theorem qm_12_249 : Cond.methodLink RX12 249 yX12_hasLanded ∈ W0 := w0_m (a := tables_1_6) 173 rfl tb_6 rfl
theorem qi_X12_hasLanded : Cond.instanceMethod yX12_hasLanded ∈ W0 := w0_m (a := tables_1_6) 175 rfl tb_6 rfl
theorem qe_X12_hasLanded : Cond.selects RX12 yX12_hasLanded yX12_hasLanded ∈ W0 := w0_s 37 rfl rfl
theorem qc_X12_hasLanded : Cond.code yX12_hasLanded cX12_hasLanded 1 (some .boolean) ∈ W0 := w0_m (a := tables_1_6) 176 rfl tb_6 rfl
theorem qm_12_252 : Cond.methodLink RX12 252 yX12_goesSecond ∈ W0 := w0_m (a := tables_1_6) 177 rfl tb_6 rfl
theorem qi_X12_goesSecond : Cond.instanceMethod yX12_goesSecond ∈ W0 := w0_m (a := tables_1_6) 179 rfl tb_6 rfl
theorem qe_X12_goesSecond : Cond.selects RX12 yX12_goesSecond yX12_goesSecond ∈ W0 := w0_s 38 rfl rfl
theorem qc_X12_goesSecond : Cond.code yX12_goesSecond cX12_goesSecond 5 none ∈ W0 := w0_m (a := tables_1_6) 180 rfl tb_6 rfl
theorem qm_12_255 : Cond.methodLink RX12 255 yX12_leavesOne ∈ W0 := w0_m (a := tables_1_6) 161 rfl tb_6 rfl
theorem qi_X12_leavesOne : Cond.instanceMethod yX12_leavesOne ∈ W0 := w0_m (a := tables_1_6) 163 rfl tb_6 rfl
theorem qe_X12_leavesOne : Cond.selects RX12 yX12_leavesOne yX12_leavesOne ∈ W0 := w0_s 34 rfl rfl
theorem qc_X12_leavesOne : Cond.code yX12_leavesOne cX12_leavesOne 5 none ∈ W0 := w0_m (a := tables_1_6) 164 rfl tb_6 rfl
theorem qm_12_259 : Cond.methodLink RX12 259 yX12_lands ∈ W0 := w0_m (a := tables_1_6) 169 rfl tb_6 rfl
theorem qi_X12_lands : Cond.instanceMethod yX12_lands ∈ W0 := w0_m (a := tables_1_6) 171 rfl tb_6 rfl
theorem qe_X12_lands : Cond.selects RX12 yX12_lands yX12_lands ∈ W0 := w0_s 36 rfl rfl
theorem qc_X12_lands : Cond.code yX12_lands cX12_lands 1 none ∈ W0 := w0_m (a := tables_1_6) 172 rfl tb_6 rfl
theorem qm_12_262 : Cond.methodLink RX12 262 yX12_off ∈ W0 := w0_m (a := tables_1_6) 203 rfl tb_6 rfl
theorem qi_X12_off : Cond.instanceMethod yX12_off ∈ W0 := w0_m (a := tables_1_6) 205 rfl tb_6 rfl
theorem qe_X12_off : Cond.selects RX12 yX12_off yX12_off ∈ W0 := w0_s 43 rfl rfl
theorem qc_X12_off : Cond.code yX12_off cX12_off 1 (some .int) ∈ W0 := w0_m (a := tables_1_6) 206 rfl tb_6 rfl
theorem ql_12_265 : Cond.constantLong RX12 265 (4) ∈ W0 := w0_m (a := tables_1_6) 156 rfl tb_6 rfl
theorem qm_12_267 : Cond.methodLink RX12 267 yX12_falls ∈ W0 := w0_m (a := tables_1_6) 157 rfl tb_6 rfl
theorem qi_X12_falls : Cond.instanceMethod yX12_falls ∈ W0 := w0_m (a := tables_1_6) 159 rfl tb_6 rfl
theorem qe_X12_falls : Cond.selects RX12 yX12_falls yX12_falls ∈ W0 := w0_s 33 rfl rfl
theorem qc_X12_falls : Cond.code yX12_falls cX12_falls 5 none ∈ W0 := w0_m (a := tables_1_6) 160 rfl tb_6 rfl
theorem qm_12_270 : Cond.methodLink RX12 270 yX12_toldOf ∈ W0 := w0_m (a := tables_1_6) 199 rfl tb_6 rfl
theorem qi_X12_toldOf : Cond.instanceMethod yX12_toldOf ∈ W0 := w0_m (a := tables_1_6) 201 rfl tb_6 rfl
theorem qe_X12_toldOf : Cond.selects RX12 yX12_toldOf yX12_toldOf ∈ W0 := w0_s 42 rfl rfl
theorem qc_X12_toldOf : Cond.code yX12_toldOf cX12_toldOf 2 (some .int) ∈ W0 := w0_m (a := tables_1_6) 202 rfl tb_6 rfl
theorem qm_12_273 : Cond.methodLink RX12 273 yX12_fallBy ∈ W0 := w0_m (a := tables_1_6) 211 rfl tb_6 rfl
theorem qi_X12_fallBy : Cond.instanceMethod yX12_fallBy ∈ W0 := w0_m (a := tables_1_6) 153 rfl tb_6 rfl
theorem qe_X12_fallBy : Cond.selects RX12 yX12_fallBy yX12_fallBy ∈ W0 := w0_m (a := tables_1_6) 154 rfl tb_6 rfl
theorem qc_X12_fallBy : Cond.code yX12_fallBy cX12_fallBy 6 (some .int) ∈ W0 := w0_m (a := tables_1_6) 155 rfl tb_6 rfl
theorem ql_12_277 : Cond.constantLong RX12 277 (400) ∈ W0 := w0_m (a := tables_1_6) 216 rfl tb_6 rfl
theorem ql_12_279 : Cond.constantLong RX12 279 (5) ∈ W0 := w0_m (a := tables_1_6) 235 rfl tb_6 rfl
theorem ql_12_281 : Cond.constantLong RX12 281 (20) ∈ W0 := w0_m (a := tables_1_6) 229 rfl tb_6 rfl
theorem ql_12_283 : Cond.constantLong RX12 283 (60000) ∈ W0 := w0_m (a := tables_1_6) 230 rfl tb_6 rfl
theorem qm_12_285 : Cond.methodLink RX12 285 yX12_wrongLoad ∈ W0 := w0_m (a := tables_1_6) 231 rfl tb_6 rfl
theorem qi_X12_wrongLoad : Cond.instanceMethod yX12_wrongLoad ∈ W0 := w0_m (a := tables_1_6) 233 rfl tb_6 rfl
theorem qe_X12_wrongLoad : Cond.selects RX12 yX12_wrongLoad yX12_wrongLoad ∈ W0 := w0_s 44 rfl rfl
theorem qc_X12_wrongLoad : Cond.code yX12_wrongLoad cX12_wrongLoad 4 (some .int) ∈ W0 := w0_m (a := tables_1_6) 234 rfl tb_6 rfl
theorem qm_12_288 : Cond.methodLink RX12 288 yX12_loadOf ∈ W0 := w0_m (a := tables_1_6) 236 rfl tb_6 rfl
theorem qi_X12_loadOf : Cond.instanceMethod yX12_loadOf ∈ W0 := w0_m (a := tables_1_6) 238 rfl tb_6 rfl
theorem qe_X12_loadOf : Cond.selects RX12 yX12_loadOf yX12_loadOf ∈ W0 := w0_s 45 rfl rfl
theorem qc_X12_loadOf : Cond.code yX12_loadOf cX12_loadOf 9 (some .int) ∈ W0 := w0_m (a := tables_1_6) 239 rfl tb_6 rfl
theorem qk_12_291 : Cond.constant RX12 291 (-1000000000) ∈ W0 := w0_m (a := tables_1_7) 4 rfl tb_7 rfl
theorem qk_12_301 : Cond.constant RX12 301 (-1000000004) ∈ W0 := w0_m (a := tables_1_7) 29 rfl tb_7 rfl
theorem qm_12_302 : Cond.methodLink RX12 302 yX12_isWithin ∈ W0 := w0_m (a := tables_1_7) 34 rfl tb_7 rfl
theorem qi_X12_isWithin : Cond.instanceMethod yX12_isWithin ∈ W0 := w0_m (a := tables_1_7) 36 rfl tb_7 rfl
theorem qe_X12_isWithin : Cond.selects RX12 yX12_isWithin yX12_isWithin ∈ W0 := w0_s 47 rfl rfl
theorem qc_X12_isWithin : Cond.code yX12_isWithin cX12_isWithin 6 (some .boolean) ∈ W0 := w0_m (a := tables_1_7) 37 rfl tb_7 rfl
theorem qm_12_306 : Cond.methodLink RX12 306 yX12_withinOf ∈ W0 := w0_m (a := tables_1_7) 38 rfl tb_7 rfl
theorem qi_X12_withinOf : Cond.instanceMethod yX12_withinOf ∈ W0 := w0_m (a := tables_1_7) 40 rfl tb_7 rfl
theorem qe_X12_withinOf : Cond.selects RX12 yX12_withinOf yX12_withinOf ∈ W0 := w0_s 48 rfl rfl
theorem qc_X12_withinOf : Cond.code yX12_withinOf cX12_withinOf 9 (some .int) ∈ W0 := w0_m (a := tables_1_7) 41 rfl tb_7 rfl
theorem ql_12_310 : Cond.constantLong RX12 310 (999) ∈ W0 := w0_m (a := tables_1_7) 58 rfl tb_7 rfl
theorem ql_12_312 : Cond.constantLong RX12 312 (9999) ∈ W0 := w0_m (a := tables_1_7) 59 rfl tb_7 rfl
theorem qf_12_46 : Cond.fieldLink RX12 46 "TenYardsModel" "crateX" "[I" ∈ W0 := w0_m (a := tables_1_5) 174 rfl tb_5 rfl
theorem qf_12_49 : Cond.fieldLink RX12 49 "TenYardsModel" "crateY" "[I" ∈ W0 := w0_m (a := tables_1_5) 175 rfl tb_5 rfl
theorem qk_12_314 : Cond.constant RX12 314 (-2147483648) ∈ W0 := w0_m (a := tables_1_7) 72 rfl tb_7 rfl
theorem qm_12_315 : Cond.methodLink RX12 315 yX12_leastOf ∈ W0 := w0_m (a := tables_1_7) 68 rfl tb_7 rfl
theorem qi_X12_leastOf : Cond.instanceMethod yX12_leastOf ∈ W0 := w0_m (a := tables_1_7) 70 rfl tb_7 rfl
theorem qe_X12_leastOf : Cond.selects RX12 yX12_leastOf yX12_leastOf ∈ W0 := w0_s 49 rfl rfl
theorem qc_X12_leastOf : Cond.code yX12_leastOf cX12_leastOf 2 (some .int) ∈ W0 := w0_m (a := tables_1_7) 71 rfl tb_7 rfl
theorem qf_12_318 : Cond.fieldLink RX12 318 "TenYardsModel" "hasImage" "Z" ∈ W0 := w0_m (a := tables_1_5) 149 rfl tb_5 rfl
theorem qf_12_13 : Cond.fieldLink RX12 13 "TenYardsModel" "image" "[I" ∈ W0 := w0_m (a := tables_1_5) 141 rfl tb_5 rfl
theorem qf_12_31 : Cond.fieldLink RX12 31 "TenYardsModel" "keptCare" "[I" ∈ W0 := w0_m (a := tables_1_5) 147 rfl tb_5 rfl
theorem qm_12_322 : Cond.methodLink RX12 322 yX12_careOf ∈ W0 := w0_m (a := tables_1_7) 89 rfl tb_7 rfl
theorem qi_X12_careOf : Cond.instanceMethod yX12_careOf ∈ W0 := w0_m (a := tables_1_7) 91 rfl tb_7 rfl
theorem qe_X12_careOf : Cond.selects RX12 yX12_careOf yX12_careOf ∈ W0 := w0_s 50 rfl rfl
theorem qc_X12_careOf : Cond.code yX12_careOf cX12_careOf 3 (some .int) ∈ W0 := w0_m (a := tables_1_7) 92 rfl tb_7 rfl
theorem qf_12_34 : Cond.fieldLink RX12 34 "TenYardsModel" "keptToss" "[I" ∈ W0 := w0_m (a := tables_1_5) 148 rfl tb_5 rfl
theorem qm_12_325 : Cond.methodLink RX12 325 yX12_wrongKept ∈ W0 := w0_m (a := tables_1_7) 113 rfl tb_7 rfl
theorem qi_X12_wrongKept : Cond.instanceMethod yX12_wrongKept ∈ W0 := w0_m (a := tables_1_7) 115 rfl tb_7 rfl
theorem qe_X12_wrongKept : Cond.selects RX12 yX12_wrongKept yX12_wrongKept ∈ W0 := w0_s 51 rfl rfl
theorem qc_X12_wrongKept : Cond.code yX12_wrongKept cX12_wrongKept 2 (some .int) ∈ W0 := w0_m (a := tables_1_7) 116 rfl tb_7 rfl
theorem kc_12_56 : cS RX12 56 yX12_isIn cX12_isIn 6 (some .boolean) := ⟨qm_12_56, qs_X12_isIn, qn_12, qc_X12_isIn⟩
theorem kc_12_75 : cV RX12 75 RX12 yX12_here cX12_here 1 (some .int) := ⟨qm_12_75, qi_X12_here, qe_X12_here, qn_12, qc_X12_here⟩
theorem kc_12_83 : cV RX12 83 RX12 yX12_isDigit cX12_isDigit 1 (some .boolean) := ⟨qm_12_83, qi_X12_isDigit, qe_X12_isDigit, qn_12, qc_X12_isDigit⟩
theorem kc_12_90 : cV RX12 90 RX12 yX12_readsDigit cX12_readsDigit 1 (some .boolean) := ⟨qm_12_90, qi_X12_readsDigit, qe_X12_readsDigit, qn_12, qc_X12_readsDigit⟩
theorem kc_12_93 : cV RX12 93 RX12 yX12_readsNumber cX12_readsNumber 2 (some .boolean) := ⟨qm_12_93, qi_X12_readsNumber, qe_X12_readsNumber, qn_12, qc_X12_readsNumber⟩
theorem kc_12_96 : cV RX12 96 RX12 yX12_readsSigned cX12_readsSigned 2 (some .boolean) := ⟨qm_12_96, qi_X12_readsSigned, qe_X12_readsSigned, qn_12, qc_X12_readsSigned⟩
theorem kc_12_99 : cV RX12 99 RX12 yX12_takes cX12_takes 2 (some .boolean) := ⟨qm_12_99, qi_X12_takes, qe_X12_takes, qn_12, qc_X12_takes⟩
theorem kc_12_121 : cS RX12 121 yX12_lesser cX12_lesser 2 (some .int) := ⟨qm_12_121, qs_X12_lesser, qn_12, qc_X12_lesser⟩
theorem kc_12_115 : cS RX12 115 yX12_isValue cX12_isValue 2 (some .boolean) := ⟨qm_12_115, qs_X12_isValue, qn_12, qc_X12_isValue⟩
theorem kc_12_125 : cS RX12 125 yX12_isShelf cX12_isShelf 1 (some .boolean) := ⟨qm_12_125, qs_X12_isShelf, qn_12, qc_X12_isShelf⟩
theorem kc_12_128 : cV RX12 128 RX12 yX12_wrongRow cX12_wrongRow 3 (some .int) := ⟨qm_12_128, qi_X12_wrongRow, qe_X12_wrongRow, qn_12, qc_X12_wrongRow⟩
theorem kc_12_131 : cV RX12 131 RX12 yX12_readsStatement cX12_readsStatement 3 (some .boolean) := ⟨qm_12_131, qi_X12_readsStatement, qe_X12_readsStatement, qn_12, qc_X12_readsStatement⟩
theorem kc_12_134 : cV RX12 134 RX12 yX12_comes cX12_comes 7 (some .boolean) := ⟨qm_12_134, qi_X12_comes, qe_X12_comes, qn_12, qc_X12_comes⟩
theorem kc_12_144 : cV RX12 144 RX12 yX12_east cX12_east 2 (some .int) := ⟨qm_12_144, qi_X12_east, qe_X12_east, qn_12, qc_X12_east⟩
theorem kc_12_140 : cV RX12 140 RX12 yX12_north cX12_north 2 (some .int) := ⟨qm_12_140, qi_X12_north, qe_X12_north, qn_12, qc_X12_north⟩
theorem kc_12_149 : cV RX12 149 RX12 yX12_isFaller cX12_isFaller 2 (some .boolean) := ⟨qm_12_149, qi_X12_isFaller, qe_X12_isFaller, qn_12, qc_X12_isFaller⟩
theorem kc_12_152 : cV RX12 152 RX12 yX12_of cX12_of 3 (some .int) := ⟨qm_12_152, qi_X12_of, qe_X12_of, qn_12, qc_X12_of⟩
theorem kc_12_161 : cS RX12 161 yX12_paceBy cX12_paceBy 2 (some .int) := ⟨qm_12_161, qs_X12_paceBy, qn_12, qc_X12_paceBy⟩
theorem kc_12_158 : cS RX12 158 yX12_sinksBy cX12_sinksBy 2 (some .int) := ⟨qm_12_158, qs_X12_sinksBy, qn_12, qc_X12_sinksBy⟩
theorem kc_12_155 : cS RX12 155 yX12_fallsBy cX12_fallsBy 1 (some .int) := ⟨qm_12_155, qs_X12_fallsBy, qn_12, qc_X12_fallsBy⟩
theorem kc_12_168 : cS RX12 168 yX12_driftBy cX12_driftBy 2 (some .int) := ⟨qm_12_168, qs_X12_driftBy, qn_12, qc_X12_driftBy⟩
theorem kc_12_171 : cS RX12 171 yX12_amount cX12_amount 1 (some .int) := ⟨qm_12_171, qs_X12_amount, qn_12, qc_X12_amount⟩
theorem kc_12_180 : cV RX12 180 RX12 yX12_toward cX12_toward 7 none := ⟨qm_12_180, qi_X12_toward, qe_X12_toward, qn_12, qc_X12_toward⟩
theorem kc_12_184 : cS RX12 184 yX12_isEdge cX12_isEdge 1 (some .boolean) := ⟨qm_12_184, qs_X12_isEdge, qn_12, qc_X12_isEdge⟩
theorem kc_12_187 : cV RX12 187 RX12 yX12_steersBy cX12_steersBy 9 none := ⟨qm_12_187, qi_X12_steersBy, qe_X12_steersBy, qn_12, qc_X12_steersBy⟩
theorem kc_12_191 : cV RX12 191 RX12 yX12_isBarred cX12_isBarred 5 (some .boolean) := ⟨qm_12_191, qi_X12_isBarred, qe_X12_isBarred, qn_12, qc_X12_isBarred⟩
theorem kc_12_224 : cV RX12 224 RX12 yX12_leaves cX12_leaves 7 none := ⟨qm_12_224, qi_X12_leaves, qe_X12_leaves, qn_12, qc_X12_leaves⟩
theorem kc_12_246 : cV RX12 246 RX12 yX12_holdsWay cX12_holdsWay 2 none := ⟨qm_12_246, qi_X12_holdsWay, qe_X12_holdsWay, qn_12, qc_X12_holdsWay⟩
theorem kc_12_230 : cS RX12 230 yX12_held cX12_held 1 (some .int) := ⟨qm_12_230, qs_X12_held, qn_12, qc_X12_held⟩
theorem kc_12_233 : cV RX12 233 RX12 yX12_goesDown cX12_goesDown 2 none := ⟨qm_12_233, qi_X12_goesDown, qe_X12_goesDown, qn_12, qc_X12_goesDown⟩
theorem kc_12_243 : cV RX12 243 RX12 yX12_drawn cX12_drawn 2 (some .int) := ⟨qm_12_243, qi_X12_drawn, qe_X12_drawn, qn_12, qc_X12_drawn⟩
theorem kc_12_249 : cV RX12 249 RX12 yX12_hasLanded cX12_hasLanded 1 (some .boolean) := ⟨qm_12_249, qi_X12_hasLanded, qe_X12_hasLanded, qn_12, qc_X12_hasLanded⟩
theorem kc_12_252 : cV RX12 252 RX12 yX12_goesSecond cX12_goesSecond 5 none := ⟨qm_12_252, qi_X12_goesSecond, qe_X12_goesSecond, qn_12, qc_X12_goesSecond⟩
theorem kc_12_255 : cV RX12 255 RX12 yX12_leavesOne cX12_leavesOne 5 none := ⟨qm_12_255, qi_X12_leavesOne, qe_X12_leavesOne, qn_12, qc_X12_leavesOne⟩
theorem kc_12_259 : cV RX12 259 RX12 yX12_lands cX12_lands 1 none := ⟨qm_12_259, qi_X12_lands, qe_X12_lands, qn_12, qc_X12_lands⟩
theorem kc_12_262 : cV RX12 262 RX12 yX12_off cX12_off 1 (some .int) := ⟨qm_12_262, qi_X12_off, qe_X12_off, qn_12, qc_X12_off⟩
theorem kc_12_267 : cV RX12 267 RX12 yX12_falls cX12_falls 5 none := ⟨qm_12_267, qi_X12_falls, qe_X12_falls, qn_12, qc_X12_falls⟩
theorem kc_12_270 : cV RX12 270 RX12 yX12_toldOf cX12_toldOf 2 (some .int) := ⟨qm_12_270, qi_X12_toldOf, qe_X12_toldOf, qn_12, qc_X12_toldOf⟩
theorem kc_12_273 : cV RX12 273 RX12 yX12_fallBy cX12_fallBy 6 (some .int) := ⟨qm_12_273, qi_X12_fallBy, qe_X12_fallBy, qn_12, qc_X12_fallBy⟩
theorem kc_12_285 : cV RX12 285 RX12 yX12_wrongLoad cX12_wrongLoad 4 (some .int) := ⟨qm_12_285, qi_X12_wrongLoad, qe_X12_wrongLoad, qn_12, qc_X12_wrongLoad⟩
theorem kc_12_288 : cV RX12 288 RX12 yX12_loadOf cX12_loadOf 9 (some .int) := ⟨qm_12_288, qi_X12_loadOf, qe_X12_loadOf, qn_12, qc_X12_loadOf⟩
theorem kc_12_302 : cV RX12 302 RX12 yX12_isWithin cX12_isWithin 6 (some .boolean) := ⟨qm_12_302, qi_X12_isWithin, qe_X12_isWithin, qn_12, qc_X12_isWithin⟩
theorem kc_12_306 : cV RX12 306 RX12 yX12_withinOf cX12_withinOf 9 (some .int) := ⟨qm_12_306, qi_X12_withinOf, qe_X12_withinOf, qn_12, qc_X12_withinOf⟩
theorem kc_12_315 : cV RX12 315 RX12 yX12_leastOf cX12_leastOf 2 (some .int) := ⟨qm_12_315, qi_X12_leastOf, qe_X12_leastOf, qn_12, qc_X12_leastOf⟩
theorem kc_12_322 : cV RX12 322 RX12 yX12_careOf cX12_careOf 3 (some .int) := ⟨qm_12_322, qi_X12_careOf, qe_X12_careOf, qn_12, qc_X12_careOf⟩
theorem kc_12_325 : cV RX12 325 RX12 yX12_wrongKept cX12_wrongKept 2 (some .int) := ⟨qm_12_325, qi_X12_wrongKept, qe_X12_wrongKept, qn_12, qc_X12_wrongKept⟩
theorem yo_X12_isIn : yOK yX12_isIn 3 := by decide +kernel
theorem yo_X12_here : yOK yX12_here 0 := by decide +kernel
theorem yo_X12_isDigit : yOK yX12_isDigit 0 := by decide +kernel
theorem yo_X12_readsDigit : yOK yX12_readsDigit 0 := by decide +kernel
theorem yo_X12_readsNumber : yOK yX12_readsNumber 0 := by decide +kernel
theorem yo_X12_readsSigned : yOK yX12_readsSigned 0 := by decide +kernel
theorem yo_X12_takes : yOK yX12_takes 1 := by decide +kernel
theorem yo_X12_lesser : yOK yX12_lesser 2 := by decide +kernel
theorem yo_X12_isValue : yOK yX12_isValue 2 := by decide +kernel
theorem yo_X12_isShelf : yOK yX12_isShelf 1 := by decide +kernel
theorem yo_X12_wrongRow : yOK yX12_wrongRow 2 := by decide +kernel
theorem yo_X12_readsStatement : yOK yX12_readsStatement 0 := by decide +kernel
theorem yo_X12_comes : yOK yX12_comes 1 := by decide +kernel
theorem yo_X12_east : yOK yX12_east 1 := by decide +kernel
theorem yo_X12_north : yOK yX12_north 1 := by decide +kernel
theorem yo_X12_isFaller : yOK yX12_isFaller 1 := by decide +kernel
theorem yo_X12_of : yOK yX12_of 2 := by decide +kernel
theorem yo_X12_paceBy : yOK yX12_paceBy 2 := by decide +kernel
theorem yo_X12_sinksBy : yOK yX12_sinksBy 2 := by decide +kernel
theorem yo_X12_fallsBy : yOK yX12_fallsBy 1 := by decide +kernel
theorem yo_X12_driftBy : yOK yX12_driftBy 2 := by decide +kernel
theorem yo_X12_amount : yOK yX12_amount 1 := by decide +kernel
theorem yo_X12_toward : yOK yX12_toward 4 := by decide +kernel
theorem yo_X12_isEdge : yOK yX12_isEdge 1 := by decide +kernel
theorem yo_X12_steersBy : yOK yX12_steersBy 6 := by decide +kernel
theorem yo_X12_isBarred : yOK yX12_isBarred 2 := by decide +kernel
theorem yo_X12_leaves : yOK yX12_leaves 6 := by decide +kernel
theorem yo_X12_holdsWay : yOK yX12_holdsWay 0 := by decide +kernel
theorem yo_X12_held : yOK yX12_held 1 := by decide +kernel
theorem yo_X12_goesDown : yOK yX12_goesDown 1 := by decide +kernel
theorem yo_X12_drawn : yOK yX12_drawn 1 := by decide +kernel
theorem yo_X12_hasLanded : yOK yX12_hasLanded 0 := by decide +kernel
theorem yo_X12_goesSecond : yOK yX12_goesSecond 0 := by decide +kernel
theorem yo_X12_leavesOne : yOK yX12_leavesOne 4 := by decide +kernel
theorem yo_X12_lands : yOK yX12_lands 0 := by decide +kernel
theorem yo_X12_off : yOK yX12_off 0 := by decide +kernel
theorem yo_X12_falls : yOK yX12_falls 4 := by decide +kernel
theorem yo_X12_toldOf : yOK yX12_toldOf 1 := by decide +kernel
theorem yo_X12_fallBy : yOK yX12_fallBy 5 := by decide +kernel
theorem yo_X12_wrongLoad : yOK yX12_wrongLoad 1 := by decide +kernel
theorem yo_X12_loadOf : yOK yX12_loadOf 5 := by decide +kernel
theorem yo_X12_isWithin : yOK yX12_isWithin 5 := by decide +kernel
theorem yo_X12_withinOf : yOK yX12_withinOf 6 := by decide +kernel
theorem yo_X12_leastOf : yOK yX12_leastOf 1 := by decide +kernel
theorem yo_X12_careOf : yOK yX12_careOf 1 := by decide +kernel
theorem yo_X12_wrongKept : yOK yX12_wrongKept 1 := by decide +kernel
theorem fo_12_10 : 10 < cN 12 ∧ fk 12 10 = 0 := by decide
theorem ky_14_100 : ((14, 100) : Nat × Nat) ∈ KY := by decide
theorem fo_12_0 : 0 < cN 12 ∧ fk 12 0 = 1 := by decide
theorem ky_14_0 : ((14, 0) : Nat × Nat) ∈ KY := by decide
theorem ka_14_0 : 0 ≠ 100 ∧ ak (14, 0) = 0 ∧ al (ci 14) 0 = 73 := by decide
theorem fo_12_11 : 11 < cN 12 ∧ fk 12 11 = 0 := by decide
theorem fo_12_13 : 13 < cN 12 ∧ fk 12 13 = 0 := by decide
theorem fo_12_6 : 6 < cN 12 ∧ fk 12 6 = 1 := by decide
theorem fo_12_12 : 12 < cN 12 ∧ fk 12 12 = 0 := by decide
theorem ky_14_6 : ((14, 6) : Nat × Nat) ∈ KY := by decide
theorem ka_14_6 : 6 ≠ 100 ∧ ak (14, 6) = 0 ∧ al (ci 14) 6 = 800 := by decide
theorem fp_12_11 : 11 < cN 12 ∧ fk 12 11 = 0 ∧ (cT 12 11).2.2.2 = false ∧ parseFieldDescriptor (cT 12 11).2.2.1 = some .int := by decide +kernel
theorem fo_12_15 : 15 < cN 12 ∧ fk 12 15 = 1 := by decide
theorem fo_12_14 : 14 < cN 12 ∧ fk 12 14 = 0 := by decide
theorem ky_14_15 : ((14, 15) : Nat × Nat) ∈ KY := by decide
theorem ka_14_15 : 15 ≠ 100 ∧ ak (14, 15) = 0 ∧ al (ci 14) 15 = 4 := by decide
theorem fp_12_14 : 14 < cN 12 ∧ fk 12 14 = 0 ∧ (cT 12 14).2.2.2 = false ∧ parseFieldDescriptor (cT 12 14).2.2.1 = some .int := by decide +kernel
theorem fo_12_2 : 2 < cN 12 ∧ fk 12 2 = 1 := by decide
theorem ky_14_2 : ((14, 2) : Nat × Nat) ∈ KY := by decide
theorem ka_14_2 : 2 ≠ 100 ∧ ak (14, 2) = 0 ∧ al (ci 14) 2 = 73 := by decide
theorem fo_12_3 : 3 < cN 12 ∧ fk 12 3 = 1 := by decide
theorem ky_14_3 : ((14, 3) : Nat × Nat) ∈ KY := by decide
theorem ka_14_3 : 3 ≠ 100 ∧ ak (14, 3) = 0 ∧ al (ci 14) 3 = 8 := by decide
theorem fo_12_4 : 4 < cN 12 ∧ fk 12 4 = 1 := by decide
theorem ky_14_4 : ((14, 4) : Nat × Nat) ∈ KY := by decide
theorem ka_14_4 : 4 ≠ 100 ∧ ak (14, 4) = 0 ∧ al (ci 14) 4 = 8 := by decide
theorem fp_12_12 : 12 < cN 12 ∧ fk 12 12 = 0 ∧ (cT 12 12).2.2.2 = false ∧ parseFieldDescriptor (cT 12 12).2.2.1 = some .int := by decide +kernel
theorem fo_12_5 : 5 < cN 12 ∧ fk 12 5 = 1 := by decide
theorem ky_14_5 : ((14, 5) : Nat × Nat) ∈ KY := by decide
theorem ka_14_5 : 5 ≠ 100 ∧ ak (14, 5) = 0 ∧ al (ci 14) 5 = 8 := by decide
theorem fp_12_13 : 13 < cN 12 ∧ fk 12 13 = 0 ∧ (cT 12 13).2.2.2 = false ∧ parseFieldDescriptor (cT 12 13).2.2.1 = some .int := by decide +kernel
theorem fp_12_17 : 17 < cN 12 ∧ fk 12 17 = 0 ∧ (cT 12 17).2.2.2 = false ∧ parseFieldDescriptor (cT 12 17).2.2.1 = some .int := by decide +kernel
theorem fp_12_16 : 16 < cN 12 ∧ fk 12 16 = 0 ∧ (cT 12 16).2.2.2 = false ∧ parseFieldDescriptor (cT 12 16).2.2.1 = some .int := by decide +kernel
theorem fo_12_16 : 16 < cN 12 ∧ fk 12 16 = 0 := by decide
theorem fo_12_17 : 17 < cN 12 ∧ fk 12 17 = 0 := by decide
theorem fp_12_18 : 18 < cN 12 ∧ fk 12 18 = 0 ∧ (cT 12 18).2.2.2 = false ∧ parseFieldDescriptor (cT 12 18).2.2.1 = some .int := by decide +kernel
theorem fp_12_19 : 19 < cN 12 ∧ fk 12 19 = 0 ∧ (cT 12 19).2.2.2 = false ∧ parseFieldDescriptor (cT 12 19).2.2.1 = some .int := by decide +kernel
theorem fp_12_20 : 20 < cN 12 ∧ fk 12 20 = 0 ∧ (cT 12 20).2.2.2 = false ∧ parseFieldDescriptor (cT 12 20).2.2.1 = some .int := by decide +kernel
theorem fp_12_21 : 21 < cN 12 ∧ fk 12 21 = 0 ∧ (cT 12 21).2.2.2 = false ∧ parseFieldDescriptor (cT 12 21).2.2.1 = some .int := by decide +kernel
theorem fp_12_22 : 22 < cN 12 ∧ fk 12 22 = 0 ∧ (cT 12 22).2.2.2 = false ∧ parseFieldDescriptor (cT 12 22).2.2.1 = some .int := by decide +kernel
theorem fp_12_23 : 23 < cN 12 ∧ fk 12 23 = 0 ∧ (cT 12 23).2.2.2 = false ∧ parseFieldDescriptor (cT 12 23).2.2.1 = some .int := by decide +kernel
theorem fp_12_24 : 24 < cN 12 ∧ fk 12 24 = 0 ∧ (cT 12 24).2.2.2 = false ∧ parseFieldDescriptor (cT 12 24).2.2.1 = some .int := by decide +kernel
theorem fp_12_25 : 25 < cN 12 ∧ fk 12 25 = 0 ∧ (cT 12 25).2.2.2 = false ∧ parseFieldDescriptor (cT 12 25).2.2.1 = some .int := by decide +kernel
theorem fp_12_26 : 26 < cN 12 ∧ fk 12 26 = 0 ∧ (cT 12 26).2.2.2 = false ∧ parseFieldDescriptor (cT 12 26).2.2.1 = some .int := by decide +kernel
theorem fp_12_29 : 29 < cN 12 ∧ fk 12 29 = 0 ∧ (cT 12 29).2.2.2 = false ∧ parseFieldDescriptor (cT 12 29).2.2.1 = some .int := by decide +kernel
theorem fo_12_24 : 24 < cN 12 ∧ fk 12 24 = 0 := by decide
theorem fo_12_26 : 26 < cN 12 ∧ fk 12 26 = 0 := by decide
theorem fo_12_18 : 18 < cN 12 ∧ fk 12 18 = 0 := by decide
theorem fo_12_19 : 19 < cN 12 ∧ fk 12 19 = 0 := by decide
theorem fo_12_21 : 21 < cN 12 ∧ fk 12 21 = 0 := by decide
theorem fo_12_25 : 25 < cN 12 ∧ fk 12 25 = 0 := by decide
theorem fo_12_20 : 20 < cN 12 ∧ fk 12 20 = 0 := by decide
theorem fo_12_29 : 29 < cN 12 ∧ fk 12 29 = 0 := by decide
theorem fo_12_22 : 22 < cN 12 ∧ fk 12 22 = 0 := by decide
theorem fo_12_23 : 23 < cN 12 ∧ fk 12 23 = 0 := by decide
theorem fp_12_27 : 27 < cN 12 ∧ fk 12 27 = 0 ∧ (cT 12 27).2.2.2 = false ∧ parseFieldDescriptor (cT 12 27).2.2.1 = some .int := by decide +kernel
theorem fp_12_28 : 28 < cN 12 ∧ fk 12 28 = 0 ∧ (cT 12 28).2.2.2 = false ∧ parseFieldDescriptor (cT 12 28).2.2.1 = some .int := by decide +kernel
theorem fo_12_27 : 27 < cN 12 ∧ fk 12 27 = 0 := by decide
theorem fo_12_28 : 28 < cN 12 ∧ fk 12 28 = 0 := by decide
theorem fo_12_34 : 34 < cN 12 ∧ fk 12 34 = 1 := by decide
theorem ky_14_34 : ((14, 34) : Nat × Nat) ∈ KY := by decide
theorem ka_14_34 : 34 ≠ 100 ∧ ak (14, 34) = 0 ∧ al (ci 14) 34 = 5 := by decide
theorem fo_12_35 : 35 < cN 12 ∧ fk 12 35 = 1 := by decide
theorem ky_14_35 : ((14, 35) : Nat × Nat) ∈ KY := by decide
theorem ka_14_35 : 35 ≠ 100 ∧ ak (14, 35) = 0 ∧ al (ci 14) 35 = 5 := by decide
theorem fp_12_9 : 9 < cN 12 ∧ fk 12 9 = 0 ∧ (cT 12 9).2.2.2 = false ∧ parseFieldDescriptor (cT 12 9).2.2.1 = some .boolean := by decide +kernel
theorem fo_12_1 : 1 < cN 12 ∧ fk 12 1 = 1 := by decide
theorem ky_14_1 : ((14, 1) : Nat × Nat) ∈ KY := by decide
theorem ka_14_1 : 1 ≠ 100 ∧ ak (14, 1) = 0 ∧ al (ci 14) 1 = 73 := by decide
theorem fo_12_9 : 9 < cN 12 ∧ fk 12 9 = 0 := by decide
theorem fo_12_7 : 7 < cN 12 ∧ fk 12 7 = 1 := by decide
theorem ky_14_7 : ((14, 7) : Nat × Nat) ∈ KY := by decide
theorem ka_14_7 : 7 ≠ 100 ∧ ak (14, 7) = 0 ∧ al (ci 14) 7 = 8 := by decide
theorem fo_12_8 : 8 < cN 12 ∧ fk 12 8 = 1 := by decide
theorem ky_14_8 : ((14, 8) : Nat × Nat) ∈ KY := by decide
theorem ka_14_8 : 8 ≠ 100 ∧ ak (14, 8) = 0 ∧ al (ci 14) 8 = 8 := by decide
theorem fp_12_10 : 10 < cN 12 ∧ fk 12 10 = 0 ∧ (cT 12 10).2.2.2 = false ∧ parseFieldDescriptor (cT 12 10).2.2.1 = some .int := by decide +kernel
