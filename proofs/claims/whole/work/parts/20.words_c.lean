theorem qo_4 : Cond.methodLink RX4 1 objectInit ∈ W0 := w0_m (a := tables_1_1) 98 rfl tb_1 rfl
theorem qo_im : Cond.instanceMethod objectInit ∈ W0 := w0_m (a := tables_1_1) 33 rfl tb_1 rfl
theorem qo_co : Cond.code objectInit ⟨#[0xb1]⟩ 1 none ∈ W0 := w0_m (a := tables_1_1) 34 rfl tb_1 rfl
theorem qf_4_7 : Cond.fieldLink RX4 7 "TenYards$Faller" "kind" "I" ∈ W0 := w0_m (a := tables_1_1) 112 rfl tb_1 rfl
theorem qf_4_13 : Cond.fieldLink RX4 13 "TenYards$Faller" "falls" "I" ∈ W0 := w0_m (a := tables_1_1) 128 rfl tb_1 rfl
theorem qf_4_16 : Cond.fieldLink RX4 16 "TenYards$Faller" "sinks" "I" ∈ W0 := w0_m (a := tables_1_1) 145 rfl tb_1 rfl
theorem qf_4_19 : Cond.fieldLink RX4 19 "TenYards$Faller" "pace" "I" ∈ W0 := w0_m (a := tables_1_1) 152 rfl tb_1 rfl
theorem qf_4_22 : Cond.fieldLink RX4 22 "TenYards$Faller" "worth" "I" ∈ W0 := w0_m (a := tables_1_1) 170 rfl tb_1 rfl
theorem qf_4_25 : Cond.fieldLink RX4 25 "TenYards$Faller" "number" "I" ∈ W0 := w0_m (a := tables_1_1) 99 rfl tb_1 rfl
theorem qf_4_28 : Cond.fieldLink RX4 28 "TenYards$Faller" "figure" "I" ∈ W0 := w0_m (a := tables_1_1) 101 rfl tb_1 rfl
theorem qf_4_31 : Cond.fieldLink RX4 31 "TenYards$Faller" "opens" "I" ∈ W0 := w0_m (a := tables_1_1) 109 rfl tb_1 rfl
theorem qm_8_1 : Cond.methodLink RX8 1 yX4_init ∈ W0 := w0_m (a := tables_1_2) 209 rfl tb_2 rfl
theorem qi_X4_init : Cond.instanceMethod yX4_init ∈ W0 := w0_m (a := tables_1_1) 96 rfl tb_1 rfl
theorem qn_4 : Cond.initialized RX4 ∈ W0 := w0_m (a := tables_1_1) 4 rfl tb_1 rfl
theorem qc_X4_init : Cond.code yX4_init cX4_init 4 none ∈ W0 := w0_m (a := tables_1_1) 97 rfl tb_1 rfl
theorem qf_8_7 : Cond.fieldLink RX8 7 "TenYards$Papered" "kind" "I" ∈ W0 := w0_m (a := tables_1_1) 113 rfl tb_1 rfl
theorem qg_8_kind : Cond.sameField "TenYards$Papered" "TenYards$Faller" "kind" "I" ∈ W0 := w0_m (a := tables_1_1) 114 rfl tb_1 rfl
theorem qf_8_13 : Cond.fieldLink RX8 13 "TenYards$Papered" "sinks" "I" ∈ W0 := w0_m (a := tables_1_1) 135 rfl tb_1 rfl
theorem qg_8_sinks : Cond.sameField "TenYards$Papered" "TenYards$Faller" "sinks" "I" ∈ W0 := w0_m (a := tables_1_1) 136 rfl tb_1 rfl
theorem qf_8_16 : Cond.fieldLink RX8 16 "TenYards$Papered" "pace" "I" ∈ W0 := w0_m (a := tables_1_1) 153 rfl tb_1 rfl
theorem qg_8_pace : Cond.sameField "TenYards$Papered" "TenYards$Faller" "pace" "I" ∈ W0 := w0_m (a := tables_1_1) 154 rfl tb_1 rfl
theorem qf_8_19 : Cond.fieldLink RX8 19 "TenYards$Papered" "worth" "I" ∈ W0 := w0_m (a := tables_1_1) 168 rfl tb_1 rfl
theorem qg_8_worth : Cond.sameField "TenYards$Papered" "TenYards$Faller" "worth" "I" ∈ W0 := w0_m (a := tables_1_1) 169 rfl tb_1 rfl
theorem qm_7_1 : Cond.methodLink RX7 1 yX4_init ∈ W0 := w0_m (a := tables_1_2) 225 rfl tb_2 rfl
theorem qf_7_7 : Cond.fieldLink RX7 7 "TenYards$Light" "kind" "I" ∈ W0 := w0_m (a := tables_1_1) 115 rfl tb_1 rfl
theorem qg_7_kind : Cond.sameField "TenYards$Light" "TenYards$Faller" "kind" "I" ∈ W0 := w0_m (a := tables_1_1) 116 rfl tb_1 rfl
theorem qf_7_13 : Cond.fieldLink RX7 13 "TenYards$Light" "falls" "I" ∈ W0 := w0_m (a := tables_1_1) 129 rfl tb_1 rfl
theorem qg_7_falls : Cond.sameField "TenYards$Light" "TenYards$Faller" "falls" "I" ∈ W0 := w0_m (a := tables_1_1) 130 rfl tb_1 rfl
theorem qf_7_16 : Cond.fieldLink RX7 16 "TenYards$Light" "sinks" "I" ∈ W0 := w0_m (a := tables_1_1) 146 rfl tb_1 rfl
theorem qg_7_sinks : Cond.sameField "TenYards$Light" "TenYards$Faller" "sinks" "I" ∈ W0 := w0_m (a := tables_1_1) 147 rfl tb_1 rfl
theorem qf_7_19 : Cond.fieldLink RX7 19 "TenYards$Light" "pace" "I" ∈ W0 := w0_m (a := tables_1_1) 163 rfl tb_1 rfl
theorem qg_7_pace : Cond.sameField "TenYards$Light" "TenYards$Faller" "pace" "I" ∈ W0 := w0_m (a := tables_1_1) 164 rfl tb_1 rfl
theorem qf_7_22 : Cond.fieldLink RX7 22 "TenYards$Light" "worth" "I" ∈ W0 := w0_m (a := tables_1_1) 181 rfl tb_1 rfl
theorem qg_7_worth : Cond.sameField "TenYards$Light" "TenYards$Faller" "worth" "I" ∈ W0 := w0_m (a := tables_1_1) 182 rfl tb_1 rfl
theorem qm_5_1 : Cond.methodLink RX5 1 yX4_init ∈ W0 := w0_m (a := tables_1_3) 0 rfl tb_3 rfl
theorem qf_5_7 : Cond.fieldLink RX5 7 "TenYards$Heavy" "kind" "I" ∈ W0 := w0_m (a := tables_1_1) 117 rfl tb_1 rfl
theorem qg_5_kind : Cond.sameField "TenYards$Heavy" "TenYards$Faller" "kind" "I" ∈ W0 := w0_m (a := tables_1_1) 118 rfl tb_1 rfl
theorem qf_5_13 : Cond.fieldLink RX5 13 "TenYards$Heavy" "falls" "I" ∈ W0 := w0_m (a := tables_1_1) 131 rfl tb_1 rfl
theorem qg_5_falls : Cond.sameField "TenYards$Heavy" "TenYards$Faller" "falls" "I" ∈ W0 := w0_m (a := tables_1_1) 132 rfl tb_1 rfl
theorem qf_5_16 : Cond.fieldLink RX5 16 "TenYards$Heavy" "sinks" "I" ∈ W0 := w0_m (a := tables_1_1) 148 rfl tb_1 rfl
theorem qg_5_sinks : Cond.sameField "TenYards$Heavy" "TenYards$Faller" "sinks" "I" ∈ W0 := w0_m (a := tables_1_1) 149 rfl tb_1 rfl
theorem qf_5_19 : Cond.fieldLink RX5 19 "TenYards$Heavy" "pace" "I" ∈ W0 := w0_m (a := tables_1_1) 165 rfl tb_1 rfl
theorem qg_5_pace : Cond.sameField "TenYards$Heavy" "TenYards$Faller" "pace" "I" ∈ W0 := w0_m (a := tables_1_1) 166 rfl tb_1 rfl
theorem qf_5_22 : Cond.fieldLink RX5 22 "TenYards$Heavy" "worth" "I" ∈ W0 := w0_m (a := tables_1_1) 179 rfl tb_1 rfl
theorem qg_5_worth : Cond.sameField "TenYards$Heavy" "TenYards$Faller" "worth" "I" ∈ W0 := w0_m (a := tables_1_1) 180 rfl tb_1 rfl
theorem qm_6_1 : Cond.methodLink RX6 1 yX4_init ∈ W0 := w0_m (a := tables_1_3) 15 rfl tb_3 rfl
theorem qf_6_7 : Cond.fieldLink RX6 7 "TenYards$Holding" "kind" "I" ∈ W0 := w0_m (a := tables_1_1) 119 rfl tb_1 rfl
theorem qg_6_kind : Cond.sameField "TenYards$Holding" "TenYards$Faller" "kind" "I" ∈ W0 := w0_m (a := tables_1_1) 120 rfl tb_1 rfl
theorem qf_6_13 : Cond.fieldLink RX6 13 "TenYards$Holding" "sinks" "I" ∈ W0 := w0_m (a := tables_1_1) 137 rfl tb_1 rfl
theorem qg_6_sinks : Cond.sameField "TenYards$Holding" "TenYards$Faller" "sinks" "I" ∈ W0 := w0_m (a := tables_1_1) 138 rfl tb_1 rfl
theorem qf_6_16 : Cond.fieldLink RX6 16 "TenYards$Holding" "pace" "I" ∈ W0 := w0_m (a := tables_1_1) 155 rfl tb_1 rfl
theorem qg_6_pace : Cond.sameField "TenYards$Holding" "TenYards$Faller" "pace" "I" ∈ W0 := w0_m (a := tables_1_1) 156 rfl tb_1 rfl
theorem qf_6_19 : Cond.fieldLink RX6 19 "TenYards$Holding" "worth" "I" ∈ W0 := w0_m (a := tables_1_1) 173 rfl tb_1 rfl
theorem qg_6_worth : Cond.sameField "TenYards$Holding" "TenYards$Faller" "worth" "I" ∈ W0 := w0_m (a := tables_1_1) 174 rfl tb_1 rfl
theorem qm_1_1 : Cond.methodLink RX1 1 yX6_init ∈ W0 := w0_m (a := tables_1_3) 30 rfl tb_3 rfl
theorem qi_X6_init : Cond.instanceMethod yX6_init ∈ W0 := w0_m (a := tables_1_3) 13 rfl tb_3 rfl
theorem qn_6 : Cond.initialized RX6 ∈ W0 := w0_m (a := tables_1_1) 15 rfl tb_1 rfl
theorem qc_X6_init : Cond.code yX6_init cX6_init 4 none ∈ W0 := w0_m (a := tables_1_3) 14 rfl tb_3 rfl
theorem qf_1_7 : Cond.fieldLink RX1 7 "TenYards$Crabbing" "kind" "I" ∈ W0 := w0_m (a := tables_1_1) 121 rfl tb_1 rfl
theorem qg_1_kind : Cond.sameField "TenYards$Crabbing" "TenYards$Faller" "kind" "I" ∈ W0 := w0_m (a := tables_1_1) 122 rfl tb_1 rfl
theorem qf_1_13 : Cond.fieldLink RX1 13 "TenYards$Crabbing" "sinks" "I" ∈ W0 := w0_m (a := tables_1_1) 139 rfl tb_1 rfl
theorem qg_1_sinks : Cond.sameField "TenYards$Crabbing" "TenYards$Faller" "sinks" "I" ∈ W0 := w0_m (a := tables_1_1) 140 rfl tb_1 rfl
theorem qf_1_16 : Cond.fieldLink RX1 16 "TenYards$Crabbing" "pace" "I" ∈ W0 := w0_m (a := tables_1_1) 157 rfl tb_1 rfl
theorem qg_1_pace : Cond.sameField "TenYards$Crabbing" "TenYards$Faller" "pace" "I" ∈ W0 := w0_m (a := tables_1_1) 158 rfl tb_1 rfl
theorem qf_1_19 : Cond.fieldLink RX1 19 "TenYards$Crabbing" "worth" "I" ∈ W0 := w0_m (a := tables_1_1) 175 rfl tb_1 rfl
theorem qg_1_worth : Cond.sameField "TenYards$Crabbing" "TenYards$Faller" "worth" "I" ∈ W0 := w0_m (a := tables_1_1) 176 rfl tb_1 rfl
theorem qm_2_1 : Cond.methodLink RX2 1 yX4_init ∈ W0 := w0_m (a := tables_1_3) 45 rfl tb_3 rfl
theorem qf_2_7 : Cond.fieldLink RX2 7 "TenYards$Downwind" "kind" "I" ∈ W0 := w0_m (a := tables_1_1) 123 rfl tb_1 rfl
theorem qg_2_kind : Cond.sameField "TenYards$Downwind" "TenYards$Faller" "kind" "I" ∈ W0 := w0_m (a := tables_1_1) 124 rfl tb_1 rfl
theorem qf_2_13 : Cond.fieldLink RX2 13 "TenYards$Downwind" "sinks" "I" ∈ W0 := w0_m (a := tables_1_1) 141 rfl tb_1 rfl
theorem qg_2_sinks : Cond.sameField "TenYards$Downwind" "TenYards$Faller" "sinks" "I" ∈ W0 := w0_m (a := tables_1_1) 142 rfl tb_1 rfl
theorem qf_2_16 : Cond.fieldLink RX2 16 "TenYards$Downwind" "pace" "I" ∈ W0 := w0_m (a := tables_1_1) 159 rfl tb_1 rfl
theorem qg_2_pace : Cond.sameField "TenYards$Downwind" "TenYards$Faller" "pace" "I" ∈ W0 := w0_m (a := tables_1_1) 160 rfl tb_1 rfl
theorem qf_2_19 : Cond.fieldLink RX2 19 "TenYards$Downwind" "worth" "I" ∈ W0 := w0_m (a := tables_1_1) 177 rfl tb_1 rfl
theorem qg_2_worth : Cond.sameField "TenYards$Downwind" "TenYards$Faller" "worth" "I" ∈ W0 := w0_m (a := tables_1_1) 178 rfl tb_1 rfl
theorem qm_10_1 : Cond.methodLink RX10 1 yX5_init ∈ W0 := w0_m (a := tables_1_3) 60 rfl tb_3 rfl
theorem qi_X5_init : Cond.instanceMethod yX5_init ∈ W0 := w0_m (a := tables_1_2) 238 rfl tb_2 rfl
theorem qn_5 : Cond.initialized RX5 ∈ W0 := w0_m (a := tables_1_1) 14 rfl tb_1 rfl
theorem qc_X5_init : Cond.code yX5_init cX5_init 4 none ∈ W0 := w0_m (a := tables_1_2) 239 rfl tb_2 rfl
theorem qf_10_7 : Cond.fieldLink RX10 7 "TenYards$Stalled" "kind" "I" ∈ W0 := w0_m (a := tables_1_1) 125 rfl tb_1 rfl
theorem qg_10_kind : Cond.sameField "TenYards$Stalled" "TenYards$Faller" "kind" "I" ∈ W0 := w0_m (a := tables_1_1) 126 rfl tb_1 rfl
theorem qf_10_13 : Cond.fieldLink RX10 13 "TenYards$Stalled" "sinks" "I" ∈ W0 := w0_m (a := tables_1_1) 143 rfl tb_1 rfl
theorem qg_10_sinks : Cond.sameField "TenYards$Stalled" "TenYards$Faller" "sinks" "I" ∈ W0 := w0_m (a := tables_1_1) 144 rfl tb_1 rfl
theorem qf_10_16 : Cond.fieldLink RX10 16 "TenYards$Stalled" "pace" "I" ∈ W0 := w0_m (a := tables_1_1) 161 rfl tb_1 rfl
theorem qg_10_pace : Cond.sameField "TenYards$Stalled" "TenYards$Faller" "pace" "I" ∈ W0 := w0_m (a := tables_1_1) 162 rfl tb_1 rfl
theorem qf_10_19 : Cond.fieldLink RX10 19 "TenYards$Stalled" "worth" "I" ∈ W0 := w0_m (a := tables_1_1) 171 rfl tb_1 rfl
theorem qg_10_worth : Cond.sameField "TenYards$Stalled" "TenYards$Faller" "worth" "I" ∈ W0 := w0_m (a := tables_1_1) 172 rfl tb_1 rfl
theorem qf_0_9 : Cond.fieldLink RX0 9 "TenYards$Air" "east" "[I" ∈ W0 := w0_m (a := tables_1_1) 43 rfl tb_1 rfl
theorem qf_0_15 : Cond.fieldLink RX0 15 "TenYards$Air" "north" "[I" ∈ W0 := w0_m (a := tables_1_1) 46 rfl tb_1 rfl
theorem qf_0_37 : Cond.fieldLink RX0 37 "TenYards$Air" "boxes" "[I" ∈ W0 := w0_m (a := tables_1_1) 61 rfl tb_1 rfl
theorem qf_0_18 : Cond.fieldLink RX0 18 "TenYards$Air" "gust" "I" ∈ W0 := w0_m (a := tables_1_1) 49 rfl tb_1 rfl
theorem qf_0_22 : Cond.fieldLink RX0 22 "TenYards$Air" "plane" "I" ∈ W0 := w0_m (a := tables_1_1) 52 rfl tb_1 rfl
theorem qf_0_25 : Cond.fieldLink RX0 25 "TenYards$Air" "exitHeight" "I" ∈ W0 := w0_m (a := tables_1_1) 55 rfl tb_1 rfl
theorem qf_0_34 : Cond.fieldLink RX0 34 "TenYards$Air" "fallerCount" "I" ∈ W0 := w0_m (a := tables_1_1) 59 rfl tb_1 rfl
theorem qf_0_40 : Cond.fieldLink RX0 40 "TenYards$Air" "boxCount" "I" ∈ W0 := w0_m (a := tables_1_1) 62 rfl tb_1 rfl
theorem qf_0_30 : Cond.fieldLink RX0 30 "TenYards$Air" "fallers" "[LTenYards$Faller;" ∈ W0 := w0_m (a := tables_1_1) 58 rfl tb_1 rfl
theorem qs_X11_isFrom : Cond.static yX11_isFrom ∈ W0 := w0_m (a := tables_1_2) 75 rfl tb_2 rfl
theorem qn_11 : Cond.initialized RX11 ∈ W0 := w0_m (a := tables_1_1) 1 rfl tb_1 rfl
theorem qc_X11_isFrom : Cond.code yX11_isFrom cX11_isFrom 3 (some .boolean) ∈ W0 := w0_m (a := tables_1_2) 76 rfl tb_2 rfl
theorem qm_11_83 : Cond.methodLink RX11 83 yX11_isFrom ∈ W0 := w0_m (a := tables_1_2) 74 rfl tb_2 rfl
theorem qf_0_43 : Cond.fieldLink RX0 43 "TenYards$Air" "told" "[I" ∈ W0 := w0_m (a := tables_1_1) 64 rfl tb_1 rfl
theorem qm_0_127 : Cond.methodLink RX0 127 yX0_isYards ∈ W0 := w0_m (a := tables_1_2) 194 rfl tb_2 rfl
theorem qs_X0_isYards : Cond.static yX0_isYards ∈ W0 := w0_m (a := tables_1_2) 195 rfl tb_2 rfl
theorem qn_0 : Cond.initialized RX0 ∈ W0 := w0_m (a := tables_1_1) 2 rfl tb_1 rfl
theorem qc_X0_isYards : Cond.code yX0_isYards cX0_isYards 1 (some .boolean) ∈ W0 := w0_m (a := tables_1_2) 196 rfl tb_2 rfl
theorem qs_X11_isLayer : Cond.static yX11_isLayer ∈ W0 := w0_m (a := tables_1_2) 189 rfl tb_2 rfl
theorem qc_X11_isLayer : Cond.code yX11_isLayer cX11_isLayer 1 (some .boolean) ∈ W0 := w0_m (a := tables_1_2) 190 rfl tb_2 rfl
theorem qm_0_124 : Cond.methodLink RX0 124 yX0_isWind ∈ W0 := w0_m (a := tables_1_2) 191 rfl tb_2 rfl
theorem qs_X0_isWind : Cond.static yX0_isWind ∈ W0 := w0_m (a := tables_1_2) 192 rfl tb_2 rfl
theorem qc_X0_isWind : Cond.code yX0_isWind cX0_isWind 1 (some .boolean) ∈ W0 := w0_m (a := tables_1_2) 193 rfl tb_2 rfl
theorem qf_9_23 : Cond.fieldLink RX9 23 "TenYards$Shelf" "size" "I" ∈ W0 := w0_m (a := tables_1_2) 16 rfl tb_2 rfl
theorem qm_9_42 : Cond.methodLink RX9 42 yX9_hasPlaces ∈ W0 := w0_m (a := tables_1_2) 106 rfl tb_2 rfl
theorem qi_X9_hasPlaces : Cond.instanceMethod yX9_hasPlaces ∈ W0 := w0_m (a := tables_1_2) 107 rfl tb_2 rfl
theorem qe_X9_hasPlaces : Cond.selects RX9 yX9_hasPlaces yX9_hasPlaces ∈ W0 := w0_m (a := tables_1_2) 108 rfl tb_2 rfl
theorem qn_9 : Cond.initialized RX9 ∈ W0 := w0_m (a := tables_1_1) 5 rfl tb_1 rfl
theorem qc_X9_hasPlaces : Cond.code yX9_hasPlaces cX9_hasPlaces 3 (some .boolean) ∈ W0 := w0_m (a := tables_1_2) 109 rfl tb_2 rfl
theorem qf_9_26 : Cond.fieldLink RX9 26 "TenYards$Shelf" "elements" "[I" ∈ W0 := w0_m (a := tables_1_2) 19 rfl tb_2 rfl
theorem qm_0_65 : Cond.methodLink RX0 65 yX9_valueAt ∈ W0 := w0_m (a := tables_1_2) 102 rfl tb_2 rfl
theorem qi_X9_valueAt : Cond.instanceMethod yX9_valueAt ∈ W0 := w0_m (a := tables_1_2) 103 rfl tb_2 rfl
theorem qe_X9_valueAt : Cond.selects RX9 yX9_valueAt yX9_valueAt ∈ W0 := w0_m (a := tables_1_2) 104 rfl tb_2 rfl
theorem qc_X9_valueAt : Cond.code yX9_valueAt cX9_valueAt 2 (some .int) ∈ W0 := w0_m (a := tables_1_2) 105 rfl tb_2 rfl
theorem qm_0_118 : Cond.methodLink RX0 118 yX0_isDigit ∈ W0 := w0_m (a := tables_1_2) 174 rfl tb_2 rfl
theorem qs_X0_isDigit : Cond.static yX0_isDigit ∈ W0 := w0_m (a := tables_1_2) 175 rfl tb_2 rfl
theorem qc_X0_isDigit : Cond.code yX0_isDigit cX0_isDigit 1 (some .boolean) ∈ W0 := w0_m (a := tables_1_2) 176 rfl tb_2 rfl
theorem qm_4_57 : Cond.methodLink RX4 57 yX4_init ∈ W0 := w0_m (a := tables_1_3) 71 rfl tb_3 rfl
theorem qm_4_56 : Cond.methodLink RX4 56 yX10_init ∈ W0 := w0_m (a := tables_1_3) 57 rfl tb_3 rfl
theorem qi_X10_init : Cond.instanceMethod yX10_init ∈ W0 := w0_m (a := tables_1_3) 58 rfl tb_3 rfl
theorem qn_10 : Cond.initialized RX10 ∈ W0 := w0_m (a := tables_1_1) 18 rfl tb_1 rfl
theorem qc_X10_init : Cond.code yX10_init cX10_init 4 none ∈ W0 := w0_m (a := tables_1_3) 59 rfl tb_3 rfl
theorem qm_4_53 : Cond.methodLink RX4 53 yX2_init ∈ W0 := w0_m (a := tables_1_3) 42 rfl tb_3 rfl
theorem qi_X2_init : Cond.instanceMethod yX2_init ∈ W0 := w0_m (a := tables_1_3) 43 rfl tb_3 rfl
theorem qn_2 : Cond.initialized RX2 ∈ W0 := w0_m (a := tables_1_1) 17 rfl tb_1 rfl
theorem qc_X2_init : Cond.code yX2_init cX2_init 4 none ∈ W0 := w0_m (a := tables_1_3) 44 rfl tb_3 rfl
theorem qm_4_50 : Cond.methodLink RX4 50 yX1_init ∈ W0 := w0_m (a := tables_1_3) 27 rfl tb_3 rfl
theorem qi_X1_init : Cond.instanceMethod yX1_init ∈ W0 := w0_m (a := tables_1_3) 28 rfl tb_3 rfl
theorem qn_1 : Cond.initialized RX1 ∈ W0 := w0_m (a := tables_1_1) 16 rfl tb_1 rfl
theorem qc_X1_init : Cond.code yX1_init cX1_init 4 none ∈ W0 := w0_m (a := tables_1_3) 29 rfl tb_3 rfl
theorem qm_4_47 : Cond.methodLink RX4 47 yX6_init ∈ W0 := w0_m (a := tables_1_3) 12 rfl tb_3 rfl
theorem qm_4_44 : Cond.methodLink RX4 44 yX5_init ∈ W0 := w0_m (a := tables_1_2) 237 rfl tb_2 rfl
theorem qm_4_41 : Cond.methodLink RX4 41 yX7_init ∈ W0 := w0_m (a := tables_1_2) 222 rfl tb_2 rfl
theorem qi_X7_init : Cond.instanceMethod yX7_init ∈ W0 := w0_m (a := tables_1_2) 223 rfl tb_2 rfl
theorem qn_7 : Cond.initialized RX7 ∈ W0 := w0_m (a := tables_1_1) 13 rfl tb_1 rfl
theorem qc_X7_init : Cond.code yX7_init cX7_init 4 none ∈ W0 := w0_m (a := tables_1_2) 224 rfl tb_2 rfl
theorem qm_4_36 : Cond.methodLink RX4 36 yX8_init ∈ W0 := w0_m (a := tables_1_2) 206 rfl tb_2 rfl
theorem qi_X8_init : Cond.instanceMethod yX8_init ∈ W0 := w0_m (a := tables_1_2) 207 rfl tb_2 rfl
theorem qn_8 : Cond.initialized RX8 ∈ W0 := w0_m (a := tables_1_1) 12 rfl tb_1 rfl
theorem qc_X8_init : Cond.code yX8_init cX8_init 4 none ∈ W0 := w0_m (a := tables_1_2) 208 rfl tb_2 rfl
theorem qm_0_134 : Cond.methodLink RX0 134 Lib.Math.min.name ∈ W0 := w0_m (a := tables_1_3) 72 rfl tb_3 rfl
theorem qs_ib_Math_min_name : Cond.static Lib.Math.min.name ∈ W0 := w0_m (a := tables_1_3) 73 rfl tb_3 rfl
theorem qn_Math : Cond.initialized "java/lang/Math" ∈ W0 := w0_m (a := tables_1_1) 19 rfl tb_1 rfl
theorem qc_Math_min : Cond.code Lib.Math.min.name Lib.Math.min.code 2 (some .int) ∈ W0 := w0_m (a := tables_1_3) 74 rfl tb_3 rfl
theorem qm_0_140 : Cond.methodLink RX0 140 Lib.Math.max.name ∈ W0 := w0_m (a := tables_1_3) 75 rfl tb_3 rfl
theorem qs_ib_Math_max_name : Cond.static Lib.Math.max.name ∈ W0 := w0_m (a := tables_1_3) 76 rfl tb_3 rfl
theorem qc_Math_max : Cond.code Lib.Math.max.name Lib.Math.max.code 2 (some .int) ∈ W0 := w0_m (a := tables_1_3) 77 rfl tb_3 rfl
theorem qm_0_130 : Cond.methodLink RX0 130 yX4_ofKind ∈ W0 := w0_m (a := tables_1_2) 201 rfl tb_2 rfl
theorem qs_X4_ofKind : Cond.static yX4_ofKind ∈ W0 := w0_m (a := tables_1_2) 202 rfl tb_2 rfl
theorem qc_X4_ofKind : Cond.code yX4_ofKind cX4_ofKind 4 (some (.object "TenYards$Faller")) ∈ W0 := w0_m (a := tables_1_2) 203 rfl tb_2 rfl
theorem qm_1_22 : Cond.methodLink RX1 22 Lib.Math.abs.name ∈ W0 := w0_m (a := tables_1_3) 168 rfl tb_3 rfl
theorem qs_ib_Math_abs_name : Cond.static Lib.Math.abs.name ∈ W0 := w0_m (a := tables_1_3) 148 rfl tb_3 rfl
theorem qc_Math_abs : Cond.code Lib.Math.abs.name Lib.Math.abs.code 1 (some .int) ∈ W0 := w0_m (a := tables_1_3) 149 rfl tb_3 rfl
theorem qm_2_22 : Cond.methodLink RX2 22 Lib.Math.abs.name ∈ W0 := w0_m (a := tables_1_3) 172 rfl tb_3 rfl
theorem qm_3_56 : Cond.methodLink RX3 56 Lib.Math.min.name ∈ W0 := w0_m (a := tables_1_3) 238 rfl tb_3 rfl
theorem qm_3_62 : Cond.methodLink RX3 62 Lib.Math.max.name ∈ W0 := w0_m (a := tables_1_3) 239 rfl tb_3 rfl
theorem qf_3_14 : Cond.fieldLink RX3 14 "TenYards$Fall" "faller" "LTenYards$Faller;" ∈ W0 := w0_m (a := tables_1_1) 202 rfl tb_1 rfl
theorem qf_3_20 : Cond.fieldLink RX3 20 "TenYards$Fall" "x" "I" ∈ W0 := w0_m (a := tables_1_1) 203 rfl tb_1 rfl
theorem qf_3_24 : Cond.fieldLink RX3 24 "TenYards$Fall" "y" "I" ∈ W0 := w0_m (a := tables_1_1) 205 rfl tb_1 rfl
theorem qf_3_39 : Cond.fieldLink RX3 39 "TenYards$Fall" "seed" "I" ∈ W0 := w0_m (a := tables_1_1) 214 rfl tb_1 rfl
theorem qf_3_52 : Cond.fieldLink RX3 52 "TenYards$Fall" "over" "LTenYards$Air;" ∈ W0 := w0_m (a := tables_1_1) 201 rfl tb_1 rfl
theorem qf_3_65 : Cond.fieldLink RX3 65 "TenYards$Air" "exitHeight" "I" ∈ W0 := w0_m (a := tables_1_1) 56 rfl tb_1 rfl
theorem qf_3_27 : Cond.fieldLink RX3 27 "TenYards$Fall" "height" "I" ∈ W0 := w0_m (a := tables_1_1) 207 rfl tb_1 rfl
theorem qf_3_70 : Cond.fieldLink RX3 70 "TenYards$Air" "gust" "I" ∈ W0 := w0_m (a := tables_1_1) 50 rfl tb_1 rfl
theorem qf_3_33 : Cond.fieldLink RX3 33 "TenYards$Fall" "gust" "I" ∈ W0 := w0_m (a := tables_1_1) 211 rfl tb_1 rfl
theorem qf_3_71 : Cond.fieldLink RX3 71 "TenYards$Faller" "opens" "I" ∈ W0 := w0_m (a := tables_1_1) 110 rfl tb_1 rfl
theorem qf_3_36 : Cond.fieldLink RX3 36 "TenYards$Fall" "opens" "I" ∈ W0 := w0_m (a := tables_1_1) 213 rfl tb_1 rfl
theorem qf_3_30 : Cond.fieldLink RX3 30 "TenYards$Fall" "seconds" "I" ∈ W0 := w0_m (a := tables_1_1) 209 rfl tb_1 rfl
theorem qf_3_42 : Cond.fieldLink RX3 42 "TenYards$Fall" "isWayHeld" "Z" ∈ W0 := w0_m (a := tables_1_1) 215 rfl tb_1 rfl
theorem qf_3_46 : Cond.fieldLink RX3 46 "TenYards$Fall" "wayEast" "I" ∈ W0 := w0_m (a := tables_1_1) 216 rfl tb_1 rfl
theorem qf_3_49 : Cond.fieldLink RX3 49 "TenYards$Fall" "wayNorth" "I" ∈ W0 := w0_m (a := tables_1_1) 217 rfl tb_1 rfl
theorem qm_5_25 : Cond.methodLink RX5 25 yX4_driftOf ∈ W0 := w0_m (a := tables_1_3) 109 rfl tb_3 rfl
theorem qd_X4_driftOf : Cond.sameMethod (yX4_driftOf).cls (yX4_driftOf).cls (yX4_driftOf).name (yX4_driftOf).desc ∈ W0 := w0_m (a := tables_1_3) 103 rfl tb_3 rfl
theorem qu_5 : Cond.superclass RX5 RX4 ∈ W0 := w0_m (a := tables_1_3) 9 rfl tb_3 rfl
theorem qi_X4_driftOf : Cond.instanceMethod yX4_driftOf ∈ W0 := w0_m (a := tables_1_3) 101 rfl tb_3 rfl
theorem qc_X4_driftOf : Cond.code yX4_driftOf cX4_driftOf 2 (some .int) ∈ W0 := w0_m (a := tables_1_3) 120 rfl tb_3 rfl
theorem qm_10_22 : Cond.methodLink RX10 22 yX5_driftOf ∈ W0 := w0_m (a := tables_1_3) 119 rfl tb_3 rfl
theorem qd_X5_driftOf : Cond.sameMethod (yX5_driftOf).cls (yX5_driftOf).cls (yX5_driftOf).name (yX5_driftOf).desc ∈ W0 := w0_m (a := tables_1_7) 122 rfl tb_7 rfl
theorem qu_10 : Cond.superclass RX10 RX5 ∈ W0 := w0_m (a := tables_1_3) 69 rfl tb_3 rfl
theorem qi_X5_driftOf : Cond.instanceMethod yX5_driftOf ∈ W0 := w0_m (a := tables_1_3) 107 rfl tb_3 rfl
theorem qc_X5_driftOf : Cond.code yX5_driftOf cX5_driftOf 2 (some .int) ∈ W0 := w0_m (a := tables_1_3) 108 rfl tb_3 rfl
theorem qm_7_25 : Cond.methodLink RX7 25 yX4_driftOf ∈ W0 := w0_m (a := tables_1_3) 114 rfl tb_3 rfl
theorem qu_7 : Cond.superclass RX7 RX4 ∈ W0 := w0_m (a := tables_1_2) 234 rfl tb_2 rfl
theorem qf_3_105 : Cond.fieldLink RX3 105 "TenYards$Air" "plane" "I" ∈ W0 := w0_m (a := tables_1_1) 54 rfl tb_1 rfl
theorem qm_3_108 : Cond.methodLink RX3 108 yX4_driftOf ∈ W0 := w0_m (a := tables_1_4) 4 rfl tb_4 rfl
theorem qe_X4_driftOf : Cond.selects RX4 yX4_driftOf yX4_driftOf ∈ W0 := w0_m (a := tables_1_3) 102 rfl tb_3 rfl
theorem qv_8_X4_driftOf : Cond.selects RX8 yX4_driftOf yX4_driftOf ∈ W0 := w0_m (a := tables_1_3) 115 rfl tb_3 rfl
theorem qv_7_X4_driftOf : Cond.selects RX7 yX4_driftOf yX7_driftOf ∈ W0 := w0_m (a := tables_1_3) 111 rfl tb_3 rfl
theorem qi_X7_driftOf : Cond.instanceMethod yX7_driftOf ∈ W0 := w0_m (a := tables_1_3) 112 rfl tb_3 rfl
theorem qc_X7_driftOf : Cond.code yX7_driftOf cX7_driftOf 2 (some .int) ∈ W0 := w0_m (a := tables_1_3) 113 rfl tb_3 rfl
theorem qv_5_X4_driftOf : Cond.selects RX5 yX4_driftOf yX5_driftOf ∈ W0 := w0_m (a := tables_1_3) 106 rfl tb_3 rfl
theorem qv_6_X4_driftOf : Cond.selects RX6 yX4_driftOf yX4_driftOf ∈ W0 := w0_m (a := tables_1_3) 110 rfl tb_3 rfl
theorem qv_1_X4_driftOf : Cond.selects RX1 yX4_driftOf yX4_driftOf ∈ W0 := w0_m (a := tables_1_3) 104 rfl tb_3 rfl
theorem qv_2_X4_driftOf : Cond.selects RX2 yX4_driftOf yX4_driftOf ∈ W0 := w0_m (a := tables_1_3) 105 rfl tb_3 rfl
theorem qv_10_X4_driftOf : Cond.selects RX10 yX4_driftOf yX10_driftOf ∈ W0 := w0_m (a := tables_1_3) 116 rfl tb_3 rfl
theorem qi_X10_driftOf : Cond.instanceMethod yX10_driftOf ∈ W0 := w0_m (a := tables_1_3) 117 rfl tb_3 rfl
theorem qc_X10_driftOf : Cond.code yX10_driftOf cX10_driftOf 2 (some .int) ∈ W0 := w0_m (a := tables_1_3) 118 rfl tb_3 rfl
theorem qf_3_111 : Cond.fieldLink RX3 111 "TenYards$Faller" "falls" "I" ∈ W0 := w0_m (a := tables_1_1) 134 rfl tb_1 rfl
theorem qk_3_124 : Cond.constant RX3 124 (1103515245) ∈ W0 := w0_m (a := tables_1_4) 9 rfl tb_4 rfl
theorem qk_3_127 : Cond.constant RX3 127 (2147483647) ∈ W0 := w0_m (a := tables_1_4) 10 rfl tb_4 rfl
theorem qk_3_128 : Cond.constant RX3 128 (65536) ∈ W0 := w0_m (a := tables_1_4) 11 rfl tb_4 rfl
theorem qm_4_58 : Cond.methodLink RX4 58 Lib.Math.abs.name ∈ W0 := w0_m (a := tables_1_3) 179 rfl tb_3 rfl
theorem qm_4_64 : Cond.methodLink RX4 64 Lib.Math.min.name ∈ W0 := w0_m (a := tables_1_3) 197 rfl tb_3 rfl
theorem qm_6_22 : Cond.methodLink RX6 22 Lib.Math.abs.name ∈ W0 := w0_m (a := tables_1_3) 147 rfl tb_3 rfl
theorem qf_6_28 : Cond.fieldLink RX6 28 "TenYards$Holding" "figure" "I" ∈ W0 := w0_m (a := tables_1_1) 102 rfl tb_1 rfl
theorem qg_6_figure : Cond.sameField "TenYards$Holding" "TenYards$Faller" "figure" "I" ∈ W0 := w0_m (a := tables_1_1) 103 rfl tb_1 rfl
theorem qm_4_68 : Cond.methodLink RX4 68 yX4_isToSteer ∈ W0 := w0_m (a := tables_1_3) 140 rfl tb_3 rfl
theorem qi_X4_isToSteer : Cond.instanceMethod yX4_isToSteer ∈ W0 := w0_m (a := tables_1_3) 141 rfl tb_3 rfl
theorem qe_X4_isToSteer : Cond.selects RX4 yX4_isToSteer yX4_isToSteer ∈ W0 := w0_m (a := tables_1_3) 142 rfl tb_3 rfl
theorem qc_X4_isToSteer : Cond.code yX4_isToSteer cX4_isToSteer 3 (some .boolean) ∈ W0 := w0_m (a := tables_1_3) 160 rfl tb_3 rfl
theorem qd_X4_isToSteer : Cond.sameMethod (yX4_isToSteer).cls (yX4_isToSteer).cls (yX4_isToSteer).name (yX4_isToSteer).desc ∈ W0 := w0_m (a := tables_1_3) 143 rfl tb_3 rfl
theorem qv_8_X4_isToSteer : Cond.selects RX8 yX4_isToSteer yX8_isToSteer ∈ W0 := w0_m (a := tables_1_3) 154 rfl tb_3 rfl
theorem qi_X8_isToSteer : Cond.instanceMethod yX8_isToSteer ∈ W0 := w0_m (a := tables_1_3) 155 rfl tb_3 rfl
theorem qc_X8_isToSteer : Cond.code yX8_isToSteer cX8_isToSteer 3 (some .boolean) ∈ W0 := w0_m (a := tables_1_3) 156 rfl tb_3 rfl
theorem qv_7_X4_isToSteer : Cond.selects RX7 yX4_isToSteer yX4_isToSteer ∈ W0 := w0_m (a := tables_1_3) 153 rfl tb_3 rfl
theorem qv_5_X4_isToSteer : Cond.selects RX5 yX4_isToSteer yX4_isToSteer ∈ W0 := w0_m (a := tables_1_3) 151 rfl tb_3 rfl
theorem qv_6_X4_isToSteer : Cond.selects RX6 yX4_isToSteer yX6_isToSteer ∈ W0 := w0_m (a := tables_1_3) 152 rfl tb_3 rfl
theorem qi_X6_isToSteer : Cond.instanceMethod yX6_isToSteer ∈ W0 := w0_m (a := tables_1_3) 145 rfl tb_3 rfl
theorem qc_X6_isToSteer : Cond.code yX6_isToSteer cX6_isToSteer 3 (some .boolean) ∈ W0 := w0_m (a := tables_1_3) 146 rfl tb_3 rfl
theorem qv_1_X4_isToSteer : Cond.selects RX1 yX4_isToSteer yX6_isToSteer ∈ W0 := w0_m (a := tables_1_3) 144 rfl tb_3 rfl
theorem qv_2_X4_isToSteer : Cond.selects RX2 yX4_isToSteer yX4_isToSteer ∈ W0 := w0_m (a := tables_1_3) 150 rfl tb_3 rfl
theorem qv_10_X4_isToSteer : Cond.selects RX10 yX4_isToSteer yX10_isToSteer ∈ W0 := w0_m (a := tables_1_3) 157 rfl tb_3 rfl
theorem qi_X10_isToSteer : Cond.instanceMethod yX10_isToSteer ∈ W0 := w0_m (a := tables_1_3) 158 rfl tb_3 rfl
theorem qc_X10_isToSteer : Cond.code yX10_isToSteer cX10_isToSteer 3 (some .boolean) ∈ W0 := w0_m (a := tables_1_3) 159 rfl tb_3 rfl
theorem qm_4_72 : Cond.methodLink RX4 72 yX4_steersAlongX ∈ W0 := w0_m (a := tables_1_3) 161 rfl tb_3 rfl
theorem qi_X4_steersAlongX : Cond.instanceMethod yX4_steersAlongX ∈ W0 := w0_m (a := tables_1_3) 162 rfl tb_3 rfl
theorem qe_X4_steersAlongX : Cond.selects RX4 yX4_steersAlongX yX4_steersAlongX ∈ W0 := w0_m (a := tables_1_3) 163 rfl tb_3 rfl
theorem qc_X4_steersAlongX : Cond.code yX4_steersAlongX cX4_steersAlongX 5 (some .boolean) ∈ W0 := w0_m (a := tables_1_3) 178 rfl tb_3 rfl
theorem qd_X4_steersAlongX : Cond.sameMethod (yX4_steersAlongX).cls (yX4_steersAlongX).cls (yX4_steersAlongX).name (yX4_steersAlongX).desc ∈ W0 := w0_m (a := tables_1_3) 164 rfl tb_3 rfl
theorem qv_8_X4_steersAlongX : Cond.selects RX8 yX4_steersAlongX yX4_steersAlongX ∈ W0 := w0_m (a := tables_1_3) 176 rfl tb_3 rfl
theorem qv_7_X4_steersAlongX : Cond.selects RX7 yX4_steersAlongX yX4_steersAlongX ∈ W0 := w0_m (a := tables_1_3) 175 rfl tb_3 rfl
theorem qv_5_X4_steersAlongX : Cond.selects RX5 yX4_steersAlongX yX4_steersAlongX ∈ W0 := w0_m (a := tables_1_3) 173 rfl tb_3 rfl
theorem qv_6_X4_steersAlongX : Cond.selects RX6 yX4_steersAlongX yX4_steersAlongX ∈ W0 := w0_m (a := tables_1_3) 174 rfl tb_3 rfl
theorem qv_1_X4_steersAlongX : Cond.selects RX1 yX4_steersAlongX yX1_steersAlongX ∈ W0 := w0_m (a := tables_1_3) 165 rfl tb_3 rfl
theorem qi_X1_steersAlongX : Cond.instanceMethod yX1_steersAlongX ∈ W0 := w0_m (a := tables_1_3) 166 rfl tb_3 rfl
theorem qc_X1_steersAlongX : Cond.code yX1_steersAlongX cX1_steersAlongX 5 (some .boolean) ∈ W0 := w0_m (a := tables_1_3) 167 rfl tb_3 rfl
theorem qv_2_X4_steersAlongX : Cond.selects RX2 yX4_steersAlongX yX2_steersAlongX ∈ W0 := w0_m (a := tables_1_3) 169 rfl tb_3 rfl
theorem qi_X2_steersAlongX : Cond.instanceMethod yX2_steersAlongX ∈ W0 := w0_m (a := tables_1_3) 170 rfl tb_3 rfl
theorem qc_X2_steersAlongX : Cond.code yX2_steersAlongX cX2_steersAlongX 5 (some .boolean) ∈ W0 := w0_m (a := tables_1_3) 171 rfl tb_3 rfl
theorem qv_10_X4_steersAlongX : Cond.selects RX10 yX4_steersAlongX yX4_steersAlongX ∈ W0 := w0_m (a := tables_1_3) 177 rfl tb_3 rfl
theorem qm_4_76 : Cond.methodLink RX4 76 yX4_stepAlong ∈ W0 := w0_m (a := tables_1_3) 180 rfl tb_3 rfl
theorem qi_X4_stepAlong : Cond.instanceMethod yX4_stepAlong ∈ W0 := w0_m (a := tables_1_3) 181 rfl tb_3 rfl
theorem qe_X4_stepAlong : Cond.selects RX4 yX4_stepAlong yX4_stepAlong ∈ W0 := w0_m (a := tables_1_3) 182 rfl tb_3 rfl
theorem qc_X4_stepAlong : Cond.code yX4_stepAlong cX4_stepAlong 4 (some .int) ∈ W0 := w0_m (a := tables_1_3) 196 rfl tb_3 rfl
theorem qd_X4_stepAlong : Cond.sameMethod (yX4_stepAlong).cls (yX4_stepAlong).cls (yX4_stepAlong).name (yX4_stepAlong).desc ∈ W0 := w0_m (a := tables_1_3) 183 rfl tb_3 rfl
theorem qv_8_X4_stepAlong : Cond.selects RX8 yX4_stepAlong yX4_stepAlong ∈ W0 := w0_m (a := tables_1_3) 194 rfl tb_3 rfl
theorem qv_7_X4_stepAlong : Cond.selects RX7 yX4_stepAlong yX4_stepAlong ∈ W0 := w0_m (a := tables_1_3) 193 rfl tb_3 rfl
theorem qv_5_X4_stepAlong : Cond.selects RX5 yX4_stepAlong yX4_stepAlong ∈ W0 := w0_m (a := tables_1_3) 191 rfl tb_3 rfl
theorem qv_6_X4_stepAlong : Cond.selects RX6 yX4_stepAlong yX4_stepAlong ∈ W0 := w0_m (a := tables_1_3) 192 rfl tb_3 rfl
theorem qv_1_X4_stepAlong : Cond.selects RX1 yX4_stepAlong yX4_stepAlong ∈ W0 := w0_m (a := tables_1_3) 184 rfl tb_3 rfl
theorem qv_2_X4_stepAlong : Cond.selects RX2 yX4_stepAlong yX2_stepAlong ∈ W0 := w0_m (a := tables_1_3) 185 rfl tb_3 rfl
theorem qi_X2_stepAlong : Cond.instanceMethod yX2_stepAlong ∈ W0 := w0_m (a := tables_1_3) 186 rfl tb_3 rfl
theorem qc_X2_stepAlong : Cond.code yX2_stepAlong cX2_stepAlong 3 (some .int) ∈ W0 := w0_m (a := tables_1_3) 187 rfl tb_3 rfl
theorem qv_10_X4_stepAlong : Cond.selects RX10 yX4_stepAlong yX4_stepAlong ∈ W0 := w0_m (a := tables_1_3) 195 rfl tb_3 rfl
theorem qm_3_114 : Cond.methodLink RX3 114 yX4_steerEast ∈ W0 := w0_m (a := tables_1_4) 16 rfl tb_4 rfl
theorem qi_X4_steerEast : Cond.instanceMethod yX4_steerEast ∈ W0 := w0_m (a := tables_1_3) 199 rfl tb_3 rfl
theorem qe_X4_steerEast : Cond.selects RX4 yX4_steerEast yX4_steerEast ∈ W0 := w0_m (a := tables_1_3) 200 rfl tb_3 rfl
theorem qc_X4_steerEast : Cond.code yX4_steerEast cX4_steerEast 5 (some .int) ∈ W0 := w0_m (a := tables_1_3) 209 rfl tb_3 rfl
theorem qd_X4_steerEast : Cond.sameMethod (yX4_steerEast).cls (yX4_steerEast).cls (yX4_steerEast).name (yX4_steerEast).desc ∈ W0 := w0_m (a := tables_1_3) 201 rfl tb_3 rfl
theorem qv_8_X4_steerEast : Cond.selects RX8 yX4_steerEast yX4_steerEast ∈ W0 := w0_m (a := tables_1_3) 207 rfl tb_3 rfl
theorem qv_7_X4_steerEast : Cond.selects RX7 yX4_steerEast yX4_steerEast ∈ W0 := w0_m (a := tables_1_3) 206 rfl tb_3 rfl
theorem qv_5_X4_steerEast : Cond.selects RX5 yX4_steerEast yX4_steerEast ∈ W0 := w0_m (a := tables_1_3) 204 rfl tb_3 rfl
theorem qv_6_X4_steerEast : Cond.selects RX6 yX4_steerEast yX4_steerEast ∈ W0 := w0_m (a := tables_1_3) 205 rfl tb_3 rfl
theorem qv_1_X4_steerEast : Cond.selects RX1 yX4_steerEast yX4_steerEast ∈ W0 := w0_m (a := tables_1_3) 202 rfl tb_3 rfl
theorem qv_2_X4_steerEast : Cond.selects RX2 yX4_steerEast yX4_steerEast ∈ W0 := w0_m (a := tables_1_3) 203 rfl tb_3 rfl
theorem qv_10_X4_steerEast : Cond.selects RX10 yX4_steerEast yX4_steerEast ∈ W0 := w0_m (a := tables_1_3) 208 rfl tb_3 rfl
theorem qm_3_118 : Cond.methodLink RX3 118 yX4_steerNorth ∈ W0 := w0_m (a := tables_1_4) 17 rfl tb_4 rfl
theorem qi_X4_steerNorth : Cond.instanceMethod yX4_steerNorth ∈ W0 := w0_m (a := tables_1_3) 129 rfl tb_3 rfl
theorem qe_X4_steerNorth : Cond.selects RX4 yX4_steerNorth yX4_steerNorth ∈ W0 := w0_m (a := tables_1_3) 130 rfl tb_3 rfl
theorem qc_X4_steerNorth : Cond.code yX4_steerNorth cX4_steerNorth 5 (some .int) ∈ W0 := w0_m (a := tables_1_3) 139 rfl tb_3 rfl
theorem qd_X4_steerNorth : Cond.sameMethod (yX4_steerNorth).cls (yX4_steerNorth).cls (yX4_steerNorth).name (yX4_steerNorth).desc ∈ W0 := w0_m (a := tables_1_3) 131 rfl tb_3 rfl
theorem qv_8_X4_steerNorth : Cond.selects RX8 yX4_steerNorth yX4_steerNorth ∈ W0 := w0_m (a := tables_1_3) 137 rfl tb_3 rfl
theorem qv_7_X4_steerNorth : Cond.selects RX7 yX4_steerNorth yX4_steerNorth ∈ W0 := w0_m (a := tables_1_3) 136 rfl tb_3 rfl
theorem qv_5_X4_steerNorth : Cond.selects RX5 yX4_steerNorth yX4_steerNorth ∈ W0 := w0_m (a := tables_1_3) 134 rfl tb_3 rfl
theorem qv_6_X4_steerNorth : Cond.selects RX6 yX4_steerNorth yX4_steerNorth ∈ W0 := w0_m (a := tables_1_3) 135 rfl tb_3 rfl
theorem qv_1_X4_steerNorth : Cond.selects RX1 yX4_steerNorth yX4_steerNorth ∈ W0 := w0_m (a := tables_1_3) 132 rfl tb_3 rfl
theorem qv_2_X4_steerNorth : Cond.selects RX2 yX4_steerNorth yX4_steerNorth ∈ W0 := w0_m (a := tables_1_3) 133 rfl tb_3 rfl
theorem qv_10_X4_steerNorth : Cond.selects RX10 yX4_steerNorth yX4_steerNorth ∈ W0 := w0_m (a := tables_1_3) 138 rfl tb_3 rfl
theorem qf_3_121 : Cond.fieldLink RX3 121 "TenYards$Faller" "sinks" "I" ∈ W0 := w0_m (a := tables_1_1) 151 rfl tb_1 rfl
theorem qf_3_84 : Cond.fieldLink RX3 84 "TenYards$Air" "east" "[I" ∈ W0 := w0_m (a := tables_1_1) 45 rfl tb_1 rfl
theorem qf_3_88 : Cond.fieldLink RX3 88 "TenYards$Air" "north" "[I" ∈ W0 := w0_m (a := tables_1_1) 48 rfl tb_1 rfl
theorem qm_3_98 : Cond.methodLink RX3 98 yX3_sink ∈ W0 := w0_m (a := tables_1_4) 12 rfl tb_4 rfl
theorem qi_X3_sink : Cond.instanceMethod yX3_sink ∈ W0 := w0_m (a := tables_1_4) 14 rfl tb_4 rfl
theorem qe_X3_sink : Cond.selects RX3 yX3_sink yX3_sink ∈ W0 := w0_s 7 rfl rfl
theorem qn_3 : Cond.initialized RX3 ∈ W0 := w0_m (a := tables_1_1) 3 rfl tb_1 rfl
theorem qc_X3_sink : Cond.code yX3_sink cX3_sink 5 none ∈ W0 := w0_m (a := tables_1_4) 15 rfl tb_4 rfl
theorem qm_3_101 : Cond.methodLink RX3 101 yX3_held ∈ W0 := w0_m (a := tables_1_4) 18 rfl tb_4 rfl
theorem qs_X3_held : Cond.static yX3_held ∈ W0 := w0_m (a := tables_1_4) 19 rfl tb_4 rfl
theorem qc_X3_held : Cond.code yX3_held cX3_held 1 (some .int) ∈ W0 := w0_m (a := tables_1_4) 20 rfl tb_4 rfl
theorem qm_3_95 : Cond.methodLink RX3 95 yX3_puff ∈ W0 := w0_m (a := tables_1_4) 5 rfl tb_4 rfl
theorem qi_X3_puff : Cond.instanceMethod yX3_puff ∈ W0 := w0_m (a := tables_1_4) 7 rfl tb_4 rfl
theorem qe_X3_puff : Cond.selects RX3 yX3_puff yX3_puff ∈ W0 := w0_s 6 rfl rfl
theorem qc_X3_puff : Cond.code yX3_puff cX3_puff 1 (some .int) ∈ W0 := w0_m (a := tables_1_4) 8 rfl tb_4 rfl
theorem qm_3_91 : Cond.methodLink RX3 91 yX3_plunge ∈ W0 := w0_m (a := tables_1_4) 0 rfl tb_4 rfl
theorem qi_X3_plunge : Cond.instanceMethod yX3_plunge ∈ W0 := w0_m (a := tables_1_4) 2 rfl tb_4 rfl
theorem qe_X3_plunge : Cond.selects RX3 yX3_plunge yX3_plunge ∈ W0 := w0_s 5 rfl rfl
theorem qc_X3_plunge : Cond.code yX3_plunge cX3_plunge 3 none ∈ W0 := w0_m (a := tables_1_4) 3 rfl tb_4 rfl
theorem qm_3_72 : Cond.methodLink RX3 72 yX3_goOn ∈ W0 := w0_m (a := tables_1_3) 234 rfl tb_3 rfl
theorem qi_X3_goOn : Cond.instanceMethod yX3_goOn ∈ W0 := w0_m (a := tables_1_3) 235 rfl tb_3 rfl
theorem qe_X3_goOn : Cond.selects RX3 yX3_goOn yX3_goOn ∈ W0 := w0_m (a := tables_1_3) 236 rfl tb_3 rfl
theorem qc_X3_goOn : Cond.code yX3_goOn cX3_goOn 4 none ∈ W0 := w0_m (a := tables_1_3) 237 rfl tb_3 rfl
theorem qm_3_129 : Cond.methodLink RX3 129 Lib.Math.abs.name ∈ W0 := w0_m (a := tables_1_4) 25 rfl tb_4 rfl
theorem qm_3_76 : Cond.methodLink RX3 76 yX3_begin ∈ W0 := w0_m (a := tables_1_4) 52 rfl tb_4 rfl
theorem qi_X3_begin : Cond.instanceMethod yX3_begin ∈ W0 := w0_m (a := tables_1_3) 227 rfl tb_3 rfl
theorem qe_X3_begin : Cond.selects RX3 yX3_begin yX3_begin ∈ W0 := w0_m (a := tables_1_3) 228 rfl tb_3 rfl
theorem qc_X3_begin : Cond.code yX3_begin cX3_begin 5 none ∈ W0 := w0_m (a := tables_1_3) 229 rfl tb_3 rfl
theorem qm_3_80 : Cond.methodLink RX3 80 yX3_off ∈ W0 := w0_m (a := tables_1_4) 53 rfl tb_4 rfl
theorem qi_X3_off : Cond.instanceMethod yX3_off ∈ W0 := w0_m (a := tables_1_4) 22 rfl tb_4 rfl
theorem qe_X3_off : Cond.selects RX3 yX3_off yX3_off ∈ W0 := w0_m (a := tables_1_4) 23 rfl tb_4 rfl
theorem qc_X3_off : Cond.code yX3_off cX3_off 1 (some .int) ∈ W0 := w0_m (a := tables_1_4) 24 rfl tb_4 rfl
theorem qf_9_9 : Cond.fieldLink RX9 9 "TenYards$Shelf" "faller" "LTenYards$Faller;" ∈ W0 := w0_m (a := tables_1_2) 10 rfl tb_2 rfl
theorem qf_9_15 : Cond.fieldLink RX9 15 "TenYards$Shelf" "isRow" "Z" ∈ W0 := w0_m (a := tables_1_2) 12 rfl tb_2 rfl
theorem qm_9_30 : Cond.methodLink RX9 30 yX9_empty ∈ W0 := w0_m (a := tables_1_4) 207 rfl tb_4 rfl
theorem qi_X9_empty : Cond.instanceMethod yX9_empty ∈ W0 := w0_m (a := tables_1_4) 200 rfl tb_4 rfl
theorem qe_X9_empty : Cond.selects RX9 yX9_empty yX9_empty ∈ W0 := w0_m (a := tables_1_4) 201 rfl tb_4 rfl
theorem qc_X9_empty : Cond.code yX9_empty cX9_empty 1 none ∈ W0 := w0_m (a := tables_1_4) 202 rfl tb_4 rfl
theorem qf_9_19 : Cond.fieldLink RX9 19 "TenYards$Shelf" "sort" "I" ∈ W0 := w0_m (a := tables_1_2) 14 rfl tb_2 rfl
theorem qm_9_33 : Cond.methodLink RX9 33 Lib.Math.min.name ∈ W0 := w0_m (a := tables_1_4) 216 rfl tb_4 rfl
theorem qm_9_39 : Cond.methodLink RX9 39 Lib.Math.max.name ∈ W0 := w0_m (a := tables_1_4) 217 rfl tb_4 rfl
theorem qk_9_48 : Cond.constant RX9 48 (-2147483648) ∈ W0 := w0_m (a := tables_1_4) 178 rfl tb_4 rfl
theorem qm_11_306 : Cond.methodLink RX11 306 yX9_isEmpty ∈ W0 := w0_m (a := tables_1_2) 83 rfl tb_2 rfl
theorem qi_X9_isEmpty : Cond.instanceMethod yX9_isEmpty ∈ W0 := w0_m (a := tables_1_2) 84 rfl tb_2 rfl
theorem qe_X9_isEmpty : Cond.selects RX9 yX9_isEmpty yX9_isEmpty ∈ W0 := w0_m (a := tables_1_2) 85 rfl tb_2 rfl
theorem qc_X9_isEmpty : Cond.code yX9_isEmpty cX9_isEmpty 1 (some .boolean) ∈ W0 := w0_m (a := tables_1_2) 86 rfl tb_2 rfl
theorem qf_11_296 : Cond.fieldLink RX11 296 "TenYards$Shelf" "isRow" "Z" ∈ W0 := w0_m (a := tables_1_2) 13 rfl tb_2 rfl
theorem qm_11_255 : Cond.methodLink RX11 255 yX11_refusalOfRow ∈ W0 := w0_m (a := tables_1_2) 80 rfl tb_2 rfl
theorem qs_X11_refusalOfRow : Cond.static yX11_refusalOfRow ∈ W0 := w0_m (a := tables_1_2) 81 rfl tb_2 rfl
theorem qc_X11_refusalOfRow : Cond.code yX11_refusalOfRow cX11_refusalOfRow 1 (some .int) ∈ W0 := w0_m (a := tables_1_2) 82 rfl tb_2 rfl
theorem qf_11_309 : Cond.fieldLink RX11 309 "TenYards$Shelf" "sort" "I" ∈ W0 := w0_m (a := tables_1_2) 15 rfl tb_2 rfl
theorem qf_11_40 : Cond.fieldLink RX11 40 "TenYards" "shelves" "[LTenYards$Shelf;" ∈ W0 := w0_m (a := tables_1_2) 38 rfl tb_2 rfl
theorem qm_11_72 : Cond.methodLink RX11 72 yX11_isLayer ∈ W0 := w0_m (a := tables_1_3) 82 rfl tb_3 rfl
theorem qf_11_10 : Cond.fieldLink RX11 10 "TenYards" "air" "LTenYards$Air;" ∈ W0 := w0_m (a := tables_1_2) 32 rfl tb_2 rfl
theorem qf_11_80 : Cond.fieldLink RX11 80 "TenYards$Air" "east" "[I" ∈ W0 := w0_m (a := tables_1_1) 44 rfl tb_1 rfl
theorem qf_11_77 : Cond.fieldLink RX11 77 "TenYards$Air" "north" "[I" ∈ W0 := w0_m (a := tables_1_1) 47 rfl tb_1 rfl
theorem qk_11_76 : Cond.constant RX11 76 (-1000000001) ∈ W0 := w0_m (a := tables_1_3) 83 rfl tb_3 rfl
theorem qf_11_94 : Cond.fieldLink RX11 94 "TenYards$Air" "exitHeight" "I" ∈ W0 := w0_m (a := tables_1_1) 57 rfl tb_1 rfl
theorem qf_11_91 : Cond.fieldLink RX11 91 "TenYards$Air" "plane" "I" ∈ W0 := w0_m (a := tables_1_1) 53 rfl tb_1 rfl
theorem qf_11_87 : Cond.fieldLink RX11 87 "TenYards$Air" "gust" "I" ∈ W0 := w0_m (a := tables_1_1) 51 rfl tb_1 rfl
theorem qm_11_97 : Cond.methodLink RX11 97 yX0_fallerAt ∈ W0 := w0_m (a := tables_1_3) 92 rfl tb_3 rfl
theorem qi_X0_fallerAt : Cond.instanceMethod yX0_fallerAt ∈ W0 := w0_m (a := tables_1_3) 93 rfl tb_3 rfl
theorem qe_X0_fallerAt : Cond.selects RX0 yX0_fallerAt yX0_fallerAt ∈ W0 := w0_m (a := tables_1_3) 94 rfl tb_3 rfl
theorem qc_X0_fallerAt : Cond.code yX0_fallerAt cX0_fallerAt 2 (some (.object "TenYards$Faller")) ∈ W0 := w0_m (a := tables_1_3) 95 rfl tb_3 rfl
theorem qf_11_118 : Cond.fieldLink RX11 118 "TenYards$Faller" "pace" "I" ∈ W0 := w0_m (a := tables_1_1) 167 rfl tb_1 rfl
theorem qf_11_115 : Cond.fieldLink RX11 115 "TenYards$Faller" "sinks" "I" ∈ W0 := w0_m (a := tables_1_1) 150 rfl tb_1 rfl
theorem qf_11_112 : Cond.fieldLink RX11 112 "TenYards$Faller" "falls" "I" ∈ W0 := w0_m (a := tables_1_1) 133 rfl tb_1 rfl
theorem qf_11_109 : Cond.fieldLink RX11 109 "TenYards$Faller" "opens" "I" ∈ W0 := w0_m (a := tables_1_1) 111 rfl tb_1 rfl
theorem qf_11_106 : Cond.fieldLink RX11 106 "TenYards$Faller" "figure" "I" ∈ W0 := w0_m (a := tables_1_1) 108 rfl tb_1 rfl
theorem qf_11_101 : Cond.fieldLink RX11 101 "TenYards$Faller" "kind" "I" ∈ W0 := w0_m (a := tables_1_1) 127 rfl tb_1 rfl
theorem qm_11_121 : Cond.methodLink RX11 121 yX4_driftOf ∈ W0 := w0_m (a := tables_1_3) 100 rfl tb_3 rfl
theorem qm_11_125 : Cond.methodLink RX11 125 yX11_isPlace ∈ W0 := w0_m (a := tables_1_3) 125 rfl tb_3 rfl
theorem qs_X11_isPlace : Cond.static yX11_isPlace ∈ W0 := w0_m (a := tables_1_3) 126 rfl tb_3 rfl
theorem qc_X11_isPlace : Cond.code yX11_isPlace cX11_isPlace 2 (some .boolean) ∈ W0 := w0_m (a := tables_1_3) 127 rfl tb_3 rfl
theorem qm_11_133 : Cond.methodLink RX11 133 yX4_steerEast ∈ W0 := w0_m (a := tables_1_3) 198 rfl tb_3 rfl
theorem qm_11_129 : Cond.methodLink RX11 129 yX4_steerNorth ∈ W0 := w0_m (a := tables_1_3) 128 rfl tb_3 rfl
theorem qm_11_136 : Cond.methodLink RX11 136 yX0_bars ∈ W0 := w0_m (a := tables_1_3) 214 rfl tb_3 rfl
theorem qi_X0_bars : Cond.instanceMethod yX0_bars ∈ W0 := w0_m (a := tables_1_3) 215 rfl tb_3 rfl
theorem qe_X0_bars : Cond.selects RX0 yX0_bars yX0_bars ∈ W0 := w0_m (a := tables_1_3) 216 rfl tb_3 rfl
theorem qc_X0_bars : Cond.code yX0_bars cX0_bars 4 (some .boolean) ∈ W0 := w0_m (a := tables_1_3) 217 rfl tb_3 rfl
theorem qf_11_31 : Cond.fieldLink RX11 31 "TenYards" "fall" "LTenYards$Fall;" ∈ W0 := w0_m (a := tables_1_2) 36 rfl tb_2 rfl
theorem qm_11_143 : Cond.methodLink RX11 143 yX3_begin ∈ W0 := w0_m (a := tables_1_3) 226 rfl tb_3 rfl
theorem qm_11_167 : Cond.methodLink RX11 167 yX3_land ∈ W0 := w0_m (a := tables_1_3) 230 rfl tb_3 rfl
theorem qi_X3_land : Cond.instanceMethod yX3_land ∈ W0 := w0_m (a := tables_1_3) 231 rfl tb_3 rfl
theorem qe_X3_land : Cond.selects RX3 yX3_land yX3_land ∈ W0 := w0_m (a := tables_1_3) 232 rfl tb_3 rfl
theorem qc_X3_land : Cond.code yX3_land cX3_land 1 none ∈ W0 := w0_m (a := tables_1_3) 233 rfl tb_3 rfl
theorem qf_11_151 : Cond.fieldLink RX11 151 "TenYards$Fall" "x" "I" ∈ W0 := w0_m (a := tables_1_1) 204 rfl tb_1 rfl
theorem qf_11_154 : Cond.fieldLink RX11 154 "TenYards$Fall" "y" "I" ∈ W0 := w0_m (a := tables_1_1) 206 rfl tb_1 rfl
theorem qm_11_214 : Cond.methodLink RX11 214 yX3_off ∈ W0 := w0_m (a := tables_1_4) 21 rfl tb_4 rfl
theorem qf_11_164 : Cond.fieldLink RX11 164 "TenYards$Fall" "seconds" "I" ∈ W0 := w0_m (a := tables_1_1) 210 rfl tb_1 rfl
theorem qm_11_139 : Cond.methodLink RX11 139 yX11_landing ∈ W0 := w0_m (a := tables_1_3) 222 rfl tb_3 rfl
theorem qi_X11_landing : Cond.instanceMethod yX11_landing ∈ W0 := w0_m (a := tables_1_3) 224 rfl tb_3 rfl
theorem qe_X11_landing : Cond.selects RX11 yX11_landing yX11_landing ∈ W0 := w0_s 4 rfl rfl
theorem qc_X11_landing : Cond.code yX11_landing cX11_landing 7 (some .int) ∈ W0 := w0_m (a := tables_1_3) 225 rfl tb_3 rfl
theorem qm_11_147 : Cond.methodLink RX11 147 yX3_goOn ∈ W0 := w0_m (a := tables_1_4) 34 rfl tb_4 rfl
theorem qf_11_157 : Cond.fieldLink RX11 157 "TenYards$Fall" "height" "I" ∈ W0 := w0_m (a := tables_1_1) 208 rfl tb_1 rfl
theorem qm_11_160 : Cond.methodLink RX11 160 yX3_holdWay ∈ W0 := w0_m (a := tables_1_4) 39 rfl tb_4 rfl
theorem qi_X3_holdWay : Cond.instanceMethod yX3_holdWay ∈ W0 := w0_m (a := tables_1_4) 40 rfl tb_4 rfl
theorem qe_X3_holdWay : Cond.selects RX3 yX3_holdWay yX3_holdWay ∈ W0 := w0_m (a := tables_1_4) 41 rfl tb_4 rfl
theorem qc_X3_holdWay : Cond.code yX3_holdWay cX3_holdWay 3 none ∈ W0 := w0_m (a := tables_1_4) 42 rfl tb_4 rfl
theorem qk_11_172 : Cond.constant RX11 172 (2147483647) ∈ W0 := w0_m (a := tables_1_4) 47 rfl tb_4 rfl
theorem qm_11_173 : Cond.methodLink RX11 173 yX3_offFrom ∈ W0 := w0_m (a := tables_1_4) 48 rfl tb_4 rfl
theorem qi_X3_offFrom : Cond.instanceMethod yX3_offFrom ∈ W0 := w0_m (a := tables_1_4) 49 rfl tb_4 rfl
theorem qe_X3_offFrom : Cond.selects RX3 yX3_offFrom yX3_offFrom ∈ W0 := w0_m (a := tables_1_4) 50 rfl tb_4 rfl
theorem qc_X3_offFrom : Cond.code yX3_offFrom cX3_offFrom 4 (some .int) ∈ W0 := w0_m (a := tables_1_4) 51 rfl tb_4 rfl
theorem qf_11_189 : Cond.fieldLink RX11 189 "TenYards$Shelf" "size" "I" ∈ W0 := w0_m (a := tables_1_2) 18 rfl tb_2 rfl
theorem qm_11_258 : Cond.methodLink RX11 258 yX9_valueAt ∈ W0 := w0_m (a := tables_1_4) 66 rfl tb_4 rfl
theorem qm_11_232 : Cond.methodLink RX11 232 yX3_held ∈ W0 := w0_m (a := tables_1_4) 71 rfl tb_4 rfl
theorem qm_11_62 : Cond.methodLink RX11 62 yX11_refusalOfBytes ∈ W0 := w0_m (a := tables_1_2) 77 rfl tb_2 rfl
theorem qs_X11_refusalOfBytes : Cond.static yX11_refusalOfBytes ∈ W0 := w0_m (a := tables_1_2) 78 rfl tb_2 rfl
theorem qc_X11_refusalOfBytes : Cond.code yX11_refusalOfBytes cX11_refusalOfBytes 2 (some .int) ∈ W0 := w0_m (a := tables_1_2) 79 rfl tb_2 rfl
theorem qm_11_58 : Cond.methodLink RX11 58 yX11_shelfAt ∈ W0 := w0_m (a := tables_1_2) 70 rfl tb_2 rfl
theorem qi_X11_shelfAt : Cond.instanceMethod yX11_shelfAt ∈ W0 := w0_m (a := tables_1_2) 72 rfl tb_2 rfl
theorem qe_X11_shelfAt : Cond.selects RX11 yX11_shelfAt yX11_shelfAt ∈ W0 := w0_s 0 rfl rfl
theorem qc_X11_shelfAt : Cond.code yX11_shelfAt cX11_shelfAt 2 (some (.object "TenYards$Shelf")) ∈ W0 := w0_m (a := tables_1_2) 73 rfl tb_2 rfl
theorem qm_11_177 : Cond.methodLink RX11 177 yX11_isGap ∈ W0 := w0_m (a := tables_1_4) 58 rfl tb_4 rfl
theorem qs_X11_isGap : Cond.static yX11_isGap ∈ W0 := w0_m (a := tables_1_4) 59 rfl tb_4 rfl
theorem qc_X11_isGap : Cond.code yX11_isGap cX11_isGap 1 (some .boolean) ∈ W0 := w0_m (a := tables_1_4) 60 rfl tb_4 rfl
theorem qk_11_180 : Cond.constant RX11 180 (60000) ∈ W0 := w0_m (a := tables_1_4) 61 rfl tb_4 rfl
theorem qm_11_181 : Cond.methodLink RX11 181 yX11_refusalOfLoad ∈ W0 := w0_m (a := tables_1_4) 62 rfl tb_4 rfl
theorem qi_X11_refusalOfLoad : Cond.instanceMethod yX11_refusalOfLoad ∈ W0 := w0_m (a := tables_1_4) 64 rfl tb_4 rfl
theorem qe_X11_refusalOfLoad : Cond.selects RX11 yX11_refusalOfLoad yX11_refusalOfLoad ∈ W0 := w0_s 8 rfl rfl
theorem qc_X11_refusalOfLoad : Cond.code yX11_refusalOfLoad cX11_refusalOfLoad 4 (some .int) ∈ W0 := w0_m (a := tables_1_4) 65 rfl tb_4 rfl
theorem qm_11_184 : Cond.methodLink RX11 184 yX11_loadWithin ∈ W0 := w0_m (a := tables_1_4) 67 rfl tb_4 rfl
theorem qi_X11_loadWithin : Cond.instanceMethod yX11_loadWithin ∈ W0 := w0_m (a := tables_1_4) 69 rfl tb_4 rfl
theorem qe_X11_loadWithin : Cond.selects RX11 yX11_loadWithin yX11_loadWithin ∈ W0 := w0_s 9 rfl rfl
theorem qc_X11_loadWithin : Cond.code yX11_loadWithin cX11_loadWithin 9 (some .int) ∈ W0 := w0_m (a := tables_1_4) 70 rfl tb_4 rfl
theorem qk_11_188 : Cond.constant RX11 188 (-1000000000) ∈ W0 := w0_m (a := tables_1_4) 76 rfl tb_4 rfl
theorem qf_11_48 : Cond.fieldLink RX11 48 "TenYards" "places" "[I" ∈ W0 := w0_m (a := tables_1_2) 40 rfl tb_2 rfl
theorem qm_11_337 : Cond.methodLink RX11 337 yX11_swapPlaces ∈ W0 := w0_m (a := tables_1_4) 98 rfl tb_4 rfl
theorem qi_X11_swapPlaces : Cond.instanceMethod yX11_swapPlaces ∈ W0 := w0_m (a := tables_1_4) 100 rfl tb_4 rfl
theorem qe_X11_swapPlaces : Cond.selects RX11 yX11_swapPlaces yX11_swapPlaces ∈ W0 := w0_s 14 rfl rfl
theorem qc_X11_swapPlaces : Cond.code yX11_swapPlaces cX11_swapPlaces 4 none ∈ W0 := w0_m (a := tables_1_4) 101 rfl tb_4 rfl
theorem qf_11_44 : Cond.fieldLink RX11 44 "TenYards" "offs" "[I" ∈ W0 := w0_m (a := tables_1_2) 39 rfl tb_2 rfl
theorem qm_11_196 : Cond.methodLink RX11 196 Lib.Math.min.name ∈ W0 := w0_m (a := tables_1_4) 85 rfl tb_4 rfl
theorem qm_11_192 : Cond.methodLink RX11 192 yX11_tellOffs ∈ W0 := w0_m (a := tables_1_4) 81 rfl tb_4 rfl
theorem qi_X11_tellOffs : Cond.instanceMethod yX11_tellOffs ∈ W0 := w0_m (a := tables_1_4) 83 rfl tb_4 rfl
theorem qe_X11_tellOffs : Cond.selects RX11 yX11_tellOffs yX11_tellOffs ∈ W0 := w0_s 10 rfl rfl
theorem qc_X11_tellOffs : Cond.code yX11_tellOffs cX11_tellOffs 9 none ∈ W0 := w0_m (a := tables_1_4) 84 rfl tb_4 rfl
theorem qm_11_202 : Cond.methodLink RX11 202 yX11_sumOfOrder ∈ W0 := w0_m (a := tables_1_4) 86 rfl tb_4 rfl
theorem qi_X11_sumOfOrder : Cond.instanceMethod yX11_sumOfOrder ∈ W0 := w0_m (a := tables_1_4) 88 rfl tb_4 rfl
theorem qe_X11_sumOfOrder : Cond.selects RX11 yX11_sumOfOrder yX11_sumOfOrder ∈ W0 := w0_s 11 rfl rfl
theorem qc_X11_sumOfOrder : Cond.code yX11_sumOfOrder cX11_sumOfOrder 4 (some .int) ∈ W0 := w0_m (a := tables_1_4) 89 rfl tb_4 rfl
theorem qm_11_208 : Cond.methodLink RX11 208 yX11_nextOrder ∈ W0 := w0_m (a := tables_1_4) 94 rfl tb_4 rfl
theorem qi_X11_nextOrder : Cond.instanceMethod yX11_nextOrder ∈ W0 := w0_m (a := tables_1_4) 96 rfl tb_4 rfl
theorem qe_X11_nextOrder : Cond.selects RX11 yX11_nextOrder yX11_nextOrder ∈ W0 := w0_s 13 rfl rfl
theorem qc_X11_nextOrder : Cond.code yX11_nextOrder cX11_nextOrder 6 (some .boolean) ∈ W0 := w0_m (a := tables_1_4) 97 rfl tb_4 rfl
theorem qm_11_205 : Cond.methodLink RX11 205 yX11_digitsOfOrder ∈ W0 := w0_m (a := tables_1_4) 90 rfl tb_4 rfl
theorem qi_X11_digitsOfOrder : Cond.instanceMethod yX11_digitsOfOrder ∈ W0 := w0_m (a := tables_1_4) 92 rfl tb_4 rfl
theorem qe_X11_digitsOfOrder : Cond.selects RX11 yX11_digitsOfOrder yX11_digitsOfOrder ∈ W0 := w0_s 12 rfl rfl
theorem qc_X11_digitsOfOrder : Cond.code yX11_digitsOfOrder cX11_digitsOfOrder 5 (some .int) ∈ W0 := w0_m (a := tables_1_4) 93 rfl tb_4 rfl
theorem qm_11_211 : Cond.methodLink RX11 211 yX3_openAt ∈ W0 := w0_m (a := tables_1_4) 106 rfl tb_4 rfl
theorem qi_X3_openAt : Cond.instanceMethod yX3_openAt ∈ W0 := w0_m (a := tables_1_4) 107 rfl tb_4 rfl
theorem qe_X3_openAt : Cond.selects RX3 yX3_openAt yX3_openAt ∈ W0 := w0_m (a := tables_1_4) 108 rfl tb_4 rfl
theorem qc_X3_openAt : Cond.code yX3_openAt cX3_openAt 2 none ∈ W0 := w0_m (a := tables_1_4) 109 rfl tb_4 rfl
theorem qm_11_218 : Cond.methodLink RX11 218 yX11_eastOfWay ∈ W0 := w0_m (a := tables_1_4) 114 rfl tb_4 rfl
theorem qs_X11_eastOfWay : Cond.static yX11_eastOfWay ∈ W0 := w0_m (a := tables_1_4) 115 rfl tb_4 rfl
theorem qc_X11_eastOfWay : Cond.code yX11_eastOfWay cX11_eastOfWay 1 (some .int) ∈ W0 := w0_m (a := tables_1_4) 116 rfl tb_4 rfl
theorem qm_11_221 : Cond.methodLink RX11 221 yX11_northOfWay ∈ W0 := w0_m (a := tables_1_4) 117 rfl tb_4 rfl
theorem qs_X11_northOfWay : Cond.static yX11_northOfWay ∈ W0 := w0_m (a := tables_1_4) 118 rfl tb_4 rfl
theorem qc_X11_northOfWay : Cond.code yX11_northOfWay cX11_northOfWay 1 (some .int) ∈ W0 := w0_m (a := tables_1_4) 119 rfl tb_4 rfl
theorem qk_11_224 : Cond.constant RX11 224 (-1000000004) ∈ W0 := w0_m (a := tables_1_4) 128 rfl tb_4 rfl
theorem qm_11_225 : Cond.methodLink RX11 225 Lib.Math.abs.name ∈ W0 := w0_m (a := tables_1_4) 129 rfl tb_4 rfl
theorem qf_11_336 : Cond.fieldLink RX11 336 "TenYards$Fall" "gust" "I" ∈ W0 := w0_m (a := tables_1_1) 212 rfl tb_1 rfl
theorem qm_11_228 : Cond.methodLink RX11 228 yX11_goodBySeeds ∈ W0 := w0_m (a := tables_1_4) 134 rfl tb_4 rfl
theorem qi_X11_goodBySeeds : Cond.instanceMethod yX11_goodBySeeds ∈ W0 := w0_m (a := tables_1_4) 136 rfl tb_4 rfl
theorem qe_X11_goodBySeeds : Cond.selects RX11 yX11_goodBySeeds yX11_goodBySeeds ∈ W0 := w0_s 15 rfl rfl
theorem qc_X11_goodBySeeds : Cond.code yX11_goodBySeeds cX11_goodBySeeds 10 (some .int) ∈ W0 := w0_m (a := tables_1_4) 137 rfl tb_4 rfl
theorem qf_11_35 : Cond.fieldLink RX11 35 "TenYards" "laterFall" "LTenYards$Fall;" ∈ W0 := w0_m (a := tables_1_2) 37 rfl tb_2 rfl
theorem qm_11_235 : Cond.methodLink RX11 235 yX3_hasLanded ∈ W0 := w0_m (a := tables_1_4) 150 rfl tb_4 rfl
theorem qi_X3_hasLanded : Cond.instanceMethod yX3_hasLanded ∈ W0 := w0_m (a := tables_1_4) 151 rfl tb_4 rfl
theorem qe_X3_hasLanded : Cond.selects RX3 yX3_hasLanded yX3_hasLanded ∈ W0 := w0_m (a := tables_1_4) 152 rfl tb_4 rfl
theorem qc_X3_hasLanded : Cond.code yX3_hasLanded cX3_hasLanded 1 (some .boolean) ∈ W0 := w0_m (a := tables_1_4) 153 rfl tb_4 rfl
theorem qm_11_239 : Cond.methodLink RX11 239 yX3_apartFrom ∈ W0 := w0_m (a := tables_1_4) 154 rfl tb_4 rfl
theorem qi_X3_apartFrom : Cond.instanceMethod yX3_apartFrom ∈ W0 := w0_m (a := tables_1_4) 155 rfl tb_4 rfl
theorem qe_X3_apartFrom : Cond.selects RX3 yX3_apartFrom yX3_apartFrom ∈ W0 := w0_m (a := tables_1_4) 156 rfl tb_4 rfl
theorem qc_X3_apartFrom : Cond.code yX3_apartFrom cX3_apartFrom 2 (some .int) ∈ W0 := w0_m (a := tables_1_4) 157 rfl tb_4 rfl
theorem qm_11_243 : Cond.methodLink RX11 243 yX4_ofKind ∈ W0 := w0_m (a := tables_1_4) 162 rfl tb_4 rfl
theorem qm_11_249 : Cond.methodLink RX11 249 yX8_init ∈ W0 := w0_m (a := tables_1_4) 168 rfl tb_4 rfl
theorem qf_11_51 : Cond.fieldLink RX11 51 "TenYards" "crateX" "[I" ∈ W0 := w0_m (a := tables_1_2) 41 rfl tb_2 rfl
theorem qf_11_54 : Cond.fieldLink RX11 54 "TenYards" "crateY" "[I" ∈ W0 := w0_m (a := tables_1_2) 42 rfl tb_2 rfl
theorem qm_11_252 : Cond.methodLink RX11 252 Lib.Math.max.name ∈ W0 := w0_m (a := tables_1_4) 169 rfl tb_4 rfl
theorem qm_11_261 : Cond.methodLink RX11 261 yX9_leastOfSort ∈ W0 := w0_m (a := tables_1_4) 174 rfl tb_4 rfl
theorem qi_X9_leastOfSort : Cond.instanceMethod yX9_leastOfSort ∈ W0 := w0_m (a := tables_1_4) 175 rfl tb_4 rfl
theorem qe_X9_leastOfSort : Cond.selects RX9 yX9_leastOfSort yX9_leastOfSort ∈ W0 := w0_m (a := tables_1_4) 176 rfl tb_4 rfl
theorem qc_X9_leastOfSort : Cond.code yX9_leastOfSort cX9_leastOfSort 1 (some .int) ∈ W0 := w0_m (a := tables_1_4) 177 rfl tb_4 rfl
theorem qf_11_19 : Cond.fieldLink RX11 19 "TenYards" "pictured" "LTenYards$Air;" ∈ W0 := w0_m (a := tables_1_2) 34 rfl tb_2 rfl
theorem qm_11_66 : Cond.methodLink RX11 66 yX0_become ∈ W0 := w0_m (a := tables_1_2) 87 rfl tb_2 rfl
theorem qi_X0_become : Cond.instanceMethod yX0_become ∈ W0 := w0_m (a := tables_1_2) 88 rfl tb_2 rfl
theorem qe_X0_become : Cond.selects RX0 yX0_become yX0_become ∈ W0 := w0_m (a := tables_1_2) 89 rfl tb_2 rfl
theorem qc_X0_become : Cond.code yX0_become cX0_become 3 none ∈ W0 := w0_m (a := tables_1_2) 90 rfl tb_2 rfl
theorem qf_11_22 : Cond.fieldLink RX11 22 "TenYards" "isPictured" "Z" ∈ W0 := w0_m (a := tables_1_2) 35 rfl tb_2 rfl
theorem qf_11_264 : Cond.fieldLink RX11 264 "TenYards$Air" "fallerCount" "I" ∈ W0 := w0_m (a := tables_1_1) 60 rfl tb_1 rfl
theorem qm_11_270 : Cond.methodLink RX11 270 yX0_windyLayers ∈ W0 := w0_m (a := tables_1_4) 191 rfl tb_4 rfl
theorem qi_X0_windyLayers : Cond.instanceMethod yX0_windyLayers ∈ W0 := w0_m (a := tables_1_4) 192 rfl tb_4 rfl
theorem qe_X0_windyLayers : Cond.selects RX0 yX0_windyLayers yX0_windyLayers ∈ W0 := w0_m (a := tables_1_4) 193 rfl tb_4 rfl
theorem qc_X0_windyLayers : Cond.code yX0_windyLayers cX0_windyLayers 3 (some .int) ∈ W0 := w0_m (a := tables_1_4) 194 rfl tb_4 rfl
theorem qf_11_267 : Cond.fieldLink RX11 267 "TenYards$Air" "boxCount" "I" ∈ W0 := w0_m (a := tables_1_1) 63 rfl tb_1 rfl
theorem qm_11_276 : Cond.methodLink RX11 276 yX9_hold ∈ W0 := w0_m (a := tables_1_4) 203 rfl tb_4 rfl
theorem qi_X9_hold : Cond.instanceMethod yX9_hold ∈ W0 := w0_m (a := tables_1_4) 204 rfl tb_4 rfl
theorem qe_X9_hold : Cond.selects RX9 yX9_hold yX9_hold ∈ W0 := w0_m (a := tables_1_4) 205 rfl tb_4 rfl
theorem qc_X9_hold : Cond.code yX9_hold cX9_hold 2 none ∈ W0 := w0_m (a := tables_1_4) 206 rfl tb_4 rfl
theorem qm_11_273 : Cond.methodLink RX11 273 yX9_empty ∈ W0 := w0_m (a := tables_1_4) 199 rfl tb_4 rfl
theorem qm_11_280 : Cond.methodLink RX11 280 yX9_holdRow ∈ W0 := w0_m (a := tables_1_4) 212 rfl tb_4 rfl
theorem qi_X9_holdRow : Cond.instanceMethod yX9_holdRow ∈ W0 := w0_m (a := tables_1_4) 213 rfl tb_4 rfl
theorem qe_X9_holdRow : Cond.selects RX9 yX9_holdRow yX9_holdRow ∈ W0 := w0_m (a := tables_1_4) 214 rfl tb_4 rfl
theorem qc_X9_holdRow : Cond.code yX9_holdRow cX9_holdRow 4 none ∈ W0 := w0_m (a := tables_1_4) 215 rfl tb_4 rfl
theorem qm_11_283 : Cond.methodLink RX11 283 yX9_hasPlaces ∈ W0 := w0_m (a := tables_1_4) 222 rfl tb_4 rfl
theorem qm_11_286 : Cond.methodLink RX11 286 yX9_store ∈ W0 := w0_m (a := tables_1_4) 223 rfl tb_4 rfl
theorem qi_X9_store : Cond.instanceMethod yX9_store ∈ W0 := w0_m (a := tables_1_4) 224 rfl tb_4 rfl
theorem qe_X9_store : Cond.selects RX9 yX9_store yX9_store ∈ W0 := w0_m (a := tables_1_4) 225 rfl tb_4 rfl
theorem qc_X9_store : Cond.code yX9_store cX9_store 3 none ∈ W0 := w0_m (a := tables_1_4) 226 rfl tb_4 rfl
theorem qf_11_312 : Cond.fieldLink RX11 312 "TenYards$Shelf" "elements" "[I" ∈ W0 := w0_m (a := tables_1_2) 20 rfl tb_2 rfl
theorem qf_11_321 : Cond.fieldLink RX11 321 "TenYards$Shelf" "faller" "LTenYards$Faller;" ∈ W0 := w0_m (a := tables_1_2) 11 rfl tb_2 rfl
theorem qf_11_325 : Cond.fieldLink RX11 325 "TenYards$Faller" "worth" "I" ∈ W0 := w0_m (a := tables_1_1) 183 rfl tb_1 rfl
theorem kq_8_1 : Cond.methodLink RX8 1 yX4_init ∈ W0 ∧ Cond.instanceMethod yX4_init ∈ W0 ∧ Cond.initialized (yX4_init).cls ∈ W0 ∧ Cond.code yX4_init cX4_init 4 none ∈ W0 := ⟨qm_8_1, qi_X4_init, qn_4, qc_X4_init⟩
theorem kq_7_1 : Cond.methodLink RX7 1 yX4_init ∈ W0 ∧ Cond.instanceMethod yX4_init ∈ W0 ∧ Cond.initialized (yX4_init).cls ∈ W0 ∧ Cond.code yX4_init cX4_init 4 none ∈ W0 := ⟨qm_7_1, qi_X4_init, qn_4, qc_X4_init⟩
theorem kq_5_1 : Cond.methodLink RX5 1 yX4_init ∈ W0 ∧ Cond.instanceMethod yX4_init ∈ W0 ∧ Cond.initialized (yX4_init).cls ∈ W0 ∧ Cond.code yX4_init cX4_init 4 none ∈ W0 := ⟨qm_5_1, qi_X4_init, qn_4, qc_X4_init⟩
theorem kq_6_1 : Cond.methodLink RX6 1 yX4_init ∈ W0 ∧ Cond.instanceMethod yX4_init ∈ W0 ∧ Cond.initialized (yX4_init).cls ∈ W0 ∧ Cond.code yX4_init cX4_init 4 none ∈ W0 := ⟨qm_6_1, qi_X4_init, qn_4, qc_X4_init⟩
theorem kq_1_1 : Cond.methodLink RX1 1 yX6_init ∈ W0 ∧ Cond.instanceMethod yX6_init ∈ W0 ∧ Cond.initialized (yX6_init).cls ∈ W0 ∧ Cond.code yX6_init cX6_init 4 none ∈ W0 := ⟨qm_1_1, qi_X6_init, qn_6, qc_X6_init⟩
theorem kq_2_1 : Cond.methodLink RX2 1 yX4_init ∈ W0 ∧ Cond.instanceMethod yX4_init ∈ W0 ∧ Cond.initialized (yX4_init).cls ∈ W0 ∧ Cond.code yX4_init cX4_init 4 none ∈ W0 := ⟨qm_2_1, qi_X4_init, qn_4, qc_X4_init⟩
theorem kq_10_1 : Cond.methodLink RX10 1 yX5_init ∈ W0 ∧ Cond.instanceMethod yX5_init ∈ W0 ∧ Cond.initialized (yX5_init).cls ∈ W0 ∧ Cond.code yX5_init cX5_init 4 none ∈ W0 := ⟨qm_10_1, qi_X5_init, qn_5, qc_X5_init⟩
theorem kz_0_46 : Cond.methodLink RX0 46 arraycopyName ∈ W0 ∧ Cond.native arraycopyName ∈ W0 ∧ Cond.static arraycopyName ∈ W0 ∧ Cond.initialized "java/lang/System" ∈ W0 := ⟨w0_m (a := tables_1_2) 91 rfl tb_2 rfl, w0_m (a := tables_1_2) 93 rfl tb_2 rfl, w0_m (a := tables_1_2) 92 rfl tb_2 rfl, w0_m (a := tables_1_1) 7 rfl tb_1 rfl⟩
theorem kn_X11_isFrom : Cond.static yX11_isFrom ∈ W0 ∧ Cond.initialized (yX11_isFrom).cls ∈ W0 ∧ Cond.code yX11_isFrom cX11_isFrom 3 (some .boolean) ∈ W0 := ⟨qs_X11_isFrom, qn_11, qc_X11_isFrom⟩
theorem kc_11_83 : cS RX11 83 yX11_isFrom cX11_isFrom 3 (some .boolean) := ⟨qm_11_83, qs_X11_isFrom, qn_11, qc_X11_isFrom⟩
theorem kc_0_127 : cS RX0 127 yX0_isYards cX0_isYards 1 (some .boolean) := ⟨qm_0_127, qs_X0_isYards, qn_0, qc_X0_isYards⟩
theorem kn_X11_isLayer : Cond.static yX11_isLayer ∈ W0 ∧ Cond.initialized (yX11_isLayer).cls ∈ W0 ∧ Cond.code yX11_isLayer cX11_isLayer 1 (some .boolean) ∈ W0 := ⟨qs_X11_isLayer, qn_11, qc_X11_isLayer⟩
theorem kc_0_124 : cS RX0 124 yX0_isWind cX0_isWind 1 (some .boolean) := ⟨qm_0_124, qs_X0_isWind, qn_0, qc_X0_isWind⟩
theorem kc_9_42 : cV RX9 42 RX9 yX9_hasPlaces cX9_hasPlaces 3 (some .boolean) := ⟨qm_9_42, qi_X9_hasPlaces, qe_X9_hasPlaces, qn_9, qc_X9_hasPlaces⟩
theorem kc_0_65 : cV RX0 65 RX9 yX9_valueAt cX9_valueAt 2 (some .int) := ⟨qm_0_65, qi_X9_valueAt, qe_X9_valueAt, qn_9, qc_X9_valueAt⟩
theorem kc_0_118 : cS RX0 118 yX0_isDigit cX0_isDigit 1 (some .boolean) := ⟨qm_0_118, qs_X0_isDigit, qn_0, qc_X0_isDigit⟩
theorem kw_4_8 : Cond.classLink RX4 8 RX4 ∈ W0 ∧ Cond.instantiable RX4 8 ∈ W0 ∧ Cond.initialized RX4 ∈ W0 := ⟨w0_m (a := tables_1_3) 70 rfl tb_3 rfl, w0_m (a := tables_1_1) 94 rfl tb_1 rfl, w0_m (a := tables_1_1) 4 rfl tb_1 rfl⟩
theorem kq_4_57 : Cond.methodLink RX4 57 yX4_init ∈ W0 ∧ Cond.instanceMethod yX4_init ∈ W0 ∧ Cond.initialized (yX4_init).cls ∈ W0 ∧ Cond.code yX4_init cX4_init 4 none ∈ W0 := ⟨qm_4_57, qi_X4_init, qn_4, qc_X4_init⟩
theorem kw_4_54 : Cond.classLink RX4 54 RX10 ∈ W0 ∧ Cond.instantiable RX10 8 ∈ W0 ∧ Cond.initialized RX10 ∈ W0 := ⟨w0_m (a := tables_1_3) 55 rfl tb_3 rfl, w0_m (a := tables_1_3) 56 rfl tb_3 rfl, w0_m (a := tables_1_1) 18 rfl tb_1 rfl⟩
theorem kq_4_56 : Cond.methodLink RX4 56 yX10_init ∈ W0 ∧ Cond.instanceMethod yX10_init ∈ W0 ∧ Cond.initialized (yX10_init).cls ∈ W0 ∧ Cond.code yX10_init cX10_init 4 none ∈ W0 := ⟨qm_4_56, qi_X10_init, qn_10, qc_X10_init⟩
theorem kw_4_51 : Cond.classLink RX4 51 RX2 ∈ W0 ∧ Cond.instantiable RX2 8 ∈ W0 ∧ Cond.initialized RX2 ∈ W0 := ⟨w0_m (a := tables_1_3) 40 rfl tb_3 rfl, w0_m (a := tables_1_3) 41 rfl tb_3 rfl, w0_m (a := tables_1_1) 17 rfl tb_1 rfl⟩
theorem kq_4_53 : Cond.methodLink RX4 53 yX2_init ∈ W0 ∧ Cond.instanceMethod yX2_init ∈ W0 ∧ Cond.initialized (yX2_init).cls ∈ W0 ∧ Cond.code yX2_init cX2_init 4 none ∈ W0 := ⟨qm_4_53, qi_X2_init, qn_2, qc_X2_init⟩
theorem kw_4_48 : Cond.classLink RX4 48 RX1 ∈ W0 ∧ Cond.instantiable RX1 8 ∈ W0 ∧ Cond.initialized RX1 ∈ W0 := ⟨w0_m (a := tables_1_3) 25 rfl tb_3 rfl, w0_m (a := tables_1_3) 26 rfl tb_3 rfl, w0_m (a := tables_1_1) 16 rfl tb_1 rfl⟩
theorem kq_4_50 : Cond.methodLink RX4 50 yX1_init ∈ W0 ∧ Cond.instanceMethod yX1_init ∈ W0 ∧ Cond.initialized (yX1_init).cls ∈ W0 ∧ Cond.code yX1_init cX1_init 4 none ∈ W0 := ⟨qm_4_50, qi_X1_init, qn_1, qc_X1_init⟩
theorem kw_4_45 : Cond.classLink RX4 45 RX6 ∈ W0 ∧ Cond.instantiable RX6 8 ∈ W0 ∧ Cond.initialized RX6 ∈ W0 := ⟨w0_m (a := tables_1_3) 10 rfl tb_3 rfl, w0_m (a := tables_1_3) 11 rfl tb_3 rfl, w0_m (a := tables_1_1) 15 rfl tb_1 rfl⟩
theorem kq_4_47 : Cond.methodLink RX4 47 yX6_init ∈ W0 ∧ Cond.instanceMethod yX6_init ∈ W0 ∧ Cond.initialized (yX6_init).cls ∈ W0 ∧ Cond.code yX6_init cX6_init 4 none ∈ W0 := ⟨qm_4_47, qi_X6_init, qn_6, qc_X6_init⟩
theorem kw_4_42 : Cond.classLink RX4 42 RX5 ∈ W0 ∧ Cond.instantiable RX5 8 ∈ W0 ∧ Cond.initialized RX5 ∈ W0 := ⟨w0_m (a := tables_1_2) 235 rfl tb_2 rfl, w0_m (a := tables_1_2) 236 rfl tb_2 rfl, w0_m (a := tables_1_1) 14 rfl tb_1 rfl⟩
theorem kq_4_44 : Cond.methodLink RX4 44 yX5_init ∈ W0 ∧ Cond.instanceMethod yX5_init ∈ W0 ∧ Cond.initialized (yX5_init).cls ∈ W0 ∧ Cond.code yX5_init cX5_init 4 none ∈ W0 := ⟨qm_4_44, qi_X5_init, qn_5, qc_X5_init⟩
theorem kw_4_39 : Cond.classLink RX4 39 RX7 ∈ W0 ∧ Cond.instantiable RX7 8 ∈ W0 ∧ Cond.initialized RX7 ∈ W0 := ⟨w0_m (a := tables_1_2) 220 rfl tb_2 rfl, w0_m (a := tables_1_2) 221 rfl tb_2 rfl, w0_m (a := tables_1_1) 13 rfl tb_1 rfl⟩
theorem kq_4_41 : Cond.methodLink RX4 41 yX7_init ∈ W0 ∧ Cond.instanceMethod yX7_init ∈ W0 ∧ Cond.initialized (yX7_init).cls ∈ W0 ∧ Cond.code yX7_init cX7_init 4 none ∈ W0 := ⟨qm_4_41, qi_X7_init, qn_7, qc_X7_init⟩
theorem kw_4_34 : Cond.classLink RX4 34 RX8 ∈ W0 ∧ Cond.instantiable RX8 8 ∈ W0 ∧ Cond.initialized RX8 ∈ W0 := ⟨w0_m (a := tables_1_2) 204 rfl tb_2 rfl, w0_m (a := tables_1_2) 205 rfl tb_2 rfl, w0_m (a := tables_1_1) 12 rfl tb_1 rfl⟩
theorem kq_4_36 : Cond.methodLink RX4 36 yX8_init ∈ W0 ∧ Cond.instanceMethod yX8_init ∈ W0 ∧ Cond.initialized (yX8_init).cls ∈ W0 ∧ Cond.code yX8_init cX8_init 4 none ∈ W0 := ⟨qm_4_36, qi_X8_init, qn_8, qc_X8_init⟩
theorem kc_0_130 : cS RX0 130 yX4_ofKind cX4_ofKind 4 (some (.object "TenYards$Faller")) := ⟨qm_0_130, qs_X4_ofKind, qn_4, qc_X4_ofKind⟩
theorem kc_sg : cS RX2 28 yJ6_signum_0f7a4 cJ6_signum_0f7a4 1 (some .int) := ⟨w0_m (a := tables_1_3) 188 rfl tb_3 rfl, w0_m (a := tables_1_3) 189 rfl tb_3 rfl, w0_m (a := tables_1_1) 20 rfl tb_1 rfl, w0_m (a := tables_1_3) 190 rfl tb_3 rfl⟩
theorem kp_5_25 : cP RX5 25 yX4_driftOf cX4_driftOf 2 (some .int) := ⟨qm_5_25, qd_X4_driftOf, qu_5, qi_X4_driftOf, qn_4, qc_X4_driftOf⟩
theorem kp_10_22 : cP RX10 22 yX5_driftOf cX5_driftOf 2 (some .int) := ⟨qm_10_22, qd_X5_driftOf, qu_10, qi_X5_driftOf, qn_5, qc_X5_driftOf⟩
theorem kp_7_25 : cP RX7 25 yX4_driftOf cX4_driftOf 2 (some .int) := ⟨qm_7_25, qd_X4_driftOf, qu_7, qi_X4_driftOf, qn_4, qc_X4_driftOf⟩
theorem kc_3_108 : cV RX3 108 RX4 yX4_driftOf cX4_driftOf 2 (some .int) := ⟨qm_3_108, qi_X4_driftOf, qe_X4_driftOf, qn_4, qc_X4_driftOf⟩
theorem ku_3_108_8 : cU RX3 108 RX8 RX4 yX4_driftOf yX4_driftOf cX4_driftOf 2 (some .int) := ⟨qm_3_108, qd_X4_driftOf, qv_8_X4_driftOf, qi_X4_driftOf, qn_4, qc_X4_driftOf⟩
theorem ku_3_108_7 : cU RX3 108 RX7 RX4 yX4_driftOf yX7_driftOf cX7_driftOf 2 (some .int) := ⟨qm_3_108, qd_X4_driftOf, qv_7_X4_driftOf, qi_X7_driftOf, qn_7, qc_X7_driftOf⟩
theorem ku_3_108_5 : cU RX3 108 RX5 RX4 yX4_driftOf yX5_driftOf cX5_driftOf 2 (some .int) := ⟨qm_3_108, qd_X4_driftOf, qv_5_X4_driftOf, qi_X5_driftOf, qn_5, qc_X5_driftOf⟩
theorem ku_3_108_6 : cU RX3 108 RX6 RX4 yX4_driftOf yX4_driftOf cX4_driftOf 2 (some .int) := ⟨qm_3_108, qd_X4_driftOf, qv_6_X4_driftOf, qi_X4_driftOf, qn_4, qc_X4_driftOf⟩
theorem ku_3_108_1 : cU RX3 108 RX1 RX4 yX4_driftOf yX4_driftOf cX4_driftOf 2 (some .int) := ⟨qm_3_108, qd_X4_driftOf, qv_1_X4_driftOf, qi_X4_driftOf, qn_4, qc_X4_driftOf⟩
theorem ku_3_108_2 : cU RX3 108 RX2 RX4 yX4_driftOf yX4_driftOf cX4_driftOf 2 (some .int) := ⟨qm_3_108, qd_X4_driftOf, qv_2_X4_driftOf, qi_X4_driftOf, qn_4, qc_X4_driftOf⟩
theorem ku_3_108_10 : cU RX3 108 RX10 RX4 yX4_driftOf yX10_driftOf cX10_driftOf 2 (some .int) := ⟨qm_3_108, qd_X4_driftOf, qv_10_X4_driftOf, qi_X10_driftOf, qn_10, qc_X10_driftOf⟩
theorem kc_4_68 : cV RX4 68 RX4 yX4_isToSteer cX4_isToSteer 3 (some .boolean) := ⟨qm_4_68, qi_X4_isToSteer, qe_X4_isToSteer, qn_4, qc_X4_isToSteer⟩
theorem ku_4_68_8 : cU RX4 68 RX8 RX4 yX4_isToSteer yX8_isToSteer cX8_isToSteer 3 (some .boolean) := ⟨qm_4_68, qd_X4_isToSteer, qv_8_X4_isToSteer, qi_X8_isToSteer, qn_8, qc_X8_isToSteer⟩
theorem ku_4_68_7 : cU RX4 68 RX7 RX4 yX4_isToSteer yX4_isToSteer cX4_isToSteer 3 (some .boolean) := ⟨qm_4_68, qd_X4_isToSteer, qv_7_X4_isToSteer, qi_X4_isToSteer, qn_4, qc_X4_isToSteer⟩
theorem ku_4_68_5 : cU RX4 68 RX5 RX4 yX4_isToSteer yX4_isToSteer cX4_isToSteer 3 (some .boolean) := ⟨qm_4_68, qd_X4_isToSteer, qv_5_X4_isToSteer, qi_X4_isToSteer, qn_4, qc_X4_isToSteer⟩
theorem ku_4_68_6 : cU RX4 68 RX6 RX4 yX4_isToSteer yX6_isToSteer cX6_isToSteer 3 (some .boolean) := ⟨qm_4_68, qd_X4_isToSteer, qv_6_X4_isToSteer, qi_X6_isToSteer, qn_6, qc_X6_isToSteer⟩
theorem ku_4_68_1 : cU RX4 68 RX1 RX4 yX4_isToSteer yX6_isToSteer cX6_isToSteer 3 (some .boolean) := ⟨qm_4_68, qd_X4_isToSteer, qv_1_X4_isToSteer, qi_X6_isToSteer, qn_6, qc_X6_isToSteer⟩
theorem ku_4_68_2 : cU RX4 68 RX2 RX4 yX4_isToSteer yX4_isToSteer cX4_isToSteer 3 (some .boolean) := ⟨qm_4_68, qd_X4_isToSteer, qv_2_X4_isToSteer, qi_X4_isToSteer, qn_4, qc_X4_isToSteer⟩
theorem ku_4_68_10 : cU RX4 68 RX10 RX4 yX4_isToSteer yX10_isToSteer cX10_isToSteer 3 (some .boolean) := ⟨qm_4_68, qd_X4_isToSteer, qv_10_X4_isToSteer, qi_X10_isToSteer, qn_10, qc_X10_isToSteer⟩
theorem kc_4_72 : cV RX4 72 RX4 yX4_steersAlongX cX4_steersAlongX 5 (some .boolean) := ⟨qm_4_72, qi_X4_steersAlongX, qe_X4_steersAlongX, qn_4, qc_X4_steersAlongX⟩
theorem ku_4_72_8 : cU RX4 72 RX8 RX4 yX4_steersAlongX yX4_steersAlongX cX4_steersAlongX 5 (some .boolean) := ⟨qm_4_72, qd_X4_steersAlongX, qv_8_X4_steersAlongX, qi_X4_steersAlongX, qn_4, qc_X4_steersAlongX⟩
theorem ku_4_72_7 : cU RX4 72 RX7 RX4 yX4_steersAlongX yX4_steersAlongX cX4_steersAlongX 5 (some .boolean) := ⟨qm_4_72, qd_X4_steersAlongX, qv_7_X4_steersAlongX, qi_X4_steersAlongX, qn_4, qc_X4_steersAlongX⟩
theorem ku_4_72_5 : cU RX4 72 RX5 RX4 yX4_steersAlongX yX4_steersAlongX cX4_steersAlongX 5 (some .boolean) := ⟨qm_4_72, qd_X4_steersAlongX, qv_5_X4_steersAlongX, qi_X4_steersAlongX, qn_4, qc_X4_steersAlongX⟩
theorem ku_4_72_6 : cU RX4 72 RX6 RX4 yX4_steersAlongX yX4_steersAlongX cX4_steersAlongX 5 (some .boolean) := ⟨qm_4_72, qd_X4_steersAlongX, qv_6_X4_steersAlongX, qi_X4_steersAlongX, qn_4, qc_X4_steersAlongX⟩
theorem ku_4_72_1 : cU RX4 72 RX1 RX4 yX4_steersAlongX yX1_steersAlongX cX1_steersAlongX 5 (some .boolean) := ⟨qm_4_72, qd_X4_steersAlongX, qv_1_X4_steersAlongX, qi_X1_steersAlongX, qn_1, qc_X1_steersAlongX⟩
theorem ku_4_72_2 : cU RX4 72 RX2 RX4 yX4_steersAlongX yX2_steersAlongX cX2_steersAlongX 5 (some .boolean) := ⟨qm_4_72, qd_X4_steersAlongX, qv_2_X4_steersAlongX, qi_X2_steersAlongX, qn_2, qc_X2_steersAlongX⟩
theorem ku_4_72_10 : cU RX4 72 RX10 RX4 yX4_steersAlongX yX4_steersAlongX cX4_steersAlongX 5 (some .boolean) := ⟨qm_4_72, qd_X4_steersAlongX, qv_10_X4_steersAlongX, qi_X4_steersAlongX, qn_4, qc_X4_steersAlongX⟩
theorem kc_4_76 : cV RX4 76 RX4 yX4_stepAlong cX4_stepAlong 4 (some .int) := ⟨qm_4_76, qi_X4_stepAlong, qe_X4_stepAlong, qn_4, qc_X4_stepAlong⟩
theorem ku_4_76_8 : cU RX4 76 RX8 RX4 yX4_stepAlong yX4_stepAlong cX4_stepAlong 4 (some .int) := ⟨qm_4_76, qd_X4_stepAlong, qv_8_X4_stepAlong, qi_X4_stepAlong, qn_4, qc_X4_stepAlong⟩
theorem ku_4_76_7 : cU RX4 76 RX7 RX4 yX4_stepAlong yX4_stepAlong cX4_stepAlong 4 (some .int) := ⟨qm_4_76, qd_X4_stepAlong, qv_7_X4_stepAlong, qi_X4_stepAlong, qn_4, qc_X4_stepAlong⟩
theorem ku_4_76_5 : cU RX4 76 RX5 RX4 yX4_stepAlong yX4_stepAlong cX4_stepAlong 4 (some .int) := ⟨qm_4_76, qd_X4_stepAlong, qv_5_X4_stepAlong, qi_X4_stepAlong, qn_4, qc_X4_stepAlong⟩
theorem ku_4_76_6 : cU RX4 76 RX6 RX4 yX4_stepAlong yX4_stepAlong cX4_stepAlong 4 (some .int) := ⟨qm_4_76, qd_X4_stepAlong, qv_6_X4_stepAlong, qi_X4_stepAlong, qn_4, qc_X4_stepAlong⟩
theorem ku_4_76_1 : cU RX4 76 RX1 RX4 yX4_stepAlong yX4_stepAlong cX4_stepAlong 4 (some .int) := ⟨qm_4_76, qd_X4_stepAlong, qv_1_X4_stepAlong, qi_X4_stepAlong, qn_4, qc_X4_stepAlong⟩
theorem ku_4_76_2 : cU RX4 76 RX2 RX4 yX4_stepAlong yX2_stepAlong cX2_stepAlong 3 (some .int) := ⟨qm_4_76, qd_X4_stepAlong, qv_2_X4_stepAlong, qi_X2_stepAlong, qn_2, qc_X2_stepAlong⟩
theorem ku_4_76_10 : cU RX4 76 RX10 RX4 yX4_stepAlong yX4_stepAlong cX4_stepAlong 4 (some .int) := ⟨qm_4_76, qd_X4_stepAlong, qv_10_X4_stepAlong, qi_X4_stepAlong, qn_4, qc_X4_stepAlong⟩
theorem kc_3_114 : cV RX3 114 RX4 yX4_steerEast cX4_steerEast 5 (some .int) := ⟨qm_3_114, qi_X4_steerEast, qe_X4_steerEast, qn_4, qc_X4_steerEast⟩
theorem ku_3_114_8 : cU RX3 114 RX8 RX4 yX4_steerEast yX4_steerEast cX4_steerEast 5 (some .int) := ⟨qm_3_114, qd_X4_steerEast, qv_8_X4_steerEast, qi_X4_steerEast, qn_4, qc_X4_steerEast⟩
theorem ku_3_114_7 : cU RX3 114 RX7 RX4 yX4_steerEast yX4_steerEast cX4_steerEast 5 (some .int) := ⟨qm_3_114, qd_X4_steerEast, qv_7_X4_steerEast, qi_X4_steerEast, qn_4, qc_X4_steerEast⟩
theorem ku_3_114_5 : cU RX3 114 RX5 RX4 yX4_steerEast yX4_steerEast cX4_steerEast 5 (some .int) := ⟨qm_3_114, qd_X4_steerEast, qv_5_X4_steerEast, qi_X4_steerEast, qn_4, qc_X4_steerEast⟩
theorem ku_3_114_6 : cU RX3 114 RX6 RX4 yX4_steerEast yX4_steerEast cX4_steerEast 5 (some .int) := ⟨qm_3_114, qd_X4_steerEast, qv_6_X4_steerEast, qi_X4_steerEast, qn_4, qc_X4_steerEast⟩
theorem ku_3_114_1 : cU RX3 114 RX1 RX4 yX4_steerEast yX4_steerEast cX4_steerEast 5 (some .int) := ⟨qm_3_114, qd_X4_steerEast, qv_1_X4_steerEast, qi_X4_steerEast, qn_4, qc_X4_steerEast⟩
theorem ku_3_114_2 : cU RX3 114 RX2 RX4 yX4_steerEast yX4_steerEast cX4_steerEast 5 (some .int) := ⟨qm_3_114, qd_X4_steerEast, qv_2_X4_steerEast, qi_X4_steerEast, qn_4, qc_X4_steerEast⟩
theorem ku_3_114_10 : cU RX3 114 RX10 RX4 yX4_steerEast yX4_steerEast cX4_steerEast 5 (some .int) := ⟨qm_3_114, qd_X4_steerEast, qv_10_X4_steerEast, qi_X4_steerEast, qn_4, qc_X4_steerEast⟩
theorem kc_3_118 : cV RX3 118 RX4 yX4_steerNorth cX4_steerNorth 5 (some .int) := ⟨qm_3_118, qi_X4_steerNorth, qe_X4_steerNorth, qn_4, qc_X4_steerNorth⟩
theorem ku_3_118_8 : cU RX3 118 RX8 RX4 yX4_steerNorth yX4_steerNorth cX4_steerNorth 5 (some .int) := ⟨qm_3_118, qd_X4_steerNorth, qv_8_X4_steerNorth, qi_X4_steerNorth, qn_4, qc_X4_steerNorth⟩
theorem ku_3_118_7 : cU RX3 118 RX7 RX4 yX4_steerNorth yX4_steerNorth cX4_steerNorth 5 (some .int) := ⟨qm_3_118, qd_X4_steerNorth, qv_7_X4_steerNorth, qi_X4_steerNorth, qn_4, qc_X4_steerNorth⟩
theorem ku_3_118_5 : cU RX3 118 RX5 RX4 yX4_steerNorth yX4_steerNorth cX4_steerNorth 5 (some .int) := ⟨qm_3_118, qd_X4_steerNorth, qv_5_X4_steerNorth, qi_X4_steerNorth, qn_4, qc_X4_steerNorth⟩
theorem ku_3_118_6 : cU RX3 118 RX6 RX4 yX4_steerNorth yX4_steerNorth cX4_steerNorth 5 (some .int) := ⟨qm_3_118, qd_X4_steerNorth, qv_6_X4_steerNorth, qi_X4_steerNorth, qn_4, qc_X4_steerNorth⟩
theorem ku_3_118_1 : cU RX3 118 RX1 RX4 yX4_steerNorth yX4_steerNorth cX4_steerNorth 5 (some .int) := ⟨qm_3_118, qd_X4_steerNorth, qv_1_X4_steerNorth, qi_X4_steerNorth, qn_4, qc_X4_steerNorth⟩
theorem ku_3_118_2 : cU RX3 118 RX2 RX4 yX4_steerNorth yX4_steerNorth cX4_steerNorth 5 (some .int) := ⟨qm_3_118, qd_X4_steerNorth, qv_2_X4_steerNorth, qi_X4_steerNorth, qn_4, qc_X4_steerNorth⟩
theorem ku_3_118_10 : cU RX3 118 RX10 RX4 yX4_steerNorth yX4_steerNorth cX4_steerNorth 5 (some .int) := ⟨qm_3_118, qd_X4_steerNorth, qv_10_X4_steerNorth, qi_X4_steerNorth, qn_4, qc_X4_steerNorth⟩
theorem kc_3_98 : cV RX3 98 RX3 yX3_sink cX3_sink 5 none := ⟨qm_3_98, qi_X3_sink, qe_X3_sink, qn_3, qc_X3_sink⟩
theorem kc_3_101 : cS RX3 101 yX3_held cX3_held 1 (some .int) := ⟨qm_3_101, qs_X3_held, qn_3, qc_X3_held⟩
theorem kc_3_95 : cV RX3 95 RX3 yX3_puff cX3_puff 1 (some .int) := ⟨qm_3_95, qi_X3_puff, qe_X3_puff, qn_3, qc_X3_puff⟩
theorem kc_3_91 : cV RX3 91 RX3 yX3_plunge cX3_plunge 3 none := ⟨qm_3_91, qi_X3_plunge, qe_X3_plunge, qn_3, qc_X3_plunge⟩
theorem kc_3_72 : cV RX3 72 RX3 yX3_goOn cX3_goOn 4 none := ⟨qm_3_72, qi_X3_goOn, qe_X3_goOn, qn_3, qc_X3_goOn⟩
theorem kc_3_76 : cV RX3 76 RX3 yX3_begin cX3_begin 5 none := ⟨qm_3_76, qi_X3_begin, qe_X3_begin, qn_3, qc_X3_begin⟩
theorem kc_3_80 : cV RX3 80 RX3 yX3_off cX3_off 1 (some .int) := ⟨qm_3_80, qi_X3_off, qe_X3_off, qn_3, qc_X3_off⟩
theorem kc_9_30 : cV RX9 30 RX9 yX9_empty cX9_empty 1 none := ⟨qm_9_30, qi_X9_empty, qe_X9_empty, qn_9, qc_X9_empty⟩
theorem kc_11_306 : cV RX11 306 RX9 yX9_isEmpty cX9_isEmpty 1 (some .boolean) := ⟨qm_11_306, qi_X9_isEmpty, qe_X9_isEmpty, qn_9, qc_X9_isEmpty⟩
theorem kc_11_255 : cS RX11 255 yX11_refusalOfRow cX11_refusalOfRow 1 (some .int) := ⟨qm_11_255, qs_X11_refusalOfRow, qn_11, qc_X11_refusalOfRow⟩
theorem kc_11_72 : cS RX11 72 yX11_isLayer cX11_isLayer 1 (some .boolean) := ⟨qm_11_72, qs_X11_isLayer, qn_11, qc_X11_isLayer⟩
theorem kc_11_97 : cV RX11 97 RX0 yX0_fallerAt cX0_fallerAt 2 (some (.object "TenYards$Faller")) := ⟨qm_11_97, qi_X0_fallerAt, qe_X0_fallerAt, qn_0, qc_X0_fallerAt⟩
theorem kc_11_121 : cV RX11 121 RX4 yX4_driftOf cX4_driftOf 2 (some .int) := ⟨qm_11_121, qi_X4_driftOf, qe_X4_driftOf, qn_4, qc_X4_driftOf⟩
theorem ku_11_121_8 : cU RX11 121 RX8 RX4 yX4_driftOf yX4_driftOf cX4_driftOf 2 (some .int) := ⟨qm_11_121, qd_X4_driftOf, qv_8_X4_driftOf, qi_X4_driftOf, qn_4, qc_X4_driftOf⟩
theorem ku_11_121_7 : cU RX11 121 RX7 RX4 yX4_driftOf yX7_driftOf cX7_driftOf 2 (some .int) := ⟨qm_11_121, qd_X4_driftOf, qv_7_X4_driftOf, qi_X7_driftOf, qn_7, qc_X7_driftOf⟩
theorem ku_11_121_5 : cU RX11 121 RX5 RX4 yX4_driftOf yX5_driftOf cX5_driftOf 2 (some .int) := ⟨qm_11_121, qd_X4_driftOf, qv_5_X4_driftOf, qi_X5_driftOf, qn_5, qc_X5_driftOf⟩
theorem ku_11_121_6 : cU RX11 121 RX6 RX4 yX4_driftOf yX4_driftOf cX4_driftOf 2 (some .int) := ⟨qm_11_121, qd_X4_driftOf, qv_6_X4_driftOf, qi_X4_driftOf, qn_4, qc_X4_driftOf⟩
theorem ku_11_121_1 : cU RX11 121 RX1 RX4 yX4_driftOf yX4_driftOf cX4_driftOf 2 (some .int) := ⟨qm_11_121, qd_X4_driftOf, qv_1_X4_driftOf, qi_X4_driftOf, qn_4, qc_X4_driftOf⟩
theorem ku_11_121_2 : cU RX11 121 RX2 RX4 yX4_driftOf yX4_driftOf cX4_driftOf 2 (some .int) := ⟨qm_11_121, qd_X4_driftOf, qv_2_X4_driftOf, qi_X4_driftOf, qn_4, qc_X4_driftOf⟩
theorem ku_11_121_10 : cU RX11 121 RX10 RX4 yX4_driftOf yX10_driftOf cX10_driftOf 2 (some .int) := ⟨qm_11_121, qd_X4_driftOf, qv_10_X4_driftOf, qi_X10_driftOf, qn_10, qc_X10_driftOf⟩
theorem kc_11_125 : cS RX11 125 yX11_isPlace cX11_isPlace 2 (some .boolean) := ⟨qm_11_125, qs_X11_isPlace, qn_11, qc_X11_isPlace⟩
theorem kc_11_133 : cV RX11 133 RX4 yX4_steerEast cX4_steerEast 5 (some .int) := ⟨qm_11_133, qi_X4_steerEast, qe_X4_steerEast, qn_4, qc_X4_steerEast⟩
theorem ku_11_133_8 : cU RX11 133 RX8 RX4 yX4_steerEast yX4_steerEast cX4_steerEast 5 (some .int) := ⟨qm_11_133, qd_X4_steerEast, qv_8_X4_steerEast, qi_X4_steerEast, qn_4, qc_X4_steerEast⟩
theorem ku_11_133_7 : cU RX11 133 RX7 RX4 yX4_steerEast yX4_steerEast cX4_steerEast 5 (some .int) := ⟨qm_11_133, qd_X4_steerEast, qv_7_X4_steerEast, qi_X4_steerEast, qn_4, qc_X4_steerEast⟩
theorem ku_11_133_5 : cU RX11 133 RX5 RX4 yX4_steerEast yX4_steerEast cX4_steerEast 5 (some .int) := ⟨qm_11_133, qd_X4_steerEast, qv_5_X4_steerEast, qi_X4_steerEast, qn_4, qc_X4_steerEast⟩
theorem ku_11_133_6 : cU RX11 133 RX6 RX4 yX4_steerEast yX4_steerEast cX4_steerEast 5 (some .int) := ⟨qm_11_133, qd_X4_steerEast, qv_6_X4_steerEast, qi_X4_steerEast, qn_4, qc_X4_steerEast⟩
theorem ku_11_133_1 : cU RX11 133 RX1 RX4 yX4_steerEast yX4_steerEast cX4_steerEast 5 (some .int) := ⟨qm_11_133, qd_X4_steerEast, qv_1_X4_steerEast, qi_X4_steerEast, qn_4, qc_X4_steerEast⟩
theorem ku_11_133_2 : cU RX11 133 RX2 RX4 yX4_steerEast yX4_steerEast cX4_steerEast 5 (some .int) := ⟨qm_11_133, qd_X4_steerEast, qv_2_X4_steerEast, qi_X4_steerEast, qn_4, qc_X4_steerEast⟩
theorem ku_11_133_10 : cU RX11 133 RX10 RX4 yX4_steerEast yX4_steerEast cX4_steerEast 5 (some .int) := ⟨qm_11_133, qd_X4_steerEast, qv_10_X4_steerEast, qi_X4_steerEast, qn_4, qc_X4_steerEast⟩
theorem kc_11_129 : cV RX11 129 RX4 yX4_steerNorth cX4_steerNorth 5 (some .int) := ⟨qm_11_129, qi_X4_steerNorth, qe_X4_steerNorth, qn_4, qc_X4_steerNorth⟩
theorem ku_11_129_8 : cU RX11 129 RX8 RX4 yX4_steerNorth yX4_steerNorth cX4_steerNorth 5 (some .int) := ⟨qm_11_129, qd_X4_steerNorth, qv_8_X4_steerNorth, qi_X4_steerNorth, qn_4, qc_X4_steerNorth⟩
theorem ku_11_129_7 : cU RX11 129 RX7 RX4 yX4_steerNorth yX4_steerNorth cX4_steerNorth 5 (some .int) := ⟨qm_11_129, qd_X4_steerNorth, qv_7_X4_steerNorth, qi_X4_steerNorth, qn_4, qc_X4_steerNorth⟩
theorem ku_11_129_5 : cU RX11 129 RX5 RX4 yX4_steerNorth yX4_steerNorth cX4_steerNorth 5 (some .int) := ⟨qm_11_129, qd_X4_steerNorth, qv_5_X4_steerNorth, qi_X4_steerNorth, qn_4, qc_X4_steerNorth⟩
theorem ku_11_129_6 : cU RX11 129 RX6 RX4 yX4_steerNorth yX4_steerNorth cX4_steerNorth 5 (some .int) := ⟨qm_11_129, qd_X4_steerNorth, qv_6_X4_steerNorth, qi_X4_steerNorth, qn_4, qc_X4_steerNorth⟩
theorem ku_11_129_1 : cU RX11 129 RX1 RX4 yX4_steerNorth yX4_steerNorth cX4_steerNorth 5 (some .int) := ⟨qm_11_129, qd_X4_steerNorth, qv_1_X4_steerNorth, qi_X4_steerNorth, qn_4, qc_X4_steerNorth⟩
theorem ku_11_129_2 : cU RX11 129 RX2 RX4 yX4_steerNorth yX4_steerNorth cX4_steerNorth 5 (some .int) := ⟨qm_11_129, qd_X4_steerNorth, qv_2_X4_steerNorth, qi_X4_steerNorth, qn_4, qc_X4_steerNorth⟩
theorem ku_11_129_10 : cU RX11 129 RX10 RX4 yX4_steerNorth yX4_steerNorth cX4_steerNorth 5 (some .int) := ⟨qm_11_129, qd_X4_steerNorth, qv_10_X4_steerNorth, qi_X4_steerNorth, qn_4, qc_X4_steerNorth⟩
theorem kc_11_136 : cV RX11 136 RX0 yX0_bars cX0_bars 4 (some .boolean) := ⟨qm_11_136, qi_X0_bars, qe_X0_bars, qn_0, qc_X0_bars⟩
theorem kc_11_143 : cV RX11 143 RX3 yX3_begin cX3_begin 5 none := ⟨qm_11_143, qi_X3_begin, qe_X3_begin, qn_3, qc_X3_begin⟩
theorem kc_11_167 : cV RX11 167 RX3 yX3_land cX3_land 1 none := ⟨qm_11_167, qi_X3_land, qe_X3_land, qn_3, qc_X3_land⟩
theorem kc_11_214 : cV RX11 214 RX3 yX3_off cX3_off 1 (some .int) := ⟨qm_11_214, qi_X3_off, qe_X3_off, qn_3, qc_X3_off⟩
theorem kc_11_139 : cV RX11 139 RX11 yX11_landing cX11_landing 7 (some .int) := ⟨qm_11_139, qi_X11_landing, qe_X11_landing, qn_11, qc_X11_landing⟩
theorem kc_11_147 : cV RX11 147 RX3 yX3_goOn cX3_goOn 4 none := ⟨qm_11_147, qi_X3_goOn, qe_X3_goOn, qn_3, qc_X3_goOn⟩
theorem kc_11_160 : cV RX11 160 RX3 yX3_holdWay cX3_holdWay 3 none := ⟨qm_11_160, qi_X3_holdWay, qe_X3_holdWay, qn_3, qc_X3_holdWay⟩
theorem kc_11_173 : cV RX11 173 RX3 yX3_offFrom cX3_offFrom 4 (some .int) := ⟨qm_11_173, qi_X3_offFrom, qe_X3_offFrom, qn_3, qc_X3_offFrom⟩
theorem kc_11_258 : cV RX11 258 RX9 yX9_valueAt cX9_valueAt 2 (some .int) := ⟨qm_11_258, qi_X9_valueAt, qe_X9_valueAt, qn_9, qc_X9_valueAt⟩
theorem kc_11_232 : cS RX11 232 yX3_held cX3_held 1 (some .int) := ⟨qm_11_232, qs_X3_held, qn_3, qc_X3_held⟩
theorem kc_11_62 : cS RX11 62 yX11_refusalOfBytes cX11_refusalOfBytes 2 (some .int) := ⟨qm_11_62, qs_X11_refusalOfBytes, qn_11, qc_X11_refusalOfBytes⟩
theorem kc_11_58 : cV RX11 58 RX11 yX11_shelfAt cX11_shelfAt 2 (some (.object "TenYards$Shelf")) := ⟨qm_11_58, qi_X11_shelfAt, qe_X11_shelfAt, qn_11, qc_X11_shelfAt⟩
theorem kc_11_177 : cS RX11 177 yX11_isGap cX11_isGap 1 (some .boolean) := ⟨qm_11_177, qs_X11_isGap, qn_11, qc_X11_isGap⟩
theorem kc_11_181 : cV RX11 181 RX11 yX11_refusalOfLoad cX11_refusalOfLoad 4 (some .int) := ⟨qm_11_181, qi_X11_refusalOfLoad, qe_X11_refusalOfLoad, qn_11, qc_X11_refusalOfLoad⟩
theorem kc_11_184 : cV RX11 184 RX11 yX11_loadWithin cX11_loadWithin 9 (some .int) := ⟨qm_11_184, qi_X11_loadWithin, qe_X11_loadWithin, qn_11, qc_X11_loadWithin⟩
theorem kc_11_337 : cV RX11 337 RX11 yX11_swapPlaces cX11_swapPlaces 4 none := ⟨qm_11_337, qi_X11_swapPlaces, qe_X11_swapPlaces, qn_11, qc_X11_swapPlaces⟩
theorem kc_11_192 : cV RX11 192 RX11 yX11_tellOffs cX11_tellOffs 9 none := ⟨qm_11_192, qi_X11_tellOffs, qe_X11_tellOffs, qn_11, qc_X11_tellOffs⟩
theorem kc_11_202 : cV RX11 202 RX11 yX11_sumOfOrder cX11_sumOfOrder 4 (some .int) := ⟨qm_11_202, qi_X11_sumOfOrder, qe_X11_sumOfOrder, qn_11, qc_X11_sumOfOrder⟩
theorem kc_11_208 : cV RX11 208 RX11 yX11_nextOrder cX11_nextOrder 6 (some .boolean) := ⟨qm_11_208, qi_X11_nextOrder, qe_X11_nextOrder, qn_11, qc_X11_nextOrder⟩
theorem kc_11_205 : cV RX11 205 RX11 yX11_digitsOfOrder cX11_digitsOfOrder 5 (some .int) := ⟨qm_11_205, qi_X11_digitsOfOrder, qe_X11_digitsOfOrder, qn_11, qc_X11_digitsOfOrder⟩
theorem kc_11_211 : cV RX11 211 RX3 yX3_openAt cX3_openAt 2 none := ⟨qm_11_211, qi_X3_openAt, qe_X3_openAt, qn_3, qc_X3_openAt⟩
theorem kc_11_218 : cS RX11 218 yX11_eastOfWay cX11_eastOfWay 1 (some .int) := ⟨qm_11_218, qs_X11_eastOfWay, qn_11, qc_X11_eastOfWay⟩
theorem kc_11_221 : cS RX11 221 yX11_northOfWay cX11_northOfWay 1 (some .int) := ⟨qm_11_221, qs_X11_northOfWay, qn_11, qc_X11_northOfWay⟩
theorem kc_11_228 : cV RX11 228 RX11 yX11_goodBySeeds cX11_goodBySeeds 10 (some .int) := ⟨qm_11_228, qi_X11_goodBySeeds, qe_X11_goodBySeeds, qn_11, qc_X11_goodBySeeds⟩
theorem kc_11_235 : cV RX11 235 RX3 yX3_hasLanded cX3_hasLanded 1 (some .boolean) := ⟨qm_11_235, qi_X3_hasLanded, qe_X3_hasLanded, qn_3, qc_X3_hasLanded⟩
theorem kc_11_239 : cV RX11 239 RX3 yX3_apartFrom cX3_apartFrom 2 (some .int) := ⟨qm_11_239, qi_X3_apartFrom, qe_X3_apartFrom, qn_3, qc_X3_apartFrom⟩
theorem kc_11_243 : cS RX11 243 yX4_ofKind cX4_ofKind 4 (some (.object "TenYards$Faller")) := ⟨qm_11_243, qs_X4_ofKind, qn_4, qc_X4_ofKind⟩
theorem kw_11_247 : Cond.classLink RX11 247 RX8 ∈ W0 ∧ Cond.instantiable RX8 8 ∈ W0 ∧ Cond.initialized RX8 ∈ W0 := ⟨w0_m (a := tables_1_4) 167 rfl tb_4 rfl, w0_m (a := tables_1_2) 205 rfl tb_2 rfl, w0_m (a := tables_1_1) 12 rfl tb_1 rfl⟩
theorem kq_11_249 : Cond.methodLink RX11 249 yX8_init ∈ W0 ∧ Cond.instanceMethod yX8_init ∈ W0 ∧ Cond.initialized (yX8_init).cls ∈ W0 ∧ Cond.code yX8_init cX8_init 4 none ∈ W0 := ⟨qm_11_249, qi_X8_init, qn_8, qc_X8_init⟩
theorem kc_11_261 : cV RX11 261 RX9 yX9_leastOfSort cX9_leastOfSort 1 (some .int) := ⟨qm_11_261, qi_X9_leastOfSort, qe_X9_leastOfSort, qn_9, qc_X9_leastOfSort⟩
theorem kc_11_66 : cV RX11 66 RX0 yX0_become cX0_become 3 none := ⟨qm_11_66, qi_X0_become, qe_X0_become, qn_0, qc_X0_become⟩
theorem kc_11_270 : cV RX11 270 RX0 yX0_windyLayers cX0_windyLayers 3 (some .int) := ⟨qm_11_270, qi_X0_windyLayers, qe_X0_windyLayers, qn_0, qc_X0_windyLayers⟩
theorem kc_11_276 : cV RX11 276 RX9 yX9_hold cX9_hold 2 none := ⟨qm_11_276, qi_X9_hold, qe_X9_hold, qn_9, qc_X9_hold⟩
theorem kc_11_273 : cV RX11 273 RX9 yX9_empty cX9_empty 1 none := ⟨qm_11_273, qi_X9_empty, qe_X9_empty, qn_9, qc_X9_empty⟩
theorem kc_11_280 : cV RX11 280 RX9 yX9_holdRow cX9_holdRow 4 none := ⟨qm_11_280, qi_X9_holdRow, qe_X9_holdRow, qn_9, qc_X9_holdRow⟩
theorem kc_11_283 : cV RX11 283 RX9 yX9_hasPlaces cX9_hasPlaces 3 (some .boolean) := ⟨qm_11_283, qi_X9_hasPlaces, qe_X9_hasPlaces, qn_9, qc_X9_hasPlaces⟩
theorem kc_11_286 : cV RX11 286 RX9 yX9_store cX9_store 3 none := ⟨qm_11_286, qi_X9_store, qe_X9_store, qn_9, qc_X9_store⟩
theorem kz_11_315 : Cond.methodLink RX11 315 arraycopyName ∈ W0 ∧ Cond.native arraycopyName ∈ W0 ∧ Cond.static arraycopyName ∈ W0 ∧ Cond.initialized "java/lang/System" ∈ W0 := ⟨w0_m (a := tables_1_4) 231 rfl tb_4 rfl, w0_m (a := tables_1_2) 93 rfl tb_2 rfl, w0_m (a := tables_1_2) 92 rfl tb_2 rfl, w0_m (a := tables_1_1) 7 rfl tb_1 rfl⟩
theorem yo_X4_init : yOK yX4_init 3 := by decide +kernel
theorem yo_X6_init : yOK yX6_init 3 := by decide +kernel
theorem yo_X5_init : yOK yX5_init 3 := by decide +kernel
theorem yo_X11_isFrom : yOK yX11_isFrom 3 := by decide +kernel
theorem yo_X0_isYards : yOK yX0_isYards 1 := by decide +kernel
theorem yo_X11_isLayer : yOK yX11_isLayer 1 := by decide +kernel
theorem yo_X0_isWind : yOK yX0_isWind 1 := by decide +kernel
theorem yo_X9_hasPlaces : yOK yX9_hasPlaces 2 := by decide +kernel
theorem yo_X9_valueAt : yOK yX9_valueAt 1 := by decide +kernel
theorem yo_X0_isDigit : yOK yX0_isDigit 1 := by decide +kernel
theorem yo_X10_init : yOK yX10_init 3 := by decide +kernel
theorem yo_X2_init : yOK yX2_init 3 := by decide +kernel
theorem yo_X1_init : yOK yX1_init 3 := by decide +kernel
theorem yo_X7_init : yOK yX7_init 3 := by decide +kernel
theorem yo_X8_init : yOK yX8_init 3 := by decide +kernel
theorem yo_X4_ofKind : yOK yX4_ofKind 4 := by decide +kernel
theorem yo_sg : yOK yJ6_signum_0f7a4 1 := by decide +kernel
theorem yp_X4_driftOf : (yX4_driftOf).name ≠ "<init>" ∧ (parseMethodDescriptor (yX4_driftOf).desc).map (fun d => d.parameters.length) = some 1 := by decide +kernel
theorem yp_X5_driftOf : (yX5_driftOf).name ≠ "<init>" ∧ (parseMethodDescriptor (yX5_driftOf).desc).map (fun d => d.parameters.length) = some 1 := by decide +kernel
theorem xo_X4_driftOf : xOK yX4_driftOf RX4 1 := by decide +kernel
theorem yo_X4_driftOf : yOK yX4_driftOf 1 := by decide +kernel
theorem xo_X4_isToSteer : xOK yX4_isToSteer RX4 2 := by decide +kernel
theorem yo_X4_isToSteer : yOK yX4_isToSteer 2 := by decide +kernel
theorem xo_X4_steersAlongX : xOK yX4_steersAlongX RX4 4 := by decide +kernel
theorem yo_X4_steersAlongX : yOK yX4_steersAlongX 4 := by decide +kernel
theorem xo_X4_stepAlong : xOK yX4_stepAlong RX4 2 := by decide +kernel
theorem yo_X4_stepAlong : yOK yX4_stepAlong 2 := by decide +kernel
theorem xo_X4_steerEast : xOK yX4_steerEast RX4 4 := by decide +kernel
theorem yo_X4_steerEast : yOK yX4_steerEast 4 := by decide +kernel
theorem xo_X4_steerNorth : xOK yX4_steerNorth RX4 4 := by decide +kernel
theorem yo_X4_steerNorth : yOK yX4_steerNorth 4 := by decide +kernel
theorem yo_X3_sink : yOK yX3_sink 2 := by decide +kernel
theorem yo_X3_held : yOK yX3_held 1 := by decide +kernel
theorem yo_X3_puff : yOK yX3_puff 0 := by decide +kernel
theorem yo_X3_plunge : yOK yX3_plunge 2 := by decide +kernel
theorem yo_X3_goOn : yOK yX3_goOn 1 := by decide +kernel
theorem yo_X3_begin : yOK yX3_begin 4 := by decide +kernel
theorem yo_X3_off : yOK yX3_off 0 := by decide +kernel
theorem yo_X9_empty : yOK yX9_empty 0 := by decide +kernel
theorem yo_X9_isEmpty : yOK yX9_isEmpty 0 := by decide +kernel
theorem yo_X11_refusalOfRow : yOK yX11_refusalOfRow 1 := by decide +kernel
theorem yo_X0_fallerAt : yOK yX0_fallerAt 1 := by decide +kernel
theorem yo_X11_isPlace : yOK yX11_isPlace 2 := by decide +kernel
theorem yo_X0_bars : yOK yX0_bars 2 := by decide +kernel
theorem yo_X3_land : yOK yX3_land 0 := by decide +kernel
theorem yo_X11_landing : yOK yX11_landing 5 := by decide +kernel
theorem yo_X3_holdWay : yOK yX3_holdWay 2 := by decide +kernel
theorem yo_X3_offFrom : yOK yX3_offFrom 3 := by decide +kernel
theorem yo_X11_refusalOfBytes : yOK yX11_refusalOfBytes 1 := by decide +kernel
theorem yo_X11_shelfAt : yOK yX11_shelfAt 1 := by decide +kernel
theorem yo_X11_isGap : yOK yX11_isGap 1 := by decide +kernel
theorem yo_X11_refusalOfLoad : yOK yX11_refusalOfLoad 1 := by decide +kernel
theorem yo_X11_loadWithin : yOK yX11_loadWithin 5 := by decide +kernel
theorem yo_X11_swapPlaces : yOK yX11_swapPlaces 2 := by decide +kernel
theorem yo_X11_tellOffs : yOK yX11_tellOffs 4 := by decide +kernel
theorem yo_X11_sumOfOrder : yOK yX11_sumOfOrder 1 := by decide +kernel
theorem yo_X11_nextOrder : yOK yX11_nextOrder 1 := by decide +kernel
theorem yo_X11_digitsOfOrder : yOK yX11_digitsOfOrder 1 := by decide +kernel
theorem yo_X3_openAt : yOK yX3_openAt 1 := by decide +kernel
theorem yo_X11_eastOfWay : yOK yX11_eastOfWay 1 := by decide +kernel
theorem yo_X11_northOfWay : yOK yX11_northOfWay 1 := by decide +kernel
theorem yo_X11_goodBySeeds : yOK yX11_goodBySeeds 7 := by decide +kernel
theorem yo_X3_hasLanded : yOK yX3_hasLanded 0 := by decide +kernel
theorem yo_X3_apartFrom : yOK yX3_apartFrom 1 := by decide +kernel
theorem yo_X9_leastOfSort : yOK yX9_leastOfSort 0 := by decide +kernel
theorem yo_X0_become : yOK yX0_become 1 := by decide +kernel
theorem yo_X0_windyLayers : yOK yX0_windyLayers 0 := by decide +kernel
theorem yo_X9_hold : yOK yX9_hold 1 := by decide +kernel
theorem yo_X9_holdRow : yOK yX9_holdRow 2 := by decide +kernel
theorem yo_X9_store : yOK yX9_store 2 := by decide +kernel
theorem fo_0_0 : 0 < cN 0 ∧ fk 0 0 = 1 := by decide
theorem fo_0_1 : 1 < cN 0 ∧ fk 0 1 = 1 := by decide
theorem fo_0_7 : 7 < cN 0 ∧ fk 0 7 = 1 := by decide
theorem fo_0_2 : 2 < cN 0 ∧ fk 0 2 = 0 := by decide
theorem fp_0_2 : 2 < cN 0 ∧ fk 0 2 = 0 ∧ (cT 0 2).2.2.2 = false ∧ parseFieldDescriptor (cT 0 2).2.2.1 = some .int := by decide +kernel
theorem fo_0_3 : 3 < cN 0 ∧ fk 0 3 = 0 := by decide
theorem fp_0_3 : 3 < cN 0 ∧ fk 0 3 = 0 ∧ (cT 0 3).2.2.2 = false ∧ parseFieldDescriptor (cT 0 3).2.2.1 = some .int := by decide +kernel
theorem fo_0_4 : 4 < cN 0 ∧ fk 0 4 = 0 := by decide
theorem fp_0_4 : 4 < cN 0 ∧ fk 0 4 = 0 ∧ (cT 0 4).2.2.2 = false ∧ parseFieldDescriptor (cT 0 4).2.2.1 = some .int := by decide +kernel
theorem fo_0_6 : 6 < cN 0 ∧ fk 0 6 = 0 := by decide
theorem fp_0_6 : 6 < cN 0 ∧ fk 0 6 = 0 ∧ (cT 0 6).2.2.2 = false ∧ parseFieldDescriptor (cT 0 6).2.2.1 = some .int := by decide +kernel
theorem fo_0_8 : 8 < cN 0 ∧ fk 0 8 = 0 := by decide
theorem fp_0_8 : 8 < cN 0 ∧ fk 0 8 = 0 ∧ (cT 0 8).2.2.2 = false ∧ parseFieldDescriptor (cT 0 8).2.2.1 = some .int := by decide +kernel
theorem fo_0_5 : 5 < cN 0 ∧ fk 0 5 = 1 := by decide
theorem fo_0_9 : 9 < cN 0 ∧ fk 0 9 = 1 := by decide
theorem fo_9_3 : 3 < cN 9 ∧ fk 9 3 = 0 := by decide
theorem fo_9_4 : 4 < cN 9 ∧ fk 9 4 = 1 := by decide
theorem fp_3_1 : 1 < cN 3 ∧ fk 3 1 = 2 ∧ (cT 3 1).2.2.2 = false ∧ parseFieldDescriptor (cT 3 1).2.2.1 = some (.object "TenYards$Faller") := by decide +kernel
theorem fp_3_2 : 2 < cN 3 ∧ fk 3 2 = 0 ∧ (cT 3 2).2.2.2 = false ∧ parseFieldDescriptor (cT 3 2).2.2.1 = some .int := by decide +kernel
theorem fp_3_3 : 3 < cN 3 ∧ fk 3 3 = 0 ∧ (cT 3 3).2.2.2 = false ∧ parseFieldDescriptor (cT 3 3).2.2.1 = some .int := by decide +kernel
theorem fp_3_8 : 8 < cN 3 ∧ fk 3 8 = 0 ∧ (cT 3 8).2.2.2 = false ∧ parseFieldDescriptor (cT 3 8).2.2.1 = some .int := by decide +kernel
theorem fo_3_0 : 0 < cN 3 ∧ fk 3 0 = 1 := by decide
theorem ky_1_100 : ((1, 100) : Nat × Nat) ∈ KY := by decide
theorem fp_3_4 : 4 < cN 3 ∧ fk 3 4 = 0 ∧ (cT 3 4).2.2.2 = false ∧ parseFieldDescriptor (cT 3 4).2.2.1 = some .int := by decide +kernel
theorem fp_3_6 : 6 < cN 3 ∧ fk 3 6 = 0 ∧ (cT 3 6).2.2.2 = false ∧ parseFieldDescriptor (cT 3 6).2.2.1 = some .int := by decide +kernel
theorem fp_3_7 : 7 < cN 3 ∧ fk 3 7 = 0 ∧ (cT 3 7).2.2.2 = false ∧ parseFieldDescriptor (cT 3 7).2.2.1 = some .int := by decide +kernel
theorem fp_3_5 : 5 < cN 3 ∧ fk 3 5 = 0 ∧ (cT 3 5).2.2.2 = false ∧ parseFieldDescriptor (cT 3 5).2.2.1 = some .int := by decide +kernel
theorem fp_3_9 : 9 < cN 3 ∧ fk 3 9 = 0 ∧ (cT 3 9).2.2.2 = false ∧ parseFieldDescriptor (cT 3 9).2.2.1 = some .boolean := by decide +kernel
theorem fp_3_10 : 10 < cN 3 ∧ fk 3 10 = 0 ∧ (cT 3 10).2.2.2 = false ∧ parseFieldDescriptor (cT 3 10).2.2.1 = some .int := by decide +kernel
theorem fp_3_11 : 11 < cN 3 ∧ fk 3 11 = 0 ∧ (cT 3 11).2.2.2 = false ∧ parseFieldDescriptor (cT 3 11).2.2.1 = some .int := by decide +kernel
theorem fo_3_4 : 4 < cN 3 ∧ fk 3 4 = 0 := by decide
theorem fo_3_2 : 2 < cN 3 ∧ fk 3 2 = 0 := by decide
theorem fo_3_5 : 5 < cN 3 ∧ fk 3 5 = 0 := by decide
theorem fo_3_1 : 1 < cN 3 ∧ fk 3 1 = 2 := by decide
theorem fo_3_3 : 3 < cN 3 ∧ fk 3 3 = 0 := by decide
theorem fo_3_6 : 6 < cN 3 ∧ fk 3 6 = 0 := by decide
theorem fo_3_8 : 8 < cN 3 ∧ fk 3 8 = 0 := by decide
theorem fo_3_9 : 9 < cN 3 ∧ fk 3 9 = 0 := by decide
theorem fo_3_11 : 11 < cN 3 ∧ fk 3 11 = 0 := by decide
theorem fo_3_10 : 10 < cN 3 ∧ fk 3 10 = 0 := by decide
theorem fo_3_7 : 7 < cN 3 ∧ fk 3 7 = 0 := by decide
theorem ky_1_0 : ((1, 0) : Nat × Nat) ∈ KY := by decide
theorem ka_1_0 : 0 ≠ 100 ∧ ak (1, 0) = 0 ∧ al (ci 1) 0 = 10 := by decide
theorem ky_1_1 : ((1, 1) : Nat × Nat) ∈ KY := by decide
theorem ka_1_1 : 1 ≠ 100 ∧ ak (1, 1) = 0 ∧ al (ci 1) 1 = 10 := by decide
theorem fo_9_0 : 0 < cN 9 ∧ fk 9 0 = 2 := by decide
theorem fo_9_1 : 1 < cN 9 ∧ fk 9 1 = 0 := by decide
theorem fp_9_0 : 0 < cN 9 ∧ fk 9 0 = 2 ∧ (cT 9 0).2.2.2 = false ∧ parseFieldDescriptor (cT 9 0).2.2.1 = some (.object "TenYards$Faller") := by decide +kernel
theorem fp_9_1 : 1 < cN 9 ∧ fk 9 1 = 0 ∧ (cT 9 1).2.2.2 = false ∧ parseFieldDescriptor (cT 9 1).2.2.1 = some .boolean := by decide +kernel
theorem fp_9_3 : 3 < cN 9 ∧ fk 9 3 = 0 ∧ (cT 9 3).2.2.2 = false ∧ parseFieldDescriptor (cT 9 3).2.2.1 = some .int := by decide +kernel
theorem fp_9_2 : 2 < cN 9 ∧ fk 9 2 = 0 ∧ (cT 9 2).2.2.2 = false ∧ parseFieldDescriptor (cT 9 2).2.2.1 = some .int := by decide +kernel
theorem fo_9_2 : 2 < cN 9 ∧ fk 9 2 = 0 := by decide
theorem fo_11_6 : 6 < cN 11 ∧ fk 11 6 = 1 := by decide
theorem ky_0_100 : ((0, 100) : Nat × Nat) ∈ KY := by decide
theorem fo_11_0 : 0 < cN 11 ∧ fk 11 0 = 1 := by decide
theorem fo_11_4 : 4 < cN 11 ∧ fk 11 4 = 1 := by decide
theorem ky_4_100 : ((4, 100) : Nat × Nat) ∈ KY := by decide
theorem fo_11_8 : 8 < cN 11 ∧ fk 11 8 = 1 := by decide
theorem ky_0_8 : ((0, 8) : Nat × Nat) ∈ KY := by decide
theorem ka_0_8 : 8 ≠ 100 ∧ ak (0, 8) = 0 ∧ al (ci 0) 8 = 5 := by decide
theorem fo_11_7 : 7 < cN 11 ∧ fk 11 7 = 1 := by decide
theorem ky_0_7 : ((0, 7) : Nat × Nat) ∈ KY := by decide
theorem ka_0_7 : 7 ≠ 100 ∧ ak (0, 7) = 0 ∧ al (ci 0) 7 = 25 := by decide
theorem fo_11_5 : 5 < cN 11 ∧ fk 11 5 = 1 := by decide
theorem ky_5_100 : ((5, 100) : Nat × Nat) ∈ KY := by decide
theorem fo_11_9 : 9 < cN 11 ∧ fk 11 9 = 1 := by decide
theorem ky_0_9 : ((0, 9) : Nat × Nat) ∈ KY := by decide
theorem ka_0_9 : 9 ≠ 100 ∧ ak (0, 9) = 0 ∧ al (ci 0) 9 = 5 := by decide
theorem fo_11_10 : 10 < cN 11 ∧ fk 11 10 = 1 := by decide
theorem ky_0_10 : ((0, 10) : Nat × Nat) ∈ KY := by decide
theorem ka_0_10 : 10 ≠ 100 ∧ ak (0, 10) = 0 ∧ al (ci 0) 10 = 5 := by decide
theorem fo_11_2 : 2 < cN 11 ∧ fk 11 2 = 1 := by decide
theorem ky_3_100 : ((3, 100) : Nat × Nat) ∈ KY := by decide
theorem fp_11_3 : 3 < cN 11 ∧ fk 11 3 = 0 ∧ (cT 11 3).2.2.2 = false ∧ parseFieldDescriptor (cT 11 3).2.2.1 = some .boolean := by decide +kernel
theorem fo_11_3 : 3 < cN 11 ∧ fk 11 3 = 0 := by decide
