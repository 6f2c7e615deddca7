theorem m_t1 {w : Cond} (i : Nat) (h : tables_1[i]? = some w) (g : goodWord w = true) : w ∈ m_tb := m_tb_in (List.mem_append_right _ (List.mem_of_getElem? h)) g
theorem m_t2 {y : MethodName} (i n : Nat) (h : lw_privs[i]? = some (y, n)) : Cond.selects y.cls y y ∈ m_tb := m_tb_in (List.mem_append_left _ (List.mem_map.mpr ⟨(y, n), List.mem_of_getElem? h, rfl⟩)) rfl
set_option maxRecDepth 100000 in
theorem kl_L_8 : Cond.classLink RL 8 RX11 ∈ m_tb := m_t1 26 rfl rfl
set_option maxRecDepth 100000 in
theorem il_X11 : Cond.instantiable RX11 15 ∈ m_tb := m_t1 27 rfl rfl
set_option maxRecDepth 100000 in
theorem ml_L_19 : Cond.methodLink RL 19 yX11_init ∈ m_tb := m_t1 28 rfl rfl
set_option maxRecDepth 100000 in
theorem ml_X11_1 : Cond.methodLink RX11 1 Lib.objectInit ∈ m_tb := m_t1 31 rfl rfl
set_option maxRecDepth 100000 in
theorem kl_X11_7 : Cond.classLink RX11 7 RX10 ∈ m_tb := m_t1 34 rfl rfl
set_option maxRecDepth 100000 in
theorem il_X10 : Cond.instantiable RX10 12 ∈ m_tb := m_t1 35 rfl rfl
set_option maxRecDepth 100000 in
theorem ml_X10_3 : Cond.methodLink RX10 3 Lib.objectInit ∈ m_tb := m_t1 39 rfl rfl
set_option maxRecDepth 100000 in
theorem ml_X10_47 : Cond.methodLink RX10 47 yX10_codesOfWords ∈ m_tb := m_t1 40 rfl rfl
set_option maxRecDepth 100000 in
theorem ml_X10_57 : Cond.methodLink RX10 57 yJ0_length_8abf5 ∈ m_tb := m_t1 44 rfl rfl
set_option maxRecDepth 100000 in
theorem ml_J0_335 : Cond.methodLink RJ0 335 yJ0_coder_7d493 ∈ m_tb := m_t1 48 rfl rfl
set_option maxRecDepth 100000 in
theorem ml_X10_63 : Cond.methodLink RX10 63 yJ0_charAt_5068e ∈ m_tb := m_t1 54 rfl rfl
set_option maxRecDepth 100000 in
theorem ml_J0_492 : Cond.methodLink RJ0 492 yJ0_isLatin1_aae02 ∈ m_tb := m_t1 58 rfl rfl
set_option maxRecDepth 100000 in
theorem ml_J0_495 : Cond.methodLink RJ0 495 yJ1_charAt_3b067 ∈ m_tb := m_t1 62 rfl rfl
set_option maxRecDepth 100000 in
theorem ml_J1_9 : Cond.methodLink RJ1 9 yJ0_checkIndex_df160 ∈ m_tb := m_t1 65 rfl rfl
set_option maxRecDepth 100000 in
theorem ml_J0_1059 : Cond.methodLink RJ0 1059 yJ3_checkIndex_8e157 ∈ m_tb := m_t1 70 rfl rfl
set_option maxRecDepth 100000 in
theorem ml_J0_498 : Cond.methodLink RJ0 498 yJ2_charAt_3b067 ∈ m_tb := m_t1 73 rfl rfl
set_option maxRecDepth 100000 in
theorem ml_J2_67 : Cond.methodLink RJ2 67 yJ2_checkIndex_2214a ∈ m_tb := m_t1 76 rfl rfl
set_option maxRecDepth 100000 in
theorem ml_J2_48 : Cond.methodLink RJ2 48 yJ2_length_9d52b ∈ m_tb := m_t1 79 rfl rfl
set_option maxRecDepth 100000 in
theorem ml_J2_414 : Cond.methodLink RJ2 414 yJ0_checkIndex_df160 ∈ m_tb := m_t1 82 rfl rfl
set_option maxRecDepth 100000 in
theorem ml_J2_71 : Cond.methodLink RJ2 71 yJ2_getChar_3b067 ∈ m_tb := m_t1 83 rfl rfl
set_option maxRecDepth 100000 in
theorem cl_X10_67 : Cond.constantLong RX10 67 (32) ∈ m_tb := m_t1 92 rfl rfl
set_option maxRecDepth 100000 in
theorem fl_X10_9 : Cond.fieldLink RX10 9 "LeverFrame$Text" "bytes" "[I" ∈ m_tb := m_t1 93 rfl rfl
set_option maxRecDepth 100000 in
theorem fl_X2_46 : Cond.fieldLink RX2 46 "LeverFrame$Text" "bytes" "[I" ∈ m_tb := m_t1 94 rfl rfl
set_option maxRecDepth 100000 in
theorem fl_X10_15 : Cond.fieldLink RX10 15 "LeverFrame$Text" "size" "I" ∈ m_tb := m_t1 95 rfl rfl
set_option maxRecDepth 100000 in
theorem fl_X11_101 : Cond.fieldLink RX11 101 "LeverFrame$Text" "size" "I" ∈ m_tb := m_t1 96 rfl rfl
set_option maxRecDepth 100000 in
theorem fl_X2_43 : Cond.fieldLink RX2 43 "LeverFrame$Text" "size" "I" ∈ m_tb := m_t1 97 rfl rfl
set_option maxRecDepth 100000 in
theorem fl_X10_19 : Cond.fieldLink RX10 19 "LeverFrame$Text" "most" "I" ∈ m_tb := m_t1 98 rfl rfl
set_option maxRecDepth 100000 in
theorem fl_X10_22 : Cond.fieldLink RX10 22 "LeverFrame$Text" "reached" "I" ∈ m_tb := m_t1 99 rfl rfl
set_option maxRecDepth 100000 in
theorem fl_X10_25 : Cond.fieldLink RX10 25 "LeverFrame$Text" "kind" "I" ∈ m_tb := m_t1 100 rfl rfl
set_option maxRecDepth 100000 in
theorem fl_X0_50 : Cond.fieldLink RX0 50 "LeverFrame$Text" "kind" "I" ∈ m_tb := m_t1 101 rfl rfl
set_option maxRecDepth 100000 in
theorem fl_X6_38 : Cond.fieldLink RX6 38 "LeverFrame$Text" "kind" "I" ∈ m_tb := m_t1 102 rfl rfl
set_option maxRecDepth 100000 in
theorem fl_X7_52 : Cond.fieldLink RX7 52 "LeverFrame$Text" "kind" "I" ∈ m_tb := m_t1 103 rfl rfl
set_option maxRecDepth 100000 in
theorem fl_X10_28 : Cond.fieldLink RX10 28 "LeverFrame$Text" "place" "I" ∈ m_tb := m_t1 104 rfl rfl
set_option maxRecDepth 100000 in
theorem fl_X10_31 : Cond.fieldLink RX10 31 "LeverFrame$Text" "value" "I" ∈ m_tb := m_t1 105 rfl rfl
set_option maxRecDepth 100000 in
theorem fl_X7_86 : Cond.fieldLink RX7 86 "LeverFrame$Text" "value" "I" ∈ m_tb := m_t1 106 rfl rfl
set_option maxRecDepth 100000 in
theorem fl_X10_34 : Cond.fieldLink RX10 34 "LeverFrame$Text" "letters" "J" ∈ m_tb := m_t1 107 rfl rfl
set_option maxRecDepth 100000 in
theorem fl_X6_98 : Cond.fieldLink RX6 98 "LeverFrame$Text" "letters" "J" ∈ m_tb := m_t1 108 rfl rfl
set_option maxRecDepth 100000 in
theorem fl_X10_38 : Cond.fieldLink RX10 38 "LeverFrame$Text" "key" "I" ∈ m_tb := m_t1 109 rfl rfl
set_option maxRecDepth 100000 in
theorem fl_X6_52 : Cond.fieldLink RX6 52 "LeverFrame$Text" "key" "I" ∈ m_tb := m_t1 110 rfl rfl
set_option maxRecDepth 100000 in
theorem fl_X0_61 : Cond.fieldLink RX0 61 "LeverFrame$Text" "key" "I" ∈ m_tb := m_t1 111 rfl rfl
set_option maxRecDepth 100000 in
theorem fl_X7_62 : Cond.fieldLink RX7 62 "LeverFrame$Text" "key" "I" ∈ m_tb := m_t1 112 rfl rfl
set_option maxRecDepth 100000 in
theorem fl_X10_41 : Cond.fieldLink RX10 41 "LeverFrame$Text" "fault" "I" ∈ m_tb := m_t1 113 rfl rfl
set_option maxRecDepth 100000 in
theorem fl_X11_112 : Cond.fieldLink RX11 112 "LeverFrame$Text" "fault" "I" ∈ m_tb := m_t1 114 rfl rfl
set_option maxRecDepth 100000 in
theorem fl_X10_44 : Cond.fieldLink RX10 44 "LeverFrame$Text" "faultPlace" "I" ∈ m_tb := m_t1 115 rfl rfl
set_option maxRecDepth 100000 in
theorem fl_X11_115 : Cond.fieldLink RX11 115 "LeverFrame$Text" "faultPlace" "I" ∈ m_tb := m_t1 116 rfl rfl
set_option maxRecDepth 100000 in
theorem fl_X10_51 : Cond.fieldLink RX10 51 "LeverFrame$Text" "keys" "[J" ∈ m_tb := m_t1 117 rfl rfl
set_option maxRecDepth 100000 in
theorem al_int : Cond.arrayClass .int ∈ m_tb := m_t1 143 rfl rfl
set_option maxRecDepth 100000 in
theorem al_long : Cond.arrayClass .long ∈ m_tb := m_t1 144 rfl rfl
set_option maxRecDepth 100000 in
theorem al_byte : Cond.arrayClass .byte ∈ m_tb := m_t1 145 rfl rfl
set_option maxRecDepth 100000 in
theorem kl_X11_16 : Cond.classLink RX11 16 RX5 ∈ m_tb := m_t1 146 rfl rfl
set_option maxRecDepth 100000 in
theorem il_X5 : Cond.instantiable RX5 20 ∈ m_tb := m_t1 147 rfl rfl
set_option maxRecDepth 100000 in
theorem ml_X11_18 : Cond.methodLink RX11 18 yX5_init ∈ m_tb := m_t1 148 rfl rfl
set_option maxRecDepth 100000 in
theorem ml_X5_3 : Cond.methodLink RX5 3 Lib.objectInit ∈ m_tb := m_t1 151 rfl rfl
set_option maxRecDepth 100000 in
theorem fl_X5_9 : Cond.fieldLink RX5 9 "LeverFrame$Plan" "count" "[I" ∈ m_tb := m_t1 152 rfl rfl
set_option maxRecDepth 100000 in
theorem fl_X2_26 : Cond.fieldLink RX2 26 "LeverFrame$Plan" "count" "[I" ∈ m_tb := m_t1 153 rfl rfl
set_option maxRecDepth 100000 in
theorem fl_X1_59 : Cond.fieldLink RX1 59 "LeverFrame$Plan" "count" "[I" ∈ m_tb := m_t1 154 rfl rfl
set_option maxRecDepth 100000 in
theorem fl_X6_86 : Cond.fieldLink RX6 86 "LeverFrame$Plan" "count" "[I" ∈ m_tb := m_t1 155 rfl rfl
set_option maxRecDepth 100000 in
theorem fl_X8_71 : Cond.fieldLink RX8 71 "LeverFrame$Plan" "count" "[I" ∈ m_tb := m_t1 156 rfl rfl
set_option maxRecDepth 100000 in
theorem fl_X7_93 : Cond.fieldLink RX7 93 "LeverFrame$Plan" "count" "[I" ∈ m_tb := m_t1 157 rfl rfl
set_option maxRecDepth 100000 in
theorem fl_X11_324 : Cond.fieldLink RX11 324 "LeverFrame$Plan" "count" "[I" ∈ m_tb := m_t1 158 rfl rfl
set_option maxRecDepth 100000 in
theorem fl_X5_15 : Cond.fieldLink RX5 15 "LeverFrame$Plan" "names" "[J" ∈ m_tb := m_t1 159 rfl rfl
set_option maxRecDepth 100000 in
theorem fl_X5_19 : Cond.fieldLink RX5 19 "LeverFrame$Plan" "lengths" "[I" ∈ m_tb := m_t1 160 rfl rfl
set_option maxRecDepth 100000 in
theorem fl_X6_106 : Cond.fieldLink RX6 106 "LeverFrame$Plan" "lengths" "[I" ∈ m_tb := m_t1 161 rfl rfl
set_option maxRecDepth 100000 in
theorem fl_X11_138 : Cond.fieldLink RX11 138 "LeverFrame$Plan" "lengths" "[I" ∈ m_tb := m_t1 162 rfl rfl
set_option maxRecDepth 100000 in
theorem fl_X8_160 : Cond.fieldLink RX8 160 "LeverFrame$Plan" "lengths" "[I" ∈ m_tb := m_t1 163 rfl rfl
set_option maxRecDepth 100000 in
theorem fl_X5_22 : Cond.fieldLink RX5 22 "LeverFrame$Plan" "pointsIn" "[I" ∈ m_tb := m_t1 164 rfl rfl
set_option maxRecDepth 100000 in
theorem fl_X1_66 : Cond.fieldLink RX1 66 "LeverFrame$Plan" "pointsIn" "[I" ∈ m_tb := m_t1 165 rfl rfl
set_option maxRecDepth 100000 in
theorem fl_X11_160 : Cond.fieldLink RX11 160 "LeverFrame$Plan" "pointsIn" "[I" ∈ m_tb := m_t1 166 rfl rfl
set_option maxRecDepth 100000 in
theorem fl_X6_120 : Cond.fieldLink RX6 120 "LeverFrame$Plan" "pointsIn" "[I" ∈ m_tb := m_t1 167 rfl rfl
set_option maxRecDepth 100000 in
theorem fl_X8_144 : Cond.fieldLink RX8 144 "LeverFrame$Plan" "pointsIn" "[I" ∈ m_tb := m_t1 168 rfl rfl
set_option maxRecDepth 100000 in
theorem fl_X5_25 : Cond.fieldLink RX5 25 "LeverFrame$Plan" "trackFrom" "[I" ∈ m_tb := m_t1 169 rfl rfl
set_option maxRecDepth 100000 in
theorem fl_X6_144 : Cond.fieldLink RX6 144 "LeverFrame$Plan" "trackFrom" "[I" ∈ m_tb := m_t1 170 rfl rfl
set_option maxRecDepth 100000 in
theorem fl_X5_28 : Cond.fieldLink RX5 28 "LeverFrame$Plan" "trackTo" "[I" ∈ m_tb := m_t1 171 rfl rfl
set_option maxRecDepth 100000 in
theorem fl_X6_147 : Cond.fieldLink RX6 147 "LeverFrame$Plan" "trackTo" "[I" ∈ m_tb := m_t1 172 rfl rfl
set_option maxRecDepth 100000 in
theorem fl_X5_31 : Cond.fieldLink RX5 31 "LeverFrame$Plan" "trackPoints" "[I" ∈ m_tb := m_t1 173 rfl rfl
set_option maxRecDepth 100000 in
theorem fl_X6_150 : Cond.fieldLink RX6 150 "LeverFrame$Plan" "trackPoints" "[I" ∈ m_tb := m_t1 174 rfl rfl
set_option maxRecDepth 100000 in
theorem fl_X8_189 : Cond.fieldLink RX8 189 "LeverFrame$Plan" "trackPoints" "[I" ∈ m_tb := m_t1 175 rfl rfl
set_option maxRecDepth 100000 in
theorem fl_X5_34 : Cond.fieldLink RX5 34 "LeverFrame$Plan" "trackLie" "[I" ∈ m_tb := m_t1 176 rfl rfl
set_option maxRecDepth 100000 in
theorem fl_X6_153 : Cond.fieldLink RX6 153 "LeverFrame$Plan" "trackLie" "[I" ∈ m_tb := m_t1 177 rfl rfl
set_option maxRecDepth 100000 in
theorem fl_X8_192 : Cond.fieldLink RX8 192 "LeverFrame$Plan" "trackLie" "[I" ∈ m_tb := m_t1 178 rfl rfl
set_option maxRecDepth 100000 in
theorem fl_X5_37 : Cond.fieldLink RX5 37 "LeverFrame$Plan" "signalIn" "[I" ∈ m_tb := m_t1 179 rfl rfl
set_option maxRecDepth 100000 in
theorem fl_X1_108 : Cond.fieldLink RX1 108 "LeverFrame$Plan" "signalIn" "[I" ∈ m_tb := m_t1 180 rfl rfl
set_option maxRecDepth 100000 in
theorem fl_X11_169 : Cond.fieldLink RX11 169 "LeverFrame$Plan" "signalIn" "[I" ∈ m_tb := m_t1 181 rfl rfl
set_option maxRecDepth 100000 in
theorem fl_X6_159 : Cond.fieldLink RX6 159 "LeverFrame$Plan" "signalIn" "[I" ∈ m_tb := m_t1 182 rfl rfl
set_option maxRecDepth 100000 in
theorem fl_X8_135 : Cond.fieldLink RX8 135 "LeverFrame$Plan" "signalIn" "[I" ∈ m_tb := m_t1 183 rfl rfl
set_option maxRecDepth 100000 in
theorem fl_X5_40 : Cond.fieldLink RX5 40 "LeverFrame$Plan" "signalWay" "[I" ∈ m_tb := m_t1 184 rfl rfl
set_option maxRecDepth 100000 in
theorem fl_X1_105 : Cond.fieldLink RX1 105 "LeverFrame$Plan" "signalWay" "[I" ∈ m_tb := m_t1 185 rfl rfl
set_option maxRecDepth 100000 in
theorem fl_X11_172 : Cond.fieldLink RX11 172 "LeverFrame$Plan" "signalWay" "[I" ∈ m_tb := m_t1 186 rfl rfl
set_option maxRecDepth 100000 in
theorem fl_X6_162 : Cond.fieldLink RX6 162 "LeverFrame$Plan" "signalWay" "[I" ∈ m_tb := m_t1 187 rfl rfl
set_option maxRecDepth 100000 in
theorem fl_X8_141 : Cond.fieldLink RX8 141 "LeverFrame$Plan" "signalWay" "[I" ∈ m_tb := m_t1 188 rfl rfl
set_option maxRecDepth 100000 in
theorem fl_X5_43 : Cond.fieldLink RX5 43 "LeverFrame$Plan" "routeSignal" "[I" ∈ m_tb := m_t1 189 rfl rfl
set_option maxRecDepth 100000 in
theorem fl_X1_102 : Cond.fieldLink RX1 102 "LeverFrame$Plan" "routeSignal" "[I" ∈ m_tb := m_t1 190 rfl rfl
set_option maxRecDepth 100000 in
theorem fl_X11_181 : Cond.fieldLink RX11 181 "LeverFrame$Plan" "routeSignal" "[I" ∈ m_tb := m_t1 191 rfl rfl
set_option maxRecDepth 100000 in
theorem fl_X8_78 : Cond.fieldLink RX8 78 "LeverFrame$Plan" "routeSignal" "[I" ∈ m_tb := m_t1 192 rfl rfl
set_option maxRecDepth 100000 in
theorem fl_X6_165 : Cond.fieldLink RX6 165 "LeverFrame$Plan" "routeSignal" "[I" ∈ m_tb := m_t1 193 rfl rfl
set_option maxRecDepth 100000 in
theorem fl_X5_46 : Cond.fieldLink RX5 46 "LeverFrame$Plan" "routeSize" "[I" ∈ m_tb := m_t1 194 rfl rfl
set_option maxRecDepth 100000 in
theorem fl_X1_42 : Cond.fieldLink RX1 42 "LeverFrame$Plan" "routeSize" "[I" ∈ m_tb := m_t1 195 rfl rfl
set_option maxRecDepth 100000 in
theorem fl_X11_187 : Cond.fieldLink RX11 187 "LeverFrame$Plan" "routeSize" "[I" ∈ m_tb := m_t1 196 rfl rfl
set_option maxRecDepth 100000 in
theorem fl_X6_168 : Cond.fieldLink RX6 168 "LeverFrame$Plan" "routeSize" "[I" ∈ m_tb := m_t1 197 rfl rfl
set_option maxRecDepth 100000 in
theorem fl_X8_125 : Cond.fieldLink RX8 125 "LeverFrame$Plan" "routeSize" "[I" ∈ m_tb := m_t1 198 rfl rfl
set_option maxRecDepth 100000 in
theorem fl_X5_49 : Cond.fieldLink RX5 49 "LeverFrame$Plan" "routeOver" "[I" ∈ m_tb := m_t1 199 rfl rfl
set_option maxRecDepth 100000 in
theorem fl_X6_198 : Cond.fieldLink RX6 198 "LeverFrame$Plan" "routeOver" "[I" ∈ m_tb := m_t1 200 rfl rfl
set_option maxRecDepth 100000 in
theorem fl_X5_52 : Cond.fieldLink RX5 52 "LeverFrame$Plan" "sections" "[I" ∈ m_tb := m_t1 201 rfl rfl
set_option maxRecDepth 100000 in
theorem fl_X1_45 : Cond.fieldLink RX1 45 "LeverFrame$Plan" "sections" "[I" ∈ m_tb := m_t1 202 rfl rfl
set_option maxRecDepth 100000 in
theorem fl_X6_171 : Cond.fieldLink RX6 171 "LeverFrame$Plan" "sections" "[I" ∈ m_tb := m_t1 203 rfl rfl
set_option maxRecDepth 100000 in
theorem fl_X8_119 : Cond.fieldLink RX8 119 "LeverFrame$Plan" "sections" "[I" ∈ m_tb := m_t1 204 rfl rfl
set_option maxRecDepth 100000 in
theorem fl_X5_55 : Cond.fieldLink RX5 55 "LeverFrame$Plan" "needsNormal" "[I" ∈ m_tb := m_t1 205 rfl rfl
set_option maxRecDepth 100000 in
theorem fl_X11_196 : Cond.fieldLink RX11 196 "LeverFrame$Plan" "needsNormal" "[I" ∈ m_tb := m_t1 206 rfl rfl
set_option maxRecDepth 100000 in
theorem fl_X6_174 : Cond.fieldLink RX6 174 "LeverFrame$Plan" "needsNormal" "[I" ∈ m_tb := m_t1 207 rfl rfl
set_option maxRecDepth 100000 in
theorem fl_X8_81 : Cond.fieldLink RX8 81 "LeverFrame$Plan" "needsNormal" "[I" ∈ m_tb := m_t1 208 rfl rfl
set_option maxRecDepth 100000 in
theorem fl_X5_58 : Cond.fieldLink RX5 58 "LeverFrame$Plan" "needsReverse" "[I" ∈ m_tb := m_t1 209 rfl rfl
set_option maxRecDepth 100000 in
theorem fl_X11_199 : Cond.fieldLink RX11 199 "LeverFrame$Plan" "needsReverse" "[I" ∈ m_tb := m_t1 210 rfl rfl
set_option maxRecDepth 100000 in
theorem fl_X6_177 : Cond.fieldLink RX6 177 "LeverFrame$Plan" "needsReverse" "[I" ∈ m_tb := m_t1 211 rfl rfl
set_option maxRecDepth 100000 in
theorem fl_X8_84 : Cond.fieldLink RX8 84 "LeverFrame$Plan" "needsReverse" "[I" ∈ m_tb := m_t1 212 rfl rfl
set_option maxRecDepth 100000 in
theorem fl_X5_61 : Cond.fieldLink RX5 61 "LeverFrame$Plan" "locked" "[I" ∈ m_tb := m_t1 213 rfl rfl
set_option maxRecDepth 100000 in
theorem fl_X11_190 : Cond.fieldLink RX11 190 "LeverFrame$Plan" "locked" "[I" ∈ m_tb := m_t1 214 rfl rfl
set_option maxRecDepth 100000 in
theorem fl_X6_180 : Cond.fieldLink RX6 180 "LeverFrame$Plan" "locked" "[I" ∈ m_tb := m_t1 215 rfl rfl
set_option maxRecDepth 100000 in
theorem fl_X8_91 : Cond.fieldLink RX8 91 "LeverFrame$Plan" "locked" "[I" ∈ m_tb := m_t1 216 rfl rfl
set_option maxRecDepth 100000 in
theorem fl_X5_64 : Cond.fieldLink RX5 64 "LeverFrame$Plan" "clashes" "[I" ∈ m_tb := m_t1 217 rfl rfl
set_option maxRecDepth 100000 in
theorem fl_X11_193 : Cond.fieldLink RX11 193 "LeverFrame$Plan" "clashes" "[I" ∈ m_tb := m_t1 218 rfl rfl
set_option maxRecDepth 100000 in
theorem fl_X1_130 : Cond.fieldLink RX1 130 "LeverFrame$Plan" "clashes" "[I" ∈ m_tb := m_t1 219 rfl rfl
set_option maxRecDepth 100000 in
theorem fl_X5_67 : Cond.fieldLink RX5 67 "LeverFrame$Plan" "trainIn" "[I" ∈ m_tb := m_t1 220 rfl rfl
set_option maxRecDepth 100000 in
theorem fl_X8_62 : Cond.fieldLink RX8 62 "LeverFrame$Plan" "trainIn" "[I" ∈ m_tb := m_t1 221 rfl rfl
set_option maxRecDepth 100000 in
theorem fl_X6_201 : Cond.fieldLink RX6 201 "LeverFrame$Plan" "trainIn" "[I" ∈ m_tb := m_t1 222 rfl rfl
set_option maxRecDepth 100000 in
theorem fl_X5_70 : Cond.fieldLink RX5 70 "LeverFrame$Plan" "trainWay" "[I" ∈ m_tb := m_t1 223 rfl rfl
set_option maxRecDepth 100000 in
theorem fl_X1_82 : Cond.fieldLink RX1 82 "LeverFrame$Plan" "trainWay" "[I" ∈ m_tb := m_t1 224 rfl rfl
set_option maxRecDepth 100000 in
theorem fl_X11_221 : Cond.fieldLink RX11 221 "LeverFrame$Plan" "trainWay" "[I" ∈ m_tb := m_t1 225 rfl rfl
set_option maxRecDepth 100000 in
theorem fl_X6_204 : Cond.fieldLink RX6 204 "LeverFrame$Plan" "trainWay" "[I" ∈ m_tb := m_t1 226 rfl rfl
set_option maxRecDepth 100000 in
theorem fl_X8_138 : Cond.fieldLink RX8 138 "LeverFrame$Plan" "trainWay" "[I" ∈ m_tb := m_t1 227 rfl rfl
set_option maxRecDepth 100000 in
theorem kl_X11_23 : Cond.classLink RX11 23 RX6 ∈ m_tb := m_t1 269 rfl rfl
set_option maxRecDepth 100000 in
theorem il_X6 : Cond.instantiable RX6 3 ∈ m_tb := m_t1 270 rfl rfl
set_option maxRecDepth 100000 in
theorem ml_X6_3 : Cond.methodLink RX6 3 Lib.objectInit ∈ m_tb := m_t1 274 rfl rfl
set_option maxRecDepth 100000 in
theorem kl_X6_9 : Cond.classLink RX6 9 RX5 ∈ m_tb := m_t1 275 rfl rfl
set_option maxRecDepth 100000 in
theorem ml_X6_11 : Cond.methodLink RX6 11 yX5_init ∈ m_tb := m_t1 276 rfl rfl
set_option maxRecDepth 100000 in
theorem fl_X6_12 : Cond.fieldLink RX6 12 "LeverFrame$PlanReader" "draft" "LLeverFrame$Plan;" ∈ m_tb := m_t1 277 rfl rfl
set_option maxRecDepth 100000 in
theorem fl_X11_118 : Cond.fieldLink RX11 118 "LeverFrame$PlanReader" "draft" "LLeverFrame$Plan;" ∈ m_tb := m_t1 278 rfl rfl
set_option maxRecDepth 100000 in
theorem fl_X6_18 : Cond.fieldLink RX6 18 "LeverFrame$PlanReader" "lines" "I" ∈ m_tb := m_t1 279 rfl rfl
set_option maxRecDepth 100000 in
theorem fl_X11_131 : Cond.fieldLink RX11 131 "LeverFrame$PlanReader" "lines" "I" ∈ m_tb := m_t1 280 rfl rfl
set_option maxRecDepth 100000 in
theorem fl_X6_22 : Cond.fieldLink RX6 22 "LeverFrame$PlanReader" "holdTold" "Z" ∈ m_tb := m_t1 281 rfl rfl
set_option maxRecDepth 100000 in
theorem kl_X11_30 : Cond.classLink RX11 30 RX8 ∈ m_tb := m_t1 289 rfl rfl
set_option maxRecDepth 100000 in
theorem il_X8 : Cond.instantiable RX8 14 ∈ m_tb := m_t1 290 rfl rfl
set_option maxRecDepth 100000 in
theorem ml_X11_32 : Cond.methodLink RX11 32 yX8_init ∈ m_tb := m_t1 291 rfl rfl
set_option maxRecDepth 100000 in
theorem ml_X8_3 : Cond.methodLink RX8 3 Lib.objectInit ∈ m_tb := m_t1 294 rfl rfl
set_option maxRecDepth 100000 in
theorem fl_X8_52 : Cond.fieldLink RX8 52 "LeverFrame$State" "plan" "LLeverFrame$Plan;" ∈ m_tb := m_t1 295 rfl rfl
set_option maxRecDepth 100000 in
theorem fl_X8_9 : Cond.fieldLink RX8 9 "LeverFrame$State" "tick" "I" ∈ m_tb := m_t1 296 rfl rfl
set_option maxRecDepth 100000 in
theorem fl_X0_90 : Cond.fieldLink RX0 90 "LeverFrame$State" "tick" "I" ∈ m_tb := m_t1 297 rfl rfl
set_option maxRecDepth 100000 in
theorem fl_X11_241 : Cond.fieldLink RX11 241 "LeverFrame$State" "tick" "I" ∈ m_tb := m_t1 298 rfl rfl
set_option maxRecDepth 100000 in
theorem fl_X8_15 : Cond.fieldLink RX8 15 "LeverFrame$State" "meets" "I" ∈ m_tb := m_t1 299 rfl rfl
set_option maxRecDepth 100000 in
theorem fl_X11_250 : Cond.fieldLink RX11 250 "LeverFrame$State" "meets" "I" ∈ m_tb := m_t1 300 rfl rfl
set_option maxRecDepth 100000 in
theorem fl_X8_18 : Cond.fieldLink RX8 18 "LeverFrame$State" "reverse" "I" ∈ m_tb := m_t1 301 rfl rfl
set_option maxRecDepth 100000 in
theorem fl_X11_163 : Cond.fieldLink RX11 163 "LeverFrame$State" "reverse" "I" ∈ m_tb := m_t1 302 rfl rfl
set_option maxRecDepth 100000 in
theorem fl_X8_21 : Cond.fieldLink RX8 21 "LeverFrame$State" "failsClear" "I" ∈ m_tb := m_t1 303 rfl rfl
set_option maxRecDepth 100000 in
theorem fl_X8_24 : Cond.fieldLink RX8 24 "LeverFrame$State" "failsFull" "I" ∈ m_tb := m_t1 304 rfl rfl
set_option maxRecDepth 100000 in
theorem fl_X8_27 : Cond.fieldLink RX8 27 "LeverFrame$State" "crashed" "I" ∈ m_tb := m_t1 305 rfl rfl
set_option maxRecDepth 100000 in
theorem fl_X9_42 : Cond.fieldLink RX9 42 "LeverFrame$State" "crashed" "I" ∈ m_tb := m_t1 306 rfl rfl
set_option maxRecDepth 100000 in
theorem fl_X7_108 : Cond.fieldLink RX7 108 "LeverFrame$State" "crashed" "I" ∈ m_tb := m_t1 307 rfl rfl
set_option maxRecDepth 100000 in
theorem fl_X11_227 : Cond.fieldLink RX11 227 "LeverFrame$State" "crashed" "I" ∈ m_tb := m_t1 308 rfl rfl
set_option maxRecDepth 100000 in
theorem fl_X8_30 : Cond.fieldLink RX8 30 "LeverFrame$State" "waits" "I" ∈ m_tb := m_t1 309 rfl rfl
set_option maxRecDepth 100000 in
theorem fl_X9_47 : Cond.fieldLink RX9 47 "LeverFrame$State" "waits" "I" ∈ m_tb := m_t1 310 rfl rfl
set_option maxRecDepth 100000 in
theorem fl_X7_111 : Cond.fieldLink RX7 111 "LeverFrame$State" "waits" "I" ∈ m_tb := m_t1 311 rfl rfl
set_option maxRecDepth 100000 in
theorem fl_X11_230 : Cond.fieldLink RX11 230 "LeverFrame$State" "waits" "I" ∈ m_tb := m_t1 312 rfl rfl
set_option maxRecDepth 100000 in
theorem fl_X8_33 : Cond.fieldLink RX8 33 "LeverFrame$State" "how" "[I" ∈ m_tb := m_t1 313 rfl rfl
set_option maxRecDepth 100000 in
theorem fl_X1_37 : Cond.fieldLink RX1 37 "LeverFrame$State" "how" "[I" ∈ m_tb := m_t1 314 rfl rfl
set_option maxRecDepth 100000 in
theorem fl_X11_184 : Cond.fieldLink RX11 184 "LeverFrame$State" "how" "[I" ∈ m_tb := m_t1 315 rfl rfl
set_option maxRecDepth 100000 in
theorem fl_X8_37 : Cond.fieldLink RX8 37 "LeverFrame$State" "held" "[I" ∈ m_tb := m_t1 316 rfl rfl
set_option maxRecDepth 100000 in
theorem fl_X11_202 : Cond.fieldLink RX11 202 "LeverFrame$State" "held" "[I" ∈ m_tb := m_t1 317 rfl rfl
set_option maxRecDepth 100000 in
theorem fl_X8_40 : Cond.fieldLink RX8 40 "LeverFrame$State" "user" "[I" ∈ m_tb := m_t1 318 rfl rfl
set_option maxRecDepth 100000 in
theorem fl_X11_205 : Cond.fieldLink RX11 205 "LeverFrame$State" "user" "[I" ∈ m_tb := m_t1 319 rfl rfl
set_option maxRecDepth 100000 in
theorem fl_X8_43 : Cond.fieldLink RX8 43 "LeverFrame$State" "at" "[I" ∈ m_tb := m_t1 320 rfl rfl
set_option maxRecDepth 100000 in
theorem fl_X9_29 : Cond.fieldLink RX9 29 "LeverFrame$State" "at" "[I" ∈ m_tb := m_t1 321 rfl rfl
set_option maxRecDepth 100000 in
theorem fl_X1_79 : Cond.fieldLink RX1 79 "LeverFrame$State" "at" "[I" ∈ m_tb := m_t1 322 rfl rfl
set_option maxRecDepth 100000 in
theorem fl_X7_118 : Cond.fieldLink RX7 118 "LeverFrame$State" "at" "[I" ∈ m_tb := m_t1 323 rfl rfl
set_option maxRecDepth 100000 in
theorem fl_X11_218 : Cond.fieldLink RX11 218 "LeverFrame$State" "at" "[I" ∈ m_tb := m_t1 324 rfl rfl
set_option maxRecDepth 100000 in
theorem fl_X8_46 : Cond.fieldLink RX8 46 "LeverFrame$State" "stay" "[I" ∈ m_tb := m_t1 325 rfl rfl
set_option maxRecDepth 100000 in
theorem fl_X7_125 : Cond.fieldLink RX7 125 "LeverFrame$State" "stay" "[I" ∈ m_tb := m_t1 326 rfl rfl
set_option maxRecDepth 100000 in
theorem fl_X11_224 : Cond.fieldLink RX11 224 "LeverFrame$State" "stay" "[I" ∈ m_tb := m_t1 327 rfl rfl
set_option maxRecDepth 100000 in
theorem fl_X8_49 : Cond.fieldLink RX8 49 "LeverFrame$State" "waited" "[I" ∈ m_tb := m_t1 328 rfl rfl
set_option maxRecDepth 100000 in
theorem fl_X7_132 : Cond.fieldLink RX7 132 "LeverFrame$State" "waited" "[I" ∈ m_tb := m_t1 329 rfl rfl
set_option maxRecDepth 100000 in
theorem fl_X11_233 : Cond.fieldLink RX11 233 "LeverFrame$State" "waited" "[I" ∈ m_tb := m_t1 330 rfl rfl
set_option maxRecDepth 100000 in
theorem kl_X11_42 : Cond.classLink RX11 42 RX3 ∈ m_tb := m_t1 360 rfl rfl
set_option maxRecDepth 100000 in
theorem il_X3 : Cond.instantiable RX3 2 ∈ m_tb := m_t1 361 rfl rfl
set_option maxRecDepth 100000 in
theorem ml_X11_44 : Cond.methodLink RX11 44 yX3_init ∈ m_tb := m_t1 362 rfl rfl
set_option maxRecDepth 100000 in
theorem ml_X3_3 : Cond.methodLink RX3 3 Lib.objectInit ∈ m_tb := m_t1 365 rfl rfl
set_option maxRecDepth 100000 in
theorem kl_X3_9 : Cond.classLink RX3 9 RX8 ∈ m_tb := m_t1 366 rfl rfl
set_option maxRecDepth 100000 in
theorem ml_X3_21 : Cond.methodLink RX3 21 yX8_init ∈ m_tb := m_t1 368 rfl rfl
set_option maxRecDepth 100000 in
theorem fl_X3_11 : Cond.fieldLink RX3 11 "LeverFrame$History" "before" "[LLeverFrame$State;" ∈ m_tb := m_t1 369 rfl rfl
set_option maxRecDepth 100000 in
theorem fl_X3_17 : Cond.fieldLink RX3 17 "LeverFrame$History" "size" "I" ∈ m_tb := m_t1 370 rfl rfl
set_option maxRecDepth 100000 in
theorem fl_X11_130 : Cond.fieldLink RX11 130 "LeverFrame$History" "size" "I" ∈ m_tb := m_t1 371 rfl rfl
set_option maxRecDepth 100000 in
theorem kl_X11_49 : Cond.classLink RX11 49 RX0 ∈ m_tb := m_t1 377 rfl rfl
set_option maxRecDepth 100000 in
theorem il_X0 : Cond.instantiable RX0 9 ∈ m_tb := m_t1 378 rfl rfl
set_option maxRecDepth 100000 in
theorem ml_X0_3 : Cond.methodLink RX0 3 Lib.objectInit ∈ m_tb := m_t1 382 rfl rfl
set_option maxRecDepth 100000 in
theorem fl_X0_9 : Cond.fieldLink RX0 9 "LeverFrame$Book" "words" "[I" ∈ m_tb := m_t1 383 rfl rfl
set_option maxRecDepth 100000 in
theorem fl_X0_15 : Cond.fieldLink RX0 15 "LeverFrame$Book" "things" "[I" ∈ m_tb := m_t1 384 rfl rfl
set_option maxRecDepth 100000 in
theorem fl_X0_18 : Cond.fieldLink RX0 18 "LeverFrame$Book" "full" "[I" ∈ m_tb := m_t1 385 rfl rfl
set_option maxRecDepth 100000 in
theorem fl_X0_21 : Cond.fieldLink RX0 21 "LeverFrame$Book" "lines" "I" ∈ m_tb := m_t1 386 rfl rfl
set_option maxRecDepth 100000 in
theorem fl_X0_25 : Cond.fieldLink RX0 25 "LeverFrame$Book" "judged" "Z" ∈ m_tb := m_t1 387 rfl rfl
set_option maxRecDepth 100000 in
theorem fl_X0_29 : Cond.fieldLink RX0 29 "LeverFrame$Book" "why" "I" ∈ m_tb := m_t1 388 rfl rfl
set_option maxRecDepth 100000 in
theorem fl_X0_32 : Cond.fieldLink RX0 32 "LeverFrame$Book" "goodLines" "I" ∈ m_tb := m_t1 389 rfl rfl
set_option maxRecDepth 100000 in
theorem fl_X11_352 : Cond.fieldLink RX11 352 "LeverFrame$Book" "goodLines" "I" ∈ m_tb := m_t1 390 rfl rfl
set_option maxRecDepth 100000 in
theorem fl_X0_35 : Cond.fieldLink RX0 35 "LeverFrame$Book" "tickThen" "I" ∈ m_tb := m_t1 391 rfl rfl
set_option maxRecDepth 100000 in
theorem fl_X0_38 : Cond.fieldLink RX0 38 "LeverFrame$Book" "notFreeThen" "I" ∈ m_tb := m_t1 392 rfl rfl
set_option maxRecDepth 100000 in
theorem kl_X11_56 : Cond.classLink RX11 56 RX7 ∈ m_tb := m_t1 412 rfl rfl
set_option maxRecDepth 100000 in
theorem il_X7 : Cond.instantiable RX7 7 ∈ m_tb := m_t1 413 rfl rfl
set_option maxRecDepth 100000 in
theorem ml_X7_3 : Cond.methodLink RX7 3 Lib.objectInit ∈ m_tb := m_t1 417 rfl rfl
set_option maxRecDepth 100000 in
theorem fl_X7_9 : Cond.fieldLink RX7 9 "LeverFrame$Sentence" "known" "Z" ∈ m_tb := m_t1 418 rfl rfl
set_option maxRecDepth 100000 in
theorem fl_X11_126 : Cond.fieldLink RX11 126 "LeverFrame$Sentence" "known" "Z" ∈ m_tb := m_t1 419 rfl rfl
set_option maxRecDepth 100000 in
theorem fl_X7_15 : Cond.fieldLink RX7 15 "LeverFrame$Sentence" "ones" "I" ∈ m_tb := m_t1 420 rfl rfl
set_option maxRecDepth 100000 in
theorem fl_X11_364 : Cond.fieldLink RX11 364 "LeverFrame$Sentence" "ones" "I" ∈ m_tb := m_t1 421 rfl rfl
set_option maxRecDepth 100000 in
theorem fl_X7_19 : Cond.fieldLink RX7 19 "LeverFrame$Sentence" "size" "I" ∈ m_tb := m_t1 422 rfl rfl
set_option maxRecDepth 100000 in
theorem fl_X7_22 : Cond.fieldLink RX7 22 "LeverFrame$Sentence" "words" "[I" ∈ m_tb := m_t1 423 rfl rfl
set_option maxRecDepth 100000 in
theorem fl_X7_26 : Cond.fieldLink RX7 26 "LeverFrame$Sentence" "things" "[I" ∈ m_tb := m_t1 424 rfl rfl
set_option maxRecDepth 100000 in
theorem fl_X7_29 : Cond.fieldLink RX7 29 "LeverFrame$Sentence" "signs" "[I" ∈ m_tb := m_t1 425 rfl rfl
set_option maxRecDepth 100000 in
theorem fl_X7_32 : Cond.fieldLink RX7 32 "LeverFrame$Sentence" "stack" "[I" ∈ m_tb := m_t1 426 rfl rfl
set_option maxRecDepth 100000 in
theorem kl_X11_66 : Cond.classLink RX11 66 RX4 ∈ m_tb := m_t1 442 rfl rfl
set_option maxRecDepth 100000 in
theorem kl_X11_72 : Cond.classLink RX11 72 RX1 ∈ m_tb := m_t1 444 rfl rfl
set_option maxRecDepth 100000 in
theorem il_X1 : Cond.instantiable RX1 6 ∈ m_tb := m_t1 445 rfl rfl
set_option maxRecDepth 100000 in
theorem ml_X1_3 : Cond.methodLink RX1 3 Lib.objectInit ∈ m_tb := m_t1 449 rfl rfl
set_option maxRecDepth 100000 in
theorem fl_X1_9 : Cond.fieldLink RX1 9 "LeverFrame$Counsel" "pulled" "[I" ∈ m_tb := m_t1 450 rfl rfl
set_option maxRecDepth 100000 in
theorem fl_X1_15 : Cond.fieldLink RX1 15 "LeverFrame$Counsel" "pulledSize" "I" ∈ m_tb := m_t1 451 rfl rfl
set_option maxRecDepth 100000 in
theorem fl_X1_19 : Cond.fieldLink RX1 19 "LeverFrame$Counsel" "steps" "[I" ∈ m_tb := m_t1 452 rfl rfl
set_option maxRecDepth 100000 in
theorem fl_X1_22 : Cond.fieldLink RX1 22 "LeverFrame$Counsel" "stepsSize" "I" ∈ m_tb := m_t1 453 rfl rfl
set_option maxRecDepth 100000 in
theorem fl_X1_25 : Cond.fieldLink RX1 25 "LeverFrame$Counsel" "far" "[I" ∈ m_tb := m_t1 454 rfl rfl
set_option maxRecDepth 100000 in
theorem fl_X1_28 : Cond.fieldLink RX1 28 "LeverFrame$Counsel" "tried" "[I" ∈ m_tb := m_t1 455 rfl rfl
set_option maxRecDepth 100000 in
theorem kl_X11_79 : Cond.classLink RX11 79 RX2 ∈ m_tb := m_t1 469 rfl rfl
set_option maxRecDepth 100000 in
theorem il_X2 : Cond.instantiable RX2 3 ∈ m_tb := m_t1 470 rfl rfl
set_option maxRecDepth 100000 in
theorem ml_X2_3 : Cond.methodLink RX2 3 Lib.objectInit ∈ m_tb := m_t1 474 rfl rfl
set_option maxRecDepth 100000 in
theorem fl_X2_9 : Cond.fieldLink RX2 9 "LeverFrame$Diagnosis" "failures" "[I" ∈ m_tb := m_t1 475 rfl rfl
set_option maxRecDepth 100000 in
theorem fl_X2_15 : Cond.fieldLink RX2 15 "LeverFrame$Diagnosis" "size" "I" ∈ m_tb := m_t1 476 rfl rfl
set_option maxRecDepth 100000 in
theorem fl_X2_19 : Cond.fieldLink RX2 19 "LeverFrame$Diagnosis" "next" "I" ∈ m_tb := m_t1 477 rfl rfl
set_option maxRecDepth 100000 in
theorem fl_X11_321 : Cond.fieldLink RX11 321 "LeverFrame$Diagnosis" "next" "I" ∈ m_tb := m_t1 478 rfl rfl
set_option maxRecDepth 100000 in
theorem kl_X11_86 : Cond.classLink RX11 86 RX9 ∈ m_tb := m_t1 486 rfl rfl
set_option maxRecDepth 100000 in
theorem il_X9 : Cond.instantiable RX9 2 ∈ m_tb := m_t1 487 rfl rfl
set_option maxRecDepth 100000 in
theorem ml_X9_3 : Cond.methodLink RX9 3 Lib.objectInit ∈ m_tb := m_t1 491 rfl rfl
set_option maxRecDepth 100000 in
theorem fl_X9_9 : Cond.fieldLink RX9 9 "LeverFrame$Tag" "bytes" "[I" ∈ m_tb := m_t1 492 rfl rfl
set_option maxRecDepth 100000 in
theorem fl_X9_15 : Cond.fieldLink RX9 15 "LeverFrame$Tag" "size" "I" ∈ m_tb := m_t1 493 rfl rfl
set_option maxRecDepth 100000 in
theorem fl_X11_339 : Cond.fieldLink RX11 339 "LeverFrame$Tag" "size" "I" ∈ m_tb := m_t1 494 rfl rfl
set_option maxRecDepth 100000 in
theorem il_X4 : Cond.instantiable RX4 4 ∈ m_tb := m_t1 500 rfl rfl
set_option maxRecDepth 100000 in
theorem ml_X11_100 : Cond.methodLink RX11 100 yX4_init ∈ m_tb := m_t1 501 rfl rfl
set_option maxRecDepth 100000 in
theorem ml_X4_1 : Cond.methodLink RX4 1 Lib.objectInit ∈ m_tb := m_t1 504 rfl rfl
set_option maxRecDepth 100000 in
theorem kl_X4_7 : Cond.classLink RX4 7 RX5 ∈ m_tb := m_t1 505 rfl rfl
set_option maxRecDepth 100000 in
theorem ml_X4_9 : Cond.methodLink RX4 9 yX5_init ∈ m_tb := m_t1 506 rfl rfl
set_option maxRecDepth 100000 in
theorem kl_X4_16 : Cond.classLink RX4 16 RX7 ∈ m_tb := m_t1 507 rfl rfl
set_option maxRecDepth 100000 in
theorem kl_X4_27 : Cond.classLink RX4 27 RX8 ∈ m_tb := m_t1 509 rfl rfl
set_option maxRecDepth 100000 in
theorem ml_X4_29 : Cond.methodLink RX4 29 yX8_init ∈ m_tb := m_t1 510 rfl rfl
set_option maxRecDepth 100000 in
theorem fl_X4_10 : Cond.fieldLink RX4 10 "LeverFrame$Image" "plan" "LLeverFrame$Plan;" ∈ m_tb := m_t1 511 rfl rfl
set_option maxRecDepth 100000 in
theorem fl_X4_32 : Cond.fieldLink RX4 32 "LeverFrame$Image" "state" "LLeverFrame$State;" ∈ m_tb := m_t1 512 rfl rfl
set_option maxRecDepth 100000 in
theorem fl_X4_19 : Cond.fieldLink RX4 19 "LeverFrame$Image" "saying" "LLeverFrame$Sentence;" ∈ m_tb := m_t1 513 rfl rfl
set_option maxRecDepth 100000 in
theorem fl_X4_23 : Cond.fieldLink RX4 23 "LeverFrame$Image" "kept" "Z" ∈ m_tb := m_t1 514 rfl rfl
set_option maxRecDepth 100000 in
theorem fl_X11_375 : Cond.fieldLink RX11 375 "LeverFrame$Image" "kept" "Z" ∈ m_tb := m_t1 515 rfl rfl
set_option maxRecDepth 100000 in
theorem fl_X11_10 : Cond.fieldLink RX11 10 "LeverFrame" "tape" "LLeverFrame$Text;" ∈ m_tb := m_t1 525 rfl rfl
set_option maxRecDepth 100000 in
theorem fl_X11_19 : Cond.fieldLink RX11 19 "LeverFrame" "plan" "LLeverFrame$Plan;" ∈ m_tb := m_t1 526 rfl rfl
set_option maxRecDepth 100000 in
theorem fl_X11_26 : Cond.fieldLink RX11 26 "LeverFrame" "reader" "LLeverFrame$PlanReader;" ∈ m_tb := m_t1 527 rfl rfl
set_option maxRecDepth 100000 in
theorem fl_X11_35 : Cond.fieldLink RX11 35 "LeverFrame" "state" "LLeverFrame$State;" ∈ m_tb := m_t1 528 rfl rfl
set_option maxRecDepth 100000 in
theorem fl_X11_39 : Cond.fieldLink RX11 39 "LeverFrame" "trial" "LLeverFrame$State;" ∈ m_tb := m_t1 529 rfl rfl
set_option maxRecDepth 100000 in
theorem fl_X11_45 : Cond.fieldLink RX11 45 "LeverFrame" "history" "LLeverFrame$History;" ∈ m_tb := m_t1 530 rfl rfl
set_option maxRecDepth 100000 in
theorem fl_X11_52 : Cond.fieldLink RX11 52 "LeverFrame" "script" "LLeverFrame$Book;" ∈ m_tb := m_t1 531 rfl rfl
set_option maxRecDepth 100000 in
theorem fl_X11_59 : Cond.fieldLink RX11 59 "LeverFrame" "saying" "LLeverFrame$Sentence;" ∈ m_tb := m_t1 532 rfl rfl
set_option maxRecDepth 100000 in
theorem fl_X11_63 : Cond.fieldLink RX11 63 "LeverFrame" "draft" "LLeverFrame$Sentence;" ∈ m_tb := m_t1 533 rfl rfl
set_option maxRecDepth 100000 in
theorem fl_X11_68 : Cond.fieldLink RX11 68 "LeverFrame" "images" "[LLeverFrame$Image;" ∈ m_tb := m_t1 534 rfl rfl
set_option maxRecDepth 100000 in
theorem fl_X11_75 : Cond.fieldLink RX11 75 "LeverFrame" "counsel" "LLeverFrame$Counsel;" ∈ m_tb := m_t1 535 rfl rfl
set_option maxRecDepth 100000 in
theorem fl_X11_82 : Cond.fieldLink RX11 82 "LeverFrame" "diagnosis" "LLeverFrame$Diagnosis;" ∈ m_tb := m_t1 536 rfl rfl
set_option maxRecDepth 100000 in
theorem fl_X11_89 : Cond.fieldLink RX11 89 "LeverFrame" "label" "LLeverFrame$Tag;" ∈ m_tb := m_t1 537 rfl rfl
set_option maxRecDepth 100000 in
theorem fl_X11_93 : Cond.fieldLink RX11 93 "LeverFrame" "latestFault" "I" ∈ m_tb := m_t1 538 rfl rfl
set_option maxRecDepth 100000 in
theorem fl_X11_97 : Cond.fieldLink RX11 97 "LeverFrame" "latestTogether" "I" ∈ m_tb := m_t1 539 rfl rfl
set_option maxRecDepth 100000 in
theorem ml_L_23 : Cond.methodLink RL 23 yX11_feed ∈ m_tb := m_t1 571 rfl rfl
set_option maxRecDepth 100000 in
theorem ml_X11_104 : Cond.methodLink RX11 104 yX10_addNumber ∈ m_tb := m_t1 575 rfl rfl
set_option maxRecDepth 100000 in
theorem ml_L_28 : Cond.methodLink RL 28 yX11_end ∈ m_tb := m_t1 579 rfl rfl
set_option maxRecDepth 100000 in
theorem ml_L_33 : Cond.methodLink RL 33 yX11_layout ∈ m_tb := m_t1 583 rfl rfl
set_option maxRecDepth 100000 in
theorem ml_X11_108 : Cond.methodLink RX11 108 yX6_readPlan ∈ m_tb := m_t1 587 rfl rfl
set_option maxRecDepth 100000 in
theorem ml_X6_26 : Cond.methodLink RX6 26 yX10_begin ∈ m_tb := m_t1 591 rfl rfl
set_option maxRecDepth 100000 in
theorem ml_X6_32 : Cond.methodLink RX6 32 yX5_empty ∈ m_tb := m_t1 595 rfl rfl
set_option maxRecDepth 100000 in
theorem ml_X5_73 : Cond.methodLink RX5 73 yJ7_fill_53178 ∈ m_tb := m_t1 599 rfl rfl
set_option maxRecDepth 100000 in
theorem ml_X6_35 : Cond.methodLink RX6 35 yX10_next ∈ m_tb := m_t1 602 rfl rfl
set_option maxRecDepth 100000 in
theorem ml_X10_69 : Cond.methodLink RX10 69 yX10_isBlank ∈ m_tb := m_t1 606 rfl rfl
set_option maxRecDepth 100000 in
theorem ml_X10_73 : Cond.methodLink RX10 73 yJ9_min_7cf53 ∈ m_tb := m_t1 609 rfl rfl
set_option maxRecDepth 100000 in
theorem ml_X10_79 : Cond.methodLink RX10 79 yX10_isLetter ∈ m_tb := m_t1 612 rfl rfl
set_option maxRecDepth 100000 in
theorem ml_X10_82 : Cond.methodLink RX10 82 yX10_isDigit ∈ m_tb := m_t1 615 rfl rfl
set_option maxRecDepth 100000 in
theorem ml_X10_85 : Cond.methodLink RX10 85 yX10_readRun ∈ m_tb := m_t1 618 rfl rfl
set_option maxRecDepth 100000 in
theorem ml_X6_41 : Cond.methodLink RX6 41 yX6_readLine ∈ m_tb := m_t1 622 rfl rfl
set_option maxRecDepth 100000 in
theorem ml_X6_55 : Cond.methodLink RX6 55 yX6_readSection ∈ m_tb := m_t1 626 rfl rfl
set_option maxRecDepth 100000 in
theorem ml_X6_90 : Cond.methodLink RX6 90 yX6_hasRoom ∈ m_tb := m_t1 630 rfl rfl
set_option maxRecDepth 100000 in
theorem ml_X6_82 : Cond.methodLink RX6 82 yX10_wrong ∈ m_tb := m_t1 634 rfl rfl
set_option maxRecDepth 100000 in
theorem ml_X6_94 : Cond.methodLink RX6 94 yX10_nextNewName ∈ m_tb := m_t1 638 rfl rfl
set_option maxRecDepth 100000 in
theorem ml_X10_101 : Cond.methodLink RX10 101 yX10_next ∈ m_tb := m_t1 642 rfl rfl
set_option maxRecDepth 100000 in
theorem ml_X10_92 : Cond.methodLink RX10 92 yX10_wrong ∈ m_tb := m_t1 643 rfl rfl
set_option maxRecDepth 100000 in
theorem ml_X10_108 : Cond.methodLink RX10 108 yX5_knows ∈ m_tb := m_t1 644 rfl rfl
set_option maxRecDepth 100000 in
theorem ml_X5_89 : Cond.methodLink RX5 89 yX5_find ∈ m_tb := m_t1 648 rfl rfl
set_option maxRecDepth 100000 in
theorem ml_X6_102 : Cond.methodLink RX6 102 yX10_nextNumber ∈ m_tb := m_t1 652 rfl rfl
set_option maxRecDepth 100000 in
theorem ml_X6_109 : Cond.methodLink RX6 109 yX5_addOne ∈ m_tb := m_t1 656 rfl rfl
set_option maxRecDepth 100000 in
theorem ml_X6_113 : Cond.methodLink RX6 113 yX6_goOn ∈ m_tb := m_t1 660 rfl rfl
set_option maxRecDepth 100000 in
theorem ml_X6_58 : Cond.methodLink RX6 58 yX6_readPoints ∈ m_tb := m_t1 663 rfl rfl
set_option maxRecDepth 100000 in
theorem ml_X6_116 : Cond.methodLink RX6 116 yX10_nextNamed ∈ m_tb := m_t1 667 rfl rfl
set_option maxRecDepth 100000 in
theorem ml_X10_104 : Cond.methodLink RX10 104 yX10_named ∈ m_tb := m_t1 671 rfl rfl
set_option maxRecDepth 100000 in
theorem ml_X10_95 : Cond.methodLink RX10 95 yX5_find ∈ m_tb := m_t1 675 rfl rfl
set_option maxRecDepth 100000 in
theorem ml_X6_61 : Cond.methodLink RX6 61 yX6_readTrack ∈ m_tb := m_t1 676 rfl rfl
set_option maxRecDepth 100000 in
theorem ml_X6_123 : Cond.methodLink RX6 123 yX5_trackBetween ∈ m_tb := m_t1 680 rfl rfl
set_option maxRecDepth 100000 in
theorem ml_X6_126 : Cond.methodLink RX6 126 yX10_isSign ∈ m_tb := m_t1 684 rfl rfl
set_option maxRecDepth 100000 in
theorem ml_X6_129 : Cond.methodLink RX6 129 yX6_readPointsBy ∈ m_tb := m_t1 688 rfl rfl
set_option maxRecDepth 100000 in
theorem ml_X6_141 : Cond.methodLink RX6 141 yX10_named ∈ m_tb := m_t1 692 rfl rfl
set_option maxRecDepth 100000 in
theorem ml_X6_133 : Cond.methodLink RX6 133 yX10_nextOfTwo ∈ m_tb := m_t1 693 rfl rfl
set_option maxRecDepth 100000 in
theorem ml_X6_137 : Cond.methodLink RX6 137 yX6_addTrack ∈ m_tb := m_t1 697 rfl rfl
set_option maxRecDepth 100000 in
theorem ml_X6_64 : Cond.methodLink RX6 64 yX6_readSignal ∈ m_tb := m_t1 701 rfl rfl
set_option maxRecDepth 100000 in
theorem ml_X6_156 : Cond.methodLink RX6 156 yX5_signalAt ∈ m_tb := m_t1 705 rfl rfl
set_option maxRecDepth 100000 in
theorem ml_X6_67 : Cond.methodLink RX6 67 yX6_readRoute ∈ m_tb := m_t1 709 rfl rfl
set_option maxRecDepth 100000 in
theorem ml_X6_70 : Cond.methodLink RX6 70 yX6_readLock ∈ m_tb := m_t1 713 rfl rfl
set_option maxRecDepth 100000 in
theorem ml_X6_73 : Cond.methodLink RX6 73 yX6_readTrain ∈ m_tb := m_t1 717 rfl rfl
set_option maxRecDepth 100000 in
theorem ml_X6_76 : Cond.methodLink RX6 76 yX6_readHold ∈ m_tb := m_t1 721 rfl rfl
set_option maxRecDepth 100000 in
theorem ml_X6_79 : Cond.methodLink RX6 79 yX6_readOver ∈ m_tb := m_t1 725 rfl rfl
set_option maxRecDepth 100000 in
theorem ml_X6_183 : Cond.methodLink RX6 183 yX6_canGoOver ∈ m_tb := m_t1 729 rfl rfl
set_option maxRecDepth 100000 in
theorem ml_X6_191 : Cond.methodLink RX6 191 yX5_endOf ∈ m_tb := m_t1 733 rfl rfl
set_option maxRecDepth 100000 in
theorem ml_X5_93 : Cond.methodLink RX5 93 yX5_sectionOf ∈ m_tb := m_t1 737 rfl rfl
set_option maxRecDepth 100000 in
theorem ml_X6_194 : Cond.methodLink RX6 194 yX5_leadsTo ∈ m_tb := m_t1 741 rfl rfl
set_option maxRecDepth 100000 in
theorem ml_X6_187 : Cond.methodLink RX6 187 yX6_addOver ∈ m_tb := m_t1 745 rfl rfl
set_option maxRecDepth 100000 in
theorem ml_X6_45 : Cond.methodLink RX6 45 yX10_mustBe ∈ m_tb := m_t1 749 rfl rfl
set_option maxRecDepth 100000 in
theorem ml_X10_88 : Cond.methodLink RX10 88 yX10_isSign ∈ m_tb := m_t1 753 rfl rfl
set_option maxRecDepth 100000 in
theorem ml_X6_49 : Cond.methodLink RX6 49 yX5_workOutClashes ∈ m_tb := m_t1 754 rfl rfl
set_option maxRecDepth 100000 in
theorem ml_X5_97 : Cond.methodLink RX5 97 yX5_conflict ∈ m_tb := m_t1 758 rfl rfl
set_option maxRecDepth 100000 in
theorem ml_X11_120 : Cond.methodLink RX11 120 yX5_copyFrom ∈ m_tb := m_t1 762 rfl rfl
set_option maxRecDepth 100000 in
theorem ml_X11_387 : Cond.methodLink RX11 387 yJ9_min_7cf53 ∈ m_tb := m_t1 769 rfl rfl
set_option maxRecDepth 100000 in
theorem ml_X11_392 : Cond.methodLink RX11 392 arraycopyName ∈ m_tb := m_t1 770 rfl rfl
set_option maxRecDepth 100000 in
theorem nl_acopy : Cond.native arraycopyName ∈ m_tb := m_t1 772 rfl rfl
set_option maxRecDepth 100000 in
theorem ml_X5_83 : Cond.methodLink RX5 83 arraycopyName ∈ m_tb := m_t1 773 rfl rfl
set_option maxRecDepth 100000 in
theorem ml_X11_123 : Cond.methodLink RX11 123 yX8_start ∈ m_tb := m_t1 774 rfl rfl
set_option maxRecDepth 100000 in
theorem ml_X8_56 : Cond.methodLink RX8 56 yJ7_fill_53178 ∈ m_tb := m_t1 778 rfl rfl
set_option maxRecDepth 100000 in
theorem ml_L_38 : Cond.methodLink RL 38 yX11_fault ∈ m_tb := m_t1 780 rfl rfl
set_option maxRecDepth 100000 in
theorem ml_L_42 : Cond.methodLink RL 42 yX11_section ∈ m_tb := m_t1 784 rfl rfl
set_option maxRecDepth 100000 in
theorem ml_X11_134 : Cond.methodLink RX11 134 yX5_has ∈ m_tb := m_t1 788 rfl rfl
set_option maxRecDepth 100000 in
theorem ml_X11_142 : Cond.methodLink RX11 142 yX8_leastTrainIn ∈ m_tb := m_t1 792 rfl rfl
set_option maxRecDepth 100000 in
theorem ml_X11_146 : Cond.methodLink RX11 146 yX8_showing ∈ m_tb := m_t1 796 rfl rfl
set_option maxRecDepth 100000 in
theorem ml_X8_74 : Cond.methodLink RX8 74 yX8_occupied ∈ m_tb := m_t1 800 rfl rfl
set_option maxRecDepth 100000 in
theorem ml_X11_150 : Cond.methodLink RX11 150 yX8_failing ∈ m_tb := m_t1 804 rfl rfl
set_option maxRecDepth 100000 in
theorem ml_X11_154 : Cond.methodLink RX11 154 yX5_routesWith ∈ m_tb := m_t1 808 rfl rfl
set_option maxRecDepth 100000 in
theorem ml_X11_157 : Cond.methodLink RX11 157 yX5_pointsWithin ∈ m_tb := m_t1 812 rfl rfl
set_option maxRecDepth 100000 in
theorem ml_L_46 : Cond.methodLink RL 46 yX11_points ∈ m_tb := m_t1 816 rfl rfl
set_option maxRecDepth 100000 in
theorem ml_X11_166 : Cond.methodLink RX11 166 yX5_routesNeeding ∈ m_tb := m_t1 820 rfl rfl
set_option maxRecDepth 100000 in
theorem ml_L_50 : Cond.methodLink RL 50 yX11_signal ∈ m_tb := m_t1 824 rfl rfl
set_option maxRecDepth 100000 in
theorem ml_X11_175 : Cond.methodLink RX11 175 yX8_setRouteOf ∈ m_tb := m_t1 828 rfl rfl
set_option maxRecDepth 100000 in
theorem ml_X11_178 : Cond.methodLink RX11 178 yX5_routesOf ∈ m_tb := m_t1 832 rfl rfl
set_option maxRecDepth 100000 in
theorem ml_L_54 : Cond.methodLink RL 54 yX11_route ∈ m_tb := m_t1 836 rfl rfl
set_option maxRecDepth 100000 in
theorem ml_L_58 : Cond.methodLink RL 58 yX11_over ∈ m_tb := m_t1 840 rfl rfl
set_option maxRecDepth 100000 in
theorem ml_X11_208 : Cond.methodLink RX11 208 yX5_sectionOf ∈ m_tb := m_t1 844 rfl rfl
set_option maxRecDepth 100000 in
theorem ml_L_71 : Cond.methodLink RL 71 yX11_now ∈ m_tb := m_t1 845 rfl rfl
set_option maxRecDepth 100000 in
theorem ml_X11_244 : Cond.methodLink RX11 244 yX8_notFree ∈ m_tb := m_t1 849 rfl rfl
set_option maxRecDepth 100000 in
theorem ml_X11_247 : Cond.methodLink RX11 247 yX8_trainsOut ∈ m_tb := m_t1 853 rfl rfl
set_option maxRecDepth 100000 in
theorem ml_L_75 : Cond.methodLink RL 75 yX11_set ∈ m_tb := m_t1 857 rfl rfl
set_option maxRecDepth 100000 in
theorem ml_X11_253 : Cond.methodLink RX11 253 yX11_act ∈ m_tb := m_t1 861 rfl rfl
set_option maxRecDepth 100000 in
theorem ml_X11_381 : Cond.methodLink RX11 381 yX11_sortOfAct ∈ m_tb := m_t1 865 rfl rfl
set_option maxRecDepth 100000 in
theorem ml_X11_257 : Cond.methodLink RX11 257 yX3_note ∈ m_tb := m_t1 868 rfl rfl
set_option maxRecDepth 100000 in
theorem ml_X3_24 : Cond.methodLink RX3 24 yX8_copyFrom ∈ m_tb := m_t1 872 rfl rfl
set_option maxRecDepth 100000 in
theorem ml_X11_384 : Cond.methodLink RX11 384 yX8_perform ∈ m_tb := m_t1 876 rfl rfl
set_option maxRecDepth 100000 in
theorem ml_X8_94 : Cond.methodLink RX8 94 yX8_setRoute ∈ m_tb := m_t1 880 rfl rfl
set_option maxRecDepth 100000 in
theorem ml_X8_128 : Cond.methodLink RX8 128 yX8_whyNotSet ∈ m_tb := m_t1 884 rfl rfl
set_option maxRecDepth 100000 in
theorem ml_X8_110 : Cond.methodLink RX8 110 yX8_barring ∈ m_tb := m_t1 888 rfl rfl
set_option maxRecDepth 100000 in
theorem ml_X8_87 : Cond.methodLink RX8 87 yX5_routesOf ∈ m_tb := m_t1 892 rfl rfl
set_option maxRecDepth 100000 in
theorem ml_X8_113 : Cond.methodLink RX8 113 yX8_notFree ∈ m_tb := m_t1 893 rfl rfl
set_option maxRecDepth 100000 in
theorem ml_X8_116 : Cond.methodLink RX8 116 yX8_pointsAgainst ∈ m_tb := m_t1 894 rfl rfl
set_option maxRecDepth 100000 in
theorem ml_X8_122 : Cond.methodLink RX8 122 yX8_showing ∈ m_tb := m_t1 898 rfl rfl
set_option maxRecDepth 100000 in
theorem ml_X8_97 : Cond.methodLink RX8 97 yX8_putBack ∈ m_tb := m_t1 899 rfl rfl
set_option maxRecDepth 100000 in
theorem ml_X8_131 : Cond.methodLink RX8 131 yX8_isApproached ∈ m_tb := m_t1 903 rfl rfl
set_option maxRecDepth 100000 in
theorem ml_X8_100 : Cond.methodLink RX8 100 yX8_throwPoints ∈ m_tb := m_t1 907 rfl rfl
set_option maxRecDepth 100000 in
theorem ml_X8_147 : Cond.methodLink RX8 147 yX5_routesNeeding ∈ m_tb := m_t1 911 rfl rfl
set_option maxRecDepth 100000 in
theorem ml_X8_103 : Cond.methodLink RX8 103 yX8_failSection ∈ m_tb := m_t1 912 rfl rfl
set_option maxRecDepth 100000 in
theorem ml_X8_150 : Cond.methodLink RX8 150 yX8_failing ∈ m_tb := m_t1 916 rfl rfl
set_option maxRecDepth 100000 in
theorem ml_X8_107 : Cond.methodLink RX8 107 yX8_mendSection ∈ m_tb := m_t1 917 rfl rfl
set_option maxRecDepth 100000 in
theorem ml_X11_264 : Cond.methodLink RX11 264 yX3_keepNoted ∈ m_tb := m_t1 921 rfl rfl
set_option maxRecDepth 100000 in
theorem ml_L_79 : Cond.methodLink RL 79 yX11_back ∈ m_tb := m_t1 925 rfl rfl
set_option maxRecDepth 100000 in
theorem ml_L_83 : Cond.methodLink RL 83 yX11_turn ∈ m_tb := m_t1 929 rfl rfl
set_option maxRecDepth 100000 in
theorem ml_L_87 : Cond.methodLink RL 87 yX11_fail ∈ m_tb := m_t1 933 rfl rfl
set_option maxRecDepth 100000 in
theorem ml_L_91 : Cond.methodLink RL 91 yX11_mend ∈ m_tb := m_t1 937 rfl rfl
set_option maxRecDepth 100000 in
theorem ml_L_95 : Cond.methodLink RL 95 yX11_ticks ∈ m_tb := m_t1 941 rfl rfl
set_option maxRecDepth 100000 in
theorem ml_X11_261 : Cond.methodLink RX11 261 yX8_passTicks ∈ m_tb := m_t1 945 rfl rfl
set_option maxRecDepth 100000 in
theorem ml_X8_153 : Cond.methodLink RX8 153 yX8_passOne ∈ m_tb := m_t1 949 rfl rfl
set_option maxRecDepth 100000 in
theorem ml_X8_156 : Cond.methodLink RX8 156 yX8_runTrain ∈ m_tb := m_t1 953 rfl rfl
set_option maxRecDepth 100000 in
theorem ml_X8_163 : Cond.methodLink RX8 163 yX5_signalAt ∈ m_tb := m_t1 957 rfl rfl
set_option maxRecDepth 100000 in
theorem ml_X8_166 : Cond.methodLink RX8 166 yX8_goalByTracks ∈ m_tb := m_t1 958 rfl rfl
set_option maxRecDepth 100000 in
theorem ml_X8_182 : Cond.methodLink RX8 182 yX5_leadsTo ∈ m_tb := m_t1 962 rfl rfl
set_option maxRecDepth 100000 in
theorem ml_X8_186 : Cond.methodLink RX8 186 yX8_leadsNow ∈ m_tb := m_t1 963 rfl rfl
set_option maxRecDepth 100000 in
theorem ml_X8_169 : Cond.methodLink RX8 169 yX8_goalBySignal ∈ m_tb := m_t1 967 rfl rfl
set_option maxRecDepth 100000 in
theorem ml_X8_176 : Cond.methodLink RX8 176 yX8_setRouteOf ∈ m_tb := m_t1 971 rfl rfl
set_option maxRecDepth 100000 in
theorem ml_X8_179 : Cond.methodLink RX8 179 yX5_sectionOf ∈ m_tb := m_t1 972 rfl rfl
set_option maxRecDepth 100000 in
theorem ml_X8_172 : Cond.methodLink RX8 172 yX8_enter ∈ m_tb := m_t1 973 rfl rfl
set_option maxRecDepth 100000 in
theorem ml_X8_195 : Cond.methodLink RX8 195 yX8_leastTrainIn ∈ m_tb := m_t1 977 rfl rfl
set_option maxRecDepth 100000 in
theorem ml_X8_198 : Cond.methodLink RX8 198 yX8_crash ∈ m_tb := m_t1 978 rfl rfl
set_option maxRecDepth 100000 in
theorem ml_L_99 : Cond.methodLink RL 99 yX11_undo ∈ m_tb := m_t1 982 rfl rfl
set_option maxRecDepth 100000 in
theorem ml_X11_267 : Cond.methodLink RX11 267 yX3_takeBack ∈ m_tb := m_t1 986 rfl rfl
set_option maxRecDepth 100000 in
theorem ml_L_103 : Cond.methodLink RL 103 yX11_lacking ∈ m_tb := m_t1 990 rfl rfl
set_option maxRecDepth 100000 in
theorem ml_X11_271 : Cond.methodLink RX11 271 yX5_countLacking ∈ m_tb := m_t1 994 rfl rfl
set_option maxRecDepth 100000 in
theorem ml_X5_105 : Cond.methodLink RX5 105 yX5_lackingBehind ∈ m_tb := m_t1 998 rfl rfl
set_option maxRecDepth 100000 in
theorem ml_X5_101 : Cond.methodLink RX5 101 yX5_routesOf ∈ m_tb := m_t1 1002 rfl rfl
set_option maxRecDepth 100000 in
theorem ml_X5_108 : Cond.methodLink RX5 108 yJ6_bitCount_0f7a4 ∈ m_tb := m_t1 1003 rfl rfl
set_option maxRecDepth 100000 in
theorem cl_J6_265 : Cond.constant RJ6 265 (1431655765) ∈ m_tb := m_t1 1006 rfl rfl
set_option maxRecDepth 100000 in
theorem cl_J6_266 : Cond.constant RJ6 266 (858993459) ∈ m_tb := m_t1 1007 rfl rfl
set_option maxRecDepth 100000 in
theorem cl_J6_267 : Cond.constant RJ6 267 (252645135) ∈ m_tb := m_t1 1008 rfl rfl
set_option maxRecDepth 100000 in
theorem ml_L_107 : Cond.methodLink RL 107 yX11_lacks ∈ m_tb := m_t1 1009 rfl rfl
set_option maxRecDepth 100000 in
theorem ml_X11_274 : Cond.methodLink RX11 274 yX5_lackingAt ∈ m_tb := m_t1 1013 rfl rfl
set_option maxRecDepth 100000 in
theorem ml_L_111 : Cond.methodLink RL 111 yX11_spare ∈ m_tb := m_t1 1017 rfl rfl
set_option maxRecDepth 100000 in
theorem ml_X11_277 : Cond.methodLink RX11 277 yX5_countSpare ∈ m_tb := m_t1 1021 rfl rfl
set_option maxRecDepth 100000 in
theorem ml_L_115 : Cond.methodLink RL 115 yX11_pulls ∈ m_tb := m_t1 1025 rfl rfl
set_option maxRecDepth 100000 in
theorem ml_X11_280 : Cond.methodLink RX11 280 yX1_workOutPulls ∈ m_tb := m_t1 1029 rfl rfl
set_option maxRecDepth 100000 in
theorem ml_X1_31 : Cond.methodLink RX1 31 yX5_has ∈ m_tb := m_t1 1033 rfl rfl
set_option maxRecDepth 100000 in
theorem ml_X1_48 : Cond.methodLink RX1 48 yX8_showing ∈ m_tb := m_t1 1034 rfl rfl
set_option maxRecDepth 100000 in
theorem ml_X1_52 : Cond.methodLink RX1 52 yX8_pointsAgainst ∈ m_tb := m_t1 1035 rfl rfl
set_option maxRecDepth 100000 in
theorem ml_X1_56 : Cond.methodLink RX1 56 yX8_barring ∈ m_tb := m_t1 1036 rfl rfl
set_option maxRecDepth 100000 in
theorem ml_X1_62 : Cond.methodLink RX1 62 yX5_routesNeeding ∈ m_tb := m_t1 1037 rfl rfl
set_option maxRecDepth 100000 in
theorem ml_X1_69 : Cond.methodLink RX1 69 yX8_notFree ∈ m_tb := m_t1 1038 rfl rfl
set_option maxRecDepth 100000 in
theorem ml_X1_72 : Cond.methodLink RX1 72 yX8_freeByPuttingBack ∈ m_tb := m_t1 1039 rfl rfl
set_option maxRecDepth 100000 in
theorem ml_X1_75 : Cond.methodLink RX1 75 yX1_addPulls ∈ m_tb := m_t1 1043 rfl rfl
set_option maxRecDepth 100000 in
theorem ml_L_119 : Cond.methodLink RL 119 yX11_pullsAt ∈ m_tb := m_t1 1047 rfl rfl
set_option maxRecDepth 100000 in
theorem ml_X11_284 : Cond.methodLink RX11 284 yX1_pullAt ∈ m_tb := m_t1 1051 rfl rfl
set_option maxRecDepth 100000 in
theorem ml_L_123 : Cond.methodLink RL 123 yX11_together ∈ m_tb := m_t1 1055 rfl rfl
set_option maxRecDepth 100000 in
theorem ml_X11_287 : Cond.methodLink RX11 287 yX5_mostTogether ∈ m_tb := m_t1 1059 rfl rfl
set_option maxRecDepth 100000 in
theorem ml_X5_113 : Cond.methodLink RX5 113 yX5_isPeaceful ∈ m_tb := m_t1 1063 rfl rfl
set_option maxRecDepth 100000 in
theorem ml_X11_290 : Cond.methodLink RX11 290 yJ6_bitCount_0f7a4 ∈ m_tb := m_t1 1067 rfl rfl
set_option maxRecDepth 100000 in
theorem ml_L_127 : Cond.methodLink RL 127 yX11_those ∈ m_tb := m_t1 1068 rfl rfl
set_option maxRecDepth 100000 in
theorem ml_L_131 : Cond.methodLink RL 131 yX11_rounds ∈ m_tb := m_t1 1072 rfl rfl
set_option maxRecDepth 100000 in
theorem ml_X11_295 : Cond.methodLink RX11 295 yX1_countRounds ∈ m_tb := m_t1 1076 rfl rfl
set_option maxRecDepth 100000 in
theorem ml_X1_96 : Cond.methodLink RX1 96 yJ7_fill_53178 ∈ m_tb := m_t1 1080 rfl rfl
set_option maxRecDepth 100000 in
theorem ml_X1_127 : Cond.methodLink RX1 127 yX1_placeRoute ∈ m_tb := m_t1 1081 rfl rfl
set_option maxRecDepth 100000 in
theorem ml_L_135 : Cond.methodLink RL 135 yX11_path ∈ m_tb := m_t1 1085 rfl rfl
set_option maxRecDepth 100000 in
theorem ml_X11_299 : Cond.methodLink RX11 299 yX1_workOutPath ∈ m_tb := m_t1 1089 rfl rfl
set_option maxRecDepth 100000 in
theorem ml_X1_85 : Cond.methodLink RX1 85 yX1_measure ∈ m_tb := m_t1 1093 rfl rfl
set_option maxRecDepth 100000 in
theorem ml_X1_111 : Cond.methodLink RX1 111 yX1_costOf ∈ m_tb := m_t1 1097 rfl rfl
set_option maxRecDepth 100000 in
theorem ml_X1_93 : Cond.methodLink RX1 93 yX5_endOf ∈ m_tb := m_t1 1101 rfl rfl
set_option maxRecDepth 100000 in
theorem ml_X1_115 : Cond.methodLink RX1 115 yJ9_min_7cf53 ∈ m_tb := m_t1 1102 rfl rfl
set_option maxRecDepth 100000 in
theorem ml_X1_89 : Cond.methodLink RX1 89 yX1_walk ∈ m_tb := m_t1 1103 rfl rfl
set_option maxRecDepth 100000 in
theorem ml_X1_120 : Cond.methodLink RX1 120 yX1_leastStep ∈ m_tb := m_t1 1107 rfl rfl
set_option maxRecDepth 100000 in
theorem ml_X1_124 : Cond.methodLink RX1 124 yX5_signalAt ∈ m_tb := m_t1 1111 rfl rfl
set_option maxRecDepth 100000 in
theorem ml_L_139 : Cond.methodLink RL 139 yX11_pathAt ∈ m_tb := m_t1 1112 rfl rfl
set_option maxRecDepth 100000 in
theorem ml_X11_303 : Cond.methodLink RX11 303 yX1_stepAt ∈ m_tb := m_t1 1116 rfl rfl
set_option maxRecDepth 100000 in
theorem ml_L_143 : Cond.methodLink RL 143 yX11_comes ∈ m_tb := m_t1 1120 rfl rfl
set_option maxRecDepth 100000 in
theorem ml_X11_306 : Cond.methodLink RX11 306 yX8_copyFrom ∈ m_tb := m_t1 1124 rfl rfl
set_option maxRecDepth 100000 in
theorem ml_X11_308 : Cond.methodLink RX11 308 yX8_passOne ∈ m_tb := m_t1 1125 rfl rfl
set_option maxRecDepth 100000 in
theorem ml_L_147 : Cond.methodLink RL 147 yX11_meet ∈ m_tb := m_t1 1126 rfl rfl
set_option maxRecDepth 100000 in
theorem ml_L_151 : Cond.methodLink RL 151 yX11_fits ∈ m_tb := m_t1 1130 rfl rfl
set_option maxRecDepth 100000 in
theorem ml_X11_311 : Cond.methodLink RX11 311 yX8_occupied ∈ m_tb := m_t1 1134 rfl rfl
set_option maxRecDepth 100000 in
theorem ml_X11_314 : Cond.methodLink RX11 314 yX2_workOut ∈ m_tb := m_t1 1135 rfl rfl
set_option maxRecDepth 100000 in
theorem ml_X2_22 : Cond.methodLink RX2 22 yX2_isReport ∈ m_tb := m_t1 1139 rfl rfl
set_option maxRecDepth 100000 in
theorem ml_X2_49 : Cond.methodLink RX2 49 yX5_has ∈ m_tb := m_t1 1142 rfl rfl
set_option maxRecDepth 100000 in
theorem ml_X2_31 : Cond.methodLink RX2 31 yX2_explains ∈ m_tb := m_t1 1143 rfl rfl
set_option maxRecDepth 100000 in
theorem ml_X2_53 : Cond.methodLink RX2 53 yX2_shownBy ∈ m_tb := m_t1 1146 rfl rfl
set_option maxRecDepth 100000 in
theorem ml_X2_35 : Cond.methodLink RX2 35 yX2_keepFailures ∈ m_tb := m_t1 1149 rfl rfl
set_option maxRecDepth 100000 in
theorem ml_X2_39 : Cond.methodLink RX2 39 yX2_bestLook ∈ m_tb := m_t1 1153 rfl rfl
set_option maxRecDepth 100000 in
theorem ml_X2_57 : Cond.methodLink RX2 57 yJ9_max_7cf53 ∈ m_tb := m_t1 1157 rfl rfl
set_option maxRecDepth 100000 in
theorem ml_L_155 : Cond.methodLink RL 155 yX11_fitsAt ∈ m_tb := m_t1 1160 rfl rfl
set_option maxRecDepth 100000 in
theorem ml_X11_318 : Cond.methodLink RX11 318 yX2_failureAt ∈ m_tb := m_t1 1164 rfl rfl
set_option maxRecDepth 100000 in
theorem ml_L_159 : Cond.methodLink RL 159 yX11_ask ∈ m_tb := m_t1 1168 rfl rfl
set_option maxRecDepth 100000 in
theorem ml_L_167 : Cond.methodLink RL 167 yX11_tag ∈ m_tb := m_t1 1172 rfl rfl
set_option maxRecDepth 100000 in
theorem ml_X11_335 : Cond.methodLink RX11 335 yX9_write ∈ m_tb := m_t1 1176 rfl rfl
set_option maxRecDepth 100000 in
theorem ml_X9_19 : Cond.methodLink RX9 19 yX5_nameOf ∈ m_tb := m_t1 1180 rfl rfl
set_option maxRecDepth 100000 in
theorem ml_X9_25 : Cond.methodLink RX9 25 yX9_addName ∈ m_tb := m_t1 1184 rfl rfl
set_option maxRecDepth 100000 in
theorem cl_X9_66 : Cond.constantLong RX9 66 (31) ∈ m_tb := m_t1 1188 rfl rfl
set_option maxRecDepth 100000 in
theorem ml_X9_62 : Cond.methodLink RX9 62 yX9_addByte ∈ m_tb := m_t1 1189 rfl rfl
set_option maxRecDepth 100000 in
theorem ml_X9_36 : Cond.methodLink RX9 36 yX9_addText ∈ m_tb := m_t1 1194 rfl rfl
set_option maxRecDepth 100000 in
theorem ml_X9_52 : Cond.methodLink RX9 52 yJ0_length_8abf5 ∈ m_tb := m_t1 1198 rfl rfl
set_option maxRecDepth 100000 in
theorem ml_X9_58 : Cond.methodLink RX9 58 yJ0_charAt_5068e ∈ m_tb := m_t1 1199 rfl rfl
set_option maxRecDepth 100000 in
theorem ml_L_171 : Cond.methodLink RL 171 yX11_byteAt ∈ m_tb := m_t1 1203 rfl rfl
set_option maxRecDepth 100000 in
theorem ml_X11_340 : Cond.methodLink RX11 340 yX9_at ∈ m_tb := m_t1 1207 rfl rfl
set_option maxRecDepth 100000 in
theorem ml_L_175 : Cond.methodLink RL 175 yX11_drawn ∈ m_tb := m_t1 1211 rfl rfl
set_option maxRecDepth 100000 in
theorem ml_X11_342 : Cond.methodLink RX11 342 yX8_passDrawn ∈ m_tb := m_t1 1215 rfl rfl
set_option maxRecDepth 100000 in
theorem ml_X8_201 : Cond.methodLink RX8 201 yX8_stir ∈ m_tb := m_t1 1219 rfl rfl
set_option maxRecDepth 100000 in
theorem cl_X8_210 : Cond.constant RX8 210 (1103515245) ∈ m_tb := m_t1 1222 rfl rfl
set_option maxRecDepth 100000 in
theorem ml_X8_204 : Cond.methodLink RX8 204 yX8_lotOf ∈ m_tb := m_t1 1223 rfl rfl
set_option maxRecDepth 100000 in
theorem ml_X8_207 : Cond.methodLink RX8 207 yX8_actByLot ∈ m_tb := m_t1 1226 rfl rfl
set_option maxRecDepth 100000 in
theorem ml_L_179 : Cond.methodLink RL 179 yX11_odds ∈ m_tb := m_t1 1230 rfl rfl
set_option maxRecDepth 100000 in
theorem ml_L_183 : Cond.methodLink RL 183 yX11_book ∈ m_tb := m_t1 1234 rfl rfl
set_option maxRecDepth 100000 in
theorem ml_X11_345 : Cond.methodLink RX11 345 yX0_readLines ∈ m_tb := m_t1 1238 rfl rfl
set_option maxRecDepth 100000 in
theorem ml_X0_41 : Cond.methodLink RX0 41 yX10_begin ∈ m_tb := m_t1 1242 rfl rfl
set_option maxRecDepth 100000 in
theorem ml_X0_47 : Cond.methodLink RX0 47 yX10_next ∈ m_tb := m_t1 1243 rfl rfl
set_option maxRecDepth 100000 in
theorem ml_X0_53 : Cond.methodLink RX0 53 yX0_readLine ∈ m_tb := m_t1 1244 rfl rfl
set_option maxRecDepth 100000 in
theorem ml_X0_64 : Cond.methodLink RX0 64 yX0_isAct ∈ m_tb := m_t1 1248 rfl rfl
set_option maxRecDepth 100000 in
theorem ml_X0_68 : Cond.methodLink RX0 68 yX10_wrong ∈ m_tb := m_t1 1251 rfl rfl
set_option maxRecDepth 100000 in
theorem ml_X0_71 : Cond.methodLink RX0 71 yX10_nextNumber ∈ m_tb := m_t1 1252 rfl rfl
set_option maxRecDepth 100000 in
theorem ml_X0_79 : Cond.methodLink RX0 79 yX10_nextNamed ∈ m_tb := m_t1 1254 rfl rfl
set_option maxRecDepth 100000 in
theorem ml_X0_83 : Cond.methodLink RX0 83 yX10_nextOfTwo ∈ m_tb := m_t1 1255 rfl rfl
set_option maxRecDepth 100000 in
theorem ml_X0_57 : Cond.methodLink RX0 57 yX10_mustBe ∈ m_tb := m_t1 1256 rfl rfl
set_option maxRecDepth 100000 in
theorem ml_X11_349 : Cond.methodLink RX11 349 yX0_judge ∈ m_tb := m_t1 1257 rfl rfl
set_option maxRecDepth 100000 in
theorem ml_X0_86 : Cond.methodLink RX0 86 yX0_liveLine ∈ m_tb := m_t1 1261 rfl rfl
set_option maxRecDepth 100000 in
theorem ml_X0_99 : Cond.methodLink RX0 99 yX8_passTicks ∈ m_tb := m_t1 1265 rfl rfl
set_option maxRecDepth 100000 in
theorem ml_X0_102 : Cond.methodLink RX0 102 yX8_perform ∈ m_tb := m_t1 1266 rfl rfl
set_option maxRecDepth 100000 in
theorem ml_X0_106 : Cond.methodLink RX0 106 yX0_tensOf ∈ m_tb := m_t1 1267 rfl rfl
set_option maxRecDepth 100000 in
theorem ml_X0_95 : Cond.methodLink RX0 95 yX8_notFree ∈ m_tb := m_t1 1270 rfl rfl
set_option maxRecDepth 100000 in
theorem ml_L_187 : Cond.methodLink RL 187 yX11_told ∈ m_tb := m_t1 1271 rfl rfl
set_option maxRecDepth 100000 in
theorem ml_X11_355 : Cond.methodLink RX11 355 yX0_tellJudgement ∈ m_tb := m_t1 1275 rfl rfl
set_option maxRecDepth 100000 in
theorem ml_L_191 : Cond.methodLink RL 191 yX11_sentence ∈ m_tb := m_t1 1279 rfl rfl
set_option maxRecDepth 100000 in
theorem ml_X11_358 : Cond.methodLink RX11 358 yX7_readOnes ∈ m_tb := m_t1 1283 rfl rfl
set_option maxRecDepth 100000 in
theorem ml_X7_39 : Cond.methodLink RX7 39 yX10_begin ∈ m_tb := m_t1 1287 rfl rfl
set_option maxRecDepth 100000 in
theorem ml_X7_45 : Cond.methodLink RX7 45 yX10_next ∈ m_tb := m_t1 1288 rfl rfl
set_option maxRecDepth 100000 in
theorem ml_X7_48 : Cond.methodLink RX7 48 yX7_readCond ∈ m_tb := m_t1 1289 rfl rfl
set_option maxRecDepth 100000 in
theorem ml_X7_59 : Cond.methodLink RX7 59 yX7_readAll ∈ m_tb := m_t1 1293 rfl rfl
set_option maxRecDepth 100000 in
theorem ml_X7_69 : Cond.methodLink RX7 69 yX7_readOne ∈ m_tb := m_t1 1297 rfl rfl
set_option maxRecDepth 100000 in
theorem ml_X7_72 : Cond.methodLink RX7 72 yX10_isSign ∈ m_tb := m_t1 1301 rfl rfl
set_option maxRecDepth 100000 in
theorem ml_X7_55 : Cond.methodLink RX7 55 yX10_wrong ∈ m_tb := m_t1 1302 rfl rfl
set_option maxRecDepth 100000 in
theorem ml_X7_76 : Cond.methodLink RX7 76 yX10_mustBe ∈ m_tb := m_t1 1303 rfl rfl
set_option maxRecDepth 100000 in
theorem ml_X7_65 : Cond.methodLink RX7 65 yX7_addStep ∈ m_tb := m_t1 1304 rfl rfl
set_option maxRecDepth 100000 in
theorem ml_X7_79 : Cond.methodLink RX7 79 yX7_readPlainOne ∈ m_tb := m_t1 1308 rfl rfl
set_option maxRecDepth 100000 in
theorem ml_X7_82 : Cond.methodLink RX7 82 yX10_nextNamed ∈ m_tb := m_t1 1312 rfl rfl
set_option maxRecDepth 100000 in
theorem ml_X7_89 : Cond.methodLink RX7 89 yX10_nextNumber ∈ m_tb := m_t1 1313 rfl rfl
set_option maxRecDepth 100000 in
theorem ml_X11_361 : Cond.methodLink RX11 361 yX7_copyFrom ∈ m_tb := m_t1 1314 rfl rfl
set_option maxRecDepth 100000 in
theorem ml_L_195 : Cond.methodLink RL 195 yX11_said ∈ m_tb := m_t1 1319 rfl rfl
set_option maxRecDepth 100000 in
theorem ml_X11_367 : Cond.methodLink RX11 367 yX7_trainsFitting ∈ m_tb := m_t1 1323 rfl rfl
set_option maxRecDepth 100000 in
theorem ml_X7_98 : Cond.methodLink RX7 98 yX7_trainsOfStep ∈ m_tb := m_t1 1327 rfl rfl
set_option maxRecDepth 100000 in
theorem ml_X7_102 : Cond.methodLink RX7 102 yX8_trainsOut ∈ m_tb := m_t1 1331 rfl rfl
set_option maxRecDepth 100000 in
theorem ml_X7_114 : Cond.methodLink RX7 114 yX7_isTrueOf ∈ m_tb := m_t1 1332 rfl rfl
set_option maxRecDepth 100000 in
theorem ml_X7_121 : Cond.methodLink RX7 121 yX8_routesUsedBy ∈ m_tb := m_t1 1336 rfl rfl
set_option maxRecDepth 100000 in
theorem ml_X7_128 : Cond.methodLink RX7 128 yX7_compares ∈ m_tb := m_t1 1340 rfl rfl
set_option maxRecDepth 100000 in
theorem ml_L_199 : Cond.methodLink RL 199 yX11_image ∈ m_tb := m_t1 1344 rfl rfl
set_option maxRecDepth 100000 in
theorem ml_X11_371 : Cond.methodLink RX11 371 yX4_keep ∈ m_tb := m_t1 1348 rfl rfl
set_option maxRecDepth 100000 in
theorem ml_X4_36 : Cond.methodLink RX4 36 yX5_copyFrom ∈ m_tb := m_t1 1352 rfl rfl
set_option maxRecDepth 100000 in
theorem ml_X4_39 : Cond.methodLink RX4 39 yX8_copyFrom ∈ m_tb := m_t1 1353 rfl rfl
set_option maxRecDepth 100000 in
theorem ml_X4_42 : Cond.methodLink RX4 42 yX7_copyFrom ∈ m_tb := m_t1 1354 rfl rfl
set_option maxRecDepth 100000 in
theorem ml_L_203 : Cond.methodLink RL 203 yX11_restore ∈ m_tb := m_t1 1355 rfl rfl
set_option maxRecDepth 100000 in
theorem ml_X11_378 : Cond.methodLink RX11 378 yX4_giveBack ∈ m_tb := m_t1 1359 rfl rfl
set_option maxRecDepth 100000 in
theorem ml_L_207 : Cond.methodLink RL 207 yX11_count ∈ m_tb := m_t1 1363 rfl rfl
set_option maxRecDepth 100000 in
theorem ml_L_62 : Cond.methodLink RL 62 yL_train ∈ m_tb := m_t1 1367 rfl rfl
set_option maxRecDepth 100000 in
theorem ml_L_7 : Cond.methodLink RL 7 yX11_train ∈ m_tb := m_t1 1371 rfl rfl
set_option maxRecDepth 100000 in
theorem ml_X11_236 : Cond.methodLink RX11 236 yX8_routesUsedBy ∈ m_tb := m_t1 1440 rfl rfl
set_option maxRecDepth 100000 in
theorem ml_L_163 : Cond.methodLink RL 163 yL_mean ∈ m_tb := m_t1 1442 rfl rfl
set_option maxRecDepth 100000 in
theorem ml_L_15 : Cond.methodLink RL 15 yX11_mean ∈ m_tb := m_t1 1445 rfl rfl
set_option maxRecDepth 100000 in
theorem ml_X11_329 : Cond.methodLink RX11 329 yX8_waitedByAll ∈ m_tb := m_t1 1450 rfl rfl
set_option maxRecDepth 100000 in
theorem ml_X11_332 : Cond.methodLink RX11 332 yX11_greatestCommon ∈ m_tb := m_t1 1454 rfl rfl
set_option maxRecDepth 100000 in
theorem ml_L_68 : Cond.methodLink RL 68 yX12_thrown ∈ m_tb := m_t1 1457 rfl rfl
set_option maxRecDepth 100000 in
theorem ml_L_27 : Cond.methodLink RL 27 yX12_feed ∈ m_tb := m_t1 1461 rfl rfl
set_option maxRecDepth 100000 in
theorem ml_X12_10 : Cond.methodLink RX12 10 yX12_four ∈ m_tb := m_t1 1465 rfl rfl
set_option maxRecDepth 100000 in
theorem il_X12 : Cond.instantiable RX12 51 ∈ m_tb := m_t1 1468 rfl rfl
set_option maxRecDepth 100000 in
theorem ml_L_32 : Cond.methodLink RL 32 yX12_end ∈ m_tb := m_t1 1470 rfl rfl
set_option maxRecDepth 100000 in
theorem kl_L_20 : Cond.classLink RL 20 RX12 ∈ m_tb := m_t1 1474 rfl rfl
set_option maxRecDepth 100000 in
theorem ml_L_22 : Cond.methodLink RL 22 yX12_init ∈ m_tb := m_t1 1475 rfl rfl
set_option maxRecDepth 100000 in
theorem ml_X12_27 : Cond.methodLink RX12 27 Lib.objectInit ∈ m_tb := m_t1 1478 rfl rfl
set_option maxRecDepth 100000 in
theorem cl_X12_102 : Cond.constantLong RX12 102 (32481100150959982) ∈ m_tb := m_t1 1479 rfl rfl
set_option maxRecDepth 100000 in
theorem cl_X12_104 : Cond.constantLong RX12 104 (123623812527219) ∈ m_tb := m_t1 1480 rfl rfl
set_option maxRecDepth 100000 in
theorem cl_X12_106 : Cond.constantLong RX12 106 (500135191403) ∈ m_tb := m_t1 1481 rfl rfl
set_option maxRecDepth 100000 in
theorem cl_X12_108 : Cond.constantLong RX12 108 (126896544047468) ∈ m_tb := m_t1 1482 rfl rfl
set_option maxRecDepth 100000 in
theorem cl_X12_110 : Cond.constantLong RX12 110 (491496240229) ∈ m_tb := m_t1 1483 rfl rfl
set_option maxRecDepth 100000 in
theorem cl_X12_112 : Cond.constantLong RX12 112 (1870030194) ∈ m_tb := m_t1 1484 rfl rfl
set_option maxRecDepth 100000 in
theorem cl_X12_114 : Cond.constantLong RX12 114 (1819239275) ∈ m_tb := m_t1 1485 rfl rfl
set_option maxRecDepth 100000 in
theorem cl_X12_116 : Cond.constantLong RX12 116 (500135192942) ∈ m_tb := m_t1 1486 rfl rfl
set_option maxRecDepth 100000 in
theorem cl_X12_118 : Cond.constantLong RX12 118 (1752132708) ∈ m_tb := m_t1 1487 rfl rfl
set_option maxRecDepth 100000 in
theorem cl_X12_120 : Cond.constantLong RX12 120 (121424940196204) ∈ m_tb := m_t1 1488 rfl rfl
set_option maxRecDepth 100000 in
theorem cl_X12_122 : Cond.constantLong RX12 122 (32199706527560549) ∈ m_tb := m_t1 1489 rfl rfl
set_option maxRecDepth 100000 in
theorem cl_X12_124 : Cond.constantLong RX12 124 (1685026670) ∈ m_tb := m_t1 1490 rfl rfl
set_option maxRecDepth 100000 in
theorem cl_X12_126 : Cond.constantLong RX12 126 (30064) ∈ m_tb := m_t1 1491 rfl rfl
set_option maxRecDepth 100000 in
theorem cl_X12_128 : Cond.constantLong RX12 128 (7562612) ∈ m_tb := m_t1 1492 rfl rfl
set_option maxRecDepth 100000 in
theorem cl_X12_130 : Cond.constantLong RX12 130 (1650549611) ∈ m_tb := m_t1 1493 rfl rfl
set_option maxRecDepth 100000 in
theorem cl_X12_132 : Cond.constantLong RX12 132 (499968536439) ∈ m_tb := m_t1 1494 rfl rfl
set_option maxRecDepth 100000 in
theorem cl_X12_134 : Cond.constantLong RX12 134 (1717660012) ∈ m_tb := m_t1 1495 rfl rfl
set_option maxRecDepth 100000 in
theorem cl_X12_136 : Cond.constantLong RX12 136 (427020345714) ∈ m_tb := m_t1 1496 rfl rfl
set_option maxRecDepth 100000 in
theorem cl_X12_138 : Cond.constantLong RX12 138 (1718971500) ∈ m_tb := m_t1 1497 rfl rfl
set_option maxRecDepth 100000 in
theorem cl_X12_140 : Cond.constantLong RX12 140 (1835363940) ∈ m_tb := m_t1 1498 rfl rfl
set_option maxRecDepth 100000 in
theorem cl_X12_142 : Cond.constantLong RX12 142 (1953063787) ∈ m_tb := m_t1 1499 rfl rfl
set_option maxRecDepth 100000 in
theorem cl_X12_144 : Cond.constantLong RX12 144 (28530) ∈ m_tb := m_t1 1500 rfl rfl
set_option maxRecDepth 100000 in
theorem cl_X12_146 : Cond.constantLong RX12 146 (6385252) ∈ m_tb := m_t1 1501 rfl rfl
set_option maxRecDepth 100000 in
theorem cl_X12_148 : Cond.constantLong RX12 148 (7237492) ∈ m_tb := m_t1 1502 rfl rfl
set_option maxRecDepth 100000 in
theorem cl_X12_150 : Cond.constantLong RX12 150 (7304564) ∈ m_tb := m_t1 1503 rfl rfl
set_option maxRecDepth 100000 in
theorem cl_X12_152 : Cond.constantLong RX12 152 (27991785567970660) ∈ m_tb := m_t1 1504 rfl rfl
set_option maxRecDepth 100000 in
theorem cl_X12_154 : Cond.constantLong RX12 154 (33602627781095015) ∈ m_tb := m_t1 1505 rfl rfl
set_option maxRecDepth 100000 in
theorem cl_X12_156 : Cond.constantLong RX12 156 (26990) ∈ m_tb := m_t1 1506 rfl rfl
set_option maxRecDepth 100000 in
theorem cl_X12_158 : Cond.constantLong RX12 158 (504447463015) ∈ m_tb := m_t1 1507 rfl rfl
set_option maxRecDepth 100000 in
theorem cl_X12_160 : Cond.constantLong RX12 160 (499984329587) ∈ m_tb := m_t1 1508 rfl rfl
set_option maxRecDepth 100000 in
theorem cl_X12_162 : Cond.constantLong RX12 162 (131260264768868) ∈ m_tb := m_t1 1509 rfl rfl
set_option maxRecDepth 100000 in
theorem cl_X12_164 : Cond.constantLong RX12 164 (121450625394034) ∈ m_tb := m_t1 1510 rfl rfl
set_option maxRecDepth 100000 in
theorem ml_X12_166 : Cond.methodLink RX12 166 yX12_clears ∈ m_tb := m_t1 1511 rfl rfl
set_option maxRecDepth 100000 in
theorem fl_X12_1 : Cond.fieldLink RX12 1 "LeverFrameModel" "thrown" "I" ∈ m_tb := m_t1 1515 rfl rfl
set_option maxRecDepth 100000 in
theorem fl_X12_14 : Cond.fieldLink RX12 14 "LeverFrameModel" "tape" "[B" ∈ m_tb := m_t1 1516 rfl rfl
set_option maxRecDepth 100000 in
theorem fl_X12_7 : Cond.fieldLink RX12 7 "LeverFrameModel" "length" "I" ∈ m_tb := m_t1 1517 rfl rfl
set_option maxRecDepth 100000 in
theorem fl_X12_18 : Cond.fieldLink RX12 18 "LeverFrameModel" "size" "I" ∈ m_tb := m_t1 1518 rfl rfl
set_option maxRecDepth 100000 in
theorem fl_X12_21 : Cond.fieldLink RX12 21 "LeverFrameModel" "p" "I" ∈ m_tb := m_t1 1519 rfl rfl
set_option maxRecDepth 100000 in
theorem fl_X12_24 : Cond.fieldLink RX12 24 "LeverFrameModel" "limit" "I" ∈ m_tb := m_t1 1520 rfl rfl
set_option maxRecDepth 100000 in
theorem fl_X12_33 : Cond.fieldLink RX12 33 "LeverFrameModel" "s" "[I" ∈ m_tb := m_t1 1521 rfl rfl
set_option maxRecDepth 100000 in
theorem fl_X12_37 : Cond.fieldLink RX12 37 "LeverFrameModel" "h" "[I" ∈ m_tb := m_t1 1522 rfl rfl
set_option maxRecDepth 100000 in
theorem fl_X12_40 : Cond.fieldLink RX12 40 "LeverFrameModel" "read" "[I" ∈ m_tb := m_t1 1523 rfl rfl
set_option maxRecDepth 100000 in
theorem fl_X12_43 : Cond.fieldLink RX12 43 "LeverFrameModel" "names" "[J" ∈ m_tb := m_t1 1524 rfl rfl
set_option maxRecDepth 100000 in
theorem fl_X12_47 : Cond.fieldLink RX12 47 "LeverFrameModel" "reserved" "[J" ∈ m_tb := m_t1 1525 rfl rfl
set_option maxRecDepth 100000 in
theorem fl_X12_179 : Cond.fieldLink RX12 179 "LeverFrameModel" "token" "I" ∈ m_tb := m_t1 1526 rfl rfl
set_option maxRecDepth 100000 in
theorem fl_X12_173 : Cond.fieldLink RX12 173 "LeverFrameModel" "at" "I" ∈ m_tb := m_t1 1527 rfl rfl
set_option maxRecDepth 100000 in
theorem fl_X12_176 : Cond.fieldLink RX12 176 "LeverFrameModel" "span" "I" ∈ m_tb := m_t1 1528 rfl rfl
set_option maxRecDepth 100000 in
theorem fl_X12_189 : Cond.fieldLink RX12 189 "LeverFrameModel" "number" "I" ∈ m_tb := m_t1 1529 rfl rfl
set_option maxRecDepth 100000 in
theorem fl_X12_196 : Cond.fieldLink RX12 196 "LeverFrameModel" "fault" "I" ∈ m_tb := m_t1 1530 rfl rfl
set_option maxRecDepth 100000 in
theorem fl_X12_199 : Cond.fieldLink RX12 199 "LeverFrameModel" "faultAt" "I" ∈ m_tb := m_t1 1531 rfl rfl
set_option maxRecDepth 100000 in
theorem fl_X12_192 : Cond.fieldLink RX12 192 "LeverFrameModel" "word" "J" ∈ m_tb := m_t1 1532 rfl rfl
set_option maxRecDepth 100000 in
theorem fl_X12_215 : Cond.fieldLink RX12 215 "LeverFrameModel" "got" "I" ∈ m_tb := m_t1 1533 rfl rfl
set_option maxRecDepth 100000 in
theorem fl_X12_286 : Cond.fieldLink RX12 286 "LeverFrameModel" "lines" "I" ∈ m_tb := m_t1 1534 rfl rfl
set_option maxRecDepth 100000 in
theorem fl_X12_261 : Cond.fieldLink RX12 261 "LeverFrameModel" "hasHold" "Z" ∈ m_tb := m_t1 1535 rfl rfl
set_option maxRecDepth 100000 in
theorem fl_X12_50 : Cond.fieldLink RX12 50 "LeverFrameModel" "undone" "[I" ∈ m_tb := m_t1 1536 rfl rfl
set_option maxRecDepth 100000 in
theorem fl_X12_53 : Cond.fieldLink RX12 53 "LeverFrameModel" "before" "[I" ∈ m_tb := m_t1 1537 rfl rfl
set_option maxRecDepth 100000 in
theorem fl_X12_295 : Cond.fieldLink RX12 295 "LeverFrameModel" "undoMany" "I" ∈ m_tb := m_t1 1538 rfl rfl
set_option maxRecDepth 100000 in
theorem fl_X12_56 : Cond.fieldLink RX12 56 "LeverFrameModel" "pullRow" "[I" ∈ m_tb := m_t1 1539 rfl rfl
set_option maxRecDepth 100000 in
theorem fl_X12_59 : Cond.fieldLink RX12 59 "LeverFrameModel" "pullMany" "I" ∈ m_tb := m_t1 1540 rfl rfl
set_option maxRecDepth 100000 in
theorem fl_X12_62 : Cond.fieldLink RX12 62 "LeverFrameModel" "roundsOf" "[I" ∈ m_tb := m_t1 1541 rfl rfl
set_option maxRecDepth 100000 in
theorem fl_X12_403 : Cond.fieldLink RX12 403 "LeverFrameModel" "thoseSet" "I" ∈ m_tb := m_t1 1542 rfl rfl
set_option maxRecDepth 100000 in
theorem fl_X12_400 : Cond.fieldLink RX12 400 "LeverFrameModel" "hasThose" "Z" ∈ m_tb := m_t1 1543 rfl rfl
set_option maxRecDepth 100000 in
theorem fl_X12_65 : Cond.fieldLink RX12 65 "LeverFrameModel" "wants" "[I" ∈ m_tb := m_t1 1544 rfl rfl
set_option maxRecDepth 100000 in
theorem fl_X12_68 : Cond.fieldLink RX12 68 "LeverFrameModel" "pathRow" "[I" ∈ m_tb := m_t1 1545 rfl rfl
set_option maxRecDepth 100000 in
theorem fl_X12_71 : Cond.fieldLink RX12 71 "LeverFrameModel" "pathMany" "I" ∈ m_tb := m_t1 1546 rfl rfl
set_option maxRecDepth 100000 in
theorem fl_X12_74 : Cond.fieldLink RX12 74 "LeverFrameModel" "fitRow" "[I" ∈ m_tb := m_t1 1547 rfl rfl
set_option maxRecDepth 100000 in
theorem fl_X12_77 : Cond.fieldLink RX12 77 "LeverFrameModel" "fitMany" "I" ∈ m_tb := m_t1 1548 rfl rfl
set_option maxRecDepth 100000 in
theorem fl_X12_440 : Cond.fieldLink RX12 440 "LeverFrameModel" "askSection" "I" ∈ m_tb := m_t1 1549 rfl rfl
set_option maxRecDepth 100000 in
theorem fl_X12_80 : Cond.fieldLink RX12 80 "LeverFrameModel" "text" "[B" ∈ m_tb := m_t1 1550 rfl rfl
set_option maxRecDepth 100000 in
theorem fl_X12_449 : Cond.fieldLink RX12 449 "LeverFrameModel" "textMany" "I" ∈ m_tb := m_t1 1551 rfl rfl
set_option maxRecDepth 100000 in
theorem fl_X12_466 : Cond.fieldLink RX12 466 "LeverFrameModel" "seed" "I" ∈ m_tb := m_t1 1552 rfl rfl
set_option maxRecDepth 100000 in
theorem fl_X12_479 : Cond.fieldLink RX12 479 "LeverFrameModel" "toldMany" "I" ∈ m_tb := m_t1 1553 rfl rfl
set_option maxRecDepth 100000 in
theorem fl_X12_83 : Cond.fieldLink RX12 83 "LeverFrameModel" "toldAt" "[I" ∈ m_tb := m_t1 1554 rfl rfl
set_option maxRecDepth 100000 in
theorem fl_X12_489 : Cond.fieldLink RX12 489 "LeverFrameModel" "hasTold" "Z" ∈ m_tb := m_t1 1555 rfl rfl
set_option maxRecDepth 100000 in
theorem fl_X12_86 : Cond.fieldLink RX12 86 "LeverFrameModel" "stack" "[I" ∈ m_tb := m_t1 1556 rfl rfl
set_option maxRecDepth 100000 in
theorem fl_X12_492 : Cond.fieldLink RX12 492 "LeverFrameModel" "codes" "I" ∈ m_tb := m_t1 1557 rfl rfl
set_option maxRecDepth 100000 in
theorem fl_X12_508 : Cond.fieldLink RX12 508 "LeverFrameModel" "ones" "I" ∈ m_tb := m_t1 1558 rfl rfl
set_option maxRecDepth 100000 in
theorem fl_X12_495 : Cond.fieldLink RX12 495 "LeverFrameModel" "top" "I" ∈ m_tb := m_t1 1559 rfl rfl
set_option maxRecDepth 100000 in
theorem fl_X12_502 : Cond.fieldLink RX12 502 "LeverFrameModel" "deep" "I" ∈ m_tb := m_t1 1560 rfl rfl
set_option maxRecDepth 100000 in
theorem fl_X12_511 : Cond.fieldLink RX12 511 "LeverFrameModel" "isWhole" "Z" ∈ m_tb := m_t1 1561 rfl rfl
set_option maxRecDepth 100000 in
theorem fl_X12_89 : Cond.fieldLink RX12 89 "LeverFrameModel" "truths" "[Z" ∈ m_tb := m_t1 1562 rfl rfl
set_option maxRecDepth 100000 in
theorem fl_X12_93 : Cond.fieldLink RX12 93 "LeverFrameModel" "imaged" "[I" ∈ m_tb := m_t1 1563 rfl rfl
set_option maxRecDepth 100000 in
theorem fl_X12_96 : Cond.fieldLink RX12 96 "LeverFrameModel" "namesKept" "[J" ∈ m_tb := m_t1 1564 rfl rfl
set_option maxRecDepth 100000 in
theorem fl_X12_99 : Cond.fieldLink RX12 99 "LeverFrameModel" "areKept" "[Z" ∈ m_tb := m_t1 1565 rfl rfl
set_option maxRecDepth 100000 in
theorem al_boolean : Cond.arrayClass .boolean ∈ m_tb := m_t1 1669 rfl rfl
set_option maxRecDepth 100000 in
theorem ml_L_37 : Cond.methodLink RL 37 yX12_layout ∈ m_tb := m_t1 1670 rfl rfl
set_option maxRecDepth 100000 in
theorem ml_X12_283 : Cond.methodLink RX12 283 yX12_taken ∈ m_tb := m_t1 1674 rfl rfl
set_option maxRecDepth 100000 in
theorem ml_X12_208 : Cond.methodLink RX12 208 yX12_next ∈ m_tb := m_t1 1678 rfl rfl
set_option maxRecDepth 100000 in
theorem ml_X12_169 : Cond.methodLink RX12 169 yX12_peek ∈ m_tb := m_t1 1682 rfl rfl
set_option maxRecDepth 100000 in
theorem ml_X12_182 : Cond.methodLink RX12 182 yX12_isSmall ∈ m_tb := m_t1 1686 rfl rfl
set_option maxRecDepth 100000 in
theorem ml_X12_186 : Cond.methodLink RX12 186 yX12_isDigit ∈ m_tb := m_t1 1689 rfl rfl
set_option maxRecDepth 100000 in
theorem ml_X12_289 : Cond.methodLink RX12 289 yX12_readLine ∈ m_tb := m_t1 1692 rfl rfl
set_option maxRecDepth 100000 in
theorem ml_X12_233 : Cond.methodLink RX12 233 yX12_isWord ∈ m_tb := m_t1 1696 rfl rfl
set_option maxRecDepth 100000 in
theorem ml_X12_237 : Cond.methodLink RX12 237 yX12_readSection ∈ m_tb := m_t1 1700 rfl rfl
set_option maxRecDepth 100000 in
theorem ml_X12_205 : Cond.methodLink RX12 205 yX12_bad ∈ m_tb := m_t1 1704 rfl rfl
set_option maxRecDepth 100000 in
theorem ml_X12_268 : Cond.methodLink RX12 268 yX12_fresh ∈ m_tb := m_t1 1708 rfl rfl
set_option maxRecDepth 100000 in
theorem ml_X12_222 : Cond.methodLink RX12 222 yX12_isName ∈ m_tb := m_t1 1712 rfl rfl
set_option maxRecDepth 100000 in
theorem ml_X12_226 : Cond.methodLink RX12 226 yX12_seek ∈ m_tb := m_t1 1716 rfl rfl
set_option maxRecDepth 100000 in
theorem ml_X12_265 : Cond.methodLink RX12 265 yX12_puts ∈ m_tb := m_t1 1720 rfl rfl
set_option maxRecDepth 100000 in
theorem ml_X12_218 : Cond.methodLink RX12 218 yX12_takes ∈ m_tb := m_t1 1724 rfl rfl
set_option maxRecDepth 100000 in
theorem ml_X12_211 : Cond.methodLink RX12 211 yX12_isIn ∈ m_tb := m_t1 1728 rfl rfl
set_option maxRecDepth 100000 in
theorem ml_X12_240 : Cond.methodLink RX12 240 yX12_readPoints ∈ m_tb := m_t1 1731 rfl rfl
set_option maxRecDepth 100000 in
theorem ml_X12_271 : Cond.methodLink RX12 271 yX12_takesName ∈ m_tb := m_t1 1735 rfl rfl
set_option maxRecDepth 100000 in
theorem ml_X12_230 : Cond.methodLink RX12 230 yX12_looksAt ∈ m_tb := m_t1 1739 rfl rfl
set_option maxRecDepth 100000 in
theorem ml_X12_243 : Cond.methodLink RX12 243 yX12_readTrack ∈ m_tb := m_t1 1743 rfl rfl
set_option maxRecDepth 100000 in
theorem ml_X12_274 : Cond.methodLink RX12 274 yX12_readLie ∈ m_tb := m_t1 1747 rfl rfl
set_option maxRecDepth 100000 in
theorem ml_X12_246 : Cond.methodLink RX12 246 yX12_readSignal ∈ m_tb := m_t1 1751 rfl rfl
set_option maxRecDepth 100000 in
theorem ml_X12_277 : Cond.methodLink RX12 277 yX12_wayWord ∈ m_tb := m_t1 1755 rfl rfl
set_option maxRecDepth 100000 in
theorem ml_X12_249 : Cond.methodLink RX12 249 yX12_readRoute ∈ m_tb := m_t1 1759 rfl rfl
set_option maxRecDepth 100000 in
theorem ml_X12_252 : Cond.methodLink RX12 252 yX12_readOver ∈ m_tb := m_t1 1763 rfl rfl
set_option maxRecDepth 100000 in
theorem ml_X12_255 : Cond.methodLink RX12 255 yX12_readLock ∈ m_tb := m_t1 1767 rfl rfl
set_option maxRecDepth 100000 in
theorem ml_X12_280 : Cond.methodLink RX12 280 yX12_bitOf ∈ m_tb := m_t1 1771 rfl rfl
set_option maxRecDepth 100000 in
theorem ml_X12_258 : Cond.methodLink RX12 258 yX12_readTrain ∈ m_tb := m_t1 1774 rfl rfl
set_option maxRecDepth 100000 in
theorem ml_X12_292 : Cond.methodLink RX12 292 yX12_sign ∈ m_tb := m_t1 1778 rfl rfl
set_option maxRecDepth 100000 in
theorem ml_X12_202 : Cond.methodLink RX12 202 yX12_isSign ∈ m_tb := m_t1 1782 rfl rfl
set_option maxRecDepth 100000 in
theorem ml_L_41 : Cond.methodLink RL 41 yX12_fault ∈ m_tb := m_t1 1786 rfl rfl
set_option maxRecDepth 100000 in
theorem ml_L_45 : Cond.methodLink RL 45 yX12_section ∈ m_tb := m_t1 1790 rfl rfl
set_option maxRecDepth 100000 in
theorem ml_X12_311 : Cond.methodLink RX12 311 yX12_isSection ∈ m_tb := m_t1 1794 rfl rfl
set_option maxRecDepth 100000 in
theorem ml_X12_304 : Cond.methodLink RX12 304 yX12_sectionsOf ∈ m_tb := m_t1 1798 rfl rfl
set_option maxRecDepth 100000 in
theorem ml_X12_298 : Cond.methodLink RX12 298 yX12_trainIn ∈ m_tb := m_t1 1802 rfl rfl
set_option maxRecDepth 100000 in
theorem ml_X12_314 : Cond.methodLink RX12 314 yX12_showsFull ∈ m_tb := m_t1 1806 rfl rfl
set_option maxRecDepth 100000 in
theorem ml_X12_301 : Cond.methodLink RX12 301 yX12_showsBy ∈ m_tb := m_t1 1810 rfl rfl
set_option maxRecDepth 100000 in
theorem ml_L_49 : Cond.methodLink RL 49 yX12_points ∈ m_tb := m_t1 1814 rfl rfl
set_option maxRecDepth 100000 in
theorem ml_X12_317 : Cond.methodLink RX12 317 yX12_arePoints ∈ m_tb := m_t1 1818 rfl rfl
set_option maxRecDepth 100000 in
theorem ml_X12_320 : Cond.methodLink RX12 320 yX12_wanting ∈ m_tb := m_t1 1822 rfl rfl
set_option maxRecDepth 100000 in
theorem ml_L_53 : Cond.methodLink RL 53 yX12_signal ∈ m_tb := m_t1 1826 rfl rfl
set_option maxRecDepth 100000 in
theorem ml_X12_323 : Cond.methodLink RX12 323 yX12_setOf ∈ m_tb := m_t1 1830 rfl rfl
set_option maxRecDepth 100000 in
theorem ml_X12_326 : Cond.methodLink RX12 326 yX12_routesOf ∈ m_tb := m_t1 1834 rfl rfl
set_option maxRecDepth 100000 in
theorem ml_L_57 : Cond.methodLink RL 57 yX12_route ∈ m_tb := m_t1 1838 rfl rfl
set_option maxRecDepth 100000 in
theorem ml_X12_329 : Cond.methodLink RX12 329 yX12_isRoute ∈ m_tb := m_t1 1842 rfl rfl
set_option maxRecDepth 100000 in
theorem ml_X12_332 : Cond.methodLink RX12 332 yX12_conflictsOf ∈ m_tb := m_t1 1846 rfl rfl
set_option maxRecDepth 100000 in
theorem ml_X12_308 : Cond.methodLink RX12 308 yX12_isConflict ∈ m_tb := m_t1 1850 rfl rfl
set_option maxRecDepth 100000 in
theorem ml_L_61 : Cond.methodLink RL 61 yX12_over ∈ m_tb := m_t1 1854 rfl rfl
set_option maxRecDepth 100000 in
theorem ml_L_67 : Cond.methodLink RL 67 yX12_train ∈ m_tb := m_t1 1858 rfl rfl
set_option maxRecDepth 100000 in
theorem ml_X12_335 : Cond.methodLink RX12 335 yX12_isTrain ∈ m_tb := m_t1 1862 rfl rfl
set_option maxRecDepth 100000 in
theorem ml_X12_338 : Cond.methodLink RX12 338 yX12_throwsIf ∈ m_tb := m_t1 1866 rfl rfl
set_option maxRecDepth 100000 in
theorem ml_X12_342 : Cond.methodLink RX12 342 yX12_usedBy ∈ m_tb := m_t1 1870 rfl rfl
set_option maxRecDepth 100000 in
theorem ml_L_74 : Cond.methodLink RL 74 yX12_now ∈ m_tb := m_t1 1874 rfl rfl
set_option maxRecDepth 100000 in
theorem ml_X12_345 : Cond.methodLink RX12 345 yX12_busy ∈ m_tb := m_t1 1878 rfl rfl
set_option maxRecDepth 100000 in
theorem ml_L_78 : Cond.methodLink RL 78 yX12_set ∈ m_tb := m_t1 1882 rfl rfl
set_option maxRecDepth 100000 in
theorem ml_X12_376 : Cond.methodLink RX12 376 yX12_whySet ∈ m_tb := m_t1 1886 rfl rfl
set_option maxRecDepth 100000 in
theorem ml_X12_348 : Cond.methodLink RX12 348 yX12_rivals ∈ m_tb := m_t1 1890 rfl rfl
set_option maxRecDepth 100000 in
theorem ml_X12_351 : Cond.methodLink RX12 351 yX12_wrongPoints ∈ m_tb := m_t1 1894 rfl rfl
set_option maxRecDepth 100000 in
theorem ml_X12_354 : Cond.methodLink RX12 354 yX12_hasFull ∈ m_tb := m_t1 1898 rfl rfl
set_option maxRecDepth 100000 in
theorem ml_X12_379 : Cond.methodLink RX12 379 yX12_stores ∈ m_tb := m_t1 1902 rfl rfl
set_option maxRecDepth 100000 in
theorem ml_L_82 : Cond.methodLink RL 82 yX12_back ∈ m_tb := m_t1 1906 rfl rfl
set_option maxRecDepth 100000 in
theorem ml_X12_382 : Cond.methodLink RX12 382 yX12_putsBack ∈ m_tb := m_t1 1910 rfl rfl
set_option maxRecDepth 100000 in
theorem ml_X12_357 : Cond.methodLink RX12 357 yX12_isMet ∈ m_tb := m_t1 1914 rfl rfl
set_option maxRecDepth 100000 in
theorem ml_L_86 : Cond.methodLink RL 86 yX12_turn ∈ m_tb := m_t1 1918 rfl rfl
set_option maxRecDepth 100000 in
theorem ml_X12_385 : Cond.methodLink RX12 385 yX12_whyThrow ∈ m_tb := m_t1 1922 rfl rfl
set_option maxRecDepth 100000 in
theorem ml_L_90 : Cond.methodLink RL 90 yX12_fail ∈ m_tb := m_t1 1926 rfl rfl
set_option maxRecDepth 100000 in
theorem ml_L_94 : Cond.methodLink RL 94 yX12_mend ∈ m_tb := m_t1 1930 rfl rfl
set_option maxRecDepth 100000 in
theorem ml_L_98 : Cond.methodLink RL 98 yX12_ticks ∈ m_tb := m_t1 1934 rfl rfl
set_option maxRecDepth 100000 in
theorem ml_X12_388 : Cond.methodLink RX12 388 yX12_goesOn ∈ m_tb := m_t1 1938 rfl rfl
set_option maxRecDepth 100000 in
theorem ml_X12_373 : Cond.methodLink RX12 373 yX12_tick ∈ m_tb := m_t1 1942 rfl rfl
set_option maxRecDepth 100000 in
theorem ml_X12_370 : Cond.methodLink RX12 370 yX12_moves ∈ m_tb := m_t1 1946 rfl rfl
set_option maxRecDepth 100000 in
theorem ml_X12_363 : Cond.methodLink RX12 363 yX12_goesTo ∈ m_tb := m_t1 1950 rfl rfl
set_option maxRecDepth 100000 in
theorem ml_X12_360 : Cond.methodLink RX12 360 yX12_signalFor ∈ m_tb := m_t1 1954 rfl rfl
set_option maxRecDepth 100000 in
theorem ml_X12_366 : Cond.methodLink RX12 366 yX12_meets ∈ m_tb := m_t1 1958 rfl rfl
set_option maxRecDepth 100000 in
theorem ml_L_102 : Cond.methodLink RL 102 yX12_undo ∈ m_tb := m_t1 1962 rfl rfl
set_option maxRecDepth 100000 in
theorem ml_L_106 : Cond.methodLink RL 106 yX12_lacking ∈ m_tb := m_t1 1966 rfl rfl
set_option maxRecDepth 100000 in
theorem ml_X12_391 : Cond.methodLink RX12 391 yX12_isLacking ∈ m_tb := m_t1 1970 rfl rfl
set_option maxRecDepth 100000 in
theorem ml_L_110 : Cond.methodLink RL 110 yX12_lacks ∈ m_tb := m_t1 1974 rfl rfl
set_option maxRecDepth 100000 in
theorem ml_L_114 : Cond.methodLink RL 114 yX12_spare ∈ m_tb := m_t1 1978 rfl rfl
set_option maxRecDepth 100000 in
theorem ml_L_118 : Cond.methodLink RL 118 yX12_pulls ∈ m_tb := m_t1 1982 rfl rfl
set_option maxRecDepth 100000 in
theorem ml_L_122 : Cond.methodLink RL 122 yX12_pullsAt ∈ m_tb := m_t1 1986 rfl rfl
set_option maxRecDepth 100000 in
theorem ml_L_126 : Cond.methodLink RL 126 yX12_together ∈ m_tb := m_t1 1990 rfl rfl
set_option maxRecDepth 100000 in
theorem ml_X12_394 : Cond.methodLink RX12 394 yX12_bits ∈ m_tb := m_t1 1994 rfl rfl
set_option maxRecDepth 100000 in
theorem ml_X12_397 : Cond.methodLink RX12 397 yX12_areTogether ∈ m_tb := m_t1 1997 rfl rfl
set_option maxRecDepth 100000 in
theorem ml_L_130 : Cond.methodLink RL 130 yX12_those ∈ m_tb := m_t1 2001 rfl rfl
set_option maxRecDepth 100000 in
theorem ml_L_134 : Cond.methodLink RL 134 yX12_rounds ∈ m_tb := m_t1 2005 rfl rfl
set_option maxRecDepth 100000 in
theorem cl_X12_406 : Cond.constant RX12 406 (1000000) ∈ m_tb := m_t1 2009 rfl rfl
set_option maxRecDepth 100000 in
theorem ml_X12_407 : Cond.methodLink RX12 407 yX12_lesser ∈ m_tb := m_t1 2010 rfl rfl
set_option maxRecDepth 100000 in
theorem ml_L_138 : Cond.methodLink RL 138 yX12_path ∈ m_tb := m_t1 2013 rfl rfl
set_option maxRecDepth 100000 in
theorem ml_X12_419 : Cond.methodLink RX12 419 yX12_laysWants ∈ m_tb := m_t1 2017 rfl rfl
set_option maxRecDepth 100000 in
theorem ml_X12_413 : Cond.methodLink RX12 413 yX12_isFrom ∈ m_tb := m_t1 2021 rfl rfl
set_option maxRecDepth 100000 in
theorem ml_X12_416 : Cond.methodLink RX12 416 yX12_wantsBy ∈ m_tb := m_t1 2025 rfl rfl
set_option maxRecDepth 100000 in
theorem ml_X12_410 : Cond.methodLink RX12 410 yX12_endOf ∈ m_tb := m_t1 2029 rfl rfl
set_option maxRecDepth 100000 in
theorem ml_L_142 : Cond.methodLink RL 142 yX12_pathAt ∈ m_tb := m_t1 2033 rfl rfl
set_option maxRecDepth 100000 in
theorem ml_L_146 : Cond.methodLink RL 146 yX12_comes ∈ m_tb := m_t1 2037 rfl rfl
set_option maxRecDepth 100000 in
theorem ml_X12_422 : Cond.methodLink RX12 422 yX12_tries ∈ m_tb := m_t1 2041 rfl rfl
set_option maxRecDepth 100000 in
theorem ml_X12_425 : Cond.methodLink RX12 425 yX12_brings ∈ m_tb := m_t1 2045 rfl rfl
set_option maxRecDepth 100000 in
theorem ml_L_150 : Cond.methodLink RL 150 yX12_meet ∈ m_tb := m_t1 2049 rfl rfl
set_option maxRecDepth 100000 in
theorem ml_L_154 : Cond.methodLink RL 154 yX12_fits ∈ m_tb := m_t1 2053 rfl rfl
set_option maxRecDepth 100000 in
theorem ml_X12_428 : Cond.methodLink RX12 428 yX12_octet ∈ m_tb := m_t1 2057 rfl rfl
set_option maxRecDepth 100000 in
theorem ml_X12_437 : Cond.methodLink RX12 437 yX12_isFit ∈ m_tb := m_t1 2061 rfl rfl
set_option maxRecDepth 100000 in
theorem ml_X12_431 : Cond.methodLink RX12 431 yX12_showsAt ∈ m_tb := m_t1 2065 rfl rfl
set_option maxRecDepth 100000 in
theorem ml_X12_443 : Cond.methodLink RX12 443 yX12_leftBy ∈ m_tb := m_t1 2069 rfl rfl
set_option maxRecDepth 100000 in
theorem ml_X12_434 : Cond.methodLink RX12 434 yX12_greater ∈ m_tb := m_t1 2073 rfl rfl
set_option maxRecDepth 100000 in
theorem ml_L_158 : Cond.methodLink RL 158 yX12_fitsAt ∈ m_tb := m_t1 2076 rfl rfl
set_option maxRecDepth 100000 in
theorem ml_L_162 : Cond.methodLink RL 162 yX12_ask ∈ m_tb := m_t1 2080 rfl rfl
set_option maxRecDepth 100000 in
theorem ml_L_166 : Cond.methodLink RL 166 yX12_mean ∈ m_tb := m_t1 2084 rfl rfl
set_option maxRecDepth 100000 in
theorem ml_X12_446 : Cond.methodLink RX12 446 yX12_waitedInAll ∈ m_tb := m_t1 2088 rfl rfl
set_option maxRecDepth 100000 in
theorem ml_L_170 : Cond.methodLink RL 170 yX12_tag ∈ m_tb := m_t1 2092 rfl rfl
set_option maxRecDepth 100000 in
theorem ml_X12_457 : Cond.methodLink RX12 457 yX12_spells ∈ m_tb := m_t1 2096 rfl rfl
set_option maxRecDepth 100000 in
theorem cl_X12_452 : Cond.constantLong RX12 452 (255) ∈ m_tb := m_t1 2100 rfl rfl
set_option maxRecDepth 100000 in
theorem ml_X12_454 : Cond.methodLink RX12 454 yX12_lays ∈ m_tb := m_t1 2101 rfl rfl
set_option maxRecDepth 100000 in
theorem ml_X12_461 : Cond.methodLink RX12 461 yX12_says ∈ m_tb := m_t1 2105 rfl rfl
set_option maxRecDepth 100000 in
theorem cl_X12_464 : Cond.constantLong RX12 464 (512735409267) ∈ m_tb := m_t1 2109 rfl rfl
set_option maxRecDepth 100000 in
theorem ml_L_174 : Cond.methodLink RL 174 yX12_byteAt ∈ m_tb := m_t1 2110 rfl rfl
set_option maxRecDepth 100000 in
theorem ml_L_178 : Cond.methodLink RL 178 yX12_drawn ∈ m_tb := m_t1 2114 rfl rfl
set_option maxRecDepth 100000 in
theorem ml_X12_476 : Cond.methodLink RX12 476 yX12_draws ∈ m_tb := m_t1 2118 rfl rfl
set_option maxRecDepth 100000 in
theorem ml_X12_473 : Cond.methodLink RX12 473 yX12_drawTick ∈ m_tb := m_t1 2122 rfl rfl
set_option maxRecDepth 100000 in
theorem ml_X12_470 : Cond.methodLink RX12 470 yX12_draw ∈ m_tb := m_t1 2126 rfl rfl
set_option maxRecDepth 100000 in
theorem cl_X12_469 : Cond.constant RX12 469 (1103515245) ∈ m_tb := m_t1 2130 rfl rfl
set_option maxRecDepth 100000 in
theorem ml_L_182 : Cond.methodLink RL 182 yX12_odds ∈ m_tb := m_t1 2131 rfl rfl
set_option maxRecDepth 100000 in
theorem ml_L_186 : Cond.methodLink RL 186 yX12_book ∈ m_tb := m_t1 2135 rfl rfl
set_option maxRecDepth 100000 in
theorem ml_X12_482 : Cond.methodLink RX12 482 yX12_bookLine ∈ m_tb := m_t1 2139 rfl rfl
set_option maxRecDepth 100000 in
theorem ml_X12_485 : Cond.methodLink RX12 485 yX12_does ∈ m_tb := m_t1 2143 rfl rfl
set_option maxRecDepth 100000 in
theorem ml_L_190 : Cond.methodLink RL 190 yX12_told ∈ m_tb := m_t1 2147 rfl rfl
set_option maxRecDepth 100000 in
theorem ml_L_194 : Cond.methodLink RL 194 yX12_sentence ∈ m_tb := m_t1 2151 rfl rfl
set_option maxRecDepth 100000 in
theorem ml_X12_514 : Cond.methodLink RX12 514 yX12_nots ∈ m_tb := m_t1 2155 rfl rfl
set_option maxRecDepth 100000 in
theorem ml_X12_498 : Cond.methodLink RX12 498 yX12_code ∈ m_tb := m_t1 2159 rfl rfl
set_option maxRecDepth 100000 in
theorem ml_X12_517 : Cond.methodLink RX12 517 yX12_joins ∈ m_tb := m_t1 2163 rfl rfl
set_option maxRecDepth 100000 in
theorem ml_X12_520 : Cond.methodLink RX12 520 yX12_behind ∈ m_tb := m_t1 2167 rfl rfl
set_option maxRecDepth 100000 in
theorem ml_X12_523 : Cond.methodLink RX12 523 yX12_operand ∈ m_tb := m_t1 2171 rfl rfl
set_option maxRecDepth 100000 in
theorem ml_X12_505 : Cond.methodLink RX12 505 yX12_leafOf ∈ m_tb := m_t1 2175 rfl rfl
set_option maxRecDepth 100000 in
theorem ml_L_198 : Cond.methodLink RL 198 yX12_said ∈ m_tb := m_t1 2179 rfl rfl
set_option maxRecDepth 100000 in
theorem ml_X12_530 : Cond.methodLink RX12 530 yX12_isSaid ∈ m_tb := m_t1 2183 rfl rfl
set_option maxRecDepth 100000 in
theorem ml_X12_526 : Cond.methodLink RX12 526 yX12_isLeaf ∈ m_tb := m_t1 2187 rfl rfl
set_option maxRecDepth 100000 in
theorem ml_L_202 : Cond.methodLink RL 202 yX12_image ∈ m_tb := m_t1 2191 rfl rfl
set_option maxRecDepth 100000 in
theorem ml_L_206 : Cond.methodLink RL 206 yX12_restore ∈ m_tb := m_t1 2195 rfl rfl
set_option maxRecDepth 100000 in
theorem ml_L_210 : Cond.methodLink RL 210 yX12_count ∈ m_tb := m_t1 2199 rfl rfl
set_option maxRecDepth 100000 in
theorem in_L : Cond.initialized RL ∈ m_tb := m_t1 0 rfl rfl
set_option maxRecDepth 100000 in
theorem in_X11 : Cond.initialized RX11 ∈ m_tb := m_t1 1 rfl rfl
set_option maxRecDepth 100000 in
theorem in_X10 : Cond.initialized RX10 ∈ m_tb := m_t1 2 rfl rfl
set_option maxRecDepth 100000 in
theorem in_J0 : Cond.initialized RJ0 ∈ m_tb := m_t1 3 rfl rfl
set_option maxRecDepth 100000 in
theorem in_J1 : Cond.initialized RJ1 ∈ m_tb := m_t1 4 rfl rfl
set_option maxRecDepth 100000 in
theorem in_J3 : Cond.initialized RJ3 ∈ m_tb := m_t1 5 rfl rfl
set_option maxRecDepth 100000 in
theorem in_J2 : Cond.initialized RJ2 ∈ m_tb := m_t1 6 rfl rfl
set_option maxRecDepth 100000 in
theorem in_X5 : Cond.initialized RX5 ∈ m_tb := m_t1 7 rfl rfl
set_option maxRecDepth 100000 in
theorem in_X6 : Cond.initialized RX6 ∈ m_tb := m_t1 8 rfl rfl
set_option maxRecDepth 100000 in
theorem in_X8 : Cond.initialized RX8 ∈ m_tb := m_t1 9 rfl rfl
set_option maxRecDepth 100000 in
theorem in_X3 : Cond.initialized RX3 ∈ m_tb := m_t1 10 rfl rfl
set_option maxRecDepth 100000 in
theorem in_X0 : Cond.initialized RX0 ∈ m_tb := m_t1 11 rfl rfl
set_option maxRecDepth 100000 in
theorem in_X7 : Cond.initialized RX7 ∈ m_tb := m_t1 12 rfl rfl
set_option maxRecDepth 100000 in
theorem in_X1 : Cond.initialized RX1 ∈ m_tb := m_t1 13 rfl rfl
set_option maxRecDepth 100000 in
theorem in_X2 : Cond.initialized RX2 ∈ m_tb := m_t1 14 rfl rfl
set_option maxRecDepth 100000 in
theorem in_X9 : Cond.initialized RX9 ∈ m_tb := m_t1 15 rfl rfl
set_option maxRecDepth 100000 in
theorem in_X4 : Cond.initialized RX4 ∈ m_tb := m_t1 16 rfl rfl
set_option maxRecDepth 100000 in
theorem in_X12 : Cond.initialized RX12 ∈ m_tb := m_t1 17 rfl rfl
set_option maxRecDepth 100000 in
theorem in_J7 : Cond.initialized RJ7 ∈ m_tb := m_t1 18 rfl rfl
set_option maxRecDepth 100000 in
theorem in_J9 : Cond.initialized RJ9 ∈ m_tb := m_t1 19 rfl rfl
set_option maxRecDepth 100000 in
theorem in_J10 : Cond.initialized RJ10 ∈ m_tb := m_t1 20 rfl rfl
set_option maxRecDepth 100000 in
theorem in_J6 : Cond.initialized RJ6 ∈ m_tb := m_t1 25 rfl rfl
set_option maxRecDepth 100000 in
theorem in_System : Cond.initialized "java/lang/System" ∈ m_tb := m_t1 20 rfl rfl
set_option maxRecDepth 100000 in
theorem sl_acopy : Cond.static arraycopyName ∈ m_tb := m_t1 771 rfl rfl
set_option maxRecDepth 100000 in
theorem iml_obj : Cond.instanceMethod Lib.objectInit ∈ m_tb := m_t1 32 rfl rfl
set_option maxRecDepth 100000 in
theorem col_obj : Cond.code Lib.objectInit ⟨#[0xb1]⟩ 1 none ∈ m_tb := m_t1 33 rfl rfl
set_option maxRecDepth 100000 in
theorem mY_X0_init : m_Y yX0_init cX0_init 1 none 0 ∧ yX0_init.name = "<init>" ∧ Cond.instanceMethod yX0_init ∈ m_tb := ⟨⟨m_t1 381 rfl rfl, m_t1 11 rfl rfl, ⟨by decide +kernel, by decide +kernel, by decide +kernel⟩, by decide⟩, rfl, m_t1 380 rfl rfl⟩
set_option maxRecDepth 100000 in
theorem mY_X0_readLines : m_YV yX0_readLines cX0_readLines 3 (some .boolean) 2 0 := ⟨⟨m_t1 1241 rfl rfl, m_t1 11 rfl rfl, ⟨by decide +kernel, by decide +kernel, by decide +kernel⟩, by decide⟩, m_t1 1239 rfl rfl, m_t1 1240 rfl rfl, rfl, by decide⟩
set_option maxRecDepth 100000 in
theorem mY_X0_readLine : m_YV yX0_readLine cX0_readLine 6 (some .boolean) 2 0 := ⟨⟨m_t1 1247 rfl rfl, m_t1 11 rfl rfl, ⟨by decide +kernel, by decide +kernel, by decide +kernel⟩, by decide⟩, m_t1 1246 rfl rfl, m_t2 45 9 rfl, rfl, by decide⟩
set_option maxRecDepth 100000 in
theorem mY_X0_isAct : m_Y yX0_isAct cX0_isAct 1 (some .boolean) 1 ∧ Cond.static yX0_isAct ∈ m_tb := ⟨⟨m_t1 1250 rfl rfl, m_t1 11 rfl rfl, ⟨by decide +kernel, by decide +kernel, by decide +kernel⟩, by decide⟩, m_t1 1249 rfl rfl⟩
set_option maxRecDepth 100000 in
theorem mY_X0_judge : m_YV yX0_judge cX0_judge 2 (some .int) 1 0 := ⟨⟨m_t1 1260 rfl rfl, m_t1 11 rfl rfl, ⟨by decide +kernel, by decide +kernel, by decide +kernel⟩, by decide⟩, m_t1 1258 rfl rfl, m_t1 1259 rfl rfl, rfl, by decide⟩
set_option maxRecDepth 100000 in
theorem mY_X0_liveLine : m_YV yX0_liveLine cX0_liveLine 4 (some .int) 2 0 := ⟨⟨m_t1 1264 rfl rfl, m_t1 11 rfl rfl, ⟨by decide +kernel, by decide +kernel, by decide +kernel⟩, by decide⟩, m_t1 1263 rfl rfl, m_t2 46 9 rfl, rfl, by decide⟩
set_option maxRecDepth 100000 in
theorem mY_X0_tensOf : m_Y yX0_tensOf cX0_tensOf 1 (some .int) 1 ∧ Cond.static yX0_tensOf ∈ m_tb := ⟨⟨m_t1 1269 rfl rfl, m_t1 11 rfl rfl, ⟨by decide +kernel, by decide +kernel, by decide +kernel⟩, by decide⟩, m_t1 1268 rfl rfl⟩
set_option maxRecDepth 100000 in
theorem mY_X0_tellJudgement : m_YV yX0_tellJudgement cX0_tellJudgement 2 (some .int) 1 0 := ⟨⟨m_t1 1278 rfl rfl, m_t1 11 rfl rfl, ⟨by decide +kernel, by decide +kernel, by decide +kernel⟩, by decide⟩, m_t1 1276 rfl rfl, m_t1 1277 rfl rfl, rfl, by decide⟩
set_option maxRecDepth 100000 in
theorem mY_X1_init : m_Y yX1_init cX1_init 1 none 0 ∧ yX1_init.name = "<init>" ∧ Cond.instanceMethod yX1_init ∈ m_tb := ⟨⟨m_t1 448 rfl rfl, m_t1 13 rfl rfl, ⟨by decide +kernel, by decide +kernel, by decide +kernel⟩, by decide⟩, rfl, m_t1 447 rfl rfl⟩
set_option maxRecDepth 100000 in
theorem mY_X1_workOutPulls : m_YV yX1_workOutPulls cX1_workOutPulls 8 (some .int) 3 1 := ⟨⟨m_t1 1032 rfl rfl, m_t1 13 rfl rfl, ⟨by decide +kernel, by decide +kernel, by decide +kernel⟩, by decide⟩, m_t1 1030 rfl rfl, m_t1 1031 rfl rfl, rfl, by decide⟩
set_option maxRecDepth 100000 in
theorem mY_X1_addPulls : m_YV yX1_addPulls cX1_addPulls 5 none 3 1 := ⟨⟨m_t1 1046 rfl rfl, m_t1 13 rfl rfl, ⟨by decide +kernel, by decide +kernel, by decide +kernel⟩, by decide⟩, m_t1 1045 rfl rfl, m_t2 32 6 rfl, rfl, by decide⟩
set_option maxRecDepth 100000 in
theorem mY_X1_pullAt : m_YV yX1_pullAt cX1_pullAt 2 (some .int) 1 1 := ⟨⟨m_t1 1054 rfl rfl, m_t1 13 rfl rfl, ⟨by decide +kernel, by decide +kernel, by decide +kernel⟩, by decide⟩, m_t1 1052 rfl rfl, m_t1 1053 rfl rfl, rfl, by decide⟩
set_option maxRecDepth 100000 in
theorem mY_X1_workOutPath : m_YV yX1_workOutPath cX1_workOutPath 7 (some .int) 4 1 := ⟨⟨m_t1 1092 rfl rfl, m_t1 13 rfl rfl, ⟨by decide +kernel, by decide +kernel, by decide +kernel⟩, by decide⟩, m_t1 1090 rfl rfl, m_t1 1091 rfl rfl, rfl, by decide⟩
set_option maxRecDepth 100000 in
theorem mY_X1_costOf : m_YV yX1_costOf cX1_costOf 4 (some .int) 3 1 := ⟨⟨m_t1 1100 rfl rfl, m_t1 13 rfl rfl, ⟨by decide +kernel, by decide +kernel, by decide +kernel⟩, by decide⟩, m_t1 1099 rfl rfl, m_t2 36 6 rfl, rfl, by decide⟩
set_option maxRecDepth 100000 in
theorem mY_X1_measure : m_YV yX1_measure cX1_measure 8 none 3 1 := ⟨⟨m_t1 1096 rfl rfl, m_t1 13 rfl rfl, ⟨by decide +kernel, by decide +kernel, by decide +kernel⟩, by decide⟩, m_t1 1095 rfl rfl, m_t2 35 6 rfl, rfl, by decide⟩
set_option maxRecDepth 100000 in
theorem mY_X1_walk : m_YV yX1_walk cX1_walk 8 none 4 1 := ⟨⟨m_t1 1106 rfl rfl, m_t1 13 rfl rfl, ⟨by decide +kernel, by decide +kernel, by decide +kernel⟩, by decide⟩, m_t1 1105 rfl rfl, m_t2 37 6 rfl, rfl, by decide⟩
set_option maxRecDepth 100000 in
theorem mY_X1_leastStep : m_YV yX1_leastStep cX1_leastStep 7 (some .int) 4 1 := ⟨⟨m_t1 1110 rfl rfl, m_t1 13 rfl rfl, ⟨by decide +kernel, by decide +kernel, by decide +kernel⟩, by decide⟩, m_t1 1109 rfl rfl, m_t2 38 6 rfl, rfl, by decide⟩
set_option maxRecDepth 100000 in
theorem mY_X1_stepAt : m_YV yX1_stepAt cX1_stepAt 2 (some .int) 1 1 := ⟨⟨m_t1 1119 rfl rfl, m_t1 13 rfl rfl, ⟨by decide +kernel, by decide +kernel, by decide +kernel⟩, by decide⟩, m_t1 1117 rfl rfl, m_t1 1118 rfl rfl, rfl, by decide⟩
set_option maxRecDepth 100000 in
theorem mY_X1_countRounds : m_YV yX1_countRounds cX1_countRounds 2 (some .int) 1 1 := ⟨⟨m_t1 1079 rfl rfl, m_t1 13 rfl rfl, ⟨by decide +kernel, by decide +kernel, by decide +kernel⟩, by decide⟩, m_t1 1077 rfl rfl, m_t1 1078 rfl rfl, rfl, by decide⟩
set_option maxRecDepth 100000 in
theorem mY_X1_placeRoute : m_YV yX1_placeRoute cX1_placeRoute 7 (some .int) 4 1 := ⟨⟨m_t1 1084 rfl rfl, m_t1 13 rfl rfl, ⟨by decide +kernel, by decide +kernel, by decide +kernel⟩, by decide⟩, m_t1 1083 rfl rfl, m_t2 34 6 rfl, rfl, by decide⟩
set_option maxRecDepth 100000 in
theorem mY_X2_init : m_Y yX2_init cX2_init 1 none 0 ∧ yX2_init.name = "<init>" ∧ Cond.instanceMethod yX2_init ∈ m_tb := ⟨⟨m_t1 473 rfl rfl, m_t1 14 rfl rfl, ⟨by decide +kernel, by decide +kernel, by decide +kernel⟩, by decide⟩, rfl, m_t1 472 rfl rfl⟩
set_option maxRecDepth 100000 in
theorem mY_X2_workOut : m_YV yX2_workOut cX2_workOut 7 (some .int) 3 2 := ⟨⟨m_t1 1138 rfl rfl, m_t1 14 rfl rfl, ⟨by decide +kernel, by decide +kernel, by decide +kernel⟩, by decide⟩, m_t1 1136 rfl rfl, m_t1 1137 rfl rfl, rfl, by decide⟩
set_option maxRecDepth 100000 in
theorem mY_X2_isReport : m_Y yX2_isReport cX2_isReport 3 (some .boolean) 2 ∧ Cond.static yX2_isReport ∈ m_tb := ⟨⟨m_t1 1141 rfl rfl, m_t1 14 rfl rfl, ⟨by decide +kernel, by decide +kernel, by decide +kernel⟩, by decide⟩, m_t1 1140 rfl rfl⟩
set_option maxRecDepth 100000 in
theorem mY_X2_keepFailures : m_YV yX2_keepFailures cX2_keepFailures 5 none 3 2 := ⟨⟨m_t1 1152 rfl rfl, m_t1 14 rfl rfl, ⟨by decide +kernel, by decide +kernel, by decide +kernel⟩, by decide⟩, m_t1 1151 rfl rfl, m_t2 39 3 rfl, rfl, by decide⟩
set_option maxRecDepth 100000 in
theorem mY_X2_explains : m_Y yX2_explains cX2_explains 5 (some .boolean) 4 ∧ Cond.static yX2_explains ∈ m_tb := ⟨⟨m_t1 1145 rfl rfl, m_t1 14 rfl rfl, ⟨by decide +kernel, by decide +kernel, by decide +kernel⟩, by decide⟩, m_t1 1144 rfl rfl⟩
set_option maxRecDepth 100000 in
theorem mY_X2_shownBy : m_Y yX2_shownBy cX2_shownBy 4 (some .int) 4 ∧ Cond.static yX2_shownBy ∈ m_tb := ⟨⟨m_t1 1148 rfl rfl, m_t1 14 rfl rfl, ⟨by decide +kernel, by decide +kernel, by decide +kernel⟩, by decide⟩, m_t1 1147 rfl rfl⟩
set_option maxRecDepth 100000 in
theorem mY_X2_bestLook : m_YV yX2_bestLook cX2_bestLook 8 (some .int) 2 2 := ⟨⟨m_t1 1156 rfl rfl, m_t1 14 rfl rfl, ⟨by decide +kernel, by decide +kernel, by decide +kernel⟩, by decide⟩, m_t1 1155 rfl rfl, m_t2 40 3 rfl, rfl, by decide⟩
set_option maxRecDepth 100000 in
theorem mY_X2_failureAt : m_YV yX2_failureAt cX2_failureAt 2 (some .int) 1 2 := ⟨⟨m_t1 1167 rfl rfl, m_t1 14 rfl rfl, ⟨by decide +kernel, by decide +kernel, by decide +kernel⟩, by decide⟩, m_t1 1165 rfl rfl, m_t1 1166 rfl rfl, rfl, by decide⟩
set_option maxRecDepth 100000 in
theorem mY_X3_init : m_Y yX3_init cX3_init 3 none 1 ∧ yX3_init.name = "<init>" ∧ Cond.instanceMethod yX3_init ∈ m_tb := ⟨⟨m_t1 364 rfl rfl, m_t1 10 rfl rfl, ⟨by decide +kernel, by decide +kernel, by decide +kernel⟩, by decide⟩, rfl, m_t1 363 rfl rfl⟩
set_option maxRecDepth 100000 in
theorem mY_X3_note : m_YV yX3_note cX3_note 2 none 1 3 := ⟨⟨m_t1 871 rfl rfl, m_t1 10 rfl rfl, ⟨by decide +kernel, by decide +kernel, by decide +kernel⟩, by decide⟩, m_t1 869 rfl rfl, m_t1 870 rfl rfl, rfl, by decide⟩
set_option maxRecDepth 100000 in
theorem mY_X3_keepNoted : m_YV yX3_keepNoted cX3_keepNoted 3 none 0 3 := ⟨⟨m_t1 924 rfl rfl, m_t1 10 rfl rfl, ⟨by decide +kernel, by decide +kernel, by decide +kernel⟩, by decide⟩, m_t1 922 rfl rfl, m_t1 923 rfl rfl, rfl, by decide⟩
set_option maxRecDepth 100000 in
theorem mY_X3_takeBack : m_YV yX3_takeBack cX3_takeBack 2 (some .int) 1 3 := ⟨⟨m_t1 989 rfl rfl, m_t1 10 rfl rfl, ⟨by decide +kernel, by decide +kernel, by decide +kernel⟩, by decide⟩, m_t1 987 rfl rfl, m_t1 988 rfl rfl, rfl, by decide⟩
set_option maxRecDepth 100000 in
theorem mY_X4_init : m_Y yX4_init cX4_init 2 none 1 ∧ yX4_init.name = "<init>" ∧ Cond.instanceMethod yX4_init ∈ m_tb := ⟨⟨m_t1 503 rfl rfl, m_t1 16 rfl rfl, ⟨by decide +kernel, by decide +kernel, by decide +kernel⟩, by decide⟩, rfl, m_t1 502 rfl rfl⟩
set_option maxRecDepth 100000 in
theorem mY_X4_keep : m_YV yX4_keep cX4_keep 4 none 3 4 := ⟨⟨m_t1 1351 rfl rfl, m_t1 16 rfl rfl, ⟨by decide +kernel, by decide +kernel, by decide +kernel⟩, by decide⟩, m_t1 1349 rfl rfl, m_t1 1350 rfl rfl, rfl, by decide⟩
set_option maxRecDepth 100000 in
theorem mY_X4_giveBack : m_YV yX4_giveBack cX4_giveBack 4 none 3 4 := ⟨⟨m_t1 1362 rfl rfl, m_t1 16 rfl rfl, ⟨by decide +kernel, by decide +kernel, by decide +kernel⟩, by decide⟩, m_t1 1360 rfl rfl, m_t1 1361 rfl rfl, rfl, by decide⟩
set_option maxRecDepth 100000 in
theorem mY_X5_init : m_Y yX5_init cX5_init 1 none 0 ∧ yX5_init.name = "<init>" ∧ Cond.instanceMethod yX5_init ∈ m_tb := ⟨⟨m_t1 150 rfl rfl, m_t1 7 rfl rfl, ⟨by decide +kernel, by decide +kernel, by decide +kernel⟩, by decide⟩, rfl, m_t1 149 rfl rfl⟩
set_option maxRecDepth 100000 in
theorem mY_X5_empty : m_YV yX5_empty cX5_empty 1 none 0 5 := ⟨⟨m_t1 598 rfl rfl, m_t1 7 rfl rfl, ⟨by decide +kernel, by decide +kernel, by decide +kernel⟩, by decide⟩, m_t1 596 rfl rfl, m_t1 597 rfl rfl, rfl, by decide⟩
set_option maxRecDepth 100000 in
theorem mY_X5_copyFrom : m_YV yX5_copyFrom cX5_copyFrom 2 none 1 5 := ⟨⟨m_t1 765 rfl rfl, m_t1 7 rfl rfl, ⟨by decide +kernel, by decide +kernel, by decide +kernel⟩, by decide⟩, m_t1 763 rfl rfl, m_t1 764 rfl rfl, rfl, by decide⟩
set_option maxRecDepth 100000 in
theorem mY_X5_has : m_YV yX5_has cX5_has 3 (some .boolean) 2 5 := ⟨⟨m_t1 791 rfl rfl, m_t1 7 rfl rfl, ⟨by decide +kernel, by decide +kernel, by decide +kernel⟩, by decide⟩, m_t1 789 rfl rfl, m_t1 790 rfl rfl, rfl, by decide⟩
set_option maxRecDepth 100000 in
theorem mY_X5_nameOf : m_YV yX5_nameOf cX5_nameOf 3 (some .long) 2 5 := ⟨⟨m_t1 1183 rfl rfl, m_t1 7 rfl rfl, ⟨by decide +kernel, by decide +kernel, by decide +kernel⟩, by decide⟩, m_t1 1181 rfl rfl, m_t1 1182 rfl rfl, rfl, by decide⟩
set_option maxRecDepth 100000 in
theorem mY_X5_addOne : m_YV yX5_addOne cX5_addOne 5 (some .int) 2 5 := ⟨⟨m_t1 659 rfl rfl, m_t1 7 rfl rfl, ⟨by decide +kernel, by decide +kernel, by decide +kernel⟩, by decide⟩, m_t1 657 rfl rfl, m_t1 658 rfl rfl, rfl, by decide⟩
set_option maxRecDepth 100000 in
theorem mY_X5_find : m_YV yX5_find cX5_find 5 (some .int) 2 5 := ⟨⟨m_t1 651 rfl rfl, m_t1 7 rfl rfl, ⟨by decide +kernel, by decide +kernel, by decide +kernel⟩, by decide⟩, m_t1 649 rfl rfl, m_t1 650 rfl rfl, rfl, by decide⟩
set_option maxRecDepth 100000 in
theorem mY_X5_knows : m_YV yX5_knows cX5_knows 3 (some .boolean) 1 5 := ⟨⟨m_t1 647 rfl rfl, m_t1 7 rfl rfl, ⟨by decide +kernel, by decide +kernel, by decide +kernel⟩, by decide⟩, m_t1 645 rfl rfl, m_t1 646 rfl rfl, rfl, by decide⟩
set_option maxRecDepth 100000 in
theorem mY_X5_trackBetween : m_YV yX5_trackBetween cX5_trackBetween 4 (some .int) 2 5 := ⟨⟨m_t1 683 rfl rfl, m_t1 7 rfl rfl, ⟨by decide +kernel, by decide +kernel, by decide +kernel⟩, by decide⟩, m_t1 681 rfl rfl, m_t1 682 rfl rfl, rfl, by decide⟩
set_option maxRecDepth 100000 in
theorem mY_X5_leadsTo : m_YV yX5_leadsTo cX5_leadsTo 6 (some .int) 3 5 := ⟨⟨m_t1 744 rfl rfl, m_t1 7 rfl rfl, ⟨by decide +kernel, by decide +kernel, by decide +kernel⟩, by decide⟩, m_t1 742 rfl rfl, m_t1 743 rfl rfl, rfl, by decide⟩
set_option maxRecDepth 100000 in
theorem mY_X5_signalAt : m_YV yX5_signalAt cX5_signalAt 4 (some .int) 2 5 := ⟨⟨m_t1 708 rfl rfl, m_t1 7 rfl rfl, ⟨by decide +kernel, by decide +kernel, by decide +kernel⟩, by decide⟩, m_t1 706 rfl rfl, m_t1 707 rfl rfl, rfl, by decide⟩
set_option maxRecDepth 100000 in
theorem mY_X5_sectionOf : m_YV yX5_sectionOf cX5_sectionOf 3 (some .int) 2 5 := ⟨⟨m_t1 740 rfl rfl, m_t1 7 rfl rfl, ⟨by decide +kernel, by decide +kernel, by decide +kernel⟩, by decide⟩, m_t1 738 rfl rfl, m_t1 739 rfl rfl, rfl, by decide⟩
set_option maxRecDepth 100000 in
theorem mY_X5_endOf : m_YV yX5_endOf cX5_endOf 3 (some .int) 1 5 := ⟨⟨m_t1 736 rfl rfl, m_t1 7 rfl rfl, ⟨by decide +kernel, by decide +kernel, by decide +kernel⟩, by decide⟩, m_t1 734 rfl rfl, m_t1 735 rfl rfl, rfl, by decide⟩
set_option maxRecDepth 100000 in
theorem mY_X5_routesOf : m_YV yX5_routesOf cX5_routesOf 4 (some .int) 1 5 := ⟨⟨m_t1 835 rfl rfl, m_t1 7 rfl rfl, ⟨by decide +kernel, by decide +kernel, by decide +kernel⟩, by decide⟩, m_t1 833 rfl rfl, m_t1 834 rfl rfl, rfl, by decide⟩
set_option maxRecDepth 100000 in
theorem mY_X5_routesWith : m_YV yX5_routesWith cX5_routesWith 4 (some .int) 1 5 := ⟨⟨m_t1 811 rfl rfl, m_t1 7 rfl rfl, ⟨by decide +kernel, by decide +kernel, by decide +kernel⟩, by decide⟩, m_t1 809 rfl rfl, m_t1 810 rfl rfl, rfl, by decide⟩
set_option maxRecDepth 100000 in
theorem mY_X5_routesNeeding : m_YV yX5_routesNeeding cX5_routesNeeding 6 (some .int) 2 5 := ⟨⟨m_t1 823 rfl rfl, m_t1 7 rfl rfl, ⟨by decide +kernel, by decide +kernel, by decide +kernel⟩, by decide⟩, m_t1 821 rfl rfl, m_t1 822 rfl rfl, rfl, by decide⟩
set_option maxRecDepth 100000 in
theorem mY_X5_pointsWithin : m_YV yX5_pointsWithin cX5_pointsWithin 4 (some .int) 1 5 := ⟨⟨m_t1 815 rfl rfl, m_t1 7 rfl rfl, ⟨by decide +kernel, by decide +kernel, by decide +kernel⟩, by decide⟩, m_t1 813 rfl rfl, m_t1 814 rfl rfl, rfl, by decide⟩
set_option maxRecDepth 100000 in
theorem mY_X5_workOutClashes : m_YV yX5_workOutClashes cX5_workOutClashes 3 none 0 5 := ⟨⟨m_t1 757 rfl rfl, m_t1 7 rfl rfl, ⟨by decide +kernel, by decide +kernel, by decide +kernel⟩, by decide⟩, m_t1 755 rfl rfl, m_t1 756 rfl rfl, rfl, by decide⟩
set_option maxRecDepth 100000 in
theorem mY_X5_conflict : m_YV yX5_conflict cX5_conflict 3 (some .boolean) 2 5 := ⟨⟨m_t1 761 rfl rfl, m_t1 7 rfl rfl, ⟨by decide +kernel, by decide +kernel, by decide +kernel⟩, by decide⟩, m_t1 760 rfl rfl, m_t2 16 20 rfl, rfl, by decide⟩
set_option maxRecDepth 100000 in
theorem mY_X5_lackingBehind : m_YV yX5_lackingBehind cX5_lackingBehind 3 (some .int) 1 5 := ⟨⟨m_t1 1001 rfl rfl, m_t1 7 rfl rfl, ⟨by decide +kernel, by decide +kernel, by decide +kernel⟩, by decide⟩, m_t1 1000 rfl rfl, m_t2 31 20 rfl, rfl, by decide⟩
set_option maxRecDepth 100000 in
theorem mY_X5_countLacking : m_YV yX5_countLacking cX5_countLacking 3 (some .int) 0 5 := ⟨⟨m_t1 997 rfl rfl, m_t1 7 rfl rfl, ⟨by decide +kernel, by decide +kernel, by decide +kernel⟩, by decide⟩, m_t1 995 rfl rfl, m_t1 996 rfl rfl, rfl, by decide⟩
set_option maxRecDepth 100000 in
theorem mY_X5_lackingAt : m_YV yX5_lackingAt cX5_lackingAt 6 (some .int) 1 5 := ⟨⟨m_t1 1016 rfl rfl, m_t1 7 rfl rfl, ⟨by decide +kernel, by decide +kernel, by decide +kernel⟩, by decide⟩, m_t1 1014 rfl rfl, m_t1 1015 rfl rfl, rfl, by decide⟩
set_option maxRecDepth 100000 in
theorem mY_X5_countSpare : m_YV yX5_countSpare cX5_countSpare 3 (some .int) 0 5 := ⟨⟨m_t1 1024 rfl rfl, m_t1 7 rfl rfl, ⟨by decide +kernel, by decide +kernel, by decide +kernel⟩, by decide⟩, m_t1 1022 rfl rfl, m_t1 1023 rfl rfl, rfl, by decide⟩
set_option maxRecDepth 100000 in
theorem mY_X5_mostTogether : m_YV yX5_mostTogether cX5_mostTogether 3 (some .int) 0 5 := ⟨⟨m_t1 1062 rfl rfl, m_t1 7 rfl rfl, ⟨by decide +kernel, by decide +kernel, by decide +kernel⟩, by decide⟩, m_t1 1060 rfl rfl, m_t1 1061 rfl rfl, rfl, by decide⟩
set_option maxRecDepth 100000 in
theorem mY_X5_isPeaceful : m_YV yX5_isPeaceful cX5_isPeaceful 3 (some .boolean) 1 5 := ⟨⟨m_t1 1066 rfl rfl, m_t1 7 rfl rfl, ⟨by decide +kernel, by decide +kernel, by decide +kernel⟩, by decide⟩, m_t1 1065 rfl rfl, m_t2 33 20 rfl, rfl, by decide⟩
set_option maxRecDepth 100000 in
theorem mY_X6_init : m_Y yX6_init cX6_init 1 none 0 ∧ yX6_init.name = "<init>" ∧ Cond.instanceMethod yX6_init ∈ m_tb := ⟨⟨m_t1 273 rfl rfl, m_t1 8 rfl rfl, ⟨by decide +kernel, by decide +kernel, by decide +kernel⟩, by decide⟩, rfl, m_t1 272 rfl rfl⟩
set_option maxRecDepth 100000 in
theorem mY_X6_readPlan : m_YV yX6_readPlan cX6_readPlan 2 (some .boolean) 1 6 := ⟨⟨m_t1 590 rfl rfl, m_t1 8 rfl rfl, ⟨by decide +kernel, by decide +kernel, by decide +kernel⟩, by decide⟩, m_t1 588 rfl rfl, m_t1 589 rfl rfl, rfl, by decide⟩
set_option maxRecDepth 100000 in
theorem mY_X6_readLine : m_YV yX6_readLine cX6_readLine 2 (some .boolean) 1 6 := ⟨⟨m_t1 625 rfl rfl, m_t1 8 rfl rfl, ⟨by decide +kernel, by decide +kernel, by decide +kernel⟩, by decide⟩, m_t1 624 rfl rfl, m_t2 1 3 rfl, rfl, by decide⟩
set_option maxRecDepth 100000 in
theorem mY_X6_hasRoom : m_YV yX6_hasRoom cX6_hasRoom 4 (some .boolean) 3 6 := ⟨⟨m_t1 633 rfl rfl, m_t1 8 rfl rfl, ⟨by decide +kernel, by decide +kernel, by decide +kernel⟩, by decide⟩, m_t1 632 rfl rfl, m_t2 3 3 rfl, rfl, by decide⟩
set_option maxRecDepth 100000 in
theorem mY_X6_goOn : m_Y yX6_goOn cX6_goOn 1 (some .boolean) 1 ∧ Cond.static yX6_goOn ∈ m_tb := ⟨⟨m_t1 662 rfl rfl, m_t1 8 rfl rfl, ⟨by decide +kernel, by decide +kernel, by decide +kernel⟩, by decide⟩, m_t1 661 rfl rfl⟩
set_option maxRecDepth 100000 in
theorem mY_X6_readSection : m_YV yX6_readSection cX6_readSection 5 (some .boolean) 1 6 := ⟨⟨m_t1 629 rfl rfl, m_t1 8 rfl rfl, ⟨by decide +kernel, by decide +kernel, by decide +kernel⟩, by decide⟩, m_t1 628 rfl rfl, m_t2 2 3 rfl, rfl, by decide⟩
set_option maxRecDepth 100000 in
theorem mY_X6_readPoints : m_YV yX6_readPoints cX6_readPoints 5 (some .boolean) 1 6 := ⟨⟨m_t1 666 rfl rfl, m_t1 8 rfl rfl, ⟨by decide +kernel, by decide +kernel, by decide +kernel⟩, by decide⟩, m_t1 665 rfl rfl, m_t2 4 3 rfl, rfl, by decide⟩
set_option maxRecDepth 100000 in
theorem mY_X6_readTrack : m_YV yX6_readTrack cX6_readTrack 6 (some .boolean) 1 6 := ⟨⟨m_t1 679 rfl rfl, m_t1 8 rfl rfl, ⟨by decide +kernel, by decide +kernel, by decide +kernel⟩, by decide⟩, m_t1 678 rfl rfl, m_t2 5 3 rfl, rfl, by decide⟩
set_option maxRecDepth 100000 in
theorem mY_X6_readPointsBy : m_YV yX6_readPointsBy cX6_readPointsBy 6 (some .int) 3 6 := ⟨⟨m_t1 691 rfl rfl, m_t1 8 rfl rfl, ⟨by decide +kernel, by decide +kernel, by decide +kernel⟩, by decide⟩, m_t1 690 rfl rfl, m_t2 6 3 rfl, rfl, by decide⟩
set_option maxRecDepth 100000 in
theorem mY_X6_addTrack : m_YV yX6_addTrack cX6_addTrack 6 none 4 6 := ⟨⟨m_t1 700 rfl rfl, m_t1 8 rfl rfl, ⟨by decide +kernel, by decide +kernel, by decide +kernel⟩, by decide⟩, m_t1 699 rfl rfl, m_t2 7 3 rfl, rfl, by decide⟩
set_option maxRecDepth 100000 in
theorem mY_X6_readSignal : m_YV yX6_readSignal cX6_readSignal 7 (some .boolean) 1 6 := ⟨⟨m_t1 704 rfl rfl, m_t1 8 rfl rfl, ⟨by decide +kernel, by decide +kernel, by decide +kernel⟩, by decide⟩, m_t1 703 rfl rfl, m_t2 8 3 rfl, rfl, by decide⟩
set_option maxRecDepth 100000 in
theorem mY_X6_readRoute : m_YV yX6_readRoute cX6_readRoute 6 (some .boolean) 1 6 := ⟨⟨m_t1 712 rfl rfl, m_t1 8 rfl rfl, ⟨by decide +kernel, by decide +kernel, by decide +kernel⟩, by decide⟩, m_t1 711 rfl rfl, m_t2 9 3 rfl, rfl, by decide⟩
set_option maxRecDepth 100000 in
theorem mY_X6_readOver : m_YV yX6_readOver cX6_readOver 4 (some .boolean) 1 6 := ⟨⟨m_t1 728 rfl rfl, m_t1 8 rfl rfl, ⟨by decide +kernel, by decide +kernel, by decide +kernel⟩, by decide⟩, m_t1 727 rfl rfl, m_t2 13 3 rfl, rfl, by decide⟩
set_option maxRecDepth 100000 in
theorem mY_X6_canGoOver : m_YV yX6_canGoOver cX6_canGoOver 8 (some .boolean) 2 6 := ⟨⟨m_t1 732 rfl rfl, m_t1 8 rfl rfl, ⟨by decide +kernel, by decide +kernel, by decide +kernel⟩, by decide⟩, m_t1 731 rfl rfl, m_t2 14 3 rfl, rfl, by decide⟩
set_option maxRecDepth 100000 in
theorem mY_X6_addOver : m_YV yX6_addOver cX6_addOver 5 none 2 6 := ⟨⟨m_t1 748 rfl rfl, m_t1 8 rfl rfl, ⟨by decide +kernel, by decide +kernel, by decide +kernel⟩, by decide⟩, m_t1 747 rfl rfl, m_t2 15 3 rfl, rfl, by decide⟩
set_option maxRecDepth 100000 in
theorem mY_X6_readLock : m_YV yX6_readLock cX6_readLock 4 (some .boolean) 1 6 := ⟨⟨m_t1 716 rfl rfl, m_t1 8 rfl rfl, ⟨by decide +kernel, by decide +kernel, by decide +kernel⟩, by decide⟩, m_t1 715 rfl rfl, m_t2 10 3 rfl, rfl, by decide⟩
set_option maxRecDepth 100000 in
theorem mY_X6_readTrain : m_YV yX6_readTrain cX6_readTrain 7 (some .boolean) 1 6 := ⟨⟨m_t1 720 rfl rfl, m_t1 8 rfl rfl, ⟨by decide +kernel, by decide +kernel, by decide +kernel⟩, by decide⟩, m_t1 719 rfl rfl, m_t2 11 3 rfl, rfl, by decide⟩
set_option maxRecDepth 100000 in
theorem mY_X6_readHold : m_YV yX6_readHold cX6_readHold 3 (some .boolean) 1 6 := ⟨⟨m_t1 724 rfl rfl, m_t1 8 rfl rfl, ⟨by decide +kernel, by decide +kernel, by decide +kernel⟩, by decide⟩, m_t1 723 rfl rfl, m_t2 12 3 rfl, rfl, by decide⟩
set_option maxRecDepth 100000 in
theorem mY_X7_init : m_Y yX7_init cX7_init 1 none 0 ∧ yX7_init.name = "<init>" ∧ Cond.instanceMethod yX7_init ∈ m_tb := ⟨⟨m_t1 416 rfl rfl, m_t1 12 rfl rfl, ⟨by decide +kernel, by decide +kernel, by decide +kernel⟩, by decide⟩, rfl, m_t1 415 rfl rfl⟩
set_option maxRecDepth 100000 in
theorem mY_X7_copyFrom : m_YV yX7_copyFrom cX7_copyFrom 2 none 1 7 := ⟨⟨m_t1 1317 rfl rfl, m_t1 12 rfl rfl, ⟨by decide +kernel, by decide +kernel, by decide +kernel⟩, by decide⟩, m_t1 1315 rfl rfl, m_t1 1316 rfl rfl, rfl, by decide⟩
set_option maxRecDepth 100000 in
theorem mY_X7_readOnes : m_YV yX7_readOnes cX7_readOnes 3 (some .boolean) 2 7 := ⟨⟨m_t1 1286 rfl rfl, m_t1 12 rfl rfl, ⟨by decide +kernel, by decide +kernel, by decide +kernel⟩, by decide⟩, m_t1 1284 rfl rfl, m_t1 1285 rfl rfl, rfl, by decide⟩
set_option maxRecDepth 100000 in
theorem mY_X7_addStep : m_YV yX7_addStep cX7_addStep 4 none 3 7 := ⟨⟨m_t1 1307 rfl rfl, m_t1 12 rfl rfl, ⟨by decide +kernel, by decide +kernel, by decide +kernel⟩, by decide⟩, m_t1 1306 rfl rfl, m_t2 50 7 rfl, rfl, by decide⟩
set_option maxRecDepth 100000 in
theorem mY_X7_readCond : m_YV yX7_readCond cX7_readCond 5 (some .boolean) 3 7 := ⟨⟨m_t1 1292 rfl rfl, m_t1 12 rfl rfl, ⟨by decide +kernel, by decide +kernel, by decide +kernel⟩, by decide⟩, m_t1 1291 rfl rfl, m_t2 47 7 rfl, rfl, by decide⟩
set_option maxRecDepth 100000 in
theorem mY_X7_readAll : m_YV yX7_readAll cX7_readAll 5 (some .boolean) 3 7 := ⟨⟨m_t1 1296 rfl rfl, m_t1 12 rfl rfl, ⟨by decide +kernel, by decide +kernel, by decide +kernel⟩, by decide⟩, m_t1 1295 rfl rfl, m_t2 48 7 rfl, rfl, by decide⟩
set_option maxRecDepth 100000 in
theorem mY_X7_readOne : m_YV yX7_readOne cX7_readOne 6 (some .boolean) 3 7 := ⟨⟨m_t1 1300 rfl rfl, m_t1 12 rfl rfl, ⟨by decide +kernel, by decide +kernel, by decide +kernel⟩, by decide⟩, m_t1 1299 rfl rfl, m_t2 49 7 rfl, rfl, by decide⟩
set_option maxRecDepth 100000 in
theorem mY_X7_readPlainOne : m_YV yX7_readPlainOne cX7_readPlainOne 6 (some .boolean) 3 7 := ⟨⟨m_t1 1311 rfl rfl, m_t1 12 rfl rfl, ⟨by decide +kernel, by decide +kernel, by decide +kernel⟩, by decide⟩, m_t1 1310 rfl rfl, m_t2 51 7 rfl, rfl, by decide⟩
set_option maxRecDepth 100000 in
theorem mY_X7_trainsFitting : m_YV yX7_trainsFitting cX7_trainsFitting 6 (some .int) 2 7 := ⟨⟨m_t1 1326 rfl rfl, m_t1 12 rfl rfl, ⟨by decide +kernel, by decide +kernel, by decide +kernel⟩, by decide⟩, m_t1 1324 rfl rfl, m_t1 1325 rfl rfl, rfl, by decide⟩
set_option maxRecDepth 100000 in
theorem mY_X7_trainsOfStep : m_YV yX7_trainsOfStep cX7_trainsOfStep 6 (some .int) 3 7 := ⟨⟨m_t1 1330 rfl rfl, m_t1 12 rfl rfl, ⟨by decide +kernel, by decide +kernel, by decide +kernel⟩, by decide⟩, m_t1 1329 rfl rfl, m_t2 52 7 rfl, rfl, by decide⟩
set_option maxRecDepth 100000 in
theorem mY_X7_isTrueOf : m_YV yX7_isTrueOf cX7_isTrueOf 4 (some .boolean) 3 7 := ⟨⟨m_t1 1335 rfl rfl, m_t1 12 rfl rfl, ⟨by decide +kernel, by decide +kernel, by decide +kernel⟩, by decide⟩, m_t1 1334 rfl rfl, m_t2 53 7 rfl, rfl, by decide⟩
set_option maxRecDepth 100000 in
theorem mY_X7_compares : m_YV yX7_compares cX7_compares 3 (some .boolean) 2 7 := ⟨⟨m_t1 1343 rfl rfl, m_t1 12 rfl rfl, ⟨by decide +kernel, by decide +kernel, by decide +kernel⟩, by decide⟩, m_t1 1342 rfl rfl, m_t2 54 7 rfl, rfl, by decide⟩
set_option maxRecDepth 100000 in
theorem mY_X8_init : m_Y yX8_init cX8_init 2 none 1 ∧ yX8_init.name = "<init>" ∧ Cond.instanceMethod yX8_init ∈ m_tb := ⟨⟨m_t1 293 rfl rfl, m_t1 9 rfl rfl, ⟨by decide +kernel, by decide +kernel, by decide +kernel⟩, by decide⟩, rfl, m_t1 292 rfl rfl⟩
set_option maxRecDepth 100000 in
theorem mY_X8_start : m_YV yX8_start cX8_start 1 none 0 8 := ⟨⟨m_t1 777 rfl rfl, m_t1 9 rfl rfl, ⟨by decide +kernel, by decide +kernel, by decide +kernel⟩, by decide⟩, m_t1 775 rfl rfl, m_t1 776 rfl rfl, rfl, by decide⟩
set_option maxRecDepth 100000 in
theorem mY_X8_copyFrom : m_YV yX8_copyFrom cX8_copyFrom 2 none 1 8 := ⟨⟨m_t1 875 rfl rfl, m_t1 9 rfl rfl, ⟨by decide +kernel, by decide +kernel, by decide +kernel⟩, by decide⟩, m_t1 873 rfl rfl, m_t1 874 rfl rfl, rfl, by decide⟩
set_option maxRecDepth 100000 in
theorem mY_X8_occupied : m_YV yX8_occupied cX8_occupied 3 (some .int) 0 8 := ⟨⟨m_t1 803 rfl rfl, m_t1 9 rfl rfl, ⟨by decide +kernel, by decide +kernel, by decide +kernel⟩, by decide⟩, m_t1 801 rfl rfl, m_t1 802 rfl rfl, rfl, by decide⟩
set_option maxRecDepth 100000 in
theorem mY_X8_showing : m_YV yX8_showing cX8_showing 1 (some .int) 0 8 := ⟨⟨m_t1 799 rfl rfl, m_t1 9 rfl rfl, ⟨by decide +kernel, by decide +kernel, by decide +kernel⟩, by decide⟩, m_t1 797 rfl rfl, m_t1 798 rfl rfl, rfl, by decide⟩
set_option maxRecDepth 100000 in
theorem mY_X8_failing : m_YV yX8_failing cX8_failing 2 (some .int) 1 8 := ⟨⟨m_t1 807 rfl rfl, m_t1 9 rfl rfl, ⟨by decide +kernel, by decide +kernel, by decide +kernel⟩, by decide⟩, m_t1 805 rfl rfl, m_t1 806 rfl rfl, rfl, by decide⟩
set_option maxRecDepth 100000 in
theorem mY_X8_leastTrainIn : m_YV yX8_leastTrainIn cX8_leastTrainIn 4 (some .int) 2 8 := ⟨⟨m_t1 795 rfl rfl, m_t1 9 rfl rfl, ⟨by decide +kernel, by decide +kernel, by decide +kernel⟩, by decide⟩, m_t1 793 rfl rfl, m_t1 794 rfl rfl, rfl, by decide⟩
set_option maxRecDepth 100000 in
theorem mY_X8_notFree : m_YV yX8_notFree cX8_notFree 3 (some .int) 0 8 := ⟨⟨m_t1 852 rfl rfl, m_t1 9 rfl rfl, ⟨by decide +kernel, by decide +kernel, by decide +kernel⟩, by decide⟩, m_t1 850 rfl rfl, m_t1 851 rfl rfl, rfl, by decide⟩
set_option maxRecDepth 100000 in
theorem mY_X8_routesUsedBy : m_YV yX8_routesUsedBy cX8_routesUsedBy 4 (some .int) 1 8 := ⟨⟨m_t1 1339 rfl rfl, m_t1 9 rfl rfl, ⟨by decide +kernel, by decide +kernel, by decide +kernel⟩, by decide⟩, m_t1 1337 rfl rfl, m_t1 1338 rfl rfl, rfl, by decide⟩
set_option maxRecDepth 100000 in
theorem mY_X8_setRouteOf : m_YV yX8_setRouteOf cX8_setRouteOf 3 (some .int) 1 8 := ⟨⟨m_t1 831 rfl rfl, m_t1 9 rfl rfl, ⟨by decide +kernel, by decide +kernel, by decide +kernel⟩, by decide⟩, m_t1 829 rfl rfl, m_t1 830 rfl rfl, rfl, by decide⟩
set_option maxRecDepth 100000 in
theorem mY_X8_trainsOut : m_YV yX8_trainsOut cX8_trainsOut 3 (some .int) 0 8 := ⟨⟨m_t1 856 rfl rfl, m_t1 9 rfl rfl, ⟨by decide +kernel, by decide +kernel, by decide +kernel⟩, by decide⟩, m_t1 854 rfl rfl, m_t1 855 rfl rfl, rfl, by decide⟩
set_option maxRecDepth 100000 in
theorem mY_X8_waitedByAll : m_YV yX8_waitedByAll cX8_waitedByAll 3 (some .int) 0 8 := ⟨⟨m_t1 1453 rfl rfl, m_t1 9 rfl rfl, ⟨by decide +kernel, by decide +kernel, by decide +kernel⟩, by decide⟩, m_t1 1451 rfl rfl, m_t1 1452 rfl rfl, rfl, by decide⟩
set_option maxRecDepth 100000 in
theorem mY_X8_pointsAgainst : m_YV yX8_pointsAgainst cX8_pointsAgainst 2 (some .int) 1 8 := ⟨⟨m_t1 897 rfl rfl, m_t1 9 rfl rfl, ⟨by decide +kernel, by decide +kernel, by decide +kernel⟩, by decide⟩, m_t1 895 rfl rfl, m_t1 896 rfl rfl, rfl, by decide⟩
set_option maxRecDepth 100000 in
theorem mY_X8_barring : m_YV yX8_barring cX8_barring 3 (some .int) 1 8 := ⟨⟨m_t1 891 rfl rfl, m_t1 9 rfl rfl, ⟨by decide +kernel, by decide +kernel, by decide +kernel⟩, by decide⟩, m_t1 889 rfl rfl, m_t1 890 rfl rfl, rfl, by decide⟩
set_option maxRecDepth 100000 in
theorem mY_X8_perform : m_YV yX8_perform cX8_perform 4 (some .int) 3 8 := ⟨⟨m_t1 879 rfl rfl, m_t1 9 rfl rfl, ⟨by decide +kernel, by decide +kernel, by decide +kernel⟩, by decide⟩, m_t1 877 rfl rfl, m_t1 878 rfl rfl, rfl, by decide⟩
set_option maxRecDepth 100000 in
theorem mY_X8_whyNotSet : m_YV yX8_whyNotSet cX8_whyNotSet 2 (some .int) 1 8 := ⟨⟨m_t1 887 rfl rfl, m_t1 9 rfl rfl, ⟨by decide +kernel, by decide +kernel, by decide +kernel⟩, by decide⟩, m_t1 886 rfl rfl, m_t2 19 14 rfl, rfl, by decide⟩
set_option maxRecDepth 100000 in
theorem mY_X8_setRoute : m_YV yX8_setRoute cX8_setRoute 3 (some .int) 1 8 := ⟨⟨m_t1 883 rfl rfl, m_t1 9 rfl rfl, ⟨by decide +kernel, by decide +kernel, by decide +kernel⟩, by decide⟩, m_t1 882 rfl rfl, m_t2 18 14 rfl, rfl, by decide⟩
set_option maxRecDepth 100000 in
theorem mY_X8_putBack : m_YV yX8_putBack cX8_putBack 2 (some .int) 1 8 := ⟨⟨m_t1 902 rfl rfl, m_t1 9 rfl rfl, ⟨by decide +kernel, by decide +kernel, by decide +kernel⟩, by decide⟩, m_t1 901 rfl rfl, m_t2 20 14 rfl, rfl, by decide⟩
set_option maxRecDepth 100000 in
theorem mY_X8_freeByPuttingBack : m_YV yX8_freeByPuttingBack cX8_freeByPuttingBack 3 (some .int) 0 8 := ⟨⟨m_t1 1042 rfl rfl, m_t1 9 rfl rfl, ⟨by decide +kernel, by decide +kernel, by decide +kernel⟩, by decide⟩, m_t1 1040 rfl rfl, m_t1 1041 rfl rfl, rfl, by decide⟩
set_option maxRecDepth 100000 in
theorem mY_X8_isApproached : m_YV yX8_isApproached cX8_isApproached 3 (some .boolean) 1 8 := ⟨⟨m_t1 906 rfl rfl, m_t1 9 rfl rfl, ⟨by decide +kernel, by decide +kernel, by decide +kernel⟩, by decide⟩, m_t1 905 rfl rfl, m_t2 21 14 rfl, rfl, by decide⟩
set_option maxRecDepth 100000 in
theorem mY_X8_throwPoints : m_YV yX8_throwPoints cX8_throwPoints 3 (some .int) 1 8 := ⟨⟨m_t1 910 rfl rfl, m_t1 9 rfl rfl, ⟨by decide +kernel, by decide +kernel, by decide +kernel⟩, by decide⟩, m_t1 909 rfl rfl, m_t2 22 14 rfl, rfl, by decide⟩
set_option maxRecDepth 100000 in
theorem mY_X8_failSection : m_YV yX8_failSection cX8_failSection 4 (some .int) 2 8 := ⟨⟨m_t1 915 rfl rfl, m_t1 9 rfl rfl, ⟨by decide +kernel, by decide +kernel, by decide +kernel⟩, by decide⟩, m_t1 914 rfl rfl, m_t2 23 14 rfl, rfl, by decide⟩
set_option maxRecDepth 100000 in
theorem mY_X8_mendSection : m_YV yX8_mendSection cX8_mendSection 2 (some .int) 1 8 := ⟨⟨m_t1 920 rfl rfl, m_t1 9 rfl rfl, ⟨by decide +kernel, by decide +kernel, by decide +kernel⟩, by decide⟩, m_t1 919 rfl rfl, m_t2 24 14 rfl, rfl, by decide⟩
set_option maxRecDepth 100000 in
theorem mY_X8_passTicks : m_YV yX8_passTicks cX8_passTicks 3 (some .int) 1 8 := ⟨⟨m_t1 948 rfl rfl, m_t1 9 rfl rfl, ⟨by decide +kernel, by decide +kernel, by decide +kernel⟩, by decide⟩, m_t1 946 rfl rfl, m_t1 947 rfl rfl, rfl, by decide⟩
set_option maxRecDepth 100000 in
theorem mY_X8_passOne : m_YV yX8_passOne cX8_passOne 2 none 0 8 := ⟨⟨m_t1 952 rfl rfl, m_t1 9 rfl rfl, ⟨by decide +kernel, by decide +kernel, by decide +kernel⟩, by decide⟩, m_t1 950 rfl rfl, m_t1 951 rfl rfl, rfl, by decide⟩
set_option maxRecDepth 100000 in
theorem mY_X8_runTrain : m_YV yX8_runTrain cX8_runTrain 4 none 1 8 := ⟨⟨m_t1 956 rfl rfl, m_t1 9 rfl rfl, ⟨by decide +kernel, by decide +kernel, by decide +kernel⟩, by decide⟩, m_t1 955 rfl rfl, m_t2 25 14 rfl, rfl, by decide⟩
set_option maxRecDepth 100000 in
theorem mY_X8_goalBySignal : m_YV yX8_goalBySignal cX8_goalBySignal 4 (some .int) 2 8 := ⟨⟨m_t1 970 rfl rfl, m_t1 9 rfl rfl, ⟨by decide +kernel, by decide +kernel, by decide +kernel⟩, by decide⟩, m_t1 969 rfl rfl, m_t2 28 14 rfl, rfl, by decide⟩
set_option maxRecDepth 100000 in
theorem mY_X8_goalByTracks : m_YV yX8_goalByTracks cX8_goalByTracks 5 (some .int) 1 8 := ⟨⟨m_t1 961 rfl rfl, m_t1 9 rfl rfl, ⟨by decide +kernel, by decide +kernel, by decide +kernel⟩, by decide⟩, m_t1 960 rfl rfl, m_t2 26 14 rfl, rfl, by decide⟩
set_option maxRecDepth 100000 in
theorem mY_X8_leadsNow : m_YV yX8_leadsNow cX8_leadsNow 3 (some .boolean) 1 8 := ⟨⟨m_t1 966 rfl rfl, m_t1 9 rfl rfl, ⟨by decide +kernel, by decide +kernel, by decide +kernel⟩, by decide⟩, m_t1 965 rfl rfl, m_t2 27 14 rfl, rfl, by decide⟩
set_option maxRecDepth 100000 in
theorem mY_X8_enter : m_YV yX8_enter cX8_enter 5 none 2 8 := ⟨⟨m_t1 976 rfl rfl, m_t1 9 rfl rfl, ⟨by decide +kernel, by decide +kernel, by decide +kernel⟩, by decide⟩, m_t1 975 rfl rfl, m_t2 29 14 rfl, rfl, by decide⟩
set_option maxRecDepth 100000 in
theorem mY_X8_crash : m_YV yX8_crash cX8_crash 4 none 2 8 := ⟨⟨m_t1 981 rfl rfl, m_t1 9 rfl rfl, ⟨by decide +kernel, by decide +kernel, by decide +kernel⟩, by decide⟩, m_t1 980 rfl rfl, m_t2 30 14 rfl, rfl, by decide⟩
set_option maxRecDepth 100000 in
theorem mY_X8_passDrawn : m_YV yX8_passDrawn cX8_passDrawn 7 (some .int) 2 8 := ⟨⟨m_t1 1218 rfl rfl, m_t1 9 rfl rfl, ⟨by decide +kernel, by decide +kernel, by decide +kernel⟩, by decide⟩, m_t1 1216 rfl rfl, m_t1 1217 rfl rfl, rfl, by decide⟩
set_option maxRecDepth 100000 in
theorem mY_X8_stir : m_Y yX8_stir cX8_stir 1 (some .int) 1 ∧ Cond.static yX8_stir ∈ m_tb := ⟨⟨m_t1 1221 rfl rfl, m_t1 9 rfl rfl, ⟨by decide +kernel, by decide +kernel, by decide +kernel⟩, by decide⟩, m_t1 1220 rfl rfl⟩
set_option maxRecDepth 100000 in
theorem mY_X8_lotOf : m_Y yX8_lotOf cX8_lotOf 2 (some .int) 2 ∧ Cond.static yX8_lotOf ∈ m_tb := ⟨⟨m_t1 1225 rfl rfl, m_t1 9 rfl rfl, ⟨by decide +kernel, by decide +kernel, by decide +kernel⟩, by decide⟩, m_t1 1224 rfl rfl⟩
set_option maxRecDepth 100000 in
theorem mY_X8_actByLot : m_YV yX8_actByLot cX8_actByLot 3 none 2 8 := ⟨⟨m_t1 1229 rfl rfl, m_t1 9 rfl rfl, ⟨by decide +kernel, by decide +kernel, by decide +kernel⟩, by decide⟩, m_t1 1228 rfl rfl, m_t2 44 14 rfl, rfl, by decide⟩
set_option maxRecDepth 100000 in
theorem mY_X9_init : m_Y yX9_init cX9_init 1 none 0 ∧ yX9_init.name = "<init>" ∧ Cond.instanceMethod yX9_init ∈ m_tb := ⟨⟨m_t1 490 rfl rfl, m_t1 15 rfl rfl, ⟨by decide +kernel, by decide +kernel, by decide +kernel⟩, by decide⟩, rfl, m_t1 489 rfl rfl⟩
set_option maxRecDepth 100000 in
theorem mY_X9_write : m_YV yX9_write cX9_write 4 none 3 9 := ⟨⟨m_t1 1179 rfl rfl, m_t1 15 rfl rfl, ⟨by decide +kernel, by decide +kernel, by decide +kernel⟩, by decide⟩, m_t1 1177 rfl rfl, m_t1 1178 rfl rfl, rfl, by decide⟩
set_option maxRecDepth 100000 in
theorem mY_X9_addByte : m_YV yX9_addByte cX9_addByte 2 none 1 9 := ⟨⟨m_t1 1192 rfl rfl, m_t1 15 rfl rfl, ⟨by decide +kernel, by decide +kernel, by decide +kernel⟩, by decide⟩, m_t1 1191 rfl rfl, m_t2 42 2 rfl, rfl, by decide⟩
set_option maxRecDepth 100000 in
theorem mY_X9_addText : m_YV yX9_addText cX9_addText 3 none 1 9 := ⟨⟨m_t1 1197 rfl rfl, m_t1 15 rfl rfl, ⟨by decide +kernel, by decide +kernel, by decide +kernel⟩, by decide⟩, m_t1 1196 rfl rfl, m_t2 43 2 rfl, rfl, by decide⟩
set_option maxRecDepth 100000 in
theorem mY_X9_addName : m_YV yX9_addName cX9_addName 5 none 1 9 := ⟨⟨m_t1 1187 rfl rfl, m_t1 15 rfl rfl, ⟨by decide +kernel, by decide +kernel, by decide +kernel⟩, by decide⟩, m_t1 1186 rfl rfl, m_t2 41 2 rfl, rfl, by decide⟩
set_option maxRecDepth 100000 in
theorem mY_X9_at : m_YV yX9_at cX9_at 2 (some .int) 1 9 := ⟨⟨m_t1 1210 rfl rfl, m_t1 15 rfl rfl, ⟨by decide +kernel, by decide +kernel, by decide +kernel⟩, by decide⟩, m_t1 1208 rfl rfl, m_t1 1209 rfl rfl, rfl, by decide⟩
set_option maxRecDepth 100000 in
theorem mY_X10_init : m_Y yX10_init cX10_init 1 none 0 ∧ yX10_init.name = "<init>" ∧ Cond.instanceMethod yX10_init ∈ m_tb := ⟨⟨m_t1 38 rfl rfl, m_t1 2 rfl rfl, ⟨by decide +kernel, by decide +kernel, by decide +kernel⟩, by decide⟩, rfl, m_t1 37 rfl rfl⟩
set_option maxRecDepth 100000 in
theorem mY_X10_codesOfWords : m_Y yX10_codesOfWords cX10_codesOfWords 6 (some (.array .long)) 0 ∧ Cond.static yX10_codesOfWords ∈ m_tb := ⟨⟨m_t1 42 rfl rfl, m_t1 2 rfl rfl, ⟨by decide +kernel, by decide +kernel, by decide +kernel⟩, by decide⟩, m_t1 41 rfl rfl⟩
set_option maxRecDepth 100000 in
theorem mY_X10_addNumber : m_YV yX10_addNumber cX10_addNumber 3 none 1 10 := ⟨⟨m_t1 578 rfl rfl, m_t1 2 rfl rfl, ⟨by decide +kernel, by decide +kernel, by decide +kernel⟩, by decide⟩, m_t1 576 rfl rfl, m_t1 577 rfl rfl, rfl, by decide⟩
set_option maxRecDepth 100000 in
theorem mY_X10_begin : m_YV yX10_begin cX10_begin 2 none 1 10 := ⟨⟨m_t1 594 rfl rfl, m_t1 2 rfl rfl, ⟨by decide +kernel, by decide +kernel, by decide +kernel⟩, by decide⟩, m_t1 592 rfl rfl, m_t1 593 rfl rfl, rfl, by decide⟩
set_option maxRecDepth 100000 in
theorem mY_X10_next : m_YV yX10_next cX10_next 1 none 0 10 := ⟨⟨m_t1 605 rfl rfl, m_t1 2 rfl rfl, ⟨by decide +kernel, by decide +kernel, by decide +kernel⟩, by decide⟩, m_t1 603 rfl rfl, m_t1 604 rfl rfl, rfl, by decide⟩
set_option maxRecDepth 100000 in
theorem mY_X10_readRun : m_YV yX10_readRun cX10_readRun 4 none 0 10 := ⟨⟨m_t1 621 rfl rfl, m_t1 2 rfl rfl, ⟨by decide +kernel, by decide +kernel, by decide +kernel⟩, by decide⟩, m_t1 620 rfl rfl, m_t2 0 12 rfl, rfl, by decide⟩
set_option maxRecDepth 100000 in
theorem mY_X10_isBlank : m_Y yX10_isBlank cX10_isBlank 1 (some .boolean) 1 ∧ Cond.static yX10_isBlank ∈ m_tb := ⟨⟨m_t1 608 rfl rfl, m_t1 2 rfl rfl, ⟨by decide +kernel, by decide +kernel, by decide +kernel⟩, by decide⟩, m_t1 607 rfl rfl⟩
set_option maxRecDepth 100000 in
theorem mY_X10_isLetter : m_Y yX10_isLetter cX10_isLetter 1 (some .boolean) 1 ∧ Cond.static yX10_isLetter ∈ m_tb := ⟨⟨m_t1 614 rfl rfl, m_t1 2 rfl rfl, ⟨by decide +kernel, by decide +kernel, by decide +kernel⟩, by decide⟩, m_t1 613 rfl rfl⟩
set_option maxRecDepth 100000 in
theorem mY_X10_isDigit : m_Y yX10_isDigit cX10_isDigit 1 (some .boolean) 1 ∧ Cond.static yX10_isDigit ∈ m_tb := ⟨⟨m_t1 617 rfl rfl, m_t1 2 rfl rfl, ⟨by decide +kernel, by decide +kernel, by decide +kernel⟩, by decide⟩, m_t1 616 rfl rfl⟩
set_option maxRecDepth 100000 in
theorem mY_X10_wrong : m_YV yX10_wrong cX10_wrong 2 (some .boolean) 1 10 := ⟨⟨m_t1 637 rfl rfl, m_t1 2 rfl rfl, ⟨by decide +kernel, by decide +kernel, by decide +kernel⟩, by decide⟩, m_t1 635 rfl rfl, m_t1 636 rfl rfl, rfl, by decide⟩
set_option maxRecDepth 100000 in
theorem mY_X10_isSign : m_YV yX10_isSign cX10_isSign 2 (some .boolean) 1 10 := ⟨⟨m_t1 687 rfl rfl, m_t1 2 rfl rfl, ⟨by decide +kernel, by decide +kernel, by decide +kernel⟩, by decide⟩, m_t1 685 rfl rfl, m_t1 686 rfl rfl, rfl, by decide⟩
set_option maxRecDepth 100000 in
theorem mY_X10_mustBe : m_YV yX10_mustBe cX10_mustBe 2 (some .boolean) 1 10 := ⟨⟨m_t1 752 rfl rfl, m_t1 2 rfl rfl, ⟨by decide +kernel, by decide +kernel, by decide +kernel⟩, by decide⟩, m_t1 750 rfl rfl, m_t1 751 rfl rfl, rfl, by decide⟩
set_option maxRecDepth 100000 in
theorem mY_X10_named : m_YV yX10_named cX10_named 4 (some .int) 2 10 := ⟨⟨m_t1 674 rfl rfl, m_t1 2 rfl rfl, ⟨by decide +kernel, by decide +kernel, by decide +kernel⟩, by decide⟩, m_t1 672 rfl rfl, m_t1 673 rfl rfl, rfl, by decide⟩
set_option maxRecDepth 100000 in
theorem mY_X10_nextNamed : m_YV yX10_nextNamed cX10_nextNamed 3 (some .int) 2 10 := ⟨⟨m_t1 670 rfl rfl, m_t1 2 rfl rfl, ⟨by decide +kernel, by decide +kernel, by decide +kernel⟩, by decide⟩, m_t1 668 rfl rfl, m_t1 669 rfl rfl, rfl, by decide⟩
set_option maxRecDepth 100000 in
theorem mY_X10_nextNewName : m_YV yX10_nextNewName cX10_nextNewName 2 (some .boolean) 1 10 := ⟨⟨m_t1 641 rfl rfl, m_t1 2 rfl rfl, ⟨by decide +kernel, by decide +kernel, by decide +kernel⟩, by decide⟩, m_t1 639 rfl rfl, m_t1 640 rfl rfl, rfl, by decide⟩
set_option maxRecDepth 100000 in
theorem mY_X10_nextNumber : m_YV yX10_nextNumber cX10_nextNumber 3 (some .int) 2 10 := ⟨⟨m_t1 655 rfl rfl, m_t1 2 rfl rfl, ⟨by decide +kernel, by decide +kernel, by decide +kernel⟩, by decide⟩, m_t1 653 rfl rfl, m_t1 654 rfl rfl, rfl, by decide⟩
set_option maxRecDepth 100000 in
theorem mY_X10_nextOfTwo : m_YV yX10_nextOfTwo cX10_nextOfTwo 2 (some .int) 1 10 := ⟨⟨m_t1 696 rfl rfl, m_t1 2 rfl rfl, ⟨by decide +kernel, by decide +kernel, by decide +kernel⟩, by decide⟩, m_t1 694 rfl rfl, m_t1 695 rfl rfl, rfl, by decide⟩
set_option maxRecDepth 100000 in
theorem mY_X11_init : m_Y yX11_init cX11_init 2 none 0 ∧ yX11_init.name = "<init>" ∧ Cond.instanceMethod yX11_init ∈ m_tb := ⟨⟨m_t1 30 rfl rfl, m_t1 1 rfl rfl, ⟨by decide +kernel, by decide +kernel, by decide +kernel⟩, by decide⟩, rfl, m_t1 29 rfl rfl⟩
set_option maxRecDepth 100000 in
theorem mY_X11_feed : m_YV yX11_feed cX11_feed 6 (some .int) 5 11 := ⟨⟨m_t1 574 rfl rfl, m_t1 1 rfl rfl, ⟨by decide +kernel, by decide +kernel, by decide +kernel⟩, by decide⟩, m_t1 572 rfl rfl, m_t1 573 rfl rfl, rfl, by decide⟩
set_option maxRecDepth 100000 in
theorem mY_X11_end : m_YV yX11_end cX11_end 2 (some .boolean) 1 11 := ⟨⟨m_t1 582 rfl rfl, m_t1 1 rfl rfl, ⟨by decide +kernel, by decide +kernel, by decide +kernel⟩, by decide⟩, m_t1 580 rfl rfl, m_t1 581 rfl rfl, rfl, by decide⟩
set_option maxRecDepth 100000 in
theorem mY_X11_layout : m_YV yX11_layout cX11_layout 2 (some .int) 0 11 := ⟨⟨m_t1 586 rfl rfl, m_t1 1 rfl rfl, ⟨by decide +kernel, by decide +kernel, by decide +kernel⟩, by decide⟩, m_t1 584 rfl rfl, m_t1 585 rfl rfl, rfl, by decide⟩
set_option maxRecDepth 100000 in
theorem mY_X11_fault : m_YV yX11_fault cX11_fault 1 (some .int) 0 11 := ⟨⟨m_t1 783 rfl rfl, m_t1 1 rfl rfl, ⟨by decide +kernel, by decide +kernel, by decide +kernel⟩, by decide⟩, m_t1 781 rfl rfl, m_t1 782 rfl rfl, rfl, by decide⟩
set_option maxRecDepth 100000 in
theorem mY_X11_section : m_YV yX11_section cX11_section 3 (some .int) 2 11 := ⟨⟨m_t1 787 rfl rfl, m_t1 1 rfl rfl, ⟨by decide +kernel, by decide +kernel, by decide +kernel⟩, by decide⟩, m_t1 785 rfl rfl, m_t1 786 rfl rfl, rfl, by decide⟩
set_option maxRecDepth 100000 in
theorem mY_X11_points : m_YV yX11_points cX11_points 3 (some .int) 2 11 := ⟨⟨m_t1 819 rfl rfl, m_t1 1 rfl rfl, ⟨by decide +kernel, by decide +kernel, by decide +kernel⟩, by decide⟩, m_t1 817 rfl rfl, m_t1 818 rfl rfl, rfl, by decide⟩
set_option maxRecDepth 100000 in
theorem mY_X11_signal : m_YV yX11_signal cX11_signal 3 (some .int) 2 11 := ⟨⟨m_t1 827 rfl rfl, m_t1 1 rfl rfl, ⟨by decide +kernel, by decide +kernel, by decide +kernel⟩, by decide⟩, m_t1 825 rfl rfl, m_t1 826 rfl rfl, rfl, by decide⟩
set_option maxRecDepth 100000 in
theorem mY_X11_route : m_YV yX11_route cX11_route 3 (some .int) 2 11 := ⟨⟨m_t1 839 rfl rfl, m_t1 1 rfl rfl, ⟨by decide +kernel, by decide +kernel, by decide +kernel⟩, by decide⟩, m_t1 837 rfl rfl, m_t1 838 rfl rfl, rfl, by decide⟩
set_option maxRecDepth 100000 in
theorem mY_X11_over : m_YV yX11_over cX11_over 3 (some .int) 2 11 := ⟨⟨m_t1 843 rfl rfl, m_t1 1 rfl rfl, ⟨by decide +kernel, by decide +kernel, by decide +kernel⟩, by decide⟩, m_t1 841 rfl rfl, m_t1 842 rfl rfl, rfl, by decide⟩
set_option maxRecDepth 100000 in
theorem mY_X11_train : m_YV yX11_train cX11_train 3 (some .int) 2 11 := ⟨⟨m_t1 1374 rfl rfl, m_t1 1 rfl rfl, ⟨by decide +kernel, by decide +kernel, by decide +kernel⟩, by decide⟩, m_t1 1372 rfl rfl, m_t1 1373 rfl rfl, rfl, by decide⟩
set_option maxRecDepth 100000 in
theorem mY_X11_now : m_YV yX11_now cX11_now 2 (some .int) 1 11 := ⟨⟨m_t1 848 rfl rfl, m_t1 1 rfl rfl, ⟨by decide +kernel, by decide +kernel, by decide +kernel⟩, by decide⟩, m_t1 846 rfl rfl, m_t1 847 rfl rfl, rfl, by decide⟩
set_option maxRecDepth 100000 in
theorem mY_X11_set : m_YV yX11_set cX11_set 2 (some .int) 1 11 := ⟨⟨m_t1 860 rfl rfl, m_t1 1 rfl rfl, ⟨by decide +kernel, by decide +kernel, by decide +kernel⟩, by decide⟩, m_t1 858 rfl rfl, m_t1 859 rfl rfl, rfl, by decide⟩
set_option maxRecDepth 100000 in
theorem mY_X11_back : m_YV yX11_back cX11_back 2 (some .int) 1 11 := ⟨⟨m_t1 928 rfl rfl, m_t1 1 rfl rfl, ⟨by decide +kernel, by decide +kernel, by decide +kernel⟩, by decide⟩, m_t1 926 rfl rfl, m_t1 927 rfl rfl, rfl, by decide⟩
set_option maxRecDepth 100000 in
theorem mY_X11_turn : m_YV yX11_turn cX11_turn 2 (some .int) 1 11 := ⟨⟨m_t1 932 rfl rfl, m_t1 1 rfl rfl, ⟨by decide +kernel, by decide +kernel, by decide +kernel⟩, by decide⟩, m_t1 930 rfl rfl, m_t1 931 rfl rfl, rfl, by decide⟩
set_option maxRecDepth 100000 in
theorem mY_X11_fail : m_YV yX11_fail cX11_fail 3 (some .int) 2 11 := ⟨⟨m_t1 936 rfl rfl, m_t1 1 rfl rfl, ⟨by decide +kernel, by decide +kernel, by decide +kernel⟩, by decide⟩, m_t1 934 rfl rfl, m_t1 935 rfl rfl, rfl, by decide⟩
set_option maxRecDepth 100000 in
theorem mY_X11_mend : m_YV yX11_mend cX11_mend 2 (some .int) 1 11 := ⟨⟨m_t1 940 rfl rfl, m_t1 1 rfl rfl, ⟨by decide +kernel, by decide +kernel, by decide +kernel⟩, by decide⟩, m_t1 938 rfl rfl, m_t1 939 rfl rfl, rfl, by decide⟩
set_option maxRecDepth 100000 in
theorem mY_X11_ticks : m_YV yX11_ticks cX11_ticks 3 (some .int) 1 11 := ⟨⟨m_t1 944 rfl rfl, m_t1 1 rfl rfl, ⟨by decide +kernel, by decide +kernel, by decide +kernel⟩, by decide⟩, m_t1 942 rfl rfl, m_t1 943 rfl rfl, rfl, by decide⟩
set_option maxRecDepth 100000 in
theorem mY_X11_undo : m_YV yX11_undo cX11_undo 1 (some .int) 0 11 := ⟨⟨m_t1 985 rfl rfl, m_t1 1 rfl rfl, ⟨by decide +kernel, by decide +kernel, by decide +kernel⟩, by decide⟩, m_t1 983 rfl rfl, m_t1 984 rfl rfl, rfl, by decide⟩
set_option maxRecDepth 100000 in
theorem mY_X11_lacking : m_YV yX11_lacking cX11_lacking 1 (some .int) 0 11 := ⟨⟨m_t1 993 rfl rfl, m_t1 1 rfl rfl, ⟨by decide +kernel, by decide +kernel, by decide +kernel⟩, by decide⟩, m_t1 991 rfl rfl, m_t1 992 rfl rfl, rfl, by decide⟩
set_option maxRecDepth 100000 in
theorem mY_X11_lacks : m_YV yX11_lacks cX11_lacks 2 (some .int) 1 11 := ⟨⟨m_t1 1012 rfl rfl, m_t1 1 rfl rfl, ⟨by decide +kernel, by decide +kernel, by decide +kernel⟩, by decide⟩, m_t1 1010 rfl rfl, m_t1 1011 rfl rfl, rfl, by decide⟩
set_option maxRecDepth 100000 in
theorem mY_X11_spare : m_YV yX11_spare cX11_spare 1 (some .int) 0 11 := ⟨⟨m_t1 1020 rfl rfl, m_t1 1 rfl rfl, ⟨by decide +kernel, by decide +kernel, by decide +kernel⟩, by decide⟩, m_t1 1018 rfl rfl, m_t1 1019 rfl rfl, rfl, by decide⟩
set_option maxRecDepth 100000 in
theorem mY_X11_pulls : m_YV yX11_pulls cX11_pulls 2 (some .int) 1 11 := ⟨⟨m_t1 1028 rfl rfl, m_t1 1 rfl rfl, ⟨by decide +kernel, by decide +kernel, by decide +kernel⟩, by decide⟩, m_t1 1026 rfl rfl, m_t1 1027 rfl rfl, rfl, by decide⟩
set_option maxRecDepth 100000 in
theorem mY_X11_pullsAt : m_YV yX11_pullsAt cX11_pullsAt 2 (some .int) 1 11 := ⟨⟨m_t1 1050 rfl rfl, m_t1 1 rfl rfl, ⟨by decide +kernel, by decide +kernel, by decide +kernel⟩, by decide⟩, m_t1 1048 rfl rfl, m_t1 1049 rfl rfl, rfl, by decide⟩
set_option maxRecDepth 100000 in
theorem mY_X11_together : m_YV yX11_together cX11_together 1 (some .int) 0 11 := ⟨⟨m_t1 1058 rfl rfl, m_t1 1 rfl rfl, ⟨by decide +kernel, by decide +kernel, by decide +kernel⟩, by decide⟩, m_t1 1056 rfl rfl, m_t1 1057 rfl rfl, rfl, by decide⟩
set_option maxRecDepth 100000 in
theorem mY_X11_those : m_YV yX11_those cX11_those 1 (some .int) 0 11 := ⟨⟨m_t1 1071 rfl rfl, m_t1 1 rfl rfl, ⟨by decide +kernel, by decide +kernel, by decide +kernel⟩, by decide⟩, m_t1 1069 rfl rfl, m_t1 1070 rfl rfl, rfl, by decide⟩
set_option maxRecDepth 100000 in
theorem mY_X11_rounds : m_YV yX11_rounds cX11_rounds 1 (some .int) 0 11 := ⟨⟨m_t1 1075 rfl rfl, m_t1 1 rfl rfl, ⟨by decide +kernel, by decide +kernel, by decide +kernel⟩, by decide⟩, m_t1 1073 rfl rfl, m_t1 1074 rfl rfl, rfl, by decide⟩
set_option maxRecDepth 100000 in
theorem mY_X11_path : m_YV yX11_path cX11_path 3 (some .int) 2 11 := ⟨⟨m_t1 1088 rfl rfl, m_t1 1 rfl rfl, ⟨by decide +kernel, by decide +kernel, by decide +kernel⟩, by decide⟩, m_t1 1086 rfl rfl, m_t1 1087 rfl rfl, rfl, by decide⟩
set_option maxRecDepth 100000 in
theorem mY_X11_pathAt : m_YV yX11_pathAt cX11_pathAt 2 (some .int) 1 11 := ⟨⟨m_t1 1115 rfl rfl, m_t1 1 rfl rfl, ⟨by decide +kernel, by decide +kernel, by decide +kernel⟩, by decide⟩, m_t1 1113 rfl rfl, m_t1 1114 rfl rfl, rfl, by decide⟩
set_option maxRecDepth 100000 in
theorem mY_X11_comes : m_YV yX11_comes cX11_comes 4 (some .int) 2 11 := ⟨⟨m_t1 1123 rfl rfl, m_t1 1 rfl rfl, ⟨by decide +kernel, by decide +kernel, by decide +kernel⟩, by decide⟩, m_t1 1121 rfl rfl, m_t1 1122 rfl rfl, rfl, by decide⟩
set_option maxRecDepth 100000 in
theorem mY_X11_meet : m_YV yX11_meet cX11_meet 2 (some .int) 0 11 := ⟨⟨m_t1 1129 rfl rfl, m_t1 1 rfl rfl, ⟨by decide +kernel, by decide +kernel, by decide +kernel⟩, by decide⟩, m_t1 1127 rfl rfl, m_t1 1128 rfl rfl, rfl, by decide⟩
set_option maxRecDepth 100000 in
theorem mY_X11_fits : m_YV yX11_fits cX11_fits 2 (some .int) 0 11 := ⟨⟨m_t1 1133 rfl rfl, m_t1 1 rfl rfl, ⟨by decide +kernel, by decide +kernel, by decide +kernel⟩, by decide⟩, m_t1 1131 rfl rfl, m_t1 1132 rfl rfl, rfl, by decide⟩
set_option maxRecDepth 100000 in
theorem mY_X11_fitsAt : m_YV yX11_fitsAt cX11_fitsAt 2 (some .int) 1 11 := ⟨⟨m_t1 1163 rfl rfl, m_t1 1 rfl rfl, ⟨by decide +kernel, by decide +kernel, by decide +kernel⟩, by decide⟩, m_t1 1161 rfl rfl, m_t1 1162 rfl rfl, rfl, by decide⟩
set_option maxRecDepth 100000 in
theorem mY_X11_ask : m_YV yX11_ask cX11_ask 1 (some .int) 0 11 := ⟨⟨m_t1 1171 rfl rfl, m_t1 1 rfl rfl, ⟨by decide +kernel, by decide +kernel, by decide +kernel⟩, by decide⟩, m_t1 1169 rfl rfl, m_t1 1170 rfl rfl, rfl, by decide⟩
set_option maxRecDepth 100000 in
theorem mY_X11_mean : m_YV yX11_mean cX11_mean 5 (some .int) 1 11 := ⟨⟨m_t1 1448 rfl rfl, m_t1 1 rfl rfl, ⟨by decide +kernel, by decide +kernel, by decide +kernel⟩, by decide⟩, m_t1 1446 rfl rfl, m_t1 1447 rfl rfl, rfl, by decide⟩
set_option maxRecDepth 100000 in
theorem mY_X11_tag : m_YV yX11_tag cX11_tag 2 (some .int) 1 11 := ⟨⟨m_t1 1175 rfl rfl, m_t1 1 rfl rfl, ⟨by decide +kernel, by decide +kernel, by decide +kernel⟩, by decide⟩, m_t1 1173 rfl rfl, m_t1 1174 rfl rfl, rfl, by decide⟩
set_option maxRecDepth 100000 in
theorem mY_X11_byteAt : m_YV yX11_byteAt cX11_byteAt 2 (some .int) 1 11 := ⟨⟨m_t1 1206 rfl rfl, m_t1 1 rfl rfl, ⟨by decide +kernel, by decide +kernel, by decide +kernel⟩, by decide⟩, m_t1 1204 rfl rfl, m_t1 1205 rfl rfl, rfl, by decide⟩
set_option maxRecDepth 100000 in
theorem mY_X11_drawn : m_YV yX11_drawn cX11_drawn 4 (some .int) 2 11 := ⟨⟨m_t1 1214 rfl rfl, m_t1 1 rfl rfl, ⟨by decide +kernel, by decide +kernel, by decide +kernel⟩, by decide⟩, m_t1 1212 rfl rfl, m_t1 1213 rfl rfl, rfl, by decide⟩
set_option maxRecDepth 100000 in
theorem mY_X11_odds : m_YV yX11_odds cX11_odds 5 (some .int) 2 11 := ⟨⟨m_t1 1233 rfl rfl, m_t1 1 rfl rfl, ⟨by decide +kernel, by decide +kernel, by decide +kernel⟩, by decide⟩, m_t1 1231 rfl rfl, m_t1 1232 rfl rfl, rfl, by decide⟩
set_option maxRecDepth 100000 in
theorem mY_X11_book : m_YV yX11_book cX11_book 4 (some .int) 1 11 := ⟨⟨m_t1 1237 rfl rfl, m_t1 1 rfl rfl, ⟨by decide +kernel, by decide +kernel, by decide +kernel⟩, by decide⟩, m_t1 1235 rfl rfl, m_t1 1236 rfl rfl, rfl, by decide⟩
set_option maxRecDepth 100000 in
theorem mY_X11_told : m_YV yX11_told cX11_told 2 (some .int) 1 11 := ⟨⟨m_t1 1274 rfl rfl, m_t1 1 rfl rfl, ⟨by decide +kernel, by decide +kernel, by decide +kernel⟩, by decide⟩, m_t1 1272 rfl rfl, m_t1 1273 rfl rfl, rfl, by decide⟩
set_option maxRecDepth 100000 in
theorem mY_X11_sentence : m_YV yX11_sentence cX11_sentence 2 (some .int) 0 11 := ⟨⟨m_t1 1282 rfl rfl, m_t1 1 rfl rfl, ⟨by decide +kernel, by decide +kernel, by decide +kernel⟩, by decide⟩, m_t1 1280 rfl rfl, m_t1 1281 rfl rfl, rfl, by decide⟩
set_option maxRecDepth 100000 in
theorem mY_X11_said : m_YV yX11_said cX11_said 5 (some .int) 1 11 := ⟨⟨m_t1 1322 rfl rfl, m_t1 1 rfl rfl, ⟨by decide +kernel, by decide +kernel, by decide +kernel⟩, by decide⟩, m_t1 1320 rfl rfl, m_t1 1321 rfl rfl, rfl, by decide⟩
set_option maxRecDepth 100000 in
theorem mY_X11_image : m_YV yX11_image cX11_image 2 (some .boolean) 1 11 := ⟨⟨m_t1 1347 rfl rfl, m_t1 1 rfl rfl, ⟨by decide +kernel, by decide +kernel, by decide +kernel⟩, by decide⟩, m_t1 1345 rfl rfl, m_t1 1346 rfl rfl, rfl, by decide⟩
set_option maxRecDepth 100000 in
theorem mY_X11_restore : m_YV yX11_restore cX11_restore 2 (some .boolean) 1 11 := ⟨⟨m_t1 1358 rfl rfl, m_t1 1 rfl rfl, ⟨by decide +kernel, by decide +kernel, by decide +kernel⟩, by decide⟩, m_t1 1356 rfl rfl, m_t1 1357 rfl rfl, rfl, by decide⟩
set_option maxRecDepth 100000 in
theorem mY_X11_count : m_YV yX11_count cX11_count 2 (some .int) 1 11 := ⟨⟨m_t1 1366 rfl rfl, m_t1 1 rfl rfl, ⟨by decide +kernel, by decide +kernel, by decide +kernel⟩, by decide⟩, m_t1 1364 rfl rfl, m_t1 1365 rfl rfl, rfl, by decide⟩
set_option maxRecDepth 100000 in
theorem mY_X11_act : m_YV yX11_act cX11_act 5 (some .int) 3 11 := ⟨⟨m_t1 864 rfl rfl, m_t1 1 rfl rfl, ⟨by decide +kernel, by decide +kernel, by decide +kernel⟩, by decide⟩, m_t1 863 rfl rfl, m_t2 17 15 rfl, rfl, by decide⟩
set_option maxRecDepth 100000 in
theorem mY_X11_sortOfAct : m_Y yX11_sortOfAct cX11_sortOfAct 1 (some .int) 1 ∧ Cond.static yX11_sortOfAct ∈ m_tb := ⟨⟨m_t1 867 rfl rfl, m_t1 1 rfl rfl, ⟨by decide +kernel, by decide +kernel, by decide +kernel⟩, by decide⟩, m_t1 866 rfl rfl⟩
set_option maxRecDepth 100000 in
theorem mY_X11_greatestCommon : m_Y yX11_greatestCommon cX11_greatestCommon 6 (some .int) 2 ∧ Cond.static yX11_greatestCommon ∈ m_tb := ⟨⟨m_t1 1456 rfl rfl, m_t1 1 rfl rfl, ⟨by decide +kernel, by decide +kernel, by decide +kernel⟩, by decide⟩, m_t1 1455 rfl rfl⟩
set_option maxRecDepth 100000 in
theorem mY_X11_copyRow : m_Y yX11_copyRow cX11_copyRow 2 none 2 ∧ Cond.static yX11_copyRow ∈ m_tb := ⟨⟨m_t1 768 rfl rfl, m_t1 1 rfl rfl, ⟨by decide +kernel, by decide +kernel, by decide +kernel⟩, by decide⟩, m_t1 767 rfl rfl⟩
set_option maxRecDepth 100000 in
theorem mY_X12_thrown : m_YV yX12_thrown cX12_thrown 1 (some .int) 0 12 := ⟨⟨m_t1 1460 rfl rfl, m_t1 17 rfl rfl, ⟨by decide +kernel, by decide +kernel, by decide +kernel⟩, by decide⟩, m_t1 1458 rfl rfl, m_t1 1459 rfl rfl, rfl, by decide⟩
set_option maxRecDepth 100000 in
theorem mY_X12_throwsIf : m_YV yX12_throwsIf cX12_throwsIf 2 (some .boolean) 1 12 := ⟨⟨m_t1 1869 rfl rfl, m_t1 17 rfl rfl, ⟨by decide +kernel, by decide +kernel, by decide +kernel⟩, by decide⟩, m_t1 1868 rfl rfl, m_t2 96 51 rfl, rfl, by decide⟩
set_option maxRecDepth 100000 in
theorem mY_X12_feed : m_YV yX12_feed cX12_feed 6 (some .int) 5 12 := ⟨⟨m_t1 1464 rfl rfl, m_t1 17 rfl rfl, ⟨by decide +kernel, by decide +kernel, by decide +kernel⟩, by decide⟩, m_t1 1462 rfl rfl, m_t1 1463 rfl rfl, rfl, by decide⟩
set_option maxRecDepth 100000 in
theorem mY_X12_four : m_YV yX12_four cX12_four 3 none 1 12 := ⟨⟨m_t1 1469 rfl rfl, m_t1 17 rfl rfl, ⟨by decide +kernel, by decide +kernel, by decide +kernel⟩, by decide⟩, m_t1 1467 rfl rfl, m_t2 56 51 rfl, rfl, by decide⟩
set_option maxRecDepth 100000 in
theorem mY_X12_end : m_YV yX12_end cX12_end 2 (some .boolean) 1 12 := ⟨⟨m_t1 1473 rfl rfl, m_t1 17 rfl rfl, ⟨by decide +kernel, by decide +kernel, by decide +kernel⟩, by decide⟩, m_t1 1471 rfl rfl, m_t1 1472 rfl rfl, rfl, by decide⟩
set_option maxRecDepth 100000 in
theorem mY_X12_taken : m_YV yX12_taken cX12_taken 2 none 1 12 := ⟨⟨m_t1 1677 rfl rfl, m_t1 17 rfl rfl, ⟨by decide +kernel, by decide +kernel, by decide +kernel⟩, by decide⟩, m_t1 1676 rfl rfl, m_t2 58 51 rfl, rfl, by decide⟩
set_option maxRecDepth 100000 in
theorem mY_X12_isIn : m_Y yX12_isIn cX12_isIn 3 (some .boolean) 3 ∧ Cond.static yX12_isIn ∈ m_tb := ⟨⟨m_t1 1730 rfl rfl, m_t1 17 rfl rfl, ⟨by decide +kernel, by decide +kernel, by decide +kernel⟩, by decide⟩, m_t1 1729 rfl rfl⟩
set_option maxRecDepth 100000 in
theorem mY_X12_bitOf : m_Y yX12_bitOf cX12_bitOf 2 (some .boolean) 2 ∧ Cond.static yX12_bitOf ∈ m_tb := ⟨⟨m_t1 1773 rfl rfl, m_t1 17 rfl rfl, ⟨by decide +kernel, by decide +kernel, by decide +kernel⟩, by decide⟩, m_t1 1772 rfl rfl⟩
set_option maxRecDepth 100000 in
theorem mY_X12_lesser : m_Y yX12_lesser cX12_lesser 2 (some .int) 2 ∧ Cond.static yX12_lesser ∈ m_tb := ⟨⟨m_t1 2012 rfl rfl, m_t1 17 rfl rfl, ⟨by decide +kernel, by decide +kernel, by decide +kernel⟩, by decide⟩, m_t1 2011 rfl rfl⟩
set_option maxRecDepth 100000 in
theorem mY_X12_greater : m_Y yX12_greater cX12_greater 2 (some .int) 2 ∧ Cond.static yX12_greater ∈ m_tb := ⟨⟨m_t1 2075 rfl rfl, m_t1 17 rfl rfl, ⟨by decide +kernel, by decide +kernel, by decide +kernel⟩, by decide⟩, m_t1 2074 rfl rfl⟩
set_option maxRecDepth 100000 in
theorem mY_X12_bits : m_Y yX12_bits cX12_bits 3 (some .int) 1 ∧ Cond.static yX12_bits ∈ m_tb := ⟨⟨m_t1 1996 rfl rfl, m_t1 17 rfl rfl, ⟨by decide +kernel, by decide +kernel, by decide +kernel⟩, by decide⟩, m_t1 1995 rfl rfl⟩
set_option maxRecDepth 100000 in
theorem mY_X12_octet : m_YV yX12_octet cX12_octet 2 (some .int) 1 12 := ⟨⟨m_t1 2060 rfl rfl, m_t1 17 rfl rfl, ⟨by decide +kernel, by decide +kernel, by decide +kernel⟩, by decide⟩, m_t1 2059 rfl rfl, m_t2 121 51 rfl, rfl, by decide⟩
set_option maxRecDepth 100000 in
theorem mY_X12_init : m_Y yX12_init cX12_init 2 none 0 ∧ yX12_init.name = "<init>" ∧ Cond.instanceMethod yX12_init ∈ m_tb := ⟨⟨m_t1 1477 rfl rfl, m_t1 17 rfl rfl, ⟨by decide +kernel, by decide +kernel, by decide +kernel⟩, by decide⟩, rfl, m_t1 1476 rfl rfl⟩
set_option maxRecDepth 100000 in
theorem mY_X12_clears : m_YV yX12_clears cX12_clears 2 none 0 12 := ⟨⟨m_t1 1514 rfl rfl, m_t1 17 rfl rfl, ⟨by decide +kernel, by decide +kernel, by decide +kernel⟩, by decide⟩, m_t1 1513 rfl rfl, m_t2 57 51 rfl, rfl, by decide⟩
set_option maxRecDepth 100000 in
theorem mY_X12_peek : m_YV yX12_peek cX12_peek 1 (some .int) 0 12 := ⟨⟨m_t1 1685 rfl rfl, m_t1 17 rfl rfl, ⟨by decide +kernel, by decide +kernel, by decide +kernel⟩, by decide⟩, m_t1 1684 rfl rfl, m_t2 60 51 rfl, rfl, by decide⟩
set_option maxRecDepth 100000 in
theorem mY_X12_isSmall : m_Y yX12_isSmall cX12_isSmall 1 (some .boolean) 1 ∧ Cond.static yX12_isSmall ∈ m_tb := ⟨⟨m_t1 1688 rfl rfl, m_t1 17 rfl rfl, ⟨by decide +kernel, by decide +kernel, by decide +kernel⟩, by decide⟩, m_t1 1687 rfl rfl⟩
set_option maxRecDepth 100000 in
theorem mY_X12_isDigit : m_Y yX12_isDigit cX12_isDigit 1 (some .boolean) 1 ∧ Cond.static yX12_isDigit ∈ m_tb := ⟨⟨m_t1 1691 rfl rfl, m_t1 17 rfl rfl, ⟨by decide +kernel, by decide +kernel, by decide +kernel⟩, by decide⟩, m_t1 1690 rfl rfl⟩
set_option maxRecDepth 100000 in
theorem mY_X12_next : m_YV yX12_next cX12_next 4 none 0 12 := ⟨⟨m_t1 1681 rfl rfl, m_t1 17 rfl rfl, ⟨by decide +kernel, by decide +kernel, by decide +kernel⟩, by decide⟩, m_t1 1680 rfl rfl, m_t2 59 51 rfl, rfl, by decide⟩
set_option maxRecDepth 100000 in
theorem mY_X12_bad : m_YV yX12_bad cX12_bad 2 (some .boolean) 1 12 := ⟨⟨m_t1 1707 rfl rfl, m_t1 17 rfl rfl, ⟨by decide +kernel, by decide +kernel, by decide +kernel⟩, by decide⟩, m_t1 1706 rfl rfl, m_t2 64 51 rfl, rfl, by decide⟩
set_option maxRecDepth 100000 in
theorem mY_X12_isWord : m_YV yX12_isWord cX12_isWord 3 (some .boolean) 1 12 := ⟨⟨m_t1 1699 rfl rfl, m_t1 17 rfl rfl, ⟨by decide +kernel, by decide +kernel, by decide +kernel⟩, by decide⟩, m_t1 1698 rfl rfl, m_t2 62 51 rfl, rfl, by decide⟩
set_option maxRecDepth 100000 in
theorem mY_X12_isSign : m_YV yX12_isSign cX12_isSign 2 (some .boolean) 1 12 := ⟨⟨m_t1 1785 rfl rfl, m_t1 17 rfl rfl, ⟨by decide +kernel, by decide +kernel, by decide +kernel⟩, by decide⟩, m_t1 1784 rfl rfl, m_t2 82 51 rfl, rfl, by decide⟩
set_option maxRecDepth 100000 in
theorem mY_X12_sign : m_YV yX12_sign cX12_sign 2 (some .boolean) 1 12 := ⟨⟨m_t1 1781 rfl rfl, m_t1 17 rfl rfl, ⟨by decide +kernel, by decide +kernel, by decide +kernel⟩, by decide⟩, m_t1 1780 rfl rfl, m_t2 81 51 rfl, rfl, by decide⟩
set_option maxRecDepth 100000 in
theorem mY_X12_isName : m_YV yX12_isName cX12_isName 3 (some .boolean) 0 12 := ⟨⟨m_t1 1715 rfl rfl, m_t1 17 rfl rfl, ⟨by decide +kernel, by decide +kernel, by decide +kernel⟩, by decide⟩, m_t1 1714 rfl rfl, m_t2 66 51 rfl, rfl, by decide⟩
set_option maxRecDepth 100000 in
theorem mY_X12_takes : m_YV yX12_takes cX12_takes 3 (some .boolean) 2 12 := ⟨⟨m_t1 1727 rfl rfl, m_t1 17 rfl rfl, ⟨by decide +kernel, by decide +kernel, by decide +kernel⟩, by decide⟩, m_t1 1726 rfl rfl, m_t2 69 51 rfl, rfl, by decide⟩
set_option maxRecDepth 100000 in
theorem mY_X12_puts : m_YV yX12_puts cX12_puts 4 (some .boolean) 3 12 := ⟨⟨m_t1 1723 rfl rfl, m_t1 17 rfl rfl, ⟨by decide +kernel, by decide +kernel, by decide +kernel⟩, by decide⟩, m_t1 1722 rfl rfl, m_t2 68 51 rfl, rfl, by decide⟩
set_option maxRecDepth 100000 in
theorem mY_X12_seek : m_YV yX12_seek cX12_seek 4 (some .int) 2 12 := ⟨⟨m_t1 1719 rfl rfl, m_t1 17 rfl rfl, ⟨by decide +kernel, by decide +kernel, by decide +kernel⟩, by decide⟩, m_t1 1718 rfl rfl, m_t2 67 51 rfl, rfl, by decide⟩
set_option maxRecDepth 100000 in
theorem mY_X12_fresh : m_YV yX12_fresh cX12_fresh 2 (some .boolean) 1 12 := ⟨⟨m_t1 1711 rfl rfl, m_t1 17 rfl rfl, ⟨by decide +kernel, by decide +kernel, by decide +kernel⟩, by decide⟩, m_t1 1710 rfl rfl, m_t2 65 51 rfl, rfl, by decide⟩
set_option maxRecDepth 100000 in
theorem mY_X12_looksAt : m_YV yX12_looksAt cX12_looksAt 3 (some .boolean) 2 12 := ⟨⟨m_t1 1742 rfl rfl, m_t1 17 rfl rfl, ⟨by decide +kernel, by decide +kernel, by decide +kernel⟩, by decide⟩, m_t1 1741 rfl rfl, m_t2 72 51 rfl, rfl, by decide⟩
set_option maxRecDepth 100000 in
theorem mY_X12_takesName : m_YV yX12_takesName cX12_takesName 3 (some .boolean) 2 12 := ⟨⟨m_t1 1738 rfl rfl, m_t1 17 rfl rfl, ⟨by decide +kernel, by decide +kernel, by decide +kernel⟩, by decide⟩, m_t1 1737 rfl rfl, m_t2 71 51 rfl, rfl, by decide⟩
set_option maxRecDepth 100000 in
theorem mY_X12_readLine : m_YV yX12_readLine cX12_readLine 1 (some .boolean) 0 12 := ⟨⟨m_t1 1695 rfl rfl, m_t1 17 rfl rfl, ⟨by decide +kernel, by decide +kernel, by decide +kernel⟩, by decide⟩, m_t1 1694 rfl rfl, m_t2 61 51 rfl, rfl, by decide⟩
set_option maxRecDepth 100000 in
theorem mY_X12_readSection : m_YV yX12_readSection cX12_readSection 2 (some .boolean) 0 12 := ⟨⟨m_t1 1703 rfl rfl, m_t1 17 rfl rfl, ⟨by decide +kernel, by decide +kernel, by decide +kernel⟩, by decide⟩, m_t1 1702 rfl rfl, m_t2 63 51 rfl, rfl, by decide⟩
set_option maxRecDepth 100000 in
theorem mY_X12_readPoints : m_YV yX12_readPoints cX12_readPoints 2 (some .boolean) 0 12 := ⟨⟨m_t1 1734 rfl rfl, m_t1 17 rfl rfl, ⟨by decide +kernel, by decide +kernel, by decide +kernel⟩, by decide⟩, m_t1 1733 rfl rfl, m_t2 70 51 rfl, rfl, by decide⟩
set_option maxRecDepth 100000 in
theorem mY_X12_readTrack : m_YV yX12_readTrack cX12_readTrack 5 (some .boolean) 0 12 := ⟨⟨m_t1 1746 rfl rfl, m_t1 17 rfl rfl, ⟨by decide +kernel, by decide +kernel, by decide +kernel⟩, by decide⟩, m_t1 1745 rfl rfl, m_t2 73 51 rfl, rfl, by decide⟩
set_option maxRecDepth 100000 in
theorem mY_X12_readLie : m_YV yX12_readLie cX12_readLie 3 (some .boolean) 1 12 := ⟨⟨m_t1 1750 rfl rfl, m_t1 17 rfl rfl, ⟨by decide +kernel, by decide +kernel, by decide +kernel⟩, by decide⟩, m_t1 1749 rfl rfl, m_t2 74 51 rfl, rfl, by decide⟩
set_option maxRecDepth 100000 in
theorem mY_X12_wayWord : m_YV yX12_wayWord cX12_wayWord 1 (some .int) 0 12 := ⟨⟨m_t1 1758 rfl rfl, m_t1 17 rfl rfl, ⟨by decide +kernel, by decide +kernel, by decide +kernel⟩, by decide⟩, m_t1 1757 rfl rfl, m_t2 76 51 rfl, rfl, by decide⟩
set_option maxRecDepth 100000 in
theorem mY_X12_readSignal : m_YV yX12_readSignal cX12_readSignal 5 (some .boolean) 0 12 := ⟨⟨m_t1 1754 rfl rfl, m_t1 17 rfl rfl, ⟨by decide +kernel, by decide +kernel, by decide +kernel⟩, by decide⟩, m_t1 1753 rfl rfl, m_t2 75 51 rfl, rfl, by decide⟩
set_option maxRecDepth 100000 in
theorem mY_X12_readRoute : m_YV yX12_readRoute cX12_readRoute 2 (some .boolean) 0 12 := ⟨⟨m_t1 1762 rfl rfl, m_t1 17 rfl rfl, ⟨by decide +kernel, by decide +kernel, by decide +kernel⟩, by decide⟩, m_t1 1761 rfl rfl, m_t2 77 51 rfl, rfl, by decide⟩
set_option maxRecDepth 100000 in
theorem mY_X12_readOver : m_YV yX12_readOver cX12_readOver 10 (some .boolean) 0 12 := ⟨⟨m_t1 1766 rfl rfl, m_t1 17 rfl rfl, ⟨by decide +kernel, by decide +kernel, by decide +kernel⟩, by decide⟩, m_t1 1765 rfl rfl, m_t2 78 51 rfl, rfl, by decide⟩
set_option maxRecDepth 100000 in
theorem mY_X12_readLock : m_YV yX12_readLock cX12_readLock 2 (some .boolean) 0 12 := ⟨⟨m_t1 1770 rfl rfl, m_t1 17 rfl rfl, ⟨by decide +kernel, by decide +kernel, by decide +kernel⟩, by decide⟩, m_t1 1769 rfl rfl, m_t2 79 51 rfl, rfl, by decide⟩
set_option maxRecDepth 100000 in
theorem mY_X12_readTrain : m_YV yX12_readTrain cX12_readTrain 3 (some .boolean) 0 12 := ⟨⟨m_t1 1777 rfl rfl, m_t1 17 rfl rfl, ⟨by decide +kernel, by decide +kernel, by decide +kernel⟩, by decide⟩, m_t1 1776 rfl rfl, m_t2 80 51 rfl, rfl, by decide⟩
set_option maxRecDepth 100000 in
theorem mY_X12_layout : m_YV yX12_layout cX12_layout 2 (some .int) 0 12 := ⟨⟨m_t1 1673 rfl rfl, m_t1 17 rfl rfl, ⟨by decide +kernel, by decide +kernel, by decide +kernel⟩, by decide⟩, m_t1 1671 rfl rfl, m_t1 1672 rfl rfl, rfl, by decide⟩
set_option maxRecDepth 100000 in
theorem mY_X12_fault : m_YV yX12_fault cX12_fault 1 (some .int) 0 12 := ⟨⟨m_t1 1789 rfl rfl, m_t1 17 rfl rfl, ⟨by decide +kernel, by decide +kernel, by decide +kernel⟩, by decide⟩, m_t1 1787 rfl rfl, m_t1 1788 rfl rfl, rfl, by decide⟩
set_option maxRecDepth 100000 in
theorem mY_X12_isSection : m_YV yX12_isSection cX12_isSection 2 (some .boolean) 1 12 := ⟨⟨m_t1 1797 rfl rfl, m_t1 17 rfl rfl, ⟨by decide +kernel, by decide +kernel, by decide +kernel⟩, by decide⟩, m_t1 1796 rfl rfl, m_t2 83 51 rfl, rfl, by decide⟩
set_option maxRecDepth 100000 in
theorem mY_X12_arePoints : m_YV yX12_arePoints cX12_arePoints 2 (some .boolean) 1 12 := ⟨⟨m_t1 1821 rfl rfl, m_t1 17 rfl rfl, ⟨by decide +kernel, by decide +kernel, by decide +kernel⟩, by decide⟩, m_t1 1820 rfl rfl, m_t2 88 51 rfl, rfl, by decide⟩
set_option maxRecDepth 100000 in
theorem mY_X12_isRoute : m_YV yX12_isRoute cX12_isRoute 2 (some .boolean) 1 12 := ⟨⟨m_t1 1845 rfl rfl, m_t1 17 rfl rfl, ⟨by decide +kernel, by decide +kernel, by decide +kernel⟩, by decide⟩, m_t1 1844 rfl rfl, m_t2 92 51 rfl, rfl, by decide⟩
set_option maxRecDepth 100000 in
theorem mY_X12_isTrain : m_YV yX12_isTrain cX12_isTrain 2 (some .boolean) 1 12 := ⟨⟨m_t1 1865 rfl rfl, m_t1 17 rfl rfl, ⟨by decide +kernel, by decide +kernel, by decide +kernel⟩, by decide⟩, m_t1 1864 rfl rfl, m_t2 95 51 rfl, rfl, by decide⟩
set_option maxRecDepth 100000 in
theorem mY_X12_trainIn : m_YV yX12_trainIn cX12_trainIn 4 (some .int) 2 12 := ⟨⟨m_t1 1805 rfl rfl, m_t1 17 rfl rfl, ⟨by decide +kernel, by decide +kernel, by decide +kernel⟩, by decide⟩, m_t1 1804 rfl rfl, m_t2 85 51 rfl, rfl, by decide⟩
set_option maxRecDepth 100000 in
theorem mY_X12_showsBy : m_YV yX12_showsBy cX12_showsBy 3 (some .boolean) 2 12 := ⟨⟨m_t1 1813 rfl rfl, m_t1 17 rfl rfl, ⟨by decide +kernel, by decide +kernel, by decide +kernel⟩, by decide⟩, m_t1 1812 rfl rfl, m_t2 87 51 rfl, rfl, by decide⟩
set_option maxRecDepth 100000 in
theorem mY_X12_showsFull : m_YV yX12_showsFull cX12_showsFull 2 (some .boolean) 1 12 := ⟨⟨m_t1 1809 rfl rfl, m_t1 17 rfl rfl, ⟨by decide +kernel, by decide +kernel, by decide +kernel⟩, by decide⟩, m_t1 1808 rfl rfl, m_t2 86 51 rfl, rfl, by decide⟩
set_option maxRecDepth 100000 in
theorem mY_X12_sectionsOf : m_YV yX12_sectionsOf cX12_sectionsOf 4 (some .int) 1 12 := ⟨⟨m_t1 1801 rfl rfl, m_t1 17 rfl rfl, ⟨by decide +kernel, by decide +kernel, by decide +kernel⟩, by decide⟩, m_t1 1800 rfl rfl, m_t2 84 51 rfl, rfl, by decide⟩
set_option maxRecDepth 100000 in
theorem mY_X12_isConflict : m_YV yX12_isConflict cX12_isConflict 3 (some .boolean) 2 12 := ⟨⟨m_t1 1853 rfl rfl, m_t1 17 rfl rfl, ⟨by decide +kernel, by decide +kernel, by decide +kernel⟩, by decide⟩, m_t1 1852 rfl rfl, m_t2 94 51 rfl, rfl, by decide⟩
set_option maxRecDepth 100000 in
theorem mY_X12_conflictsOf : m_YV yX12_conflictsOf cX12_conflictsOf 4 (some .int) 1 12 := ⟨⟨m_t1 1849 rfl rfl, m_t1 17 rfl rfl, ⟨by decide +kernel, by decide +kernel, by decide +kernel⟩, by decide⟩, m_t1 1848 rfl rfl, m_t2 93 51 rfl, rfl, by decide⟩
set_option maxRecDepth 100000 in
theorem mY_X12_routesOf : m_YV yX12_routesOf cX12_routesOf 4 (some .int) 1 12 := ⟨⟨m_t1 1837 rfl rfl, m_t1 17 rfl rfl, ⟨by decide +kernel, by decide +kernel, by decide +kernel⟩, by decide⟩, m_t1 1836 rfl rfl, m_t2 91 51 rfl, rfl, by decide⟩
set_option maxRecDepth 100000 in
theorem mY_X12_busy : m_YV yX12_busy cX12_busy 3 (some .int) 0 12 := ⟨⟨m_t1 1881 rfl rfl, m_t1 17 rfl rfl, ⟨by decide +kernel, by decide +kernel, by decide +kernel⟩, by decide⟩, m_t1 1880 rfl rfl, m_t2 98 51 rfl, rfl, by decide⟩
set_option maxRecDepth 100000 in
theorem mY_X12_wanting : m_YV yX12_wanting cX12_wanting 5 (some .int) 2 12 := ⟨⟨m_t1 1825 rfl rfl, m_t1 17 rfl rfl, ⟨by decide +kernel, by decide +kernel, by decide +kernel⟩, by decide⟩, m_t1 1824 rfl rfl, m_t2 89 51 rfl, rfl, by decide⟩
set_option maxRecDepth 100000 in
theorem mY_X12_section : m_YV yX12_section cX12_section 5 (some .int) 2 12 := ⟨⟨m_t1 1793 rfl rfl, m_t1 17 rfl rfl, ⟨by decide +kernel, by decide +kernel, by decide +kernel⟩, by decide⟩, m_t1 1791 rfl rfl, m_t1 1792 rfl rfl, rfl, by decide⟩
set_option maxRecDepth 100000 in
theorem mY_X12_points : m_YV yX12_points cX12_points 3 (some .int) 2 12 := ⟨⟨m_t1 1817 rfl rfl, m_t1 17 rfl rfl, ⟨by decide +kernel, by decide +kernel, by decide +kernel⟩, by decide⟩, m_t1 1815 rfl rfl, m_t1 1816 rfl rfl, rfl, by decide⟩
set_option maxRecDepth 100000 in
theorem mY_X12_setOf : m_YV yX12_setOf cX12_setOf 3 (some .int) 1 12 := ⟨⟨m_t1 1833 rfl rfl, m_t1 17 rfl rfl, ⟨by decide +kernel, by decide +kernel, by decide +kernel⟩, by decide⟩, m_t1 1832 rfl rfl, m_t2 90 51 rfl, rfl, by decide⟩
set_option maxRecDepth 100000 in
theorem mY_X12_signal : m_YV yX12_signal cX12_signal 3 (some .int) 2 12 := ⟨⟨m_t1 1829 rfl rfl, m_t1 17 rfl rfl, ⟨by decide +kernel, by decide +kernel, by decide +kernel⟩, by decide⟩, m_t1 1827 rfl rfl, m_t1 1828 rfl rfl, rfl, by decide⟩
set_option maxRecDepth 100000 in
theorem mY_X12_route : m_YV yX12_route cX12_route 3 (some .int) 2 12 := ⟨⟨m_t1 1841 rfl rfl, m_t1 17 rfl rfl, ⟨by decide +kernel, by decide +kernel, by decide +kernel⟩, by decide⟩, m_t1 1839 rfl rfl, m_t1 1840 rfl rfl, rfl, by decide⟩
set_option maxRecDepth 100000 in
theorem mY_X12_over : m_YV yX12_over cX12_over 3 (some .int) 2 12 := ⟨⟨m_t1 1857 rfl rfl, m_t1 17 rfl rfl, ⟨by decide +kernel, by decide +kernel, by decide +kernel⟩, by decide⟩, m_t1 1855 rfl rfl, m_t1 1856 rfl rfl, rfl, by decide⟩
set_option maxRecDepth 100000 in
theorem mY_X12_usedBy : m_YV yX12_usedBy cX12_usedBy 4 (some .int) 1 12 := ⟨⟨m_t1 1873 rfl rfl, m_t1 17 rfl rfl, ⟨by decide +kernel, by decide +kernel, by decide +kernel⟩, by decide⟩, m_t1 1872 rfl rfl, m_t2 97 51 rfl, rfl, by decide⟩
set_option maxRecDepth 100000 in
theorem mY_X12_train : m_YV yX12_train cX12_train 3 (some .int) 2 12 := ⟨⟨m_t1 1861 rfl rfl, m_t1 17 rfl rfl, ⟨by decide +kernel, by decide +kernel, by decide +kernel⟩, by decide⟩, m_t1 1859 rfl rfl, m_t1 1860 rfl rfl, rfl, by decide⟩
set_option maxRecDepth 100000 in
theorem mY_X12_now : m_YV yX12_now cX12_now 5 (some .int) 1 12 := ⟨⟨m_t1 1877 rfl rfl, m_t1 17 rfl rfl, ⟨by decide +kernel, by decide +kernel, by decide +kernel⟩, by decide⟩, m_t1 1875 rfl rfl, m_t1 1876 rfl rfl, rfl, by decide⟩
set_option maxRecDepth 100000 in
theorem mY_X12_wrongPoints : m_YV yX12_wrongPoints cX12_wrongPoints 2 (some .int) 1 12 := ⟨⟨m_t1 1897 rfl rfl, m_t1 17 rfl rfl, ⟨by decide +kernel, by decide +kernel, by decide +kernel⟩, by decide⟩, m_t1 1896 rfl rfl, m_t2 101 51 rfl, rfl, by decide⟩
set_option maxRecDepth 100000 in
theorem mY_X12_hasFull : m_YV yX12_hasFull cX12_hasFull 4 (some .boolean) 1 12 := ⟨⟨m_t1 1901 rfl rfl, m_t1 17 rfl rfl, ⟨by decide +kernel, by decide +kernel, by decide +kernel⟩, by decide⟩, m_t1 1900 rfl rfl, m_t2 102 51 rfl, rfl, by decide⟩
set_option maxRecDepth 100000 in
theorem mY_X12_rivals : m_YV yX12_rivals cX12_rivals 2 (some .int) 1 12 := ⟨⟨m_t1 1893 rfl rfl, m_t1 17 rfl rfl, ⟨by decide +kernel, by decide +kernel, by decide +kernel⟩, by decide⟩, m_t1 1892 rfl rfl, m_t2 100 51 rfl, rfl, by decide⟩
set_option maxRecDepth 100000 in
theorem mY_X12_whySet : m_YV yX12_whySet cX12_whySet 2 (some .int) 1 12 := ⟨⟨m_t1 1889 rfl rfl, m_t1 17 rfl rfl, ⟨by decide +kernel, by decide +kernel, by decide +kernel⟩, by decide⟩, m_t1 1888 rfl rfl, m_t2 99 51 rfl, rfl, by decide⟩
set_option maxRecDepth 100000 in
theorem mY_X12_isMet : m_YV yX12_isMet cX12_isMet 5 (some .boolean) 1 12 := ⟨⟨m_t1 1917 rfl rfl, m_t1 17 rfl rfl, ⟨by decide +kernel, by decide +kernel, by decide +kernel⟩, by decide⟩, m_t1 1916 rfl rfl, m_t2 105 51 rfl, rfl, by decide⟩
set_option maxRecDepth 100000 in
theorem mY_X12_putsBack : m_YV yX12_putsBack cX12_putsBack 2 none 1 12 := ⟨⟨m_t1 1913 rfl rfl, m_t1 17 rfl rfl, ⟨by decide +kernel, by decide +kernel, by decide +kernel⟩, by decide⟩, m_t1 1912 rfl rfl, m_t2 104 51 rfl, rfl, by decide⟩
set_option maxRecDepth 100000 in
theorem mY_X12_whyThrow : m_YV yX12_whyThrow cX12_whyThrow 2 (some .int) 1 12 := ⟨⟨m_t1 1925 rfl rfl, m_t1 17 rfl rfl, ⟨by decide +kernel, by decide +kernel, by decide +kernel⟩, by decide⟩, m_t1 1924 rfl rfl, m_t2 106 51 rfl, rfl, by decide⟩
set_option maxRecDepth 100000 in
theorem mY_X12_signalFor : m_YV yX12_signalFor cX12_signalFor 3 (some .int) 1 12 := ⟨⟨m_t1 1957 rfl rfl, m_t1 17 rfl rfl, ⟨by decide +kernel, by decide +kernel, by decide +kernel⟩, by decide⟩, m_t1 1956 rfl rfl, m_t2 111 51 rfl, rfl, by decide⟩
set_option maxRecDepth 100000 in
theorem mY_X12_goesTo : m_YV yX12_goesTo cX12_goesTo 7 (some .int) 1 12 := ⟨⟨m_t1 1953 rfl rfl, m_t1 17 rfl rfl, ⟨by decide +kernel, by decide +kernel, by decide +kernel⟩, by decide⟩, m_t1 1952 rfl rfl, m_t2 110 51 rfl, rfl, by decide⟩
set_option maxRecDepth 100000 in
theorem mY_X12_moves : m_YV yX12_moves cX12_moves 5 none 1 12 := ⟨⟨m_t1 1949 rfl rfl, m_t1 17 rfl rfl, ⟨by decide +kernel, by decide +kernel, by decide +kernel⟩, by decide⟩, m_t1 1948 rfl rfl, m_t2 109 51 rfl, rfl, by decide⟩
set_option maxRecDepth 100000 in
theorem mY_X12_meets : m_YV yX12_meets cX12_meets 4 none 2 12 := ⟨⟨m_t1 1961 rfl rfl, m_t1 17 rfl rfl, ⟨by decide +kernel, by decide +kernel, by decide +kernel⟩, by decide⟩, m_t1 1960 rfl rfl, m_t2 112 51 rfl, rfl, by decide⟩
set_option maxRecDepth 100000 in
theorem mY_X12_tick : m_YV yX12_tick cX12_tick 3 (some .boolean) 0 12 := ⟨⟨m_t1 1945 rfl rfl, m_t1 17 rfl rfl, ⟨by decide +kernel, by decide +kernel, by decide +kernel⟩, by decide⟩, m_t1 1944 rfl rfl, m_t2 108 51 rfl, rfl, by decide⟩
set_option maxRecDepth 100000 in
theorem mY_X12_goesOn : m_YV yX12_goesOn cX12_goesOn 3 (some .int) 1 12 := ⟨⟨m_t1 1941 rfl rfl, m_t1 17 rfl rfl, ⟨by decide +kernel, by decide +kernel, by decide +kernel⟩, by decide⟩, m_t1 1940 rfl rfl, m_t2 107 51 rfl, rfl, by decide⟩
set_option maxRecDepth 100000 in
theorem mY_X12_set : m_YV yX12_set cX12_set 3 (some .int) 1 12 := ⟨⟨m_t1 1885 rfl rfl, m_t1 17 rfl rfl, ⟨by decide +kernel, by decide +kernel, by decide +kernel⟩, by decide⟩, m_t1 1883 rfl rfl, m_t1 1884 rfl rfl, rfl, by decide⟩
set_option maxRecDepth 100000 in
theorem mY_X12_back : m_YV yX12_back cX12_back 2 (some .int) 1 12 := ⟨⟨m_t1 1909 rfl rfl, m_t1 17 rfl rfl, ⟨by decide +kernel, by decide +kernel, by decide +kernel⟩, by decide⟩, m_t1 1907 rfl rfl, m_t1 1908 rfl rfl, rfl, by decide⟩
set_option maxRecDepth 100000 in
theorem mY_X12_turn : m_YV yX12_turn cX12_turn 3 (some .int) 1 12 := ⟨⟨m_t1 1921 rfl rfl, m_t1 17 rfl rfl, ⟨by decide +kernel, by decide +kernel, by decide +kernel⟩, by decide⟩, m_t1 1919 rfl rfl, m_t1 1920 rfl rfl, rfl, by decide⟩
set_option maxRecDepth 100000 in
theorem mY_X12_fail : m_YV yX12_fail cX12_fail 3 (some .int) 2 12 := ⟨⟨m_t1 1929 rfl rfl, m_t1 17 rfl rfl, ⟨by decide +kernel, by decide +kernel, by decide +kernel⟩, by decide⟩, m_t1 1927 rfl rfl, m_t1 1928 rfl rfl, rfl, by decide⟩
set_option maxRecDepth 100000 in
theorem mY_X12_mend : m_YV yX12_mend cX12_mend 2 (some .int) 1 12 := ⟨⟨m_t1 1933 rfl rfl, m_t1 17 rfl rfl, ⟨by decide +kernel, by decide +kernel, by decide +kernel⟩, by decide⟩, m_t1 1931 rfl rfl, m_t1 1932 rfl rfl, rfl, by decide⟩
set_option maxRecDepth 100000 in
theorem mY_X12_ticks : m_YV yX12_ticks cX12_ticks 2 (some .int) 1 12 := ⟨⟨m_t1 1937 rfl rfl, m_t1 17 rfl rfl, ⟨by decide +kernel, by decide +kernel, by decide +kernel⟩, by decide⟩, m_t1 1935 rfl rfl, m_t1 1936 rfl rfl, rfl, by decide⟩
set_option maxRecDepth 100000 in
theorem mY_X12_stores : m_YV yX12_stores cX12_stores 2 none 0 12 := ⟨⟨m_t1 1905 rfl rfl, m_t1 17 rfl rfl, ⟨by decide +kernel, by decide +kernel, by decide +kernel⟩, by decide⟩, m_t1 1904 rfl rfl, m_t2 103 51 rfl, rfl, by decide⟩
set_option maxRecDepth 100000 in
theorem mY_X12_undo : m_YV yX12_undo cX12_undo 2 (some .int) 0 12 := ⟨⟨m_t1 1965 rfl rfl, m_t1 17 rfl rfl, ⟨by decide +kernel, by decide +kernel, by decide +kernel⟩, by decide⟩, m_t1 1963 rfl rfl, m_t1 1964 rfl rfl, rfl, by decide⟩
set_option maxRecDepth 100000 in
theorem mY_X12_tries : m_YV yX12_tries cX12_tries 2 none 0 12 := ⟨⟨m_t1 2044 rfl rfl, m_t1 17 rfl rfl, ⟨by decide +kernel, by decide +kernel, by decide +kernel⟩, by decide⟩, m_t1 2043 rfl rfl, m_t2 119 51 rfl, rfl, by decide⟩
set_option maxRecDepth 100000 in
theorem mY_X12_brings : m_YV yX12_brings cX12_brings 2 none 0 12 := ⟨⟨m_t1 2048 rfl rfl, m_t1 17 rfl rfl, ⟨by decide +kernel, by decide +kernel, by decide +kernel⟩, by decide⟩, m_t1 2047 rfl rfl, m_t2 120 51 rfl, rfl, by decide⟩
set_option maxRecDepth 100000 in
theorem mY_X12_isLacking : m_YV yX12_isLacking cX12_isLacking 3 (some .boolean) 2 12 := ⟨⟨m_t1 1973 rfl rfl, m_t1 17 rfl rfl, ⟨by decide +kernel, by decide +kernel, by decide +kernel⟩, by decide⟩, m_t1 1972 rfl rfl, m_t2 113 51 rfl, rfl, by decide⟩
set_option maxRecDepth 100000 in
theorem mY_X12_lacking : m_YV yX12_lacking cX12_lacking 4 (some .int) 0 12 := ⟨⟨m_t1 1969 rfl rfl, m_t1 17 rfl rfl, ⟨by decide +kernel, by decide +kernel, by decide +kernel⟩, by decide⟩, m_t1 1967 rfl rfl, m_t1 1968 rfl rfl, rfl, by decide⟩
set_option maxRecDepth 100000 in
theorem mY_X12_lacks : m_YV yX12_lacks cX12_lacks 5 (some .int) 1 12 := ⟨⟨m_t1 1977 rfl rfl, m_t1 17 rfl rfl, ⟨by decide +kernel, by decide +kernel, by decide +kernel⟩, by decide⟩, m_t1 1975 rfl rfl, m_t1 1976 rfl rfl, rfl, by decide⟩
set_option maxRecDepth 100000 in
theorem mY_X12_spare : m_YV yX12_spare cX12_spare 4 (some .int) 0 12 := ⟨⟨m_t1 1981 rfl rfl, m_t1 17 rfl rfl, ⟨by decide +kernel, by decide +kernel, by decide +kernel⟩, by decide⟩, m_t1 1979 rfl rfl, m_t1 1980 rfl rfl, rfl, by decide⟩
set_option maxRecDepth 100000 in
theorem mY_X12_pulls : m_YV yX12_pulls cX12_pulls 6 (some .int) 1 12 := ⟨⟨m_t1 1985 rfl rfl, m_t1 17 rfl rfl, ⟨by decide +kernel, by decide +kernel, by decide +kernel⟩, by decide⟩, m_t1 1983 rfl rfl, m_t1 1984 rfl rfl, rfl, by decide⟩
set_option maxRecDepth 100000 in
theorem mY_X12_pullsAt : m_YV yX12_pullsAt cX12_pullsAt 2 (some .int) 1 12 := ⟨⟨m_t1 1989 rfl rfl, m_t1 17 rfl rfl, ⟨by decide +kernel, by decide +kernel, by decide +kernel⟩, by decide⟩, m_t1 1987 rfl rfl, m_t1 1988 rfl rfl, rfl, by decide⟩
set_option maxRecDepth 100000 in
theorem mY_X12_areTogether : m_YV yX12_areTogether cX12_areTogether 4 (some .boolean) 1 12 := ⟨⟨m_t1 2000 rfl rfl, m_t1 17 rfl rfl, ⟨by decide +kernel, by decide +kernel, by decide +kernel⟩, by decide⟩, m_t1 1999 rfl rfl, m_t2 114 51 rfl, rfl, by decide⟩
set_option maxRecDepth 100000 in
theorem mY_X12_together : m_YV yX12_together cX12_together 3 (some .int) 0 12 := ⟨⟨m_t1 1993 rfl rfl, m_t1 17 rfl rfl, ⟨by decide +kernel, by decide +kernel, by decide +kernel⟩, by decide⟩, m_t1 1991 rfl rfl, m_t1 1992 rfl rfl, rfl, by decide⟩
set_option maxRecDepth 100000 in
theorem mY_X12_those : m_YV yX12_those cX12_those 1 (some .int) 0 12 := ⟨⟨m_t1 2004 rfl rfl, m_t1 17 rfl rfl, ⟨by decide +kernel, by decide +kernel, by decide +kernel⟩, by decide⟩, m_t1 2002 rfl rfl, m_t1 2003 rfl rfl, rfl, by decide⟩
set_option maxRecDepth 100000 in
theorem mY_X12_rounds : m_YV yX12_rounds cX12_rounds 7 (some .int) 0 12 := ⟨⟨m_t1 2008 rfl rfl, m_t1 17 rfl rfl, ⟨by decide +kernel, by decide +kernel, by decide +kernel⟩, by decide⟩, m_t1 2006 rfl rfl, m_t1 2007 rfl rfl, rfl, by decide⟩
set_option maxRecDepth 100000 in
theorem mY_X12_endOf : m_YV yX12_endOf cX12_endOf 2 (some .int) 1 12 := ⟨⟨m_t1 2032 rfl rfl, m_t1 17 rfl rfl, ⟨by decide +kernel, by decide +kernel, by decide +kernel⟩, by decide⟩, m_t1 2031 rfl rfl, m_t2 118 51 rfl, rfl, by decide⟩
set_option maxRecDepth 100000 in
theorem mY_X12_isFrom : m_YV yX12_isFrom cX12_isFrom 4 (some .boolean) 3 12 := ⟨⟨m_t1 2024 rfl rfl, m_t1 17 rfl rfl, ⟨by decide +kernel, by decide +kernel, by decide +kernel⟩, by decide⟩, m_t1 2023 rfl rfl, m_t2 116 51 rfl, rfl, by decide⟩
set_option maxRecDepth 100000 in
theorem mY_X12_wantsBy : m_YV yX12_wantsBy cX12_wantsBy 3 (some .int) 2 12 := ⟨⟨m_t1 2028 rfl rfl, m_t1 17 rfl rfl, ⟨by decide +kernel, by decide +kernel, by decide +kernel⟩, by decide⟩, m_t1 2027 rfl rfl, m_t2 117 51 rfl, rfl, by decide⟩
set_option maxRecDepth 100000 in
theorem mY_X12_laysWants : m_YV yX12_laysWants cX12_laysWants 6 none 2 12 := ⟨⟨m_t1 2020 rfl rfl, m_t1 17 rfl rfl, ⟨by decide +kernel, by decide +kernel, by decide +kernel⟩, by decide⟩, m_t1 2019 rfl rfl, m_t2 115 51 rfl, rfl, by decide⟩
set_option maxRecDepth 100000 in
theorem mY_X12_path : m_YV yX12_path cX12_path 8 (some .int) 2 12 := ⟨⟨m_t1 2016 rfl rfl, m_t1 17 rfl rfl, ⟨by decide +kernel, by decide +kernel, by decide +kernel⟩, by decide⟩, m_t1 2014 rfl rfl, m_t1 2015 rfl rfl, rfl, by decide⟩
set_option maxRecDepth 100000 in
theorem mY_X12_pathAt : m_YV yX12_pathAt cX12_pathAt 2 (some .int) 1 12 := ⟨⟨m_t1 2036 rfl rfl, m_t1 17 rfl rfl, ⟨by decide +kernel, by decide +kernel, by decide +kernel⟩, by decide⟩, m_t1 2034 rfl rfl, m_t1 2035 rfl rfl, rfl, by decide⟩
set_option maxRecDepth 100000 in
theorem mY_X12_comes : m_YV yX12_comes cX12_comes 5 (some .int) 2 12 := ⟨⟨m_t1 2040 rfl rfl, m_t1 17 rfl rfl, ⟨by decide +kernel, by decide +kernel, by decide +kernel⟩, by decide⟩, m_t1 2038 rfl rfl, m_t1 2039 rfl rfl, rfl, by decide⟩
set_option maxRecDepth 100000 in
theorem mY_X12_meet : m_YV yX12_meet cX12_meet 4 (some .int) 0 12 := ⟨⟨m_t1 2052 rfl rfl, m_t1 17 rfl rfl, ⟨by decide +kernel, by decide +kernel, by decide +kernel⟩, by decide⟩, m_t1 2050 rfl rfl, m_t1 2051 rfl rfl, rfl, by decide⟩
set_option maxRecDepth 100000 in
theorem mY_X12_showsAt : m_YV yX12_showsAt cX12_showsAt 3 (some .int) 2 12 := ⟨⟨m_t1 2068 rfl rfl, m_t1 17 rfl rfl, ⟨by decide +kernel, by decide +kernel, by decide +kernel⟩, by decide⟩, m_t1 2067 rfl rfl, m_t2 123 51 rfl, rfl, by decide⟩
set_option maxRecDepth 100000 in
theorem mY_X12_isFit : m_YV yX12_isFit cX12_isFit 4 (some .boolean) 1 12 := ⟨⟨m_t1 2064 rfl rfl, m_t1 17 rfl rfl, ⟨by decide +kernel, by decide +kernel, by decide +kernel⟩, by decide⟩, m_t1 2063 rfl rfl, m_t2 122 51 rfl, rfl, by decide⟩
set_option maxRecDepth 100000 in
theorem mY_X12_leftBy : m_YV yX12_leftBy cX12_leftBy 4 (some .int) 1 12 := ⟨⟨m_t1 2072 rfl rfl, m_t1 17 rfl rfl, ⟨by decide +kernel, by decide +kernel, by decide +kernel⟩, by decide⟩, m_t1 2071 rfl rfl, m_t2 124 51 rfl, rfl, by decide⟩
set_option maxRecDepth 100000 in
theorem mY_X12_fits : m_YV yX12_fits cX12_fits 3 (some .int) 0 12 := ⟨⟨m_t1 2056 rfl rfl, m_t1 17 rfl rfl, ⟨by decide +kernel, by decide +kernel, by decide +kernel⟩, by decide⟩, m_t1 2054 rfl rfl, m_t1 2055 rfl rfl, rfl, by decide⟩
set_option maxRecDepth 100000 in
theorem mY_X12_fitsAt : m_YV yX12_fitsAt cX12_fitsAt 2 (some .int) 1 12 := ⟨⟨m_t1 2079 rfl rfl, m_t1 17 rfl rfl, ⟨by decide +kernel, by decide +kernel, by decide +kernel⟩, by decide⟩, m_t1 2077 rfl rfl, m_t1 2078 rfl rfl, rfl, by decide⟩
set_option maxRecDepth 100000 in
theorem mY_X12_ask : m_YV yX12_ask cX12_ask 1 (some .int) 0 12 := ⟨⟨m_t1 2083 rfl rfl, m_t1 17 rfl rfl, ⟨by decide +kernel, by decide +kernel, by decide +kernel⟩, by decide⟩, m_t1 2081 rfl rfl, m_t1 2082 rfl rfl, rfl, by decide⟩
set_option maxRecDepth 100000 in
theorem mY_X12_waitedInAll : m_YV yX12_waitedInAll cX12_waitedInAll 3 (some .int) 0 12 := ⟨⟨m_t1 2091 rfl rfl, m_t1 17 rfl rfl, ⟨by decide +kernel, by decide +kernel, by decide +kernel⟩, by decide⟩, m_t1 2090 rfl rfl, m_t2 125 51 rfl, rfl, by decide⟩
set_option maxRecDepth 100000 in
theorem mY_X12_mean : m_YV yX12_mean cX12_mean 5 (some .int) 1 12 := ⟨⟨m_t1 2087 rfl rfl, m_t1 17 rfl rfl, ⟨by decide +kernel, by decide +kernel, by decide +kernel⟩, by decide⟩, m_t1 2085 rfl rfl, m_t1 2086 rfl rfl, rfl, by decide⟩
set_option maxRecDepth 100000 in
theorem mY_X12_lays : m_YV yX12_lays cX12_lays 2 none 1 12 := ⟨⟨m_t1 2104 rfl rfl, m_t1 17 rfl rfl, ⟨by decide +kernel, by decide +kernel, by decide +kernel⟩, by decide⟩, m_t1 2103 rfl rfl, m_t2 127 51 rfl, rfl, by decide⟩
set_option maxRecDepth 100000 in
theorem mY_X12_spells : m_YV yX12_spells cX12_spells 4 none 1 12 := ⟨⟨m_t1 2099 rfl rfl, m_t1 17 rfl rfl, ⟨by decide +kernel, by decide +kernel, by decide +kernel⟩, by decide⟩, m_t1 2098 rfl rfl, m_t2 126 51 rfl, rfl, by decide⟩
set_option maxRecDepth 100000 in
theorem mY_X12_says : m_YV yX12_says cX12_says 3 none 1 12 := ⟨⟨m_t1 2108 rfl rfl, m_t1 17 rfl rfl, ⟨by decide +kernel, by decide +kernel, by decide +kernel⟩, by decide⟩, m_t1 2107 rfl rfl, m_t2 128 51 rfl, rfl, by decide⟩
set_option maxRecDepth 100000 in
theorem mY_X12_tag : m_YV yX12_tag cX12_tag 2 (some .int) 1 12 := ⟨⟨m_t1 2095 rfl rfl, m_t1 17 rfl rfl, ⟨by decide +kernel, by decide +kernel, by decide +kernel⟩, by decide⟩, m_t1 2093 rfl rfl, m_t1 2094 rfl rfl, rfl, by decide⟩
set_option maxRecDepth 100000 in
theorem mY_X12_byteAt : m_YV yX12_byteAt cX12_byteAt 2 (some .int) 1 12 := ⟨⟨m_t1 2113 rfl rfl, m_t1 17 rfl rfl, ⟨by decide +kernel, by decide +kernel, by decide +kernel⟩, by decide⟩, m_t1 2111 rfl rfl, m_t1 2112 rfl rfl, rfl, by decide⟩
set_option maxRecDepth 100000 in
theorem mY_X12_draw : m_YV yX12_draw cX12_draw 2 (some .int) 1 12 := ⟨⟨m_t1 2129 rfl rfl, m_t1 17 rfl rfl, ⟨by decide +kernel, by decide +kernel, by decide +kernel⟩, by decide⟩, m_t1 2128 rfl rfl, m_t2 131 51 rfl, rfl, by decide⟩
set_option maxRecDepth 100000 in
theorem mY_X12_drawTick : m_YV yX12_drawTick cX12_drawTick 3 none 0 12 := ⟨⟨m_t1 2125 rfl rfl, m_t1 17 rfl rfl, ⟨by decide +kernel, by decide +kernel, by decide +kernel⟩, by decide⟩, m_t1 2124 rfl rfl, m_t2 130 51 rfl, rfl, by decide⟩
set_option maxRecDepth 100000 in
theorem mY_X12_draws : m_YV yX12_draws cX12_draws 4 (some .int) 2 12 := ⟨⟨m_t1 2121 rfl rfl, m_t1 17 rfl rfl, ⟨by decide +kernel, by decide +kernel, by decide +kernel⟩, by decide⟩, m_t1 2120 rfl rfl, m_t2 129 51 rfl, rfl, by decide⟩
set_option maxRecDepth 100000 in
theorem mY_X12_drawn : m_YV yX12_drawn cX12_drawn 3 (some .int) 2 12 := ⟨⟨m_t1 2117 rfl rfl, m_t1 17 rfl rfl, ⟨by decide +kernel, by decide +kernel, by decide +kernel⟩, by decide⟩, m_t1 2115 rfl rfl, m_t1 2116 rfl rfl, rfl, by decide⟩
set_option maxRecDepth 100000 in
theorem mY_X12_odds : m_YV yX12_odds cX12_odds 6 (some .int) 2 12 := ⟨⟨m_t1 2134 rfl rfl, m_t1 17 rfl rfl, ⟨by decide +kernel, by decide +kernel, by decide +kernel⟩, by decide⟩, m_t1 2132 rfl rfl, m_t1 2133 rfl rfl, rfl, by decide⟩
set_option maxRecDepth 100000 in
theorem mY_X12_bookLine : m_YV yX12_bookLine cX12_bookLine 5 (some .boolean) 0 12 := ⟨⟨m_t1 2142 rfl rfl, m_t1 17 rfl rfl, ⟨by decide +kernel, by decide +kernel, by decide +kernel⟩, by decide⟩, m_t1 2141 rfl rfl, m_t2 132 51 rfl, rfl, by decide⟩
set_option maxRecDepth 100000 in
theorem mY_X12_does : m_YV yX12_does cX12_does 5 (some .int) 3 12 := ⟨⟨m_t1 2146 rfl rfl, m_t1 17 rfl rfl, ⟨by decide +kernel, by decide +kernel, by decide +kernel⟩, by decide⟩, m_t1 2145 rfl rfl, m_t2 133 51 rfl, rfl, by decide⟩
set_option maxRecDepth 100000 in
theorem mY_X12_book : m_YV yX12_book cX12_book 4 (some .int) 1 12 := ⟨⟨m_t1 2138 rfl rfl, m_t1 17 rfl rfl, ⟨by decide +kernel, by decide +kernel, by decide +kernel⟩, by decide⟩, m_t1 2136 rfl rfl, m_t1 2137 rfl rfl, rfl, by decide⟩
set_option maxRecDepth 100000 in
theorem mY_X12_told : m_YV yX12_told cX12_told 2 (some .int) 1 12 := ⟨⟨m_t1 2150 rfl rfl, m_t1 17 rfl rfl, ⟨by decide +kernel, by decide +kernel, by decide +kernel⟩, by decide⟩, m_t1 2148 rfl rfl, m_t1 2149 rfl rfl, rfl, by decide⟩
set_option maxRecDepth 100000 in
theorem mY_X12_code : m_YV yX12_code cX12_code 4 none 3 12 := ⟨⟨m_t1 2162 rfl rfl, m_t1 17 rfl rfl, ⟨by decide +kernel, by decide +kernel, by decide +kernel⟩, by decide⟩, m_t1 2161 rfl rfl, m_t2 135 51 rfl, rfl, by decide⟩
set_option maxRecDepth 100000 in
theorem mY_X12_joins : m_YV yX12_joins cX12_joins 2 none 1 12 := ⟨⟨m_t1 2166 rfl rfl, m_t1 17 rfl rfl, ⟨by decide +kernel, by decide +kernel, by decide +kernel⟩, by decide⟩, m_t1 2165 rfl rfl, m_t2 136 51 rfl, rfl, by decide⟩
set_option maxRecDepth 100000 in
theorem mY_X12_nots : m_YV yX12_nots cX12_nots 1 none 0 12 := ⟨⟨m_t1 2158 rfl rfl, m_t1 17 rfl rfl, ⟨by decide +kernel, by decide +kernel, by decide +kernel⟩, by decide⟩, m_t1 2157 rfl rfl, m_t2 134 51 rfl, rfl, by decide⟩
set_option maxRecDepth 100000 in
theorem mY_X12_leafOf : m_YV yX12_leafOf cX12_leafOf 1 (some .int) 0 12 := ⟨⟨m_t1 2178 rfl rfl, m_t1 17 rfl rfl, ⟨by decide +kernel, by decide +kernel, by decide +kernel⟩, by decide⟩, m_t1 2177 rfl rfl, m_t2 139 51 rfl, rfl, by decide⟩
set_option maxRecDepth 100000 in
theorem mY_X12_operand : m_YV yX12_operand cX12_operand 5 (some .boolean) 0 12 := ⟨⟨m_t1 2174 rfl rfl, m_t1 17 rfl rfl, ⟨by decide +kernel, by decide +kernel, by decide +kernel⟩, by decide⟩, m_t1 2173 rfl rfl, m_t2 138 51 rfl, rfl, by decide⟩
set_option maxRecDepth 100000 in
theorem mY_X12_behind : m_YV yX12_behind cX12_behind 1 (some .boolean) 0 12 := ⟨⟨m_t1 2170 rfl rfl, m_t1 17 rfl rfl, ⟨by decide +kernel, by decide +kernel, by decide +kernel⟩, by decide⟩, m_t1 2169 rfl rfl, m_t2 137 51 rfl, rfl, by decide⟩
set_option maxRecDepth 100000 in
theorem mY_X12_sentence : m_YV yX12_sentence cX12_sentence 3 (some .int) 0 12 := ⟨⟨m_t1 2154 rfl rfl, m_t1 17 rfl rfl, ⟨by decide +kernel, by decide +kernel, by decide +kernel⟩, by decide⟩, m_t1 2152 rfl rfl, m_t1 2153 rfl rfl, rfl, by decide⟩
set_option maxRecDepth 100000 in
theorem mY_X12_isLeaf : m_YV yX12_isLeaf cX12_isLeaf 6 (some .boolean) 4 12 := ⟨⟨m_t1 2190 rfl rfl, m_t1 17 rfl rfl, ⟨by decide +kernel, by decide +kernel, by decide +kernel⟩, by decide⟩, m_t1 2189 rfl rfl, m_t2 141 51 rfl, rfl, by decide⟩
set_option maxRecDepth 100000 in
theorem mY_X12_isSaid : m_YV yX12_isSaid cX12_isSaid 5 (some .boolean) 1 12 := ⟨⟨m_t1 2186 rfl rfl, m_t1 17 rfl rfl, ⟨by decide +kernel, by decide +kernel, by decide +kernel⟩, by decide⟩, m_t1 2185 rfl rfl, m_t2 140 51 rfl, rfl, by decide⟩
set_option maxRecDepth 100000 in
theorem mY_X12_said : m_YV yX12_said cX12_said 4 (some .int) 1 12 := ⟨⟨m_t1 2182 rfl rfl, m_t1 17 rfl rfl, ⟨by decide +kernel, by decide +kernel, by decide +kernel⟩, by decide⟩, m_t1 2180 rfl rfl, m_t1 2181 rfl rfl, rfl, by decide⟩
set_option maxRecDepth 100000 in
theorem mY_X12_image : m_YV yX12_image cX12_image 3 (some .boolean) 1 12 := ⟨⟨m_t1 2194 rfl rfl, m_t1 17 rfl rfl, ⟨by decide +kernel, by decide +kernel, by decide +kernel⟩, by decide⟩, m_t1 2192 rfl rfl, m_t1 2193 rfl rfl, rfl, by decide⟩
set_option maxRecDepth 100000 in
theorem mY_X12_restore : m_YV yX12_restore cX12_restore 3 (some .boolean) 1 12 := ⟨⟨m_t1 2198 rfl rfl, m_t1 17 rfl rfl, ⟨by decide +kernel, by decide +kernel, by decide +kernel⟩, by decide⟩, m_t1 2196 rfl rfl, m_t1 2197 rfl rfl, rfl, by decide⟩
set_option maxRecDepth 100000 in
theorem mY_X12_count : m_YV yX12_count cX12_count 2 (some .int) 1 12 := ⟨⟨m_t1 2202 rfl rfl, m_t1 17 rfl rfl, ⟨by decide +kernel, by decide +kernel, by decide +kernel⟩, by decide⟩, m_t1 2200 rfl rfl, m_t1 2201 rfl rfl, rfl, by decide⟩
set_option maxRecDepth 100000 in
theorem mY_J6_bitCount_0f7a4 : m_Y yJ6_bitCount_0f7a4 cJ6_bitCount_0f7a4 1 (some .int) 1 ∧ Cond.static yJ6_bitCount_0f7a4 ∈ m_tb := ⟨⟨m_t1 1005 rfl rfl, m_t1 25 rfl rfl, ⟨by decide +kernel, by decide +kernel, by decide +kernel⟩, by decide⟩, m_t1 1004 rfl rfl⟩
set_option maxRecDepth 100000 in
theorem mY_J9_max_7cf53 : m_Y yJ9_max_7cf53 cJ9_max_7cf53 2 (some .int) 2 ∧ Cond.static yJ9_max_7cf53 ∈ m_tb := ⟨⟨m_t1 1159 rfl rfl, m_t1 19 rfl rfl, ⟨by decide +kernel, by decide +kernel, by decide +kernel⟩, by decide⟩, m_t1 1158 rfl rfl⟩
set_option maxRecDepth 100000 in
theorem mY_J9_min_7cf53 : m_Y yJ9_min_7cf53 cJ9_min_7cf53 2 (some .int) 2 ∧ Cond.static yJ9_min_7cf53 ∈ m_tb := ⟨⟨m_t1 611 rfl rfl, m_t1 19 rfl rfl, ⟨by decide +kernel, by decide +kernel, by decide +kernel⟩, by decide⟩, m_t1 610 rfl rfl⟩
set_option maxRecDepth 100000 in
theorem mY_J0_checkIndex_df160 : m_Y yJ0_checkIndex_df160 cJ0_checkIndex_df160 2 none 2 ∧ Cond.static yJ0_checkIndex_df160 ∈ m_tb := ⟨⟨m_t1 67 rfl rfl, m_t1 3 rfl rfl, ⟨by decide +kernel, by decide +kernel, by decide +kernel⟩, by decide⟩, m_t1 66 rfl rfl⟩
set_option maxRecDepth 100000 in
theorem mY_J1_charAt_3b067 : m_Y yJ1_charAt_3b067 cJ1_charAt_3b067 2 (some .char) 2 ∧ Cond.static yJ1_charAt_3b067 ∈ m_tb := ⟨⟨m_t1 64 rfl rfl, m_t1 4 rfl rfl, ⟨by decide +kernel, by decide +kernel, by decide +kernel⟩, by decide⟩, m_t1 63 rfl rfl⟩
set_option maxRecDepth 100000 in
theorem mY_J2_getChar_3b067 : m_Y yJ2_getChar_3b067 cJ2_getChar_3b067 2 (some .char) 2 ∧ Cond.static yJ2_getChar_3b067 ∈ m_tb := ⟨⟨m_t1 85 rfl rfl, m_t1 6 rfl rfl, ⟨by decide +kernel, by decide +kernel, by decide +kernel⟩, by decide⟩, m_t1 84 rfl rfl⟩
set_option maxRecDepth 100000 in
theorem mY_J2_length_9d52b : m_Y yJ2_length_9d52b cJ2_length_9d52b 1 (some .int) 1 ∧ Cond.static yJ2_length_9d52b ∈ m_tb := ⟨⟨m_t1 81 rfl rfl, m_t1 6 rfl rfl, ⟨by decide +kernel, by decide +kernel, by decide +kernel⟩, by decide⟩, m_t1 80 rfl rfl⟩
set_option maxRecDepth 100000 in
theorem mY_J2_charAt_3b067 : m_Y yJ2_charAt_3b067 cJ2_charAt_3b067 2 (some .char) 2 ∧ Cond.static yJ2_charAt_3b067 ∈ m_tb := ⟨⟨m_t1 75 rfl rfl, m_t1 6 rfl rfl, ⟨by decide +kernel, by decide +kernel, by decide +kernel⟩, by decide⟩, m_t1 74 rfl rfl⟩
set_option maxRecDepth 100000 in
theorem mY_J2_checkIndex_2214a : m_Y yJ2_checkIndex_2214a cJ2_checkIndex_2214a 2 none 2 ∧ Cond.static yJ2_checkIndex_2214a ∈ m_tb := ⟨⟨m_t1 78 rfl rfl, m_t1 6 rfl rfl, ⟨by decide +kernel, by decide +kernel, by decide +kernel⟩, by decide⟩, m_t1 77 rfl rfl⟩
set_option maxRecDepth 100000 in
theorem mY_J7_fill_53178 : m_Y yJ7_fill_53178 cJ7_fill_53178 4 none 2 ∧ Cond.static yJ7_fill_53178 ∈ m_tb := ⟨⟨m_t1 601 rfl rfl, m_t1 18 rfl rfl, ⟨by decide +kernel, by decide +kernel, by decide +kernel⟩, by decide⟩, m_t1 600 rfl rfl⟩
set_option maxRecDepth 100000 in
theorem mY_J3_checkIndex_8e157 : m_Y yJ3_checkIndex_8e157 cJ3_checkIndex_8e157 3 (some .int) 3 ∧ Cond.static yJ3_checkIndex_8e157 ∈ m_tb := ⟨⟨m_t1 72 rfl rfl, m_t1 5 rfl rfl, ⟨by decide +kernel, by decide +kernel, by decide +kernel⟩, by decide⟩, m_t1 71 rfl rfl⟩
