theorem mt_J2_checkBoundsBeginEnd_d044e : Cond.static yJ2_checkBoundsBeginEnd_d044e ∈ gT := sg3 (List.mem_of_getElem? (i := 108) rfl) rfl
theorem mc_J2_checkBoundsBeginEnd_d044e : Cond.code yJ2_checkBoundsBeginEnd_d044e cJ2_checkBoundsBeginEnd_d044e 3 none ∈ gT := sg3 (List.mem_of_getElem? (i := 109) rfl) rfl
theorem mm_J2_241 : Cond.methodLink RJ2 241 yJ0_checkBoundsBeginEnd_23922 ∈ gT := sg3 (List.mem_of_getElem? (i := 110) rfl) rfl
theorem mt_J0_checkBoundsBeginEnd_23922 : Cond.static yJ0_checkBoundsBeginEnd_23922 ∈ gT := sg3 (List.mem_of_getElem? (i := 111) rfl) rfl
theorem mc_J0_checkBoundsBeginEnd_23922 : Cond.code yJ0_checkBoundsBeginEnd_23922 cJ0_checkBoundsBeginEnd_23922 3 none ∈ gT := sg3 (List.mem_of_getElem? (i := 112) rfl) rfl
theorem mm_J0_1062 : Cond.methodLink RJ0 1062 yJ3_checkFromToIndex_8c36e ∈ gT := sg3 (List.mem_of_getElem? (i := 113) rfl) rfl
theorem mt_J3_checkFromToIndex_8c36e : Cond.static yJ3_checkFromToIndex_8c36e ∈ gT := sg3 (List.mem_of_getElem? (i := 114) rfl) rfl
theorem mc_J3_checkFromToIndex_8c36e : Cond.code yJ3_checkFromToIndex_8c36e cJ3_checkFromToIndex_8c36e 4 (some .int) ∈ gT := sg3 (List.mem_of_getElem? (i := 115) rfl) rfl
theorem mm_J2_244 : Cond.methodLink RJ2 244 yJ2_indexOfCharUnsafe_4cfef ∈ gT := sg3 (List.mem_of_getElem? (i := 116) rfl) rfl
theorem mt_J2_indexOfCharUnsafe_4cfef : Cond.static yJ2_indexOfCharUnsafe_4cfef ∈ gT := sg3 (List.mem_of_getElem? (i := 117) rfl) rfl
theorem mc_J2_indexOfCharUnsafe_4cfef : Cond.code yJ2_indexOfCharUnsafe_4cfef cJ2_indexOfCharUnsafe_4cfef 5 (some .int) ∈ gT := sg3 (List.mem_of_getElem? (i := 118) rfl) rfl
theorem mm_J2_232 : Cond.methodLink RJ2 232 yJ2_indexOfSupplementary_4cfef ∈ gT := sg3 (List.mem_of_getElem? (i := 119) rfl) rfl
theorem mt_J2_indexOfSupplementary_4cfef : Cond.static yJ2_indexOfSupplementary_4cfef ∈ gT := sg3 (List.mem_of_getElem? (i := 120) rfl) rfl
theorem mc_J2_indexOfSupplementary_4cfef : Cond.code yJ2_indexOfSupplementary_4cfef cJ2_indexOfSupplementary_4cfef 7 (some .int) ∈ gT := sg3 (List.mem_of_getElem? (i := 121) rfl) rfl
theorem mm_J2_164 : Cond.methodLink RJ2 164 yJ11_isValidCodePoint_9a6ad ∈ gT := sg3 (List.mem_of_getElem? (i := 122) rfl) rfl
theorem mt_J11_isValidCodePoint_9a6ad : Cond.static yJ11_isValidCodePoint_9a6ad ∈ gT := sg3 (List.mem_of_getElem? (i := 123) rfl) rfl
theorem mc_J11_isValidCodePoint_9a6ad : Cond.code yJ11_isValidCodePoint_9a6ad cJ11_isValidCodePoint_9a6ad 2 (some .boolean) ∈ gT := sg3 (List.mem_of_getElem? (i := 124) rfl) rfl
theorem mm_J2_157 : Cond.methodLink RJ2 157 yJ11_highSurrogate_5068e ∈ gT := sg3 (List.mem_of_getElem? (i := 125) rfl) rfl
theorem mt_J11_highSurrogate_5068e : Cond.static yJ11_highSurrogate_5068e ∈ gT := sg3 (List.mem_of_getElem? (i := 126) rfl) rfl
theorem mc_J11_highSurrogate_5068e : Cond.code yJ11_highSurrogate_5068e cJ11_highSurrogate_5068e 1 (some .char) ∈ gT := sg3 (List.mem_of_getElem? (i := 127) rfl) rfl
theorem mk_J11_110 : Cond.constant RJ11 110 (55232) ∈ gT := sg3 (List.mem_of_getElem? (i := 128) rfl) rfl
theorem mm_J2_161 : Cond.methodLink RJ2 161 yJ11_lowSurrogate_5068e ∈ gT := sg3 (List.mem_of_getElem? (i := 129) rfl) rfl
theorem mt_J11_lowSurrogate_5068e : Cond.static yJ11_lowSurrogate_5068e ∈ gT := sg3 (List.mem_of_getElem? (i := 130) rfl) rfl
theorem mc_J11_lowSurrogate_5068e : Cond.code yJ11_lowSurrogate_5068e cJ11_lowSurrogate_5068e 1 (some .char) ∈ gT := sg3 (List.mem_of_getElem? (i := 131) rfl) rfl
theorem mk_J11_76 : Cond.constant RJ11 76 (56320) ∈ gT := sg3 (List.mem_of_getElem? (i := 132) rfl) rfl
theorem mm_X6_126 : Cond.methodLink RX6 126 yX6_runWord ∈ gT := sg3 (List.mem_of_getElem? (i := 133) rfl) rfl
theorem mi_X6_runWord : Cond.instanceMethod yX6_runWord ∈ gT := sg3 (List.mem_of_getElem? (i := 135) rfl) rfl
theorem mc_X6_runWord : Cond.code yX6_runWord cX6_runWord 2 (some .int) ∈ gT := sg3 (List.mem_of_getElem? (i := 136) rfl) rfl
theorem mm_X6_214 : Cond.methodLink RX6 214 yJ0_equals_9ea2d ∈ gT := sg3 (List.mem_of_getElem? (i := 138) rfl) rfl
theorem mi_J0_equals_9ea2d : Cond.instanceMethod yJ0_equals_9ea2d ∈ gT := sg3 (List.mem_of_getElem? (i := 139) rfl) rfl
theorem ms_J0_equals_9ea2d : Cond.selects RJ0 yJ0_equals_9ea2d yJ0_equals_9ea2d ∈ gT := sg3 (List.mem_of_getElem? (i := 140) rfl) rfl
theorem mc_J0_equals_9ea2d : Cond.code yJ0_equals_9ea2d cJ0_equals_9ea2d 3 (some .boolean) ∈ gT := sg3 (List.mem_of_getElem? (i := 141) rfl) rfl
theorem ml_J0_10 : Cond.classLink RJ0 10 RJ0 ∈ gT := sg3 (List.mem_of_getElem? (i := 142) rfl) rfl
theorem mm_J0_541 : Cond.methodLink RJ0 541 yJ1_equals_b5fdf ∈ gT := sg3 (List.mem_of_getElem? (i := 143) rfl) rfl
theorem mt_J1_equals_b5fdf : Cond.static yJ1_equals_b5fdf ∈ gT := sg3 (List.mem_of_getElem? (i := 144) rfl) rfl
theorem mc_J1_equals_b5fdf : Cond.code yJ1_equals_b5fdf cJ1_equals_b5fdf 3 (some .boolean) ∈ gT := sg3 (List.mem_of_getElem? (i := 145) rfl) rfl
theorem mm_X6_218 : Cond.methodLink RX6 218 yX6_changePause ∈ gT := sg3 (List.mem_of_getElem? (i := 146) rfl) rfl
theorem mi_X6_changePause : Cond.instanceMethod yX6_changePause ∈ gT := sg3 (List.mem_of_getElem? (i := 148) rfl) rfl
theorem mc_X6_changePause : Cond.code yX6_changePause cX6_changePause 3 (some .int) ∈ gT := sg3 (List.mem_of_getElem? (i := 149) rfl) rfl
theorem mm_X6_130 : Cond.methodLink RX6 130 yJ0_substring_37a41 ∈ gT := sg3 (List.mem_of_getElem? (i := 151) rfl) rfl
theorem mi_J0_substring_37a41 : Cond.instanceMethod yJ0_substring_37a41 ∈ gT := sg3 (List.mem_of_getElem? (i := 152) rfl) rfl
theorem ms_J0_substring_37a41 : Cond.selects RJ0 yJ0_substring_37a41 yJ0_substring_37a41 ∈ gT := sg3 (List.mem_of_getElem? (i := 153) rfl) rfl
theorem mc_J0_substring_37a41 : Cond.code yJ0_substring_37a41 cJ0_substring_37a41 5 (some (.object "java/lang/String")) ∈ gT := sg3 (List.mem_of_getElem? (i := 154) rfl) rfl
theorem mm_J0_521 : Cond.methodLink RJ0 521 yJ0_checkBoundsBeginEnd_23922 ∈ gT := sg3 (List.mem_of_getElem? (i := 155) rfl) rfl
theorem mm_J0_685 : Cond.methodLink RJ0 685 yJ1_newString_b4f7a ∈ gT := sg3 (List.mem_of_getElem? (i := 156) rfl) rfl
theorem mt_J1_newString_b4f7a : Cond.static yJ1_newString_b4f7a ∈ gT := sg3 (List.mem_of_getElem? (i := 157) rfl) rfl
theorem mc_J1_newString_b4f7a : Cond.code yJ1_newString_b4f7a cJ1_newString_b4f7a 3 (some (.object "java/lang/String")) ∈ gT := sg3 (List.mem_of_getElem? (i := 158) rfl) rfl
theorem ml_J1_1 : Cond.classLink RJ1 1 RJ0 ∈ gT := sg3 (List.mem_of_getElem? (i := 160) rfl) rfl
theorem mm_J1_232 : Cond.methodLink RJ1 232 yJ7_copyOfRange_39247 ∈ gT := sg3 (List.mem_of_getElem? (i := 161) rfl) rfl
theorem mm_J1_112 : Cond.methodLink RJ1 112 yJ0_init_031fb ∈ gT := sg3 (List.mem_of_getElem? (i := 162) rfl) rfl
theorem mi_J0_init_031fb : Cond.instanceMethod yJ0_init_031fb ∈ gT := sg3 (List.mem_of_getElem? (i := 163) rfl) rfl
theorem mc_J0_init_031fb : Cond.code yJ0_init_031fb cJ0_init_031fb 3 none ∈ gT := sg3 (List.mem_of_getElem? (i := 164) rfl) rfl
theorem mm_J0_689 : Cond.methodLink RJ0 689 yJ2_newString_b4f7a ∈ gT := sg3 (List.mem_of_getElem? (i := 165) rfl) rfl
theorem mt_J2_newString_b4f7a : Cond.static yJ2_newString_b4f7a ∈ gT := sg3 (List.mem_of_getElem? (i := 166) rfl) rfl
theorem mc_J2_newString_b4f7a : Cond.code yJ2_newString_b4f7a cJ2_newString_b4f7a 5 (some (.object "java/lang/String")) ∈ gT := sg3 (List.mem_of_getElem? (i := 167) rfl) rfl
theorem mf_J2_251 : Cond.fieldLink RJ2 251 "java/lang/String" "COMPACT_STRINGS" "Z" ∈ gT := sg3 (List.mem_of_getElem? (i := 169) rfl) rfl
theorem mm_J2_257 : Cond.methodLink RJ2 257 yJ2_compress_39247 ∈ gT := sg3 (List.mem_of_getElem? (i := 170) rfl) rfl
theorem mm_J2_259 : Cond.methodLink RJ2 259 yJ2_coderFromArrayLen_85cad ∈ gT := sg3 (List.mem_of_getElem? (i := 171) rfl) rfl
theorem ml_J2_3 : Cond.classLink RJ2 3 RJ0 ∈ gT := sg3 (List.mem_of_getElem? (i := 172) rfl) rfl
theorem mm_J2_263 : Cond.methodLink RJ2 263 yJ0_init_031fb ∈ gT := sg3 (List.mem_of_getElem? (i := 173) rfl) rfl
theorem mm_X6_134 : Cond.methodLink RX6 134 yJ0_substring_b52d3 ∈ gT := sg3 (List.mem_of_getElem? (i := 174) rfl) rfl
theorem mi_J0_substring_b52d3 : Cond.instanceMethod yJ0_substring_b52d3 ∈ gT := sg3 (List.mem_of_getElem? (i := 175) rfl) rfl
theorem ms_J0_substring_b52d3 : Cond.selects RJ0 yJ0_substring_b52d3 yJ0_substring_b52d3 ∈ gT := sg3 (List.mem_of_getElem? (i := 176) rfl) rfl
theorem mc_J0_substring_b52d3 : Cond.code yJ0_substring_b52d3 cJ0_substring_b52d3 2 (some (.object "java/lang/String")) ∈ gT := sg3 (List.mem_of_getElem? (i := 177) rfl) rfl
theorem mm_J0_681 : Cond.methodLink RJ0 681 yJ0_substring_37a41 ∈ gT := sg3 (List.mem_of_getElem? (i := 178) rfl) rfl
theorem mm_X6_137 : Cond.methodLink RX6 137 yX6_runWordWithArgument ∈ gT := sg3 (List.mem_of_getElem? (i := 179) rfl) rfl
theorem mi_X6_runWordWithArgument : Cond.instanceMethod yX6_runWordWithArgument ∈ gT := sg3 (List.mem_of_getElem? (i := 181) rfl) rfl
theorem mc_X6_runWordWithArgument : Cond.code yX6_runWordWithArgument cX6_runWordWithArgument 3 (some .int) ∈ gT := sg3 (List.mem_of_getElem? (i := 182) rfl) rfl
theorem mm_X6_224 : Cond.methodLink RX6 224 yX6_policyNamed ∈ gT := sg3 (List.mem_of_getElem? (i := 184) rfl) rfl
theorem mt_X6_policyNamed : Cond.static yX6_policyNamed ∈ gT := sg3 (List.mem_of_getElem? (i := 185) rfl) rfl
theorem mc_X6_policyNamed : Cond.code yX6_policyNamed cX6_policyNamed 1 (some .int) ∈ gT := sg3 (List.mem_of_getElem? (i := 186) rfl) rfl
theorem mm_X6_227 : Cond.methodLink RX6 227 yX6_changePolicy ∈ gT := sg3 (List.mem_of_getElem? (i := 191) rfl) rfl
theorem mi_X6_changePolicy : Cond.instanceMethod yX6_changePolicy ∈ gT := sg3 (List.mem_of_getElem? (i := 193) rfl) rfl
theorem mc_X6_changePolicy : Cond.code yX6_changePolicy cX6_changePolicy 3 (some .int) ∈ gT := sg3 (List.mem_of_getElem? (i := 194) rfl) rfl
theorem mm_X6_231 : Cond.methodLink RX6 231 yX6_numberIn ∈ gT := sg3 (List.mem_of_getElem? (i := 196) rfl) rfl
theorem mt_X6_numberIn : Cond.static yX6_numberIn ∈ gT := sg3 (List.mem_of_getElem? (i := 197) rfl) rfl
theorem mc_X6_numberIn : Cond.code yX6_numberIn cX6_numberIn 4 (some .int) ∈ gT := sg3 (List.mem_of_getElem? (i := 198) rfl) rfl
theorem mm_X6_251 : Cond.methodLink RX6 251 yJ0_length_8abf5 ∈ gT := sg3 (List.mem_of_getElem? (i := 199) rfl) rfl
theorem mm_X6_252 : Cond.methodLink RX6 252 yJ0_charAt_5068e ∈ gT := sg3 (List.mem_of_getElem? (i := 200) rfl) rfl
theorem mi_J0_charAt_5068e : Cond.instanceMethod yJ0_charAt_5068e ∈ gT := sg3 (List.mem_of_getElem? (i := 201) rfl) rfl
theorem ms_J0_charAt_5068e : Cond.selects RJ0 yJ0_charAt_5068e yJ0_charAt_5068e ∈ gT := sg3 (List.mem_of_getElem? (i := 202) rfl) rfl
theorem mc_J0_charAt_5068e : Cond.code yJ0_charAt_5068e cJ0_charAt_5068e 2 (some .char) ∈ gT := sg3 (List.mem_of_getElem? (i := 203) rfl) rfl
theorem mm_J0_495 : Cond.methodLink RJ0 495 yJ1_charAt_3b067 ∈ gT := sg3 (List.mem_of_getElem? (i := 204) rfl) rfl
theorem mt_J1_charAt_3b067 : Cond.static yJ1_charAt_3b067 ∈ gT := sg3 (List.mem_of_getElem? (i := 205) rfl) rfl
theorem mc_J1_charAt_3b067 : Cond.code yJ1_charAt_3b067 cJ1_charAt_3b067 2 (some .char) ∈ gT := sg3 (List.mem_of_getElem? (i := 206) rfl) rfl
theorem mm_J1_9 : Cond.methodLink RJ1 9 yJ0_checkIndex_df160 ∈ gT := sg3 (List.mem_of_getElem? (i := 207) rfl) rfl
theorem mm_J0_498 : Cond.methodLink RJ0 498 yJ2_charAt_3b067 ∈ gT := sg3 (List.mem_of_getElem? (i := 208) rfl) rfl
theorem mt_J2_charAt_3b067 : Cond.static yJ2_charAt_3b067 ∈ gT := sg3 (List.mem_of_getElem? (i := 209) rfl) rfl
theorem mc_J2_charAt_3b067 : Cond.code yJ2_charAt_3b067 cJ2_charAt_3b067 2 (some .char) ∈ gT := sg3 (List.mem_of_getElem? (i := 210) rfl) rfl
theorem mm_X6_234 : Cond.methodLink RX6 234 yX6_changeCap ∈ gT := sg3 (List.mem_of_getElem? (i := 211) rfl) rfl
theorem mi_X6_changeCap : Cond.instanceMethod yX6_changeCap ∈ gT := sg3 (List.mem_of_getElem? (i := 213) rfl) rfl
theorem mc_X6_changeCap : Cond.code yX6_changeCap cX6_changeCap 3 (some .int) ∈ gT := sg3 (List.mem_of_getElem? (i := 214) rfl) rfl
theorem mm_X6_239 : Cond.methodLink RX6 239 yX6_seek ∈ gT := sg3 (List.mem_of_getElem? (i := 216) rfl) rfl
theorem mi_X6_seek : Cond.instanceMethod yX6_seek ∈ gT := sg3 (List.mem_of_getElem? (i := 218) rfl) rfl
theorem mc_X6_seek : Cond.code yX6_seek cX6_seek 2 (some .int) ∈ gT := sg3 (List.mem_of_getElem? (i := 219) rfl) rfl
theorem mm_X6_241 : Cond.methodLink RX6 241 yX2_moveTo ∈ gT := sg3 (List.mem_of_getElem? (i := 220) rfl) rfl
theorem mm_L_49 : Cond.methodLink RL 49 yX6_restart ∈ gT := sg3 (List.mem_of_getElem? (i := 221) rfl) rfl
theorem mi_X6_restart : Cond.instanceMethod yX6_restart ∈ gT := sg3 (List.mem_of_getElem? (i := 222) rfl) rfl
theorem ms_X6_restart : Cond.selects RX6 yX6_restart yX6_restart ∈ gT := sg3 (List.mem_of_getElem? (i := 223) rfl) rfl
theorem mc_X6_restart : Cond.code yX6_restart cX6_restart 2 (some .int) ∈ gT := sg3 (List.mem_of_getElem? (i := 224) rfl) rfl
theorem mm_L_53 : Cond.methodLink RL 53 yX6_advance ∈ gT := sg3 (List.mem_of_getElem? (i := 225) rfl) rfl
theorem mi_X6_advance : Cond.instanceMethod yX6_advance ∈ gT := sg3 (List.mem_of_getElem? (i := 226) rfl) rfl
theorem ms_X6_advance : Cond.selects RX6 yX6_advance yX6_advance ∈ gT := sg3 (List.mem_of_getElem? (i := 227) rfl) rfl
theorem mc_X6_advance : Cond.code yX6_advance cX6_advance 4 (some .int) ∈ gT := sg3 (List.mem_of_getElem? (i := 228) rfl) rfl
theorem mm_X6_144 : Cond.methodLink RX6 144 yX2_passMillisecond ∈ gT := sg3 (List.mem_of_getElem? (i := 229) rfl) rfl
theorem mi_X2_passMillisecond : Cond.instanceMethod yX2_passMillisecond ∈ gT := sg3 (List.mem_of_getElem? (i := 230) rfl) rfl
theorem ms_X2_passMillisecond : Cond.selects RX2 yX2_passMillisecond yX2_passMillisecond ∈ gT := sg3 (List.mem_of_getElem? (i := 231) rfl) rfl
theorem mc_X2_passMillisecond : Cond.code yX2_passMillisecond cX2_passMillisecond 4 (some .boolean) ∈ gT := sg3 (List.mem_of_getElem? (i := 232) rfl) rfl
theorem mm_X2_102 : Cond.methodLink RX2 102 yX2_canStartDownload ∈ gT := sg3 (List.mem_of_getElem? (i := 233) rfl) rfl
theorem mi_X2_canStartDownload : Cond.instanceMethod yX2_canStartDownload ∈ gT := sg3 (List.mem_of_getElem? (i := 235) rfl) rfl
theorem mc_X2_canStartDownload : Cond.code yX2_canStartDownload cX2_canStartDownload 1 (some .boolean) ∈ gT := sg3 (List.mem_of_getElem? (i := 236) rfl) rfl
theorem mm_X2_141 : Cond.methodLink RX2 141 yX2_hasNextSegment ∈ gT := sg3 (List.mem_of_getElem? (i := 237) rfl) rfl
theorem mi_X2_hasNextSegment : Cond.instanceMethod yX2_hasNextSegment ∈ gT := sg3 (List.mem_of_getElem? (i := 239) rfl) rfl
theorem mc_X2_hasNextSegment : Cond.code yX2_hasNextSegment cX2_hasNextSegment 1 (some .boolean) ∈ gT := sg4 (List.mem_of_getElem? (i := 0) rfl) rfl
theorem mm_X2_106 : Cond.methodLink RX2 106 yX2_chooseLevel ∈ gT := sg4 (List.mem_of_getElem? (i := 1) rfl) rfl
theorem mi_X2_chooseLevel : Cond.instanceMethod yX2_chooseLevel ∈ gT := sg4 (List.mem_of_getElem? (i := 3) rfl) rfl
theorem mc_X2_chooseLevel : Cond.code yX2_chooseLevel cX2_chooseLevel 4 (some .int) ∈ gT := sg4 (List.mem_of_getElem? (i := 4) rfl) rfl
theorem mm_X2_174 : Cond.methodLink RX2 174 yJ9_min_7cf53 ∈ gT := sg4 (List.mem_of_getElem? (i := 5) rfl) rfl
theorem mm_X2_179 : Cond.methodLink RX2 179 yX2_levelByRate ∈ gT := sg4 (List.mem_of_getElem? (i := 6) rfl) rfl
theorem mi_X2_levelByRate : Cond.instanceMethod yX2_levelByRate ∈ gT := sg4 (List.mem_of_getElem? (i := 8) rfl) rfl
theorem mc_X2_levelByRate : Cond.code yX2_levelByRate cX2_levelByRate 3 (some .int) ∈ gT := sg4 (List.mem_of_getElem? (i := 9) rfl) rfl
theorem mm_X2_188 : Cond.methodLink RX2 188 yX4_estimate ∈ gT := sg4 (List.mem_of_getElem? (i := 10) rfl) rfl
theorem mi_X4_estimate : Cond.instanceMethod yX4_estimate ∈ gT := sg4 (List.mem_of_getElem? (i := 11) rfl) rfl
theorem ms_X4_estimate : Cond.selects RX4 yX4_estimate yX4_estimate ∈ gT := sg4 (List.mem_of_getElem? (i := 12) rfl) rfl
theorem mc_X4_estimate : Cond.code yX4_estimate cX4_estimate 3 (some .int) ∈ gT := sg4 (List.mem_of_getElem? (i := 13) rfl) rfl
theorem mm_X2_194 : Cond.methodLink RX2 194 yX5_highestLevelWithin ∈ gT := sg4 (List.mem_of_getElem? (i := 14) rfl) rfl
theorem mi_X5_highestLevelWithin : Cond.instanceMethod yX5_highestLevelWithin ∈ gT := sg4 (List.mem_of_getElem? (i := 15) rfl) rfl
theorem ms_X5_highestLevelWithin : Cond.selects RX5 yX5_highestLevelWithin yX5_highestLevelWithin ∈ gT := sg4 (List.mem_of_getElem? (i := 16) rfl) rfl
theorem mc_X5_highestLevelWithin : Cond.code yX5_highestLevelWithin cX5_highestLevelWithin 4 (some .int) ∈ gT := sg4 (List.mem_of_getElem? (i := 17) rfl) rfl
theorem mm_X5_40 : Cond.methodLink RX5 40 yJ9_min_7cf53 ∈ gT := sg4 (List.mem_of_getElem? (i := 18) rfl) rfl
theorem mm_X2_182 : Cond.methodLink RX2 182 yX2_levelByBuffer ∈ gT := sg4 (List.mem_of_getElem? (i := 19) rfl) rfl
theorem mi_X2_levelByBuffer : Cond.instanceMethod yX2_levelByBuffer ∈ gT := sg4 (List.mem_of_getElem? (i := 21) rfl) rfl
theorem mc_X2_levelByBuffer : Cond.code yX2_levelByBuffer cX2_levelByBuffer 3 (some .int) ∈ gT := sg4 (List.mem_of_getElem? (i := 22) rfl) rfl
theorem mm_X2_185 : Cond.methodLink RX2 185 yX2_levelByBoth ∈ gT := sg4 (List.mem_of_getElem? (i := 23) rfl) rfl
theorem mi_X2_levelByBoth : Cond.instanceMethod yX2_levelByBoth ∈ gT := sg4 (List.mem_of_getElem? (i := 25) rfl) rfl
theorem mc_X2_levelByBoth : Cond.code yX2_levelByBoth cX2_levelByBoth 3 (some .int) ∈ gT := sg4 (List.mem_of_getElem? (i := 26) rfl) rfl
theorem mm_X2_110 : Cond.methodLink RX2 110 yX5_sizeOf ∈ gT := sg4 (List.mem_of_getElem? (i := 27) rfl) rfl
theorem mi_X5_sizeOf : Cond.instanceMethod yX5_sizeOf ∈ gT := sg4 (List.mem_of_getElem? (i := 28) rfl) rfl
theorem ms_X5_sizeOf : Cond.selects RX5 yX5_sizeOf yX5_sizeOf ∈ gT := sg4 (List.mem_of_getElem? (i := 29) rfl) rfl
theorem mc_X5_sizeOf : Cond.code yX5_sizeOf cX5_sizeOf 3 (some .int) ∈ gT := sg4 (List.mem_of_getElem? (i := 30) rfl) rfl
theorem mm_X5_49 : Cond.methodLink RX5 49 yX5_variationOf ∈ gT := sg4 (List.mem_of_getElem? (i := 31) rfl) rfl
theorem mj_X5_52 : Cond.constantLong RX5 52 (100) ∈ gT := sg4 (List.mem_of_getElem? (i := 32) rfl) rfl
theorem mm_X2_113 : Cond.methodLink RX2 113 yX1_start ∈ gT := sg4 (List.mem_of_getElem? (i := 33) rfl) rfl
theorem mi_X1_start : Cond.instanceMethod yX1_start ∈ gT := sg4 (List.mem_of_getElem? (i := 34) rfl) rfl
theorem ms_X1_start : Cond.selects RX1 yX1_start yX1_start ∈ gT := sg4 (List.mem_of_getElem? (i := 35) rfl) rfl
theorem mc_X1_start : Cond.code yX1_start cX1_start 3 none ∈ gT := sg4 (List.mem_of_getElem? (i := 36) rfl) rfl
theorem mm_X2_120 : Cond.methodLink RX2 120 yX0_rateAt ∈ gT := sg4 (List.mem_of_getElem? (i := 37) rfl) rfl
theorem mi_X0_rateAt : Cond.instanceMethod yX0_rateAt ∈ gT := sg4 (List.mem_of_getElem? (i := 38) rfl) rfl
theorem ms_X0_rateAt : Cond.selects RX0 yX0_rateAt yX0_rateAt ∈ gT := sg4 (List.mem_of_getElem? (i := 39) rfl) rfl
theorem mc_X0_rateAt : Cond.code yX0_rateAt cX0_rateAt 5 (some .int) ∈ gT := sg4 (List.mem_of_getElem? (i := 40) rfl) rfl
theorem mm_X0_22 : Cond.methodLink RX0 22 yJ9_min_7cf53 ∈ gT := sg4 (List.mem_of_getElem? (i := 41) rfl) rfl
theorem mm_X2_126 : Cond.methodLink RX2 126 yX1_receive ∈ gT := sg4 (List.mem_of_getElem? (i := 42) rfl) rfl
theorem mi_X1_receive : Cond.instanceMethod yX1_receive ∈ gT := sg4 (List.mem_of_getElem? (i := 43) rfl) rfl
theorem ms_X1_receive : Cond.selects RX1 yX1_receive yX1_receive ∈ gT := sg4 (List.mem_of_getElem? (i := 44) rfl) rfl
theorem mc_X1_receive : Cond.code yX1_receive cX1_receive 2 none ∈ gT := sg4 (List.mem_of_getElem? (i := 45) rfl) rfl
theorem mm_X2_129 : Cond.methodLink RX2 129 yX1_isComplete ∈ gT := sg4 (List.mem_of_getElem? (i := 46) rfl) rfl
theorem mi_X1_isComplete : Cond.instanceMethod yX1_isComplete ∈ gT := sg4 (List.mem_of_getElem? (i := 47) rfl) rfl
theorem ms_X1_isComplete : Cond.selects RX1 yX1_isComplete yX1_isComplete ∈ gT := sg4 (List.mem_of_getElem? (i := 48) rfl) rfl
theorem mc_X1_isComplete : Cond.code yX1_isComplete cX1_isComplete 1 (some .boolean) ∈ gT := sg4 (List.mem_of_getElem? (i := 49) rfl) rfl
theorem mm_X2_132 : Cond.methodLink RX2 132 yX2_completeSegment ∈ gT := sg4 (List.mem_of_getElem? (i := 50) rfl) rfl
theorem mi_X2_completeSegment : Cond.instanceMethod yX2_completeSegment ∈ gT := sg4 (List.mem_of_getElem? (i := 52) rfl) rfl
theorem mc_X2_completeSegment : Cond.code yX2_completeSegment cX2_completeSegment 2 none ∈ gT := sg4 (List.mem_of_getElem? (i := 53) rfl) rfl
theorem mm_X2_152 : Cond.methodLink RX2 152 yX1_throughput ∈ gT := sg4 (List.mem_of_getElem? (i := 54) rfl) rfl
theorem mi_X1_throughput : Cond.instanceMethod yX1_throughput ∈ gT := sg4 (List.mem_of_getElem? (i := 55) rfl) rfl
theorem ms_X1_throughput : Cond.selects RX1 yX1_throughput yX1_throughput ∈ gT := sg4 (List.mem_of_getElem? (i := 56) rfl) rfl
theorem mc_X1_throughput : Cond.code yX1_throughput cX1_throughput 1 (some .int) ∈ gT := sg4 (List.mem_of_getElem? (i := 57) rfl) rfl
theorem mm_X2_156 : Cond.methodLink RX2 156 yX4_add ∈ gT := sg4 (List.mem_of_getElem? (i := 58) rfl) rfl
theorem mi_X4_add : Cond.instanceMethod yX4_add ∈ gT := sg4 (List.mem_of_getElem? (i := 59) rfl) rfl
theorem ms_X4_add : Cond.selects RX4 yX4_add yX4_add ∈ gT := sg4 (List.mem_of_getElem? (i := 60) rfl) rfl
theorem mc_X4_add : Cond.code yX4_add cX4_add 3 none ∈ gT := sg4 (List.mem_of_getElem? (i := 61) rfl) rfl
theorem mm_X2_159 : Cond.methodLink RX2 159 yX5_bitrateOf ∈ gT := sg4 (List.mem_of_getElem? (i := 62) rfl) rfl
theorem mm_X2_135 : Cond.methodLink RX2 135 yX2_play ∈ gT := sg4 (List.mem_of_getElem? (i := 63) rfl) rfl
theorem mi_X2_play : Cond.instanceMethod yX2_play ∈ gT := sg4 (List.mem_of_getElem? (i := 65) rfl) rfl
theorem mc_X2_play : Cond.code yX2_play cX2_play 1 none ∈ gT := sg4 (List.mem_of_getElem? (i := 66) rfl) rfl
theorem mm_X2_162 : Cond.methodLink RX2 162 yX2_playIfReady ∈ gT := sg4 (List.mem_of_getElem? (i := 67) rfl) rfl
theorem mi_X2_playIfReady : Cond.instanceMethod yX2_playIfReady ∈ gT := sg4 (List.mem_of_getElem? (i := 69) rfl) rfl
theorem mc_X2_playIfReady : Cond.code yX2_playIfReady cX2_playIfReady 1 none ∈ gT := sg4 (List.mem_of_getElem? (i := 70) rfl) rfl
theorem mm_X2_165 : Cond.methodLink RX2 165 yX2_playMillisecond ∈ gT := sg4 (List.mem_of_getElem? (i := 71) rfl) rfl
theorem mi_X2_playMillisecond : Cond.instanceMethod yX2_playMillisecond ∈ gT := sg4 (List.mem_of_getElem? (i := 73) rfl) rfl
theorem mc_X2_playMillisecond : Cond.code yX2_playMillisecond cX2_playMillisecond 1 none ∈ gT := sg4 (List.mem_of_getElem? (i := 74) rfl) rfl
theorem mm_L_57 : Cond.methodLink RL 57 yX6_time ∈ gT := sg4 (List.mem_of_getElem? (i := 75) rfl) rfl
theorem mi_X6_time : Cond.instanceMethod yX6_time ∈ gT := sg4 (List.mem_of_getElem? (i := 76) rfl) rfl
theorem ms_X6_time : Cond.selects RX6 yX6_time yX6_time ∈ gT := sg4 (List.mem_of_getElem? (i := 77) rfl) rfl
theorem mc_X6_time : Cond.code yX6_time cX6_time 1 (some .int) ∈ gT := sg4 (List.mem_of_getElem? (i := 78) rfl) rfl
theorem mm_L_61 : Cond.methodLink RL 61 yX6_position ∈ gT := sg4 (List.mem_of_getElem? (i := 79) rfl) rfl
theorem mi_X6_position : Cond.instanceMethod yX6_position ∈ gT := sg4 (List.mem_of_getElem? (i := 80) rfl) rfl
theorem ms_X6_position : Cond.selects RX6 yX6_position yX6_position ∈ gT := sg4 (List.mem_of_getElem? (i := 81) rfl) rfl
theorem mc_X6_position : Cond.code yX6_position cX6_position 1 (some .int) ∈ gT := sg4 (List.mem_of_getElem? (i := 82) rfl) rfl
theorem mm_L_65 : Cond.methodLink RL 65 yX6_bufferLevel ∈ gT := sg4 (List.mem_of_getElem? (i := 83) rfl) rfl
theorem mi_X6_bufferLevel : Cond.instanceMethod yX6_bufferLevel ∈ gT := sg4 (List.mem_of_getElem? (i := 84) rfl) rfl
theorem ms_X6_bufferLevel : Cond.selects RX6 yX6_bufferLevel yX6_bufferLevel ∈ gT := sg4 (List.mem_of_getElem? (i := 85) rfl) rfl
theorem mc_X6_bufferLevel : Cond.code yX6_bufferLevel cX6_bufferLevel 1 (some .int) ∈ gT := sg4 (List.mem_of_getElem? (i := 86) rfl) rfl
theorem mm_L_69 : Cond.methodLink RL 69 yX6_state ∈ gT := sg4 (List.mem_of_getElem? (i := 87) rfl) rfl
theorem mi_X6_state : Cond.instanceMethod yX6_state ∈ gT := sg4 (List.mem_of_getElem? (i := 88) rfl) rfl
theorem ms_X6_state : Cond.selects RX6 yX6_state yX6_state ∈ gT := sg4 (List.mem_of_getElem? (i := 89) rfl) rfl
theorem mc_X6_state : Cond.code yX6_state cX6_state 1 (some .int) ∈ gT := sg4 (List.mem_of_getElem? (i := 90) rfl) rfl
theorem mm_L_73 : Cond.methodLink RL 73 yX6_isPaused ∈ gT := sg4 (List.mem_of_getElem? (i := 91) rfl) rfl
theorem mi_X6_isPaused : Cond.instanceMethod yX6_isPaused ∈ gT := sg4 (List.mem_of_getElem? (i := 92) rfl) rfl
theorem ms_X6_isPaused : Cond.selects RX6 yX6_isPaused yX6_isPaused ∈ gT := sg4 (List.mem_of_getElem? (i := 93) rfl) rfl
theorem mc_X6_isPaused : Cond.code yX6_isPaused cX6_isPaused 1 (some .int) ∈ gT := sg4 (List.mem_of_getElem? (i := 94) rfl) rfl
theorem mm_L_77 : Cond.methodLink RL 77 yX6_downloadingSegment ∈ gT := sg4 (List.mem_of_getElem? (i := 95) rfl) rfl
theorem mi_X6_downloadingSegment : Cond.instanceMethod yX6_downloadingSegment ∈ gT := sg4 (List.mem_of_getElem? (i := 96) rfl) rfl
theorem ms_X6_downloadingSegment : Cond.selects RX6 yX6_downloadingSegment yX6_downloadingSegment ∈ gT := sg4 (List.mem_of_getElem? (i := 97) rfl) rfl
theorem mc_X6_downloadingSegment : Cond.code yX6_downloadingSegment cX6_downloadingSegment 1 (some .int) ∈ gT := sg4 (List.mem_of_getElem? (i := 98) rfl) rfl
theorem mm_L_81 : Cond.methodLink RL 81 yX6_segmentLevel ∈ gT := sg4 (List.mem_of_getElem? (i := 99) rfl) rfl
theorem mi_X6_segmentLevel : Cond.instanceMethod yX6_segmentLevel ∈ gT := sg4 (List.mem_of_getElem? (i := 100) rfl) rfl
theorem ms_X6_segmentLevel : Cond.selects RX6 yX6_segmentLevel yX6_segmentLevel ∈ gT := sg4 (List.mem_of_getElem? (i := 101) rfl) rfl
theorem mc_X6_segmentLevel : Cond.code yX6_segmentLevel cX6_segmentLevel 2 (some .int) ∈ gT := sg4 (List.mem_of_getElem? (i := 102) rfl) rfl
theorem mm_X6_172 : Cond.methodLink RX6 172 yX2_completedLevelOf ∈ gT := sg4 (List.mem_of_getElem? (i := 103) rfl) rfl
theorem mi_X2_completedLevelOf : Cond.instanceMethod yX2_completedLevelOf ∈ gT := sg4 (List.mem_of_getElem? (i := 104) rfl) rfl
theorem ms_X2_completedLevelOf : Cond.selects RX2 yX2_completedLevelOf yX2_completedLevelOf ∈ gT := sg4 (List.mem_of_getElem? (i := 105) rfl) rfl
theorem mc_X2_completedLevelOf : Cond.code yX2_completedLevelOf cX2_completedLevelOf 2 (some .int) ∈ gT := sg4 (List.mem_of_getElem? (i := 106) rfl) rfl
theorem mm_L_85 : Cond.methodLink RL 85 yX6_throughputEstimate ∈ gT := sg4 (List.mem_of_getElem? (i := 107) rfl) rfl
theorem mi_X6_throughputEstimate : Cond.instanceMethod yX6_throughputEstimate ∈ gT := sg4 (List.mem_of_getElem? (i := 108) rfl) rfl
theorem ms_X6_throughputEstimate : Cond.selects RX6 yX6_throughputEstimate yX6_throughputEstimate ∈ gT := sg4 (List.mem_of_getElem? (i := 109) rfl) rfl
theorem mc_X6_throughputEstimate : Cond.code yX6_throughputEstimate cX6_throughputEstimate 1 (some .int) ∈ gT := sg4 (List.mem_of_getElem? (i := 110) rfl) rfl
theorem mm_X6_179 : Cond.methodLink RX6 179 yX4_estimate ∈ gT := sg4 (List.mem_of_getElem? (i := 111) rfl) rfl
theorem mm_L_89 : Cond.methodLink RL 89 yX6_switchCount ∈ gT := sg4 (List.mem_of_getElem? (i := 112) rfl) rfl
theorem mi_X6_switchCount : Cond.instanceMethod yX6_switchCount ∈ gT := sg4 (List.mem_of_getElem? (i := 113) rfl) rfl
theorem ms_X6_switchCount : Cond.selects RX6 yX6_switchCount yX6_switchCount ∈ gT := sg4 (List.mem_of_getElem? (i := 114) rfl) rfl
theorem mc_X6_switchCount : Cond.code yX6_switchCount cX6_switchCount 1 (some .int) ∈ gT := sg4 (List.mem_of_getElem? (i := 115) rfl) rfl
theorem mm_L_93 : Cond.methodLink RL 93 yX6_stallCount ∈ gT := sg4 (List.mem_of_getElem? (i := 116) rfl) rfl
theorem mi_X6_stallCount : Cond.instanceMethod yX6_stallCount ∈ gT := sg4 (List.mem_of_getElem? (i := 117) rfl) rfl
theorem ms_X6_stallCount : Cond.selects RX6 yX6_stallCount yX6_stallCount ∈ gT := sg4 (List.mem_of_getElem? (i := 118) rfl) rfl
theorem mc_X6_stallCount : Cond.code yX6_stallCount cX6_stallCount 1 (some .int) ∈ gT := sg4 (List.mem_of_getElem? (i := 119) rfl) rfl
theorem mm_L_97 : Cond.methodLink RL 97 yX6_stallTime ∈ gT := sg4 (List.mem_of_getElem? (i := 120) rfl) rfl
theorem mi_X6_stallTime : Cond.instanceMethod yX6_stallTime ∈ gT := sg4 (List.mem_of_getElem? (i := 121) rfl) rfl
theorem ms_X6_stallTime : Cond.selects RX6 yX6_stallTime yX6_stallTime ∈ gT := sg4 (List.mem_of_getElem? (i := 122) rfl) rfl
theorem mc_X6_stallTime : Cond.code yX6_stallTime cX6_stallTime 1 (some .int) ∈ gT := sg4 (List.mem_of_getElem? (i := 123) rfl) rfl
theorem mm_L_101 : Cond.methodLink RL 101 yX6_startupTime ∈ gT := sg4 (List.mem_of_getElem? (i := 124) rfl) rfl
theorem mi_X6_startupTime : Cond.instanceMethod yX6_startupTime ∈ gT := sg4 (List.mem_of_getElem? (i := 125) rfl) rfl
theorem ms_X6_startupTime : Cond.selects RX6 yX6_startupTime yX6_startupTime ∈ gT := sg4 (List.mem_of_getElem? (i := 126) rfl) rfl
theorem mc_X6_startupTime : Cond.code yX6_startupTime cX6_startupTime 1 (some .int) ∈ gT := sg4 (List.mem_of_getElem? (i := 127) rfl) rfl
theorem mm_L_105 : Cond.methodLink RL 105 yX6_bitrateSum ∈ gT := sg4 (List.mem_of_getElem? (i := 128) rfl) rfl
theorem mi_X6_bitrateSum : Cond.instanceMethod yX6_bitrateSum ∈ gT := sg4 (List.mem_of_getElem? (i := 129) rfl) rfl
theorem ms_X6_bitrateSum : Cond.selects RX6 yX6_bitrateSum yX6_bitrateSum ∈ gT := sg4 (List.mem_of_getElem? (i := 130) rfl) rfl
theorem mc_X6_bitrateSum : Cond.code yX6_bitrateSum cX6_bitrateSum 1 (some .int) ∈ gT := sg4 (List.mem_of_getElem? (i := 131) rfl) rfl
theorem mm_L_109 : Cond.methodLink RL 109 yX6_segmentSize ∈ gT := sg4 (List.mem_of_getElem? (i := 132) rfl) rfl
theorem mi_X6_segmentSize : Cond.instanceMethod yX6_segmentSize ∈ gT := sg4 (List.mem_of_getElem? (i := 133) rfl) rfl
theorem ms_X6_segmentSize : Cond.selects RX6 yX6_segmentSize yX6_segmentSize ∈ gT := sg4 (List.mem_of_getElem? (i := 134) rfl) rfl
theorem mc_X6_segmentSize : Cond.code yX6_segmentSize cX6_segmentSize 3 (some .int) ∈ gT := sg4 (List.mem_of_getElem? (i := 135) rfl) rfl
theorem mm_X6_199 : Cond.methodLink RX6 199 yX5_hasLevel ∈ gT := sg4 (List.mem_of_getElem? (i := 136) rfl) rfl
theorem mm_X6_202 : Cond.methodLink RX6 202 yX5_sizeOf ∈ gT := sg4 (List.mem_of_getElem? (i := 137) rfl) rfl
theorem mm_L_113 : Cond.methodLink RL 113 yX6_simulatedStallTime ∈ gT := sg4 (List.mem_of_getElem? (i := 138) rfl) rfl
theorem mi_X6_simulatedStallTime : Cond.instanceMethod yX6_simulatedStallTime ∈ gT := sg4 (List.mem_of_getElem? (i := 139) rfl) rfl
theorem ms_X6_simulatedStallTime : Cond.selects RX6 yX6_simulatedStallTime yX6_simulatedStallTime ∈ gT := sg4 (List.mem_of_getElem? (i := 140) rfl) rfl
theorem mc_X6_simulatedStallTime : Cond.code yX6_simulatedStallTime cX6_simulatedStallTime 3 (some .int) ∈ gT := sg4 (List.mem_of_getElem? (i := 141) rfl) rfl
theorem mm_X6_206 : Cond.methodLink RX6 206 yX6_simulationError ∈ gT := sg4 (List.mem_of_getElem? (i := 142) rfl) rfl
theorem mi_X6_simulationError : Cond.instanceMethod yX6_simulationError ∈ gT := sg4 (List.mem_of_getElem? (i := 144) rfl) rfl
theorem mc_X6_simulationError : Cond.code yX6_simulationError cX6_simulationError 2 (some .int) ∈ gT := sg4 (List.mem_of_getElem? (i := 145) rfl) rfl
theorem mm_X6_209 : Cond.methodLink RX6 209 yX2_playWhole ∈ gT := sg4 (List.mem_of_getElem? (i := 146) rfl) rfl
theorem mi_X2_playWhole : Cond.instanceMethod yX2_playWhole ∈ gT := sg4 (List.mem_of_getElem? (i := 147) rfl) rfl
theorem ms_X2_playWhole : Cond.selects RX2 yX2_playWhole yX2_playWhole ∈ gT := sg4 (List.mem_of_getElem? (i := 148) rfl) rfl
theorem mc_X2_playWhole : Cond.code yX2_playWhole cX2_playWhole 4 none ∈ gT := sg4 (List.mem_of_getElem? (i := 149) rfl) rfl
theorem mk_X2_97 : Cond.constant RX2 97 (120000) ∈ gT := sg4 (List.mem_of_getElem? (i := 150) rfl) rfl
theorem mm_X2_98 : Cond.methodLink RX2 98 yX2_passMillisecond ∈ gT := sg4 (List.mem_of_getElem? (i := 151) rfl) rfl
theorem mm_L_117 : Cond.methodLink RL 117 yX6_simulatedBitrateSum ∈ gT := sg4 (List.mem_of_getElem? (i := 152) rfl) rfl
theorem mi_X6_simulatedBitrateSum : Cond.instanceMethod yX6_simulatedBitrateSum ∈ gT := sg4 (List.mem_of_getElem? (i := 153) rfl) rfl
theorem ms_X6_simulatedBitrateSum : Cond.selects RX6 yX6_simulatedBitrateSum yX6_simulatedBitrateSum ∈ gT := sg4 (List.mem_of_getElem? (i := 154) rfl) rfl
theorem mc_X6_simulatedBitrateSum : Cond.code yX6_simulatedBitrateSum cX6_simulatedBitrateSum 3 (some .int) ∈ gT := sg4 (List.mem_of_getElem? (i := 155) rfl) rfl
theorem mm_L_121 : Cond.methodLink RL 121 yX6_bestSmoothLevel ∈ gT := sg4 (List.mem_of_getElem? (i := 156) rfl) rfl
theorem mi_X6_bestSmoothLevel : Cond.instanceMethod yX6_bestSmoothLevel ∈ gT := sg4 (List.mem_of_getElem? (i := 157) rfl) rfl
theorem ms_X6_bestSmoothLevel : Cond.selects RX6 yX6_bestSmoothLevel yX6_bestSmoothLevel ∈ gT := sg4 (List.mem_of_getElem? (i := 158) rfl) rfl
theorem mc_X6_bestSmoothLevel : Cond.code yX6_bestSmoothLevel cX6_bestSmoothLevel 2 (some .int) ∈ gT := sg4 (List.mem_of_getElem? (i := 159) rfl) rfl
theorem ml_L_10 : Cond.classLink RL 10 RX7 ∈ gT := sg4 (List.mem_of_getElem? (i := 160) rfl) rfl
theorem mq_X7 : Cond.instantiable RX7 20 ∈ gT := sg4 (List.mem_of_getElem? (i := 161) rfl) rfl
theorem mm_L_12 : Cond.methodLink RL 12 yX7_init ∈ gT := sg4 (List.mem_of_getElem? (i := 162) rfl) rfl
theorem mi_X7_init : Cond.instanceMethod yX7_init ∈ gT := sg4 (List.mem_of_getElem? (i := 163) rfl) rfl
theorem mc_X7_init : Cond.code yX7_init cX7_init 2 none ∈ gT := sg4 (List.mem_of_getElem? (i := 164) rfl) rfl
theorem mm_X7_1 : Cond.methodLink RX7 1 Lib.objectInit ∈ gT := sg4 (List.mem_of_getElem? (i := 165) rfl) rfl
theorem mm_X7_56 : Cond.methodLink RX7 56 yX7_begins ∈ gT := sg4 (List.mem_of_getElem? (i := 166) rfl) rfl
theorem mi_X7_begins : Cond.instanceMethod yX7_begins ∈ gT := sg4 (List.mem_of_getElem? (i := 168) rfl) rfl
theorem mc_X7_begins : Cond.code yX7_begins cX7_begins 2 none ∈ gT := sg4 (List.mem_of_getElem? (i := 169) rfl) rfl
theorem mf_X7_7 : Cond.fieldLink RX7 7 "AdaptivePlayerModel" "segments" "I" ∈ gT := sg4 (List.mem_of_getElem? (i := 170) rfl) rfl
theorem mf_X7_13 : Cond.fieldLink RX7 13 "AdaptivePlayerModel" "duration" "I" ∈ gT := sg4 (List.mem_of_getElem? (i := 171) rfl) rfl
theorem mf_X7_16 : Cond.fieldLink RX7 16 "AdaptivePlayerModel" "variation" "[I" ∈ gT := sg4 (List.mem_of_getElem? (i := 172) rfl) rfl
theorem mf_X7_63 : Cond.fieldLink RX7 63 "AdaptivePlayerModel" "levels" "I" ∈ gT := sg4 (List.mem_of_getElem? (i := 173) rfl) rfl
theorem mf_X7_20 : Cond.fieldLink RX7 20 "AdaptivePlayerModel" "bitrate" "[I" ∈ gT := sg4 (List.mem_of_getElem? (i := 174) rfl) rfl
theorem mf_X7_67 : Cond.fieldLink RX7 67 "AdaptivePlayerModel" "periods" "I" ∈ gT := sg4 (List.mem_of_getElem? (i := 175) rfl) rfl
theorem mf_X7_23 : Cond.fieldLink RX7 23 "AdaptivePlayerModel" "periodEnd" "[I" ∈ gT := sg4 (List.mem_of_getElem? (i := 176) rfl) rfl
theorem mf_X7_26 : Cond.fieldLink RX7 26 "AdaptivePlayerModel" "periodRate" "[I" ∈ gT := sg4 (List.mem_of_getElem? (i := 177) rfl) rfl
theorem mf_X7_29 : Cond.fieldLink RX7 29 "AdaptivePlayerModel" "maximum" "I" ∈ gT := sg4 (List.mem_of_getElem? (i := 178) rfl) rfl
theorem mf_X7_32 : Cond.fieldLink RX7 32 "AdaptivePlayerModel" "threshold" "I" ∈ gT := sg4 (List.mem_of_getElem? (i := 179) rfl) rfl
theorem mf_X7_35 : Cond.fieldLink RX7 35 "AdaptivePlayerModel" "safety" "I" ∈ gT := sg4 (List.mem_of_getElem? (i := 180) rfl) rfl
theorem mf_X7_38 : Cond.fieldLink RX7 38 "AdaptivePlayerModel" "reservoir" "I" ∈ gT := sg4 (List.mem_of_getElem? (i := 181) rfl) rfl
theorem mf_X7_41 : Cond.fieldLink RX7 41 "AdaptivePlayerModel" "cushion" "I" ∈ gT := sg4 (List.mem_of_getElem? (i := 182) rfl) rfl
theorem mf_X7_82 : Cond.fieldLink RX7 82 "AdaptivePlayerModel" "policy" "I" ∈ gT := sg4 (List.mem_of_getElem? (i := 183) rfl) rfl
theorem mf_X7_44 : Cond.fieldLink RX7 44 "AdaptivePlayerModel" "cap" "I" ∈ gT := sg4 (List.mem_of_getElem? (i := 184) rfl) rfl
theorem mf_X7_47 : Cond.fieldLink RX7 47 "AdaptivePlayerModel" "now" "[I" ∈ gT := sg4 (List.mem_of_getElem? (i := 185) rfl) rfl
theorem mf_X7_50 : Cond.fieldLink RX7 50 "AdaptivePlayerModel" "aside" "[I" ∈ gT := sg4 (List.mem_of_getElem? (i := 186) rfl) rfl
theorem mf_X7_70 : Cond.fieldLink RX7 70 "AdaptivePlayerModel" "keys" "I" ∈ gT := sg4 (List.mem_of_getElem? (i := 187) rfl) rfl
theorem mf_X7_53 : Cond.fieldLink RX7 53 "AdaptivePlayerModel" "key" "[I" ∈ gT := sg4 (List.mem_of_getElem? (i := 188) rfl) rfl
theorem mf_X7_73 : Cond.fieldLink RX7 73 "AdaptivePlayerModel" "typed" "I" ∈ gT := sg4 (List.mem_of_getElem? (i := 189) rfl) rfl
theorem mm_L_17 : Cond.methodLink RL 17 yX7_setVideo ∈ gT := sg4 (List.mem_of_getElem? (i := 231) rfl) rfl
theorem mi_X7_setVideo : Cond.instanceMethod yX7_setVideo ∈ gT := sg4 (List.mem_of_getElem? (i := 232) rfl) rfl
theorem ms_X7_setVideo : Cond.selects RX7 yX7_setVideo yX7_setVideo ∈ gT := sg4 (List.mem_of_getElem? (i := 233) rfl) rfl
theorem mc_X7_setVideo : Cond.code yX7_setVideo cX7_setVideo 4 (some .int) ∈ gT := sg4 (List.mem_of_getElem? (i := 234) rfl) rfl
theorem mm_X7_59 : Cond.methodLink RX7 59 yX7_within ∈ gT := sg4 (List.mem_of_getElem? (i := 235) rfl) rfl
theorem mt_X7_within : Cond.static yX7_within ∈ gT := sg4 (List.mem_of_getElem? (i := 236) rfl) rfl
theorem mc_X7_within : Cond.code yX7_within cX7_within 3 (some .boolean) ∈ gT := sg4 (List.mem_of_getElem? (i := 237) rfl) rfl
theorem mm_L_22 : Cond.methodLink RL 22 yX7_addLevel ∈ gT := sg4 (List.mem_of_getElem? (i := 238) rfl) rfl
theorem mi_X7_addLevel : Cond.instanceMethod yX7_addLevel ∈ gT := sg4 (List.mem_of_getElem? (i := 239) rfl) rfl
theorem ms_X7_addLevel : Cond.selects RX7 yX7_addLevel yX7_addLevel ∈ gT := sg5 (List.mem_of_getElem? (i := 0) rfl) rfl
theorem mc_X7_addLevel : Cond.code yX7_addLevel cX7_addLevel 2 (some .int) ∈ gT := sg5 (List.mem_of_getElem? (i := 1) rfl) rfl
theorem mm_L_26 : Cond.methodLink RL 26 yX7_setVariation ∈ gT := sg5 (List.mem_of_getElem? (i := 2) rfl) rfl
theorem mi_X7_setVariation : Cond.instanceMethod yX7_setVariation ∈ gT := sg5 (List.mem_of_getElem? (i := 3) rfl) rfl
theorem ms_X7_setVariation : Cond.selects RX7 yX7_setVariation yX7_setVariation ∈ gT := sg5 (List.mem_of_getElem? (i := 4) rfl) rfl
theorem mc_X7_setVariation : Cond.code yX7_setVariation cX7_setVariation 4 (some .int) ∈ gT := sg5 (List.mem_of_getElem? (i := 5) rfl) rfl
theorem mm_L_30 : Cond.methodLink RL 30 yX7_addPeriod ∈ gT := sg5 (List.mem_of_getElem? (i := 6) rfl) rfl
theorem mi_X7_addPeriod : Cond.instanceMethod yX7_addPeriod ∈ gT := sg5 (List.mem_of_getElem? (i := 7) rfl) rfl
theorem ms_X7_addPeriod : Cond.selects RX7 yX7_addPeriod yX7_addPeriod ∈ gT := sg5 (List.mem_of_getElem? (i := 8) rfl) rfl
theorem mc_X7_addPeriod : Cond.code yX7_addPeriod cX7_addPeriod 3 (some .int) ∈ gT := sg5 (List.mem_of_getElem? (i := 9) rfl) rfl
theorem mk_X7_66 : Cond.constant RX7 66 (60000) ∈ gT := sg5 (List.mem_of_getElem? (i := 10) rfl) rfl
theorem mm_L_34 : Cond.methodLink RL 34 yX7_setBuffer ∈ gT := sg5 (List.mem_of_getElem? (i := 11) rfl) rfl
theorem mi_X7_setBuffer : Cond.instanceMethod yX7_setBuffer ∈ gT := sg5 (List.mem_of_getElem? (i := 12) rfl) rfl
theorem ms_X7_setBuffer : Cond.selects RX7 yX7_setBuffer yX7_setBuffer ∈ gT := sg5 (List.mem_of_getElem? (i := 13) rfl) rfl
theorem mc_X7_setBuffer : Cond.code yX7_setBuffer cX7_setBuffer 4 (some .int) ∈ gT := sg5 (List.mem_of_getElem? (i := 14) rfl) rfl
theorem mm_L_39 : Cond.methodLink RL 39 yX7_setPolicyNumbers ∈ gT := sg5 (List.mem_of_getElem? (i := 15) rfl) rfl
theorem mi_X7_setPolicyNumbers : Cond.instanceMethod yX7_setPolicyNumbers ∈ gT := sg5 (List.mem_of_getElem? (i := 16) rfl) rfl
theorem ms_X7_setPolicyNumbers : Cond.selects RX7 yX7_setPolicyNumbers yX7_setPolicyNumbers ∈ gT := sg5 (List.mem_of_getElem? (i := 17) rfl) rfl
theorem mc_X7_setPolicyNumbers : Cond.code yX7_setPolicyNumbers cX7_setPolicyNumbers 5 (some .int) ∈ gT := sg5 (List.mem_of_getElem? (i := 18) rfl) rfl
theorem mm_L_43 : Cond.methodLink RL 43 yX7_typeKey ∈ gT := sg5 (List.mem_of_getElem? (i := 19) rfl) rfl
theorem mi_X7_typeKey : Cond.instanceMethod yX7_typeKey ∈ gT := sg5 (List.mem_of_getElem? (i := 20) rfl) rfl
theorem ms_X7_typeKey : Cond.selects RX7 yX7_typeKey yX7_typeKey ∈ gT := sg5 (List.mem_of_getElem? (i := 21) rfl) rfl
theorem mc_X7_typeKey : Cond.code yX7_typeKey cX7_typeKey 2 (some .int) ∈ gT := sg5 (List.mem_of_getElem? (i := 22) rfl) rfl
theorem mm_L_48 : Cond.methodLink RL 48 yX7_runCommand ∈ gT := sg5 (List.mem_of_getElem? (i := 23) rfl) rfl
theorem mi_X7_runCommand : Cond.instanceMethod yX7_runCommand ∈ gT := sg5 (List.mem_of_getElem? (i := 24) rfl) rfl
theorem ms_X7_runCommand : Cond.selects RX7 yX7_runCommand yX7_runCommand ∈ gT := sg5 (List.mem_of_getElem? (i := 25) rfl) rfl
theorem mc_X7_runCommand : Cond.code yX7_runCommand cX7_runCommand 1 (some .int) ∈ gT := sg5 (List.mem_of_getElem? (i := 26) rfl) rfl
theorem mj_X7_104 : Cond.constantLong RX7 104 (16151209032527) ∈ gT := sg5 (List.mem_of_getElem? (i := 27) rfl) rfl
theorem mm_X7_87 : Cond.methodLink RX7 87 yX7_has ∈ gT := sg5 (List.mem_of_getElem? (i := 28) rfl) rfl
theorem mi_X7_has : Cond.instanceMethod yX7_has ∈ gT := sg5 (List.mem_of_getElem? (i := 30) rfl) rfl
theorem mc_X7_has : Cond.code yX7_has cX7_has 9 (some .boolean) ∈ gT := sg5 (List.mem_of_getElem? (i := 31) rfl) rfl
theorem mj_X7_76 : Cond.constantLong RX7 76 (100) ∈ gT := sg5 (List.mem_of_getElem? (i := 32) rfl) rfl
theorem mm_X7_106 : Cond.methodLink RX7 106 yX7_policyFrom ∈ gT := sg5 (List.mem_of_getElem? (i := 33) rfl) rfl
theorem mi_X7_policyFrom : Cond.instanceMethod yX7_policyFrom ∈ gT := sg5 (List.mem_of_getElem? (i := 35) rfl) rfl
theorem mc_X7_policyFrom : Cond.code yX7_policyFrom cX7_policyFrom 3 (some .int) ∈ gT := sg5 (List.mem_of_getElem? (i := 36) rfl) rfl
theorem mj_X7_85 : Cond.constantLong RX7 85 (609240504) ∈ gT := sg5 (List.mem_of_getElem? (i := 37) rfl) rfl
theorem mm_X7_91 : Cond.methodLink RX7 91 yX7_setsPolicy ∈ gT := sg5 (List.mem_of_getElem? (i := 38) rfl) rfl
theorem mi_X7_setsPolicy : Cond.instanceMethod yX7_setsPolicy ∈ gT := sg5 (List.mem_of_getElem? (i := 40) rfl) rfl
theorem mc_X7_setsPolicy : Cond.code yX7_setsPolicy cX7_setsPolicy 3 (some .int) ∈ gT := sg5 (List.mem_of_getElem? (i := 41) rfl) rfl
theorem mj_X7_95 : Cond.constantLong RX7 95 (18012005) ∈ gT := sg5 (List.mem_of_getElem? (i := 42) rfl) rfl
theorem mj_X7_97 : Cond.constantLong RX7 97 (22106060518) ∈ gT := sg5 (List.mem_of_getElem? (i := 43) rfl) rfl
theorem mj_X7_99 : Cond.constantLong RX7 99 (82502180904) ∈ gT := sg5 (List.mem_of_getElem? (i := 44) rfl) rfl
theorem mj_X7_109 : Cond.constantLong RX7 109 (3011627) ∈ gT := sg5 (List.mem_of_getElem? (i := 45) rfl) rfl
theorem mm_X7_111 : Cond.methodLink RX7 111 yX7_capFrom ∈ gT := sg5 (List.mem_of_getElem? (i := 46) rfl) rfl
theorem mi_X7_capFrom : Cond.instanceMethod yX7_capFrom ∈ gT := sg5 (List.mem_of_getElem? (i := 48) rfl) rfl
theorem mc_X7_capFrom : Cond.code yX7_capFrom cX7_capFrom 4 (some .int) ∈ gT := sg5 (List.mem_of_getElem? (i := 49) rfl) rfl
theorem mm_X7_101 : Cond.methodLink RX7 101 yX7_numberFrom ∈ gT := sg5 (List.mem_of_getElem? (i := 50) rfl) rfl
theorem mi_X7_numberFrom : Cond.instanceMethod yX7_numberFrom ∈ gT := sg5 (List.mem_of_getElem? (i := 52) rfl) rfl
theorem mc_X7_numberFrom : Cond.code yX7_numberFrom cX7_numberFrom 3 (some .int) ∈ gT := sg5 (List.mem_of_getElem? (i := 53) rfl) rfl
theorem mm_X7_78 : Cond.methodLink RX7 78 yX7_isDigit ∈ gT := sg5 (List.mem_of_getElem? (i := 54) rfl) rfl
theorem mi_X7_isDigit : Cond.instanceMethod yX7_isDigit ∈ gT := sg5 (List.mem_of_getElem? (i := 56) rfl) rfl
theorem mc_X7_isDigit : Cond.code yX7_isDigit cX7_isDigit 2 (some .boolean) ∈ gT := sg5 (List.mem_of_getElem? (i := 57) rfl) rfl
theorem mj_X7_114 : Cond.constantLong RX7 114 (1905051127) ∈ gT := sg5 (List.mem_of_getElem? (i := 58) rfl) rfl
theorem mm_X7_116 : Cond.methodLink RX7 116 yX7_seekFrom ∈ gT := sg5 (List.mem_of_getElem? (i := 59) rfl) rfl
theorem mi_X7_seekFrom : Cond.instanceMethod yX7_seekFrom ∈ gT := sg5 (List.mem_of_getElem? (i := 61) rfl) rfl
theorem mc_X7_seekFrom : Cond.code yX7_seekFrom cX7_seekFrom 3 (some .int) ∈ gT := sg5 (List.mem_of_getElem? (i := 62) rfl) rfl
theorem mj_X7_119 : Cond.constantLong RX7 119 (1601211905) ∈ gT := sg5 (List.mem_of_getElem? (i := 63) rfl) rfl
theorem mm_X7_121 : Cond.methodLink RX7 121 yX7_pauses ∈ gT := sg5 (List.mem_of_getElem? (i := 64) rfl) rfl
theorem mi_X7_pauses : Cond.instanceMethod yX7_pauses ∈ gT := sg5 (List.mem_of_getElem? (i := 66) rfl) rfl
theorem mc_X7_pauses : Cond.code yX7_pauses cX7_pauses 3 (some .int) ∈ gT := sg5 (List.mem_of_getElem? (i := 67) rfl) rfl
theorem mj_X7_124 : Cond.constantLong RX7 124 (16120125) ∈ gT := sg5 (List.mem_of_getElem? (i := 68) rfl) rfl
theorem mm_L_52 : Cond.methodLink RL 52 yX7_restart ∈ gT := sg5 (List.mem_of_getElem? (i := 69) rfl) rfl
theorem mi_X7_restart : Cond.instanceMethod yX7_restart ∈ gT := sg5 (List.mem_of_getElem? (i := 70) rfl) rfl
theorem ms_X7_restart : Cond.selects RX7 yX7_restart yX7_restart ∈ gT := sg5 (List.mem_of_getElem? (i := 71) rfl) rfl
theorem mc_X7_restart : Cond.code yX7_restart cX7_restart 2 (some .int) ∈ gT := sg5 (List.mem_of_getElem? (i := 72) rfl) rfl
theorem mm_L_56 : Cond.methodLink RL 56 yX7_advance ∈ gT := sg5 (List.mem_of_getElem? (i := 73) rfl) rfl
theorem mi_X7_advance : Cond.instanceMethod yX7_advance ∈ gT := sg5 (List.mem_of_getElem? (i := 74) rfl) rfl
theorem ms_X7_advance : Cond.selects RX7 yX7_advance yX7_advance ∈ gT := sg5 (List.mem_of_getElem? (i := 75) rfl) rfl
theorem mc_X7_advance : Cond.code yX7_advance cX7_advance 4 (some .int) ∈ gT := sg5 (List.mem_of_getElem? (i := 76) rfl) rfl
theorem mm_X7_168 : Cond.methodLink RX7 168 yX7_passes ∈ gT := sg5 (List.mem_of_getElem? (i := 77) rfl) rfl
theorem mi_X7_passes : Cond.instanceMethod yX7_passes ∈ gT := sg5 (List.mem_of_getElem? (i := 79) rfl) rfl
theorem mc_X7_passes : Cond.code yX7_passes cX7_passes 2 none ∈ gT := sg5 (List.mem_of_getElem? (i := 80) rfl) rfl
theorem mm_X7_155 : Cond.methodLink RX7 155 yX7_startsDownload ∈ gT := sg5 (List.mem_of_getElem? (i := 81) rfl) rfl
theorem mi_X7_startsDownload : Cond.instanceMethod yX7_startsDownload ∈ gT := sg5 (List.mem_of_getElem? (i := 83) rfl) rfl
theorem mc_X7_startsDownload : Cond.code yX7_startsDownload cX7_startsDownload 2 none ∈ gT := sg5 (List.mem_of_getElem? (i := 84) rfl) rfl
theorem mm_X7_142 : Cond.methodLink RX7 142 yX7_chosen ∈ gT := sg5 (List.mem_of_getElem? (i := 85) rfl) rfl
theorem mi_X7_chosen : Cond.instanceMethod yX7_chosen ∈ gT := sg5 (List.mem_of_getElem? (i := 87) rfl) rfl
theorem mc_X7_chosen : Cond.code yX7_chosen cX7_chosen 2 (some .int) ∈ gT := sg5 (List.mem_of_getElem? (i := 88) rfl) rfl
theorem mm_X7_130 : Cond.methodLink RX7 130 yX7_highest ∈ gT := sg5 (List.mem_of_getElem? (i := 89) rfl) rfl
theorem mi_X7_highest : Cond.instanceMethod yX7_highest ∈ gT := sg5 (List.mem_of_getElem? (i := 91) rfl) rfl
theorem mc_X7_highest : Cond.code yX7_highest cX7_highest 1 (some .int) ∈ gT := sg5 (List.mem_of_getElem? (i := 92) rfl) rfl
theorem mm_X7_133 : Cond.methodLink RX7 133 yX7_levelByRate ∈ gT := sg5 (List.mem_of_getElem? (i := 93) rfl) rfl
theorem mi_X7_levelByRate : Cond.instanceMethod yX7_levelByRate ∈ gT := sg5 (List.mem_of_getElem? (i := 95) rfl) rfl
theorem mc_X7_levelByRate : Cond.code yX7_levelByRate cX7_levelByRate 4 (some .int) ∈ gT := sg5 (List.mem_of_getElem? (i := 96) rfl) rfl
theorem mm_X7_126 : Cond.methodLink RX7 126 yX7_estimate ∈ gT := sg5 (List.mem_of_getElem? (i := 97) rfl) rfl
theorem mi_X7_estimate : Cond.instanceMethod yX7_estimate ∈ gT := sg5 (List.mem_of_getElem? (i := 99) rfl) rfl
theorem mc_X7_estimate : Cond.code yX7_estimate cX7_estimate 4 (some .int) ∈ gT := sg5 (List.mem_of_getElem? (i := 100) rfl) rfl
theorem mm_X7_136 : Cond.methodLink RX7 136 yX7_levelByBuffer ∈ gT := sg5 (List.mem_of_getElem? (i := 101) rfl) rfl
theorem mi_X7_levelByBuffer : Cond.instanceMethod yX7_levelByBuffer ∈ gT := sg5 (List.mem_of_getElem? (i := 103) rfl) rfl
theorem mc_X7_levelByBuffer : Cond.code yX7_levelByBuffer cX7_levelByBuffer 2 (some .int) ∈ gT := sg5 (List.mem_of_getElem? (i := 104) rfl) rfl
theorem mm_X7_139 : Cond.methodLink RX7 139 yX7_levelOfBoth ∈ gT := sg5 (List.mem_of_getElem? (i := 105) rfl) rfl
theorem mi_X7_levelOfBoth : Cond.instanceMethod yX7_levelOfBoth ∈ gT := sg5 (List.mem_of_getElem? (i := 107) rfl) rfl
theorem mc_X7_levelOfBoth : Cond.code yX7_levelOfBoth cX7_levelOfBoth 2 (some .int) ∈ gT := sg5 (List.mem_of_getElem? (i := 108) rfl) rfl
theorem mm_X7_145 : Cond.methodLink RX7 145 yX7_sizeOf ∈ gT := sg5 (List.mem_of_getElem? (i := 109) rfl) rfl
theorem mi_X7_sizeOf : Cond.instanceMethod yX7_sizeOf ∈ gT := sg5 (List.mem_of_getElem? (i := 111) rfl) rfl
theorem mc_X7_sizeOf : Cond.code yX7_sizeOf cX7_sizeOf 3 (some .int) ∈ gT := sg5 (List.mem_of_getElem? (i := 112) rfl) rfl
theorem mm_X7_159 : Cond.methodLink RX7 159 yX7_receives ∈ gT := sg5 (List.mem_of_getElem? (i := 113) rfl) rfl
theorem mi_X7_receives : Cond.instanceMethod yX7_receives ∈ gT := sg5 (List.mem_of_getElem? (i := 115) rfl) rfl
theorem mc_X7_receives : Cond.code yX7_receives cX7_receives 1 none ∈ gT := sg5 (List.mem_of_getElem? (i := 116) rfl) rfl
theorem mm_X7_149 : Cond.methodLink RX7 149 yX7_rateAt ∈ gT := sg5 (List.mem_of_getElem? (i := 117) rfl) rfl
theorem mi_X7_rateAt : Cond.instanceMethod yX7_rateAt ∈ gT := sg5 (List.mem_of_getElem? (i := 119) rfl) rfl
theorem mc_X7_rateAt : Cond.code yX7_rateAt cX7_rateAt 3 (some .int) ∈ gT := sg5 (List.mem_of_getElem? (i := 120) rfl) rfl
theorem mm_X7_152 : Cond.methodLink RX7 152 yX7_completes ∈ gT := sg5 (List.mem_of_getElem? (i := 121) rfl) rfl
theorem mi_X7_completes : Cond.instanceMethod yX7_completes ∈ gT := sg5 (List.mem_of_getElem? (i := 123) rfl) rfl
theorem mc_X7_completes : Cond.code yX7_completes cX7_completes 1 none ∈ gT := sg5 (List.mem_of_getElem? (i := 124) rfl) rfl
theorem mm_X7_162 : Cond.methodLink RX7 162 yX7_plays ∈ gT := sg5 (List.mem_of_getElem? (i := 125) rfl) rfl
theorem mi_X7_plays : Cond.instanceMethod yX7_plays ∈ gT := sg5 (List.mem_of_getElem? (i := 127) rfl) rfl
theorem mc_X7_plays : Cond.code yX7_plays cX7_plays 2 none ∈ gT := sg5 (List.mem_of_getElem? (i := 128) rfl) rfl
theorem mm_X7_165 : Cond.methodLink RX7 165 yX7_waits ∈ gT := sg5 (List.mem_of_getElem? (i := 129) rfl) rfl
theorem mi_X7_waits : Cond.instanceMethod yX7_waits ∈ gT := sg5 (List.mem_of_getElem? (i := 131) rfl) rfl
theorem mc_X7_waits : Cond.code yX7_waits cX7_waits 1 none ∈ gT := sg5 (List.mem_of_getElem? (i := 132) rfl) rfl
theorem mm_L_60 : Cond.methodLink RL 60 yX7_time ∈ gT := sg5 (List.mem_of_getElem? (i := 133) rfl) rfl
theorem mi_X7_time : Cond.instanceMethod yX7_time ∈ gT := sg5 (List.mem_of_getElem? (i := 134) rfl) rfl
theorem ms_X7_time : Cond.selects RX7 yX7_time yX7_time ∈ gT := sg5 (List.mem_of_getElem? (i := 135) rfl) rfl
theorem mc_X7_time : Cond.code yX7_time cX7_time 1 (some .int) ∈ gT := sg5 (List.mem_of_getElem? (i := 136) rfl) rfl
theorem mm_L_64 : Cond.methodLink RL 64 yX7_position ∈ gT := sg5 (List.mem_of_getElem? (i := 137) rfl) rfl
theorem mi_X7_position : Cond.instanceMethod yX7_position ∈ gT := sg5 (List.mem_of_getElem? (i := 138) rfl) rfl
theorem ms_X7_position : Cond.selects RX7 yX7_position yX7_position ∈ gT := sg5 (List.mem_of_getElem? (i := 139) rfl) rfl
theorem mc_X7_position : Cond.code yX7_position cX7_position 1 (some .int) ∈ gT := sg5 (List.mem_of_getElem? (i := 140) rfl) rfl
theorem mm_L_68 : Cond.methodLink RL 68 yX7_bufferLevel ∈ gT := sg5 (List.mem_of_getElem? (i := 141) rfl) rfl
theorem mi_X7_bufferLevel : Cond.instanceMethod yX7_bufferLevel ∈ gT := sg5 (List.mem_of_getElem? (i := 142) rfl) rfl
theorem ms_X7_bufferLevel : Cond.selects RX7 yX7_bufferLevel yX7_bufferLevel ∈ gT := sg5 (List.mem_of_getElem? (i := 143) rfl) rfl
theorem mc_X7_bufferLevel : Cond.code yX7_bufferLevel cX7_bufferLevel 1 (some .int) ∈ gT := sg5 (List.mem_of_getElem? (i := 144) rfl) rfl
theorem mm_L_72 : Cond.methodLink RL 72 yX7_state ∈ gT := sg5 (List.mem_of_getElem? (i := 145) rfl) rfl
theorem mi_X7_state : Cond.instanceMethod yX7_state ∈ gT := sg5 (List.mem_of_getElem? (i := 146) rfl) rfl
theorem ms_X7_state : Cond.selects RX7 yX7_state yX7_state ∈ gT := sg5 (List.mem_of_getElem? (i := 147) rfl) rfl
theorem mc_X7_state : Cond.code yX7_state cX7_state 1 (some .int) ∈ gT := sg5 (List.mem_of_getElem? (i := 148) rfl) rfl
theorem mm_L_76 : Cond.methodLink RL 76 yX7_isPaused ∈ gT := sg5 (List.mem_of_getElem? (i := 149) rfl) rfl
theorem mi_X7_isPaused : Cond.instanceMethod yX7_isPaused ∈ gT := sg5 (List.mem_of_getElem? (i := 150) rfl) rfl
theorem ms_X7_isPaused : Cond.selects RX7 yX7_isPaused yX7_isPaused ∈ gT := sg5 (List.mem_of_getElem? (i := 151) rfl) rfl
theorem mc_X7_isPaused : Cond.code yX7_isPaused cX7_isPaused 1 (some .int) ∈ gT := sg5 (List.mem_of_getElem? (i := 152) rfl) rfl
theorem mm_L_80 : Cond.methodLink RL 80 yX7_downloadingSegment ∈ gT := sg5 (List.mem_of_getElem? (i := 153) rfl) rfl
theorem mi_X7_downloadingSegment : Cond.instanceMethod yX7_downloadingSegment ∈ gT := sg5 (List.mem_of_getElem? (i := 154) rfl) rfl
theorem ms_X7_downloadingSegment : Cond.selects RX7 yX7_downloadingSegment yX7_downloadingSegment ∈ gT := sg5 (List.mem_of_getElem? (i := 155) rfl) rfl
theorem mc_X7_downloadingSegment : Cond.code yX7_downloadingSegment cX7_downloadingSegment 1 (some .int) ∈ gT := sg5 (List.mem_of_getElem? (i := 156) rfl) rfl
theorem mm_L_84 : Cond.methodLink RL 84 yX7_segmentLevel ∈ gT := sg5 (List.mem_of_getElem? (i := 157) rfl) rfl
theorem mi_X7_segmentLevel : Cond.instanceMethod yX7_segmentLevel ∈ gT := sg5 (List.mem_of_getElem? (i := 158) rfl) rfl
theorem ms_X7_segmentLevel : Cond.selects RX7 yX7_segmentLevel yX7_segmentLevel ∈ gT := sg5 (List.mem_of_getElem? (i := 159) rfl) rfl
theorem mc_X7_segmentLevel : Cond.code yX7_segmentLevel cX7_segmentLevel 2 (some .int) ∈ gT := sg5 (List.mem_of_getElem? (i := 160) rfl) rfl
theorem mm_L_88 : Cond.methodLink RL 88 yX7_throughputEstimate ∈ gT := sg5 (List.mem_of_getElem? (i := 161) rfl) rfl
theorem mi_X7_throughputEstimate : Cond.instanceMethod yX7_throughputEstimate ∈ gT := sg5 (List.mem_of_getElem? (i := 162) rfl) rfl
theorem ms_X7_throughputEstimate : Cond.selects RX7 yX7_throughputEstimate yX7_throughputEstimate ∈ gT := sg5 (List.mem_of_getElem? (i := 163) rfl) rfl
theorem mc_X7_throughputEstimate : Cond.code yX7_throughputEstimate cX7_throughputEstimate 1 (some .int) ∈ gT := sg5 (List.mem_of_getElem? (i := 164) rfl) rfl
theorem mm_L_92 : Cond.methodLink RL 92 yX7_switchCount ∈ gT := sg5 (List.mem_of_getElem? (i := 165) rfl) rfl
theorem mi_X7_switchCount : Cond.instanceMethod yX7_switchCount ∈ gT := sg5 (List.mem_of_getElem? (i := 166) rfl) rfl
theorem ms_X7_switchCount : Cond.selects RX7 yX7_switchCount yX7_switchCount ∈ gT := sg5 (List.mem_of_getElem? (i := 167) rfl) rfl
theorem mc_X7_switchCount : Cond.code yX7_switchCount cX7_switchCount 1 (some .int) ∈ gT := sg5 (List.mem_of_getElem? (i := 168) rfl) rfl
theorem mm_L_96 : Cond.methodLink RL 96 yX7_stallCount ∈ gT := sg5 (List.mem_of_getElem? (i := 169) rfl) rfl
theorem mi_X7_stallCount : Cond.instanceMethod yX7_stallCount ∈ gT := sg5 (List.mem_of_getElem? (i := 170) rfl) rfl
theorem ms_X7_stallCount : Cond.selects RX7 yX7_stallCount yX7_stallCount ∈ gT := sg5 (List.mem_of_getElem? (i := 171) rfl) rfl
theorem mc_X7_stallCount : Cond.code yX7_stallCount cX7_stallCount 1 (some .int) ∈ gT := sg5 (List.mem_of_getElem? (i := 172) rfl) rfl
theorem mm_L_100 : Cond.methodLink RL 100 yX7_stallTime ∈ gT := sg5 (List.mem_of_getElem? (i := 173) rfl) rfl
theorem mi_X7_stallTime : Cond.instanceMethod yX7_stallTime ∈ gT := sg5 (List.mem_of_getElem? (i := 174) rfl) rfl
theorem ms_X7_stallTime : Cond.selects RX7 yX7_stallTime yX7_stallTime ∈ gT := sg5 (List.mem_of_getElem? (i := 175) rfl) rfl
theorem mc_X7_stallTime : Cond.code yX7_stallTime cX7_stallTime 1 (some .int) ∈ gT := sg5 (List.mem_of_getElem? (i := 176) rfl) rfl
theorem mm_L_104 : Cond.methodLink RL 104 yX7_startupTime ∈ gT := sg5 (List.mem_of_getElem? (i := 177) rfl) rfl
theorem mi_X7_startupTime : Cond.instanceMethod yX7_startupTime ∈ gT := sg5 (List.mem_of_getElem? (i := 178) rfl) rfl
theorem ms_X7_startupTime : Cond.selects RX7 yX7_startupTime yX7_startupTime ∈ gT := sg5 (List.mem_of_getElem? (i := 179) rfl) rfl
theorem mc_X7_startupTime : Cond.code yX7_startupTime cX7_startupTime 1 (some .int) ∈ gT := sg5 (List.mem_of_getElem? (i := 180) rfl) rfl
theorem mm_L_108 : Cond.methodLink RL 108 yX7_bitrateSum ∈ gT := sg5 (List.mem_of_getElem? (i := 181) rfl) rfl
theorem mi_X7_bitrateSum : Cond.instanceMethod yX7_bitrateSum ∈ gT := sg5 (List.mem_of_getElem? (i := 182) rfl) rfl
theorem ms_X7_bitrateSum : Cond.selects RX7 yX7_bitrateSum yX7_bitrateSum ∈ gT := sg5 (List.mem_of_getElem? (i := 183) rfl) rfl
theorem mc_X7_bitrateSum : Cond.code yX7_bitrateSum cX7_bitrateSum 1 (some .int) ∈ gT := sg5 (List.mem_of_getElem? (i := 184) rfl) rfl
theorem mm_L_112 : Cond.methodLink RL 112 yX7_segmentSize ∈ gT := sg5 (List.mem_of_getElem? (i := 185) rfl) rfl
theorem mi_X7_segmentSize : Cond.instanceMethod yX7_segmentSize ∈ gT := sg5 (List.mem_of_getElem? (i := 186) rfl) rfl
theorem ms_X7_segmentSize : Cond.selects RX7 yX7_segmentSize yX7_segmentSize ∈ gT := sg5 (List.mem_of_getElem? (i := 187) rfl) rfl
theorem mc_X7_segmentSize : Cond.code yX7_segmentSize cX7_segmentSize 3 (some .int) ∈ gT := sg5 (List.mem_of_getElem? (i := 188) rfl) rfl
theorem mm_L_116 : Cond.methodLink RL 116 yX7_simulatedStallTime ∈ gT := sg5 (List.mem_of_getElem? (i := 189) rfl) rfl
theorem mi_X7_simulatedStallTime : Cond.instanceMethod yX7_simulatedStallTime ∈ gT := sg5 (List.mem_of_getElem? (i := 190) rfl) rfl
theorem ms_X7_simulatedStallTime : Cond.selects RX7 yX7_simulatedStallTime yX7_simulatedStallTime ∈ gT := sg5 (List.mem_of_getElem? (i := 191) rfl) rfl
theorem mc_X7_simulatedStallTime : Cond.code yX7_simulatedStallTime cX7_simulatedStallTime 2 (some .int) ∈ gT := sg5 (List.mem_of_getElem? (i := 192) rfl) rfl
theorem mm_X7_181 : Cond.methodLink RX7 181 yX7_simulated ∈ gT := sg5 (List.mem_of_getElem? (i := 193) rfl) rfl
theorem mi_X7_simulated : Cond.instanceMethod yX7_simulated ∈ gT := sg5 (List.mem_of_getElem? (i := 195) rfl) rfl
theorem mc_X7_simulated : Cond.code yX7_simulated cX7_simulated 4 (some .int) ∈ gT := sg5 (List.mem_of_getElem? (i := 196) rfl) rfl
theorem mm_X7_172 : Cond.methodLink RX7 172 yX7_setsAside ∈ gT := sg5 (List.mem_of_getElem? (i := 197) rfl) rfl
theorem mi_X7_setsAside : Cond.instanceMethod yX7_setsAside ∈ gT := sg5 (List.mem_of_getElem? (i := 199) rfl) rfl
theorem mc_X7_setsAside : Cond.code yX7_setsAside cX7_setsAside 2 none ∈ gT := sg5 (List.mem_of_getElem? (i := 200) rfl) rfl
theorem mm_X7_175 : Cond.methodLink RX7 175 yX7_simulates ∈ gT := sg5 (List.mem_of_getElem? (i := 201) rfl) rfl
theorem mi_X7_simulates : Cond.instanceMethod yX7_simulates ∈ gT := sg5 (List.mem_of_getElem? (i := 203) rfl) rfl
theorem mc_X7_simulates : Cond.code yX7_simulates cX7_simulates 2 none ∈ gT := sg5 (List.mem_of_getElem? (i := 204) rfl) rfl
theorem mk_X7_171 : Cond.constant RX7 171 (120000) ∈ gT := sg5 (List.mem_of_getElem? (i := 205) rfl) rfl
theorem mm_X7_178 : Cond.methodLink RX7 178 yX7_takesBack ∈ gT := sg5 (List.mem_of_getElem? (i := 206) rfl) rfl
theorem mi_X7_takesBack : Cond.instanceMethod yX7_takesBack ∈ gT := sg5 (List.mem_of_getElem? (i := 208) rfl) rfl
theorem mc_X7_takesBack : Cond.code yX7_takesBack cX7_takesBack 2 none ∈ gT := sg5 (List.mem_of_getElem? (i := 209) rfl) rfl
theorem mm_L_120 : Cond.methodLink RL 120 yX7_simulatedBitrateSum ∈ gT := sg5 (List.mem_of_getElem? (i := 210) rfl) rfl
theorem mi_X7_simulatedBitrateSum : Cond.instanceMethod yX7_simulatedBitrateSum ∈ gT := sg5 (List.mem_of_getElem? (i := 211) rfl) rfl
theorem ms_X7_simulatedBitrateSum : Cond.selects RX7 yX7_simulatedBitrateSum yX7_simulatedBitrateSum ∈ gT := sg5 (List.mem_of_getElem? (i := 212) rfl) rfl
theorem mc_X7_simulatedBitrateSum : Cond.code yX7_simulatedBitrateSum cX7_simulatedBitrateSum 2 (some .int) ∈ gT := sg5 (List.mem_of_getElem? (i := 213) rfl) rfl
theorem mm_L_124 : Cond.methodLink RL 124 yX7_bestSmoothLevel ∈ gT := sg5 (List.mem_of_getElem? (i := 214) rfl) rfl
theorem mi_X7_bestSmoothLevel : Cond.instanceMethod yX7_bestSmoothLevel ∈ gT := sg5 (List.mem_of_getElem? (i := 215) rfl) rfl
theorem ms_X7_bestSmoothLevel : Cond.selects RX7 yX7_bestSmoothLevel yX7_bestSmoothLevel ∈ gT := sg5 (List.mem_of_getElem? (i := 216) rfl) rfl
theorem mc_X7_bestSmoothLevel : Cond.code yX7_bestSmoothLevel cX7_bestSmoothLevel 4 (some .int) ∈ gT := sg5 (List.mem_of_getElem? (i := 217) rfl) rfl
theorem ms_J4_J5_length_8abf5_J4_length_8abf5 : Cond.selects RJ4 yJ5_length_8abf5 yJ4_length_8abf5 ∈ gT := sg5 (List.mem_of_getElem? (i := 223) rfl) rfl
theorem inX0 : ∀ w ∈ u_ws RX0 TX0 3, w ∈ gT := show ∀ w ∈ ([u_lay RX0 TX0 0, u_lay RX0 TX0 1, u_lay RX0 TX0 2] : List Cond), w ∈ gT from List.forall_mem_cons.mpr ⟨sg1 (List.mem_of_getElem? (i := 69) rfl) rfl, List.forall_mem_cons.mpr ⟨sg1 (List.mem_of_getElem? (i := 71) rfl) rfl, List.forall_mem_cons.mpr ⟨sg1 (List.mem_of_getElem? (i := 73) rfl) rfl, fun _ h => absurd h List.not_mem_nil⟩⟩⟩
theorem inX1 : ∀ w ∈ u_ws RX1 TX1 5, w ∈ gT := show ∀ w ∈ ([u_lay RX1 TX1 0, u_lay RX1 TX1 1, u_lay RX1 TX1 2, u_lay RX1 TX1 3, u_lay RX1 TX1 4] : List Cond), w ∈ gT from List.forall_mem_cons.mpr ⟨sg1 (List.mem_of_getElem? (i := 136) rfl) rfl, List.forall_mem_cons.mpr ⟨sg1 (List.mem_of_getElem? (i := 138) rfl) rfl, List.forall_mem_cons.mpr ⟨sg1 (List.mem_of_getElem? (i := 140) rfl) rfl, List.forall_mem_cons.mpr ⟨sg1 (List.mem_of_getElem? (i := 142) rfl) rfl, List.forall_mem_cons.mpr ⟨sg1 (List.mem_of_getElem? (i := 144) rfl) rfl, fun _ h => absurd h List.not_mem_nil⟩⟩⟩⟩⟩
theorem inX2 : ∀ w ∈ u_ws RX2 TX2 18, w ∈ gT := show ∀ w ∈ ([u_lay RX2 TX2 0, u_lay RX2 TX2 1, u_lay RX2 TX2 2, u_lay RX2 TX2 3, u_lay RX2 TX2 4, u_lay RX2 TX2 5, u_lay RX2 TX2 6, u_lay RX2 TX2 7, u_lay RX2 TX2 8, u_lay RX2 TX2 9, u_lay RX2 TX2 10, u_lay RX2 TX2 11, u_lay RX2 TX2 12, u_lay RX2 TX2 13, u_lay RX2 TX2 14, u_lay RX2 TX2 15, u_lay RX2 TX2 16, u_lay RX2 TX2 17] : List Cond), w ∈ gT from List.forall_mem_cons.mpr ⟨sg1 (List.mem_of_getElem? (i := 194) rfl) rfl, List.forall_mem_cons.mpr ⟨sg1 (List.mem_of_getElem? (i := 196) rfl) rfl, List.forall_mem_cons.mpr ⟨sg1 (List.mem_of_getElem? (i := 198) rfl) rfl, List.forall_mem_cons.mpr ⟨sg1 (List.mem_of_getElem? (i := 200) rfl) rfl, List.forall_mem_cons.mpr ⟨sg1 (List.mem_of_getElem? (i := 202) rfl) rfl, List.forall_mem_cons.mpr ⟨sg1 (List.mem_of_getElem? (i := 204) rfl) rfl, List.forall_mem_cons.mpr ⟨sg1 (List.mem_of_getElem? (i := 206) rfl) rfl, List.forall_mem_cons.mpr ⟨sg1 (List.mem_of_getElem? (i := 208) rfl) rfl, List.forall_mem_cons.mpr ⟨sg1 (List.mem_of_getElem? (i := 210) rfl) rfl, List.forall_mem_cons.mpr ⟨sg1 (List.mem_of_getElem? (i := 212) rfl) rfl, List.forall_mem_cons.mpr ⟨sg1 (List.mem_of_getElem? (i := 214) rfl) rfl, List.forall_mem_cons.mpr ⟨sg1 (List.mem_of_getElem? (i := 216) rfl) rfl, List.forall_mem_cons.mpr ⟨sg1 (List.mem_of_getElem? (i := 218) rfl) rfl, List.forall_mem_cons.mpr ⟨sg1 (List.mem_of_getElem? (i := 220) rfl) rfl, List.forall_mem_cons.mpr ⟨sg1 (List.mem_of_getElem? (i := 222) rfl) rfl, List.forall_mem_cons.mpr ⟨sg1 (List.mem_of_getElem? (i := 224) rfl) rfl, List.forall_mem_cons.mpr ⟨sg1 (List.mem_of_getElem? (i := 226) rfl) rfl, List.forall_mem_cons.mpr ⟨sg1 (List.mem_of_getElem? (i := 228) rfl) rfl, fun _ h => absurd h List.not_mem_nil⟩⟩⟩⟩⟩⟩⟩⟩⟩⟩⟩⟩⟩⟩⟩⟩⟩⟩
theorem inX3 : ∀ w ∈ u_ws RX3 TX3 5, w ∈ gT := show ∀ w ∈ ([u_lay RX3 TX3 0, u_lay RX3 TX3 1, u_lay RX3 TX3 2, u_lay RX3 TX3 3, u_lay RX3 TX3 4] : List Cond), w ∈ gT from List.forall_mem_cons.mpr ⟨sg1 (List.mem_of_getElem? (i := 92) rfl) rfl, List.forall_mem_cons.mpr ⟨sg1 (List.mem_of_getElem? (i := 94) rfl) rfl, List.forall_mem_cons.mpr ⟨sg1 (List.mem_of_getElem? (i := 96) rfl) rfl, List.forall_mem_cons.mpr ⟨sg1 (List.mem_of_getElem? (i := 98) rfl) rfl, List.forall_mem_cons.mpr ⟨sg1 (List.mem_of_getElem? (i := 100) rfl) rfl, fun _ h => absurd h List.not_mem_nil⟩⟩⟩⟩⟩
theorem inX4 : ∀ w ∈ u_ws RX4 TX4 2, w ∈ gT := show ∀ w ∈ ([u_lay RX4 TX4 0, u_lay RX4 TX4 1] : List Cond), w ∈ gT from List.forall_mem_cons.mpr ⟨sg1 (List.mem_of_getElem? (i := 117) rfl) rfl, List.forall_mem_cons.mpr ⟨sg1 (List.mem_of_getElem? (i := 119) rfl) rfl, fun _ h => absurd h List.not_mem_nil⟩⟩
theorem inX5 : ∀ w ∈ u_ws RX5 TX5 5, w ∈ gT := show ∀ w ∈ ([u_lay RX5 TX5 0, u_lay RX5 TX5 1, u_lay RX5 TX5 2, u_lay RX5 TX5 3, u_lay RX5 TX5 4] : List Cond), w ∈ gT from List.forall_mem_cons.mpr ⟨sg1 (List.mem_of_getElem? (i := 47) rfl) rfl, List.forall_mem_cons.mpr ⟨sg1 (List.mem_of_getElem? (i := 49) rfl) rfl, List.forall_mem_cons.mpr ⟨sg1 (List.mem_of_getElem? (i := 51) rfl) rfl, List.forall_mem_cons.mpr ⟨sg1 (List.mem_of_getElem? (i := 53) rfl) rfl, List.forall_mem_cons.mpr ⟨sg1 (List.mem_of_getElem? (i := 55) rfl) rfl, fun _ h => absurd h List.not_mem_nil⟩⟩⟩⟩⟩
theorem inX6 : ∀ w ∈ u_ws RX6 TX6 8, w ∈ gT := show ∀ w ∈ ([u_lay RX6 TX6 0, u_lay RX6 TX6 1, u_lay RX6 TX6 2, u_lay RX6 TX6 3, u_lay RX6 TX6 4, u_lay RX6 TX6 5, u_lay RX6 TX6 6, u_lay RX6 TX6 7] : List Cond), w ∈ gT from List.forall_mem_cons.mpr ⟨sg2 (List.mem_of_getElem? (i := 32) rfl) rfl, List.forall_mem_cons.mpr ⟨sg2 (List.mem_of_getElem? (i := 34) rfl) rfl, List.forall_mem_cons.mpr ⟨sg2 (List.mem_of_getElem? (i := 36) rfl) rfl, List.forall_mem_cons.mpr ⟨sg2 (List.mem_of_getElem? (i := 38) rfl) rfl, List.forall_mem_cons.mpr ⟨sg2 (List.mem_of_getElem? (i := 40) rfl) rfl, List.forall_mem_cons.mpr ⟨sg2 (List.mem_of_getElem? (i := 42) rfl) rfl, List.forall_mem_cons.mpr ⟨sg2 (List.mem_of_getElem? (i := 44) rfl) rfl, List.forall_mem_cons.mpr ⟨sg2 (List.mem_of_getElem? (i := 46) rfl) rfl, fun _ h => absurd h List.not_mem_nil⟩⟩⟩⟩⟩⟩⟩⟩
theorem inX7 : ∀ w ∈ u_ws RX7 TX7 20, w ∈ gT := show ∀ w ∈ ([u_lay RX7 TX7 0, u_lay RX7 TX7 1, u_lay RX7 TX7 2, u_lay RX7 TX7 3, u_lay RX7 TX7 4, u_lay RX7 TX7 5, u_lay RX7 TX7 6, u_lay RX7 TX7 7, u_lay RX7 TX7 8, u_lay RX7 TX7 9, u_lay RX7 TX7 10, u_lay RX7 TX7 11, u_lay RX7 TX7 12, u_lay RX7 TX7 13, u_lay RX7 TX7 14, u_lay RX7 TX7 15, u_lay RX7 TX7 16, u_lay RX7 TX7 17, u_lay RX7 TX7 18, u_lay RX7 TX7 19] : List Cond), w ∈ gT from List.forall_mem_cons.mpr ⟨sg4 (List.mem_of_getElem? (i := 190) rfl) rfl, List.forall_mem_cons.mpr ⟨sg4 (List.mem_of_getElem? (i := 192) rfl) rfl, List.forall_mem_cons.mpr ⟨sg4 (List.mem_of_getElem? (i := 194) rfl) rfl, List.forall_mem_cons.mpr ⟨sg4 (List.mem_of_getElem? (i := 196) rfl) rfl, List.forall_mem_cons.mpr ⟨sg4 (List.mem_of_getElem? (i := 198) rfl) rfl, List.forall_mem_cons.mpr ⟨sg4 (List.mem_of_getElem? (i := 200) rfl) rfl, List.forall_mem_cons.mpr ⟨sg4 (List.mem_of_getElem? (i := 202) rfl) rfl, List.forall_mem_cons.mpr ⟨sg4 (List.mem_of_getElem? (i := 204) rfl) rfl, List.forall_mem_cons.mpr ⟨sg4 (List.mem_of_getElem? (i := 206) rfl) rfl, List.forall_mem_cons.mpr ⟨sg4 (List.mem_of_getElem? (i := 208) rfl) rfl, List.forall_mem_cons.mpr ⟨sg4 (List.mem_of_getElem? (i := 210) rfl) rfl, List.forall_mem_cons.mpr ⟨sg4 (List.mem_of_getElem? (i := 212) rfl) rfl, List.forall_mem_cons.mpr ⟨sg4 (List.mem_of_getElem? (i := 214) rfl) rfl, List.forall_mem_cons.mpr ⟨sg4 (List.mem_of_getElem? (i := 216) rfl) rfl, List.forall_mem_cons.mpr ⟨sg4 (List.mem_of_getElem? (i := 218) rfl) rfl, List.forall_mem_cons.mpr ⟨sg4 (List.mem_of_getElem? (i := 220) rfl) rfl, List.forall_mem_cons.mpr ⟨sg4 (List.mem_of_getElem? (i := 222) rfl) rfl, List.forall_mem_cons.mpr ⟨sg4 (List.mem_of_getElem? (i := 224) rfl) rfl, List.forall_mem_cons.mpr ⟨sg4 (List.mem_of_getElem? (i := 226) rfl) rfl, List.forall_mem_cons.mpr ⟨sg4 (List.mem_of_getElem? (i := 228) rfl) rfl, fun _ h => absurd h List.not_mem_nil⟩⟩⟩⟩⟩⟩⟩⟩⟩⟩⟩⟩⟩⟩⟩⟩⟩⟩⟩⟩
theorem inJ0 : ∀ w ∈ u_ws RJ0 TJ0 4, w ∈ gT := show ∀ w ∈ ([u_lay RJ0 TJ0 0, u_lay RJ0 TJ0 1, u_lay RJ0 TJ0 2, u_lay RJ0 TJ0 3] : List Cond), w ∈ gT from List.forall_mem_cons.mpr ⟨sg3 (List.mem_of_getElem? (i := 38) rfl) rfl, List.forall_mem_cons.mpr ⟨sg3 (List.mem_of_getElem? (i := 40) rfl) rfl, List.forall_mem_cons.mpr ⟨sg3 (List.mem_of_getElem? (i := 42) rfl) rfl, List.forall_mem_cons.mpr ⟨sg3 (List.mem_of_getElem? (i := 44) rfl) rfl, fun _ h => absurd h List.not_mem_nil⟩⟩⟩⟩
theorem inJ4 : ∀ w ∈ u_ws RJ4 TJ4 4, w ∈ gT := show ∀ w ∈ ([u_lay RJ4 TJ4 0, u_lay RJ4 TJ4 1, u_lay RJ4 TJ4 2, u_lay RJ4 TJ4 3] : List Cond), w ∈ gT from List.forall_mem_cons.mpr ⟨sg2 (List.mem_of_getElem? (i := 14) rfl) rfl, List.forall_mem_cons.mpr ⟨sg2 (List.mem_of_getElem? (i := 16) rfl) rfl, List.forall_mem_cons.mpr ⟨sg2 (List.mem_of_getElem? (i := 18) rfl) rfl, List.forall_mem_cons.mpr ⟨sg2 (List.mem_of_getElem? (i := 20) rfl) rfl, fun _ h => absurd h List.not_mem_nil⟩⟩⟩⟩
