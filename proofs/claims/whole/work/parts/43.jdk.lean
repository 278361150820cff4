/-! the JDK: words and rules -/
theorem wc_J0_length_8abf5 : Cond.code yJ0_length_8abf5 cJ0_length_8abf5 1 (some .int) ∈ lw_good := lg_t 1209 (by decide +kernel) (by decide +kernel)
theorem wi_J0_length_8abf5 : Cond.instanceMethod yJ0_length_8abf5 ∈ lw_good := lg_t 1207 (by decide +kernel) (by decide +kernel)
theorem wv_J0_length_8abf5 : Cond.selects RJ0 yJ0_length_8abf5 yJ0_length_8abf5 ∈ lw_good := lg_t 1208 (by decide +kernel) (by decide +kernel)
theorem wc_J0_isEmpty_aae02 : Cond.code yJ0_isEmpty_aae02 cJ0_isEmpty_aae02 1 (some .boolean) ∈ lw_good := lg_t 1474 (by decide +kernel) (by decide +kernel)
theorem wi_J0_isEmpty_aae02 : Cond.instanceMethod yJ0_isEmpty_aae02 ∈ lw_good := lg_t 1472 (by decide +kernel) (by decide +kernel)
theorem wv_J0_isEmpty_aae02 : Cond.selects RJ0 yJ0_isEmpty_aae02 yJ0_isEmpty_aae02 ∈ lw_good := lg_t 1473 (by decide +kernel) (by decide +kernel)
theorem wc_J0_charAt_5068e : Cond.code yJ0_charAt_5068e cJ0_charAt_5068e 2 (some .char) ∈ lw_good := lg_t 1479 (by decide +kernel) (by decide +kernel)
theorem wi_J0_charAt_5068e : Cond.instanceMethod yJ0_charAt_5068e ∈ lw_good := lg_t 1477 (by decide +kernel) (by decide +kernel)
theorem wv_J0_charAt_5068e : Cond.selects RJ0 yJ0_charAt_5068e yJ0_charAt_5068e ∈ lw_good := lg_t 1478 (by decide +kernel) (by decide +kernel)
theorem wc_J0_coder_7d493 : Cond.code yJ0_coder_7d493 cJ0_coder_7d493 1 (some .byte) ∈ lw_good := lg_t 1213 (by decide +kernel) (by decide +kernel)
theorem wi_J0_coder_7d493 : Cond.instanceMethod yJ0_coder_7d493 ∈ lw_good := lg_t 1211 (by decide +kernel) (by decide +kernel)
theorem wv_J0_coder_7d493 : Cond.selects RJ0 yJ0_coder_7d493 yJ0_coder_7d493 ∈ lw_good := lg_t 1212 (by decide +kernel) (by decide +kernel)
theorem wc_J0_isLatin1_aae02 : Cond.code yJ0_isLatin1_aae02 cJ0_isLatin1_aae02 1 (some .boolean) ∈ lw_good := lg_t 1483 (by decide +kernel) (by decide +kernel)
theorem wi_J0_isLatin1_aae02 : Cond.instanceMethod yJ0_isLatin1_aae02 ∈ lw_good := lg_t 1481 (by decide +kernel) (by decide +kernel)
theorem wv_J0_isLatin1_aae02 : Cond.selects RJ0 yJ0_isLatin1_aae02 yJ0_isLatin1_aae02 ∈ lw_good := lg_t 1482 (by decide +kernel) (by decide +kernel)
theorem wc_J0_checkIndex_df160 : Cond.code yJ0_checkIndex_df160 cJ0_checkIndex_df160 2 none ∈ lw_good := lg_t 1390 (by decide +kernel) (by decide +kernel)
theorem wt_J0_checkIndex_df160 : Cond.static yJ0_checkIndex_df160 ∈ lw_good := lg_t 1389 (by decide +kernel) (by decide +kernel)
theorem wc_J1_charAt_3b067 : Cond.code yJ1_charAt_3b067 cJ1_charAt_3b067 2 (some .char) ∈ lw_good := lg_t 1486 (by decide +kernel) (by decide +kernel)
theorem wt_J1_charAt_3b067 : Cond.static yJ1_charAt_3b067 ∈ lw_good := lg_t 1485 (by decide +kernel) (by decide +kernel)
theorem wc_J1_canEncode_fc78d : Cond.code yJ1_canEncode_fc78d cJ1_canEncode_fc78d 1 (some .boolean) ∈ lw_good := lg_t 1381 (by decide +kernel) (by decide +kernel)
theorem wt_J1_canEncode_fc78d : Cond.static yJ1_canEncode_fc78d ∈ lw_good := lg_t 1380 (by decide +kernel) (by decide +kernel)
theorem wc_J3_checkIndex_8e157 : Cond.code yJ3_checkIndex_8e157 cJ3_checkIndex_8e157 3 (some .int) ∈ lw_good := lg_t 1393 (by decide +kernel) (by decide +kernel)
theorem wt_J3_checkIndex_8e157 : Cond.static yJ3_checkIndex_8e157 ∈ lw_good := lg_t 1392 (by decide +kernel) (by decide +kernel)
theorem wc_J4_init_da8c8 : Cond.code yJ4_init_da8c8 cJ4_init_da8c8 1 none ∈ lw_good := lg_t 277 (by decide +kernel) (by decide +kernel)
theorem wi_J4_init_da8c8 : Cond.instanceMethod yJ4_init_da8c8 ∈ lw_good := lg_t 276 (by decide +kernel) (by decide +kernel)
theorem wc_J4_append_cf468 : Cond.code yJ4_append_cf468 cJ4_append_cf468 2 (some (.object "java/lang/StringBuilder")) ∈ lw_good := lg_t 1375 (by decide +kernel) (by decide +kernel)
theorem wi_J4_append_cf468 : Cond.instanceMethod yJ4_append_cf468 ∈ lw_good := lg_t 1373 (by decide +kernel) (by decide +kernel)
theorem wv_J4_append_cf468 : Cond.selects RJ4 yJ4_append_cf468 yJ4_append_cf468 ∈ lw_good := lg_t 1374 (by decide +kernel) (by decide +kernel)
theorem wc_J4_append_bf812 : Cond.code yJ4_append_bf812 cJ4_append_bf812 2 (some (.object "java/lang/StringBuilder")) ∈ lw_good := lg_t 1252 (by decide +kernel) (by decide +kernel)
theorem wi_J4_append_bf812 : Cond.instanceMethod yJ4_append_bf812 ∈ lw_good := lg_t 1250 (by decide +kernel) (by decide +kernel)
theorem wv_J4_append_bf812 : Cond.selects RJ4 yJ4_append_bf812 yJ4_append_bf812 ∈ lw_good := lg_t 1251 (by decide +kernel) (by decide +kernel)
theorem wc_J4_charAt_5068e : Cond.code yJ4_charAt_5068e cJ4_charAt_5068e 2 (some .char) ∈ lw_good := lg_t 1410 (by decide +kernel) (by decide +kernel)
theorem wi_J4_charAt_5068e : Cond.instanceMethod yJ4_charAt_5068e ∈ lw_good := lg_t 1408 (by decide +kernel) (by decide +kernel)
theorem wv_J4_charAt_5068e : Cond.selects RJ4 yJ4_charAt_5068e yJ4_charAt_5068e ∈ lw_good := lg_t 1409 (by decide +kernel) (by decide +kernel)
theorem wc_J4_setLength_d00df : Cond.code yJ4_setLength_d00df cJ4_setLength_d00df 2 none ∈ lw_good := lg_t 1121 (by decide +kernel) (by decide +kernel)
theorem wi_J4_setLength_d00df : Cond.instanceMethod yJ4_setLength_d00df ∈ lw_good := lg_t 1119 (by decide +kernel) (by decide +kernel)
theorem wv_J4_setLength_d00df : Cond.selects RJ4 yJ4_setLength_d00df yJ4_setLength_d00df ∈ lw_good := lg_t 1120 (by decide +kernel) (by decide +kernel)
theorem wc_J4_length_8abf5 : Cond.code yJ4_length_8abf5 cJ4_length_8abf5 1 (some .int) ∈ lw_good := lg_t 1296 (by decide +kernel) (by decide +kernel)
theorem wi_J4_length_8abf5 : Cond.instanceMethod yJ4_length_8abf5 ∈ lw_good := lg_t 1295 (by decide +kernel) (by decide +kernel)
theorem wv_J4_length_8abf5 : Cond.selects RJ4 yJ4_length_8abf5 yJ4_length_8abf5 ∈ lw_good := lg_t 2150 (by decide +kernel) (by decide +kernel)
theorem wc_J5_init_d00df : Cond.code yJ5_init_d00df cJ5_init_d00df 2 none ∈ lw_good := lg_t 280 (by decide +kernel) (by decide +kernel)
theorem wi_J5_init_d00df : Cond.instanceMethod yJ5_init_d00df ∈ lw_good := lg_t 279 (by decide +kernel) (by decide +kernel)
theorem wc_J5_length_8abf5 : Cond.code yJ5_length_8abf5 cJ5_length_8abf5 1 (some .int) ∈ lw_good := lg_t 1298 (by decide +kernel) (by decide +kernel)
theorem wi_J5_length_8abf5 : Cond.instanceMethod yJ5_length_8abf5 ∈ lw_good := lg_t 1292 (by decide +kernel) (by decide +kernel)
theorem wc_J5_ensureCapacityInternal_d00df : Cond.code yJ5_ensureCapacityInternal_d00df cJ5_ensureCapacityInternal_d00df 3 none ∈ lw_good := lg_t 1147 (by decide +kernel) (by decide +kernel)
theorem wi_J5_ensureCapacityInternal_d00df : Cond.instanceMethod yJ5_ensureCapacityInternal_d00df ∈ lw_good := lg_t 1146 (by decide +kernel) (by decide +kernel)
theorem wc_J5_newCapacity_0f7a4 : Cond.code yJ5_newCapacity_0f7a4 cJ5_newCapacity_0f7a4 6 (some .int) ∈ lw_good := lg_t 1151 (by decide +kernel) (by decide +kernel)
theorem wi_J5_newCapacity_0f7a4 : Cond.instanceMethod yJ5_newCapacity_0f7a4 ∈ lw_good := lg_t 1150 (by decide +kernel) (by decide +kernel)
theorem wc_J5_setLength_d00df : Cond.code yJ5_setLength_d00df cJ5_setLength_d00df 2 none ∈ lw_good := lg_t 1124 (by decide +kernel) (by decide +kernel)
theorem wi_J5_setLength_d00df : Cond.instanceMethod yJ5_setLength_d00df ∈ lw_good := lg_t 1123 (by decide +kernel) (by decide +kernel)
theorem wc_J5_charAt_5068e : Cond.code yJ5_charAt_5068e cJ5_charAt_5068e 5 (some .char) ∈ lw_good := lg_t 1413 (by decide +kernel) (by decide +kernel)
theorem wi_J5_charAt_5068e : Cond.instanceMethod yJ5_charAt_5068e ∈ lw_good := lg_t 1412 (by decide +kernel) (by decide +kernel)
theorem wc_J5_append_3fe6f : Cond.code yJ5_append_3fe6f cJ5_append_3fe6f 2 (some (.object "java/lang/AbstractStringBuilder")) ∈ lw_good := lg_t 1378 (by decide +kernel) (by decide +kernel)
theorem wi_J5_append_3fe6f : Cond.instanceMethod yJ5_append_3fe6f ∈ lw_good := lg_t 1377 (by decide +kernel) (by decide +kernel)
theorem wc_J5_append_c97b9 : Cond.code yJ5_append_c97b9 cJ5_append_c97b9 4 (some (.object "java/lang/AbstractStringBuilder")) ∈ lw_good := lg_t 1255 (by decide +kernel) (by decide +kernel)
theorem wi_J5_append_c97b9 : Cond.instanceMethod yJ5_append_c97b9 ∈ lw_good := lg_t 1254 (by decide +kernel) (by decide +kernel)
theorem wc_J5_isLatin1_aae02 : Cond.code yJ5_isLatin1_aae02 cJ5_isLatin1_aae02 1 (some .boolean) ∈ lw_good := lg_t 1179 (by decide +kernel) (by decide +kernel)
theorem wi_J5_isLatin1_aae02 : Cond.instanceMethod yJ5_isLatin1_aae02 ∈ lw_good := lg_t 1176 (by decide +kernel) (by decide +kernel)
theorem wc_J6_getChars_ba4f3 : Cond.code yJ6_getChars_ba4f3 cJ6_getChars_ba4f3 7 (some .int) ∈ lw_good := lg_t 1261 (by decide +kernel) (by decide +kernel)
theorem wt_J6_getChars_ba4f3 : Cond.static yJ6_getChars_ba4f3 ∈ lw_good := lg_t 1260 (by decide +kernel) (by decide +kernel)
theorem wc_J6_stringSize_0f7a4 : Cond.code yJ6_stringSize_0f7a4 cJ6_stringSize_0f7a4 4 (some .int) ∈ lw_good := lg_t 1258 (by decide +kernel) (by decide +kernel)
theorem wt_J6_stringSize_0f7a4 : Cond.static yJ6_stringSize_0f7a4 ∈ lw_good := lg_t 1257 (by decide +kernel) (by decide +kernel)
theorem wc_J7_copyOf_9075b : Cond.code yJ7_copyOf_9075b cJ7_copyOf_9075b 3 (some (.array .byte)) ∈ lw_good := lg_t 1165 (by decide +kernel) (by decide +kernel)
theorem wt_J7_copyOf_9075b : Cond.static yJ7_copyOf_9075b ∈ lw_good := lg_t 1164 (by decide +kernel) (by decide +kernel)
theorem wc_J8_newLength_cabcc : Cond.code yJ8_newLength_cabcc cJ8_newLength_cabcc 4 (some .int) ∈ lw_good := lg_t 1154 (by decide +kernel) (by decide +kernel)
theorem wt_J8_newLength_cabcc : Cond.static yJ8_newLength_cabcc ∈ lw_good := lg_t 1153 (by decide +kernel) (by decide +kernel)
theorem wc_J9_max_7cf53 : Cond.code yJ9_max_7cf53 cJ9_max_7cf53 2 (some .int) ∈ lw_good := lg_t 1157 (by decide +kernel) (by decide +kernel)
theorem wt_J9_max_7cf53 : Cond.static yJ9_max_7cf53 ∈ lw_good := lg_t 1156 (by decide +kernel) (by decide +kernel)
theorem wn_J5 : Cond.initialized RJ5 ∈ lw_good := lg_t 10 (by decide +kernel) (by decide +kernel)
theorem wn_J4 : Cond.initialized RJ4 ∈ lw_good := lg_t 11 (by decide +kernel) (by decide +kernel)
theorem wn_J0 : Cond.initialized RJ0 ∈ lw_good := lg_t 12 (by decide +kernel) (by decide +kernel)
theorem wn_J2 : Cond.initialized RJ2 ∈ lw_good := lg_t 13 (by decide +kernel) (by decide +kernel)
theorem wn_J10 : Cond.initialized RJ10 ∈ lw_good := lg_t 22 (by decide +kernel) (by decide +kernel)
theorem wn_J9 : Cond.initialized RJ9 ∈ lw_good := lg_t 23 (by decide +kernel) (by decide +kernel)
theorem wn_J8 : Cond.initialized RJ8 ∈ lw_good := lg_t 27 (by decide +kernel) (by decide +kernel)
theorem wn_J7 : Cond.initialized RJ7 ∈ lw_good := lg_t 28 (by decide +kernel) (by decide +kernel)
theorem wn_J3 : Cond.initialized RJ3 ∈ lw_good := lg_t 29 (by decide +kernel) (by decide +kernel)
theorem wn_J1 : Cond.initialized RJ1 ∈ lw_good := lg_t 30 (by decide +kernel) (by decide +kernel)
theorem wn_J6 : Cond.initialized RJ6 ∈ lw_good := lg_t 32 (by decide +kernel) (by decide +kernel)
theorem cv_X8_230 : CV RX8 230 RJ4 yJ4_setLength_d00df cJ4_setLength_d00df 2 1 none := ⟨wl_X8_230, wi_J4_setLength_d00df, wv_J4_setLength_d00df, wn_J4, wc_J4_setLength_d00df, rfl, by decide, by decide, by decide +kernel⟩
theorem cv_X8_233 : CV RX8 233 RJ4 yJ4_append_bf812 cJ4_append_bf812 2 1 (some (.object "java/lang/StringBuilder")) := ⟨wl_X8_233, wi_J4_append_bf812, wv_J4_append_bf812, wn_J4, wc_J4_append_bf812, rfl, by decide, by decide, by decide +kernel⟩
theorem cv_X8_237 : CV RX8 237 RJ4 yJ4_append_cf468 cJ4_append_cf468 2 1 (some (.object "java/lang/StringBuilder")) := ⟨wl_X8_237, wi_J4_append_cf468, wv_J4_append_cf468, wn_J4, wc_J4_append_cf468, rfl, by decide, by decide, by decide +kernel⟩
theorem cv_X8_243 : CV RX8 243 RJ4 yJ4_length_8abf5 cJ4_length_8abf5 1 0 (some .int) := ⟨wl_X8_243, wi_J4_length_8abf5, wv_J4_length_8abf5, wn_J4, wc_J4_length_8abf5, rfl, by decide, by decide, by decide +kernel⟩
theorem cv_X8_251 : CV RX8 251 RJ4 yJ4_charAt_5068e cJ4_charAt_5068e 2 1 (some .char) := ⟨wl_X8_251, wi_J4_charAt_5068e, wv_J4_charAt_5068e, wn_J4, wc_J4_charAt_5068e, rfl, by decide, by decide, by decide +kernel⟩
theorem cv_X6_48 : CV RX6 48 RJ0 yJ0_isEmpty_aae02 cJ0_isEmpty_aae02 1 0 (some .boolean) := ⟨wl_X6_48, wi_J0_isEmpty_aae02, wv_J0_isEmpty_aae02, wn_J0, wc_J0_isEmpty_aae02, rfl, by decide, by decide, by decide +kernel⟩
theorem cv_X6_54 : CV RX6 54 RJ0 yJ0_length_8abf5 cJ0_length_8abf5 1 0 (some .int) := ⟨wl_X6_54, wi_J0_length_8abf5, wv_J0_length_8abf5, wn_J0, wc_J0_length_8abf5, rfl, by decide, by decide, by decide +kernel⟩
theorem cv_X6_57 : CV RX6 57 RJ0 yJ0_charAt_5068e cJ0_charAt_5068e 2 1 (some .char) := ⟨wl_X6_57, wi_J0_charAt_5068e, wv_J0_charAt_5068e, wn_J0, wc_J0_charAt_5068e, rfl, by decide, by decide, by decide +kernel⟩
theorem wl_J5_3 : Cond.methodLink RJ5 3 ⟨"java/lang/Object", "<init>", "()V"⟩ ∈ lw_good := lg_t 281 (by decide +kernel) (by decide +kernel)
theorem wl_J5_26 : Cond.methodLink RJ5 26 yJ2_newBytesFor_77867 ∈ lw_good := lg_t 284 (by decide +kernel) (by decide +kernel)
theorem wl_J5_32 : Cond.methodLink RJ5 32 yJ0_length_8abf5 ∈ lw_good := lg_t 1206 (by decide +kernel) (by decide +kernel)
theorem cv_J5_32 : CV RJ5 32 RJ0 yJ0_length_8abf5 cJ0_length_8abf5 1 0 (some .int) := ⟨wl_J5_32, wi_J0_length_8abf5, wv_J0_length_8abf5, wn_J0, wc_J0_length_8abf5, rfl, by decide, by decide, by decide +kernel⟩
theorem wl_J5_40 : Cond.methodLink RJ5 40 yJ0_coder_7d493 ∈ lw_good := lg_t 1223 (by decide +kernel) (by decide +kernel)
theorem cv_J5_40 : CV RJ5 40 RJ0 yJ0_coder_7d493 cJ0_coder_7d493 1 0 (some .byte) := ⟨wl_J5_40, wi_J0_coder_7d493, wv_J0_coder_7d493, wn_J0, wc_J0_coder_7d493, rfl, by decide, by decide, by decide +kernel⟩
theorem wl_J5_83 : Cond.methodLink RJ5 83 yJ5_isLatin1_aae02 ∈ lw_good := lg_t 1175 (by decide +kernel) (by decide +kernel)
theorem wl_J5_100 : Cond.methodLink RJ5 100 yJ5_ensureCapacityInternal_d00df ∈ lw_good := lg_t 1144 (by decide +kernel) (by decide +kernel)
theorem wl_J5_104 : Cond.methodLink RJ5 104 yJ5_newCapacity_0f7a4 ∈ lw_good := lg_t 1148 (by decide +kernel) (by decide +kernel)
theorem wl_J5_108 : Cond.methodLink RJ5 108 yJ7_copyOf_9075b ∈ lw_good := lg_t 1163 (by decide +kernel) (by decide +kernel)
theorem cvs_J5_108 : CS RJ5 108 yJ7_copyOf_9075b cJ7_copyOf_9075b 3 2 (some (.array .byte)) := ⟨wl_J5_108, wt_J7_copyOf_9075b, wn_J7, wc_J7_copyOf_9075b, by decide, by decide, by decide +kernel⟩
theorem wl_J5_114 : Cond.methodLink RJ5 114 yJ8_newLength_cabcc ∈ lw_good := lg_t 1152 (by decide +kernel) (by decide +kernel)
theorem cvs_J5_114 : CS RJ5 114 yJ8_newLength_cabcc cJ8_newLength_cabcc 4 3 (some .int) := ⟨wl_J5_114, wt_J8_newLength_cabcc, wn_J8, wc_J8_newLength_cabcc, by decide, by decide, by decide +kernel⟩
theorem wl_J5_125 : Cond.methodLink RJ5 125 yJ1_inflate_0e8fd ∈ lw_good := lg_t 1228 (by decide +kernel) (by decide +kernel)
theorem wl_J5_131 : Cond.methodLink RJ5 131 yJx7c733_init_d00df ∈ lw_good := lg_t 1127 (by decide +kernel) (by decide +kernel)
theorem wl_J5_133 : Cond.methodLink RJ5 133 yJ1_fillNull_b72d1 ∈ lw_good := lg_t 1345 (by decide +kernel) (by decide +kernel)
theorem wl_J5_137 : Cond.methodLink RJ5 137 yJ2_fillNull_b72d1 ∈ lw_good := lg_t 1367 (by decide +kernel) (by decide +kernel)
theorem wl_J5_138 : Cond.methodLink RJ5 138 yJ9_min_7cf53 ∈ lw_good := lg_t 1414 (by decide +kernel) (by decide +kernel)
theorem wl_J5_144 : Cond.methodLink RJ5 144 yJ0_checkIndex_df160 ∈ lw_good := lg_t 1415 (by decide +kernel) (by decide +kernel)
theorem cvs_J5_144 : CS RJ5 144 yJ0_checkIndex_df160 cJ0_checkIndex_df160 2 2 none := ⟨wl_J5_144, wt_J0_checkIndex_df160, wn_J0, wc_J0_checkIndex_df160, by decide, by decide, by decide +kernel⟩
theorem wl_J5_148 : Cond.methodLink RJ5 148 yJ2_getChar_3b067 ∈ lw_good := lg_t 1416 (by decide +kernel) (by decide +kernel)
theorem wl_J5_191 : Cond.methodLink RJ5 191 yJ1_canEncode_fc78d ∈ lw_good := lg_t 1379 (by decide +kernel) (by decide +kernel)
theorem cvs_J5_191 : CS RJ5 191 yJ1_canEncode_fc78d cJ1_canEncode_fc78d 1 1 (some .boolean) := ⟨wl_J5_191, wt_J1_canEncode_fc78d, wn_J1, wc_J1_canEncode_fc78d, by decide, by decide, by decide +kernel⟩
theorem wl_J5_195 : Cond.methodLink RJ5 195 yJ5_inflate_da8c8 ∈ lw_good := lg_t 1224 (by decide +kernel) (by decide +kernel)
theorem wl_J5_197 : Cond.methodLink RJ5 197 yJ2_putCharSB_b72d1 ∈ lw_good := lg_t 1382 (by decide +kernel) (by decide +kernel)
theorem wl_J5_204 : Cond.methodLink RJ5 204 yJ5_appendNull_278bc ∈ lw_good := lg_t 1140 (by decide +kernel) (by decide +kernel)
theorem wl_J5_208 : Cond.methodLink RJ5 208 yJ5_putStringAt_47b60 ∈ lw_good := lg_t 1215 (by decide +kernel) (by decide +kernel)
theorem wl_J5_226 : Cond.methodLink RJ5 226 yJ2_putCharsAt_cd4e5 ∈ lw_good := lg_t 1180 (by decide +kernel) (by decide +kernel)
theorem wl_J5_245 : Cond.methodLink RJ5 245 yJ6_stringSize_0f7a4 ∈ lw_good := lg_t 1256 (by decide +kernel) (by decide +kernel)
theorem cvs_J5_245 : CS RJ5 245 yJ6_stringSize_0f7a4 cJ6_stringSize_0f7a4 4 1 (some .int) := ⟨wl_J5_245, wt_J6_stringSize_0f7a4, wn_J6, wc_J6_stringSize_0f7a4, by decide, by decide, by decide +kernel⟩
theorem wl_J5_248 : Cond.methodLink RJ5 248 yJ6_getChars_ba4f3 ∈ lw_good := lg_t 1259 (by decide +kernel) (by decide +kernel)
theorem cvs_J5_248 : CS RJ5 248 yJ6_getChars_ba4f3 cJ6_getChars_ba4f3 7 3 (some .int) := ⟨wl_J5_248, wt_J6_getChars_ba4f3, wn_J6, wc_J6_getChars_ba4f3, by decide, by decide, by decide +kernel⟩
theorem wl_J5_251 : Cond.methodLink RJ5 251 yJ2_getChars_46870 ∈ lw_good := lg_t 1266 (by decide +kernel) (by decide +kernel)
theorem wl_J5_397 : Cond.methodLink RJ5 397 yJ5_inflateIfNeededFor_a7421 ∈ lw_good := lg_t 1219 (by decide +kernel) (by decide +kernel)
theorem wl_J5_399 : Cond.methodLink RJ5 399 yJ0_getBytes_840e7 ∈ lw_good := lg_t 1243 (by decide +kernel) (by decide +kernel)
theorem wl_J0_1 : Cond.methodLink RJ0 1 ⟨"java/lang/Object", "<init>", "()V"⟩ ∈ lw_good := lg_t 1285 (by decide +kernel) (by decide +kernel)
theorem wl_J0_47 : Cond.methodLink RJ0 47 yJ2_coderFromArrayLen_85cad ∈ lw_good := lg_t 1327 (by decide +kernel) (by decide +kernel)
theorem wl_J0_54 : Cond.methodLink RJ0 54 yJ7_copyOfRange_39247 ∈ lw_good := lg_t 1300 (by decide +kernel) (by decide +kernel)
theorem wl_J0_106 : Cond.methodLink RJ0 106 yJ1_inflate_0e8fd ∈ lw_good := lg_t 1248 (by decide +kernel) (by decide +kernel)
theorem wl_J0_212 : Cond.methodLink RJ0 212 ⟨"java/lang/System", "arraycopy", "(Ljava/lang/Object;ILjava/lang/Object;II)V"⟩ ∈ lw_good := lg_t 1247 (by decide +kernel) (by decide +kernel)
theorem wl_J0_335 : Cond.methodLink RJ0 335 yJ0_coder_7d493 ∈ lw_good := lg_t 1210 (by decide +kernel) (by decide +kernel)
theorem cv_J0_335 : CV RJ0 335 RJ0 yJ0_coder_7d493 cJ0_coder_7d493 1 0 (some .byte) := ⟨wl_J0_335, wi_J0_coder_7d493, wv_J0_coder_7d493, wn_J0, wc_J0_coder_7d493, rfl, by decide, by decide, by decide +kernel⟩
theorem wl_J0_489 : Cond.methodLink RJ0 489 yJ0_init_db425 ∈ lw_good := lg_t 1282 (by decide +kernel) (by decide +kernel)
theorem wl_J0_492 : Cond.methodLink RJ0 492 yJ0_isLatin1_aae02 ∈ lw_good := lg_t 1480 (by decide +kernel) (by decide +kernel)
theorem cv_J0_492 : CV RJ0 492 RJ0 yJ0_isLatin1_aae02 cJ0_isLatin1_aae02 1 0 (some .boolean) := ⟨wl_J0_492, wi_J0_isLatin1_aae02, wv_J0_isLatin1_aae02, wn_J0, wc_J0_isLatin1_aae02, rfl, by decide, by decide, by decide +kernel⟩
theorem wl_J0_495 : Cond.methodLink RJ0 495 yJ1_charAt_3b067 ∈ lw_good := lg_t 1484 (by decide +kernel) (by decide +kernel)
theorem cvs_J0_495 : CS RJ0 495 yJ1_charAt_3b067 cJ1_charAt_3b067 2 2 (some .char) := ⟨wl_J0_495, wt_J1_charAt_3b067, wn_J1, wc_J1_charAt_3b067, by decide, by decide, by decide +kernel⟩
theorem wl_J0_498 : Cond.methodLink RJ0 498 yJ2_charAt_3b067 ∈ lw_good := lg_t 1488 (by decide +kernel) (by decide +kernel)
theorem wl_J0_549 : Cond.methodLink RJ0 549 yJ5_length_8abf5 ∈ lw_good := lg_t 1291 (by decide +kernel) (by decide +kernel)
theorem wl_J0_552 : Cond.methodLink RJ0 552 yJ5_getValue_6d5f1 ∈ lw_good := lg_t 1286 (by decide +kernel) (by decide +kernel)
theorem wl_J0_1047 : Cond.methodLink RJ0 1047 yJ5_isLatin1_aae02 ∈ lw_good := lg_t 1299 (by decide +kernel) (by decide +kernel)
theorem wl_J0_1051 : Cond.methodLink RJ0 1051 yJ2_compress_39247 ∈ lw_good := lg_t 1317 (by decide +kernel) (by decide +kernel)
theorem wl_J0_1059 : Cond.methodLink RJ0 1059 yJ3_checkIndex_8e157 ∈ lw_good := lg_t 1391 (by decide +kernel) (by decide +kernel)
theorem cvs_J0_1059 : CS RJ0 1059 yJ3_checkIndex_8e157 cJ3_checkIndex_8e157 3 3 (some .int) := ⟨wl_J0_1059, wt_J3_checkIndex_8e157, wn_J3, wc_J3_checkIndex_8e157, by decide, by decide, by decide +kernel⟩
theorem wl_J0_1062 : Cond.methodLink RJ0 1062 yJ3_checkFromToIndex_8c36e ∈ lw_good := lg_t 1194 (by decide +kernel) (by decide +kernel)
theorem wl_J0_1065 : Cond.methodLink RJ0 1065 yJ3_checkFromIndexSize_8c36e ∈ lw_good := lg_t 1240 (by decide +kernel) (by decide +kernel)
theorem wl_J4_1 : Cond.methodLink RJ4 1 yJ5_init_d00df ∈ lw_good := lg_t 278 (by decide +kernel) (by decide +kernel)
theorem wl_J4_29 : Cond.methodLink RJ4 29 yJ5_append_cf1ce ∈ lw_good := lg_t 1137 (by decide +kernel) (by decide +kernel)
theorem wl_J4_50 : Cond.methodLink RJ4 50 yJ5_append_3fe6f ∈ lw_good := lg_t 1376 (by decide +kernel) (by decide +kernel)
theorem wl_J4_53 : Cond.methodLink RJ4 53 yJ5_append_c97b9 ∈ lw_good := lg_t 1253 (by decide +kernel) (by decide +kernel)
theorem wl_J4_137 : Cond.methodLink RJ4 137 yJ0_init_81219 ∈ lw_good := lg_t 1279 (by decide +kernel) (by decide +kernel)
theorem wl_J4_329 : Cond.methodLink RJ4 329 yJ5_charAt_5068e ∈ lw_good := lg_t 1411 (by decide +kernel) (by decide +kernel)
theorem wl_J4_333 : Cond.methodLink RJ4 333 yJ5_setLength_d00df ∈ lw_good := lg_t 1122 (by decide +kernel) (by decide +kernel)
theorem wl_J4_343 : Cond.methodLink RJ4 343 yJ5_length_8abf5 ∈ lw_good := lg_t 1297 (by decide +kernel) (by decide +kernel)
theorem wl_J1_9 : Cond.methodLink RJ1 9 yJ0_checkIndex_df160 ∈ lw_good := lg_t 1487 (by decide +kernel) (by decide +kernel)
theorem cvs_J1_9 : CS RJ1 9 yJ0_checkIndex_df160 cJ0_checkIndex_df160 2 2 none := ⟨wl_J1_9, wt_J0_checkIndex_df160, wn_J0, wc_J0_checkIndex_df160, by decide, by decide, by decide +kernel⟩
theorem wl_J1_236 : Cond.methodLink RJ1 236 yJ7_fill_eb02e ∈ lw_good := lg_t 1348 (by decide +kernel) (by decide +kernel)
theorem wl_J1_240 : Cond.methodLink RJ1 240 yJ2_inflate_0e8fd ∈ lw_good := lg_t 1231 (by decide +kernel) (by decide +kernel)
theorem wl_J2_11 : Cond.methodLink RJ2 11 yJ2_newBytesLength_0f7a4 ∈ lw_good := lg_t 287 (by decide +kernel) (by decide +kernel)
theorem wl_J2_48 : Cond.methodLink RJ2 48 yJ2_length_9d52b ∈ lw_good := lg_t 1186 (by decide +kernel) (by decide +kernel)
theorem wl_J2_67 : Cond.methodLink RJ2 67 yJ2_checkIndex_2214a ∈ lw_good := lg_t 1385 (by decide +kernel) (by decide +kernel)
theorem wl_J2_71 : Cond.methodLink RJ2 71 yJ2_getChar_3b067 ∈ lw_good := lg_t 1323 (by decide +kernel) (by decide +kernel)
theorem wl_J2_96 : Cond.methodLink RJ2 96 yJ2_checkBoundsBeginEnd_d044e ∈ lw_good := lg_t 1183 (by decide +kernel) (by decide +kernel)
theorem wl_J2_111 : Cond.methodLink RJ2 111 yJ2_putChar_b72d1 ∈ lw_good := lg_t 1197 (by decide +kernel) (by decide +kernel)
theorem wl_J2_123 : Cond.methodLink RJ2 123 yJ2_compress_5af95 ∈ lw_good := lg_t 1320 (by decide +kernel) (by decide +kernel)
theorem wl_J2_126 : Cond.methodLink RJ2 126 yJ7_copyOfRange_39247 ∈ lw_good := lg_t 1326 (by decide +kernel) (by decide +kernel)
theorem wl_J2_173 : Cond.methodLink RJ2 173 yJ2_checkBoundsOffCount_d044e ∈ lw_good := lg_t 1234 (by decide +kernel) (by decide +kernel)
theorem wl_J2_241 : Cond.methodLink RJ2 241 yJ0_checkBoundsBeginEnd_23922 ∈ lw_good := lg_t 1189 (by decide +kernel) (by decide +kernel)
theorem wl_J2_380 : Cond.methodLink RJ2 380 yJ7_fill_eb02e ∈ lw_good := lg_t 1370 (by decide +kernel) (by decide +kernel)
theorem wl_J2_393 : Cond.methodLink RJ2 393 yJ2_getChars_ba4f3 ∈ lw_good := lg_t 1269 (by decide +kernel) (by decide +kernel)
theorem wl_J2_414 : Cond.methodLink RJ2 414 yJ0_checkIndex_df160 ∈ lw_good := lg_t 1388 (by decide +kernel) (by decide +kernel)
theorem cvs_J2_414 : CS RJ2 414 yJ0_checkIndex_df160 cJ0_checkIndex_df160 2 2 none := ⟨wl_J2_414, wt_J0_checkIndex_df160, wn_J0, wc_J0_checkIndex_df160, by decide, by decide, by decide +kernel⟩
theorem wl_J2_419 : Cond.methodLink RJ2 419 yJ0_checkBoundsOffCount_cabcc ∈ lw_good := lg_t 1237 (by decide +kernel) (by decide +kernel)
theorem wl_J7_13 : Cond.methodLink RJ7 13 yJ7_rangeCheck_23922 ∈ lw_good := lg_t 1351 (by decide +kernel) (by decide +kernel)
theorem wl_J7_47 : Cond.methodLink RJ7 47 yJ4_init_da8c8 ∈ lw_good := lg_t 1311 (by decide +kernel) (by decide +kernel)
theorem wl_J7_50 : Cond.methodLink RJ7 50 yJ4_append_15ec4 ∈ lw_good := lg_t 1314 (by decide +kernel) (by decide +kernel)
theorem wl_J7_54 : Cond.methodLink RJ7 54 yJ4_append_bf812 ∈ lw_good := lg_t 1312 (by decide +kernel) (by decide +kernel)
theorem cv_J7_54 : CV RJ7 54 RJ4 yJ4_append_bf812 cJ4_append_bf812 2 1 (some (.object "java/lang/StringBuilder")) := ⟨wl_J7_54, wi_J4_append_bf812, wv_J4_append_bf812, wn_J4, wc_J4_append_bf812, rfl, by decide, by decide, by decide +kernel⟩
theorem wl_J7_61 : Cond.methodLink RJ7 61 yJ4_toString_0e30d ∈ lw_good := lg_t 1315 (by decide +kernel) (by decide +kernel)
theorem wl_J7_65 : Cond.methodLink RJ7 65 ⟨"java/lang/IllegalArgumentException", "<init>", "(Ljava/lang/String;)V"⟩ ∈ lw_good := lg_t 1316 (by decide +kernel) (by decide +kernel)
theorem wl_J7_70 : Cond.methodLink RJ7 70 yJx00060_init_d00df ∈ lw_good := lg_t 1358 (by decide +kernel) (by decide +kernel)
theorem wl_J7_150 : Cond.methodLink RJ7 150 ⟨"java/lang/System", "arraycopy", "(Ljava/lang/Object;ILjava/lang/Object;II)V"⟩ ∈ lw_good := lg_t 1174 (by decide +kernel) (by decide +kernel)
theorem wl_J7_304 : Cond.methodLink RJ7 304 yJ9_min_7cf53 ∈ lw_good := lg_t 1173 (by decide +kernel) (by decide +kernel)
theorem wl_J7_310 : Cond.methodLink RJ7 310 ⟨"[B", "clone", "()Ljava/lang/Object;"⟩ ∈ lw_good := lg_t 1166 (by decide +kernel) (by decide +kernel)
theorem wl_J7_339 : Cond.methodLink RJ7 339 yJ7_copyOfRangeByte_39247 ∈ lw_good := lg_t 1303 (by decide +kernel) (by decide +kernel)
theorem wl_J7_343 : Cond.methodLink RJ7 343 yJ7_checkLength_df160 ∈ lw_good := lg_t 1306 (by decide +kernel) (by decide +kernel)
theorem wl_J8_194 : Cond.methodLink RJ8 194 yJ9_max_7cf53 ∈ lw_good := lg_t 1155 (by decide +kernel) (by decide +kernel)
theorem cvs_J8_194 : CS RJ8 194 yJ9_max_7cf53 cJ9_max_7cf53 2 2 (some .int) := ⟨wl_J8_194, wt_J9_max_7cf53, wn_J9, wc_J9_max_7cf53, by decide, by decide, by decide +kernel⟩
theorem wl_J8_201 : Cond.methodLink RJ8 201 yJ8_hugeLength_7cf53 ∈ lw_good := lg_t 1159 (by decide +kernel) (by decide +kernel)
theorem wf_J5_15 : Cond.fieldLink RJ5 15 "java/lang/AbstractStringBuilder" "value" "[B" ∈ lw_good := lg_t 291 (by decide +kernel) (by decide +kernel)
theorem wf_J5_18 : Cond.fieldLink RJ5 18 "java/lang/String" "COMPACT_STRINGS" "Z" ∈ lw_good := lg_t 282 (by decide +kernel) (by decide +kernel)
theorem wf_J5_22 : Cond.fieldLink RJ5 22 "java/lang/AbstractStringBuilder" "coder" "B" ∈ lw_good := lg_t 292 (by decide +kernel) (by decide +kernel)
theorem wf_J5_73 : Cond.fieldLink RJ5 73 "java/lang/AbstractStringBuilder" "maybeLatin1" "Z" ∈ lw_good := lg_t 293 (by decide +kernel) (by decide +kernel)
theorem wf_J5_79 : Cond.fieldLink RJ5 79 "java/lang/AbstractStringBuilder" "count" "I" ∈ lw_good := lg_t 295 (by decide +kernel) (by decide +kernel)
theorem wf_J6_83 : Cond.fieldLink RJ6 83 "java/lang/Integer" "DigitOnes" "[B" ∈ lw_good := lg_t 1262 (by decide +kernel) (by decide +kernel)
theorem wf_J6_87 : Cond.fieldLink RJ6 87 "java/lang/Integer" "DigitTens" "[B" ∈ lw_good := lg_t 1264 (by decide +kernel) (by decide +kernel)
theorem wf_J0_9 : Cond.fieldLink RJ0 9 "java/lang/String" "value" "[B" ∈ lw_good := lg_t 1330 (by decide +kernel) (by decide +kernel)
theorem wf_J0_15 : Cond.fieldLink RJ0 15 "java/lang/String" "coder" "B" ∈ lw_good := lg_t 1331 (by decide +kernel) (by decide +kernel)
theorem wf_J0_38 : Cond.fieldLink RJ0 38 "java/lang/String" "COMPACT_STRINGS" "Z" ∈ lw_good := lg_t 1214 (by decide +kernel) (by decide +kernel)
theorem wf_J0_1048 : Cond.fieldLink RJ0 1048 "java/lang/AbstractStringBuilder" "maybeLatin1" "Z" ∈ lw_good := lg_t 294 (by decide +kernel) (by decide +kernel)
theorem wf_J0_1053 : Cond.fieldLink RJ0 1053 "jdk/internal/util/Preconditions" "SIOOBE_FORMATTER" "Ljava/util/function/BiFunction;" ∈ lw_good := lg_t 1192 (by decide +kernel) (by decide +kernel)
theorem fl_J5_15_1 : FL RJ5 15 1 0 := ⟨"java/lang/AbstractStringBuilder", RJ4, TJ4, 4, rfl, by decide, cw_J4, lg_t 291 (by decide +kernel) (by decide +kernel), Or.inl rfl⟩
theorem fp_J5_15_1 : FP RJ5 15 1 0 false (.array .byte) := ⟨"java/lang/AbstractStringBuilder", RJ4, TJ4, 4, tyJ4, rfl, by decide, cw_J4, lg_t 291 (by decide +kernel) (by decide +kernel), Or.inl rfl, tyJ4_ok, nmJ4, rfl, by decide +kernel, fun h => by cases h⟩
theorem fl_J5_22_1 : FL RJ5 22 1 1 := ⟨"java/lang/AbstractStringBuilder", RJ4, TJ4, 4, rfl, by decide, cw_J4, lg_t 292 (by decide +kernel) (by decide +kernel), Or.inl rfl⟩
theorem fp_J5_22_1 : FP RJ5 22 1 1 false .byte := ⟨"java/lang/AbstractStringBuilder", RJ4, TJ4, 4, tyJ4, rfl, by decide, cw_J4, lg_t 292 (by decide +kernel) (by decide +kernel), Or.inl rfl, tyJ4_ok, nmJ4, rfl, by decide +kernel, fun h => by cases h⟩
theorem fl_J5_73_1 : FL RJ5 73 1 2 := ⟨"java/lang/AbstractStringBuilder", RJ4, TJ4, 4, rfl, by decide, cw_J4, lg_t 293 (by decide +kernel) (by decide +kernel), Or.inl rfl⟩
theorem fp_J5_73_1 : FP RJ5 73 1 2 false .boolean := ⟨"java/lang/AbstractStringBuilder", RJ4, TJ4, 4, tyJ4, rfl, by decide, cw_J4, lg_t 293 (by decide +kernel) (by decide +kernel), Or.inl rfl, tyJ4_ok, nmJ4, rfl, by decide +kernel, fun h => by cases h⟩
theorem fl_J5_79_1 : FL RJ5 79 1 3 := ⟨"java/lang/AbstractStringBuilder", RJ4, TJ4, 4, rfl, by decide, cw_J4, lg_t 295 (by decide +kernel) (by decide +kernel), Or.inl rfl⟩
theorem fp_J5_79_1 : FP RJ5 79 1 3 false .int := ⟨"java/lang/AbstractStringBuilder", RJ4, TJ4, 4, tyJ4, rfl, by decide, cw_J4, lg_t 295 (by decide +kernel) (by decide +kernel), Or.inl rfl, tyJ4_ok, nmJ4, rfl, by decide +kernel, fun h => by cases h⟩
def fmL (i : Nat) : Int := ([4, 3, 4, 5, 4, 2, 2, 1, 2, 0] : List Int).getD i 0
def fmB (i : Nat) (k : Int) : Int := (([[115, 78, 47, 68], [97, 68, 68], [99, 68, 43, 78], [98, 68, 68, 64, 78], [111, 78, 64, 78], [120, 78], [121, 78], [116], [102, 68], []] : List (List Int)).getD i []).getD k.toNat 0
theorem fmL_ok : ∀ i : Nat, i < 10 → Int32.ofNat (fm_len.getD i 0) = iN (fmL i) ∧ (fm_len.getD i 0 : Int) = fmL i := by decide +kernel
theorem fmB_ok : ∀ i : Nat, i < 10 → ∀ k : Nat, k < 5 → (fm_byt.getD i []).getD k 0 = iN (fmB i (k : Int)) ∧ 0 ≤ fmB i (k : Int) ∧ fmB i (k : Int) < 128 := by decide +kernel
theorem fmL_r (i : Nat) (h : i < 10) : 0 ≤ fmL i ∧ fmL i ≤ 5 := by
  have : ∀ i : Nat, i < 10 → 0 ≤ fmL i ∧ fmL i ≤ 5 := by decide +kernel
  exact this i h
section VO
variable {X : Cx} {own : String} {cc : ByteArray} {nL : Nat} {rm : Room} {ad : Adr} {E : Dic} {pc : Nat} {ls : Ls} {st : List Value} {cs ss : Nat}
theorem V_gcs (hf : Cf X own cc nL rm) {index : Nat} (hw : Cond.fieldLink own index "java/lang/String" "COMPACT_STRINGS" "Z" ∈ lw_good) (hdg : decode cc pc = .ok (.getstatic index, 3)) (kk : V X ad E (pc + 3) ls (.int (iN 1) :: st) cs ss) : V X ad E pc ls st cs ss := by
  obtain ⟨p, l, e, R, s, m, args, below, meth, c, Q, D, K, ad0, E0⟩ := X
  obtain ⟨hx, hb, hml, hown, hts, hK, hl0, hlk, hR0, hEv⟩ := hf
  obtain ⟨-, -, -, -, -, -, -, ⟨h6, h6'⟩, h7, h8, h9, h10⟩ := hEv
  intro H locs la hR hI hN hS hl
  exact va_gets hx hb h7 hS hown (hts _ hw) (fun x h => h) hdg (kk H locs la hR hI hN hS hl)
theorem V_gones (hf : Cf X own cc nL rm) {index : Nat} (hw : Cond.fieldLink own index "java/lang/Integer" "DigitOnes" "[B" ∈ lw_good) (hdg : decode cc pc = .ok (.getstatic index, 3)) (kk : V X ad E (pc + 3) ls (.ref (xK X 98) :: st) cs ss) : V X ad E pc ls st cs ss := by
  obtain ⟨p, l, e, R, s, m, args, below, meth, c, Q, D, K, ad0, E0⟩ := X
  obtain ⟨hx, hb, hml, hown, hts, hK, hl0, hlk, hR0, hEv⟩ := hf
  obtain ⟨-, -, -, -, -, -, -, ⟨h6, h6'⟩, h7, h8, h9, h10⟩ := hEv
  intro H locs la hR hI hN hS hl
  exact va_gets hx hb h8.1 hS hown (hts _ hw) (fun x h => h) hdg (kk H locs la hR hI hN hS hl)
theorem V_gtens (hf : Cf X own cc nL rm) {index : Nat} (hw : Cond.fieldLink own index "java/lang/Integer" "DigitTens" "[B" ∈ lw_good) (hdg : decode cc pc = .ok (.getstatic index, 3)) (kk : V X ad E (pc + 3) ls (.ref (xK X 99) :: st) cs ss) : V X ad E pc ls st cs ss := by
  obtain ⟨p, l, e, R, s, m, args, below, meth, c, Q, D, K, ad0, E0⟩ := X
  obtain ⟨hx, hb, hml, hown, hts, hK, hl0, hlk, hR0, hEv⟩ := hf
  obtain ⟨-, -, -, -, -, -, -, ⟨h6, h6'⟩, h7, h8, h9, h10⟩ := hEv
  intro H locs la hR hI hN hS hl
  exact va_gets hx hb h9.1 hS hown (hts _ hw) (fun x h => h) hdg (kk H locs la hR hI hN hS hl)
theorem V_gsio (hf : Cf X own cc nL rm) {index : Nat} (hw : Cond.fieldLink own index "jdk/internal/util/Preconditions" "SIOOBE_FORMATTER" "Ljava/util/function/BiFunction;" ∈ lw_good) (hdg : decode cc pc = .ok (.getstatic index, 3)) (kn : V X ad E (pc + 3) ls (.null :: st) cs ss) (kk : ∀ t : Nat, V X ad E (pc + 3) ls (.ref t :: st) cs ss) : V X ad E pc ls st cs ss := by
  obtain ⟨p, l, e, R, s, m, args, below, meth, c, Q, D, K, ad0, E0⟩ := X
  obtain ⟨hx, hb, hml, hown, hts, hK, hl0, hlk, hR0, hEv⟩ := hf
  obtain ⟨-, -, -, -, -, -, -, ⟨h6, h6'⟩, h7, h8, h9, h10⟩ := hEv
  intro H locs la hR hI hN hS hl
  rcases h10.1 with h | ⟨t, h⟩
  · exact va_gets hx hb h hS hown (hts _ hw) (fun x h => h) hdg (kn H locs la hR hI hN hS hl)
  · exact va_gets hx hb h hS hown (hts _ hw) (fun x h => h) hdg (kk t H locs la hR hI hN hS hl)
theorem V_ldcF (hf : Cf X own cc nL rm) (hown6 : own = RX6) {i : Nat} (hi : i < 10) {index : Nat} (he : fm_idx.getD i 0 = index) (hdg : decode cc pc = .ok (.ldc index, 2)) (kk : V X ad E (pc + 2) ls (.ref (xK X (100 + i)) :: st) cs ss) : V X ad E pc ls st cs ss := by
  subst hown6 he
  obtain ⟨p, l, e, R, s, m, args, below, meth, c, Q, D, K, ad0, E0⟩ := X
  obtain ⟨hx, hb, hml, hown, hts, hK, hl0, hlk, hR0, hEv⟩ := hf
  obtain ⟨-, -, -, -, -, -, -, ⟨h6, h6'⟩, h7, h8, h9, h10⟩ := hEv
  intro H locs la hR hI hN hS hl
  exact va_ldcS hx hb hown (h6' i hi) hdg (kk H locs la hR hI hN hS hl)
theorem V_ocod (hf : Cf X own cc nL rm) {i : Nat} (hi : i < 10) {index : Nat} (hw : Cond.fieldLink own index "java/lang/String" "coder" "B" ∈ lw_good) (hdg : decode cc pc = .ok (.getfield index, 3)) (kk : V X ad E (pc + 3) ls (.int (iN 0) :: st) cs ss) : V X ad E pc ls (.ref (xK X (100 + i)) :: st) cs ss := by
  obtain ⟨p, l, e, R, s, m, args, below, meth, c, Q, D, K, ad0, E0⟩ := X
  obtain ⟨hx, hb, hml, hown, hts, hK, hl0, hlk, hR0, hEv⟩ := hf
  obtain ⟨-, -, -, -, -, -, -, ⟨h6, h6'⟩, h7, h8, h9, h10⟩ := hEv
  intro H locs la hR hI hN hS hl
  exact vk_getf hx hb (h6.1 i hi).2.1 hS hown (hts _ hw) (fun x h => h) hdg (kk H locs la hR hI hN hS hl)
theorem V_oval (hf : Cf X own cc nL rm) {i : Nat} (hi : i < 10) {index : Nat} (hw : Cond.fieldLink own index "java/lang/String" "value" "[B" ∈ lw_good) (hdg : decode cc pc = .ok (.getfield index, 3)) (kk : V X ad E (pc + 3) ls (.ref (xK X (200 + i)) :: st) cs ss) : V X ad E pc ls (.ref (xK X (100 + i)) :: st) cs ss := by
  obtain ⟨p, l, e, R, s, m, args, below, meth, c, Q, D, K, ad0, E0⟩ := X
  obtain ⟨hx, hb, hml, hown, hts, hK, hl0, hlk, hR0, hEv⟩ := hf
  obtain ⟨-, -, -, -, -, -, -, ⟨h6, h6'⟩, h7, h8, h9, h10⟩ := hEv
  intro H locs la hR hI hN hS hl
  exact vk_getf hx hb (h6.1 i hi).2.2.1 hS hown (hts _ hw) (fun x h => h) hdg (kk H locs la hR hI hN hS hl)
theorem V_olen (hf : Cf X own cc nL rm) {i : Nat} (hi : i < 10) (hdg : decode cc pc = .ok (.arraylength, 1)) (kk : V X ad E (pc + 1) ls (.int (iN (fmL i)) :: st) cs ss) : V X ad E pc ls (.ref (xK X (200 + i)) :: st) cs ss := by
  obtain ⟨p, l, e, R, s, m, args, below, meth, c, Q, D, K, ad0, E0⟩ := X
  obtain ⟨hx, hb, hml, hown, hts, hK, hl0, hlk, hR0, hEv⟩ := hf
  obtain ⟨-, -, -, -, -, -, -, ⟨h6, h6'⟩, h7, h8, h9, h10⟩ := hEv
  intro H locs la hR hI hN hS hl
  exact va_tlen hx hb (h6.1 i hi).2.2.2 hS (fmL_ok i hi).1 hdg (kk H locs la hR hI hN hS hl)
theorem V_oald (hf : Cf X own cc nL rm) {i : Nat} (hi : i < 10) {k : Int} (h0 : 0 ≤ k) (h1 : k < fmL i) (hdg : decode cc pc = .ok (.baload, 1)) (kk : V X ad E (pc + 1) ls (.int (iN (fmB i k)) :: st) cs ss) : V X ad E pc ls (.int (iN k) :: .ref (xK X (200 + i)) :: st) cs ss := by
  obtain ⟨p, l, e, R, s, m, args, below, meth, c, Q, D, K, ad0, E0⟩ := X
  obtain ⟨hx, hb, hml, hown, hts, hK, hl0, hlk, hR0, hEv⟩ := hf
  obtain ⟨-, -, -, -, -, -, -, ⟨h6, h6'⟩, h7, h8, h9, h10⟩ := hEv
  have hL := fmL_ok i hi
  have hLr := fmL_r i hi
  intro H locs la hR hI hN hS hl
  refine va_tb hx hb (h6.1 i hi).2.2.2 hS (iN_in ⟨by omega, by omega⟩ h0 (by omega)) (v := .int (iN (fmB i k))) ?_ hdg (kk H locs la hR hI hN hS hl)
  rw [iN_cl ⟨by omega, by omega⟩]
  have hB := (fmB_ok i hi k.toNat (by omega)).1
  rw [Int.toNat_of_nonneg h0] at hB
  exact congrArg Value.int hB
theorem V_ones (hf : Cf X own cc nL rm) {k : Int} (h0 : 0 ≤ k) (h1 : k < 100) (hdg : decode cc pc = .ok (.baload, 1)) (kk : V X ad E (pc + 1) ls (.int (iN (48 + k % 10)) :: st) cs ss) : V X ad E pc ls (.int (iN k) :: .ref (xK X 98) :: st) cs ss := by
  obtain ⟨p, l, e, R, s, m, args, below, meth, c, Q, D, K, ad0, E0⟩ := X
  obtain ⟨hx, hb, hml, hown, hts, hK, hl0, hlk, hR0, hEv⟩ := hf
  obtain ⟨-, -, -, -, -, -, -, ⟨h6, h6'⟩, h7, h8, h9, h10⟩ := hEv
  intro H locs la hR hI hN hS hl
  refine va_tb hx hb h8.2 hS (iN_in ⟨by omega, by omega⟩ h0 (by omega)) (v := .int (iN (48 + k % 10))) ?_ hdg (kk H locs la hR hI hN hS hl)
  rw [iN_cl ⟨by omega, by omega⟩, iN_nI (by omega), show (48 + k % 10).toNat = 48 + k.toNat % 10 by omega]
  rfl
theorem V_tens (hf : Cf X own cc nL rm) {k : Int} (h0 : 0 ≤ k) (h1 : k < 100) (hdg : decode cc pc = .ok (.baload, 1)) (kk : V X ad E (pc + 1) ls (.int (iN (48 + k / 10)) :: st) cs ss) : V X ad E pc ls (.int (iN k) :: .ref (xK X 99) :: st) cs ss := by
  obtain ⟨p, l, e, R, s, m, args, below, meth, c, Q, D, K, ad0, E0⟩ := X
  obtain ⟨hx, hb, hml, hown, hts, hK, hl0, hlk, hR0, hEv⟩ := hf
  obtain ⟨-, -, -, -, -, -, -, ⟨h6, h6'⟩, h7, h8, h9, h10⟩ := hEv
  intro H locs la hR hI hN hS hl
  refine va_tb hx hb h9.2 hS (iN_in ⟨by omega, by omega⟩ h0 (by omega)) (v := .int (iN (48 + k / 10))) ?_ hdg (kk H locs la hR hI hN hS hl)
  rw [iN_cl ⟨by omega, by omega⟩, iN_nI (by omega), show (48 + k / 10).toNat = 48 + k.toNat / 10 by omega]
  rfl
theorem V_iand (hf : Cf X own cc nL rm) {a b c1 : Int} (hv : iN a &&& iN b = iN c1) (hdg : decode cc pc = .ok (.iand, 1)) (kk : V X ad E (pc + 1) ls (.int (iN c1) :: st) cs ss) : V X ad E pc ls (.int (iN b) :: .int (iN a) :: st) cs ss := by
  obtain ⟨p, l, e, R, s, m, args, below, meth, c, Q, D, K, ad0, E0⟩ := X
  obtain ⟨hx, hb, hml, hown, hts, hK, hl0, hlk, hR0, hEv⟩ := hf
  intro H locs la hR hI hN hS hl
  refine lv_iand hx hb hdg ?_
  rw [hv]
  exact kk H locs la hR hI hN hS hl
theorem V_ishr0 (hf : Cf X own cc nL rm) {a : Int} (hdg : decode cc pc = .ok (.ishr, 1)) (kk : V X ad E (pc + 1) ls (.int (iN a) :: st) cs ss) : V X ad E pc ls (.int (iN 0) :: .int (iN a) :: st) cs ss := by
  obtain ⟨p, l, e, R, s, m, args, below, meth, c, Q, D, K, ad0, E0⟩ := X
  obtain ⟨hx, hb, hml, hown, hts, hK, hl0, hlk, hR0, hEv⟩ := hf
  intro H locs la hR hI hN hS hl
  refine lv_ishr hx hb hdg ?_
  rw [show iN 0 = 0 from iN_0, sb_shr0 (iN a)]
  exact kk H locs la hR hI hN hS hl
theorem V_ishl0 (hf : Cf X own cc nL rm) {a : Int} (hdg : decode cc pc = .ok (.ishl, 1)) (kk : V X ad E (pc + 1) ls (.int (iN a) :: st) cs ss) : V X ad E pc ls (.int (iN 0) :: .int (iN a) :: st) cs ss := by
  obtain ⟨p, l, e, R, s, m, args, below, meth, c, Q, D, K, ad0, E0⟩ := X
  obtain ⟨hx, hb, hml, hown, hts, hK, hl0, hlk, hR0, hEv⟩ := hf
  intro H locs la hR hI hN hS hl
  refine lv_ishl hx hb hdg ?_
  rw [show iN 0 = 0 from iN_0, sb_shl0 (iN a)]
  exact kk H locs la hR hI hN hS hl
theorem V_ldcI (hf : Cf X own cc nL rm) {index : Nat} {v : Int32} {a : Int} (ha : v = iN a) (hw : Cond.constant own index v ∈ lw_good) (hdg : decode cc pc = .ok (.ldc index, 2)) (kk : V X ad E (pc + 2) ls (.int (iN a) :: st) cs ss) : V X ad E pc ls st cs ss := by
  subst ha
  obtain ⟨p, l, e, R, s, m, args, below, meth, c, Q, D, K, ad0, E0⟩ := X
  obtain ⟨hx, hb, hml, hown, hts, hK, hl0, hlk, hR0, hEv⟩ := hf
  intro H locs la hR hI hN hS hl
  exact lv_ldc hx hb hown (hts _ hw) hdg (kk H locs la hR hI hN hS hl)
theorem V_callVo (hf : Cf X own cc nL rm) {index : Nat} {y : MethodName} {bytes : ByteArray} {maxL mc ms n i : Nat} {ret : Option FieldType} {rm2 : Room} {As : List Value} {post : Out → Adr → Dic → Prop}
    (hM : Ctr (xl X) y (.code y bytes maxL ret) rm2 mc ms (xD X) (xK X) ad E (.ref (xK X (100 + i)) :: As) post) (hi : i < 10) (hw : CV own index "java/lang/String" y bytes maxL n ret)
    (hrm : rm2.cells = mc ∧ rm2.slots = ms ∧ rm2.frames + 1 ≤ rm.frames ∧ 8 + (maxL + 11) + rm2.locals ≤ rm.locals ∧ cs + mc ≤ rm.cells ∧ ss + ms ≤ rm.slots) (hn : As.length = n) (hst : (st.map fun v => v.category).sum ≤ 8)
    (hdg : decode cc pc = .ok (.invokevirtual index, 3))
    (kk : ∀ (r : Option Value) (ad' : Adr) (E' : Dic), post (.inl r) ad' E' → V X ad' E' (pc + 3) ls (r.toList ++ st) (cs + mc) (ss + ms))
    (kx : ∀ (En : String) (ad' : Adr) (E' : Dic), post (.inr En) ad' E' → VX X ad' E' pc En ls st (cs + mc) (ss + ms)) : V X ad E pc ls (As.reverse ++ .ref (xK X (100 + i)) :: st) cs ss := by
  obtain ⟨hw1, hw2, hw3, hw4, hw5, hC, hd⟩ := hw
  obtain ⟨p, l, e, R, s, m, args, below, meth, c, Q, D, K, ad0, E0⟩ := X
  obtain ⟨hx, hb, hml, hown, hts, hK, hl0, hlk, hR0, hEv⟩ := hf
  have hEv2 := hEv
  obtain ⟨-, -, -, -, -, -, -, ⟨h6, h6'⟩, h7, h8, h9, h10⟩ := hEv2
  subst hR0
  intro H locs la hR hI hN hS hl
  obtain ⟨r1, r2, r3, r4, r5, r6⟩ := hrm
  have cw : CallW R s args own "java/lang/String" index y bytes maxL ret (Cond.code y bytes maxL ret :: lw_good) rm2 mc ms n := ⟨callB_of n hts (lg_in hw5) rfl r1 r2 (by rw [hC]; exact hts _ hw4) (hts _ hw1) hd ⟨r3, r4⟩, hts _ hw2, hts _ hw3⟩
  have hrc := vk_recv h6 hi hS
  exact V_back hN hS hl (vx_runV ⟨hx, hb, hml, hown, hts⟩ (hM H.size) cw ⟨Wd.blind, hrc, V_pre (args := args) hK hEv hR hI hN hS⟩ rfl hn (hl.1.trans hml) rfl (lv_room hst) hdg ⟨r5, r6⟩) kk kx
end VO
section BO
variable {X : Cx} {own : String} {cc : ByteArray} {nL : Nat} {rm : Room} {ad : Adr} {σ : Mem} {pc : Nat} {ls : Ls} {st : List Value} {cs ss : Nat}
theorem B_callVoi (hf : Cf X own cc nL rm) {index : Nat} {y : MethodName} {bytes : ByteArray} {maxL d mc ms n i : Nat} {ret : Option FieldType} {As : List Value} {r : Value} {σ' : Mem}
    (hM : Cb (xl X) (xD X) (xK X) ad y (.code y bytes maxL ret) d mc ms σ (.ref (xK X (100 + i)) :: As) (.inl (some r)) σ') (hw : CV own index "java/lang/String" y bytes maxL n ret) (hi : i < 10) (hn : As.length = n) (hst : (st.map fun v => v.category).sum ≤ 8)
    (hrm : d + 1 ≤ rm.frames ∧ 8 + (maxL + 11) + 64 * d ≤ rm.locals ∧ cs + mc ≤ rm.cells ∧ ss + ms ≤ rm.slots)
    (hdg : decode cc pc = .ok (.invokevirtual index, 3)) (kk : B X ad σ' (pc + 3) ls (r :: st) (cs + mc) (ss + ms)) : B X ad σ pc ls (As.reverse ++ .ref (xK X (100 + i)) :: st) cs ss := by
  refine V_callVo hf hM hi hw ⟨rfl, rfl, hrm.1, hrm.2.1, hrm.2.2.1, hrm.2.2.2⟩ hn hst hdg ?_ ?_
  · rintro r' ad' E' ⟨h1, rfl, rfl⟩
    cases h1
    exact kk
  · rintro En ad' E' ⟨h1, -, -⟩
    cases h1
theorem B_callSv (hf : Cf X own cc nL rm) {index : Nat} {y : MethodName} {bytes : ByteArray} {maxL d mc ms n : Nat} {ret : Option FieldType} {As : List Value} {σ' : Mem}
    (hM : Cb (xl X) (xD X) (xK X) ad y (.code y bytes maxL ret) d mc ms σ As (.inl none) σ') (hw : CS own index y bytes maxL n ret) (hn : As.length = n) (hst : (st.map fun v => v.category).sum ≤ 8)
    (hrm : d + 1 ≤ rm.frames ∧ 8 + (maxL + 11) + 64 * d ≤ rm.locals ∧ cs + mc ≤ rm.cells ∧ ss + ms ≤ rm.slots)
    (hdg : decode cc pc = .ok (.invokestatic index, 3)) (kk : B X ad σ' (pc + 3) ls st (cs + mc) (ss + ms)) : B X ad σ pc ls (As.reverse ++ st) cs ss := B_callS hf hM hw hn hst hrm hdg kk
theorem B_aret (hf : Cf X own cc nL rm) {σ' : Mem} {rt : FieldType} {mc ms a b : Nat} (he : Be X (some rt) ad (.inl (some (.ref b))) σ' mc ms) (hrt : (∃ n, rt = .object n) ∨ ∃ t, rt = .array t) (hdg : decode cc pc = .ok (.areturn, 1)) (hc : cs ≤ mc) (hs : ss ≤ ms) (hv : a = b) (hσ : σ = σ') : B X ad σ pc ls [.ref a] cs ss := by
  subst hv
  subst hσ
  exact V_aret hf he hrt hdg hc hs ⟨rfl, rfl, rfl⟩
end BO
theorem and255 : ∀ k : Nat, k < 256 → iN (k : Int) &&& iN 255 = iN (k : Int) := by decide +kernel
theorem and255I {a : Int} (h0 : 0 ≤ a) (h1 : a < 256) : iN a &&& iN 255 = iN a := by
  obtain ⟨k, rfl⟩ := Int.eq_ofNat_of_zero_le h0
  exact and255 k (by omega)
theorem wci_J2_20 : Cond.constant RJ2 20 1073741823 ∈ lw_good := lg_t 290 (by decide +kernel) (by decide +kernel)
theorem wci_J8_200 : Cond.constant RJ8 200 2147483639 ∈ lw_good := lg_t 1158 (by decide +kernel) (by decide +kernel)
theorem wci_J5_39 : Cond.constant RJ5 39 2147483647 ∈ lw_good := lg_t 1162 (by decide +kernel) (by decide +kernel)
