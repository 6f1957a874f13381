set_option maxRecDepth 200000 in
theorem zd_179 : zt_J5_init_d00df.all (zdc 179) = true := by decide +kernel
set_option maxRecDepth 200000 in
theorem zw_179 : zt_J5_init_d00df.all (zwc 179) = true := by decide +kernel
set_option maxRecDepth 200000 in
theorem zm_179 : zmc 179 = true := by decide +kernel
set_option maxRecDepth 200000 in
theorem zk_179 : zcw 179 ∈ lw_tbl := List.mem_of_getElem? (i := 253) rfl
set_option maxRecDepth 200000 in
theorem zd_180 : zt_J5_length_8abf5.all (zdc 180) = true := by decide +kernel
set_option maxRecDepth 200000 in
theorem zw_180 : zt_J5_length_8abf5.all (zwc 180) = true := by decide +kernel
set_option maxRecDepth 200000 in
theorem zm_180 : zmc 180 = true := by decide +kernel
set_option maxRecDepth 200000 in
theorem zk_180 : zcw 180 ∈ lw_tbl := List.mem_of_getElem? (i := 1208) rfl
set_option maxRecDepth 200000 in
theorem zd_181 : zt_J5_ensureCapacityInternal_d00df.all (zdc 181) = true := by decide +kernel
set_option maxRecDepth 200000 in
theorem zw_181 : zt_J5_ensureCapacityInternal_d00df.all (zwc 181) = true := by decide +kernel
set_option maxRecDepth 200000 in
theorem zm_181 : zmc 181 = true := by decide +kernel
set_option maxRecDepth 200000 in
theorem zk_181 : zcw 181 ∈ lw_tbl := List.mem_of_getElem? (i := 1078) rfl
set_option maxRecDepth 200000 in
theorem zd_182 : zt_J5_newCapacity_0f7a4.all (zdc 182) = true := by decide +kernel
set_option maxRecDepth 200000 in
theorem zw_182 : zt_J5_newCapacity_0f7a4.all (zwc 182) = true := by decide +kernel
set_option maxRecDepth 200000 in
theorem zm_182 : zmc 182 = true := by decide +kernel
set_option maxRecDepth 200000 in
theorem zk_182 : zcw 182 ∈ lw_tbl := List.mem_of_getElem? (i := 1082) rfl
set_option maxRecDepth 200000 in
theorem zd_183 : zt_J5_setLength_d00df.all (zdc 183) = true := by decide +kernel
set_option maxRecDepth 200000 in
theorem zw_183 : zt_J5_setLength_d00df.all (zwc 183) = true := by decide +kernel
set_option maxRecDepth 200000 in
theorem zm_183 : zmc 183 = true := by decide +kernel
set_option maxRecDepth 200000 in
theorem zk_183 : zcw 183 ∈ lw_tbl := List.mem_of_getElem? (i := 1055) rfl
set_option maxRecDepth 200000 in
theorem zd_184 : zt_J5_charAt_5068e.all (zdc 184) = true := by decide +kernel
set_option maxRecDepth 200000 in
theorem zw_184 : zt_J5_charAt_5068e.all (zwc 184) = true := by decide +kernel
set_option maxRecDepth 200000 in
theorem zm_184 : zmc 184 = true := by decide +kernel
set_option maxRecDepth 200000 in
theorem zk_184 : zcw 184 ∈ lw_tbl := List.mem_of_getElem? (i := 1312) rfl
set_option maxRecDepth 200000 in
theorem zd_185 : zt_J5_append_cf1ce.all (zdc 185) = true := by decide +kernel
set_option maxRecDepth 200000 in
theorem zw_185 : zt_J5_append_cf1ce.all (zwc 185) = true := by decide +kernel
set_option maxRecDepth 200000 in
theorem zm_185 : zmc 185 = true := by decide +kernel
set_option maxRecDepth 200000 in
theorem zk_185 : zcw 185 ∈ lw_tbl := List.mem_of_getElem? (i := 1070) rfl
set_option maxRecDepth 200000 in
theorem zd_186 : zt_J5_append_3fe6f.all (zdc 186) = true := by decide +kernel
set_option maxRecDepth 200000 in
theorem zw_186 : zt_J5_append_3fe6f.all (zwc 186) = true := by decide +kernel
set_option maxRecDepth 200000 in
theorem zm_186 : zmc 186 = true := by decide +kernel
set_option maxRecDepth 200000 in
theorem zk_186 : zcw 186 ∈ lw_tbl := List.mem_of_getElem? (i := 1285) rfl
set_option maxRecDepth 200000 in
theorem zd_187 : zt_J5_append_c97b9.all (zdc 187) = true := by decide +kernel
set_option maxRecDepth 200000 in
theorem zw_187 : zt_J5_append_c97b9.all (zwc 187) = true := by decide +kernel
set_option maxRecDepth 200000 in
theorem zm_187 : zmc 187 = true := by decide +kernel
set_option maxRecDepth 200000 in
theorem zk_187 : zcw 187 ∈ lw_tbl := List.mem_of_getElem? (i := 1165) rfl
set_option maxRecDepth 200000 in
theorem zd_188 : zt_J5_getValue_6d5f1.all (zdc 188) = true := by decide +kernel
set_option maxRecDepth 200000 in
theorem zw_188 : zt_J5_getValue_6d5f1.all (zwc 188) = true := by decide +kernel
set_option maxRecDepth 200000 in
theorem zm_188 : zmc 188 = true := by decide +kernel
set_option maxRecDepth 200000 in
theorem zk_188 : zcw 188 ∈ lw_tbl := List.mem_of_getElem? (i := 1200) rfl
set_option maxRecDepth 200000 in
theorem zd_189 : zt_J5_isLatin1_aae02.all (zdc 189) = true := by decide +kernel
set_option maxRecDepth 200000 in
theorem zw_189 : zt_J5_isLatin1_aae02.all (zwc 189) = true := by decide +kernel
set_option maxRecDepth 200000 in
theorem zm_189 : zmc 189 = true := by decide +kernel
set_option maxRecDepth 200000 in
theorem zk_189 : zcw 189 ∈ lw_tbl := List.mem_of_getElem? (i := 1108) rfl
set_option maxRecDepth 200000 in
theorem zd_190 : zt_J5_inflateIfNeededFor_a7421.all (zdc 190) = true := by decide +kernel
set_option maxRecDepth 200000 in
theorem zw_190 : zt_J5_inflateIfNeededFor_a7421.all (zwc 190) = true := by decide +kernel
set_option maxRecDepth 200000 in
theorem zm_190 : zmc 190 = true := by decide +kernel
set_option maxRecDepth 200000 in
theorem zk_190 : zcw 190 ∈ lw_tbl := List.mem_of_getElem? (i := 1132) rfl
set_option maxRecDepth 200000 in
theorem zd_191 : zt_J5_putStringAt_47b60.all (zdc 191) = true := by decide +kernel
set_option maxRecDepth 200000 in
theorem zw_191 : zt_J5_putStringAt_47b60.all (zwc 191) = true := by decide +kernel
set_option maxRecDepth 200000 in
theorem zm_191 : zmc 191 = true := by decide +kernel
set_option maxRecDepth 200000 in
theorem zk_191 : zcw 191 ∈ lw_tbl := List.mem_of_getElem? (i := 1128) rfl
set_option maxRecDepth 200000 in
theorem zd_192_0 : ((zt_J6_getChars_ba4f3.drop 0).take 40).all (zdc 192) = true := by decide +kernel
set_option maxRecDepth 200000 in
theorem zd_192_1 : ((zt_J6_getChars_ba4f3.drop 40).take 40).all (zdc 192) = true := by decide +kernel
set_option maxRecDepth 200000 in
theorem zd_192 : zt_J6_getChars_ba4f3.all (zdc 192) = true := zall_0 (zall_st (j := 0) zd_192_0 (zall_st (j := 40) zd_192_1 (zall_nil (by decide +kernel : (zt_J6_getChars_ba4f3.drop 80) = []))))
set_option maxRecDepth 200000 in
theorem zw_192 : zt_J6_getChars_ba4f3.all (zwc 192) = true := by decide +kernel
set_option maxRecDepth 200000 in
theorem zm_192 : zmc 192 = true := by decide +kernel
set_option maxRecDepth 200000 in
theorem zk_192 : zcw 192 ∈ lw_tbl := List.mem_of_getElem? (i := 1171) rfl
set_option maxRecDepth 200000 in
theorem zd_193 : zt_J6_stringSize_0f7a4.all (zdc 193) = true := by decide +kernel
set_option maxRecDepth 200000 in
theorem zw_193 : zt_J6_stringSize_0f7a4.all (zwc 193) = true := by decide +kernel
set_option maxRecDepth 200000 in
theorem zm_193 : zmc 193 = true := by decide +kernel
set_option maxRecDepth 200000 in
theorem zk_193 : zcw 193 ∈ lw_tbl := List.mem_of_getElem? (i := 1168) rfl
set_option maxRecDepth 200000 in
theorem zd_194 : zt_J6_bitCount_0f7a4.all (zdc 194) = true := by decide +kernel
set_option maxRecDepth 200000 in
theorem zw_194 : zt_J6_bitCount_0f7a4.all (zwc 194) = true := by decide +kernel
set_option maxRecDepth 200000 in
theorem zm_194 : zmc 194 = true := by decide +kernel
set_option maxRecDepth 200000 in
theorem zk_194 : zcw 194 ∈ lw_tbl := List.mem_of_getElem? (i := 575) rfl
set_option maxRecDepth 200000 in
theorem zd_195 : zt_J0_init_81219.all (zdc 195) = true := by decide +kernel
set_option maxRecDepth 200000 in
theorem zw_195 : zt_J0_init_81219.all (zwc 195) = true := by decide +kernel
set_option maxRecDepth 200000 in
theorem zm_195 : zmc 195 = true := by decide +kernel
set_option maxRecDepth 200000 in
theorem zk_195 : zcw 195 ∈ lw_tbl := List.mem_of_getElem? (i := 1191) rfl
set_option maxRecDepth 200000 in
theorem zd_196 : zt_J0_length_8abf5.all (zdc 196) = true := by decide +kernel
set_option maxRecDepth 200000 in
theorem zw_196 : zt_J0_length_8abf5.all (zwc 196) = true := by decide +kernel
set_option maxRecDepth 200000 in
theorem zm_196 : zmc 196 = true := by decide +kernel
set_option maxRecDepth 200000 in
theorem zk_196 : zcw 196 ∈ lw_tbl := List.mem_of_getElem? (i := 744) rfl
set_option maxRecDepth 200000 in
theorem zd_197 : zt_J0_charAt_5068e.all (zdc 197) = true := by decide +kernel
set_option maxRecDepth 200000 in
theorem zw_197 : zt_J0_charAt_5068e.all (zwc 197) = true := by decide +kernel
set_option maxRecDepth 200000 in
theorem zm_197 : zmc 197 = true := by decide +kernel
set_option maxRecDepth 200000 in
theorem zk_197 : zcw 197 ∈ lw_tbl := List.mem_of_getElem? (i := 754) rfl
set_option maxRecDepth 200000 in
theorem zd_198 : zt_J0_getBytes_840e7.all (zdc 198) = true := by decide +kernel
set_option maxRecDepth 200000 in
theorem zw_198 : zt_J0_getBytes_840e7.all (zwc 198) = true := by decide +kernel
set_option maxRecDepth 200000 in
theorem zm_198 : zmc 198 = true := by decide +kernel
set_option maxRecDepth 200000 in
theorem zk_198 : zcw 198 ∈ lw_tbl := List.mem_of_getElem? (i := 1156) rfl
set_option maxRecDepth 200000 in
theorem zd_199 : zt_J0_init_db425.all (zdc 199) = true := by decide +kernel
set_option maxRecDepth 200000 in
theorem zw_199 : zt_J0_init_db425.all (zwc 199) = true := by decide +kernel
set_option maxRecDepth 200000 in
theorem zm_199 : zmc 199 = true := by decide +kernel
set_option maxRecDepth 200000 in
theorem zk_199 : zcw 199 ∈ lw_tbl := List.mem_of_getElem? (i := 1194) rfl
set_option maxRecDepth 200000 in
theorem zd_200 : zt_J0_coder_7d493.all (zdc 200) = true := by decide +kernel
set_option maxRecDepth 200000 in
theorem zw_200 : zt_J0_coder_7d493.all (zwc 200) = true := by decide +kernel
set_option maxRecDepth 200000 in
theorem zm_200 : zmc 200 = true := by decide +kernel
set_option maxRecDepth 200000 in
theorem zk_200 : zcw 200 ∈ lw_tbl := List.mem_of_getElem? (i := 748) rfl
set_option maxRecDepth 200000 in
theorem zd_201 : zt_J0_isLatin1_aae02.all (zdc 201) = true := by decide +kernel
set_option maxRecDepth 200000 in
theorem zw_201 : zt_J0_isLatin1_aae02.all (zwc 201) = true := by decide +kernel
set_option maxRecDepth 200000 in
theorem zm_201 : zmc 201 = true := by decide +kernel
set_option maxRecDepth 200000 in
theorem zk_201 : zcw 201 ∈ lw_tbl := List.mem_of_getElem? (i := 758) rfl
set_option maxRecDepth 200000 in
theorem zd_202 : zt_J0_checkIndex_df160.all (zdc 202) = true := by decide +kernel
set_option maxRecDepth 200000 in
theorem zw_202 : zt_J0_checkIndex_df160.all (zwc 202) = true := by decide +kernel
set_option maxRecDepth 200000 in
theorem zm_202 : zmc 202 = true := by decide +kernel
set_option maxRecDepth 200000 in
theorem zk_202 : zcw 202 ∈ lw_tbl := List.mem_of_getElem? (i := 764) rfl
set_option maxRecDepth 200000 in
theorem zd_203 : zt_J4_init_da8c8.all (zdc 203) = true := by decide +kernel
set_option maxRecDepth 200000 in
theorem zw_203 : zt_J4_init_da8c8.all (zwc 203) = true := by decide +kernel
set_option maxRecDepth 200000 in
theorem zm_203 : zmc 203 = true := by decide +kernel
set_option maxRecDepth 200000 in
theorem zk_203 : zcw 203 ∈ lw_tbl := List.mem_of_getElem? (i := 250) rfl
set_option maxRecDepth 200000 in
theorem zd_204 : zt_J4_append_15ec4.all (zdc 204) = true := by decide +kernel
set_option maxRecDepth 200000 in
theorem zw_204 : zt_J4_append_15ec4.all (zwc 204) = true := by decide +kernel
set_option maxRecDepth 200000 in
theorem zm_204 : zmc 204 = true := by decide +kernel
set_option maxRecDepth 200000 in
theorem zk_204 : zcw 204 ∈ lw_tbl := List.mem_of_getElem? (i := 1067) rfl
set_option maxRecDepth 200000 in
theorem zd_205 : zt_J4_append_cf468.all (zdc 205) = true := by decide +kernel
set_option maxRecDepth 200000 in
theorem zw_205 : zt_J4_append_cf468.all (zwc 205) = true := by decide +kernel
set_option maxRecDepth 200000 in
theorem zm_205 : zmc 205 = true := by decide +kernel
set_option maxRecDepth 200000 in
theorem zk_205 : zcw 205 ∈ lw_tbl := List.mem_of_getElem? (i := 1282) rfl
set_option maxRecDepth 200000 in
theorem zd_206 : zt_J4_append_bf812.all (zdc 206) = true := by decide +kernel
set_option maxRecDepth 200000 in
theorem zw_206 : zt_J4_append_bf812.all (zwc 206) = true := by decide +kernel
set_option maxRecDepth 200000 in
theorem zm_206 : zmc 206 = true := by decide +kernel
set_option maxRecDepth 200000 in
theorem zk_206 : zcw 206 ∈ lw_tbl := List.mem_of_getElem? (i := 1162) rfl
set_option maxRecDepth 200000 in
theorem zd_207 : zt_J4_toString_0e30d.all (zdc 207) = true := by decide +kernel
set_option maxRecDepth 200000 in
theorem zw_207 : zt_J4_toString_0e30d.all (zwc 207) = true := by decide +kernel
set_option maxRecDepth 200000 in
theorem zm_207 : zmc 207 = true := by decide +kernel
set_option maxRecDepth 200000 in
theorem zk_207 : zcw 207 ∈ lw_tbl := List.mem_of_getElem? (i := 1187) rfl
set_option maxRecDepth 200000 in
theorem zd_208 : zt_J4_charAt_5068e.all (zdc 208) = true := by decide +kernel
set_option maxRecDepth 200000 in
theorem zw_208 : zt_J4_charAt_5068e.all (zwc 208) = true := by decide +kernel
set_option maxRecDepth 200000 in
theorem zm_208 : zmc 208 = true := by decide +kernel
set_option maxRecDepth 200000 in
theorem zk_208 : zcw 208 ∈ lw_tbl := List.mem_of_getElem? (i := 1309) rfl
set_option maxRecDepth 200000 in
theorem zd_209 : zt_J4_setLength_d00df.all (zdc 209) = true := by decide +kernel
set_option maxRecDepth 200000 in
theorem zw_209 : zt_J4_setLength_d00df.all (zwc 209) = true := by decide +kernel
set_option maxRecDepth 200000 in
theorem zm_209 : zmc 209 = true := by decide +kernel
set_option maxRecDepth 200000 in
theorem zk_209 : zcw 209 ∈ lw_tbl := List.mem_of_getElem? (i := 1052) rfl
set_option maxRecDepth 200000 in
theorem zd_210 : zt_J4_length_8abf5.all (zdc 210) = true := by decide +kernel
set_option maxRecDepth 200000 in
theorem zw_210 : zt_J4_length_8abf5.all (zwc 210) = true := by decide +kernel
set_option maxRecDepth 200000 in
theorem zm_210 : zmc 210 = true := by decide +kernel
set_option maxRecDepth 200000 in
theorem zk_210 : zcw 210 ∈ lw_tbl := List.mem_of_getElem? (i := 1206) rfl
set_option maxRecDepth 200000 in
theorem zd_211 : zt_J1_charAt_3b067.all (zdc 211) = true := by decide +kernel
set_option maxRecDepth 200000 in
theorem zw_211 : zt_J1_charAt_3b067.all (zwc 211) = true := by decide +kernel
set_option maxRecDepth 200000 in
theorem zm_211 : zmc 211 = true := by decide +kernel
set_option maxRecDepth 200000 in
theorem zk_211 : zcw 211 ∈ lw_tbl := List.mem_of_getElem? (i := 761) rfl
set_option maxRecDepth 200000 in
theorem zd_212 : zt_J1_canEncode_fc78d.all (zdc 212) = true := by decide +kernel
set_option maxRecDepth 200000 in
theorem zw_212 : zt_J1_canEncode_fc78d.all (zwc 212) = true := by decide +kernel
set_option maxRecDepth 200000 in
theorem zm_212 : zmc 212 = true := by decide +kernel
set_option maxRecDepth 200000 in
theorem zk_212 : zcw 212 ∈ lw_tbl := List.mem_of_getElem? (i := 1288) rfl
set_option maxRecDepth 200000 in
theorem zd_213 : zt_J1_fillNull_b72d1.all (zdc 213) = true := by decide +kernel
set_option maxRecDepth 200000 in
theorem zw_213 : zt_J1_fillNull_b72d1.all (zwc 213) = true := by decide +kernel
set_option maxRecDepth 200000 in
theorem zm_213 : zmc 213 = true := by decide +kernel
set_option maxRecDepth 200000 in
theorem zk_213 : zcw 213 ∈ lw_tbl := List.mem_of_getElem? (i := 1254) rfl
set_option maxRecDepth 200000 in
theorem zd_214 : zt_J7_rangeCheck_23922.all (zdc 214) = true := by decide +kernel
set_option maxRecDepth 200000 in
theorem zw_214 : zt_J7_rangeCheck_23922.all (zwc 214) = true := by decide +kernel
set_option maxRecDepth 200000 in
theorem zm_214 : zmc 214 = true := by decide +kernel
set_option maxRecDepth 200000 in
theorem zk_214 : zcw 214 ∈ lw_tbl := List.mem_of_getElem? (i := 1260) rfl
set_option maxRecDepth 200000 in
theorem zd_215 : zt_J7_fill_53178.all (zdc 215) = true := by decide +kernel
set_option maxRecDepth 200000 in
theorem zw_215 : zt_J7_fill_53178.all (zwc 215) = true := by decide +kernel
set_option maxRecDepth 200000 in
theorem zm_215 : zmc 215 = true := by decide +kernel
set_option maxRecDepth 200000 in
theorem zk_215 : zcw 215 ∈ lw_tbl := List.mem_of_getElem? (i := 978) rfl
set_option maxRecDepth 200000 in
theorem zd_216 : zt_J7_fill_eb02e.all (zdc 216) = true := by decide +kernel
set_option maxRecDepth 200000 in
theorem zw_216 : zt_J7_fill_eb02e.all (zwc 216) = true := by decide +kernel
set_option maxRecDepth 200000 in
theorem zm_216 : zmc 216 = true := by decide +kernel
set_option maxRecDepth 200000 in
theorem zk_216 : zcw 216 ∈ lw_tbl := List.mem_of_getElem? (i := 1257) rfl
set_option maxRecDepth 200000 in
theorem zd_217 : zt_J7_copyOf_9075b.all (zdc 217) = true := by decide +kernel
set_option maxRecDepth 200000 in
theorem zw_217 : zt_J7_copyOf_9075b.all (zwc 217) = true := by decide +kernel
set_option maxRecDepth 200000 in
theorem zm_217 : zmc 217 = true := by decide +kernel
set_option maxRecDepth 200000 in
theorem zk_217 : zcw 217 ∈ lw_tbl := List.mem_of_getElem? (i := 1094) rfl
set_option maxRecDepth 200000 in
theorem zd_218 : zt_J7_checkLength_df160.all (zdc 218) = true := by decide +kernel
set_option maxRecDepth 200000 in
theorem zw_218 : zt_J7_checkLength_df160.all (zwc 218) = true := by decide +kernel
set_option maxRecDepth 200000 in
theorem zm_218 : zmc 218 = true := by decide +kernel
set_option maxRecDepth 200000 in
theorem zk_218 : zcw 218 ∈ lw_tbl := List.mem_of_getElem? (i := 1218) rfl
set_option maxRecDepth 200000 in
theorem zd_219 : zt_J7_copyOfRange_39247.all (zdc 219) = true := by decide +kernel
set_option maxRecDepth 200000 in
theorem zw_219 : zt_J7_copyOfRange_39247.all (zwc 219) = true := by decide +kernel
set_option maxRecDepth 200000 in
theorem zm_219 : zmc 219 = true := by decide +kernel
set_option maxRecDepth 200000 in
theorem zk_219 : zcw 219 ∈ lw_tbl := List.mem_of_getElem? (i := 1212) rfl
set_option maxRecDepth 200000 in
theorem zd_220 : zt_J7_copyOfRangeByte_39247.all (zdc 220) = true := by decide +kernel
set_option maxRecDepth 200000 in
theorem zw_220 : zt_J7_copyOfRangeByte_39247.all (zwc 220) = true := by decide +kernel
set_option maxRecDepth 200000 in
theorem zm_220 : zmc 220 = true := by decide +kernel
set_option maxRecDepth 200000 in
theorem zk_220 : zcw 220 ∈ lw_tbl := List.mem_of_getElem? (i := 1215) rfl
set_option maxRecDepth 200000 in
theorem zd_221 : zt_J8_newLength_cabcc.all (zdc 221) = true := by decide +kernel
set_option maxRecDepth 200000 in
theorem zw_221 : zt_J8_newLength_cabcc.all (zwc 221) = true := by decide +kernel
set_option maxRecDepth 200000 in
theorem zm_221 : zmc 221 = true := by decide +kernel
set_option maxRecDepth 200000 in
theorem zk_221 : zcw 221 ∈ lw_tbl := List.mem_of_getElem? (i := 1085) rfl
set_option maxRecDepth 200000 in
theorem zd_222 : zt_J3_checkIndex_8e157.all (zdc 222) = true := by decide +kernel
set_option maxRecDepth 200000 in
theorem zw_222 : zt_J3_checkIndex_8e157.all (zwc 222) = true := by decide +kernel
set_option maxRecDepth 200000 in
theorem zm_222 : zmc 222 = true := by decide +kernel
set_option maxRecDepth 200000 in
theorem zk_222 : zcw 222 ∈ lw_tbl := List.mem_of_getElem? (i := 769) rfl
set_option maxRecDepth 200000 in
theorem zd_223 : zt_J3_checkFromToIndex_8c36e.all (zdc 223) = true := by decide +kernel
set_option maxRecDepth 200000 in
theorem zw_223 : zt_J3_checkFromToIndex_8c36e.all (zwc 223) = true := by decide +kernel
set_option maxRecDepth 200000 in
theorem zm_223 : zmc 223 = true := by decide +kernel
set_option maxRecDepth 200000 in
theorem zk_223 : zcw 223 ∈ lw_tbl := List.mem_of_getElem? (i := 1120) rfl
