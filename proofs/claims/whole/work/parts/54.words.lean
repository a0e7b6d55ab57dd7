/-! words of the tables by their places; decode rows of the constructors -/
set_option maxRecDepth 20000 in
theorem wd_54 : Cond.initialized RX9 ∈ am_tb := am_tb_of (List.mem_of_getElem? (i := 54) rfl) rfl
set_option maxRecDepth 20000 in
theorem wd_55 : Cond.initialized RX8 ∈ am_tb := am_tb_of (List.mem_of_getElem? (i := 55) rfl) rfl
set_option maxRecDepth 20000 in
theorem wd_56 : Cond.initialized RX4 ∈ am_tb := am_tb_of (List.mem_of_getElem? (i := 56) rfl) rfl
set_option maxRecDepth 20000 in
theorem wd_57 : Cond.initialized RX1 ∈ am_tb := am_tb_of (List.mem_of_getElem? (i := 57) rfl) rfl
set_option maxRecDepth 20000 in
theorem wd_58 : Cond.initialized RX7 ∈ am_tb := am_tb_of (List.mem_of_getElem? (i := 58) rfl) rfl
set_option maxRecDepth 20000 in
theorem wd_59 : Cond.initialized RX6 ∈ am_tb := am_tb_of (List.mem_of_getElem? (i := 59) rfl) rfl
set_option maxRecDepth 20000 in
theorem wd_60 : Cond.initialized RX2 ∈ am_tb := am_tb_of (List.mem_of_getElem? (i := 60) rfl) rfl
set_option maxRecDepth 20000 in
theorem wd_61 : Cond.initialized RX5 ∈ am_tb := am_tb_of (List.mem_of_getElem? (i := 61) rfl) rfl
set_option maxRecDepth 20000 in
theorem wd_62 : Cond.initialized RX0 ∈ am_tb := am_tb_of (List.mem_of_getElem? (i := 62) rfl) rfl
set_option maxRecDepth 20000 in
theorem wd_63 : Cond.initialized RX3 ∈ am_tb := am_tb_of (List.mem_of_getElem? (i := 63) rfl) rfl
set_option maxRecDepth 20000 in
theorem wd_64 : Cond.initialized RX10 ∈ am_tb := am_tb_of (List.mem_of_getElem? (i := 64) rfl) rfl
set_option maxRecDepth 20000 in
theorem wd_67 : Cond.classLink RL 7 RX9 ∈ am_tb := am_tb_of (List.mem_of_getElem? (i := 67) rfl) rfl
set_option maxRecDepth 20000 in
theorem wd_68 : Cond.instantiable RX9 11 ∈ am_tb := am_tb_of (List.mem_of_getElem? (i := 68) rfl) rfl
set_option maxRecDepth 20000 in
theorem wd_69 : Cond.methodLink RL 9 yX9_init ∈ am_tb := am_tb_of (List.mem_of_getElem? (i := 69) rfl) rfl
set_option maxRecDepth 20000 in
theorem wd_70 : Cond.instanceMethod yX9_init ∈ am_tb := am_tb_of (List.mem_of_getElem? (i := 70) rfl) rfl
set_option maxRecDepth 20000 in
theorem wd_71 : Cond.code yX9_init cX9_init 2 none ∈ am_tb := am_tb_of (List.mem_of_getElem? (i := 71) rfl) rfl
set_option maxRecDepth 20000 in
theorem wd_72 : Cond.methodLink RX9 1 objectInit ∈ am_tb := am_tb_of (List.mem_of_getElem? (i := 72) rfl) rfl
set_option maxRecDepth 20000 in
theorem wd_73 : Cond.instanceMethod objectInit ∈ am_tb := am_tb_of (List.mem_of_getElem? (i := 73) rfl) rfl
set_option maxRecDepth 20000 in
theorem wd_74 : Cond.code objectInit ⟨#[0xb1]⟩ 1 none ∈ am_tb := am_tb_of (List.mem_of_getElem? (i := 74) rfl) rfl
set_option maxRecDepth 20000 in
theorem wd_75 : Cond.classLink RX9 7 RX8 ∈ am_tb := am_tb_of (List.mem_of_getElem? (i := 75) rfl) rfl
set_option maxRecDepth 20000 in
theorem wd_76 : Cond.instantiable RX8 2 ∈ am_tb := am_tb_of (List.mem_of_getElem? (i := 76) rfl) rfl
set_option maxRecDepth 20000 in
theorem wd_78 : Cond.instanceMethod yX8_init ∈ am_tb := am_tb_of (List.mem_of_getElem? (i := 78) rfl) rfl
set_option maxRecDepth 20000 in
theorem wd_79 : Cond.code yX8_init cX8_init 1 none ∈ am_tb := am_tb_of (List.mem_of_getElem? (i := 79) rfl) rfl
set_option maxRecDepth 20000 in
theorem wd_80 : Cond.methodLink RX8 3 objectInit ∈ am_tb := am_tb_of (List.mem_of_getElem? (i := 80) rfl) rfl
set_option maxRecDepth 20000 in
theorem wd_81 : Cond.fieldLink RX8 9 "OtherName$Page" "codes" "[I" ∈ am_tb := am_tb_of (List.mem_of_getElem? (i := 81) rfl) rfl
set_option maxRecDepth 20000 in
theorem wd_90 : Cond.arrayClass .int ∈ am_tb := am_tb_of (List.mem_of_getElem? (i := 90) rfl) rfl
set_option maxRecDepth 20000 in
theorem wd_91 : Cond.classLink RX9 16 RX4 ∈ am_tb := am_tb_of (List.mem_of_getElem? (i := 91) rfl) rfl
set_option maxRecDepth 20000 in
theorem wd_92 : Cond.instantiable RX4 4 ∈ am_tb := am_tb_of (List.mem_of_getElem? (i := 92) rfl) rfl
set_option maxRecDepth 20000 in
theorem wd_93 : Cond.methodLink RX9 18 yX4_init ∈ am_tb := am_tb_of (List.mem_of_getElem? (i := 93) rfl) rfl
set_option maxRecDepth 20000 in
theorem wd_94 : Cond.instanceMethod yX4_init ∈ am_tb := am_tb_of (List.mem_of_getElem? (i := 94) rfl) rfl
set_option maxRecDepth 20000 in
theorem wd_95 : Cond.code yX4_init cX4_init 5 none ∈ am_tb := am_tb_of (List.mem_of_getElem? (i := 95) rfl) rfl
set_option maxRecDepth 20000 in
theorem wd_96 : Cond.methodLink RX4 1 objectInit ∈ am_tb := am_tb_of (List.mem_of_getElem? (i := 96) rfl) rfl
set_option maxRecDepth 20000 in
theorem wd_97 : Cond.fieldLink RX4 7 "OtherName$Law" "first" "I" ∈ am_tb := am_tb_of (List.mem_of_getElem? (i := 97) rfl) rfl
set_option maxRecDepth 20000 in
theorem wd_102 : Cond.fieldLink RX4 13 "OtherName$Law" "every" "I" ∈ am_tb := am_tb_of (List.mem_of_getElem? (i := 102) rfl) rfl
set_option maxRecDepth 20000 in
theorem wd_107 : Cond.fieldLink RX4 16 "OtherName$Law" "second" "I" ∈ am_tb := am_tb_of (List.mem_of_getElem? (i := 107) rfl) rfl
set_option maxRecDepth 20000 in
theorem wd_112 : Cond.fieldLink RX4 19 "OtherName$Law" "twins" "I" ∈ am_tb := am_tb_of (List.mem_of_getElem? (i := 112) rfl) rfl
set_option maxRecDepth 20000 in
theorem wd_126 : Cond.classLink RX9 25 RX1 ∈ am_tb := am_tb_of (List.mem_of_getElem? (i := 126) rfl) rfl
set_option maxRecDepth 20000 in
theorem wd_127 : Cond.instantiable RX1 11 ∈ am_tb := am_tb_of (List.mem_of_getElem? (i := 127) rfl) rfl
set_option maxRecDepth 20000 in
theorem wd_129 : Cond.instanceMethod yX1_init ∈ am_tb := am_tb_of (List.mem_of_getElem? (i := 129) rfl) rfl
set_option maxRecDepth 20000 in
theorem wd_130 : Cond.code yX1_init cX1_init 1 none ∈ am_tb := am_tb_of (List.mem_of_getElem? (i := 130) rfl) rfl
set_option maxRecDepth 20000 in
theorem wd_131 : Cond.methodLink RX1 3 objectInit ∈ am_tb := am_tb_of (List.mem_of_getElem? (i := 131) rfl) rfl
set_option maxRecDepth 20000 in
theorem wd_139 : Cond.fieldLink RX1 9 "OtherName$Folk" "kind" "[I" ∈ am_tb := am_tb_of (List.mem_of_getElem? (i := 139) rfl) rfl
set_option maxRecDepth 20000 in
theorem wd_142 : Cond.fieldLink RX1 15 "OtherName$Folk" "sex" "[I" ∈ am_tb := am_tb_of (List.mem_of_getElem? (i := 142) rfl) rfl
set_option maxRecDepth 20000 in
theorem wd_146 : Cond.fieldLink RX1 18 "OtherName$Folk" "father" "[I" ∈ am_tb := am_tb_of (List.mem_of_getElem? (i := 146) rfl) rfl
set_option maxRecDepth 20000 in
theorem wd_151 : Cond.fieldLink RX1 21 "OtherName$Folk" "mother" "[I" ∈ am_tb := am_tb_of (List.mem_of_getElem? (i := 151) rfl) rfl
set_option maxRecDepth 20000 in
theorem wd_154 : Cond.fieldLink RX1 24 "OtherName$Folk" "gap" "[Z" ∈ am_tb := am_tb_of (List.mem_of_getElem? (i := 154) rfl) rfl
set_option maxRecDepth 20000 in
theorem wd_157 : Cond.fieldLink RX1 28 "OtherName$Folk" "generation" "[I" ∈ am_tb := am_tb_of (List.mem_of_getElem? (i := 157) rfl) rfl
set_option maxRecDepth 20000 in
theorem wd_159 : Cond.fieldLink RX1 31 "OtherName$Folk" "told" "[I" ∈ am_tb := am_tb_of (List.mem_of_getElem? (i := 159) rfl) rfl
set_option maxRecDepth 20000 in
theorem wd_164 : Cond.fieldLink RX1 34 "OtherName$Folk" "written" "[I" ∈ am_tb := am_tb_of (List.mem_of_getElem? (i := 164) rfl) rfl
set_option maxRecDepth 20000 in
theorem wd_168 : Cond.fieldLink RX1 37 "OtherName$Folk" "alive" "[Z" ∈ am_tb := am_tb_of (List.mem_of_getElem? (i := 168) rfl) rfl
set_option maxRecDepth 20000 in
theorem wd_172 : Cond.fieldLink RX1 40 "OtherName$Folk" "up" "[I" ∈ am_tb := am_tb_of (List.mem_of_getElem? (i := 172) rfl) rfl
set_option maxRecDepth 20000 in
theorem wd_196 : Cond.arrayClass .boolean ∈ am_tb := am_tb_of (List.mem_of_getElem? (i := 196) rfl) rfl
set_option maxRecDepth 20000 in
theorem wd_197 : Cond.classLink RX9 32 RX7 ∈ am_tb := am_tb_of (List.mem_of_getElem? (i := 197) rfl) rfl
set_option maxRecDepth 20000 in
theorem wd_198 : Cond.instantiable RX7 3 ∈ am_tb := am_tb_of (List.mem_of_getElem? (i := 198) rfl) rfl
set_option maxRecDepth 20000 in
theorem wd_199 : Cond.methodLink RX9 34 yX7_init ∈ am_tb := am_tb_of (List.mem_of_getElem? (i := 199) rfl) rfl
set_option maxRecDepth 20000 in
theorem wd_200 : Cond.instanceMethod yX7_init ∈ am_tb := am_tb_of (List.mem_of_getElem? (i := 200) rfl) rfl
set_option maxRecDepth 20000 in
theorem wd_201 : Cond.code yX7_init cX7_init 2 none ∈ am_tb := am_tb_of (List.mem_of_getElem? (i := 201) rfl) rfl
set_option maxRecDepth 20000 in
theorem wd_202 : Cond.methodLink RX7 3 objectInit ∈ am_tb := am_tb_of (List.mem_of_getElem? (i := 202) rfl) rfl
set_option maxRecDepth 20000 in
theorem wd_203 : Cond.fieldLink RX7 9 "OtherName$Names" "of" "[I" ∈ am_tb := am_tb_of (List.mem_of_getElem? (i := 203) rfl) rfl
set_option maxRecDepth 20000 in
theorem wd_206 : Cond.fieldLink RX7 15 "OtherName$Names" "row" "[I" ∈ am_tb := am_tb_of (List.mem_of_getElem? (i := 206) rfl) rfl
set_option maxRecDepth 20000 in
theorem wd_207 : Cond.fieldLink RX7 18 "OtherName$Names" "folk" "LOtherName$Folk;" ∈ am_tb := am_tb_of (List.mem_of_getElem? (i := 207) rfl) rfl
set_option maxRecDepth 20000 in
theorem wd_215 : Cond.classLink RX9 41 RX6 ∈ am_tb := am_tb_of (List.mem_of_getElem? (i := 215) rfl) rfl
set_option maxRecDepth 20000 in
theorem wd_216 : Cond.instantiable RX6 7 ∈ am_tb := am_tb_of (List.mem_of_getElem? (i := 216) rfl) rfl
set_option maxRecDepth 20000 in
theorem wd_217 : Cond.methodLink RX9 43 yX6_init ∈ am_tb := am_tb_of (List.mem_of_getElem? (i := 217) rfl) rfl
set_option maxRecDepth 20000 in
theorem wd_218 : Cond.instanceMethod yX6_init ∈ am_tb := am_tb_of (List.mem_of_getElem? (i := 218) rfl) rfl
set_option maxRecDepth 20000 in
theorem wd_219 : Cond.code yX6_init cX6_init 3 none ∈ am_tb := am_tb_of (List.mem_of_getElem? (i := 219) rfl) rfl
set_option maxRecDepth 20000 in
theorem wd_220 : Cond.methodLink RX6 3 objectInit ∈ am_tb := am_tb_of (List.mem_of_getElem? (i := 220) rfl) rfl
set_option maxRecDepth 20000 in
theorem wd_224 : Cond.fieldLink RX6 9 "OtherName$Mending" "at" "[I" ∈ am_tb := am_tb_of (List.mem_of_getElem? (i := 224) rfl) rfl
set_option maxRecDepth 20000 in
theorem wd_225 : Cond.fieldLink RX6 15 "OtherName$Mending" "best" "[I" ∈ am_tb := am_tb_of (List.mem_of_getElem? (i := 225) rfl) rfl
set_option maxRecDepth 20000 in
theorem wd_226 : Cond.fieldLink RX6 18 "OtherName$Mending" "told" "[I" ∈ am_tb := am_tb_of (List.mem_of_getElem? (i := 226) rfl) rfl
set_option maxRecDepth 20000 in
theorem wd_227 : Cond.fieldLink RX6 21 "OtherName$Mending" "folk" "LOtherName$Folk;" ∈ am_tb := am_tb_of (List.mem_of_getElem? (i := 227) rfl) rfl
set_option maxRecDepth 20000 in
theorem wd_228 : Cond.fieldLink RX6 25 "OtherName$Mending" "trial" "LOtherName$Names;" ∈ am_tb := am_tb_of (List.mem_of_getElem? (i := 228) rfl) rfl
set_option maxRecDepth 20000 in
theorem wd_244 : Cond.classLink RX9 50 RX2 ∈ am_tb := am_tb_of (List.mem_of_getElem? (i := 244) rfl) rfl
set_option maxRecDepth 20000 in
theorem wd_245 : Cond.instantiable RX2 9 ∈ am_tb := am_tb_of (List.mem_of_getElem? (i := 245) rfl) rfl
set_option maxRecDepth 20000 in
theorem wd_246 : Cond.methodLink RX9 52 yX2_init ∈ am_tb := am_tb_of (List.mem_of_getElem? (i := 246) rfl) rfl
set_option maxRecDepth 20000 in
theorem wd_247 : Cond.instanceMethod yX2_init ∈ am_tb := am_tb_of (List.mem_of_getElem? (i := 247) rfl) rfl
set_option maxRecDepth 20000 in
theorem wd_248 : Cond.code yX2_init cX2_init 3 none ∈ am_tb := am_tb_of (List.mem_of_getElem? (i := 248) rfl) rfl
set_option maxRecDepth 20000 in
theorem wd_249 : Cond.methodLink RX2 3 objectInit ∈ am_tb := am_tb_of (List.mem_of_getElem? (i := 249) rfl) rfl
set_option maxRecDepth 20000 in
theorem wd_252 : Cond.fieldLink RX2 9 "OtherName$Guessing" "certain" "[I" ∈ am_tb := am_tb_of (List.mem_of_getElem? (i := 252) rfl) rfl
set_option maxRecDepth 20000 in
theorem wd_255 : Cond.fieldLink RX2 15 "OtherName$Guessing" "at" "[I" ∈ am_tb := am_tb_of (List.mem_of_getElem? (i := 255) rfl) rfl
set_option maxRecDepth 20000 in
theorem wd_256 : Cond.fieldLink RX2 18 "OtherName$Guessing" "choices" "[I" ∈ am_tb := am_tb_of (List.mem_of_getElem? (i := 256) rfl) rfl
set_option maxRecDepth 20000 in
theorem wd_257 : Cond.fieldLink RX2 21 "OtherName$Guessing" "men" "[I" ∈ am_tb := am_tb_of (List.mem_of_getElem? (i := 257) rfl) rfl
set_option maxRecDepth 20000 in
theorem wd_258 : Cond.fieldLink RX2 24 "OtherName$Guessing" "fathers" "[I" ∈ am_tb := am_tb_of (List.mem_of_getElem? (i := 258) rfl) rfl
set_option maxRecDepth 20000 in
theorem wd_259 : Cond.fieldLink RX2 27 "OtherName$Guessing" "folk" "LOtherName$Folk;" ∈ am_tb := am_tb_of (List.mem_of_getElem? (i := 259) rfl) rfl
set_option maxRecDepth 20000 in
theorem wd_260 : Cond.fieldLink RX2 31 "OtherName$Guessing" "trial" "LOtherName$Names;" ∈ am_tb := am_tb_of (List.mem_of_getElem? (i := 260) rfl) rfl
set_option maxRecDepth 20000 in
theorem wd_280 : Cond.classLink RX9 57 RX5 ∈ am_tb := am_tb_of (List.mem_of_getElem? (i := 280) rfl) rfl
set_option maxRecDepth 20000 in
theorem wd_281 : Cond.instantiable RX5 5 ∈ am_tb := am_tb_of (List.mem_of_getElem? (i := 281) rfl) rfl
set_option maxRecDepth 20000 in
theorem wd_282 : Cond.methodLink RX9 59 yX5_init ∈ am_tb := am_tb_of (List.mem_of_getElem? (i := 282) rfl) rfl
set_option maxRecDepth 20000 in
theorem wd_283 : Cond.instanceMethod yX5_init ∈ am_tb := am_tb_of (List.mem_of_getElem? (i := 283) rfl) rfl
set_option maxRecDepth 20000 in
theorem wd_284 : Cond.code yX5_init cX5_init 3 none ∈ am_tb := am_tb_of (List.mem_of_getElem? (i := 284) rfl) rfl
set_option maxRecDepth 20000 in
theorem wd_285 : Cond.methodLink RX5 3 objectInit ∈ am_tb := am_tb_of (List.mem_of_getElem? (i := 285) rfl) rfl
set_option maxRecDepth 20000 in
theorem wd_286 : Cond.classLink RX5 9 RX4 ∈ am_tb := am_tb_of (List.mem_of_getElem? (i := 286) rfl) rfl
set_option maxRecDepth 20000 in
theorem wd_287 : Cond.methodLink RX5 11 yX4_init ∈ am_tb := am_tb_of (List.mem_of_getElem? (i := 287) rfl) rfl
set_option maxRecDepth 20000 in
theorem wd_289 : Cond.fieldLink RX5 14 "OtherName$LawSearch" "firstFit" "LOtherName$Law;" ∈ am_tb := am_tb_of (List.mem_of_getElem? (i := 289) rfl) rfl
set_option maxRecDepth 20000 in
theorem wd_290 : Cond.fieldLink RX5 20 "OtherName$LawSearch" "tried" "LOtherName$Law;" ∈ am_tb := am_tb_of (List.mem_of_getElem? (i := 290) rfl) rfl
set_option maxRecDepth 20000 in
theorem wd_291 : Cond.fieldLink RX5 23 "OtherName$LawSearch" "folk" "LOtherName$Folk;" ∈ am_tb := am_tb_of (List.mem_of_getElem? (i := 291) rfl) rfl
set_option maxRecDepth 20000 in
theorem wd_292 : Cond.fieldLink RX5 27 "OtherName$LawSearch" "trial" "LOtherName$Names;" ∈ am_tb := am_tb_of (List.mem_of_getElem? (i := 292) rfl) rfl
set_option maxRecDepth 20000 in
theorem wd_304 : Cond.classLink RX9 64 RX0 ∈ am_tb := am_tb_of (List.mem_of_getElem? (i := 304) rfl) rfl
set_option maxRecDepth 20000 in
theorem wd_305 : Cond.instantiable RX0 7 ∈ am_tb := am_tb_of (List.mem_of_getElem? (i := 305) rfl) rfl
set_option maxRecDepth 20000 in
theorem wd_306 : Cond.methodLink RX9 66 yX0_init ∈ am_tb := am_tb_of (List.mem_of_getElem? (i := 306) rfl) rfl
set_option maxRecDepth 20000 in
theorem wd_307 : Cond.instanceMethod yX0_init ∈ am_tb := am_tb_of (List.mem_of_getElem? (i := 307) rfl) rfl
set_option maxRecDepth 20000 in
theorem wd_308 : Cond.code yX0_init cX0_init 3 none ∈ am_tb := am_tb_of (List.mem_of_getElem? (i := 308) rfl) rfl
set_option maxRecDepth 20000 in
theorem wd_309 : Cond.methodLink RX0 3 objectInit ∈ am_tb := am_tb_of (List.mem_of_getElem? (i := 309) rfl) rfl
set_option maxRecDepth 20000 in
theorem wd_312 : Cond.fieldLink RX0 9 "OtherName$Couples" "spouse" "[I" ∈ am_tb := am_tb_of (List.mem_of_getElem? (i := 312) rfl) rfl
set_option maxRecDepth 20000 in
theorem wd_314 : Cond.fieldLink RX0 15 "OtherName$Couples" "womenFor" "[I" ∈ am_tb := am_tb_of (List.mem_of_getElem? (i := 314) rfl) rfl
set_option maxRecDepth 20000 in
theorem wd_315 : Cond.fieldLink RX0 18 "OtherName$Couples" "husband" "[I" ∈ am_tb := am_tb_of (List.mem_of_getElem? (i := 315) rfl) rfl
set_option maxRecDepth 20000 in
theorem wd_317 : Cond.fieldLink RX0 21 "OtherName$Couples" "folk" "LOtherName$Folk;" ∈ am_tb := am_tb_of (List.mem_of_getElem? (i := 317) rfl) rfl
set_option maxRecDepth 20000 in
theorem wd_318 : Cond.fieldLink RX0 25 "OtherName$Couples" "names" "LOtherName$Names;" ∈ am_tb := am_tb_of (List.mem_of_getElem? (i := 318) rfl) rfl
set_option maxRecDepth 20000 in
theorem wd_334 : Cond.classLink RX9 71 RX3 ∈ am_tb := am_tb_of (List.mem_of_getElem? (i := 334) rfl) rfl
set_option maxRecDepth 20000 in
theorem wd_335 : Cond.instantiable RX3 5 ∈ am_tb := am_tb_of (List.mem_of_getElem? (i := 335) rfl) rfl
set_option maxRecDepth 20000 in
theorem wd_337 : Cond.instanceMethod yX3_init ∈ am_tb := am_tb_of (List.mem_of_getElem? (i := 337) rfl) rfl
set_option maxRecDepth 20000 in
theorem wd_338 : Cond.code yX3_init cX3_init 1 none ∈ am_tb := am_tb_of (List.mem_of_getElem? (i := 338) rfl) rfl
set_option maxRecDepth 20000 in
theorem wd_339 : Cond.methodLink RX3 3 objectInit ∈ am_tb := am_tb_of (List.mem_of_getElem? (i := 339) rfl) rfl
set_option maxRecDepth 20000 in
theorem wd_343 : Cond.fieldLink RX3 9 "OtherName$Image" "told" "[I" ∈ am_tb := am_tb_of (List.mem_of_getElem? (i := 343) rfl) rfl
set_option maxRecDepth 20000 in
theorem wd_344 : Cond.fieldLink RX3 15 "OtherName$Image" "written" "[I" ∈ am_tb := am_tb_of (List.mem_of_getElem? (i := 344) rfl) rfl
set_option maxRecDepth 20000 in
theorem wd_345 : Cond.fieldLink RX3 18 "OtherName$Image" "alive" "[Z" ∈ am_tb := am_tb_of (List.mem_of_getElem? (i := 345) rfl) rfl
set_option maxRecDepth 20000 in
theorem wd_357 : Cond.fieldLink RX9 10 "OtherName" "page" "LOtherName$Page;" ∈ am_tb := am_tb_of (List.mem_of_getElem? (i := 357) rfl) rfl
set_option maxRecDepth 20000 in
theorem wd_358 : Cond.fieldLink RX9 21 "OtherName" "theLaw" "LOtherName$Law;" ∈ am_tb := am_tb_of (List.mem_of_getElem? (i := 358) rfl) rfl
set_option maxRecDepth 20000 in
theorem wd_359 : Cond.fieldLink RX9 28 "OtherName" "folk" "LOtherName$Folk;" ∈ am_tb := am_tb_of (List.mem_of_getElem? (i := 359) rfl) rfl
set_option maxRecDepth 20000 in
theorem wd_360 : Cond.fieldLink RX9 37 "OtherName" "names" "LOtherName$Names;" ∈ am_tb := am_tb_of (List.mem_of_getElem? (i := 360) rfl) rfl
set_option maxRecDepth 20000 in
theorem wd_361 : Cond.fieldLink RX9 46 "OtherName" "mending" "LOtherName$Mending;" ∈ am_tb := am_tb_of (List.mem_of_getElem? (i := 361) rfl) rfl
set_option maxRecDepth 20000 in
theorem wd_362 : Cond.fieldLink RX9 53 "OtherName" "guessing" "LOtherName$Guessing;" ∈ am_tb := am_tb_of (List.mem_of_getElem? (i := 362) rfl) rfl
set_option maxRecDepth 20000 in
theorem wd_363 : Cond.fieldLink RX9 60 "OtherName" "lawSearch" "LOtherName$LawSearch;" ∈ am_tb := am_tb_of (List.mem_of_getElem? (i := 363) rfl) rfl
set_option maxRecDepth 20000 in
theorem wd_364 : Cond.fieldLink RX9 67 "OtherName" "pairs" "LOtherName$Couples;" ∈ am_tb := am_tb_of (List.mem_of_getElem? (i := 364) rfl) rfl
set_option maxRecDepth 20000 in
theorem wd_365 : Cond.fieldLink RX9 74 "OtherName" "kept" "LOtherName$Image;" ∈ am_tb := am_tb_of (List.mem_of_getElem? (i := 365) rfl) rfl
set_option maxRecDepth 20000 in
theorem wd_742 : Cond.classLink RL 10 RX10 ∈ am_tb := am_tb_of (List.mem_of_getElem? (i := 742) rfl) rfl
set_option maxRecDepth 20000 in
theorem wd_743 : Cond.instantiable RX10 36 ∈ am_tb := am_tb_of (List.mem_of_getElem? (i := 743) rfl) rfl
set_option maxRecDepth 20000 in
theorem wd_744 : Cond.methodLink RL 12 yX10_init ∈ am_tb := am_tb_of (List.mem_of_getElem? (i := 744) rfl) rfl
set_option maxRecDepth 20000 in
theorem wd_745 : Cond.instanceMethod yX10_init ∈ am_tb := am_tb_of (List.mem_of_getElem? (i := 745) rfl) rfl
set_option maxRecDepth 20000 in
theorem wd_746 : Cond.code yX10_init cX10_init 1 none ∈ am_tb := am_tb_of (List.mem_of_getElem? (i := 746) rfl) rfl
set_option maxRecDepth 20000 in
theorem wd_747 : Cond.methodLink RX10 1 objectInit ∈ am_tb := am_tb_of (List.mem_of_getElem? (i := 747) rfl) rfl
set_option maxRecDepth 20000 in
theorem wd_748 : Cond.constant RX10 79 (53248) ∈ am_tb := am_tb_of (List.mem_of_getElem? (i := 748) rfl) rfl
set_option maxRecDepth 20000 in
theorem wd_749 : Cond.fieldLink RX10 7 "OtherNameModel" "page" "[I" ∈ am_tb := am_tb_of (List.mem_of_getElem? (i := 749) rfl) rfl
set_option maxRecDepth 20000 in
theorem wd_751 : Cond.fieldLink RX10 13 "OtherNameModel" "rules" "[I" ∈ am_tb := am_tb_of (List.mem_of_getElem? (i := 751) rfl) rfl
set_option maxRecDepth 20000 in
theorem wd_752 : Cond.fieldLink RX10 16 "OtherNameModel" "readRules" "[I" ∈ am_tb := am_tb_of (List.mem_of_getElem? (i := 752) rfl) rfl
set_option maxRecDepth 20000 in
theorem wd_757 : Cond.fieldLink RX10 19 "OtherNameModel" "kinds" "[I" ∈ am_tb := am_tb_of (List.mem_of_getElem? (i := 757) rfl) rfl
set_option maxRecDepth 20000 in
theorem wd_758 : Cond.fieldLink RX10 22 "OtherNameModel" "sexes" "[I" ∈ am_tb := am_tb_of (List.mem_of_getElem? (i := 758) rfl) rfl
set_option maxRecDepth 20000 in
theorem wd_759 : Cond.fieldLink RX10 25 "OtherNameModel" "fathers" "[I" ∈ am_tb := am_tb_of (List.mem_of_getElem? (i := 759) rfl) rfl
set_option maxRecDepth 20000 in
theorem wd_760 : Cond.fieldLink RX10 28 "OtherNameModel" "mothers" "[I" ∈ am_tb := am_tb_of (List.mem_of_getElem? (i := 760) rfl) rfl
set_option maxRecDepth 20000 in
theorem wd_761 : Cond.fieldLink RX10 31 "OtherNameModel" "told" "[I" ∈ am_tb := am_tb_of (List.mem_of_getElem? (i := 761) rfl) rfl
set_option maxRecDepth 20000 in
theorem wd_762 : Cond.fieldLink RX10 34 "OtherNameModel" "written" "[I" ∈ am_tb := am_tb_of (List.mem_of_getElem? (i := 762) rfl) rfl
set_option maxRecDepth 20000 in
theorem wd_763 : Cond.fieldLink RX10 37 "OtherNameModel" "alive" "[I" ∈ am_tb := am_tb_of (List.mem_of_getElem? (i := 763) rfl) rfl
set_option maxRecDepth 20000 in
theorem wd_764 : Cond.fieldLink RX10 40 "OtherNameModel" "counts" "[I" ∈ am_tb := am_tb_of (List.mem_of_getElem? (i := 764) rfl) rfl
set_option maxRecDepth 20000 in
theorem wd_765 : Cond.fieldLink RX10 43 "OtherNameModel" "names" "[I" ∈ am_tb := am_tb_of (List.mem_of_getElem? (i := 765) rfl) rfl
set_option maxRecDepth 20000 in
theorem wd_766 : Cond.fieldLink RX10 46 "OtherNameModel" "by" "[I" ∈ am_tb := am_tb_of (List.mem_of_getElem? (i := 766) rfl) rfl
set_option maxRecDepth 20000 in
theorem wd_767 : Cond.fieldLink RX10 49 "OtherNameModel" "first" "[I" ∈ am_tb := am_tb_of (List.mem_of_getElem? (i := 767) rfl) rfl
set_option maxRecDepth 20000 in
theorem wd_768 : Cond.fieldLink RX10 52 "OtherNameModel" "law" "[I" ∈ am_tb := am_tb_of (List.mem_of_getElem? (i := 768) rfl) rfl
set_option maxRecDepth 20000 in
theorem wd_769 : Cond.fieldLink RX10 55 "OtherNameModel" "high" "[I" ∈ am_tb := am_tb_of (List.mem_of_getElem? (i := 769) rfl) rfl
set_option maxRecDepth 20000 in
theorem wd_771 : Cond.fieldLink RX10 58 "OtherNameModel" "alone" "[I" ∈ am_tb := am_tb_of (List.mem_of_getElem? (i := 771) rfl) rfl
set_option maxRecDepth 20000 in
theorem wd_772 : Cond.fieldLink RX10 61 "OtherNameModel" "bestNames" "[I" ∈ am_tb := am_tb_of (List.mem_of_getElem? (i := 772) rfl) rfl
set_option maxRecDepth 20000 in
theorem wd_773 : Cond.fieldLink RX10 64 "OtherNameModel" "mayBe" "[I" ∈ am_tb := am_tb_of (List.mem_of_getElem? (i := 773) rfl) rfl
set_option maxRecDepth 20000 in
theorem wd_774 : Cond.fieldLink RX10 67 "OtherNameModel" "open" "[I" ∈ am_tb := am_tb_of (List.mem_of_getElem? (i := 774) rfl) rfl
set_option maxRecDepth 20000 in
theorem wd_775 : Cond.fieldLink RX10 70 "OtherNameModel" "fit" "[I" ∈ am_tb := am_tb_of (List.mem_of_getElem? (i := 775) rfl) rfl
set_option maxRecDepth 20000 in
theorem wd_776 : Cond.fieldLink RX10 73 "OtherNameModel" "stepsOne" "[I" ∈ am_tb := am_tb_of (List.mem_of_getElem? (i := 776) rfl) rfl
set_option maxRecDepth 20000 in
theorem wd_777 : Cond.fieldLink RX10 76 "OtherNameModel" "stepsTwo" "[I" ∈ am_tb := am_tb_of (List.mem_of_getElem? (i := 777) rfl) rfl
set_option maxRecDepth 20000 in
theorem wd_778 : Cond.fieldLink RX10 80 "OtherNameModel" "most" "[I" ∈ am_tb := am_tb_of (List.mem_of_getElem? (i := 778) rfl) rfl
set_option maxRecDepth 20000 in
theorem wd_779 : Cond.fieldLink RX10 83 "OtherNameModel" "mates" "[I" ∈ am_tb := am_tb_of (List.mem_of_getElem? (i := 779) rfl) rfl
set_option maxRecDepth 20000 in
theorem wd_780 : Cond.fieldLink RX10 86 "OtherNameModel" "womenFor" "[I" ∈ am_tb := am_tb_of (List.mem_of_getElem? (i := 780) rfl) rfl
set_option maxRecDepth 20000 in
theorem wd_781 : Cond.fieldLink RX10 92 "OtherNameModel" "keptMany" "I" ∈ am_tb := am_tb_of (List.mem_of_getElem? (i := 781) rfl) rfl
set_option maxRecDepth 20000 in
theorem wd_783 : Cond.fieldLink RX10 89 "OtherNameModel" "keptRows" "[I" ∈ am_tb := am_tb_of (List.mem_of_getElem? (i := 783) rfl) rfl
theorem dX0_init_0 : decode cX0_init 0 = .ok (.aload_n 0, 1) := by decide +kernel
theorem dX0_init_1 : decode cX0_init 1 = .ok (.invokespecial 3, 3) := by decide +kernel
theorem dX0_init_4 : decode cX0_init 4 = .ok (.aload_n 0, 1) := by decide +kernel
theorem dX0_init_5 : decode cX0_init 5 = .ok (.bipush 12, 2) := by decide +kernel
theorem dX0_init_7 : decode cX0_init 7 = .ok (.newarray .int, 2) := by decide +kernel
theorem dX0_init_9 : decode cX0_init 9 = .ok (.putfield 9, 3) := by decide +kernel
theorem dX0_init_12 : decode cX0_init 12 = .ok (.aload_n 0, 1) := by decide +kernel
theorem dX0_init_13 : decode cX0_init 13 = .ok (.bipush 12, 2) := by decide +kernel
theorem dX0_init_15 : decode cX0_init 15 = .ok (.newarray .int, 2) := by decide +kernel
theorem dX0_init_17 : decode cX0_init 17 = .ok (.putfield 15, 3) := by decide +kernel
theorem dX0_init_20 : decode cX0_init 20 = .ok (.aload_n 0, 1) := by decide +kernel
theorem dX0_init_21 : decode cX0_init 21 = .ok (.bipush 12, 2) := by decide +kernel
theorem dX0_init_23 : decode cX0_init 23 = .ok (.newarray .int, 2) := by decide +kernel
theorem dX0_init_25 : decode cX0_init 25 = .ok (.putfield 18, 3) := by decide +kernel
theorem dX0_init_28 : decode cX0_init 28 = .ok (.aload_n 0, 1) := by decide +kernel
theorem dX0_init_29 : decode cX0_init 29 = .ok (.aload_n 1, 1) := by decide +kernel
theorem dX0_init_30 : decode cX0_init 30 = .ok (.putfield 21, 3) := by decide +kernel
theorem dX0_init_33 : decode cX0_init 33 = .ok (.aload_n 0, 1) := by decide +kernel
theorem dX0_init_34 : decode cX0_init 34 = .ok (.aload_n 2, 1) := by decide +kernel
theorem dX0_init_35 : decode cX0_init 35 = .ok (.putfield 25, 3) := by decide +kernel
theorem dX0_init_38 : decode cX0_init 38 = .ok (.return_, 1) := by decide +kernel
theorem dX1_init_0 : decode cX1_init 0 = .ok (.aload_n 0, 1) := by decide +kernel
theorem dX1_init_1 : decode cX1_init 1 = .ok (.invokespecial 3, 3) := by decide +kernel
theorem dX1_init_4 : decode cX1_init 4 = .ok (.aload_n 0, 1) := by decide +kernel
theorem dX1_init_5 : decode cX1_init 5 = .ok (.bipush 12, 2) := by decide +kernel
theorem dX1_init_7 : decode cX1_init 7 = .ok (.newarray .int, 2) := by decide +kernel
theorem dX1_init_9 : decode cX1_init 9 = .ok (.putfield 9, 3) := by decide +kernel
theorem dX1_init_12 : decode cX1_init 12 = .ok (.aload_n 0, 1) := by decide +kernel
theorem dX1_init_13 : decode cX1_init 13 = .ok (.bipush 12, 2) := by decide +kernel
theorem dX1_init_15 : decode cX1_init 15 = .ok (.newarray .int, 2) := by decide +kernel
theorem dX1_init_17 : decode cX1_init 17 = .ok (.putfield 15, 3) := by decide +kernel
theorem dX1_init_20 : decode cX1_init 20 = .ok (.aload_n 0, 1) := by decide +kernel
theorem dX1_init_21 : decode cX1_init 21 = .ok (.bipush 12, 2) := by decide +kernel
theorem dX1_init_23 : decode cX1_init 23 = .ok (.newarray .int, 2) := by decide +kernel
theorem dX1_init_25 : decode cX1_init 25 = .ok (.putfield 18, 3) := by decide +kernel
theorem dX1_init_28 : decode cX1_init 28 = .ok (.aload_n 0, 1) := by decide +kernel
theorem dX1_init_29 : decode cX1_init 29 = .ok (.bipush 12, 2) := by decide +kernel
theorem dX1_init_31 : decode cX1_init 31 = .ok (.newarray .int, 2) := by decide +kernel
theorem dX1_init_33 : decode cX1_init 33 = .ok (.putfield 21, 3) := by decide +kernel
theorem dX1_init_36 : decode cX1_init 36 = .ok (.aload_n 0, 1) := by decide +kernel
theorem dX1_init_37 : decode cX1_init 37 = .ok (.bipush 12, 2) := by decide +kernel
theorem dX1_init_39 : decode cX1_init 39 = .ok (.newarray .boolean, 2) := by decide +kernel
theorem dX1_init_41 : decode cX1_init 41 = .ok (.putfield 24, 3) := by decide +kernel
theorem dX1_init_44 : decode cX1_init 44 = .ok (.aload_n 0, 1) := by decide +kernel
theorem dX1_init_45 : decode cX1_init 45 = .ok (.bipush 12, 2) := by decide +kernel
theorem dX1_init_47 : decode cX1_init 47 = .ok (.newarray .int, 2) := by decide +kernel
theorem dX1_init_49 : decode cX1_init 49 = .ok (.putfield 28, 3) := by decide +kernel
theorem dX1_init_52 : decode cX1_init 52 = .ok (.aload_n 0, 1) := by decide +kernel
theorem dX1_init_53 : decode cX1_init 53 = .ok (.bipush 12, 2) := by decide +kernel
theorem dX1_init_55 : decode cX1_init 55 = .ok (.newarray .int, 2) := by decide +kernel
theorem dX1_init_57 : decode cX1_init 57 = .ok (.putfield 31, 3) := by decide +kernel
theorem dX1_init_60 : decode cX1_init 60 = .ok (.aload_n 0, 1) := by decide +kernel
theorem dX1_init_61 : decode cX1_init 61 = .ok (.bipush 12, 2) := by decide +kernel
theorem dX1_init_63 : decode cX1_init 63 = .ok (.newarray .int, 2) := by decide +kernel
theorem dX1_init_65 : decode cX1_init 65 = .ok (.putfield 34, 3) := by decide +kernel
theorem dX1_init_68 : decode cX1_init 68 = .ok (.aload_n 0, 1) := by decide +kernel
theorem dX1_init_69 : decode cX1_init 69 = .ok (.bipush 12, 2) := by decide +kernel
theorem dX1_init_71 : decode cX1_init 71 = .ok (.newarray .boolean, 2) := by decide +kernel
theorem dX1_init_73 : decode cX1_init 73 = .ok (.putfield 37, 3) := by decide +kernel
theorem dX1_init_76 : decode cX1_init 76 = .ok (.aload_n 0, 1) := by decide +kernel
theorem dX1_init_77 : decode cX1_init 77 = .ok (.sipush 144, 3) := by decide +kernel
theorem dX1_init_80 : decode cX1_init 80 = .ok (.newarray .int, 2) := by decide +kernel
theorem dX1_init_82 : decode cX1_init 82 = .ok (.putfield 40, 3) := by decide +kernel
theorem dX1_init_85 : decode cX1_init 85 = .ok (.return_, 1) := by decide +kernel
theorem dX2_init_0 : decode cX2_init 0 = .ok (.aload_n 0, 1) := by decide +kernel
theorem dX2_init_1 : decode cX2_init 1 = .ok (.invokespecial 3, 3) := by decide +kernel
theorem dX2_init_4 : decode cX2_init 4 = .ok (.aload_n 0, 1) := by decide +kernel
theorem dX2_init_5 : decode cX2_init 5 = .ok (.bipush 12, 2) := by decide +kernel
theorem dX2_init_7 : decode cX2_init 7 = .ok (.newarray .int, 2) := by decide +kernel
theorem dX2_init_9 : decode cX2_init 9 = .ok (.putfield 9, 3) := by decide +kernel
theorem dX2_init_12 : decode cX2_init 12 = .ok (.aload_n 0, 1) := by decide +kernel
theorem dX2_init_13 : decode cX2_init 13 = .ok (.iconst 3, 1) := by decide +kernel
theorem dX2_init_14 : decode cX2_init 14 = .ok (.newarray .int, 2) := by decide +kernel
theorem dX2_init_16 : decode cX2_init 16 = .ok (.putfield 15, 3) := by decide +kernel
theorem dX2_init_19 : decode cX2_init 19 = .ok (.aload_n 0, 1) := by decide +kernel
theorem dX2_init_20 : decode cX2_init 20 = .ok (.iconst 3, 1) := by decide +kernel
theorem dX2_init_21 : decode cX2_init 21 = .ok (.newarray .int, 2) := by decide +kernel
theorem dX2_init_23 : decode cX2_init 23 = .ok (.putfield 18, 3) := by decide +kernel
theorem dX2_init_26 : decode cX2_init 26 = .ok (.aload_n 0, 1) := by decide +kernel
theorem dX2_init_27 : decode cX2_init 27 = .ok (.bipush 12, 2) := by decide +kernel
theorem dX2_init_29 : decode cX2_init 29 = .ok (.newarray .int, 2) := by decide +kernel
theorem dX2_init_31 : decode cX2_init 31 = .ok (.putfield 21, 3) := by decide +kernel
theorem dX2_init_34 : decode cX2_init 34 = .ok (.aload_n 0, 1) := by decide +kernel
theorem dX2_init_35 : decode cX2_init 35 = .ok (.bipush 12, 2) := by decide +kernel
theorem dX2_init_37 : decode cX2_init 37 = .ok (.newarray .int, 2) := by decide +kernel
theorem dX2_init_39 : decode cX2_init 39 = .ok (.putfield 24, 3) := by decide +kernel
theorem dX2_init_42 : decode cX2_init 42 = .ok (.aload_n 0, 1) := by decide +kernel
theorem dX2_init_43 : decode cX2_init 43 = .ok (.aload_n 1, 1) := by decide +kernel
theorem dX2_init_44 : decode cX2_init 44 = .ok (.putfield 27, 3) := by decide +kernel
theorem dX2_init_47 : decode cX2_init 47 = .ok (.aload_n 0, 1) := by decide +kernel
theorem dX2_init_48 : decode cX2_init 48 = .ok (.aload_n 2, 1) := by decide +kernel
theorem dX2_init_49 : decode cX2_init 49 = .ok (.putfield 31, 3) := by decide +kernel
theorem dX2_init_52 : decode cX2_init 52 = .ok (.return_, 1) := by decide +kernel
theorem dX3_init_0 : decode cX3_init 0 = .ok (.aload_n 0, 1) := by decide +kernel
theorem dX3_init_1 : decode cX3_init 1 = .ok (.invokespecial 3, 3) := by decide +kernel
theorem dX3_init_4 : decode cX3_init 4 = .ok (.aload_n 0, 1) := by decide +kernel
theorem dX3_init_5 : decode cX3_init 5 = .ok (.bipush 12, 2) := by decide +kernel
theorem dX3_init_7 : decode cX3_init 7 = .ok (.newarray .int, 2) := by decide +kernel
theorem dX3_init_9 : decode cX3_init 9 = .ok (.putfield 9, 3) := by decide +kernel
theorem dX3_init_12 : decode cX3_init 12 = .ok (.aload_n 0, 1) := by decide +kernel
theorem dX3_init_13 : decode cX3_init 13 = .ok (.bipush 12, 2) := by decide +kernel
theorem dX3_init_15 : decode cX3_init 15 = .ok (.newarray .int, 2) := by decide +kernel
theorem dX3_init_17 : decode cX3_init 17 = .ok (.putfield 15, 3) := by decide +kernel
theorem dX3_init_20 : decode cX3_init 20 = .ok (.aload_n 0, 1) := by decide +kernel
theorem dX3_init_21 : decode cX3_init 21 = .ok (.bipush 12, 2) := by decide +kernel
theorem dX3_init_23 : decode cX3_init 23 = .ok (.newarray .boolean, 2) := by decide +kernel
theorem dX3_init_25 : decode cX3_init 25 = .ok (.putfield 18, 3) := by decide +kernel
theorem dX3_init_28 : decode cX3_init 28 = .ok (.return_, 1) := by decide +kernel
theorem dX4_init_0 : decode cX4_init 0 = .ok (.aload_n 0, 1) := by decide +kernel
theorem dX4_init_1 : decode cX4_init 1 = .ok (.invokespecial 1, 3) := by decide +kernel
theorem dX4_init_4 : decode cX4_init 4 = .ok (.aload_n 0, 1) := by decide +kernel
theorem dX4_init_5 : decode cX4_init 5 = .ok (.iload_n 1, 1) := by decide +kernel
theorem dX4_init_6 : decode cX4_init 6 = .ok (.putfield 7, 3) := by decide +kernel
theorem dX4_init_9 : decode cX4_init 9 = .ok (.aload_n 0, 1) := by decide +kernel
theorem dX4_init_10 : decode cX4_init 10 = .ok (.iload_n 2, 1) := by decide +kernel
theorem dX4_init_11 : decode cX4_init 11 = .ok (.putfield 13, 3) := by decide +kernel
theorem dX4_init_14 : decode cX4_init 14 = .ok (.aload_n 0, 1) := by decide +kernel
theorem dX4_init_15 : decode cX4_init 15 = .ok (.iload_n 3, 1) := by decide +kernel
theorem dX4_init_16 : decode cX4_init 16 = .ok (.putfield 16, 3) := by decide +kernel
theorem dX4_init_19 : decode cX4_init 19 = .ok (.aload_n 0, 1) := by decide +kernel
theorem dX4_init_20 : decode cX4_init 20 = .ok (.iload 4, 2) := by decide +kernel
theorem dX4_init_22 : decode cX4_init 22 = .ok (.putfield 19, 3) := by decide +kernel
theorem dX4_init_25 : decode cX4_init 25 = .ok (.return_, 1) := by decide +kernel
theorem dX5_init_0 : decode cX5_init 0 = .ok (.aload_n 0, 1) := by decide +kernel
theorem dX5_init_1 : decode cX5_init 1 = .ok (.invokespecial 3, 3) := by decide +kernel
theorem dX5_init_4 : decode cX5_init 4 = .ok (.aload_n 0, 1) := by decide +kernel
theorem dX5_init_5 : decode cX5_init 5 = .ok (.new 9, 3) := by decide +kernel
theorem dX5_init_8 : decode cX5_init 8 = .ok (.dup, 1) := by decide +kernel
theorem dX5_init_9 : decode cX5_init 9 = .ok (.iconst (-1), 1) := by decide +kernel
theorem dX5_init_10 : decode cX5_init 10 = .ok (.iconst (-1), 1) := by decide +kernel
theorem dX5_init_11 : decode cX5_init 11 = .ok (.iconst (-1), 1) := by decide +kernel
theorem dX5_init_12 : decode cX5_init 12 = .ok (.iconst (-1), 1) := by decide +kernel
theorem dX5_init_13 : decode cX5_init 13 = .ok (.invokespecial 11, 3) := by decide +kernel
theorem dX5_init_16 : decode cX5_init 16 = .ok (.putfield 14, 3) := by decide +kernel
theorem dX5_init_19 : decode cX5_init 19 = .ok (.aload_n 0, 1) := by decide +kernel
theorem dX5_init_20 : decode cX5_init 20 = .ok (.new 9, 3) := by decide +kernel
theorem dX5_init_23 : decode cX5_init 23 = .ok (.dup, 1) := by decide +kernel
theorem dX5_init_24 : decode cX5_init 24 = .ok (.iconst (-1), 1) := by decide +kernel
theorem dX5_init_25 : decode cX5_init 25 = .ok (.iconst (-1), 1) := by decide +kernel
theorem dX5_init_26 : decode cX5_init 26 = .ok (.iconst (-1), 1) := by decide +kernel
theorem dX5_init_27 : decode cX5_init 27 = .ok (.iconst (-1), 1) := by decide +kernel
theorem dX5_init_28 : decode cX5_init 28 = .ok (.invokespecial 11, 3) := by decide +kernel
theorem dX5_init_31 : decode cX5_init 31 = .ok (.putfield 20, 3) := by decide +kernel
theorem dX5_init_34 : decode cX5_init 34 = .ok (.aload_n 0, 1) := by decide +kernel
theorem dX5_init_35 : decode cX5_init 35 = .ok (.aload_n 1, 1) := by decide +kernel
theorem dX5_init_36 : decode cX5_init 36 = .ok (.putfield 23, 3) := by decide +kernel
theorem dX5_init_39 : decode cX5_init 39 = .ok (.aload_n 0, 1) := by decide +kernel
theorem dX5_init_40 : decode cX5_init 40 = .ok (.aload_n 2, 1) := by decide +kernel
theorem dX5_init_41 : decode cX5_init 41 = .ok (.putfield 27, 3) := by decide +kernel
theorem dX5_init_44 : decode cX5_init 44 = .ok (.return_, 1) := by decide +kernel
theorem dX6_init_0 : decode cX6_init 0 = .ok (.aload_n 0, 1) := by decide +kernel
theorem dX6_init_1 : decode cX6_init 1 = .ok (.invokespecial 3, 3) := by decide +kernel
theorem dX6_init_4 : decode cX6_init 4 = .ok (.aload_n 0, 1) := by decide +kernel
theorem dX6_init_5 : decode cX6_init 5 = .ok (.iconst 4, 1) := by decide +kernel
theorem dX6_init_6 : decode cX6_init 6 = .ok (.newarray .int, 2) := by decide +kernel
theorem dX6_init_8 : decode cX6_init 8 = .ok (.putfield 9, 3) := by decide +kernel
theorem dX6_init_11 : decode cX6_init 11 = .ok (.aload_n 0, 1) := by decide +kernel
theorem dX6_init_12 : decode cX6_init 12 = .ok (.iconst 4, 1) := by decide +kernel
theorem dX6_init_13 : decode cX6_init 13 = .ok (.newarray .int, 2) := by decide +kernel
theorem dX6_init_15 : decode cX6_init 15 = .ok (.putfield 15, 3) := by decide +kernel
theorem dX6_init_18 : decode cX6_init 18 = .ok (.aload_n 0, 1) := by decide +kernel
theorem dX6_init_19 : decode cX6_init 19 = .ok (.bipush 12, 2) := by decide +kernel
theorem dX6_init_21 : decode cX6_init 21 = .ok (.newarray .int, 2) := by decide +kernel
theorem dX6_init_23 : decode cX6_init 23 = .ok (.putfield 18, 3) := by decide +kernel
theorem dX6_init_26 : decode cX6_init 26 = .ok (.aload_n 0, 1) := by decide +kernel
theorem dX6_init_27 : decode cX6_init 27 = .ok (.aload_n 1, 1) := by decide +kernel
theorem dX6_init_28 : decode cX6_init 28 = .ok (.putfield 21, 3) := by decide +kernel
theorem dX6_init_31 : decode cX6_init 31 = .ok (.aload_n 0, 1) := by decide +kernel
theorem dX6_init_32 : decode cX6_init 32 = .ok (.aload_n 2, 1) := by decide +kernel
theorem dX6_init_33 : decode cX6_init 33 = .ok (.putfield 25, 3) := by decide +kernel
theorem dX6_init_36 : decode cX6_init 36 = .ok (.return_, 1) := by decide +kernel
theorem dX7_init_0 : decode cX7_init 0 = .ok (.aload_n 0, 1) := by decide +kernel
theorem dX7_init_1 : decode cX7_init 1 = .ok (.invokespecial 3, 3) := by decide +kernel
theorem dX7_init_4 : decode cX7_init 4 = .ok (.aload_n 0, 1) := by decide +kernel
theorem dX7_init_5 : decode cX7_init 5 = .ok (.bipush 12, 2) := by decide +kernel
theorem dX7_init_7 : decode cX7_init 7 = .ok (.newarray .int, 2) := by decide +kernel
theorem dX7_init_9 : decode cX7_init 9 = .ok (.putfield 9, 3) := by decide +kernel
theorem dX7_init_12 : decode cX7_init 12 = .ok (.aload_n 0, 1) := by decide +kernel
theorem dX7_init_13 : decode cX7_init 13 = .ok (.bipush 12, 2) := by decide +kernel
theorem dX7_init_15 : decode cX7_init 15 = .ok (.newarray .int, 2) := by decide +kernel
theorem dX7_init_17 : decode cX7_init 17 = .ok (.putfield 15, 3) := by decide +kernel
theorem dX7_init_20 : decode cX7_init 20 = .ok (.aload_n 0, 1) := by decide +kernel
theorem dX7_init_21 : decode cX7_init 21 = .ok (.aload_n 1, 1) := by decide +kernel
theorem dX7_init_22 : decode cX7_init 22 = .ok (.putfield 18, 3) := by decide +kernel
theorem dX7_init_25 : decode cX7_init 25 = .ok (.return_, 1) := by decide +kernel
theorem dX8_init_0 : decode cX8_init 0 = .ok (.aload_n 0, 1) := by decide +kernel
theorem dX8_init_1 : decode cX8_init 1 = .ok (.invokespecial 3, 3) := by decide +kernel
theorem dX8_init_4 : decode cX8_init 4 = .ok (.aload_n 0, 1) := by decide +kernel
theorem dX8_init_5 : decode cX8_init 5 = .ok (.bipush 16, 2) := by decide +kernel
theorem dX8_init_7 : decode cX8_init 7 = .ok (.newarray .int, 2) := by decide +kernel
theorem dX8_init_9 : decode cX8_init 9 = .ok (.putfield 9, 3) := by decide +kernel
theorem dX8_init_12 : decode cX8_init 12 = .ok (.return_, 1) := by decide +kernel
theorem dX9_init_0 : decode cX9_init 0 = .ok (.aload_n 0, 1) := by decide +kernel
theorem dX9_init_1 : decode cX9_init 1 = .ok (.invokespecial 1, 3) := by decide +kernel
theorem dX9_init_4 : decode cX9_init 4 = .ok (.aload_n 0, 1) := by decide +kernel
theorem dX9_init_5 : decode cX9_init 5 = .ok (.new 7, 3) := by decide +kernel
theorem dX9_init_8 : decode cX9_init 8 = .ok (.dup, 1) := by decide +kernel
theorem dX9_init_9 : decode cX9_init 9 = .ok (.invokespecial 9, 3) := by decide +kernel
theorem dX9_init_12 : decode cX9_init 12 = .ok (.putfield 10, 3) := by decide +kernel
theorem dX9_init_15 : decode cX9_init 15 = .ok (.aload_n 0, 1) := by decide +kernel
theorem dX9_init_16 : decode cX9_init 16 = .ok (.new 16, 3) := by decide +kernel
theorem dX9_init_19 : decode cX9_init 19 = .ok (.dup, 1) := by decide +kernel
theorem dX9_init_20 : decode cX9_init 20 = .ok (.iconst 0, 1) := by decide +kernel
theorem dX9_init_21 : decode cX9_init 21 = .ok (.iconst 3, 1) := by decide +kernel
theorem dX9_init_22 : decode cX9_init 22 = .ok (.iconst 2, 1) := by decide +kernel
theorem dX9_init_23 : decode cX9_init 23 = .ok (.iconst 1, 1) := by decide +kernel
theorem dX9_init_24 : decode cX9_init 24 = .ok (.invokespecial 18, 3) := by decide +kernel
theorem dX9_init_27 : decode cX9_init 27 = .ok (.putfield 21, 3) := by decide +kernel
theorem dX9_init_30 : decode cX9_init 30 = .ok (.aload_n 0, 1) := by decide +kernel
theorem dX9_init_31 : decode cX9_init 31 = .ok (.new 25, 3) := by decide +kernel
theorem dX9_init_34 : decode cX9_init 34 = .ok (.dup, 1) := by decide +kernel
theorem dX9_init_35 : decode cX9_init 35 = .ok (.invokespecial 27, 3) := by decide +kernel
theorem dX9_init_38 : decode cX9_init 38 = .ok (.putfield 28, 3) := by decide +kernel
theorem dX9_init_41 : decode cX9_init 41 = .ok (.aload_n 0, 1) := by decide +kernel
theorem dX9_init_42 : decode cX9_init 42 = .ok (.new 32, 3) := by decide +kernel
theorem dX9_init_45 : decode cX9_init 45 = .ok (.dup, 1) := by decide +kernel
theorem dX9_init_46 : decode cX9_init 46 = .ok (.aload_n 0, 1) := by decide +kernel
theorem dX9_init_47 : decode cX9_init 47 = .ok (.getfield 28, 3) := by decide +kernel
theorem dX9_init_50 : decode cX9_init 50 = .ok (.invokespecial 34, 3) := by decide +kernel
theorem dX9_init_53 : decode cX9_init 53 = .ok (.putfield 37, 3) := by decide +kernel
theorem dX9_init_56 : decode cX9_init 56 = .ok (.new 32, 3) := by decide +kernel
theorem dX9_init_59 : decode cX9_init 59 = .ok (.dup, 1) := by decide +kernel
theorem dX9_init_60 : decode cX9_init 60 = .ok (.aload_n 0, 1) := by decide +kernel
theorem dX9_init_61 : decode cX9_init 61 = .ok (.getfield 28, 3) := by decide +kernel
theorem dX9_init_64 : decode cX9_init 64 = .ok (.invokespecial 34, 3) := by decide +kernel
theorem dX9_init_67 : decode cX9_init 67 = .ok (.astore_n 1, 1) := by decide +kernel
theorem dX9_init_68 : decode cX9_init 68 = .ok (.aload_n 0, 1) := by decide +kernel
theorem dX9_init_69 : decode cX9_init 69 = .ok (.new 41, 3) := by decide +kernel
theorem dX9_init_72 : decode cX9_init 72 = .ok (.dup, 1) := by decide +kernel
theorem dX9_init_73 : decode cX9_init 73 = .ok (.aload_n 0, 1) := by decide +kernel
theorem dX9_init_74 : decode cX9_init 74 = .ok (.getfield 28, 3) := by decide +kernel
theorem dX9_init_77 : decode cX9_init 77 = .ok (.aload_n 1, 1) := by decide +kernel
theorem dX9_init_78 : decode cX9_init 78 = .ok (.invokespecial 43, 3) := by decide +kernel
theorem dX9_init_81 : decode cX9_init 81 = .ok (.putfield 46, 3) := by decide +kernel
theorem dX9_init_84 : decode cX9_init 84 = .ok (.aload_n 0, 1) := by decide +kernel
theorem dX9_init_85 : decode cX9_init 85 = .ok (.new 50, 3) := by decide +kernel
theorem dX9_init_88 : decode cX9_init 88 = .ok (.dup, 1) := by decide +kernel
theorem dX9_init_89 : decode cX9_init 89 = .ok (.aload_n 0, 1) := by decide +kernel
theorem dX9_init_90 : decode cX9_init 90 = .ok (.getfield 28, 3) := by decide +kernel
theorem dX9_init_93 : decode cX9_init 93 = .ok (.aload_n 1, 1) := by decide +kernel
theorem dX9_init_94 : decode cX9_init 94 = .ok (.invokespecial 52, 3) := by decide +kernel
theorem dX9_init_97 : decode cX9_init 97 = .ok (.putfield 53, 3) := by decide +kernel
theorem dX9_init_100 : decode cX9_init 100 = .ok (.aload_n 0, 1) := by decide +kernel
theorem dX9_init_101 : decode cX9_init 101 = .ok (.new 57, 3) := by decide +kernel
theorem dX9_init_104 : decode cX9_init 104 = .ok (.dup, 1) := by decide +kernel
theorem dX9_init_105 : decode cX9_init 105 = .ok (.aload_n 0, 1) := by decide +kernel
theorem dX9_init_106 : decode cX9_init 106 = .ok (.getfield 28, 3) := by decide +kernel
theorem dX9_init_109 : decode cX9_init 109 = .ok (.aload_n 1, 1) := by decide +kernel
theorem dX9_init_110 : decode cX9_init 110 = .ok (.invokespecial 59, 3) := by decide +kernel
theorem dX9_init_113 : decode cX9_init 113 = .ok (.putfield 60, 3) := by decide +kernel
theorem dX9_init_116 : decode cX9_init 116 = .ok (.aload_n 0, 1) := by decide +kernel
theorem dX9_init_117 : decode cX9_init 117 = .ok (.new 64, 3) := by decide +kernel
theorem dX9_init_120 : decode cX9_init 120 = .ok (.dup, 1) := by decide +kernel
theorem dX9_init_121 : decode cX9_init 121 = .ok (.aload_n 0, 1) := by decide +kernel
theorem dX9_init_122 : decode cX9_init 122 = .ok (.getfield 28, 3) := by decide +kernel
theorem dX9_init_125 : decode cX9_init 125 = .ok (.aload_n 0, 1) := by decide +kernel
theorem dX9_init_126 : decode cX9_init 126 = .ok (.getfield 37, 3) := by decide +kernel
theorem dX9_init_129 : decode cX9_init 129 = .ok (.invokespecial 66, 3) := by decide +kernel
theorem dX9_init_132 : decode cX9_init 132 = .ok (.putfield 67, 3) := by decide +kernel
theorem dX9_init_135 : decode cX9_init 135 = .ok (.aload_n 0, 1) := by decide +kernel
theorem dX9_init_136 : decode cX9_init 136 = .ok (.new 71, 3) := by decide +kernel
theorem dX9_init_139 : decode cX9_init 139 = .ok (.dup, 1) := by decide +kernel
theorem dX9_init_140 : decode cX9_init 140 = .ok (.invokespecial 73, 3) := by decide +kernel
theorem dX9_init_143 : decode cX9_init 143 = .ok (.putfield 74, 3) := by decide +kernel
theorem dX9_init_146 : decode cX9_init 146 = .ok (.return_, 1) := by decide +kernel
theorem dX10_init_0 : decode cX10_init 0 = .ok (.aload_n 0, 1) := by decide +kernel
theorem dX10_init_1 : decode cX10_init 1 = .ok (.invokespecial 1, 3) := by decide +kernel
theorem dX10_init_4 : decode cX10_init 4 = .ok (.aload_n 0, 1) := by decide +kernel
theorem dX10_init_5 : decode cX10_init 5 = .ok (.bipush 16, 2) := by decide +kernel
theorem dX10_init_7 : decode cX10_init 7 = .ok (.newarray .int, 2) := by decide +kernel
theorem dX10_init_9 : decode cX10_init 9 = .ok (.putfield 7, 3) := by decide +kernel
theorem dX10_init_12 : decode cX10_init 12 = .ok (.aload_n 0, 1) := by decide +kernel
theorem dX10_init_13 : decode cX10_init 13 = .ok (.iconst 4, 1) := by decide +kernel
theorem dX10_init_14 : decode cX10_init 14 = .ok (.newarray .int, 2) := by decide +kernel
theorem dX10_init_16 : decode cX10_init 16 = .ok (.putfield 13, 3) := by decide +kernel
theorem dX10_init_19 : decode cX10_init 19 = .ok (.aload_n 0, 1) := by decide +kernel
theorem dX10_init_20 : decode cX10_init 20 = .ok (.iconst 4, 1) := by decide +kernel
theorem dX10_init_21 : decode cX10_init 21 = .ok (.newarray .int, 2) := by decide +kernel
theorem dX10_init_23 : decode cX10_init 23 = .ok (.putfield 16, 3) := by decide +kernel
theorem dX10_init_26 : decode cX10_init 26 = .ok (.aload_n 0, 1) := by decide +kernel
theorem dX10_init_27 : decode cX10_init 27 = .ok (.bipush 12, 2) := by decide +kernel
theorem dX10_init_29 : decode cX10_init 29 = .ok (.newarray .int, 2) := by decide +kernel
theorem dX10_init_31 : decode cX10_init 31 = .ok (.putfield 19, 3) := by decide +kernel
theorem dX10_init_34 : decode cX10_init 34 = .ok (.aload_n 0, 1) := by decide +kernel
theorem dX10_init_35 : decode cX10_init 35 = .ok (.bipush 12, 2) := by decide +kernel
theorem dX10_init_37 : decode cX10_init 37 = .ok (.newarray .int, 2) := by decide +kernel
theorem dX10_init_39 : decode cX10_init 39 = .ok (.putfield 22, 3) := by decide +kernel
theorem dX10_init_42 : decode cX10_init 42 = .ok (.aload_n 0, 1) := by decide +kernel
theorem dX10_init_43 : decode cX10_init 43 = .ok (.bipush 12, 2) := by decide +kernel
theorem dX10_init_45 : decode cX10_init 45 = .ok (.newarray .int, 2) := by decide +kernel
theorem dX10_init_47 : decode cX10_init 47 = .ok (.putfield 25, 3) := by decide +kernel
theorem dX10_init_50 : decode cX10_init 50 = .ok (.aload_n 0, 1) := by decide +kernel
theorem dX10_init_51 : decode cX10_init 51 = .ok (.bipush 12, 2) := by decide +kernel
theorem dX10_init_53 : decode cX10_init 53 = .ok (.newarray .int, 2) := by decide +kernel
theorem dX10_init_55 : decode cX10_init 55 = .ok (.putfield 28, 3) := by decide +kernel
theorem dX10_init_58 : decode cX10_init 58 = .ok (.aload_n 0, 1) := by decide +kernel
theorem dX10_init_59 : decode cX10_init 59 = .ok (.bipush 12, 2) := by decide +kernel
theorem dX10_init_61 : decode cX10_init 61 = .ok (.newarray .int, 2) := by decide +kernel
theorem dX10_init_63 : decode cX10_init 63 = .ok (.putfield 31, 3) := by decide +kernel
theorem dX10_init_66 : decode cX10_init 66 = .ok (.aload_n 0, 1) := by decide +kernel
theorem dX10_init_67 : decode cX10_init 67 = .ok (.bipush 12, 2) := by decide +kernel
theorem dX10_init_69 : decode cX10_init 69 = .ok (.newarray .int, 2) := by decide +kernel
theorem dX10_init_71 : decode cX10_init 71 = .ok (.putfield 34, 3) := by decide +kernel
theorem dX10_init_74 : decode cX10_init 74 = .ok (.aload_n 0, 1) := by decide +kernel
theorem dX10_init_75 : decode cX10_init 75 = .ok (.bipush 12, 2) := by decide +kernel
theorem dX10_init_77 : decode cX10_init 77 = .ok (.newarray .int, 2) := by decide +kernel
theorem dX10_init_79 : decode cX10_init 79 = .ok (.putfield 37, 3) := by decide +kernel
theorem dX10_init_82 : decode cX10_init 82 = .ok (.aload_n 0, 1) := by decide +kernel
theorem dX10_init_83 : decode cX10_init 83 = .ok (.bipush 12, 2) := by decide +kernel
theorem dX10_init_85 : decode cX10_init 85 = .ok (.newarray .int, 2) := by decide +kernel
theorem dX10_init_87 : decode cX10_init 87 = .ok (.putfield 40, 3) := by decide +kernel
theorem dX10_init_90 : decode cX10_init 90 = .ok (.aload_n 0, 1) := by decide +kernel
theorem dX10_init_91 : decode cX10_init 91 = .ok (.bipush 12, 2) := by decide +kernel
theorem dX10_init_93 : decode cX10_init 93 = .ok (.newarray .int, 2) := by decide +kernel
theorem dX10_init_95 : decode cX10_init 95 = .ok (.putfield 43, 3) := by decide +kernel
theorem dX10_init_98 : decode cX10_init 98 = .ok (.aload_n 0, 1) := by decide +kernel
theorem dX10_init_99 : decode cX10_init 99 = .ok (.bipush 12, 2) := by decide +kernel
theorem dX10_init_101 : decode cX10_init 101 = .ok (.newarray .int, 2) := by decide +kernel
theorem dX10_init_103 : decode cX10_init 103 = .ok (.putfield 46, 3) := by decide +kernel
theorem dX10_init_106 : decode cX10_init 106 = .ok (.aload_n 0, 1) := by decide +kernel
theorem dX10_init_107 : decode cX10_init 107 = .ok (.bipush 12, 2) := by decide +kernel
theorem dX10_init_109 : decode cX10_init 109 = .ok (.newarray .int, 2) := by decide +kernel
theorem dX10_init_111 : decode cX10_init 111 = .ok (.putfield 49, 3) := by decide +kernel
theorem dX10_init_114 : decode cX10_init 114 = .ok (.aload_n 0, 1) := by decide +kernel
theorem dX10_init_115 : decode cX10_init 115 = .ok (.iconst 4, 1) := by decide +kernel
theorem dX10_init_116 : decode cX10_init 116 = .ok (.newarray .int, 2) := by decide +kernel
theorem dX10_init_118 : decode cX10_init 118 = .ok (.putfield 52, 3) := by decide +kernel
theorem dX10_init_121 : decode cX10_init 121 = .ok (.aload_n 0, 1) := by decide +kernel
theorem dX10_init_122 : decode cX10_init 122 = .ok (.bipush 12, 2) := by decide +kernel
theorem dX10_init_124 : decode cX10_init 124 = .ok (.newarray .int, 2) := by decide +kernel
theorem dX10_init_126 : decode cX10_init 126 = .ok (.putfield 55, 3) := by decide +kernel
theorem dX10_init_129 : decode cX10_init 129 = .ok (.aload_n 0, 1) := by decide +kernel
theorem dX10_init_130 : decode cX10_init 130 = .ok (.bipush 12, 2) := by decide +kernel
theorem dX10_init_132 : decode cX10_init 132 = .ok (.newarray .int, 2) := by decide +kernel
theorem dX10_init_134 : decode cX10_init 134 = .ok (.putfield 58, 3) := by decide +kernel
theorem dX10_init_137 : decode cX10_init 137 = .ok (.aload_n 0, 1) := by decide +kernel
theorem dX10_init_138 : decode cX10_init 138 = .ok (.iconst 4, 1) := by decide +kernel
theorem dX10_init_139 : decode cX10_init 139 = .ok (.newarray .int, 2) := by decide +kernel
theorem dX10_init_141 : decode cX10_init 141 = .ok (.putfield 61, 3) := by decide +kernel
theorem dX10_init_144 : decode cX10_init 144 = .ok (.aload_n 0, 1) := by decide +kernel
theorem dX10_init_145 : decode cX10_init 145 = .ok (.bipush 12, 2) := by decide +kernel
theorem dX10_init_147 : decode cX10_init 147 = .ok (.newarray .int, 2) := by decide +kernel
theorem dX10_init_149 : decode cX10_init 149 = .ok (.putfield 64, 3) := by decide +kernel
theorem dX10_init_152 : decode cX10_init 152 = .ok (.aload_n 0, 1) := by decide +kernel
theorem dX10_init_153 : decode cX10_init 153 = .ok (.iconst 3, 1) := by decide +kernel
theorem dX10_init_154 : decode cX10_init 154 = .ok (.newarray .int, 2) := by decide +kernel
theorem dX10_init_156 : decode cX10_init 156 = .ok (.putfield 67, 3) := by decide +kernel
theorem dX10_init_159 : decode cX10_init 159 = .ok (.aload_n 0, 1) := by decide +kernel
theorem dX10_init_160 : decode cX10_init 160 = .ok (.iconst 4, 1) := by decide +kernel
theorem dX10_init_161 : decode cX10_init 161 = .ok (.newarray .int, 2) := by decide +kernel
theorem dX10_init_163 : decode cX10_init 163 = .ok (.putfield 70, 3) := by decide +kernel
theorem dX10_init_166 : decode cX10_init 166 = .ok (.aload_n 0, 1) := by decide +kernel
theorem dX10_init_167 : decode cX10_init 167 = .ok (.bipush 12, 2) := by decide +kernel
theorem dX10_init_169 : decode cX10_init 169 = .ok (.newarray .int, 2) := by decide +kernel
theorem dX10_init_171 : decode cX10_init 171 = .ok (.putfield 73, 3) := by decide +kernel
theorem dX10_init_174 : decode cX10_init 174 = .ok (.aload_n 0, 1) := by decide +kernel
theorem dX10_init_175 : decode cX10_init 175 = .ok (.bipush 12, 2) := by decide +kernel
theorem dX10_init_177 : decode cX10_init 177 = .ok (.newarray .int, 2) := by decide +kernel
theorem dX10_init_179 : decode cX10_init 179 = .ok (.putfield 76, 3) := by decide +kernel
theorem dX10_init_182 : decode cX10_init 182 = .ok (.aload_n 0, 1) := by decide +kernel
theorem dX10_init_183 : decode cX10_init 183 = .ok (.ldc 79, 2) := by decide +kernel
theorem dX10_init_185 : decode cX10_init 185 = .ok (.newarray .int, 2) := by decide +kernel
theorem dX10_init_187 : decode cX10_init 187 = .ok (.putfield 80, 3) := by decide +kernel
theorem dX10_init_190 : decode cX10_init 190 = .ok (.aload_n 0, 1) := by decide +kernel
theorem dX10_init_191 : decode cX10_init 191 = .ok (.bipush 12, 2) := by decide +kernel
theorem dX10_init_193 : decode cX10_init 193 = .ok (.newarray .int, 2) := by decide +kernel
theorem dX10_init_195 : decode cX10_init 195 = .ok (.putfield 83, 3) := by decide +kernel
theorem dX10_init_198 : decode cX10_init 198 = .ok (.aload_n 0, 1) := by decide +kernel
theorem dX10_init_199 : decode cX10_init 199 = .ok (.bipush 12, 2) := by decide +kernel
theorem dX10_init_201 : decode cX10_init 201 = .ok (.newarray .int, 2) := by decide +kernel
theorem dX10_init_203 : decode cX10_init 203 = .ok (.putfield 86, 3) := by decide +kernel
theorem dX10_init_206 : decode cX10_init 206 = .ok (.aload_n 0, 1) := by decide +kernel
theorem dX10_init_207 : decode cX10_init 207 = .ok (.bipush 36, 2) := by decide +kernel
theorem dX10_init_209 : decode cX10_init 209 = .ok (.newarray .int, 2) := by decide +kernel
theorem dX10_init_211 : decode cX10_init 211 = .ok (.putfield 89, 3) := by decide +kernel
theorem dX10_init_214 : decode cX10_init 214 = .ok (.aload_n 0, 1) := by decide +kernel
theorem dX10_init_215 : decode cX10_init 215 = .ok (.iconst (-1), 1) := by decide +kernel
theorem dX10_init_216 : decode cX10_init 216 = .ok (.putfield 92, 3) := by decide +kernel
theorem dX10_init_219 : decode cX10_init 219 = .ok (.aload_n 0, 1) := by decide +kernel
theorem dX10_init_220 : decode cX10_init 220 = .ok (.getfield 13, 3) := by decide +kernel
theorem dX10_init_223 : decode cX10_init 223 = .ok (.iconst 0, 1) := by decide +kernel
theorem dX10_init_224 : decode cX10_init 224 = .ok (.iconst 0, 1) := by decide +kernel
theorem dX10_init_225 : decode cX10_init 225 = .ok (.iastore, 1) := by decide +kernel
theorem dX10_init_226 : decode cX10_init 226 = .ok (.aload_n 0, 1) := by decide +kernel
theorem dX10_init_227 : decode cX10_init 227 = .ok (.getfield 13, 3) := by decide +kernel
theorem dX10_init_230 : decode cX10_init 230 = .ok (.iconst 1, 1) := by decide +kernel
theorem dX10_init_231 : decode cX10_init 231 = .ok (.iconst 3, 1) := by decide +kernel
theorem dX10_init_232 : decode cX10_init 232 = .ok (.iastore, 1) := by decide +kernel
theorem dX10_init_233 : decode cX10_init 233 = .ok (.aload_n 0, 1) := by decide +kernel
theorem dX10_init_234 : decode cX10_init 234 = .ok (.getfield 13, 3) := by decide +kernel
theorem dX10_init_237 : decode cX10_init 237 = .ok (.iconst 2, 1) := by decide +kernel
theorem dX10_init_238 : decode cX10_init 238 = .ok (.iconst 2, 1) := by decide +kernel
theorem dX10_init_239 : decode cX10_init 239 = .ok (.iastore, 1) := by decide +kernel
theorem dX10_init_240 : decode cX10_init 240 = .ok (.aload_n 0, 1) := by decide +kernel
theorem dX10_init_241 : decode cX10_init 241 = .ok (.getfield 13, 3) := by decide +kernel
theorem dX10_init_244 : decode cX10_init 244 = .ok (.iconst 3, 1) := by decide +kernel
theorem dX10_init_245 : decode cX10_init 245 = .ok (.iconst 1, 1) := by decide +kernel
theorem dX10_init_246 : decode cX10_init 246 = .ok (.iastore, 1) := by decide +kernel
theorem dX10_init_247 : decode cX10_init 247 = .ok (.return_, 1) := by decide +kernel
