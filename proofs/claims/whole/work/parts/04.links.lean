def yJD_doubleToRawLongBits : MethodName := ⟨"java/lang/Double", "doubleToRawLongBits", "(D)J"⟩
abbrev RJD : String := "java/lang/Double"
abbrev cJD_isNaN : ByteArray := cJxe99ae_isNaN_b9ae7
abbrev yJD_isNaN : MethodName := yJxe99ae_isNaN_b9ae7
abbrev cJD_doubleToLongBits : ByteArray := cJxe99ae_doubleToLongBits_ccdee
abbrev yJD_doubleToLongBits : MethodName := yJxe99ae_doubleToLongBits_ccdee
theorem q_0 : Cond.selects RX4 yX4_codeAt yX4_codeAt ∈ BG := bg 0 (by decide +kernel) rfl
theorem q_1 : Cond.selects RX3 yX3_topUp yX3_topUp ∈ BG := bg 1 (by decide +kernel) rfl
theorem q_2 : Cond.selects RX3 yX3_hand yX3_hand ∈ BG := bg 2 (by decide +kernel) rfl
theorem q_4 : Cond.selects RX0 yX0_areAlike yX0_areAlike ∈ BG := bg 4 (by decide +kernel) rfl
theorem q_5 : Cond.selects RX4 yX4_withKind yX4_withKind ∈ BG := bg 5 (by decide +kernel) rfl
theorem q_6 : Cond.selects RX4 yX4_withComplaint yX4_withComplaint ∈ BG := bg 6 (by decide +kernel) rfl
theorem q_7 : Cond.selects RX4 yX4_withBuffer yX4_withBuffer ∈ BG := bg 7 (by decide +kernel) rfl
theorem q_8 : Cond.selects RX4 yX4_save yX4_save ∈ BG := bg 8 (by decide +kernel) rfl
theorem q_9 : Cond.selects RX4 yX4_savedAt yX4_savedAt ∈ BG := bg 9 (by decide +kernel) rfl
theorem q_10 : Cond.selects RX4 yX4_digitAt yX4_digitAt ∈ BG := bg 10 (by decide +kernel) rfl
theorem q_11 : Cond.selects RX5 yX5_fails yX5_fails ∈ BG := bg 11 (by decide +kernel) rfl
theorem q_12 : Cond.selects RX5 yX5_save yX5_save ∈ BG := bg 12 (by decide +kernel) rfl
theorem q_13 : Cond.selects RX5 yX5_isAmends yX5_isAmends ∈ BG := bg 13 (by decide +kernel) rfl
theorem q_14 : Cond.selects RX5 yX5_isOffered yX5_isOffered ∈ BG := bg 14 (by decide +kernel) rfl
theorem q_15 : Cond.selects RX5 yX5_offered yX5_offered ∈ BG := bg 15 (by decide +kernel) rfl
theorem q_16 : Cond.selects RX5 yX5_complainNow yX5_complainNow ∈ BG := bg 16 (by decide +kernel) rfl
theorem q_17 : Cond.selects RX5 yX5_isComplaint yX5_isComplaint ∈ BG := bg 17 (by decide +kernel) rfl
theorem q_18 : Cond.selects RX5 yX5_whyDecided yX5_whyDecided ∈ BG := bg 18 (by decide +kernel) rfl
theorem q_19 : Cond.selects RX5 yX5_fits yX5_fits ∈ BG := bg 19 (by decide +kernel) rfl
theorem q_20 : Cond.selects RX5 yX5_binds yX5_binds ∈ BG := bg 20 (by decide +kernel) rfl
theorem q_21 : Cond.selects RX5 yX5_latest yX5_latest ∈ BG := bg 21 (by decide +kernel) rfl
theorem q_22 : Cond.selects RX5 yX5_cost yX5_cost ∈ BG := bg 22 (by decide +kernel) rfl
theorem q_23 : Cond.selects RX5 yX5_left yX5_left ∈ BG := bg 23 (by decide +kernel) rfl
theorem q_24 : Cond.selects RX5 yX5_give yX5_give ∈ BG := bg 24 (by decide +kernel) rfl
theorem q_25 : Cond.selects RX5 yX5_setPrecedent yX5_setPrecedent ∈ BG := bg 25 (by decide +kernel) rfl
theorem q_26 : Cond.selects RX5 yX5_staged yX5_staged ∈ BG := bg 26 (by decide +kernel) rfl
theorem q_27 : Cond.selects RX5 yX5_whyJudged yX5_whyJudged ∈ BG := bg 27 (by decide +kernel) rfl
theorem q_28 : Cond.selects RX5 yX5_judgeNow yX5_judgeNow ∈ BG := bg 28 (by decide +kernel) rfl
theorem q_29 : Cond.selects RX5 yX5_topUps yX5_topUps ∈ BG := bg 29 (by decide +kernel) rfl
theorem q_30 : Cond.selects RX5 yX5_waitsFor yX5_waitsFor ∈ BG := bg 30 (by decide +kernel) rfl
theorem q_31 : Cond.selects RX5 yX5_closeNow yX5_closeNow ∈ BG := bg 31 (by decide +kernel) rfl
theorem q_32 : Cond.selects RX5 yX5_isText yX5_isText ∈ BG := bg 32 (by decide +kernel) rfl
theorem q_33 : Cond.selects RX5 yX5_isOne yX5_isOne ∈ BG := bg 33 (by decide +kernel) rfl
theorem q_34 : Cond.selects RX5 yX5_takes yX5_takes ∈ BG := bg 34 (by decide +kernel) rfl
theorem q_35 : Cond.selects RX5 yX5_digit yX5_digit ∈ BG := bg 35 (by decide +kernel) rfl
theorem q_36 : Cond.selects RX5 yX5_complaintOf yX5_complaintOf ∈ BG := bg 36 (by decide +kernel) rfl
theorem q_37 : Cond.selects RX5 yX5_amendsOf yX5_amendsOf ∈ BG := bg 37 (by decide +kernel) rfl
theorem q_38 : Cond.selects RX5 yX5_having yX5_having ∈ BG := bg 38 (by decide +kernel) rfl
theorem q_39 : Cond.selects RX5 yX5_precedentOf yX5_precedentOf ∈ BG := bg 39 (by decide +kernel) rfl
theorem q_40 : Cond.selects RX5 yX5_following yX5_following ∈ BG := bg 40 (by decide +kernel) rfl
theorem q_41 : Cond.selects RX5 yX5_kindOf yX5_kindOf ∈ BG := bg 41 (by decide +kernel) rfl
theorem q_42 : Cond.selects RX5 yX5_ofComplaints yX5_ofComplaints ∈ BG := bg 42 (by decide +kernel) rfl
theorem q_43 : Cond.selects RX5 yX5_counted yX5_counted ∈ BG := bg 43 (by decide +kernel) rfl
theorem q_44 : Cond.selects RX5 yX5_departing yX5_departing ∈ BG := bg 44 (by decide +kernel) rfl
theorem q_45 : Cond.selects RX5 yX5_unequal yX5_unequal ∈ BG := bg 45 (by decide +kernel) rfl
theorem q_46 : Cond.selects RX5 yX5_customerAt yX5_customerAt ∈ BG := bg 46 (by decide +kernel) rfl
theorem q_47 : Cond.selects RX5 yX5_why yX5_why ∈ BG := bg 47 (by decide +kernel) rfl
theorem q_48 : Cond.selects RX5 yX5_fairOf yX5_fairOf ∈ BG := bg 48 (by decide +kernel) rfl
theorem q_49 : Cond.selects RX5 yX5_judgedOf yX5_judgedOf ∈ BG := bg 49 (by decide +kernel) rfl
theorem q_50 : Cond.selects RX5 yX5_putAside yX5_putAside ∈ BG := bg 50 (by decide +kernel) rfl
theorem q_51 : Cond.selects RX5 yX5_putBack yX5_putBack ∈ BG := bg 51 (by decide +kernel) rfl
theorem q_52 : Cond.selects RX5 yX5_monthsOf yX5_monthsOf ∈ BG := bg 52 (by decide +kernel) rfl
theorem q_53 : Cond.selects RX5 yX5_shareOf yX5_shareOf ∈ BG := bg 53 (by decide +kernel) rfl
theorem q_54 : Cond.selects RX5 yX5_mix yX5_mix ∈ BG := bg 54 (by decide +kernel) rfl
theorem q_55 : Cond.selects RX5 yX5_mixKind yX5_mixKind ∈ BG := bg 55 (by decide +kernel) rfl
theorem q_56 : Cond.selects RX5 yX5_mixComplaint yX5_mixComplaint ∈ BG := bg 56 (by decide +kernel) rfl
theorem q_58 : Cond.initialized RX4 ∈ BG := bg 58 (by decide +kernel) rfl
theorem q_59 : Cond.initialized RX3 ∈ BG := bg 59 (by decide +kernel) rfl
theorem q_60 : Cond.initialized RX1 ∈ BG := bg 60 (by decide +kernel) rfl
theorem q_61 : Cond.initialized RX0 ∈ BG := bg 61 (by decide +kernel) rfl
theorem q_62 : Cond.initialized RX2 ∈ BG := bg 62 (by decide +kernel) rfl
theorem q_64 : Cond.initialized "java/lang/Math" ∈ BG := bg 64 (by decide +kernel) rfl
theorem q_65 : Cond.initialized "java/lang/System" ∈ BG := bg 65 (by decide +kernel) rfl
theorem q_66 : Cond.initialized RX5 ∈ BG := bg 66 (by decide +kernel) rfl
theorem q_70 : Cond.initialized "java/lang/IndexOutOfBoundsException" ∈ BG := bg 70 (by decide +kernel) rfl
theorem q_71 : Cond.initialized "java/lang/IllegalArgumentException" ∈ BG := bg 71 (by decide +kernel) rfl
theorem q_72 : Cond.initialized "java/lang/IllegalStateException" ∈ BG := bg 72 (by decide +kernel) rfl
theorem q_74 : Cond.initialized RJD ∈ BG := bg 74 (by decide +kernel) rfl
theorem q_95 : Cond.fieldLink RX1 9 "AmendsLedger$Menus" "sizes" "[I" ∈ BG := bg 95 (by decide +kernel) rfl
theorem q_96 : Cond.fieldLink RX1 15 "AmendsLedger$Menus" "costs" "[I" ∈ BG := bg 96 (by decide +kernel) rfl
theorem q_97 : Cond.fieldLink RX1 18 "AmendsLedger$Menus" "leasts" "[I" ∈ BG := bg 97 (by decide +kernel) rfl
theorem q_98 : Cond.fieldLink RX1 21 "AmendsLedger$Menus" "mosts" "[I" ∈ BG := bg 98 (by decide +kernel) rfl
theorem q_99 : Cond.fieldLink RX1 24 "AmendsLedger$Menus" "offers" "[I" ∈ BG := bg 99 (by decide +kernel) rfl
theorem q_118 : Cond.fieldLink RX0 39 "AmendsLedger$Complaints" "size" "I" ∈ BG := bg 118 (by decide +kernel) rfl
theorem q_121 : Cond.fieldLink RX0 9 "AmendsLedger$Complaints" "kinds" "[I" ∈ BG := bg 121 (by decide +kernel) rfl
theorem q_122 : Cond.fieldLink RX0 15 "AmendsLedger$Complaints" "severities" "[I" ∈ BG := bg 122 (by decide +kernel) rfl
theorem q_123 : Cond.fieldLink RX0 18 "AmendsLedger$Complaints" "customers" "[I" ∈ BG := bg 123 (by decide +kernel) rfl
theorem q_124 : Cond.fieldLink RX0 21 "AmendsLedger$Complaints" "stages" "[I" ∈ BG := bg 124 (by decide +kernel) rfl
theorem q_125 : Cond.fieldLink RX0 24 "AmendsLedger$Complaints" "amendsHad" "[I" ∈ BG := bg 125 (by decide +kernel) rfl
theorem q_126 : Cond.fieldLink RX0 27 "AmendsLedger$Complaints" "got" "[I" ∈ BG := bg 126 (by decide +kernel) rfl
theorem q_127 : Cond.fieldLink RX0 30 "AmendsLedger$Complaints" "reasons" "[I" ∈ BG := bg 127 (by decide +kernel) rfl
theorem q_128 : Cond.fieldLink RX0 33 "AmendsLedger$Complaints" "months" "[I" ∈ BG := bg 128 (by decide +kernel) rfl
theorem q_129 : Cond.fieldLink RX0 36 "AmendsLedger$Complaints" "followed" "[I" ∈ BG := bg 129 (by decide +kernel) rfl
theorem q_160 : Cond.fieldLink RX2 30 "AmendsLedger$Precedents" "size" "I" ∈ BG := bg 160 (by decide +kernel) rfl
theorem q_162 : Cond.fieldLink RX2 9 "AmendsLedger$Precedents" "amendsHeld" "[I" ∈ BG := bg 162 (by decide +kernel) rfl
theorem q_163 : Cond.fieldLink RX2 15 "AmendsLedger$Precedents" "months" "[I" ∈ BG := bg 163 (by decide +kernel) rfl
theorem q_164 : Cond.fieldLink RX2 18 "AmendsLedger$Precedents" "setters" "[I" ∈ BG := bg 164 (by decide +kernel) rfl
theorem q_165 : Cond.fieldLink RX2 21 "AmendsLedger$Precedents" "latest" "[I" ∈ BG := bg 165 (by decide +kernel) rfl
theorem q_180 : Cond.static yX4_copyAll ∈ BG := bg 180 (by decide +kernel) rfl
theorem q_181 : Cond.code yX4_copyAll cX4_copyAll 2 none ∈ BG := bg 181 (by decide +kernel) rfl
theorem q_182 : Cond.methodLink RX4 327 Lib.Math.min.name ∈ BG := bg 182 (by decide +kernel) rfl
theorem q_183 : Cond.static Lib.Math.min.name ∈ BG := bg 183 (by decide +kernel) rfl
theorem q_184 : Cond.code Lib.Math.min.name Lib.Math.min.code 2 (some .int) ∈ BG := bg 184 (by decide +kernel) rfl
theorem q_185 : Cond.methodLink RX4 332 ⟨"java/lang/System", "arraycopy", "(Ljava/lang/Object;ILjava/lang/Object;II)V"⟩ ∈ BG := bg 185 (by decide +kernel) rfl
theorem q_186 : Cond.static ⟨"java/lang/System", "arraycopy", "(Ljava/lang/Object;ILjava/lang/Object;II)V"⟩ ∈ BG := bg 186 (by decide +kernel) rfl
theorem q_187 : Cond.native ⟨"java/lang/System", "arraycopy", "(Ljava/lang/Object;ILjava/lang/Object;II)V"⟩ ∈ BG := bg 187 (by decide +kernel) rfl
theorem q_189 : Cond.fieldLink RX3 12 "AmendsLedger$State" "menus" "LAmendsLedger$Menus;" ∈ BG := bg 189 (by decide +kernel) rfl
theorem q_191 : Cond.fieldLink RX3 21 "AmendsLedger$State" "complaints" "LAmendsLedger$Complaints;" ∈ BG := bg 191 (by decide +kernel) rfl
theorem q_193 : Cond.fieldLink RX3 28 "AmendsLedger$State" "precedents" "LAmendsLedger$Precedents;" ∈ BG := bg 193 (by decide +kernel) rfl
theorem q_195 : Cond.fieldLink RX3 32 "AmendsLedger$State" "settings" "[I" ∈ BG := bg 195 (by decide +kernel) rfl
theorem q_196 : Cond.fieldLink RX3 36 "AmendsLedger$State" "bases" "[I" ∈ BG := bg 196 (by decide +kernel) rfl
theorem q_197 : Cond.fieldLink RX3 39 "AmendsLedger$State" "budgets" "[I" ∈ BG := bg 197 (by decide +kernel) rfl
theorem q_198 : Cond.fieldLink RX3 42 "AmendsLedger$State" "spent" "[I" ∈ BG := bg 198 (by decide +kernel) rfl
theorem q_199 : Cond.fieldLink RX3 68 "AmendsLedger$State" "month" "I" ∈ BG := bg 199 (by decide +kernel) rfl
theorem q_219 : Cond.fieldLink RX4 10 "AmendsLedger" "now" "LAmendsLedger$State;" ∈ BG := bg 219 (by decide +kernel) rfl
theorem q_220 : Cond.fieldLink RX4 16 "AmendsLedger" "trial" "LAmendsLedger$State;" ∈ BG := bg 220 (by decide +kernel) rfl
theorem q_221 : Cond.fieldLink RX4 19 "AmendsLedger" "saved" "[LAmendsLedger$State;" ∈ BG := bg 221 (by decide +kernel) rfl
theorem q_222 : Cond.fieldLink RX4 147 "AmendsLedger" "savedCount" "I" ∈ BG := bg 222 (by decide +kernel) rfl
theorem q_223 : Cond.fieldLink RX4 150 "AmendsLedger" "savedNext" "I" ∈ BG := bg 223 (by decide +kernel) rfl
theorem q_224 : Cond.fieldLink RX4 23 "AmendsLedger" "buffer" "[I" ∈ BG := bg 224 (by decide +kernel) rfl
theorem q_225 : Cond.fieldLink RX4 132 "AmendsLedger" "length" "I" ∈ BG := bg 225 (by decide +kernel) rfl
theorem q_246 : Cond.instanceMethod yX4_firstError ∈ BG := bg 246 (by decide +kernel) rfl
theorem q_247 : Cond.selects RX4 yX4_firstError yX4_firstError ∈ BG := bg 247 (by decide +kernel) rfl
theorem q_248 : Cond.code yX4_firstError cX4_firstError 2 (some .int) ∈ BG := bg 248 (by decide +kernel) rfl
theorem q_249 : Cond.methodLink RX4 135 yX4_codeAt ∈ BG := bg 249 (by decide +kernel) rfl
theorem q_251 : Cond.instanceMethod yX4_codeAt ∈ BG := bg 251 (by decide +kernel) rfl
theorem q_252 : Cond.code yX4_codeAt cX4_codeAt 2 (some .int) ∈ BG := bg 252 (by decide +kernel) rfl
theorem q_253 : Cond.methodLink RX4 35 yX4_isWithin ∈ BG := bg 253 (by decide +kernel) rfl
theorem q_254 : Cond.static yX4_isWithin ∈ BG := bg 254 (by decide +kernel) rfl
theorem q_255 : Cond.code yX4_isWithin cX4_isWithin 3 (some .boolean) ∈ BG := bg 255 (by decide +kernel) rfl
theorem q_256 : Cond.methodLink RX4 138 yX4_fitsPlace ∈ BG := bg 256 (by decide +kernel) rfl
theorem q_257 : Cond.static yX4_fitsPlace ∈ BG := bg 257 (by decide +kernel) rfl
theorem q_258 : Cond.code yX4_fitsPlace cX4_fitsPlace 2 (some .boolean) ∈ BG := bg 258 (by decide +kernel) rfl
theorem q_260 : Cond.instanceMethod yX4_monthsToEqual ∈ BG := bg 260 (by decide +kernel) rfl
theorem q_261 : Cond.selects RX4 yX4_monthsToEqual yX4_monthsToEqual ∈ BG := bg 261 (by decide +kernel) rfl
theorem q_262 : Cond.code yX4_monthsToEqual cX4_monthsToEqual 2 (some .int) ∈ BG := bg 262 (by decide +kernel) rfl
theorem q_263 : Cond.methodLink RX4 228 yX3_waiting ∈ BG := bg 263 (by decide +kernel) rfl
theorem q_264 : Cond.instanceMethod yX3_waiting ∈ BG := bg 264 (by decide +kernel) rfl
theorem q_265 : Cond.selects RX3 yX3_waiting yX3_waiting ∈ BG := bg 265 (by decide +kernel) rfl
theorem q_266 : Cond.code yX3_waiting cX3_waiting 3 (some .int) ∈ BG := bg 266 (by decide +kernel) rfl
theorem q_267 : Cond.methodLink RX3 177 yX3_owedTo ∈ BG := bg 267 (by decide +kernel) rfl
theorem q_268 : Cond.instanceMethod yX3_owedTo ∈ BG := bg 268 (by decide +kernel) rfl
theorem q_269 : Cond.selects RX3 yX3_owedTo yX3_owedTo ∈ BG := bg 269 (by decide +kernel) rfl
theorem q_270 : Cond.code yX3_owedTo cX3_owedTo 4 (some .int) ∈ BG := bg 270 (by decide +kernel) rfl
theorem q_271 : Cond.methodLink RX3 115 yX0_followedBy ∈ BG := bg 271 (by decide +kernel) rfl
theorem q_272 : Cond.instanceMethod yX0_followedBy ∈ BG := bg 272 (by decide +kernel) rfl
theorem q_273 : Cond.selects RX0 yX0_followedBy yX0_followedBy ∈ BG := bg 273 (by decide +kernel) rfl
theorem q_274 : Cond.code yX0_followedBy cX0_followedBy 2 (some .int) ∈ BG := bg 274 (by decide +kernel) rfl
theorem q_275 : Cond.methodLink RX0 47 yX0_has ∈ BG := bg 275 (by decide +kernel) rfl
theorem q_276 : Cond.instanceMethod yX0_has ∈ BG := bg 276 (by decide +kernel) rfl
theorem q_277 : Cond.selects RX0 yX0_has yX0_has ∈ BG := bg 277 (by decide +kernel) rfl
theorem q_278 : Cond.code yX0_has cX0_has 2 (some .boolean) ∈ BG := bg 278 (by decide +kernel) rfl
theorem q_279 : Cond.methodLink RX3 86 yX2_has ∈ BG := bg 279 (by decide +kernel) rfl
theorem q_280 : Cond.instanceMethod yX2_has ∈ BG := bg 280 (by decide +kernel) rfl
theorem q_281 : Cond.selects RX2 yX2_has yX2_has ∈ BG := bg 281 (by decide +kernel) rfl
theorem q_282 : Cond.code yX2_has cX2_has 2 (some .boolean) ∈ BG := bg 282 (by decide +kernel) rfl
theorem q_283 : Cond.methodLink RX3 99 yX0_kindOf ∈ BG := bg 283 (by decide +kernel) rfl
theorem q_284 : Cond.instanceMethod yX0_kindOf ∈ BG := bg 284 (by decide +kernel) rfl
theorem q_285 : Cond.selects RX0 yX0_kindOf yX0_kindOf ∈ BG := bg 285 (by decide +kernel) rfl
theorem q_286 : Cond.code yX0_kindOf cX0_kindOf 2 (some .int) ∈ BG := bg 286 (by decide +kernel) rfl
theorem q_287 : Cond.methodLink RX3 92 yX2_amendsOf ∈ BG := bg 287 (by decide +kernel) rfl
theorem q_288 : Cond.instanceMethod yX2_amendsOf ∈ BG := bg 288 (by decide +kernel) rfl
theorem q_289 : Cond.selects RX2 yX2_amendsOf yX2_amendsOf ∈ BG := bg 289 (by decide +kernel) rfl
theorem q_290 : Cond.code yX2_amendsOf cX2_amendsOf 2 (some .int) ∈ BG := bg 290 (by decide +kernel) rfl
theorem q_291 : Cond.methodLink RX2 45 yX2_has ∈ BG := bg 291 (by decide +kernel) rfl
theorem q_292 : Cond.methodLink RX3 137 yX1_costOf ∈ BG := bg 292 (by decide +kernel) rfl
theorem q_293 : Cond.instanceMethod yX1_costOf ∈ BG := bg 293 (by decide +kernel) rfl
theorem q_294 : Cond.selects RX1 yX1_costOf yX1_costOf ∈ BG := bg 294 (by decide +kernel) rfl
theorem q_295 : Cond.code yX1_costOf cX1_costOf 3 (some .int) ∈ BG := bg 295 (by decide +kernel) rfl
theorem q_296 : Cond.methodLink RX1 35 yX1_has ∈ BG := bg 296 (by decide +kernel) rfl
theorem q_297 : Cond.instanceMethod yX1_has ∈ BG := bg 297 (by decide +kernel) rfl
theorem q_298 : Cond.selects RX1 yX1_has yX1_has ∈ BG := bg 298 (by decide +kernel) rfl
theorem q_299 : Cond.code yX1_has cX1_has 3 (some .boolean) ∈ BG := bg 299 (by decide +kernel) rfl
theorem q_301 : Cond.static yX4_isKind ∈ BG := bg 301 (by decide +kernel) rfl
theorem q_302 : Cond.code yX4_isKind cX4_isKind 1 (some .boolean) ∈ BG := bg 302 (by decide +kernel) rfl
theorem q_303 : Cond.methodLink RX3 155 yX0_gotOf ∈ BG := bg 303 (by decide +kernel) rfl
theorem q_304 : Cond.instanceMethod yX0_gotOf ∈ BG := bg 304 (by decide +kernel) rfl
theorem q_305 : Cond.selects RX0 yX0_gotOf yX0_gotOf ∈ BG := bg 305 (by decide +kernel) rfl
theorem q_306 : Cond.code yX0_gotOf cX0_gotOf 2 (some .int) ∈ BG := bg 306 (by decide +kernel) rfl
theorem q_307 : Cond.methodLink RX3 172 Lib.Math.max.name ∈ BG := bg 307 (by decide +kernel) rfl
theorem q_308 : Cond.static Lib.Math.max.name ∈ BG := bg 308 (by decide +kernel) rfl
theorem q_309 : Cond.code Lib.Math.max.name Lib.Math.max.code 2 (some .int) ∈ BG := bg 309 (by decide +kernel) rfl
theorem q_310 : Cond.methodLink RX4 157 yX3_copyFrom ∈ BG := bg 310 (by decide +kernel) rfl
theorem q_311 : Cond.instanceMethod yX3_copyFrom ∈ BG := bg 311 (by decide +kernel) rfl
theorem q_312 : Cond.selects RX3 yX3_copyFrom yX3_copyFrom ∈ BG := bg 312 (by decide +kernel) rfl
theorem q_313 : Cond.code yX3_copyFrom cX3_copyFrom 2 none ∈ BG := bg 313 (by decide +kernel) rfl
theorem q_314 : Cond.methodLink RX3 58 yX1_copyFrom ∈ BG := bg 314 (by decide +kernel) rfl
theorem q_315 : Cond.instanceMethod yX1_copyFrom ∈ BG := bg 315 (by decide +kernel) rfl
theorem q_316 : Cond.selects RX1 yX1_copyFrom yX1_copyFrom ∈ BG := bg 316 (by decide +kernel) rfl
theorem q_317 : Cond.code yX1_copyFrom cX1_copyFrom 2 none ∈ BG := bg 317 (by decide +kernel) rfl
theorem q_319 : Cond.methodLink RX3 62 yX0_copyFrom ∈ BG := bg 319 (by decide +kernel) rfl
theorem q_320 : Cond.instanceMethod yX0_copyFrom ∈ BG := bg 320 (by decide +kernel) rfl
theorem q_321 : Cond.selects RX0 yX0_copyFrom yX0_copyFrom ∈ BG := bg 321 (by decide +kernel) rfl
theorem q_322 : Cond.code yX0_copyFrom cX0_copyFrom 2 none ∈ BG := bg 322 (by decide +kernel) rfl
theorem q_324 : Cond.methodLink RX3 65 yX2_copyFrom ∈ BG := bg 324 (by decide +kernel) rfl
theorem q_325 : Cond.instanceMethod yX2_copyFrom ∈ BG := bg 325 (by decide +kernel) rfl
theorem q_326 : Cond.selects RX2 yX2_copyFrom yX2_copyFrom ∈ BG := bg 326 (by decide +kernel) rfl
theorem q_327 : Cond.code yX2_copyFrom cX2_copyFrom 2 none ∈ BG := bg 327 (by decide +kernel) rfl
theorem q_329 : Cond.methodLink RX4 128 yX3_turnMonth ∈ BG := bg 329 (by decide +kernel) rfl
theorem q_330 : Cond.instanceMethod yX3_turnMonth ∈ BG := bg 330 (by decide +kernel) rfl
theorem q_331 : Cond.selects RX3 yX3_turnMonth yX3_turnMonth ∈ BG := bg 331 (by decide +kernel) rfl
theorem q_332 : Cond.code yX3_turnMonth cX3_turnMonth 3 (some .int) ∈ BG := bg 332 (by decide +kernel) rfl
theorem q_333 : Cond.methodLink RX3 140 yX3_leftOf ∈ BG := bg 333 (by decide +kernel) rfl
theorem q_334 : Cond.instanceMethod yX3_leftOf ∈ BG := bg 334 (by decide +kernel) rfl
theorem q_335 : Cond.selects RX3 yX3_leftOf yX3_leftOf ∈ BG := bg 335 (by decide +kernel) rfl
theorem q_336 : Cond.code yX3_leftOf cX3_leftOf 2 (some .int) ∈ BG := bg 336 (by decide +kernel) rfl
theorem q_338 : Cond.methodLink RX3 79 yX3_settingOf ∈ BG := bg 338 (by decide +kernel) rfl
theorem q_339 : Cond.instanceMethod yX3_settingOf ∈ BG := bg 339 (by decide +kernel) rfl
theorem q_340 : Cond.selects RX3 yX3_settingOf yX3_settingOf ∈ BG := bg 340 (by decide +kernel) rfl
theorem q_341 : Cond.code yX3_settingOf cX3_settingOf 2 (some .int) ∈ BG := bg 341 (by decide +kernel) rfl
theorem q_343 : Cond.static yX4_isSetting ∈ BG := bg 343 (by decide +kernel) rfl
theorem q_344 : Cond.code yX4_isSetting cX4_isSetting 1 (some .boolean) ∈ BG := bg 344 (by decide +kernel) rfl
theorem q_345 : Cond.methodLink RX3 169 yX3_topUp ∈ BG := bg 345 (by decide +kernel) rfl
theorem q_347 : Cond.instanceMethod yX3_topUp ∈ BG := bg 347 (by decide +kernel) rfl
theorem q_348 : Cond.code yX3_topUp cX3_topUp 3 (some .int) ∈ BG := bg 348 (by decide +kernel) rfl
theorem q_349 : Cond.methodLink RX3 143 yX3_hand ∈ BG := bg 349 (by decide +kernel) rfl
theorem q_351 : Cond.instanceMethod yX3_hand ∈ BG := bg 351 (by decide +kernel) rfl
theorem q_352 : Cond.code yX3_hand cX3_hand 5 none ∈ BG := bg 352 (by decide +kernel) rfl
theorem q_353 : Cond.methodLink RX3 158 yX0_give ∈ BG := bg 353 (by decide +kernel) rfl
theorem q_354 : Cond.instanceMethod yX0_give ∈ BG := bg 354 (by decide +kernel) rfl
theorem q_355 : Cond.selects RX0 yX0_give yX0_give ∈ BG := bg 355 (by decide +kernel) rfl
theorem q_356 : Cond.code yX0_give cX0_give 4 none ∈ BG := bg 356 (by decide +kernel) rfl
theorem q_358 : Cond.instanceMethod yX4_followShare ∈ BG := bg 358 (by decide +kernel) rfl
theorem q_359 : Cond.selects RX4 yX4_followShare yX4_followShare ∈ BG := bg 359 (by decide +kernel) rfl
theorem q_360 : Cond.code yX4_followShare cX4_followShare 2 (some .double) ∈ BG := bg 360 (by decide +kernel) rfl
theorem q_361 : Cond.methodLink RX4 116 yX0_inStage ∈ BG := bg 361 (by decide +kernel) rfl
theorem q_362 : Cond.instanceMethod yX0_inStage ∈ BG := bg 362 (by decide +kernel) rfl
theorem q_363 : Cond.selects RX0 yX0_inStage yX0_inStage ∈ BG := bg 363 (by decide +kernel) rfl
theorem q_364 : Cond.code yX0_inStage cX0_inStage 4 (some .int) ∈ BG := bg 364 (by decide +kernel) rfl
theorem q_365 : Cond.methodLink RX0 51 yX0_stageOf ∈ BG := bg 365 (by decide +kernel) rfl
theorem q_366 : Cond.instanceMethod yX0_stageOf ∈ BG := bg 366 (by decide +kernel) rfl
theorem q_367 : Cond.selects RX0 yX0_stageOf yX0_stageOf ∈ BG := bg 367 (by decide +kernel) rfl
theorem q_368 : Cond.code yX0_stageOf cX0_stageOf 2 (some .int) ∈ BG := bg 368 (by decide +kernel) rfl
theorem q_369 : Cond.methodLink RX4 231 yX3_departing ∈ BG := bg 369 (by decide +kernel) rfl
theorem q_370 : Cond.instanceMethod yX3_departing ∈ BG := bg 370 (by decide +kernel) rfl
theorem q_371 : Cond.selects RX3 yX3_departing yX3_departing ∈ BG := bg 371 (by decide +kernel) rfl
theorem q_372 : Cond.code yX3_departing cX3_departing 3 (some .int) ∈ BG := bg 372 (by decide +kernel) rfl
theorem q_373 : Cond.methodLink RX3 124 yX3_tieOf ∈ BG := bg 373 (by decide +kernel) rfl
theorem q_374 : Cond.instanceMethod yX3_tieOf ∈ BG := bg 374 (by decide +kernel) rfl
theorem q_375 : Cond.selects RX3 yX3_tieOf yX3_tieOf ∈ BG := bg 375 (by decide +kernel) rfl
theorem q_376 : Cond.code yX3_tieOf cX3_tieOf 3 (some .int) ∈ BG := bg 376 (by decide +kernel) rfl
theorem q_377 : Cond.methodLink RX3 112 yX0_stageOf ∈ BG := bg 377 (by decide +kernel) rfl
theorem q_378 : Cond.methodLink RX3 118 yX2_setterOf ∈ BG := bg 378 (by decide +kernel) rfl
theorem q_379 : Cond.instanceMethod yX2_setterOf ∈ BG := bg 379 (by decide +kernel) rfl
theorem q_380 : Cond.selects RX2 yX2_setterOf yX2_setterOf ∈ BG := bg 380 (by decide +kernel) rfl
theorem q_381 : Cond.code yX2_setterOf cX2_setterOf 2 (some .int) ∈ BG := bg 381 (by decide +kernel) rfl
theorem q_386 : Cond.constantLong RX4 250 (2539) ∈ BG := bg 386 (by decide +kernel) rfl
theorem q_387 : Cond.constantLong RX4 252 (31) ∈ BG := bg 387 (by decide +kernel) rfl
theorem q_388 : Cond.methodLink RX4 254 yX4_count ∈ BG := bg 388 (by decide +kernel) rfl
theorem q_389 : Cond.instanceMethod yX4_count ∈ BG := bg 389 (by decide +kernel) rfl
theorem q_390 : Cond.selects RX4 yX4_count yX4_count ∈ BG := bg 390 (by decide +kernel) rfl
theorem q_391 : Cond.code yX4_count cX4_count 2 (some .int) ∈ BG := bg 391 (by decide +kernel) rfl
theorem q_392 : Cond.methodLink RX4 39 yX4_requireArgument ∈ BG := bg 392 (by decide +kernel) rfl
theorem q_393 : Cond.static yX4_requireArgument ∈ BG := bg 393 (by decide +kernel) rfl
theorem q_394 : Cond.code yX4_requireArgument cX4_requireArgument 1 none ∈ BG := bg 394 (by decide +kernel) rfl
theorem q_395 : Cond.classLink RX4 315 "java/lang/IllegalArgumentException" ∈ BG := bg 395 (by decide +kernel) rfl
theorem q_458 : Cond.methodLink RX4 225 yX0_gotInAll ∈ BG := bg 458 (by decide +kernel) rfl
theorem q_459 : Cond.instanceMethod yX0_gotInAll ∈ BG := bg 459 (by decide +kernel) rfl
theorem q_460 : Cond.selects RX0 yX0_gotInAll yX0_gotInAll ∈ BG := bg 460 (by decide +kernel) rfl
theorem q_461 : Cond.code yX0_gotInAll cX0_gotInAll 3 (some .int) ∈ BG := bg 461 (by decide +kernel) rfl
theorem q_462 : Cond.methodLink RX0 70 yX0_gotInKind ∈ BG := bg 462 (by decide +kernel) rfl
theorem q_463 : Cond.instanceMethod yX0_gotInKind ∈ BG := bg 463 (by decide +kernel) rfl
theorem q_464 : Cond.selects RX0 yX0_gotInKind yX0_gotInKind ∈ BG := bg 464 (by decide +kernel) rfl
theorem q_465 : Cond.code yX0_gotInKind cX0_gotInKind 4 (some .int) ∈ BG := bg 465 (by decide +kernel) rfl
theorem q_466 : Cond.methodLink RX0 55 yX0_kindOf ∈ BG := bg 466 (by decide +kernel) rfl
theorem q_467 : Cond.methodLink RX0 67 yX0_gotOf ∈ BG := bg 467 (by decide +kernel) rfl
theorem q_468 : Cond.methodLink RX4 235 yX0_unequalPairs ∈ BG := bg 468 (by decide +kernel) rfl
theorem q_469 : Cond.instanceMethod yX0_unequalPairs ∈ BG := bg 469 (by decide +kernel) rfl
theorem q_470 : Cond.selects RX0 yX0_unequalPairs yX0_unequalPairs ∈ BG := bg 470 (by decide +kernel) rfl
theorem q_471 : Cond.code yX0_unequalPairs cX0_unequalPairs 4 (some .int) ∈ BG := bg 471 (by decide +kernel) rfl
theorem q_472 : Cond.methodLink RX0 73 yX0_areAlike ∈ BG := bg 472 (by decide +kernel) rfl
theorem q_474 : Cond.instanceMethod yX0_areAlike ∈ BG := bg 474 (by decide +kernel) rfl
theorem q_475 : Cond.code yX0_areAlike cX0_areAlike 3 (some .boolean) ∈ BG := bg 475 (by decide +kernel) rfl
theorem q_476 : Cond.methodLink RX0 61 yX0_followedBy ∈ BG := bg 476 (by decide +kernel) rfl
theorem q_477 : Cond.methodLink RX4 257 yX4_setting ∈ BG := bg 477 (by decide +kernel) rfl
theorem q_478 : Cond.instanceMethod yX4_setting ∈ BG := bg 478 (by decide +kernel) rfl
theorem q_479 : Cond.selects RX4 yX4_setting yX4_setting ∈ BG := bg 479 (by decide +kernel) rfl
theorem q_480 : Cond.code yX4_setting cX4_setting 2 (some .int) ∈ BG := bg 480 (by decide +kernel) rfl
theorem q_481 : Cond.methodLink RX4 76 yX4_isSetting ∈ BG := bg 481 (by decide +kernel) rfl
theorem q_482 : Cond.methodLink RX4 31 yX4_requireIndex ∈ BG := bg 482 (by decide +kernel) rfl
theorem q_483 : Cond.static yX4_requireIndex ∈ BG := bg 483 (by decide +kernel) rfl
theorem q_484 : Cond.code yX4_requireIndex cX4_requireIndex 1 none ∈ BG := bg 484 (by decide +kernel) rfl
theorem q_485 : Cond.classLink RX4 312 "java/lang/IndexOutOfBoundsException" ∈ BG := bg 485 (by decide +kernel) rfl
theorem q_500 : Cond.methodLink RX4 238 yX3_settingOf ∈ BG := bg 500 (by decide +kernel) rfl
theorem q_501 : Cond.methodLink RX4 260 yX4_withKind ∈ BG := bg 501 (by decide +kernel) rfl
theorem q_503 : Cond.instanceMethod yX4_withKind ∈ BG := bg 503 (by decide +kernel) rfl
theorem q_504 : Cond.code yX4_withKind cX4_withKind 8 (some .long) ∈ BG := bg 504 (by decide +kernel) rfl
theorem q_505 : Cond.methodLink RX4 294 yX4_kind ∈ BG := bg 505 (by decide +kernel) rfl
theorem q_506 : Cond.instanceMethod yX4_kind ∈ BG := bg 506 (by decide +kernel) rfl
theorem q_507 : Cond.selects RX4 yX4_kind yX4_kind ∈ BG := bg 507 (by decide +kernel) rfl
theorem q_508 : Cond.code yX4_kind cX4_kind 3 (some .int) ∈ BG := bg 508 (by decide +kernel) rfl
theorem q_509 : Cond.methodLink RX4 27 yX4_isKind ∈ BG := bg 509 (by decide +kernel) rfl
theorem q_510 : Cond.methodLink RX4 204 yX3_baseOf ∈ BG := bg 510 (by decide +kernel) rfl
theorem q_511 : Cond.instanceMethod yX3_baseOf ∈ BG := bg 511 (by decide +kernel) rfl
theorem q_512 : Cond.selects RX3 yX3_baseOf yX3_baseOf ∈ BG := bg 512 (by decide +kernel) rfl
theorem q_513 : Cond.code yX3_baseOf cX3_baseOf 2 (some .int) ∈ BG := bg 513 (by decide +kernel) rfl
theorem q_514 : Cond.methodLink RX4 207 yX3_budgetOf ∈ BG := bg 514 (by decide +kernel) rfl
theorem q_515 : Cond.instanceMethod yX3_budgetOf ∈ BG := bg 515 (by decide +kernel) rfl
theorem q_516 : Cond.selects RX3 yX3_budgetOf yX3_budgetOf ∈ BG := bg 516 (by decide +kernel) rfl
theorem q_517 : Cond.code yX3_budgetOf cX3_budgetOf 2 (some .int) ∈ BG := bg 517 (by decide +kernel) rfl
theorem q_518 : Cond.methodLink RX4 210 yX3_spentOf ∈ BG := bg 518 (by decide +kernel) rfl
theorem q_519 : Cond.instanceMethod yX3_spentOf ∈ BG := bg 519 (by decide +kernel) rfl
theorem q_520 : Cond.selects RX3 yX3_spentOf yX3_spentOf ∈ BG := bg 520 (by decide +kernel) rfl
theorem q_521 : Cond.code yX3_spentOf cX3_spentOf 2 (some .int) ∈ BG := bg 521 (by decide +kernel) rfl
theorem q_522 : Cond.methodLink RX4 213 yX3_leftOf ∈ BG := bg 522 (by decide +kernel) rfl
theorem q_523 : Cond.methodLink RX4 46 yX1_sizeOf ∈ BG := bg 523 (by decide +kernel) rfl
theorem q_524 : Cond.instanceMethod yX1_sizeOf ∈ BG := bg 524 (by decide +kernel) rfl
theorem q_525 : Cond.selects RX1 yX1_sizeOf yX1_sizeOf ∈ BG := bg 525 (by decide +kernel) rfl
theorem q_526 : Cond.code yX1_sizeOf cX1_sizeOf 2 (some .int) ∈ BG := bg 526 (by decide +kernel) rfl
theorem q_527 : Cond.methodLink RX4 216 yX0_ofKind ∈ BG := bg 527 (by decide +kernel) rfl
theorem q_528 : Cond.instanceMethod yX0_ofKind ∈ BG := bg 528 (by decide +kernel) rfl
theorem q_529 : Cond.selects RX0 yX0_ofKind yX0_ofKind ∈ BG := bg 529 (by decide +kernel) rfl
theorem q_530 : Cond.code yX0_ofKind cX0_ofKind 4 (some .int) ∈ BG := bg 530 (by decide +kernel) rfl
theorem q_531 : Cond.methodLink RX4 219 yX0_gotInKind ∈ BG := bg 531 (by decide +kernel) rfl
theorem q_532 : Cond.methodLink RX4 222 yX3_owedInKind ∈ BG := bg 532 (by decide +kernel) rfl
theorem q_533 : Cond.instanceMethod yX3_owedInKind ∈ BG := bg 533 (by decide +kernel) rfl
theorem q_534 : Cond.selects RX3 yX3_owedInKind yX3_owedInKind ∈ BG := bg 534 (by decide +kernel) rfl
theorem q_535 : Cond.code yX3_owedInKind cX3_owedInKind 4 (some .int) ∈ BG := bg 535 (by decide +kernel) rfl
theorem q_536 : Cond.methodLink RX4 297 yX4_amends ∈ BG := bg 536 (by decide +kernel) rfl
theorem q_537 : Cond.instanceMethod yX4_amends ∈ BG := bg 537 (by decide +kernel) rfl
theorem q_538 : Cond.selects RX4 yX4_amends yX4_amends ∈ BG := bg 538 (by decide +kernel) rfl
theorem q_539 : Cond.code yX4_amends cX4_amends 4 (some .int) ∈ BG := bg 539 (by decide +kernel) rfl
theorem q_540 : Cond.methodLink RX4 62 yX1_has ∈ BG := bg 540 (by decide +kernel) rfl
theorem q_541 : Cond.methodLink RX4 164 yX1_costOf ∈ BG := bg 541 (by decide +kernel) rfl
theorem q_542 : Cond.methodLink RX4 167 yX1_leastOf ∈ BG := bg 542 (by decide +kernel) rfl
theorem q_543 : Cond.instanceMethod yX1_leastOf ∈ BG := bg 543 (by decide +kernel) rfl
theorem q_544 : Cond.selects RX1 yX1_leastOf yX1_leastOf ∈ BG := bg 544 (by decide +kernel) rfl
theorem q_545 : Cond.code yX1_leastOf cX1_leastOf 3 (some .int) ∈ BG := bg 545 (by decide +kernel) rfl
theorem q_546 : Cond.methodLink RX4 170 yX1_mostOf ∈ BG := bg 546 (by decide +kernel) rfl
theorem q_547 : Cond.instanceMethod yX1_mostOf ∈ BG := bg 547 (by decide +kernel) rfl
theorem q_548 : Cond.selects RX1 yX1_mostOf yX1_mostOf ∈ BG := bg 548 (by decide +kernel) rfl
theorem q_549 : Cond.code yX1_mostOf cX1_mostOf 3 (some .int) ∈ BG := bg 549 (by decide +kernel) rfl
theorem q_550 : Cond.methodLink RX4 66 yX1_isOffered ∈ BG := bg 550 (by decide +kernel) rfl
theorem q_551 : Cond.instanceMethod yX1_isOffered ∈ BG := bg 551 (by decide +kernel) rfl
theorem q_552 : Cond.selects RX1 yX1_isOffered yX1_isOffered ∈ BG := bg 552 (by decide +kernel) rfl
theorem q_553 : Cond.code yX1_isOffered cX1_isOffered 3 (some .boolean) ∈ BG := bg 553 (by decide +kernel) rfl
theorem q_554 : Cond.methodLink RX4 173 yX0_having ∈ BG := bg 554 (by decide +kernel) rfl
theorem q_555 : Cond.instanceMethod yX0_having ∈ BG := bg 555 (by decide +kernel) rfl
theorem q_556 : Cond.selects RX0 yX0_having yX0_having ∈ BG := bg 556 (by decide +kernel) rfl
theorem q_557 : Cond.code yX0_having cX0_having 5 (some .int) ∈ BG := bg 557 (by decide +kernel) rfl
theorem q_558 : Cond.methodLink RX0 58 yX0_amendsOf ∈ BG := bg 558 (by decide +kernel) rfl
theorem q_559 : Cond.instanceMethod yX0_amendsOf ∈ BG := bg 559 (by decide +kernel) rfl
theorem q_560 : Cond.selects RX0 yX0_amendsOf yX0_amendsOf ∈ BG := bg 560 (by decide +kernel) rfl
theorem q_561 : Cond.code yX0_amendsOf cX0_amendsOf 2 (some .int) ∈ BG := bg 561 (by decide +kernel) rfl
theorem q_562 : Cond.methodLink RX4 300 yX4_precedent ∈ BG := bg 562 (by decide +kernel) rfl
theorem q_563 : Cond.instanceMethod yX4_precedent ∈ BG := bg 563 (by decide +kernel) rfl
theorem q_564 : Cond.selects RX4 yX4_precedent yX4_precedent ∈ BG := bg 564 (by decide +kernel) rfl
theorem q_565 : Cond.code yX4_precedent cX4_precedent 5 (some .int) ∈ BG := bg 565 (by decide +kernel) rfl
theorem q_566 : Cond.methodLink RX4 176 yX4_isGroup ∈ BG := bg 566 (by decide +kernel) rfl
theorem q_567 : Cond.static yX4_isGroup ∈ BG := bg 567 (by decide +kernel) rfl
theorem q_568 : Cond.code yX4_isGroup cX4_isGroup 1 (some .boolean) ∈ BG := bg 568 (by decide +kernel) rfl
theorem q_569 : Cond.methodLink RX4 183 yX2_latestOf ∈ BG := bg 569 (by decide +kernel) rfl
theorem q_570 : Cond.instanceMethod yX2_latestOf ∈ BG := bg 570 (by decide +kernel) rfl
theorem q_571 : Cond.selects RX2 yX2_latestOf yX2_latestOf ∈ BG := bg 571 (by decide +kernel) rfl
theorem q_572 : Cond.code yX2_latestOf cX2_latestOf 3 (some .int) ∈ BG := bg 572 (by decide +kernel) rfl
theorem q_575 : Cond.methodLink RX4 188 yX2_has ∈ BG := bg 575 (by decide +kernel) rfl
theorem q_576 : Cond.methodLink RX4 189 yX2_amendsOf ∈ BG := bg 576 (by decide +kernel) rfl
theorem q_577 : Cond.methodLink RX4 192 yX2_monthOf ∈ BG := bg 577 (by decide +kernel) rfl
theorem q_578 : Cond.instanceMethod yX2_monthOf ∈ BG := bg 578 (by decide +kernel) rfl
theorem q_579 : Cond.selects RX2 yX2_monthOf yX2_monthOf ∈ BG := bg 579 (by decide +kernel) rfl
theorem q_580 : Cond.code yX2_monthOf cX2_monthOf 2 (some .int) ∈ BG := bg 580 (by decide +kernel) rfl
theorem q_581 : Cond.methodLink RX4 195 yX2_setterOf ∈ BG := bg 581 (by decide +kernel) rfl
theorem q_582 : Cond.methodLink RX4 198 yX3_isBinding ∈ BG := bg 582 (by decide +kernel) rfl
theorem q_583 : Cond.instanceMethod yX3_isBinding ∈ BG := bg 583 (by decide +kernel) rfl
theorem q_584 : Cond.selects RX3 yX3_isBinding yX3_isBinding ∈ BG := bg 584 (by decide +kernel) rfl
theorem q_585 : Cond.code yX3_isBinding cX3_isBinding 3 (some .boolean) ∈ BG := bg 585 (by decide +kernel) rfl
theorem q_586 : Cond.methodLink RX3 89 yX2_monthOf ∈ BG := bg 586 (by decide +kernel) rfl
theorem q_587 : Cond.methodLink RX3 95 yX1_isOffered ∈ BG := bg 587 (by decide +kernel) rfl
theorem q_588 : Cond.methodLink RX4 201 yX0_following ∈ BG := bg 588 (by decide +kernel) rfl
theorem q_589 : Cond.instanceMethod yX0_following ∈ BG := bg 589 (by decide +kernel) rfl
theorem q_590 : Cond.selects RX0 yX0_following yX0_following ∈ BG := bg 590 (by decide +kernel) rfl
theorem q_591 : Cond.code yX0_following cX0_following 4 (some .int) ∈ BG := bg 591 (by decide +kernel) rfl
theorem q_592 : Cond.methodLink RX4 264 yX4_withComplaint ∈ BG := bg 592 (by decide +kernel) rfl
theorem q_594 : Cond.instanceMethod yX4_withComplaint ∈ BG := bg 594 (by decide +kernel) rfl
theorem q_595 : Cond.code yX4_withComplaint cX4_withComplaint 7 (some .long) ∈ BG := bg 595 (by decide +kernel) rfl
theorem q_596 : Cond.methodLink RX4 303 yX4_complaint ∈ BG := bg 596 (by decide +kernel) rfl
theorem q_597 : Cond.instanceMethod yX4_complaint ∈ BG := bg 597 (by decide +kernel) rfl
theorem q_598 : Cond.selects RX4 yX4_complaint yX4_complaint ∈ BG := bg 598 (by decide +kernel) rfl
theorem q_599 : Cond.code yX4_complaint cX4_complaint 3 (some .int) ∈ BG := bg 599 (by decide +kernel) rfl
theorem q_600 : Cond.methodLink RX4 101 yX0_has ∈ BG := bg 600 (by decide +kernel) rfl
theorem q_601 : Cond.methodLink RX4 161 yX3_ofComplaint ∈ BG := bg 601 (by decide +kernel) rfl
theorem q_602 : Cond.instanceMethod yX3_ofComplaint ∈ BG := bg 602 (by decide +kernel) rfl
theorem q_603 : Cond.selects RX3 yX3_ofComplaint yX3_ofComplaint ∈ BG := bg 603 (by decide +kernel) rfl
theorem q_604 : Cond.code yX3_ofComplaint cX3_ofComplaint 3 (some .int) ∈ BG := bg 604 (by decide +kernel) rfl
theorem q_605 : Cond.methodLink RX3 127 yX0_severityOf ∈ BG := bg 605 (by decide +kernel) rfl
theorem q_606 : Cond.instanceMethod yX0_severityOf ∈ BG := bg 606 (by decide +kernel) rfl
theorem q_607 : Cond.selects RX0 yX0_severityOf yX0_severityOf ∈ BG := bg 607 (by decide +kernel) rfl
theorem q_608 : Cond.code yX0_severityOf cX0_severityOf 2 (some .int) ∈ BG := bg 608 (by decide +kernel) rfl
theorem q_609 : Cond.methodLink RX3 183 yX0_customerOf ∈ BG := bg 609 (by decide +kernel) rfl
theorem q_610 : Cond.instanceMethod yX0_customerOf ∈ BG := bg 610 (by decide +kernel) rfl
theorem q_611 : Cond.selects RX0 yX0_customerOf yX0_customerOf ∈ BG := bg 611 (by decide +kernel) rfl
theorem q_612 : Cond.code yX0_customerOf cX0_customerOf 2 (some .int) ∈ BG := bg 612 (by decide +kernel) rfl
theorem q_613 : Cond.methodLink RX3 102 yX0_groupOf ∈ BG := bg 613 (by decide +kernel) rfl
theorem q_614 : Cond.instanceMethod yX0_groupOf ∈ BG := bg 614 (by decide +kernel) rfl
theorem q_615 : Cond.selects RX0 yX0_groupOf yX0_groupOf ∈ BG := bg 615 (by decide +kernel) rfl
theorem q_616 : Cond.code yX0_groupOf cX0_groupOf 2 (some .int) ∈ BG := bg 616 (by decide +kernel) rfl
theorem q_617 : Cond.methodLink RX3 186 yX0_amendsOf ∈ BG := bg 617 (by decide +kernel) rfl
theorem q_618 : Cond.methodLink RX3 187 yX0_reasonOf ∈ BG := bg 618 (by decide +kernel) rfl
theorem q_619 : Cond.instanceMethod yX0_reasonOf ∈ BG := bg 619 (by decide +kernel) rfl
theorem q_620 : Cond.selects RX0 yX0_reasonOf yX0_reasonOf ∈ BG := bg 620 (by decide +kernel) rfl
theorem q_621 : Cond.code yX0_reasonOf cX0_reasonOf 2 (some .int) ∈ BG := bg 621 (by decide +kernel) rfl
theorem q_622 : Cond.methodLink RX3 162 yX0_monthOf ∈ BG := bg 622 (by decide +kernel) rfl
theorem q_623 : Cond.instanceMethod yX0_monthOf ∈ BG := bg 623 (by decide +kernel) rfl
theorem q_624 : Cond.selects RX0 yX0_monthOf yX0_monthOf ∈ BG := bg 624 (by decide +kernel) rfl
theorem q_625 : Cond.code yX0_monthOf cX0_monthOf 2 (some .int) ∈ BG := bg 625 (by decide +kernel) rfl
theorem q_626 : Cond.methodLink RX4 267 yX4_fair ∈ BG := bg 626 (by decide +kernel) rfl
theorem q_627 : Cond.instanceMethod yX4_fair ∈ BG := bg 627 (by decide +kernel) rfl
theorem q_628 : Cond.selects RX4 yX4_fair yX4_fair ∈ BG := bg 628 (by decide +kernel) rfl
theorem q_629 : Cond.code yX4_fair cX4_fair 6 (some .int) ∈ BG := bg 629 (by decide +kernel) rfl
theorem q_630 : Cond.methodLink RX4 244 yX0_kindOf ∈ BG := bg 630 (by decide +kernel) rfl
theorem q_631 : Cond.methodLink RX4 103 yX3_againstDecision ∈ BG := bg 631 (by decide +kernel) rfl
theorem q_632 : Cond.instanceMethod yX3_againstDecision ∈ BG := bg 632 (by decide +kernel) rfl
theorem q_633 : Cond.selects RX3 yX3_againstDecision yX3_againstDecision ∈ BG := bg 633 (by decide +kernel) rfl
theorem q_634 : Cond.code yX3_againstDecision cX3_againstDecision 6 (some .int) ∈ BG := bg 634 (by decide +kernel) rfl
theorem q_635 : Cond.methodLink RX3 130 yX1_covers ∈ BG := bg 635 (by decide +kernel) rfl
theorem q_636 : Cond.instanceMethod yX1_covers ∈ BG := bg 636 (by decide +kernel) rfl
theorem q_637 : Cond.selects RX1 yX1_covers yX1_covers ∈ BG := bg 637 (by decide +kernel) rfl
theorem q_638 : Cond.code yX1_covers cX1_covers 4 (some .boolean) ∈ BG := bg 638 (by decide +kernel) rfl
theorem q_639 : Cond.methodLink RX1 39 yX1_leastOf ∈ BG := bg 639 (by decide +kernel) rfl
theorem q_640 : Cond.methodLink RX1 43 yX1_mostOf ∈ BG := bg 640 (by decide +kernel) rfl
theorem q_642 : Cond.methodLink RX3 134 yX3_bindingFor ∈ BG := bg 642 (by decide +kernel) rfl
theorem q_643 : Cond.instanceMethod yX3_bindingFor ∈ BG := bg 643 (by decide +kernel) rfl
theorem q_644 : Cond.selects RX3 yX3_bindingFor yX3_bindingFor ∈ BG := bg 644 (by decide +kernel) rfl
theorem q_645 : Cond.code yX3_bindingFor cX3_bindingFor 4 (some .int) ∈ BG := bg 645 (by decide +kernel) rfl
theorem q_646 : Cond.methodLink RX3 105 yX2_latestOf ∈ BG := bg 646 (by decide +kernel) rfl
theorem q_647 : Cond.methodLink RX3 109 yX3_isBinding ∈ BG := bg 647 (by decide +kernel) rfl
theorem q_648 : Cond.methodLink RX4 270 yX4_whyNot ∈ BG := bg 648 (by decide +kernel) rfl
theorem q_649 : Cond.instanceMethod yX4_whyNot ∈ BG := bg 649 (by decide +kernel) rfl
theorem q_650 : Cond.selects RX4 yX4_whyNot yX4_whyNot ∈ BG := bg 650 (by decide +kernel) rfl
theorem q_651 : Cond.code yX4_whyNot cX4_whyNot 4 (some .int) ∈ BG := bg 651 (by decide +kernel) rfl
theorem q_652 : Cond.methodLink RX4 119 yX3_againstJudgement ∈ BG := bg 652 (by decide +kernel) rfl
theorem q_653 : Cond.instanceMethod yX3_againstJudgement ∈ BG := bg 653 (by decide +kernel) rfl
theorem q_654 : Cond.selects RX3 yX3_againstJudgement yX3_againstJudgement ∈ BG := bg 654 (by decide +kernel) rfl
theorem q_655 : Cond.code yX3_againstJudgement cX3_againstJudgement 5 (some .int) ∈ BG := bg 655 (by decide +kernel) rfl
theorem q_656 : Cond.methodLink RX4 273 yX4_ifJudged ∈ BG := bg 656 (by decide +kernel) rfl
theorem q_657 : Cond.instanceMethod yX4_ifJudged ∈ BG := bg 657 (by decide +kernel) rfl
theorem q_658 : Cond.selects RX4 yX4_ifJudged yX4_ifJudged ∈ BG := bg 658 (by decide +kernel) rfl
theorem q_659 : Cond.code yX4_ifJudged cX4_ifJudged 5 (some .int) ∈ BG := bg 659 (by decide +kernel) rfl
theorem q_660 : Cond.methodLink RX4 122 yX3_makeJudgement ∈ BG := bg 660 (by decide +kernel) rfl
theorem q_661 : Cond.instanceMethod yX3_makeJudgement ∈ BG := bg 661 (by decide +kernel) rfl
theorem q_662 : Cond.selects RX3 yX3_makeJudgement yX3_makeJudgement ∈ BG := bg 662 (by decide +kernel) rfl
theorem q_663 : Cond.code yX3_makeJudgement cX3_makeJudgement 8 (some .int) ∈ BG := bg 663 (by decide +kernel) rfl
theorem q_664 : Cond.methodLink RX3 163 yX0_changeStage ∈ BG := bg 664 (by decide +kernel) rfl
theorem q_665 : Cond.instanceMethod yX0_changeStage ∈ BG := bg 665 (by decide +kernel) rfl
theorem q_666 : Cond.selects RX0 yX0_changeStage yX0_changeStage ∈ BG := bg 666 (by decide +kernel) rfl
theorem q_667 : Cond.code yX0_changeStage cX0_changeStage 3 none ∈ BG := bg 667 (by decide +kernel) rfl
theorem q_668 : Cond.methodLink RX3 166 yX2_raise ∈ BG := bg 668 (by decide +kernel) rfl
theorem q_669 : Cond.instanceMethod yX2_raise ∈ BG := bg 669 (by decide +kernel) rfl
theorem q_670 : Cond.selects RX2 yX2_raise yX2_raise ∈ BG := bg 670 (by decide +kernel) rfl
theorem q_671 : Cond.code yX2_raise cX2_raise 3 none ∈ BG := bg 671 (by decide +kernel) rfl
theorem q_672 : Cond.methodLink RX4 247 yX3_owedInAll ∈ BG := bg 672 (by decide +kernel) rfl
theorem q_673 : Cond.instanceMethod yX3_owedInAll ∈ BG := bg 673 (by decide +kernel) rfl
theorem q_674 : Cond.selects RX3 yX3_owedInAll yX3_owedInAll ∈ BG := bg 674 (by decide +kernel) rfl
theorem q_675 : Cond.code yX3_owedInAll cX3_owedInAll 3 (some .int) ∈ BG := bg 675 (by decide +kernel) rfl
theorem q_676 : Cond.methodLink RX3 180 yX3_owedInKind ∈ BG := bg 676 (by decide +kernel) rfl
theorem q_677 : Cond.methodLink RX4 276 yX4_ofCustomer ∈ BG := bg 677 (by decide +kernel) rfl
theorem q_678 : Cond.instanceMethod yX4_ofCustomer ∈ BG := bg 678 (by decide +kernel) rfl
theorem q_679 : Cond.selects RX4 yX4_ofCustomer yX4_ofCustomer ∈ BG := bg 679 (by decide +kernel) rfl
theorem q_680 : Cond.code yX4_ofCustomer cX4_ofCustomer 3 (some .int) ∈ BG := bg 680 (by decide +kernel) rfl
theorem q_681 : Cond.methodLink RX4 85 yX4_isCustomer ∈ BG := bg 681 (by decide +kernel) rfl
theorem q_682 : Cond.static yX4_isCustomer ∈ BG := bg 682 (by decide +kernel) rfl
theorem q_683 : Cond.code yX4_isCustomer cX4_isCustomer 1 (some .boolean) ∈ BG := bg 683 (by decide +kernel) rfl
theorem q_684 : Cond.methodLink RX4 241 yX0_ofOne ∈ BG := bg 684 (by decide +kernel) rfl
theorem q_685 : Cond.instanceMethod yX0_ofOne ∈ BG := bg 685 (by decide +kernel) rfl
theorem q_686 : Cond.selects RX0 yX0_ofOne yX0_ofOne ∈ BG := bg 686 (by decide +kernel) rfl
theorem q_687 : Cond.code yX0_ofOne cX0_ofOne 5 (some .int) ∈ BG := bg 687 (by decide +kernel) rfl
theorem q_688 : Cond.methodLink RX0 64 yX0_customerOf ∈ BG := bg 688 (by decide +kernel) rfl
theorem q_689 : Cond.methodLink RX4 279 yX4_monthsToEqual ∈ BG := bg 689 (by decide +kernel) rfl
theorem q_690 : Cond.methodLink RX4 282 yX4_followShare ∈ BG := bg 690 (by decide +kernel) rfl
theorem q_691 : Cond.methodLink RX4 286 yX4_bitsOf ∈ BG := bg 691 (by decide +kernel) rfl
theorem q_692 : Cond.static yX4_bitsOf ∈ BG := bg 692 (by decide +kernel) rfl
theorem q_693 : Cond.code yX4_bitsOf cX4_bitsOf 8 (some .long) ∈ BG := bg 693 (by decide +kernel) rfl
theorem q_694 : Cond.constantLong RX4 306 (1023) ∈ BG := bg 694 (by decide +kernel) rfl
theorem q_695 : Cond.constantDouble RX4 308 (4611686018427387904) ∈ BG := bg 695 (by decide +kernel) rfl
theorem q_696 : Cond.constantDouble RX4 310 (4841369599423283200) ∈ BG := bg 696 (by decide +kernel) rfl
theorem q_697 : Cond.methodLink RX4 290 yX4_withBuffer ∈ BG := bg 697 (by decide +kernel) rfl
theorem q_699 : Cond.instanceMethod yX4_withBuffer ∈ BG := bg 699 (by decide +kernel) rfl
theorem q_700 : Cond.code yX4_withBuffer cX4_withBuffer 6 (some .long) ∈ BG := bg 700 (by decide +kernel) rfl
theorem q_711 : Cond.methodLink RX4 52 yX4_requireState ∈ BG := bg 711 (by decide +kernel) rfl
theorem q_712 : Cond.static yX4_requireState ∈ BG := bg 712 (by decide +kernel) rfl
theorem q_713 : Cond.code yX4_requireState cX4_requireState 1 none ∈ BG := bg 713 (by decide +kernel) rfl
theorem q_714 : Cond.classLink RX4 318 "java/lang/IllegalStateException" ∈ BG := bg 714 (by decide +kernel) rfl
theorem q_729 : Cond.methodLink RX4 55 yX4_save ∈ BG := bg 729 (by decide +kernel) rfl
theorem q_731 : Cond.instanceMethod yX4_save ∈ BG := bg 731 (by decide +kernel) rfl
theorem q_732 : Cond.code yX4_save cX4_save 2 none ∈ BG := bg 732 (by decide +kernel) rfl
theorem q_733 : Cond.methodLink RX4 153 yX4_savedAt ∈ BG := bg 733 (by decide +kernel) rfl
theorem q_735 : Cond.instanceMethod yX4_savedAt ∈ BG := bg 735 (by decide +kernel) rfl
theorem q_736 : Cond.code yX4_savedAt cX4_savedAt 2 (some (.object "AmendsLedger$State")) ∈ BG := bg 736 (by decide +kernel) rfl
theorem q_737 : Cond.methodLink RX4 58 yX1_add ∈ BG := bg 737 (by decide +kernel) rfl
theorem q_738 : Cond.instanceMethod yX1_add ∈ BG := bg 738 (by decide +kernel) rfl
theorem q_739 : Cond.selects RX1 yX1_add yX1_add ∈ BG := bg 739 (by decide +kernel) rfl
theorem q_740 : Cond.code yX1_add cX1_add 7 (some .int) ∈ BG := bg 740 (by decide +kernel) rfl
theorem q_748 : Cond.methodLink RX4 69 yX1_remove ∈ BG := bg 748 (by decide +kernel) rfl
theorem q_749 : Cond.instanceMethod yX1_remove ∈ BG := bg 749 (by decide +kernel) rfl
theorem q_750 : Cond.selects RX1 yX1_remove yX1_remove ∈ BG := bg 750 (by decide +kernel) rfl
theorem q_751 : Cond.code yX1_remove cX1_remove 5 (some .int) ∈ BG := bg 751 (by decide +kernel) rfl
theorem q_752 : Cond.methodLink RX1 50 yX1_sizeOf ∈ BG := bg 752 (by decide +kernel) rfl
theorem q_753 : Cond.methodLink RX1 54 yX1_isOffered ∈ BG := bg 753 (by decide +kernel) rfl
theorem q_761 : Cond.methodLink RX4 73 yX3_changeBase ∈ BG := bg 761 (by decide +kernel) rfl
theorem q_762 : Cond.instanceMethod yX3_changeBase ∈ BG := bg 762 (by decide +kernel) rfl
theorem q_763 : Cond.selects RX3 yX3_changeBase yX3_changeBase ∈ BG := bg 763 (by decide +kernel) rfl
theorem q_764 : Cond.code yX3_changeBase cX3_changeBase 4 (some .int) ∈ BG := bg 764 (by decide +kernel) rfl
theorem q_765 : Cond.methodLink RX3 83 yX3_baseOf ∈ BG := bg 765 (by decide +kernel) rfl
theorem q_773 : Cond.methodLink RX4 79 yX4_isValueOf ∈ BG := bg 773 (by decide +kernel) rfl
theorem q_774 : Cond.static yX4_isValueOf ∈ BG := bg 774 (by decide +kernel) rfl
theorem q_775 : Cond.code yX4_isValueOf cX4_isValueOf 2 (some .boolean) ∈ BG := bg 775 (by decide +kernel) rfl
theorem q_776 : Cond.fieldLink RX4 321 "AmendsLedger" "LEAST_SETTING" "[I" ∈ BG := bg 776 (by decide +kernel) rfl
theorem q_778 : Cond.fieldLink RX4 324 "AmendsLedger" "GREATEST_SETTING" "[I" ∈ BG := bg 778 (by decide +kernel) rfl
theorem q_780 : Cond.methodLink RX4 82 yX3_changeSetting ∈ BG := bg 780 (by decide +kernel) rfl
theorem q_781 : Cond.instanceMethod yX3_changeSetting ∈ BG := bg 781 (by decide +kernel) rfl
theorem q_782 : Cond.selects RX3 yX3_changeSetting yX3_changeSetting ∈ BG := bg 782 (by decide +kernel) rfl
theorem q_783 : Cond.code yX3_changeSetting cX3_changeSetting 4 (some .int) ∈ BG := bg 783 (by decide +kernel) rfl
theorem q_791 : Cond.methodLink RX4 98 yX0_add ∈ BG := bg 791 (by decide +kernel) rfl
theorem q_792 : Cond.instanceMethod yX0_add ∈ BG := bg 792 (by decide +kernel) rfl
theorem q_793 : Cond.selects RX0 yX0_add yX0_add ∈ BG := bg 793 (by decide +kernel) rfl
theorem q_794 : Cond.code yX0_add cX0_add 5 (some .int) ∈ BG := bg 794 (by decide +kernel) rfl
theorem q_802 : Cond.methodLink RX4 106 yX3_makeDecision ∈ BG := bg 802 (by decide +kernel) rfl
theorem q_803 : Cond.instanceMethod yX3_makeDecision ∈ BG := bg 803 (by decide +kernel) rfl
theorem q_804 : Cond.selects RX3 yX3_makeDecision yX3_makeDecision ∈ BG := bg 804 (by decide +kernel) rfl
theorem q_805 : Cond.code yX3_makeDecision cX3_makeDecision 7 (some .int) ∈ BG := bg 805 (by decide +kernel) rfl
theorem q_806 : Cond.methodLink RX3 147 yX2_add ∈ BG := bg 806 (by decide +kernel) rfl
theorem q_807 : Cond.instanceMethod yX2_add ∈ BG := bg 807 (by decide +kernel) rfl
theorem q_808 : Cond.selects RX2 yX2_add yX2_add ∈ BG := bg 808 (by decide +kernel) rfl
theorem q_809 : Cond.code yX2_add cX2_add 7 (some .int) ∈ BG := bg 809 (by decide +kernel) rfl
theorem q_810 : Cond.methodLink RX3 151 yX0_noteDecision ∈ BG := bg 810 (by decide +kernel) rfl
theorem q_811 : Cond.instanceMethod yX0_noteDecision ∈ BG := bg 811 (by decide +kernel) rfl
theorem q_812 : Cond.selects RX0 yX0_noteDecision yX0_noteDecision ∈ BG := bg 812 (by decide +kernel) rfl
theorem q_813 : Cond.code yX0_noteDecision cX0_noteDecision 5 none ∈ BG := bg 813 (by decide +kernel) rfl
theorem q_821 : Cond.methodLink RX4 109 yX3_canBeAppealed ∈ BG := bg 821 (by decide +kernel) rfl
theorem q_822 : Cond.instanceMethod yX3_canBeAppealed ∈ BG := bg 822 (by decide +kernel) rfl
theorem q_823 : Cond.selects RX3 yX3_canBeAppealed yX3_canBeAppealed ∈ BG := bg 823 (by decide +kernel) rfl
theorem q_824 : Cond.code yX3_canBeAppealed cX3_canBeAppealed 2 (some .boolean) ∈ BG := bg 824 (by decide +kernel) rfl
theorem q_825 : Cond.methodLink RX4 112 yX0_changeStage ∈ BG := bg 825 (by decide +kernel) rfl
theorem q_854 : Cond.methodLink RX4 141 yX4_firstError ∈ BG := bg 854 (by decide +kernel) rfl
theorem q_855 : Cond.methodLink RX4 144 yX4_digitAt ∈ BG := bg 855 (by decide +kernel) rfl
theorem q_857 : Cond.instanceMethod yX4_digitAt ∈ BG := bg 857 (by decide +kernel) rfl
theorem q_858 : Cond.code yX4_digitAt cX4_digitAt 2 (some .int) ∈ BG := bg 858 (by decide +kernel) rfl
theorem q_912 : Cond.methodLink RX5 25 yX5_at ∈ BG := bg 912 (by decide +kernel) rfl
theorem q_913 : Cond.static yX5_at ∈ BG := bg 913 (by decide +kernel) rfl
theorem q_914 : Cond.code yX5_at cX5_at 1 (some .int) ∈ BG := bg 914 (by decide +kernel) rfl
theorem q_915 : Cond.fieldLink RX5 7 "AmendsLedgerModel" "z" "[I" ∈ BG := bg 915 (by decide +kernel) rfl
theorem q_916 : Cond.fieldLink RX5 13 "AmendsLedgerModel" "rows" "[I" ∈ BG := bg 916 (by decide +kernel) rfl
theorem q_917 : Cond.fieldLink RX5 16 "AmendsLedgerModel" "aside" "[I" ∈ BG := bg 917 (by decide +kernel) rfl
theorem q_918 : Cond.fieldLink RX5 33 "AmendsLedgerModel" "savedMany" "I" ∈ BG := bg 918 (by decide +kernel) rfl
theorem q_919 : Cond.fieldLink RX5 19 "AmendsLedgerModel" "buffer" "[I" ∈ BG := bg 919 (by decide +kernel) rfl
theorem q_920 : Cond.fieldLink RX5 128 "AmendsLedgerModel" "bufferMany" "I" ∈ BG := bg 920 (by decide +kernel) rfl
theorem q_921 : Cond.fieldLink RX5 29 "AmendsLedgerModel" "thrown" "I" ∈ BG := bg 921 (by decide +kernel) rfl
theorem q_922 : Cond.fieldLink RX5 112 "AmendsLedgerModel" "toppedUp" "I" ∈ BG := bg 922 (by decide +kernel) rfl
theorem q_923 : Cond.fieldLink RX5 131 "AmendsLedgerModel" "place" "I" ∈ BG := bg 923 (by decide +kernel) rfl
theorem q_924 : Cond.fieldLink RX5 134 "AmendsLedgerModel" "told" "I" ∈ BG := bg 924 (by decide +kernel) rfl
theorem q_925 : Cond.fieldLink RX5 22 "AmendsLedgerModel" "read" "[I" ∈ BG := bg 925 (by decide +kernel) rfl
theorem q_926 : Cond.fieldLink RX5 207 "AmendsLedgerModel" "h" "J" ∈ BG := bg 926 (by decide +kernel) rfl
theorem q_960 : Cond.methodLink RX5 60 yX5_isKind ∈ BG := bg 960 (by decide +kernel) rfl
theorem q_961 : Cond.static yX5_isKind ∈ BG := bg 961 (by decide +kernel) rfl
theorem q_962 : Cond.code yX5_isKind cX5_isKind 1 (some .boolean) ∈ BG := bg 962 (by decide +kernel) rfl
theorem q_963 : Cond.methodLink RX5 36 yX5_in ∈ BG := bg 963 (by decide +kernel) rfl
theorem q_964 : Cond.static yX5_in ∈ BG := bg 964 (by decide +kernel) rfl
theorem q_965 : Cond.code yX5_in cX5_in 3 (some .boolean) ∈ BG := bg 965 (by decide +kernel) rfl
theorem q_966 : Cond.methodLink RX5 64 yX5_fails ∈ BG := bg 966 (by decide +kernel) rfl
theorem q_968 : Cond.instanceMethod yX5_fails ∈ BG := bg 968 (by decide +kernel) rfl
theorem q_969 : Cond.code yX5_fails cX5_fails 2 (some .int) ∈ BG := bg 969 (by decide +kernel) rfl
theorem q_970 : Cond.methodLink RX5 67 yX5_save ∈ BG := bg 970 (by decide +kernel) rfl
theorem q_972 : Cond.instanceMethod yX5_save ∈ BG := bg 972 (by decide +kernel) rfl
theorem q_973 : Cond.code yX5_save cX5_save 2 none ∈ BG := bg 973 (by decide +kernel) rfl
theorem q_974 : Cond.methodLink RX5 44 yX5_menuAt ∈ BG := bg 974 (by decide +kernel) rfl
theorem q_975 : Cond.static yX5_menuAt ∈ BG := bg 975 (by decide +kernel) rfl
theorem q_976 : Cond.code yX5_menuAt cX5_menuAt 2 (some .int) ∈ BG := bg 976 (by decide +kernel) rfl
theorem q_981 : Cond.methodLink RX5 40 yX5_isAmends ∈ BG := bg 981 (by decide +kernel) rfl
theorem q_983 : Cond.instanceMethod yX5_isAmends ∈ BG := bg 983 (by decide +kernel) rfl
theorem q_984 : Cond.code yX5_isAmends cX5_isAmends 3 (some .boolean) ∈ BG := bg 984 (by decide +kernel) rfl
theorem q_985 : Cond.methodLink RX5 51 yX5_isOffered ∈ BG := bg 985 (by decide +kernel) rfl
theorem q_987 : Cond.instanceMethod yX5_isOffered ∈ BG := bg 987 (by decide +kernel) rfl
theorem q_988 : Cond.code yX5_isOffered cX5_isOffered 3 (some .boolean) ∈ BG := bg 988 (by decide +kernel) rfl
theorem q_989 : Cond.methodLink RX5 70 yX5_offered ∈ BG := bg 989 (by decide +kernel) rfl
theorem q_991 : Cond.instanceMethod yX5_offered ∈ BG := bg 991 (by decide +kernel) rfl
theorem q_992 : Cond.code yX5_offered cX5_offered 4 (some .int) ∈ BG := bg 992 (by decide +kernel) rfl
theorem q_1001 : Cond.methodLink RX5 73 yX5_maySet ∈ BG := bg 1001 (by decide +kernel) rfl
theorem q_1002 : Cond.static yX5_maySet ∈ BG := bg 1002 (by decide +kernel) rfl
theorem q_1003 : Cond.code yX5_maySet cX5_maySet 2 (some .boolean) ∈ BG := bg 1003 (by decide +kernel) rfl
theorem q_1008 : Cond.methodLink RX5 76 yX5_complainNow ∈ BG := bg 1008 (by decide +kernel) rfl
theorem q_1010 : Cond.instanceMethod yX5_complainNow ∈ BG := bg 1010 (by decide +kernel) rfl
theorem q_1011 : Cond.code yX5_complainNow cX5_complainNow 5 none ∈ BG := bg 1011 (by decide +kernel) rfl
theorem q_1012 : Cond.methodLink RX5 54 yX5_of ∈ BG := bg 1012 (by decide +kernel) rfl
theorem q_1013 : Cond.static yX5_of ∈ BG := bg 1013 (by decide +kernel) rfl
theorem q_1014 : Cond.code yX5_of cX5_of 1 (some .int) ∈ BG := bg 1014 (by decide +kernel) rfl
theorem q_1019 : Cond.methodLink RX5 99 yX5_isComplaint ∈ BG := bg 1019 (by decide +kernel) rfl
theorem q_1021 : Cond.instanceMethod yX5_isComplaint ∈ BG := bg 1021 (by decide +kernel) rfl
theorem q_1022 : Cond.code yX5_isComplaint cX5_isComplaint 2 (some .boolean) ∈ BG := bg 1022 (by decide +kernel) rfl
theorem q_1023 : Cond.methodLink RX5 95 yX5_whyDecided ∈ BG := bg 1023 (by decide +kernel) rfl
theorem q_1025 : Cond.instanceMethod yX5_whyDecided ∈ BG := bg 1025 (by decide +kernel) rfl
theorem q_1026 : Cond.code yX5_whyDecided cX5_whyDecided 6 (some .int) ∈ BG := bg 1026 (by decide +kernel) rfl
theorem q_1027 : Cond.methodLink RX5 80 yX5_group ∈ BG := bg 1027 (by decide +kernel) rfl
theorem q_1028 : Cond.static yX5_group ∈ BG := bg 1028 (by decide +kernel) rfl
theorem q_1029 : Cond.code yX5_group cX5_group 1 (some .int) ∈ BG := bg 1029 (by decide +kernel) rfl
theorem q_1030 : Cond.methodLink RX5 83 yX5_fits ∈ BG := bg 1030 (by decide +kernel) rfl
theorem q_1032 : Cond.instanceMethod yX5_fits ∈ BG := bg 1032 (by decide +kernel) rfl
theorem q_1033 : Cond.code yX5_fits cX5_fits 4 (some .boolean) ∈ BG := bg 1033 (by decide +kernel) rfl
theorem q_1034 : Cond.methodLink RX5 86 yX5_binds ∈ BG := bg 1034 (by decide +kernel) rfl
theorem q_1036 : Cond.instanceMethod yX5_binds ∈ BG := bg 1036 (by decide +kernel) rfl
theorem q_1037 : Cond.code yX5_binds cX5_binds 4 (some .boolean) ∈ BG := bg 1037 (by decide +kernel) rfl
theorem q_1038 : Cond.methodLink RX5 48 yX5_latest ∈ BG := bg 1038 (by decide +kernel) rfl
theorem q_1040 : Cond.instanceMethod yX5_latest ∈ BG := bg 1040 (by decide +kernel) rfl
theorem q_1041 : Cond.code yX5_latest cX5_latest 3 (some .int) ∈ BG := bg 1041 (by decide +kernel) rfl
theorem q_1042 : Cond.methodLink RX5 57 yX5_cost ∈ BG := bg 1042 (by decide +kernel) rfl
theorem q_1044 : Cond.instanceMethod yX5_cost ∈ BG := bg 1044 (by decide +kernel) rfl
theorem q_1045 : Cond.code yX5_cost cX5_cost 3 (some .int) ∈ BG := bg 1045 (by decide +kernel) rfl
theorem q_1046 : Cond.methodLink RX5 89 yX5_left ∈ BG := bg 1046 (by decide +kernel) rfl
theorem q_1048 : Cond.instanceMethod yX5_left ∈ BG := bg 1048 (by decide +kernel) rfl
theorem q_1049 : Cond.code yX5_left cX5_left 2 (some .int) ∈ BG := bg 1049 (by decide +kernel) rfl
theorem q_1050 : Cond.methodLink RX5 102 yX5_give ∈ BG := bg 1050 (by decide +kernel) rfl
theorem q_1052 : Cond.instanceMethod yX5_give ∈ BG := bg 1052 (by decide +kernel) rfl
theorem q_1053 : Cond.code yX5_give cX5_give 5 none ∈ BG := bg 1053 (by decide +kernel) rfl
theorem q_1054 : Cond.methodLink RX5 106 yX5_setPrecedent ∈ BG := bg 1054 (by decide +kernel) rfl
theorem q_1056 : Cond.instanceMethod yX5_setPrecedent ∈ BG := bg 1056 (by decide +kernel) rfl
theorem q_1057 : Cond.code yX5_setPrecedent cX5_setPrecedent 4 (some .int) ∈ BG := bg 1057 (by decide +kernel) rfl
theorem q_1062 : Cond.methodLink RX5 109 yX5_staged ∈ BG := bg 1062 (by decide +kernel) rfl
theorem q_1064 : Cond.instanceMethod yX5_staged ∈ BG := bg 1064 (by decide +kernel) rfl
theorem q_1065 : Cond.code yX5_staged cX5_staged 4 (some .int) ∈ BG := bg 1065 (by decide +kernel) rfl
theorem q_1070 : Cond.methodLink RX5 92 yX5_whyJudged ∈ BG := bg 1070 (by decide +kernel) rfl
theorem q_1072 : Cond.instanceMethod yX5_whyJudged ∈ BG := bg 1072 (by decide +kernel) rfl
theorem q_1073 : Cond.code yX5_whyJudged cX5_whyJudged 5 (some .int) ∈ BG := bg 1073 (by decide +kernel) rfl
theorem q_1074 : Cond.methodLink RX5 121 yX5_judgeNow ∈ BG := bg 1074 (by decide +kernel) rfl
theorem q_1076 : Cond.instanceMethod yX5_judgeNow ∈ BG := bg 1076 (by decide +kernel) rfl
theorem q_1077 : Cond.code yX5_judgeNow cX5_judgeNow 6 (some .int) ∈ BG := bg 1077 (by decide +kernel) rfl
theorem q_1078 : Cond.methodLink RX5 118 yX5_topUps ∈ BG := bg 1078 (by decide +kernel) rfl
theorem q_1080 : Cond.instanceMethod yX5_topUps ∈ BG := bg 1080 (by decide +kernel) rfl
theorem q_1081 : Cond.code yX5_topUps cX5_topUps 6 (some .int) ∈ BG := bg 1081 (by decide +kernel) rfl
theorem q_1082 : Cond.methodLink RX5 115 yX5_waitsFor ∈ BG := bg 1082 (by decide +kernel) rfl
theorem q_1084 : Cond.instanceMethod yX5_waitsFor ∈ BG := bg 1084 (by decide +kernel) rfl
theorem q_1085 : Cond.code yX5_waitsFor cX5_waitsFor 4 (some .int) ∈ BG := bg 1085 (by decide +kernel) rfl
theorem q_1090 : Cond.methodLink RX5 124 yX5_closeNow ∈ BG := bg 1090 (by decide +kernel) rfl
theorem q_1092 : Cond.instanceMethod yX5_closeNow ∈ BG := bg 1092 (by decide +kernel) rfl
theorem q_1093 : Cond.code yX5_closeNow cX5_closeNow 2 (some .int) ∈ BG := bg 1093 (by decide +kernel) rfl
theorem q_1106 : Cond.methodLink RX5 147 yX5_isText ∈ BG := bg 1106 (by decide +kernel) rfl
theorem q_1108 : Cond.instanceMethod yX5_isText ∈ BG := bg 1108 (by decide +kernel) rfl
theorem q_1109 : Cond.code yX5_isText cX5_isText 2 (some .boolean) ∈ BG := bg 1109 (by decide +kernel) rfl
theorem q_1110 : Cond.methodLink RX5 143 yX5_isOne ∈ BG := bg 1110 (by decide +kernel) rfl
theorem q_1112 : Cond.instanceMethod yX5_isOne ∈ BG := bg 1112 (by decide +kernel) rfl
theorem q_1113 : Cond.code yX5_isOne cX5_isOne 3 (some .boolean) ∈ BG := bg 1113 (by decide +kernel) rfl
theorem q_1114 : Cond.methodLink RX5 137 yX5_takes ∈ BG := bg 1114 (by decide +kernel) rfl
theorem q_1116 : Cond.instanceMethod yX5_takes ∈ BG := bg 1116 (by decide +kernel) rfl
theorem q_1117 : Cond.code yX5_takes cX5_takes 3 (some .boolean) ∈ BG := bg 1117 (by decide +kernel) rfl
theorem q_1118 : Cond.methodLink RX5 140 yX5_digit ∈ BG := bg 1118 (by decide +kernel) rfl
theorem q_1120 : Cond.instanceMethod yX5_digit ∈ BG := bg 1120 (by decide +kernel) rfl
theorem q_1121 : Cond.code yX5_digit cX5_digit 6 (some .boolean) ∈ BG := bg 1121 (by decide +kernel) rfl
theorem q_1134 : Cond.methodLink RX5 150 yX5_complaintOf ∈ BG := bg 1134 (by decide +kernel) rfl
theorem q_1136 : Cond.instanceMethod yX5_complaintOf ∈ BG := bg 1136 (by decide +kernel) rfl
theorem q_1137 : Cond.code yX5_complaintOf cX5_complaintOf 4 (some .int) ∈ BG := bg 1137 (by decide +kernel) rfl
theorem q_1142 : Cond.methodLink RX5 156 yX5_amendsOf ∈ BG := bg 1142 (by decide +kernel) rfl
theorem q_1144 : Cond.instanceMethod yX5_amendsOf ∈ BG := bg 1144 (by decide +kernel) rfl
theorem q_1145 : Cond.code yX5_amendsOf cX5_amendsOf 4 (some .int) ∈ BG := bg 1145 (by decide +kernel) rfl
theorem q_1146 : Cond.methodLink RX5 153 yX5_having ∈ BG := bg 1146 (by decide +kernel) rfl
theorem q_1148 : Cond.instanceMethod yX5_having ∈ BG := bg 1148 (by decide +kernel) rfl
theorem q_1149 : Cond.code yX5_having cX5_having 5 (some .int) ∈ BG := bg 1149 (by decide +kernel) rfl
theorem q_1154 : Cond.methodLink RX5 162 yX5_precedentOf ∈ BG := bg 1154 (by decide +kernel) rfl
theorem q_1156 : Cond.instanceMethod yX5_precedentOf ∈ BG := bg 1156 (by decide +kernel) rfl
theorem q_1157 : Cond.code yX5_precedentOf cX5_precedentOf 5 (some .int) ∈ BG := bg 1157 (by decide +kernel) rfl
theorem q_1158 : Cond.methodLink RX5 159 yX5_following ∈ BG := bg 1158 (by decide +kernel) rfl
theorem q_1160 : Cond.instanceMethod yX5_following ∈ BG := bg 1160 (by decide +kernel) rfl
theorem q_1161 : Cond.code yX5_following cX5_following 4 (some .int) ∈ BG := bg 1161 (by decide +kernel) rfl
theorem q_1166 : Cond.methodLink RX5 168 yX5_kindOf ∈ BG := bg 1166 (by decide +kernel) rfl
theorem q_1168 : Cond.instanceMethod yX5_kindOf ∈ BG := bg 1168 (by decide +kernel) rfl
theorem q_1169 : Cond.code yX5_kindOf cX5_kindOf 3 (some .int) ∈ BG := bg 1169 (by decide +kernel) rfl
theorem q_1170 : Cond.methodLink RX5 165 yX5_ofComplaints ∈ BG := bg 1170 (by decide +kernel) rfl
theorem q_1172 : Cond.instanceMethod yX5_ofComplaints ∈ BG := bg 1172 (by decide +kernel) rfl
theorem q_1173 : Cond.code yX5_ofComplaints cX5_ofComplaints 6 (some .int) ∈ BG := bg 1173 (by decide +kernel) rfl
theorem q_1178 : Cond.methodLink RX5 177 yX5_counted ∈ BG := bg 1178 (by decide +kernel) rfl
theorem q_1180 : Cond.instanceMethod yX5_counted ∈ BG := bg 1180 (by decide +kernel) rfl
theorem q_1181 : Cond.code yX5_counted cX5_counted 2 (some .int) ∈ BG := bg 1181 (by decide +kernel) rfl
theorem q_1182 : Cond.methodLink RX5 171 yX5_departing ∈ BG := bg 1182 (by decide +kernel) rfl
theorem q_1184 : Cond.instanceMethod yX5_departing ∈ BG := bg 1184 (by decide +kernel) rfl
theorem q_1185 : Cond.code yX5_departing cX5_departing 3 (some .int) ∈ BG := bg 1185 (by decide +kernel) rfl
theorem q_1186 : Cond.methodLink RX5 174 yX5_unequal ∈ BG := bg 1186 (by decide +kernel) rfl
theorem q_1188 : Cond.instanceMethod yX5_unequal ∈ BG := bg 1188 (by decide +kernel) rfl
theorem q_1189 : Cond.code yX5_unequal cX5_unequal 5 (some .int) ∈ BG := bg 1189 (by decide +kernel) rfl
theorem q_1198 : Cond.methodLink RX5 180 yX5_customerAt ∈ BG := bg 1198 (by decide +kernel) rfl
theorem q_1200 : Cond.instanceMethod yX5_customerAt ∈ BG := bg 1200 (by decide +kernel) rfl
theorem q_1201 : Cond.code yX5_customerAt cX5_customerAt 7 (some .int) ∈ BG := bg 1201 (by decide +kernel) rfl
theorem q_1206 : Cond.methodLink RX5 183 yX5_why ∈ BG := bg 1206 (by decide +kernel) rfl
theorem q_1208 : Cond.instanceMethod yX5_why ∈ BG := bg 1208 (by decide +kernel) rfl
theorem q_1209 : Cond.code yX5_why cX5_why 4 (some .int) ∈ BG := bg 1209 (by decide +kernel) rfl
theorem q_1214 : Cond.methodLink RX5 186 yX5_fairOf ∈ BG := bg 1214 (by decide +kernel) rfl
theorem q_1216 : Cond.instanceMethod yX5_fairOf ∈ BG := bg 1216 (by decide +kernel) rfl
theorem q_1217 : Cond.code yX5_fairOf cX5_fairOf 6 (some .int) ∈ BG := bg 1217 (by decide +kernel) rfl
theorem q_1222 : Cond.methodLink RX5 195 yX5_judgedOf ∈ BG := bg 1222 (by decide +kernel) rfl
theorem q_1224 : Cond.instanceMethod yX5_judgedOf ∈ BG := bg 1224 (by decide +kernel) rfl
theorem q_1225 : Cond.code yX5_judgedOf cX5_judgedOf 6 (some .int) ∈ BG := bg 1225 (by decide +kernel) rfl
theorem q_1226 : Cond.methodLink RX5 189 yX5_putAside ∈ BG := bg 1226 (by decide +kernel) rfl
theorem q_1228 : Cond.instanceMethod yX5_putAside ∈ BG := bg 1228 (by decide +kernel) rfl
theorem q_1229 : Cond.code yX5_putAside cX5_putAside 2 none ∈ BG := bg 1229 (by decide +kernel) rfl
theorem q_1230 : Cond.methodLink RX5 192 yX5_putBack ∈ BG := bg 1230 (by decide +kernel) rfl
theorem q_1232 : Cond.instanceMethod yX5_putBack ∈ BG := bg 1232 (by decide +kernel) rfl
theorem q_1233 : Cond.code yX5_putBack cX5_putBack 2 none ∈ BG := bg 1233 (by decide +kernel) rfl
theorem q_1238 : Cond.methodLink RX5 198 yX5_monthsOf ∈ BG := bg 1238 (by decide +kernel) rfl
theorem q_1240 : Cond.instanceMethod yX5_monthsOf ∈ BG := bg 1240 (by decide +kernel) rfl
theorem q_1241 : Cond.code yX5_monthsOf cX5_monthsOf 2 (some .int) ∈ BG := bg 1241 (by decide +kernel) rfl
theorem q_1246 : Cond.methodLink RX5 201 yX5_shareOf ∈ BG := bg 1246 (by decide +kernel) rfl
theorem q_1248 : Cond.instanceMethod yX5_shareOf ∈ BG := bg 1248 (by decide +kernel) rfl
theorem q_1249 : Cond.code yX5_shareOf cX5_shareOf 2 (some .double) ∈ BG := bg 1249 (by decide +kernel) rfl
theorem q_1254 : Cond.constantLong RX5 215 (2539) ∈ BG := bg 1254 (by decide +kernel) rfl
theorem q_1255 : Cond.methodLink RX5 211 yX5_mix ∈ BG := bg 1255 (by decide +kernel) rfl
theorem q_1257 : Cond.instanceMethod yX5_mix ∈ BG := bg 1257 (by decide +kernel) rfl
theorem q_1258 : Cond.code yX5_mix cX5_mix 3 none ∈ BG := bg 1258 (by decide +kernel) rfl
theorem q_1259 : Cond.constantLong RX5 205 (31) ∈ BG := bg 1259 (by decide +kernel) rfl
theorem q_1260 : Cond.methodLink RX5 217 yX5_mixKind ∈ BG := bg 1260 (by decide +kernel) rfl
theorem q_1262 : Cond.instanceMethod yX5_mixKind ∈ BG := bg 1262 (by decide +kernel) rfl
theorem q_1263 : Cond.code yX5_mixKind cX5_mixKind 3 none ∈ BG := bg 1263 (by decide +kernel) rfl
theorem q_1264 : Cond.methodLink RX5 221 yX5_mixComplaint ∈ BG := bg 1264 (by decide +kernel) rfl
theorem q_1266 : Cond.instanceMethod yX5_mixComplaint ∈ BG := bg 1266 (by decide +kernel) rfl
theorem q_1267 : Cond.code yX5_mixComplaint cX5_mixComplaint 3 none ∈ BG := bg 1267 (by decide +kernel) rfl
theorem q_1268 : Cond.methodLink RX5 224 yJD_doubleToLongBits ∈ BG := bg 1268 (by decide +kernel) rfl
theorem q_1269 : Cond.static yJD_doubleToLongBits ∈ BG := bg 1269 (by decide +kernel) rfl
theorem q_1270 : Cond.code yJD_doubleToLongBits cJD_doubleToLongBits 2 (some .long) ∈ BG := bg 1270 (by decide +kernel) rfl
theorem q_1271 : Cond.methodLink RJD 122 yJD_isNaN ∈ BG := bg 1271 (by decide +kernel) rfl
theorem q_1272 : Cond.static yJD_isNaN ∈ BG := bg 1272 (by decide +kernel) rfl
theorem q_1273 : Cond.code yJD_isNaN cJD_isNaN 2 (some .boolean) ∈ BG := bg 1273 (by decide +kernel) rfl
theorem q_1274 : Cond.methodLink RJD 134 yJD_doubleToRawLongBits ∈ BG := bg 1274 (by decide +kernel) rfl
theorem q_1275 : Cond.static yJD_doubleToRawLongBits ∈ BG := bg 1275 (by decide +kernel) rfl
theorem q_1276 : Cond.native yJD_doubleToRawLongBits ∈ BG := bg 1276 (by decide +kernel) rfl
theorem q_1277 : Cond.constantLong RJD 137 (9221120237041090560) ∈ BG := bg 1277 (by decide +kernel) rfl
theorem nw_119 : (Cond.fieldLinkNest RX4 92 "AmendsLedger$Complaints" "size" "I" "AmendsLedger") ∈ NW := List.mem_of_getElem? (i := 0) rfl
theorem nw_120 : (Cond.fieldLinkNest RX3 121 "AmendsLedger$Complaints" "size" "I" "AmendsLedger") ∈ NW := List.mem_of_getElem? (i := 1) rfl
theorem nw_161 : (Cond.fieldLinkNest RX4 234 "AmendsLedger$Precedents" "size" "I" "AmendsLedger") ∈ NW := List.mem_of_getElem? (i := 2) rfl
theorem nw_177 : (Cond.fieldLinkNest RX3 45 "AmendsLedger" "FIRST_SETTING" "[I" "AmendsLedger") ∈ NW := List.mem_of_getElem? (i := 3) rfl
theorem nw_190 : (Cond.fieldLinkNest RX4 42 "AmendsLedger$State" "menus" "LAmendsLedger$Menus;" "AmendsLedger") ∈ NW := List.mem_of_getElem? (i := 4) rfl
theorem nw_192 : (Cond.fieldLinkNest RX4 88 "AmendsLedger$State" "complaints" "LAmendsLedger$Complaints;" "AmendsLedger") ∈ NW := List.mem_of_getElem? (i := 5) rfl
theorem nw_194 : (Cond.fieldLinkNest RX4 179 "AmendsLedger$State" "precedents" "LAmendsLedger$Precedents;" "AmendsLedger") ∈ NW := List.mem_of_getElem? (i := 6) rfl
theorem nw_200 : (Cond.fieldLinkNest RX4 125 "AmendsLedger$State" "month" "I" "AmendsLedger") ∈ NW := List.mem_of_getElem? (i := 7) rfl
theorem nw_91 : (Cond.methodLinkNest RX3 11 yX1_init RX4) ∈ NW := List.mem_of_getElem? (i := 8) rfl
theorem nw_114 : (Cond.methodLinkNest RX3 20 yX0_init RX4) ∈ NW := List.mem_of_getElem? (i := 9) rfl
theorem nw_179 : (Cond.methodLinkNest RX3 48 yX4_copyAll RX4) ∈ NW := List.mem_of_getElem? (i := 10) rfl
theorem nw_300 : (Cond.methodLinkNest RX1 31 yX4_isKind RX4) ∈ NW := List.mem_of_getElem? (i := 11) rfl
theorem nw_318 : (Cond.methodLinkNest RX1 27 yX4_copyAll RX4) ∈ NW := List.mem_of_getElem? (i := 12) rfl
theorem nw_323 : (Cond.methodLinkNest RX0 43 yX4_copyAll RX4) ∈ NW := List.mem_of_getElem? (i := 13) rfl
theorem nw_328 : (Cond.methodLinkNest RX2 34 yX4_copyAll RX4) ∈ NW := List.mem_of_getElem? (i := 14) rfl
theorem nw_337 : (Cond.methodLinkNest RX3 76 yX4_isKind RX4) ∈ NW := List.mem_of_getElem? (i := 15) rfl
theorem nw_342 : (Cond.methodLinkNest RX3 72 yX4_isSetting RX4) ∈ NW := List.mem_of_getElem? (i := 16) rfl
theorem nw_573 : (Cond.methodLinkNest RX2 38 yX4_isKind RX4) ∈ NW := List.mem_of_getElem? (i := 17) rfl
theorem nw_574 : (Cond.methodLinkNest RX2 42 yX4_isGroup RX4) ∈ NW := List.mem_of_getElem? (i := 18) rfl
theorem nw_641 : (Cond.methodLinkNest RX1 46 yX4_isWithin RX4) ∈ NW := List.mem_of_getElem? (i := 19) rfl
theorem inB_of {ws : List Cond} (is : List Nat) (h : ws = is.filterMap (fun i => lw_tbl[i]?)) (g : ws.all goodWord = true) : ∀ w ∈ ws, w ∈ BG := by
  intro w hw
  have h1 := List.all_eq_true.mp g w hw
  rw [h] at hw
  obtain ⟨i, -, hi⟩ := List.mem_filterMap.mp hw
  exact bg i hi h1
theorem inB_X0 : ∀ w ∈ u_ws RX0 TX0 10, w ∈ BG := inB_of [130, 132, 134, 136, 138, 140, 142, 144, 146, 148] (by decide +kernel) (by decide +kernel)
theorem inB_X1 : ∀ w ∈ u_ws RX1 TX1 5, w ∈ BG := inB_of [100, 102, 104, 106, 108] (by decide +kernel) (by decide +kernel)
theorem inB_X2 : ∀ w ∈ u_ws RX2 TX2 5, w ∈ BG := inB_of [166, 168, 170, 172, 174] (by decide +kernel) (by decide +kernel)
theorem inB_X3 : ∀ w ∈ u_ws RX3 TX3 8, w ∈ BG := inB_of [201, 203, 205, 207, 209, 211, 213, 215] (by decide +kernel) (by decide +kernel)
theorem inB_X4 : ∀ w ∈ u_ws RX4 TX4 7, w ∈ BG := inB_of [226, 228, 230, 232, 234, 236, 238] (by decide +kernel) (by decide +kernel)
theorem inB_X5 : ∀ w ∈ u_ws RX5 TX5 12, w ∈ BG := inB_of [927, 929, 931, 933, 935, 937, 939, 941, 943, 945, 947, 949] (by decide +kernel) (by decide +kernel)
section LK
variable {p : Program} {l : Launch} {e : Env} {R : Room} {s : State} {mi : MethodId} {args : Array Value} {below : List Frame} {meth : Method} {cd : Code} {H : Heap} {locs : List Loc} {cells slots : Nat} {Q : State → Prop}
variable {cc : ByteArray} {pc : Nat} {ls : Array Slot} {rest : List Value} {E : TE} {x m : XS} {g o : Int64}
theorem gf_X0_9 (hx : p.tables.exec = Jvm.exec) (hb : cd.code = cc) (hB : ∀ w ∈ BG, w.before args s = true) (hK : Ks E s) (hown : s.vm.findClass RX0 = some mi.cls) (hW : Wd E x m g o H) {b : Nat} (hbk : IsB b) (hdg : decode cc pc = .ok (.getfield 9, 3)) (kk : W p l e R s mi args below meth cd H locs cells slots Q (F0 mi (pc + 3) ls (rf E (b + 8) :: rest))) : W p l e R s mi args below meth cd H locs cells slots Q (F0 mi pc ls (rf E (b + 7) :: rest)) :=
  r_get hx hb hB hK (own := RX0) (C := RX0) (T := TX0) (N := 10) (ci := 0) inB_X0 hown hW (hbk.l8 (j := 7) (by decide)) (cB_7 hbk) rfl 1 (by decide) rfl q_121 rfl hdg kk
theorem gf_X0_15 (hx : p.tables.exec = Jvm.exec) (hb : cd.code = cc) (hB : ∀ w ∈ BG, w.before args s = true) (hK : Ks E s) (hown : s.vm.findClass RX0 = some mi.cls) (hW : Wd E x m g o H) {b : Nat} (hbk : IsB b) (hdg : decode cc pc = .ok (.getfield 15, 3)) (kk : W p l e R s mi args below meth cd H locs cells slots Q (F0 mi (pc + 3) ls (rf E (b + 9) :: rest))) : W p l e R s mi args below meth cd H locs cells slots Q (F0 mi pc ls (rf E (b + 7) :: rest)) :=
  r_get hx hb hB hK (own := RX0) (C := RX0) (T := TX0) (N := 10) (ci := 0) inB_X0 hown hW (hbk.l8 (j := 7) (by decide)) (cB_7 hbk) rfl 2 (by decide) rfl q_122 rfl hdg kk
theorem gf_X0_18 (hx : p.tables.exec = Jvm.exec) (hb : cd.code = cc) (hB : ∀ w ∈ BG, w.before args s = true) (hK : Ks E s) (hown : s.vm.findClass RX0 = some mi.cls) (hW : Wd E x m g o H) {b : Nat} (hbk : IsB b) (hdg : decode cc pc = .ok (.getfield 18, 3)) (kk : W p l e R s mi args below meth cd H locs cells slots Q (F0 mi (pc + 3) ls (rf E (b + 10) :: rest))) : W p l e R s mi args below meth cd H locs cells slots Q (F0 mi pc ls (rf E (b + 7) :: rest)) :=
  r_get hx hb hB hK (own := RX0) (C := RX0) (T := TX0) (N := 10) (ci := 0) inB_X0 hown hW (hbk.l8 (j := 7) (by decide)) (cB_7 hbk) rfl 3 (by decide) rfl q_123 rfl hdg kk
theorem gf_X0_21 (hx : p.tables.exec = Jvm.exec) (hb : cd.code = cc) (hB : ∀ w ∈ BG, w.before args s = true) (hK : Ks E s) (hown : s.vm.findClass RX0 = some mi.cls) (hW : Wd E x m g o H) {b : Nat} (hbk : IsB b) (hdg : decode cc pc = .ok (.getfield 21, 3)) (kk : W p l e R s mi args below meth cd H locs cells slots Q (F0 mi (pc + 3) ls (rf E (b + 11) :: rest))) : W p l e R s mi args below meth cd H locs cells slots Q (F0 mi pc ls (rf E (b + 7) :: rest)) :=
  r_get hx hb hB hK (own := RX0) (C := RX0) (T := TX0) (N := 10) (ci := 0) inB_X0 hown hW (hbk.l8 (j := 7) (by decide)) (cB_7 hbk) rfl 4 (by decide) rfl q_124 rfl hdg kk
theorem gf_X0_24 (hx : p.tables.exec = Jvm.exec) (hb : cd.code = cc) (hB : ∀ w ∈ BG, w.before args s = true) (hK : Ks E s) (hown : s.vm.findClass RX0 = some mi.cls) (hW : Wd E x m g o H) {b : Nat} (hbk : IsB b) (hdg : decode cc pc = .ok (.getfield 24, 3)) (kk : W p l e R s mi args below meth cd H locs cells slots Q (F0 mi (pc + 3) ls (rf E (b + 12) :: rest))) : W p l e R s mi args below meth cd H locs cells slots Q (F0 mi pc ls (rf E (b + 7) :: rest)) :=
  r_get hx hb hB hK (own := RX0) (C := RX0) (T := TX0) (N := 10) (ci := 0) inB_X0 hown hW (hbk.l8 (j := 7) (by decide)) (cB_7 hbk) rfl 5 (by decide) rfl q_125 rfl hdg kk
theorem gf_X0_27 (hx : p.tables.exec = Jvm.exec) (hb : cd.code = cc) (hB : ∀ w ∈ BG, w.before args s = true) (hK : Ks E s) (hown : s.vm.findClass RX0 = some mi.cls) (hW : Wd E x m g o H) {b : Nat} (hbk : IsB b) (hdg : decode cc pc = .ok (.getfield 27, 3)) (kk : W p l e R s mi args below meth cd H locs cells slots Q (F0 mi (pc + 3) ls (rf E (b + 13) :: rest))) : W p l e R s mi args below meth cd H locs cells slots Q (F0 mi pc ls (rf E (b + 7) :: rest)) :=
  r_get hx hb hB hK (own := RX0) (C := RX0) (T := TX0) (N := 10) (ci := 0) inB_X0 hown hW (hbk.l8 (j := 7) (by decide)) (cB_7 hbk) rfl 6 (by decide) rfl q_126 rfl hdg kk
theorem gf_X0_30 (hx : p.tables.exec = Jvm.exec) (hb : cd.code = cc) (hB : ∀ w ∈ BG, w.before args s = true) (hK : Ks E s) (hown : s.vm.findClass RX0 = some mi.cls) (hW : Wd E x m g o H) {b : Nat} (hbk : IsB b) (hdg : decode cc pc = .ok (.getfield 30, 3)) (kk : W p l e R s mi args below meth cd H locs cells slots Q (F0 mi (pc + 3) ls (rf E (b + 14) :: rest))) : W p l e R s mi args below meth cd H locs cells slots Q (F0 mi pc ls (rf E (b + 7) :: rest)) :=
  r_get hx hb hB hK (own := RX0) (C := RX0) (T := TX0) (N := 10) (ci := 0) inB_X0 hown hW (hbk.l8 (j := 7) (by decide)) (cB_7 hbk) rfl 7 (by decide) rfl q_127 rfl hdg kk
theorem gf_X0_33 (hx : p.tables.exec = Jvm.exec) (hb : cd.code = cc) (hB : ∀ w ∈ BG, w.before args s = true) (hK : Ks E s) (hown : s.vm.findClass RX0 = some mi.cls) (hW : Wd E x m g o H) {b : Nat} (hbk : IsB b) (hdg : decode cc pc = .ok (.getfield 33, 3)) (kk : W p l e R s mi args below meth cd H locs cells slots Q (F0 mi (pc + 3) ls (rf E (b + 15) :: rest))) : W p l e R s mi args below meth cd H locs cells slots Q (F0 mi pc ls (rf E (b + 7) :: rest)) :=
  r_get hx hb hB hK (own := RX0) (C := RX0) (T := TX0) (N := 10) (ci := 0) inB_X0 hown hW (hbk.l8 (j := 7) (by decide)) (cB_7 hbk) rfl 8 (by decide) rfl q_128 rfl hdg kk
theorem gf_X0_36 (hx : p.tables.exec = Jvm.exec) (hb : cd.code = cc) (hB : ∀ w ∈ BG, w.before args s = true) (hK : Ks E s) (hown : s.vm.findClass RX0 = some mi.cls) (hW : Wd E x m g o H) {b : Nat} (hbk : IsB b) (hdg : decode cc pc = .ok (.getfield 36, 3)) (kk : W p l e R s mi args below meth cd H locs cells slots Q (F0 mi (pc + 3) ls (rf E (b + 16) :: rest))) : W p l e R s mi args below meth cd H locs cells slots Q (F0 mi pc ls (rf E (b + 7) :: rest)) :=
  r_get hx hb hB hK (own := RX0) (C := RX0) (T := TX0) (N := 10) (ci := 0) inB_X0 hown hW (hbk.l8 (j := 7) (by decide)) (cB_7 hbk) rfl 9 (by decide) rfl q_129 rfl hdg kk
theorem gf_X0_39 (hx : p.tables.exec = Jvm.exec) (hb : cd.code = cc) (hB : ∀ w ∈ BG, w.before args s = true) (hK : Ks E s) (hown : s.vm.findClass RX0 = some mi.cls) (hW : Wd E x m g o H) {b : Nat} (hbk : IsB b) (hdg : decode cc pc = .ok (.getfield 39, 3)) (kk : W p l e R s mi args below meth cd H locs cells slots Q (F0 mi (pc + 3) ls (.int (x (b + 7) 0) :: rest))) : W p l e R s mi args below meth cd H locs cells slots Q (F0 mi pc ls (rf E (b + 7) :: rest)) :=
  r_get hx hb hB hK (own := RX0) (C := RX0) (T := TX0) (N := 10) (ci := 0) inB_X0 hown hW (hbk.l8 (j := 7) (by decide)) (cB_7 hbk) rfl 0 (by decide) rfl q_118 rfl hdg kk
theorem gf_X1_9 (hx : p.tables.exec = Jvm.exec) (hb : cd.code = cc) (hB : ∀ w ∈ BG, w.before args s = true) (hK : Ks E s) (hown : s.vm.findClass RX1 = some mi.cls) (hW : Wd E x m g o H) {b : Nat} (hbk : IsB b) (hdg : decode cc pc = .ok (.getfield 9, 3)) (kk : W p l e R s mi args below meth cd H locs cells slots Q (F0 mi (pc + 3) ls (rf E (b + 2) :: rest))) : W p l e R s mi args below meth cd H locs cells slots Q (F0 mi pc ls (rf E (b + 1) :: rest)) :=
  r_get hx hb hB hK (own := RX1) (C := RX1) (T := TX1) (N := 5) (ci := 1) inB_X1 hown hW (hbk.l8 (j := 1) (by decide)) (cB_1 hbk) rfl 0 (by decide) rfl q_95 rfl hdg kk
theorem gf_X1_15 (hx : p.tables.exec = Jvm.exec) (hb : cd.code = cc) (hB : ∀ w ∈ BG, w.before args s = true) (hK : Ks E s) (hown : s.vm.findClass RX1 = some mi.cls) (hW : Wd E x m g o H) {b : Nat} (hbk : IsB b) (hdg : decode cc pc = .ok (.getfield 15, 3)) (kk : W p l e R s mi args below meth cd H locs cells slots Q (F0 mi (pc + 3) ls (rf E (b + 3) :: rest))) : W p l e R s mi args below meth cd H locs cells slots Q (F0 mi pc ls (rf E (b + 1) :: rest)) :=
  r_get hx hb hB hK (own := RX1) (C := RX1) (T := TX1) (N := 5) (ci := 1) inB_X1 hown hW (hbk.l8 (j := 1) (by decide)) (cB_1 hbk) rfl 1 (by decide) rfl q_96 rfl hdg kk
theorem gf_X1_18 (hx : p.tables.exec = Jvm.exec) (hb : cd.code = cc) (hB : ∀ w ∈ BG, w.before args s = true) (hK : Ks E s) (hown : s.vm.findClass RX1 = some mi.cls) (hW : Wd E x m g o H) {b : Nat} (hbk : IsB b) (hdg : decode cc pc = .ok (.getfield 18, 3)) (kk : W p l e R s mi args below meth cd H locs cells slots Q (F0 mi (pc + 3) ls (rf E (b + 4) :: rest))) : W p l e R s mi args below meth cd H locs cells slots Q (F0 mi pc ls (rf E (b + 1) :: rest)) :=
  r_get hx hb hB hK (own := RX1) (C := RX1) (T := TX1) (N := 5) (ci := 1) inB_X1 hown hW (hbk.l8 (j := 1) (by decide)) (cB_1 hbk) rfl 2 (by decide) rfl q_97 rfl hdg kk
theorem gf_X1_21 (hx : p.tables.exec = Jvm.exec) (hb : cd.code = cc) (hB : ∀ w ∈ BG, w.before args s = true) (hK : Ks E s) (hown : s.vm.findClass RX1 = some mi.cls) (hW : Wd E x m g o H) {b : Nat} (hbk : IsB b) (hdg : decode cc pc = .ok (.getfield 21, 3)) (kk : W p l e R s mi args below meth cd H locs cells slots Q (F0 mi (pc + 3) ls (rf E (b + 5) :: rest))) : W p l e R s mi args below meth cd H locs cells slots Q (F0 mi pc ls (rf E (b + 1) :: rest)) :=
  r_get hx hb hB hK (own := RX1) (C := RX1) (T := TX1) (N := 5) (ci := 1) inB_X1 hown hW (hbk.l8 (j := 1) (by decide)) (cB_1 hbk) rfl 3 (by decide) rfl q_98 rfl hdg kk
theorem gf_X1_24 (hx : p.tables.exec = Jvm.exec) (hb : cd.code = cc) (hB : ∀ w ∈ BG, w.before args s = true) (hK : Ks E s) (hown : s.vm.findClass RX1 = some mi.cls) (hW : Wd E x m g o H) {b : Nat} (hbk : IsB b) (hdg : decode cc pc = .ok (.getfield 24, 3)) (kk : W p l e R s mi args below meth cd H locs cells slots Q (F0 mi (pc + 3) ls (rf E (b + 6) :: rest))) : W p l e R s mi args below meth cd H locs cells slots Q (F0 mi pc ls (rf E (b + 1) :: rest)) :=
  r_get hx hb hB hK (own := RX1) (C := RX1) (T := TX1) (N := 5) (ci := 1) inB_X1 hown hW (hbk.l8 (j := 1) (by decide)) (cB_1 hbk) rfl 4 (by decide) rfl q_99 rfl hdg kk
theorem gf_X2_9 (hx : p.tables.exec = Jvm.exec) (hb : cd.code = cc) (hB : ∀ w ∈ BG, w.before args s = true) (hK : Ks E s) (hown : s.vm.findClass RX2 = some mi.cls) (hW : Wd E x m g o H) {b : Nat} (hbk : IsB b) (hdg : decode cc pc = .ok (.getfield 9, 3)) (kk : W p l e R s mi args below meth cd H locs cells slots Q (F0 mi (pc + 3) ls (rf E (b + 18) :: rest))) : W p l e R s mi args below meth cd H locs cells slots Q (F0 mi pc ls (rf E (b + 17) :: rest)) :=
  r_get hx hb hB hK (own := RX2) (C := RX2) (T := TX2) (N := 5) (ci := 2) inB_X2 hown hW (hbk.l8 (j := 17) (by decide)) (cB_17 hbk) rfl 1 (by decide) rfl q_162 rfl hdg kk
theorem gf_X2_15 (hx : p.tables.exec = Jvm.exec) (hb : cd.code = cc) (hB : ∀ w ∈ BG, w.before args s = true) (hK : Ks E s) (hown : s.vm.findClass RX2 = some mi.cls) (hW : Wd E x m g o H) {b : Nat} (hbk : IsB b) (hdg : decode cc pc = .ok (.getfield 15, 3)) (kk : W p l e R s mi args below meth cd H locs cells slots Q (F0 mi (pc + 3) ls (rf E (b + 19) :: rest))) : W p l e R s mi args below meth cd H locs cells slots Q (F0 mi pc ls (rf E (b + 17) :: rest)) :=
  r_get hx hb hB hK (own := RX2) (C := RX2) (T := TX2) (N := 5) (ci := 2) inB_X2 hown hW (hbk.l8 (j := 17) (by decide)) (cB_17 hbk) rfl 2 (by decide) rfl q_163 rfl hdg kk
theorem gf_X2_18 (hx : p.tables.exec = Jvm.exec) (hb : cd.code = cc) (hB : ∀ w ∈ BG, w.before args s = true) (hK : Ks E s) (hown : s.vm.findClass RX2 = some mi.cls) (hW : Wd E x m g o H) {b : Nat} (hbk : IsB b) (hdg : decode cc pc = .ok (.getfield 18, 3)) (kk : W p l e R s mi args below meth cd H locs cells slots Q (F0 mi (pc + 3) ls (rf E (b + 20) :: rest))) : W p l e R s mi args below meth cd H locs cells slots Q (F0 mi pc ls (rf E (b + 17) :: rest)) :=
  r_get hx hb hB hK (own := RX2) (C := RX2) (T := TX2) (N := 5) (ci := 2) inB_X2 hown hW (hbk.l8 (j := 17) (by decide)) (cB_17 hbk) rfl 3 (by decide) rfl q_164 rfl hdg kk
theorem gf_X2_21 (hx : p.tables.exec = Jvm.exec) (hb : cd.code = cc) (hB : ∀ w ∈ BG, w.before args s = true) (hK : Ks E s) (hown : s.vm.findClass RX2 = some mi.cls) (hW : Wd E x m g o H) {b : Nat} (hbk : IsB b) (hdg : decode cc pc = .ok (.getfield 21, 3)) (kk : W p l e R s mi args below meth cd H locs cells slots Q (F0 mi (pc + 3) ls (rf E (b + 21) :: rest))) : W p l e R s mi args below meth cd H locs cells slots Q (F0 mi pc ls (rf E (b + 17) :: rest)) :=
  r_get hx hb hB hK (own := RX2) (C := RX2) (T := TX2) (N := 5) (ci := 2) inB_X2 hown hW (hbk.l8 (j := 17) (by decide)) (cB_17 hbk) rfl 4 (by decide) rfl q_165 rfl hdg kk
theorem gf_X2_30 (hx : p.tables.exec = Jvm.exec) (hb : cd.code = cc) (hB : ∀ w ∈ BG, w.before args s = true) (hK : Ks E s) (hown : s.vm.findClass RX2 = some mi.cls) (hW : Wd E x m g o H) {b : Nat} (hbk : IsB b) (hdg : decode cc pc = .ok (.getfield 30, 3)) (kk : W p l e R s mi args below meth cd H locs cells slots Q (F0 mi (pc + 3) ls (.int (x (b + 17) 0) :: rest))) : W p l e R s mi args below meth cd H locs cells slots Q (F0 mi pc ls (rf E (b + 17) :: rest)) :=
  r_get hx hb hB hK (own := RX2) (C := RX2) (T := TX2) (N := 5) (ci := 2) inB_X2 hown hW (hbk.l8 (j := 17) (by decide)) (cB_17 hbk) rfl 0 (by decide) rfl q_160 rfl hdg kk
theorem gf_X3_12 (hx : p.tables.exec = Jvm.exec) (hb : cd.code = cc) (hB : ∀ w ∈ BG, w.before args s = true) (hK : Ks E s) (hown : s.vm.findClass RX3 = some mi.cls) (hW : Wd E x m g o H) {b : Nat} (hbk : IsB b) (hdg : decode cc pc = .ok (.getfield 12, 3)) (kk : W p l e R s mi args below meth cd H locs cells slots Q (F0 mi (pc + 3) ls (rf E (b + 1) :: rest))) : W p l e R s mi args below meth cd H locs cells slots Q (F0 mi pc ls (rf E b :: rest)) :=
  r_get hx hb hB hK (own := RX3) (C := RX3) (T := TX3) (N := 8) (ci := 3) inB_X3 hown hW hbk.l0 (cB_0 hbk) rfl 0 (by decide) rfl q_189 rfl hdg kk
theorem gf_X3_21 (hx : p.tables.exec = Jvm.exec) (hb : cd.code = cc) (hB : ∀ w ∈ BG, w.before args s = true) (hK : Ks E s) (hown : s.vm.findClass RX3 = some mi.cls) (hW : Wd E x m g o H) {b : Nat} (hbk : IsB b) (hdg : decode cc pc = .ok (.getfield 21, 3)) (kk : W p l e R s mi args below meth cd H locs cells slots Q (F0 mi (pc + 3) ls (rf E (b + 7) :: rest))) : W p l e R s mi args below meth cd H locs cells slots Q (F0 mi pc ls (rf E b :: rest)) :=
  r_get hx hb hB hK (own := RX3) (C := RX3) (T := TX3) (N := 8) (ci := 3) inB_X3 hown hW hbk.l0 (cB_0 hbk) rfl 1 (by decide) rfl q_191 rfl hdg kk
theorem gf_X3_28 (hx : p.tables.exec = Jvm.exec) (hb : cd.code = cc) (hB : ∀ w ∈ BG, w.before args s = true) (hK : Ks E s) (hown : s.vm.findClass RX3 = some mi.cls) (hW : Wd E x m g o H) {b : Nat} (hbk : IsB b) (hdg : decode cc pc = .ok (.getfield 28, 3)) (kk : W p l e R s mi args below meth cd H locs cells slots Q (F0 mi (pc + 3) ls (rf E (b + 17) :: rest))) : W p l e R s mi args below meth cd H locs cells slots Q (F0 mi pc ls (rf E b :: rest)) :=
  r_get hx hb hB hK (own := RX3) (C := RX3) (T := TX3) (N := 8) (ci := 3) inB_X3 hown hW hbk.l0 (cB_0 hbk) rfl 2 (by decide) rfl q_193 rfl hdg kk
theorem gf_X3_32 (hx : p.tables.exec = Jvm.exec) (hb : cd.code = cc) (hB : ∀ w ∈ BG, w.before args s = true) (hK : Ks E s) (hown : s.vm.findClass RX3 = some mi.cls) (hW : Wd E x m g o H) {b : Nat} (hbk : IsB b) (hdg : decode cc pc = .ok (.getfield 32, 3)) (kk : W p l e R s mi args below meth cd H locs cells slots Q (F0 mi (pc + 3) ls (rf E (b + 22) :: rest))) : W p l e R s mi args below meth cd H locs cells slots Q (F0 mi pc ls (rf E b :: rest)) :=
  r_get hx hb hB hK (own := RX3) (C := RX3) (T := TX3) (N := 8) (ci := 3) inB_X3 hown hW hbk.l0 (cB_0 hbk) rfl 3 (by decide) rfl q_195 rfl hdg kk
theorem gf_X3_36 (hx : p.tables.exec = Jvm.exec) (hb : cd.code = cc) (hB : ∀ w ∈ BG, w.before args s = true) (hK : Ks E s) (hown : s.vm.findClass RX3 = some mi.cls) (hW : Wd E x m g o H) {b : Nat} (hbk : IsB b) (hdg : decode cc pc = .ok (.getfield 36, 3)) (kk : W p l e R s mi args below meth cd H locs cells slots Q (F0 mi (pc + 3) ls (rf E (b + 23) :: rest))) : W p l e R s mi args below meth cd H locs cells slots Q (F0 mi pc ls (rf E b :: rest)) :=
  r_get hx hb hB hK (own := RX3) (C := RX3) (T := TX3) (N := 8) (ci := 3) inB_X3 hown hW hbk.l0 (cB_0 hbk) rfl 4 (by decide) rfl q_196 rfl hdg kk
theorem gf_X3_39 (hx : p.tables.exec = Jvm.exec) (hb : cd.code = cc) (hB : ∀ w ∈ BG, w.before args s = true) (hK : Ks E s) (hown : s.vm.findClass RX3 = some mi.cls) (hW : Wd E x m g o H) {b : Nat} (hbk : IsB b) (hdg : decode cc pc = .ok (.getfield 39, 3)) (kk : W p l e R s mi args below meth cd H locs cells slots Q (F0 mi (pc + 3) ls (rf E (b + 24) :: rest))) : W p l e R s mi args below meth cd H locs cells slots Q (F0 mi pc ls (rf E b :: rest)) :=
  r_get hx hb hB hK (own := RX3) (C := RX3) (T := TX3) (N := 8) (ci := 3) inB_X3 hown hW hbk.l0 (cB_0 hbk) rfl 5 (by decide) rfl q_197 rfl hdg kk
theorem gf_X3_42 (hx : p.tables.exec = Jvm.exec) (hb : cd.code = cc) (hB : ∀ w ∈ BG, w.before args s = true) (hK : Ks E s) (hown : s.vm.findClass RX3 = some mi.cls) (hW : Wd E x m g o H) {b : Nat} (hbk : IsB b) (hdg : decode cc pc = .ok (.getfield 42, 3)) (kk : W p l e R s mi args below meth cd H locs cells slots Q (F0 mi (pc + 3) ls (rf E (b + 25) :: rest))) : W p l e R s mi args below meth cd H locs cells slots Q (F0 mi pc ls (rf E b :: rest)) :=
  r_get hx hb hB hK (own := RX3) (C := RX3) (T := TX3) (N := 8) (ci := 3) inB_X3 hown hW hbk.l0 (cB_0 hbk) rfl 6 (by decide) rfl q_198 rfl hdg kk
theorem gf_X3_68 (hx : p.tables.exec = Jvm.exec) (hb : cd.code = cc) (hB : ∀ w ∈ BG, w.before args s = true) (hK : Ks E s) (hown : s.vm.findClass RX3 = some mi.cls) (hW : Wd E x m g o H) {b : Nat} (hbk : IsB b) (hdg : decode cc pc = .ok (.getfield 68, 3)) (kk : W p l e R s mi args below meth cd H locs cells slots Q (F0 mi (pc + 3) ls (.int (x b 7) :: rest))) : W p l e R s mi args below meth cd H locs cells slots Q (F0 mi pc ls (rf E b :: rest)) :=
  r_get hx hb hB hK (own := RX3) (C := RX3) (T := TX3) (N := 8) (ci := 3) inB_X3 hown hW hbk.l0 (cB_0 hbk) rfl 7 (by decide) rfl q_199 rfl hdg kk
theorem gf_X3_121 (hx : p.tables.exec = Jvm.exec) (hb : cd.code = cc) (hB : ∀ w ∈ BG, w.before args s = true) (hK : Ks E s) (hown : s.vm.findClass RX3 = some mi.cls) (hW : Wd E x m g o H) {b : Nat} (hbk : IsB b) (hdg : decode cc pc = .ok (.getfield 121, 3)) (kk : W p l e R s mi args below meth cd H locs cells slots Q (F0 mi (pc + 3) ls (.int (x (b + 7) 0) :: rest))) : W p l e R s mi args below meth cd H locs cells slots Q (F0 mi pc ls (rf E (b + 7) :: rest)) :=
  r_getN (host := "AmendsLedger") hx hb hB hK (own := RX3) (C := RX0) (T := TX0) (N := 10) (ci := 0) inB_X0 hown hW (hbk.l8 (j := 7) (by decide)) (cB_7 hbk) rfl 0 (by decide) rfl nw_120 rfl hdg kk
theorem gf_X4_10 (hx : p.tables.exec = Jvm.exec) (hb : cd.code = cc) (hB : ∀ w ∈ BG, w.before args s = true) (hK : Ks E s) (hown : s.vm.findClass RX4 = some mi.cls) (hW : Wd E x m g o H) (hdg : decode cc pc = .ok (.getfield 10, 3)) (kk : W p l e R s mi args below meth cd H locs cells slots Q (F0 mi (pc + 3) ls (rf E 1 :: rest))) : W p l e R s mi args below meth cd H locs cells slots Q (F0 mi pc ls (rf E 0 :: rest)) :=
  r_get hx hb hB hK (own := RX4) (C := RX4) (T := TX4) (N := 7) (ci := 4) inB_X4 hown hW (by decide) (cX_0) rfl 0 (by decide) rfl q_219 rfl hdg kk
theorem gf_X4_16 (hx : p.tables.exec = Jvm.exec) (hb : cd.code = cc) (hB : ∀ w ∈ BG, w.before args s = true) (hK : Ks E s) (hown : s.vm.findClass RX4 = some mi.cls) (hW : Wd E x m g o H) (hdg : decode cc pc = .ok (.getfield 16, 3)) (kk : W p l e R s mi args below meth cd H locs cells slots Q (F0 mi (pc + 3) ls (rf E 27 :: rest))) : W p l e R s mi args below meth cd H locs cells slots Q (F0 mi pc ls (rf E 0 :: rest)) :=
  r_get hx hb hB hK (own := RX4) (C := RX4) (T := TX4) (N := 7) (ci := 4) inB_X4 hown hW (by decide) (cX_0) rfl 1 (by decide) rfl q_220 rfl hdg kk
theorem gf_X4_19 (hx : p.tables.exec = Jvm.exec) (hb : cd.code = cc) (hB : ∀ w ∈ BG, w.before args s = true) (hK : Ks E s) (hown : s.vm.findClass RX4 = some mi.cls) (hW : Wd E x m g o H) (hdg : decode cc pc = .ok (.getfield 19, 3)) (kk : W p l e R s mi args below meth cd H locs cells slots Q (F0 mi (pc + 3) ls (rf E 53 :: rest))) : W p l e R s mi args below meth cd H locs cells slots Q (F0 mi pc ls (rf E 0 :: rest)) :=
  r_get hx hb hB hK (own := RX4) (C := RX4) (T := TX4) (N := 7) (ci := 4) inB_X4 hown hW (by decide) (cX_0) rfl 2 (by decide) rfl q_221 rfl hdg kk
theorem gf_X4_23 (hx : p.tables.exec = Jvm.exec) (hb : cd.code = cc) (hB : ∀ w ∈ BG, w.before args s = true) (hK : Ks E s) (hown : s.vm.findClass RX4 = some mi.cls) (hW : Wd E x m g o H) (hdg : decode cc pc = .ok (.getfield 23, 3)) (kk : W p l e R s mi args below meth cd H locs cells slots Q (F0 mi (pc + 3) ls (rf E 54 :: rest))) : W p l e R s mi args below meth cd H locs cells slots Q (F0 mi pc ls (rf E 0 :: rest)) :=
  r_get hx hb hB hK (own := RX4) (C := RX4) (T := TX4) (N := 7) (ci := 4) inB_X4 hown hW (by decide) (cX_0) rfl 5 (by decide) rfl q_224 rfl hdg kk
theorem gf_X4_42 (hx : p.tables.exec = Jvm.exec) (hb : cd.code = cc) (hB : ∀ w ∈ BG, w.before args s = true) (hK : Ks E s) (hown : s.vm.findClass RX4 = some mi.cls) (hW : Wd E x m g o H) {b : Nat} (hbk : IsB b) (hdg : decode cc pc = .ok (.getfield 42, 3)) (kk : W p l e R s mi args below meth cd H locs cells slots Q (F0 mi (pc + 3) ls (rf E (b + 1) :: rest))) : W p l e R s mi args below meth cd H locs cells slots Q (F0 mi pc ls (rf E b :: rest)) :=
  r_getN (host := "AmendsLedger") hx hb hB hK (own := RX4) (C := RX3) (T := TX3) (N := 8) (ci := 3) inB_X3 hown hW hbk.l0 (cB_0 hbk) rfl 0 (by decide) rfl nw_190 rfl hdg kk
theorem gf_X4_88 (hx : p.tables.exec = Jvm.exec) (hb : cd.code = cc) (hB : ∀ w ∈ BG, w.before args s = true) (hK : Ks E s) (hown : s.vm.findClass RX4 = some mi.cls) (hW : Wd E x m g o H) {b : Nat} (hbk : IsB b) (hdg : decode cc pc = .ok (.getfield 88, 3)) (kk : W p l e R s mi args below meth cd H locs cells slots Q (F0 mi (pc + 3) ls (rf E (b + 7) :: rest))) : W p l e R s mi args below meth cd H locs cells slots Q (F0 mi pc ls (rf E b :: rest)) :=
  r_getN (host := "AmendsLedger") hx hb hB hK (own := RX4) (C := RX3) (T := TX3) (N := 8) (ci := 3) inB_X3 hown hW hbk.l0 (cB_0 hbk) rfl 1 (by decide) rfl nw_192 rfl hdg kk
theorem gf_X4_92 (hx : p.tables.exec = Jvm.exec) (hb : cd.code = cc) (hB : ∀ w ∈ BG, w.before args s = true) (hK : Ks E s) (hown : s.vm.findClass RX4 = some mi.cls) (hW : Wd E x m g o H) {b : Nat} (hbk : IsB b) (hdg : decode cc pc = .ok (.getfield 92, 3)) (kk : W p l e R s mi args below meth cd H locs cells slots Q (F0 mi (pc + 3) ls (.int (x (b + 7) 0) :: rest))) : W p l e R s mi args below meth cd H locs cells slots Q (F0 mi pc ls (rf E (b + 7) :: rest)) :=
  r_getN (host := "AmendsLedger") hx hb hB hK (own := RX4) (C := RX0) (T := TX0) (N := 10) (ci := 0) inB_X0 hown hW (hbk.l8 (j := 7) (by decide)) (cB_7 hbk) rfl 0 (by decide) rfl nw_119 rfl hdg kk
theorem gf_X4_125 (hx : p.tables.exec = Jvm.exec) (hb : cd.code = cc) (hB : ∀ w ∈ BG, w.before args s = true) (hK : Ks E s) (hown : s.vm.findClass RX4 = some mi.cls) (hW : Wd E x m g o H) {b : Nat} (hbk : IsB b) (hdg : decode cc pc = .ok (.getfield 125, 3)) (kk : W p l e R s mi args below meth cd H locs cells slots Q (F0 mi (pc + 3) ls (.int (x b 7) :: rest))) : W p l e R s mi args below meth cd H locs cells slots Q (F0 mi pc ls (rf E b :: rest)) :=
  r_getN (host := "AmendsLedger") hx hb hB hK (own := RX4) (C := RX3) (T := TX3) (N := 8) (ci := 3) inB_X3 hown hW hbk.l0 (cB_0 hbk) rfl 7 (by decide) rfl nw_200 rfl hdg kk
theorem gf_X4_132 (hx : p.tables.exec = Jvm.exec) (hb : cd.code = cc) (hB : ∀ w ∈ BG, w.before args s = true) (hK : Ks E s) (hown : s.vm.findClass RX4 = some mi.cls) (hW : Wd E x m g o H) (hdg : decode cc pc = .ok (.getfield 132, 3)) (kk : W p l e R s mi args below meth cd H locs cells slots Q (F0 mi (pc + 3) ls (.int (x 0 6) :: rest))) : W p l e R s mi args below meth cd H locs cells slots Q (F0 mi pc ls (rf E 0 :: rest)) :=
  r_get hx hb hB hK (own := RX4) (C := RX4) (T := TX4) (N := 7) (ci := 4) inB_X4 hown hW (by decide) (cX_0) rfl 6 (by decide) rfl q_225 rfl hdg kk
theorem gf_X4_147 (hx : p.tables.exec = Jvm.exec) (hb : cd.code = cc) (hB : ∀ w ∈ BG, w.before args s = true) (hK : Ks E s) (hown : s.vm.findClass RX4 = some mi.cls) (hW : Wd E x m g o H) (hdg : decode cc pc = .ok (.getfield 147, 3)) (kk : W p l e R s mi args below meth cd H locs cells slots Q (F0 mi (pc + 3) ls (.int (x 0 3) :: rest))) : W p l e R s mi args below meth cd H locs cells slots Q (F0 mi pc ls (rf E 0 :: rest)) :=
  r_get hx hb hB hK (own := RX4) (C := RX4) (T := TX4) (N := 7) (ci := 4) inB_X4 hown hW (by decide) (cX_0) rfl 3 (by decide) rfl q_222 rfl hdg kk
theorem gf_X4_150 (hx : p.tables.exec = Jvm.exec) (hb : cd.code = cc) (hB : ∀ w ∈ BG, w.before args s = true) (hK : Ks E s) (hown : s.vm.findClass RX4 = some mi.cls) (hW : Wd E x m g o H) (hdg : decode cc pc = .ok (.getfield 150, 3)) (kk : W p l e R s mi args below meth cd H locs cells slots Q (F0 mi (pc + 3) ls (.int (x 0 4) :: rest))) : W p l e R s mi args below meth cd H locs cells slots Q (F0 mi pc ls (rf E 0 :: rest)) :=
  r_get hx hb hB hK (own := RX4) (C := RX4) (T := TX4) (N := 7) (ci := 4) inB_X4 hown hW (by decide) (cX_0) rfl 4 (by decide) rfl q_223 rfl hdg kk
theorem gf_X4_179 (hx : p.tables.exec = Jvm.exec) (hb : cd.code = cc) (hB : ∀ w ∈ BG, w.before args s = true) (hK : Ks E s) (hown : s.vm.findClass RX4 = some mi.cls) (hW : Wd E x m g o H) {b : Nat} (hbk : IsB b) (hdg : decode cc pc = .ok (.getfield 179, 3)) (kk : W p l e R s mi args below meth cd H locs cells slots Q (F0 mi (pc + 3) ls (rf E (b + 17) :: rest))) : W p l e R s mi args below meth cd H locs cells slots Q (F0 mi pc ls (rf E b :: rest)) :=
  r_getN (host := "AmendsLedger") hx hb hB hK (own := RX4) (C := RX3) (T := TX3) (N := 8) (ci := 3) inB_X3 hown hW hbk.l0 (cB_0 hbk) rfl 2 (by decide) rfl nw_194 rfl hdg kk
theorem gf_X4_234 (hx : p.tables.exec = Jvm.exec) (hb : cd.code = cc) (hB : ∀ w ∈ BG, w.before args s = true) (hK : Ks E s) (hown : s.vm.findClass RX4 = some mi.cls) (hW : Wd E x m g o H) {b : Nat} (hbk : IsB b) (hdg : decode cc pc = .ok (.getfield 234, 3)) (kk : W p l e R s mi args below meth cd H locs cells slots Q (F0 mi (pc + 3) ls (.int (x (b + 17) 0) :: rest))) : W p l e R s mi args below meth cd H locs cells slots Q (F0 mi pc ls (rf E (b + 17) :: rest)) :=
  r_getN (host := "AmendsLedger") hx hb hB hK (own := RX4) (C := RX2) (T := TX2) (N := 5) (ci := 2) inB_X2 hown hW (hbk.l8 (j := 17) (by decide)) (cB_17 hbk) rfl 0 (by decide) rfl nw_161 rfl hdg kk
theorem gf_X5_7 (hx : p.tables.exec = Jvm.exec) (hb : cd.code = cc) (hB : ∀ w ∈ BG, w.before args s = true) (hK : Ks E s) (hown : s.vm.findClass RX5 = some mi.cls) (hW : Wd E x m g o H) (hdg : decode cc pc = .ok (.getfield 7, 3)) (kk : W p l e R s mi args below meth cd H locs cells slots Q (F0 mi (pc + 3) ls (rf E 212 :: rest))) : W p l e R s mi args below meth cd H locs cells slots Q (F0 mi pc ls (rf E 211 :: rest)) :=
  r_get hx hb hB hK (own := RX5) (C := RX5) (T := TX5) (N := 12) (ci := 5) inB_X5 hown hW (by decide) (cM_0) rfl 0 (by decide) rfl q_915 rfl hdg kk
theorem gf_X5_13 (hx : p.tables.exec = Jvm.exec) (hb : cd.code = cc) (hB : ∀ w ∈ BG, w.before args s = true) (hK : Ks E s) (hown : s.vm.findClass RX5 = some mi.cls) (hW : Wd E x m g o H) (hdg : decode cc pc = .ok (.getfield 13, 3)) (kk : W p l e R s mi args below meth cd H locs cells slots Q (F0 mi (pc + 3) ls (rf E 213 :: rest))) : W p l e R s mi args below meth cd H locs cells slots Q (F0 mi pc ls (rf E 211 :: rest)) :=
  r_get hx hb hB hK (own := RX5) (C := RX5) (T := TX5) (N := 12) (ci := 5) inB_X5 hown hW (by decide) (cM_0) rfl 1 (by decide) rfl q_916 rfl hdg kk
theorem gf_X5_16 (hx : p.tables.exec = Jvm.exec) (hb : cd.code = cc) (hB : ∀ w ∈ BG, w.before args s = true) (hK : Ks E s) (hown : s.vm.findClass RX5 = some mi.cls) (hW : Wd E x m g o H) (hdg : decode cc pc = .ok (.getfield 16, 3)) (kk : W p l e R s mi args below meth cd H locs cells slots Q (F0 mi (pc + 3) ls (rf E 214 :: rest))) : W p l e R s mi args below meth cd H locs cells slots Q (F0 mi pc ls (rf E 211 :: rest)) :=
  r_get hx hb hB hK (own := RX5) (C := RX5) (T := TX5) (N := 12) (ci := 5) inB_X5 hown hW (by decide) (cM_0) rfl 2 (by decide) rfl q_917 rfl hdg kk
theorem gf_X5_19 (hx : p.tables.exec = Jvm.exec) (hb : cd.code = cc) (hB : ∀ w ∈ BG, w.before args s = true) (hK : Ks E s) (hown : s.vm.findClass RX5 = some mi.cls) (hW : Wd E x m g o H) (hdg : decode cc pc = .ok (.getfield 19, 3)) (kk : W p l e R s mi args below meth cd H locs cells slots Q (F0 mi (pc + 3) ls (rf E 215 :: rest))) : W p l e R s mi args below meth cd H locs cells slots Q (F0 mi pc ls (rf E 211 :: rest)) :=
  r_get hx hb hB hK (own := RX5) (C := RX5) (T := TX5) (N := 12) (ci := 5) inB_X5 hown hW (by decide) (cM_0) rfl 4 (by decide) rfl q_919 rfl hdg kk
theorem gf_X5_22 (hx : p.tables.exec = Jvm.exec) (hb : cd.code = cc) (hB : ∀ w ∈ BG, w.before args s = true) (hK : Ks E s) (hown : s.vm.findClass RX5 = some mi.cls) (hW : Wd E x m g o H) (hdg : decode cc pc = .ok (.getfield 22, 3)) (kk : W p l e R s mi args below meth cd H locs cells slots Q (F0 mi (pc + 3) ls (rf E 216 :: rest))) : W p l e R s mi args below meth cd H locs cells slots Q (F0 mi pc ls (rf E 211 :: rest)) :=
  r_get hx hb hB hK (own := RX5) (C := RX5) (T := TX5) (N := 12) (ci := 5) inB_X5 hown hW (by decide) (cM_0) rfl 10 (by decide) rfl q_925 rfl hdg kk
theorem gf_X5_29 (hx : p.tables.exec = Jvm.exec) (hb : cd.code = cc) (hB : ∀ w ∈ BG, w.before args s = true) (hK : Ks E s) (hown : s.vm.findClass RX5 = some mi.cls) (hW : Wd E x m g o H) (hdg : decode cc pc = .ok (.getfield 29, 3)) (kk : W p l e R s mi args below meth cd H locs cells slots Q (F0 mi (pc + 3) ls (.int (m 0 6) :: rest))) : W p l e R s mi args below meth cd H locs cells slots Q (F0 mi pc ls (rf E 211 :: rest)) :=
  r_get hx hb hB hK (own := RX5) (C := RX5) (T := TX5) (N := 12) (ci := 5) inB_X5 hown hW (by decide) (cM_0) rfl 6 (by decide) rfl q_921 rfl hdg kk
theorem gf_X5_33 (hx : p.tables.exec = Jvm.exec) (hb : cd.code = cc) (hB : ∀ w ∈ BG, w.before args s = true) (hK : Ks E s) (hown : s.vm.findClass RX5 = some mi.cls) (hW : Wd E x m g o H) (hdg : decode cc pc = .ok (.getfield 33, 3)) (kk : W p l e R s mi args below meth cd H locs cells slots Q (F0 mi (pc + 3) ls (.int (m 0 3) :: rest))) : W p l e R s mi args below meth cd H locs cells slots Q (F0 mi pc ls (rf E 211 :: rest)) :=
  r_get hx hb hB hK (own := RX5) (C := RX5) (T := TX5) (N := 12) (ci := 5) inB_X5 hown hW (by decide) (cM_0) rfl 3 (by decide) rfl q_918 rfl hdg kk
theorem gf_X5_112 (hx : p.tables.exec = Jvm.exec) (hb : cd.code = cc) (hB : ∀ w ∈ BG, w.before args s = true) (hK : Ks E s) (hown : s.vm.findClass RX5 = some mi.cls) (hW : Wd E x m g o H) (hdg : decode cc pc = .ok (.getfield 112, 3)) (kk : W p l e R s mi args below meth cd H locs cells slots Q (F0 mi (pc + 3) ls (.int (m 0 7) :: rest))) : W p l e R s mi args below meth cd H locs cells slots Q (F0 mi pc ls (rf E 211 :: rest)) :=
  r_get hx hb hB hK (own := RX5) (C := RX5) (T := TX5) (N := 12) (ci := 5) inB_X5 hown hW (by decide) (cM_0) rfl 7 (by decide) rfl q_922 rfl hdg kk
theorem gf_X5_128 (hx : p.tables.exec = Jvm.exec) (hb : cd.code = cc) (hB : ∀ w ∈ BG, w.before args s = true) (hK : Ks E s) (hown : s.vm.findClass RX5 = some mi.cls) (hW : Wd E x m g o H) (hdg : decode cc pc = .ok (.getfield 128, 3)) (kk : W p l e R s mi args below meth cd H locs cells slots Q (F0 mi (pc + 3) ls (.int (m 0 5) :: rest))) : W p l e R s mi args below meth cd H locs cells slots Q (F0 mi pc ls (rf E 211 :: rest)) :=
  r_get hx hb hB hK (own := RX5) (C := RX5) (T := TX5) (N := 12) (ci := 5) inB_X5 hown hW (by decide) (cM_0) rfl 5 (by decide) rfl q_920 rfl hdg kk
theorem gf_X5_131 (hx : p.tables.exec = Jvm.exec) (hb : cd.code = cc) (hB : ∀ w ∈ BG, w.before args s = true) (hK : Ks E s) (hown : s.vm.findClass RX5 = some mi.cls) (hW : Wd E x m g o H) (hdg : decode cc pc = .ok (.getfield 131, 3)) (kk : W p l e R s mi args below meth cd H locs cells slots Q (F0 mi (pc + 3) ls (.int (m 0 8) :: rest))) : W p l e R s mi args below meth cd H locs cells slots Q (F0 mi pc ls (rf E 211 :: rest)) :=
  r_get hx hb hB hK (own := RX5) (C := RX5) (T := TX5) (N := 12) (ci := 5) inB_X5 hown hW (by decide) (cM_0) rfl 8 (by decide) rfl q_923 rfl hdg kk
theorem gf_X5_134 (hx : p.tables.exec = Jvm.exec) (hb : cd.code = cc) (hB : ∀ w ∈ BG, w.before args s = true) (hK : Ks E s) (hown : s.vm.findClass RX5 = some mi.cls) (hW : Wd E x m g o H) (hdg : decode cc pc = .ok (.getfield 134, 3)) (kk : W p l e R s mi args below meth cd H locs cells slots Q (F0 mi (pc + 3) ls (.int (m 0 9) :: rest))) : W p l e R s mi args below meth cd H locs cells slots Q (F0 mi pc ls (rf E 211 :: rest)) :=
  r_get hx hb hB hK (own := RX5) (C := RX5) (T := TX5) (N := 12) (ci := 5) inB_X5 hown hW (by decide) (cM_0) rfl 9 (by decide) rfl q_924 rfl hdg kk
theorem gf_X5_207 (hx : p.tables.exec = Jvm.exec) (hb : cd.code = cc) (hB : ∀ w ∈ BG, w.before args s = true) (hK : Ks E s) (hown : s.vm.findClass RX5 = some mi.cls) (hW : Wd E x m g o H) (hdg : decode cc pc = .ok (.getfield 207, 3)) (kk : W p l e R s mi args below meth cd H locs cells slots Q (F0 mi (pc + 3) ls (.long g :: rest))) : W p l e R s mi args below meth cd H locs cells slots Q (F0 mi pc ls (rf E 211 :: rest)) :=
  r_get hx hb hB hK (own := RX5) (C := RX5) (T := TX5) (N := 12) (ci := 5) inB_X5 hown hW (by decide) (cM_0) rfl 11 (by decide) rfl q_926 rfl hdg kk
theorem pf_X0_39 (hx : p.tables.exec = Jvm.exec) (hb : cd.code = cc) (hB : ∀ w ∈ BG, w.before args s = true) (hK : Ks E s) (hown : s.vm.findClass RX0 = some mi.cls) (hW : Wd E x m g o H) (hS : va_S (Ah E) s.heap H locs) {b : Nat} (hbk : IsB b) {v : Int32} {x1 : XS} (ev : x1 = ux x (b + 7) 0 v) (hdg : decode cc pc = .ok (.putfield 39, 3)) (kk : ∀ (H1 : Heap) (locs1 : List Loc), Wd E x1 m g o H1 → va_S (Ah E) s.heap H1 locs1 → W p l e R s mi args below meth cd H1 locs1 cells slots Q (F0 mi (pc + 3) ls rest)) : W p l e R s mi args below meth cd H locs cells slots Q (F0 mi pc ls (.int v :: rf E (b + 7) :: rest)) := by
  subst ev
  exact r_put hx hb hB hK (own := RX0) (C := RX0) (T := TX0) (N := 10) (ci := 0) inB_X0 tyX0 tyX0_ok nmX0 hown hW hS (hbk.l8 (j := 7) (by decide)) (cB_7 hbk) rfl 0 (by decide) rfl rfl q_118 (ty := .int) rfl (vp_nar_int v) rfl (Nat.le_of_ble_eq_true rfl) (by rw [cB_7 hbk]; simp [ux]) (cellV_ux) hdg kk
theorem pf_X2_30 (hx : p.tables.exec = Jvm.exec) (hb : cd.code = cc) (hB : ∀ w ∈ BG, w.before args s = true) (hK : Ks E s) (hown : s.vm.findClass RX2 = some mi.cls) (hW : Wd E x m g o H) (hS : va_S (Ah E) s.heap H locs) {b : Nat} (hbk : IsB b) {v : Int32} {x1 : XS} (ev : x1 = ux x (b + 17) 0 v) (hdg : decode cc pc = .ok (.putfield 30, 3)) (kk : ∀ (H1 : Heap) (locs1 : List Loc), Wd E x1 m g o H1 → va_S (Ah E) s.heap H1 locs1 → W p l e R s mi args below meth cd H1 locs1 cells slots Q (F0 mi (pc + 3) ls rest)) : W p l e R s mi args below meth cd H locs cells slots Q (F0 mi pc ls (.int v :: rf E (b + 17) :: rest)) := by
  subst ev
  exact r_put hx hb hB hK (own := RX2) (C := RX2) (T := TX2) (N := 5) (ci := 2) inB_X2 tyX2 tyX2_ok nmX2 hown hW hS (hbk.l8 (j := 17) (by decide)) (cB_17 hbk) rfl 0 (by decide) rfl rfl q_160 (ty := .int) rfl (vp_nar_int v) rfl (Nat.le_of_ble_eq_true rfl) (by rw [cB_17 hbk]; simp [ux]) (cellV_ux) hdg kk
theorem pf_X3_68 (hx : p.tables.exec = Jvm.exec) (hb : cd.code = cc) (hB : ∀ w ∈ BG, w.before args s = true) (hK : Ks E s) (hown : s.vm.findClass RX3 = some mi.cls) (hW : Wd E x m g o H) (hS : va_S (Ah E) s.heap H locs) {b : Nat} (hbk : IsB b) {v : Int32} {x1 : XS} (ev : x1 = ux x b 7 v) (hdg : decode cc pc = .ok (.putfield 68, 3)) (kk : ∀ (H1 : Heap) (locs1 : List Loc), Wd E x1 m g o H1 → va_S (Ah E) s.heap H1 locs1 → W p l e R s mi args below meth cd H1 locs1 cells slots Q (F0 mi (pc + 3) ls rest)) : W p l e R s mi args below meth cd H locs cells slots Q (F0 mi pc ls (.int v :: rf E b :: rest)) := by
  subst ev
  exact r_put hx hb hB hK (own := RX3) (C := RX3) (T := TX3) (N := 8) (ci := 3) inB_X3 tyX3 tyX3_ok nmX3 hown hW hS hbk.l0 (cB_0 hbk) rfl 7 (by decide) rfl rfl q_199 (ty := .int) rfl (vp_nar_int v) rfl (Nat.le_of_ble_eq_true rfl) (by rw [cB_0 hbk]; simp [ux]) (cellV_ux) hdg kk
theorem pf_X4_132 (hx : p.tables.exec = Jvm.exec) (hb : cd.code = cc) (hB : ∀ w ∈ BG, w.before args s = true) (hK : Ks E s) (hown : s.vm.findClass RX4 = some mi.cls) (hW : Wd E x m g o H) (hS : va_S (Ah E) s.heap H locs) {v : Int32} {x1 : XS} (ev : x1 = ux x 0 6 v) (hdg : decode cc pc = .ok (.putfield 132, 3)) (kk : ∀ (H1 : Heap) (locs1 : List Loc), Wd E x1 m g o H1 → va_S (Ah E) s.heap H1 locs1 → W p l e R s mi args below meth cd H1 locs1 cells slots Q (F0 mi (pc + 3) ls rest)) : W p l e R s mi args below meth cd H locs cells slots Q (F0 mi pc ls (.int v :: rf E 0 :: rest)) := by
  subst ev
  exact r_put hx hb hB hK (own := RX4) (C := RX4) (T := TX4) (N := 7) (ci := 4) inB_X4 tyX4 tyX4_ok nmX4 hown hW hS (by decide) (cX_0) rfl 6 (by decide) rfl rfl q_225 (ty := .int) rfl (vp_nar_int v) rfl (Nat.le_of_ble_eq_true rfl) (by rw [cX_0]; simp [ux]) (cellV_ux) hdg kk
theorem pf_X4_147 (hx : p.tables.exec = Jvm.exec) (hb : cd.code = cc) (hB : ∀ w ∈ BG, w.before args s = true) (hK : Ks E s) (hown : s.vm.findClass RX4 = some mi.cls) (hW : Wd E x m g o H) (hS : va_S (Ah E) s.heap H locs) {v : Int32} {x1 : XS} (ev : x1 = ux x 0 3 v) (hdg : decode cc pc = .ok (.putfield 147, 3)) (kk : ∀ (H1 : Heap) (locs1 : List Loc), Wd E x1 m g o H1 → va_S (Ah E) s.heap H1 locs1 → W p l e R s mi args below meth cd H1 locs1 cells slots Q (F0 mi (pc + 3) ls rest)) : W p l e R s mi args below meth cd H locs cells slots Q (F0 mi pc ls (.int v :: rf E 0 :: rest)) := by
  subst ev
  exact r_put hx hb hB hK (own := RX4) (C := RX4) (T := TX4) (N := 7) (ci := 4) inB_X4 tyX4 tyX4_ok nmX4 hown hW hS (by decide) (cX_0) rfl 3 (by decide) rfl rfl q_222 (ty := .int) rfl (vp_nar_int v) rfl (Nat.le_of_ble_eq_true rfl) (by rw [cX_0]; simp [ux]) (cellV_ux) hdg kk
theorem pf_X4_150 (hx : p.tables.exec = Jvm.exec) (hb : cd.code = cc) (hB : ∀ w ∈ BG, w.before args s = true) (hK : Ks E s) (hown : s.vm.findClass RX4 = some mi.cls) (hW : Wd E x m g o H) (hS : va_S (Ah E) s.heap H locs) {v : Int32} {x1 : XS} (ev : x1 = ux x 0 4 v) (hdg : decode cc pc = .ok (.putfield 150, 3)) (kk : ∀ (H1 : Heap) (locs1 : List Loc), Wd E x1 m g o H1 → va_S (Ah E) s.heap H1 locs1 → W p l e R s mi args below meth cd H1 locs1 cells slots Q (F0 mi (pc + 3) ls rest)) : W p l e R s mi args below meth cd H locs cells slots Q (F0 mi pc ls (.int v :: rf E 0 :: rest)) := by
  subst ev
  exact r_put hx hb hB hK (own := RX4) (C := RX4) (T := TX4) (N := 7) (ci := 4) inB_X4 tyX4 tyX4_ok nmX4 hown hW hS (by decide) (cX_0) rfl 4 (by decide) rfl rfl q_223 (ty := .int) rfl (vp_nar_int v) rfl (Nat.le_of_ble_eq_true rfl) (by rw [cX_0]; simp [ux]) (cellV_ux) hdg kk
theorem pf_X5_29 (hx : p.tables.exec = Jvm.exec) (hb : cd.code = cc) (hB : ∀ w ∈ BG, w.before args s = true) (hK : Ks E s) (hown : s.vm.findClass RX5 = some mi.cls) (hW : Wd E x m g o H) (hS : va_S (Ah E) s.heap H locs) {v : Int32} {x1 : XS} (ev : x1 = ux m 0 6 v) (hdg : decode cc pc = .ok (.putfield 29, 3)) (kk : ∀ (H1 : Heap) (locs1 : List Loc), Wd E x x1 g o H1 → va_S (Ah E) s.heap H1 locs1 → W p l e R s mi args below meth cd H1 locs1 cells slots Q (F0 mi (pc + 3) ls rest)) : W p l e R s mi args below meth cd H locs cells slots Q (F0 mi pc ls (.int v :: rf E 211 :: rest)) := by
  subst ev
  exact r_put hx hb hB hK (own := RX5) (C := RX5) (T := TX5) (N := 12) (ci := 5) inB_X5 tyX5 tyX5_ok nmX5 hown hW hS (by decide) (cM_0) rfl 6 (by decide) rfl rfl q_921 (ty := .int) rfl (vp_nar_int v) rfl (Nat.le_of_ble_eq_true rfl) (by rw [cM_0]; simp [ux]) (cellV_um (k := 0)) hdg kk
theorem pf_X5_33 (hx : p.tables.exec = Jvm.exec) (hb : cd.code = cc) (hB : ∀ w ∈ BG, w.before args s = true) (hK : Ks E s) (hown : s.vm.findClass RX5 = some mi.cls) (hW : Wd E x m g o H) (hS : va_S (Ah E) s.heap H locs) {v : Int32} {x1 : XS} (ev : x1 = ux m 0 3 v) (hdg : decode cc pc = .ok (.putfield 33, 3)) (kk : ∀ (H1 : Heap) (locs1 : List Loc), Wd E x x1 g o H1 → va_S (Ah E) s.heap H1 locs1 → W p l e R s mi args below meth cd H1 locs1 cells slots Q (F0 mi (pc + 3) ls rest)) : W p l e R s mi args below meth cd H locs cells slots Q (F0 mi pc ls (.int v :: rf E 211 :: rest)) := by
  subst ev
  exact r_put hx hb hB hK (own := RX5) (C := RX5) (T := TX5) (N := 12) (ci := 5) inB_X5 tyX5 tyX5_ok nmX5 hown hW hS (by decide) (cM_0) rfl 3 (by decide) rfl rfl q_918 (ty := .int) rfl (vp_nar_int v) rfl (Nat.le_of_ble_eq_true rfl) (by rw [cM_0]; simp [ux]) (cellV_um (k := 0)) hdg kk
theorem pf_X5_112 (hx : p.tables.exec = Jvm.exec) (hb : cd.code = cc) (hB : ∀ w ∈ BG, w.before args s = true) (hK : Ks E s) (hown : s.vm.findClass RX5 = some mi.cls) (hW : Wd E x m g o H) (hS : va_S (Ah E) s.heap H locs) {v : Int32} {x1 : XS} (ev : x1 = ux m 0 7 v) (hdg : decode cc pc = .ok (.putfield 112, 3)) (kk : ∀ (H1 : Heap) (locs1 : List Loc), Wd E x x1 g o H1 → va_S (Ah E) s.heap H1 locs1 → W p l e R s mi args below meth cd H1 locs1 cells slots Q (F0 mi (pc + 3) ls rest)) : W p l e R s mi args below meth cd H locs cells slots Q (F0 mi pc ls (.int v :: rf E 211 :: rest)) := by
  subst ev
  exact r_put hx hb hB hK (own := RX5) (C := RX5) (T := TX5) (N := 12) (ci := 5) inB_X5 tyX5 tyX5_ok nmX5 hown hW hS (by decide) (cM_0) rfl 7 (by decide) rfl rfl q_922 (ty := .int) rfl (vp_nar_int v) rfl (Nat.le_of_ble_eq_true rfl) (by rw [cM_0]; simp [ux]) (cellV_um (k := 0)) hdg kk
theorem pf_X5_128 (hx : p.tables.exec = Jvm.exec) (hb : cd.code = cc) (hB : ∀ w ∈ BG, w.before args s = true) (hK : Ks E s) (hown : s.vm.findClass RX5 = some mi.cls) (hW : Wd E x m g o H) (hS : va_S (Ah E) s.heap H locs) {v : Int32} {x1 : XS} (ev : x1 = ux m 0 5 v) (hdg : decode cc pc = .ok (.putfield 128, 3)) (kk : ∀ (H1 : Heap) (locs1 : List Loc), Wd E x x1 g o H1 → va_S (Ah E) s.heap H1 locs1 → W p l e R s mi args below meth cd H1 locs1 cells slots Q (F0 mi (pc + 3) ls rest)) : W p l e R s mi args below meth cd H locs cells slots Q (F0 mi pc ls (.int v :: rf E 211 :: rest)) := by
  subst ev
  exact r_put hx hb hB hK (own := RX5) (C := RX5) (T := TX5) (N := 12) (ci := 5) inB_X5 tyX5 tyX5_ok nmX5 hown hW hS (by decide) (cM_0) rfl 5 (by decide) rfl rfl q_920 (ty := .int) rfl (vp_nar_int v) rfl (Nat.le_of_ble_eq_true rfl) (by rw [cM_0]; simp [ux]) (cellV_um (k := 0)) hdg kk
theorem pf_X5_131 (hx : p.tables.exec = Jvm.exec) (hb : cd.code = cc) (hB : ∀ w ∈ BG, w.before args s = true) (hK : Ks E s) (hown : s.vm.findClass RX5 = some mi.cls) (hW : Wd E x m g o H) (hS : va_S (Ah E) s.heap H locs) {v : Int32} {x1 : XS} (ev : x1 = ux m 0 8 v) (hdg : decode cc pc = .ok (.putfield 131, 3)) (kk : ∀ (H1 : Heap) (locs1 : List Loc), Wd E x x1 g o H1 → va_S (Ah E) s.heap H1 locs1 → W p l e R s mi args below meth cd H1 locs1 cells slots Q (F0 mi (pc + 3) ls rest)) : W p l e R s mi args below meth cd H locs cells slots Q (F0 mi pc ls (.int v :: rf E 211 :: rest)) := by
  subst ev
  exact r_put hx hb hB hK (own := RX5) (C := RX5) (T := TX5) (N := 12) (ci := 5) inB_X5 tyX5 tyX5_ok nmX5 hown hW hS (by decide) (cM_0) rfl 8 (by decide) rfl rfl q_923 (ty := .int) rfl (vp_nar_int v) rfl (Nat.le_of_ble_eq_true rfl) (by rw [cM_0]; simp [ux]) (cellV_um (k := 0)) hdg kk
theorem pf_X5_134 (hx : p.tables.exec = Jvm.exec) (hb : cd.code = cc) (hB : ∀ w ∈ BG, w.before args s = true) (hK : Ks E s) (hown : s.vm.findClass RX5 = some mi.cls) (hW : Wd E x m g o H) (hS : va_S (Ah E) s.heap H locs) {v : Int32} {x1 : XS} (ev : x1 = ux m 0 9 v) (hdg : decode cc pc = .ok (.putfield 134, 3)) (kk : ∀ (H1 : Heap) (locs1 : List Loc), Wd E x x1 g o H1 → va_S (Ah E) s.heap H1 locs1 → W p l e R s mi args below meth cd H1 locs1 cells slots Q (F0 mi (pc + 3) ls rest)) : W p l e R s mi args below meth cd H locs cells slots Q (F0 mi pc ls (.int v :: rf E 211 :: rest)) := by
  subst ev
  exact r_put hx hb hB hK (own := RX5) (C := RX5) (T := TX5) (N := 12) (ci := 5) inB_X5 tyX5 tyX5_ok nmX5 hown hW hS (by decide) (cM_0) rfl 9 (by decide) rfl rfl q_924 (ty := .int) rfl (vp_nar_int v) rfl (Nat.le_of_ble_eq_true rfl) (by rw [cM_0]; simp [ux]) (cellV_um (k := 0)) hdg kk
theorem pf_X5_207 (hx : p.tables.exec = Jvm.exec) (hb : cd.code = cc) (hB : ∀ w ∈ BG, w.before args s = true) (hK : Ks E s) (hown : s.vm.findClass RX5 = some mi.cls) (hW : Wd E x m g o H) (hS : va_S (Ah E) s.heap H locs) {v : Int64} {x1 : Int64} (ev : x1 = v) (hdg : decode cc pc = .ok (.putfield 207, 3)) (kk : ∀ (H1 : Heap) (locs1 : List Loc), Wd E x m x1 o H1 → va_S (Ah E) s.heap H1 locs1 → W p l e R s mi args below meth cd H1 locs1 cells slots Q (F0 mi (pc + 3) ls rest)) : W p l e R s mi args below meth cd H locs cells slots Q (F0 mi pc ls (.long v :: rf E 211 :: rest)) := by
  subst ev
  exact r_put hx hb hB hK (own := RX5) (C := RX5) (T := TX5) (N := 12) (ci := 5) inB_X5 tyX5 tyX5_ok nmX5 hown hW hS (by decide) (cM_0) rfl 11 (by decide) rfl rfl q_926 (ty := .long) rfl (rfl) rfl (Nat.le_of_ble_eq_true rfl) cM_0 (cellV_h) hdg kk
theorem kc_JD_122 (hB : ∀ w ∈ BG, w.before args s = true) (hR : (rmH 0).frames + 1 ≤ R.frames ∧ 8 + (2 + 11) + (rmH 0).locals ≤ R.locals) : CallB R s args RJD 122 yJD_isNaN cJD_isNaN 2 (some .boolean) (wsM yJD_isNaN cJD_isNaN 2 (some .boolean)) (rmH 0) 0 0 1 ∧ (Cond.static yJD_isNaN).before args s = true := k_S hB q_1273 q_74 q_1271 q_1272 (by decide +kernel) hR
theorem kc_X0_43 (hB : ∀ w ∈ BG, w.before args s = true) (hK : Ks E s) (hR : (rmH 2).frames + 1 ≤ R.frames ∧ 8 + (2 + 11) + (rmH 2).locals ≤ R.locals) : va_CN R s args RX0 43 yX4_copyAll RX4 cX4_copyAll 2 none (wsM yX4_copyAll cX4_copyAll 2 none) (rmH 2) 0 0 2 ∧ (Cond.static yX4_copyAll).before args s = true ∧ True := k_SN hB hK q_181 q_58 nw_323 q_180 (by decide +kernel) hR
theorem kc_X0_47 (hB : ∀ w ∈ BG, w.before args s = true) (hR : (rmH 0).frames + 1 ≤ R.frames ∧ 8 + (2 + 11) + (rmH 0).locals ≤ R.locals) : CallW R s args RX0 RX0 47 yX0_has cX0_has 2 (some .boolean) (wsM yX0_has cX0_has 2 (some .boolean)) (rmH 0) 0 0 1 := k_V hB q_278 q_61 q_275 q_276 q_277 (by decide +kernel) hR
theorem kc_X0_51 (hB : ∀ w ∈ BG, w.before args s = true) (hR : (rmH 1).frames + 1 ≤ R.frames ∧ 8 + (2 + 11) + (rmH 1).locals ≤ R.locals) : CallW R s args RX0 RX0 51 yX0_stageOf cX0_stageOf 2 (some .int) (wsM yX0_stageOf cX0_stageOf 2 (some .int)) (rmH 1) 0 0 1 := k_V hB q_368 q_61 q_365 q_366 q_367 (by decide +kernel) hR
theorem kc_X0_55 (hB : ∀ w ∈ BG, w.before args s = true) (hR : (rmH 1).frames + 1 ≤ R.frames ∧ 8 + (2 + 11) + (rmH 1).locals ≤ R.locals) : CallW R s args RX0 RX0 55 yX0_kindOf cX0_kindOf 2 (some .int) (wsM yX0_kindOf cX0_kindOf 2 (some .int)) (rmH 1) 0 0 1 := k_V hB q_286 q_61 q_466 q_284 q_285 (by decide +kernel) hR
theorem kc_X0_58 (hB : ∀ w ∈ BG, w.before args s = true) (hR : (rmH 1).frames + 1 ≤ R.frames ∧ 8 + (2 + 11) + (rmH 1).locals ≤ R.locals) : CallW R s args RX0 RX0 58 yX0_amendsOf cX0_amendsOf 2 (some .int) (wsM yX0_amendsOf cX0_amendsOf 2 (some .int)) (rmH 1) 0 0 1 := k_V hB q_561 q_61 q_558 q_559 q_560 (by decide +kernel) hR
theorem kc_X0_61 (hB : ∀ w ∈ BG, w.before args s = true) (hR : (rmH 1).frames + 1 ≤ R.frames ∧ 8 + (2 + 11) + (rmH 1).locals ≤ R.locals) : CallW R s args RX0 RX0 61 yX0_followedBy cX0_followedBy 2 (some .int) (wsM yX0_followedBy cX0_followedBy 2 (some .int)) (rmH 1) 0 0 1 := k_V hB q_274 q_61 q_476 q_272 q_273 (by decide +kernel) hR
theorem kc_X0_64 (hB : ∀ w ∈ BG, w.before args s = true) (hR : (rmH 1).frames + 1 ≤ R.frames ∧ 8 + (2 + 11) + (rmH 1).locals ≤ R.locals) : CallW R s args RX0 RX0 64 yX0_customerOf cX0_customerOf 2 (some .int) (wsM yX0_customerOf cX0_customerOf 2 (some .int)) (rmH 1) 0 0 1 := k_V hB q_612 q_61 q_688 q_610 q_611 (by decide +kernel) hR
theorem kc_X0_67 (hB : ∀ w ∈ BG, w.before args s = true) (hR : (rmH 1).frames + 1 ≤ R.frames ∧ 8 + (2 + 11) + (rmH 1).locals ≤ R.locals) : CallW R s args RX0 RX0 67 yX0_gotOf cX0_gotOf 2 (some .int) (wsM yX0_gotOf cX0_gotOf 2 (some .int)) (rmH 1) 0 0 1 := k_V hB q_306 q_61 q_467 q_304 q_305 (by decide +kernel) hR
theorem kc_X0_70 (hB : ∀ w ∈ BG, w.before args s = true) (hR : (rmH 2).frames + 1 ≤ R.frames ∧ 8 + (4 + 11) + (rmH 2).locals ≤ R.locals) : CallW R s args RX0 RX0 70 yX0_gotInKind cX0_gotInKind 4 (some .int) (wsM yX0_gotInKind cX0_gotInKind 4 (some .int)) (rmH 2) 0 0 1 := k_V hB q_465 q_61 q_462 q_463 q_464 (by decide +kernel) hR
theorem kc_X0_73 (hB : ∀ w ∈ BG, w.before args s = true) (hR : (rmH 2).frames + 1 ≤ R.frames ∧ 8 + (3 + 11) + (rmH 2).locals ≤ R.locals) : CallW R s args RX0 RX0 73 yX0_areAlike cX0_areAlike 3 (some .boolean) (wsM yX0_areAlike cX0_areAlike 3 (some .boolean)) (rmH 2) 0 0 2 := k_V hB q_475 q_61 q_472 q_474 q_4 (by decide +kernel) hR
theorem kc_X1_27 (hB : ∀ w ∈ BG, w.before args s = true) (hK : Ks E s) (hR : (rmH 2).frames + 1 ≤ R.frames ∧ 8 + (2 + 11) + (rmH 2).locals ≤ R.locals) : va_CN R s args RX1 27 yX4_copyAll RX4 cX4_copyAll 2 none (wsM yX4_copyAll cX4_copyAll 2 none) (rmH 2) 0 0 2 ∧ (Cond.static yX4_copyAll).before args s = true ∧ True := k_SN hB hK q_181 q_58 nw_318 q_180 (by decide +kernel) hR
theorem kc_X1_31 (hB : ∀ w ∈ BG, w.before args s = true) (hK : Ks E s) (hR : (rmH 0).frames + 1 ≤ R.frames ∧ 8 + (1 + 11) + (rmH 0).locals ≤ R.locals) : va_CN R s args RX1 31 yX4_isKind RX4 cX4_isKind 1 (some .boolean) (wsM yX4_isKind cX4_isKind 1 (some .boolean)) (rmH 0) 0 0 1 ∧ (Cond.static yX4_isKind).before args s = true ∧ True := k_SN hB hK q_302 q_58 nw_300 q_301 (by decide +kernel) hR
theorem kc_X1_35 (hB : ∀ w ∈ BG, w.before args s = true) (hR : (rmH 1).frames + 1 ≤ R.frames ∧ 8 + (3 + 11) + (rmH 1).locals ≤ R.locals) : CallW R s args RX1 RX1 35 yX1_has cX1_has 3 (some .boolean) (wsM yX1_has cX1_has 3 (some .boolean)) (rmH 1) 0 0 2 := k_V hB q_299 q_60 q_296 q_297 q_298 (by decide +kernel) hR
theorem kc_X1_39 (hB : ∀ w ∈ BG, w.before args s = true) (hR : (rmH 2).frames + 1 ≤ R.frames ∧ 8 + (3 + 11) + (rmH 2).locals ≤ R.locals) : CallW R s args RX1 RX1 39 yX1_leastOf cX1_leastOf 3 (some .int) (wsM yX1_leastOf cX1_leastOf 3 (some .int)) (rmH 2) 0 0 2 := k_V hB q_545 q_60 q_639 q_543 q_544 (by decide +kernel) hR
theorem kc_X1_43 (hB : ∀ w ∈ BG, w.before args s = true) (hR : (rmH 2).frames + 1 ≤ R.frames ∧ 8 + (3 + 11) + (rmH 2).locals ≤ R.locals) : CallW R s args RX1 RX1 43 yX1_mostOf cX1_mostOf 3 (some .int) (wsM yX1_mostOf cX1_mostOf 3 (some .int)) (rmH 2) 0 0 2 := k_V hB q_549 q_60 q_640 q_547 q_548 (by decide +kernel) hR
theorem kc_X1_46 (hB : ∀ w ∈ BG, w.before args s = true) (hK : Ks E s) (hR : (rmH 0).frames + 1 ≤ R.frames ∧ 8 + (3 + 11) + (rmH 0).locals ≤ R.locals) : va_CN R s args RX1 46 yX4_isWithin RX4 cX4_isWithin 3 (some .boolean) (wsM yX4_isWithin cX4_isWithin 3 (some .boolean)) (rmH 0) 0 0 3 ∧ (Cond.static yX4_isWithin).before args s = true ∧ True := k_SN hB hK q_255 q_58 nw_641 q_254 (by decide +kernel) hR
theorem kc_X1_50 (hB : ∀ w ∈ BG, w.before args s = true) (hR : (rmH 1).frames + 1 ≤ R.frames ∧ 8 + (2 + 11) + (rmH 1).locals ≤ R.locals) : CallW R s args RX1 RX1 50 yX1_sizeOf cX1_sizeOf 2 (some .int) (wsM yX1_sizeOf cX1_sizeOf 2 (some .int)) (rmH 1) 0 0 1 := k_V hB q_526 q_60 q_752 q_524 q_525 (by decide +kernel) hR
theorem kc_X1_54 (hB : ∀ w ∈ BG, w.before args s = true) (hR : (rmH 2).frames + 1 ≤ R.frames ∧ 8 + (3 + 11) + (rmH 2).locals ≤ R.locals) : CallW R s args RX1 RX1 54 yX1_isOffered cX1_isOffered 3 (some .boolean) (wsM yX1_isOffered cX1_isOffered 3 (some .boolean)) (rmH 2) 0 0 2 := k_V hB q_553 q_60 q_753 q_551 q_552 (by decide +kernel) hR
theorem kc_X2_34 (hB : ∀ w ∈ BG, w.before args s = true) (hK : Ks E s) (hR : (rmH 2).frames + 1 ≤ R.frames ∧ 8 + (2 + 11) + (rmH 2).locals ≤ R.locals) : va_CN R s args RX2 34 yX4_copyAll RX4 cX4_copyAll 2 none (wsM yX4_copyAll cX4_copyAll 2 none) (rmH 2) 0 0 2 ∧ (Cond.static yX4_copyAll).before args s = true ∧ True := k_SN hB hK q_181 q_58 nw_328 q_180 (by decide +kernel) hR
theorem kc_X2_38 (hB : ∀ w ∈ BG, w.before args s = true) (hK : Ks E s) (hR : (rmH 0).frames + 1 ≤ R.frames ∧ 8 + (1 + 11) + (rmH 0).locals ≤ R.locals) : va_CN R s args RX2 38 yX4_isKind RX4 cX4_isKind 1 (some .boolean) (wsM yX4_isKind cX4_isKind 1 (some .boolean)) (rmH 0) 0 0 1 ∧ (Cond.static yX4_isKind).before args s = true ∧ True := k_SN hB hK q_302 q_58 nw_573 q_301 (by decide +kernel) hR
theorem kc_X2_42 (hB : ∀ w ∈ BG, w.before args s = true) (hK : Ks E s) (hR : (rmH 0).frames + 1 ≤ R.frames ∧ 8 + (1 + 11) + (rmH 0).locals ≤ R.locals) : va_CN R s args RX2 42 yX4_isGroup RX4 cX4_isGroup 1 (some .boolean) (wsM yX4_isGroup cX4_isGroup 1 (some .boolean)) (rmH 0) 0 0 1 ∧ (Cond.static yX4_isGroup).before args s = true ∧ True := k_SN hB hK q_568 q_58 nw_574 q_567 (by decide +kernel) hR
theorem kc_X2_45 (hB : ∀ w ∈ BG, w.before args s = true) (hR : (rmH 0).frames + 1 ≤ R.frames ∧ 8 + (2 + 11) + (rmH 0).locals ≤ R.locals) : CallW R s args RX2 RX2 45 yX2_has cX2_has 2 (some .boolean) (wsM yX2_has cX2_has 2 (some .boolean)) (rmH 0) 0 0 1 := k_V hB q_282 q_62 q_291 q_280 q_281 (by decide +kernel) hR
theorem kc_X3_48 (hB : ∀ w ∈ BG, w.before args s = true) (hK : Ks E s) (hR : (rmH 2).frames + 1 ≤ R.frames ∧ 8 + (2 + 11) + (rmH 2).locals ≤ R.locals) : va_CN R s args RX3 48 yX4_copyAll RX4 cX4_copyAll 2 none (wsM yX4_copyAll cX4_copyAll 2 none) (rmH 2) 0 0 2 ∧ (Cond.static yX4_copyAll).before args s = true ∧ True := k_SN hB hK q_181 q_58 nw_179 q_180 (by decide +kernel) hR
theorem kc_X3_58 (hB : ∀ w ∈ BG, w.before args s = true) (hR : (rmH 3).frames + 1 ≤ R.frames ∧ 8 + (2 + 11) + (rmH 3).locals ≤ R.locals) : CallW R s args RX3 RX1 58 yX1_copyFrom cX1_copyFrom 2 none (wsM yX1_copyFrom cX1_copyFrom 2 none) (rmH 3) 0 0 1 := k_V hB q_317 q_60 q_314 q_315 q_316 (by decide +kernel) hR
theorem kc_X3_62 (hB : ∀ w ∈ BG, w.before args s = true) (hR : (rmH 3).frames + 1 ≤ R.frames ∧ 8 + (2 + 11) + (rmH 3).locals ≤ R.locals) : CallW R s args RX3 RX0 62 yX0_copyFrom cX0_copyFrom 2 none (wsM yX0_copyFrom cX0_copyFrom 2 none) (rmH 3) 0 0 1 := k_V hB q_322 q_61 q_319 q_320 q_321 (by decide +kernel) hR
theorem kc_X3_65 (hB : ∀ w ∈ BG, w.before args s = true) (hR : (rmH 3).frames + 1 ≤ R.frames ∧ 8 + (2 + 11) + (rmH 3).locals ≤ R.locals) : CallW R s args RX3 RX2 65 yX2_copyFrom cX2_copyFrom 2 none (wsM yX2_copyFrom cX2_copyFrom 2 none) (rmH 3) 0 0 1 := k_V hB q_327 q_62 q_324 q_325 q_326 (by decide +kernel) hR
theorem kc_X3_72 (hB : ∀ w ∈ BG, w.before args s = true) (hK : Ks E s) (hR : (rmH 0).frames + 1 ≤ R.frames ∧ 8 + (1 + 11) + (rmH 0).locals ≤ R.locals) : va_CN R s args RX3 72 yX4_isSetting RX4 cX4_isSetting 1 (some .boolean) (wsM yX4_isSetting cX4_isSetting 1 (some .boolean)) (rmH 0) 0 0 1 ∧ (Cond.static yX4_isSetting).before args s = true ∧ True := k_SN hB hK q_344 q_58 nw_342 q_343 (by decide +kernel) hR
theorem kc_X3_76 (hB : ∀ w ∈ BG, w.before args s = true) (hK : Ks E s) (hR : (rmH 0).frames + 1 ≤ R.frames ∧ 8 + (1 + 11) + (rmH 0).locals ≤ R.locals) : va_CN R s args RX3 76 yX4_isKind RX4 cX4_isKind 1 (some .boolean) (wsM yX4_isKind cX4_isKind 1 (some .boolean)) (rmH 0) 0 0 1 ∧ (Cond.static yX4_isKind).before args s = true ∧ True := k_SN hB hK q_302 q_58 nw_337 q_301 (by decide +kernel) hR
theorem kc_X3_79 (hB : ∀ w ∈ BG, w.before args s = true) (hR : (rmH 1).frames + 1 ≤ R.frames ∧ 8 + (2 + 11) + (rmH 1).locals ≤ R.locals) : CallW R s args RX3 RX3 79 yX3_settingOf cX3_settingOf 2 (some .int) (wsM yX3_settingOf cX3_settingOf 2 (some .int)) (rmH 1) 0 0 1 := k_V hB q_341 q_59 q_338 q_339 q_340 (by decide +kernel) hR
theorem kc_X3_83 (hB : ∀ w ∈ BG, w.before args s = true) (hR : (rmH 1).frames + 1 ≤ R.frames ∧ 8 + (2 + 11) + (rmH 1).locals ≤ R.locals) : CallW R s args RX3 RX3 83 yX3_baseOf cX3_baseOf 2 (some .int) (wsM yX3_baseOf cX3_baseOf 2 (some .int)) (rmH 1) 0 0 1 := k_V hB q_513 q_59 q_765 q_511 q_512 (by decide +kernel) hR
theorem kc_X3_86 (hB : ∀ w ∈ BG, w.before args s = true) (hR : (rmH 0).frames + 1 ≤ R.frames ∧ 8 + (2 + 11) + (rmH 0).locals ≤ R.locals) : CallW R s args RX3 RX2 86 yX2_has cX2_has 2 (some .boolean) (wsM yX2_has cX2_has 2 (some .boolean)) (rmH 0) 0 0 1 := k_V hB q_282 q_62 q_279 q_280 q_281 (by decide +kernel) hR
theorem kc_X3_89 (hB : ∀ w ∈ BG, w.before args s = true) (hR : (rmH 1).frames + 1 ≤ R.frames ∧ 8 + (2 + 11) + (rmH 1).locals ≤ R.locals) : CallW R s args RX3 RX2 89 yX2_monthOf cX2_monthOf 2 (some .int) (wsM yX2_monthOf cX2_monthOf 2 (some .int)) (rmH 1) 0 0 1 := k_V hB q_580 q_62 q_586 q_578 q_579 (by decide +kernel) hR
theorem kc_X3_92 (hB : ∀ w ∈ BG, w.before args s = true) (hR : (rmH 1).frames + 1 ≤ R.frames ∧ 8 + (2 + 11) + (rmH 1).locals ≤ R.locals) : CallW R s args RX3 RX2 92 yX2_amendsOf cX2_amendsOf 2 (some .int) (wsM yX2_amendsOf cX2_amendsOf 2 (some .int)) (rmH 1) 0 0 1 := k_V hB q_290 q_62 q_287 q_288 q_289 (by decide +kernel) hR
theorem kc_X3_95 (hB : ∀ w ∈ BG, w.before args s = true) (hR : (rmH 2).frames + 1 ≤ R.frames ∧ 8 + (3 + 11) + (rmH 2).locals ≤ R.locals) : CallW R s args RX3 RX1 95 yX1_isOffered cX1_isOffered 3 (some .boolean) (wsM yX1_isOffered cX1_isOffered 3 (some .boolean)) (rmH 2) 0 0 2 := k_V hB q_553 q_60 q_587 q_551 q_552 (by decide +kernel) hR
theorem kc_X3_99 (hB : ∀ w ∈ BG, w.before args s = true) (hR : (rmH 1).frames + 1 ≤ R.frames ∧ 8 + (2 + 11) + (rmH 1).locals ≤ R.locals) : CallW R s args RX3 RX0 99 yX0_kindOf cX0_kindOf 2 (some .int) (wsM yX0_kindOf cX0_kindOf 2 (some .int)) (rmH 1) 0 0 1 := k_V hB q_286 q_61 q_283 q_284 q_285 (by decide +kernel) hR
theorem kc_X3_102 (hB : ∀ w ∈ BG, w.before args s = true) (hR : (rmH 1).frames + 1 ≤ R.frames ∧ 8 + (2 + 11) + (rmH 1).locals ≤ R.locals) : CallW R s args RX3 RX0 102 yX0_groupOf cX0_groupOf 2 (some .int) (wsM yX0_groupOf cX0_groupOf 2 (some .int)) (rmH 1) 0 0 1 := k_V hB q_616 q_61 q_613 q_614 q_615 (by decide +kernel) hR
theorem kc_X3_105 (hB : ∀ w ∈ BG, w.before args s = true) (hR : (rmH 1).frames + 1 ≤ R.frames ∧ 8 + (3 + 11) + (rmH 1).locals ≤ R.locals) : CallW R s args RX3 RX2 105 yX2_latestOf cX2_latestOf 3 (some .int) (wsM yX2_latestOf cX2_latestOf 3 (some .int)) (rmH 1) 0 0 2 := k_V hB q_572 q_62 q_646 q_570 q_571 (by decide +kernel) hR
theorem kc_X3_109 (hB : ∀ w ∈ BG, w.before args s = true) (hR : (rmH 3).frames + 1 ≤ R.frames ∧ 8 + (3 + 11) + (rmH 3).locals ≤ R.locals) : CallW R s args RX3 RX3 109 yX3_isBinding cX3_isBinding 3 (some .boolean) (wsM yX3_isBinding cX3_isBinding 3 (some .boolean)) (rmH 3) 0 0 2 := k_V hB q_585 q_59 q_647 q_583 q_584 (by decide +kernel) hR
theorem kc_X3_112 (hB : ∀ w ∈ BG, w.before args s = true) (hR : (rmH 1).frames + 1 ≤ R.frames ∧ 8 + (2 + 11) + (rmH 1).locals ≤ R.locals) : CallW R s args RX3 RX0 112 yX0_stageOf cX0_stageOf 2 (some .int) (wsM yX0_stageOf cX0_stageOf 2 (some .int)) (rmH 1) 0 0 1 := k_V hB q_368 q_61 q_377 q_366 q_367 (by decide +kernel) hR
theorem kc_X3_115 (hB : ∀ w ∈ BG, w.before args s = true) (hR : (rmH 1).frames + 1 ≤ R.frames ∧ 8 + (2 + 11) + (rmH 1).locals ≤ R.locals) : CallW R s args RX3 RX0 115 yX0_followedBy cX0_followedBy 2 (some .int) (wsM yX0_followedBy cX0_followedBy 2 (some .int)) (rmH 1) 0 0 1 := k_V hB q_274 q_61 q_271 q_272 q_273 (by decide +kernel) hR
theorem kc_X3_118 (hB : ∀ w ∈ BG, w.before args s = true) (hR : (rmH 1).frames + 1 ≤ R.frames ∧ 8 + (2 + 11) + (rmH 1).locals ≤ R.locals) : CallW R s args RX3 RX2 118 yX2_setterOf cX2_setterOf 2 (some .int) (wsM yX2_setterOf cX2_setterOf 2 (some .int)) (rmH 1) 0 0 1 := k_V hB q_381 q_62 q_378 q_379 q_380 (by decide +kernel) hR
theorem kc_X3_124 (hB : ∀ w ∈ BG, w.before args s = true) (hR : (rmH 2).frames + 1 ≤ R.frames ∧ 8 + (3 + 11) + (rmH 2).locals ≤ R.locals) : CallW R s args RX3 RX3 124 yX3_tieOf cX3_tieOf 3 (some .int) (wsM yX3_tieOf cX3_tieOf 3 (some .int)) (rmH 2) 0 0 1 := k_V hB q_376 q_59 q_373 q_374 q_375 (by decide +kernel) hR
theorem kc_X3_127 (hB : ∀ w ∈ BG, w.before args s = true) (hR : (rmH 1).frames + 1 ≤ R.frames ∧ 8 + (2 + 11) + (rmH 1).locals ≤ R.locals) : CallW R s args RX3 RX0 127 yX0_severityOf cX0_severityOf 2 (some .int) (wsM yX0_severityOf cX0_severityOf 2 (some .int)) (rmH 1) 0 0 1 := k_V hB q_608 q_61 q_605 q_606 q_607 (by decide +kernel) hR
theorem kc_X3_130 (hB : ∀ w ∈ BG, w.before args s = true) (hR : (rmH 3).frames + 1 ≤ R.frames ∧ 8 + (4 + 11) + (rmH 3).locals ≤ R.locals) : CallW R s args RX3 RX1 130 yX1_covers cX1_covers 4 (some .boolean) (wsM yX1_covers cX1_covers 4 (some .boolean)) (rmH 3) 0 0 3 := k_V hB q_638 q_60 q_635 q_636 q_637 (by decide +kernel) hR
theorem kc_X3_134 (hB : ∀ w ∈ BG, w.before args s = true) (hR : (rmH 4).frames + 1 ≤ R.frames ∧ 8 + (4 + 11) + (rmH 4).locals ≤ R.locals) : CallW R s args RX3 RX3 134 yX3_bindingFor cX3_bindingFor 4 (some .int) (wsM yX3_bindingFor cX3_bindingFor 4 (some .int)) (rmH 4) 0 0 1 := k_V hB q_645 q_59 q_642 q_643 q_644 (by decide +kernel) hR
theorem kc_X3_137 (hB : ∀ w ∈ BG, w.before args s = true) (hR : (rmH 2).frames + 1 ≤ R.frames ∧ 8 + (3 + 11) + (rmH 2).locals ≤ R.locals) : CallW R s args RX3 RX1 137 yX1_costOf cX1_costOf 3 (some .int) (wsM yX1_costOf cX1_costOf 3 (some .int)) (rmH 2) 0 0 2 := k_V hB q_295 q_60 q_292 q_293 q_294 (by decide +kernel) hR
theorem kc_X3_140 (hB : ∀ w ∈ BG, w.before args s = true) (hR : (rmH 1).frames + 1 ≤ R.frames ∧ 8 + (2 + 11) + (rmH 1).locals ≤ R.locals) : CallW R s args RX3 RX3 140 yX3_leftOf cX3_leftOf 2 (some .int) (wsM yX3_leftOf cX3_leftOf 2 (some .int)) (rmH 1) 0 0 1 := k_V hB q_336 q_59 q_333 q_334 q_335 (by decide +kernel) hR
theorem kc_X3_143 (hB : ∀ w ∈ BG, w.before args s = true) (hR : (rmH 3).frames + 1 ≤ R.frames ∧ 8 + (5 + 11) + (rmH 3).locals ≤ R.locals) : CallW R s args RX3 RX3 143 yX3_hand cX3_hand 5 none (wsM yX3_hand cX3_hand 5 none) (rmH 3) 0 0 2 := k_V hB q_352 q_59 q_349 q_351 q_2 (by decide +kernel) hR
theorem kc_X3_147 (hB : ∀ w ∈ BG, w.before args s = true) (hR : (rmH 1).frames + 1 ≤ R.frames ∧ 8 + (7 + 11) + (rmH 1).locals ≤ R.locals) : CallW R s args RX3 RX2 147 yX2_add cX2_add 7 (some .int) (wsM yX2_add cX2_add 7 (some .int)) (rmH 1) 0 0 5 := k_V hB q_809 q_62 q_806 q_807 q_808 (by decide +kernel) hR
theorem kc_X3_151 (hB : ∀ w ∈ BG, w.before args s = true) (hR : (rmH 1).frames + 1 ≤ R.frames ∧ 8 + (5 + 11) + (rmH 1).locals ≤ R.locals) : CallW R s args RX3 RX0 151 yX0_noteDecision cX0_noteDecision 5 none (wsM yX0_noteDecision cX0_noteDecision 5 none) (rmH 1) 0 0 4 := k_V hB q_813 q_61 q_810 q_811 q_812 (by decide +kernel) hR
theorem kc_X3_155 (hB : ∀ w ∈ BG, w.before args s = true) (hR : (rmH 1).frames + 1 ≤ R.frames ∧ 8 + (2 + 11) + (rmH 1).locals ≤ R.locals) : CallW R s args RX3 RX0 155 yX0_gotOf cX0_gotOf 2 (some .int) (wsM yX0_gotOf cX0_gotOf 2 (some .int)) (rmH 1) 0 0 1 := k_V hB q_306 q_61 q_303 q_304 q_305 (by decide +kernel) hR
theorem kc_X3_158 (hB : ∀ w ∈ BG, w.before args s = true) (hR : (rmH 1).frames + 1 ≤ R.frames ∧ 8 + (4 + 11) + (rmH 1).locals ≤ R.locals) : CallW R s args RX3 RX0 158 yX0_give cX0_give 4 none (wsM yX0_give cX0_give 4 none) (rmH 1) 0 0 3 := k_V hB q_356 q_61 q_353 q_354 q_355 (by decide +kernel) hR
theorem kc_X3_162 (hB : ∀ w ∈ BG, w.before args s = true) (hR : (rmH 1).frames + 1 ≤ R.frames ∧ 8 + (2 + 11) + (rmH 1).locals ≤ R.locals) : CallW R s args RX3 RX0 162 yX0_monthOf cX0_monthOf 2 (some .int) (wsM yX0_monthOf cX0_monthOf 2 (some .int)) (rmH 1) 0 0 1 := k_V hB q_625 q_61 q_622 q_623 q_624 (by decide +kernel) hR
theorem kc_X3_163 (hB : ∀ w ∈ BG, w.before args s = true) (hR : (rmH 1).frames + 1 ≤ R.frames ∧ 8 + (3 + 11) + (rmH 1).locals ≤ R.locals) : CallW R s args RX3 RX0 163 yX0_changeStage cX0_changeStage 3 none (wsM yX0_changeStage cX0_changeStage 3 none) (rmH 1) 0 0 2 := k_V hB q_667 q_61 q_664 q_665 q_666 (by decide +kernel) hR
theorem kc_X3_166 (hB : ∀ w ∈ BG, w.before args s = true) (hR : (rmH 1).frames + 1 ≤ R.frames ∧ 8 + (3 + 11) + (rmH 1).locals ≤ R.locals) : CallW R s args RX3 RX2 166 yX2_raise cX2_raise 3 none (wsM yX2_raise cX2_raise 3 none) (rmH 1) 0 0 2 := k_V hB q_671 q_62 q_668 q_669 q_670 (by decide +kernel) hR
theorem kc_X3_169 (hB : ∀ w ∈ BG, w.before args s = true) (hR : (rmH 4).frames + 1 ≤ R.frames ∧ 8 + (3 + 11) + (rmH 4).locals ≤ R.locals) : CallW R s args RX3 RX3 169 yX3_topUp cX3_topUp 3 (some .int) (wsM yX3_topUp cX3_topUp 3 (some .int)) (rmH 4) 0 0 1 := k_V hB q_348 q_59 q_345 q_347 q_1 (by decide +kernel) hR
theorem kc_X3_177 (hB : ∀ w ∈ BG, w.before args s = true) (hR : (rmH 3).frames + 1 ≤ R.frames ∧ 8 + (4 + 11) + (rmH 3).locals ≤ R.locals) : CallW R s args RX3 RX3 177 yX3_owedTo cX3_owedTo 4 (some .int) (wsM yX3_owedTo cX3_owedTo 4 (some .int)) (rmH 3) 0 0 1 := k_V hB q_270 q_59 q_267 q_268 q_269 (by decide +kernel) hR
theorem kc_X3_180 (hB : ∀ w ∈ BG, w.before args s = true) (hR : (rmH 4).frames + 1 ≤ R.frames ∧ 8 + (4 + 11) + (rmH 4).locals ≤ R.locals) : CallW R s args RX3 RX3 180 yX3_owedInKind cX3_owedInKind 4 (some .int) (wsM yX3_owedInKind cX3_owedInKind 4 (some .int)) (rmH 4) 0 0 1 := k_V hB q_535 q_59 q_676 q_533 q_534 (by decide +kernel) hR
theorem kc_X3_183 (hB : ∀ w ∈ BG, w.before args s = true) (hR : (rmH 1).frames + 1 ≤ R.frames ∧ 8 + (2 + 11) + (rmH 1).locals ≤ R.locals) : CallW R s args RX3 RX0 183 yX0_customerOf cX0_customerOf 2 (some .int) (wsM yX0_customerOf cX0_customerOf 2 (some .int)) (rmH 1) 0 0 1 := k_V hB q_612 q_61 q_609 q_610 q_611 (by decide +kernel) hR
theorem kc_X3_186 (hB : ∀ w ∈ BG, w.before args s = true) (hR : (rmH 1).frames + 1 ≤ R.frames ∧ 8 + (2 + 11) + (rmH 1).locals ≤ R.locals) : CallW R s args RX3 RX0 186 yX0_amendsOf cX0_amendsOf 2 (some .int) (wsM yX0_amendsOf cX0_amendsOf 2 (some .int)) (rmH 1) 0 0 1 := k_V hB q_561 q_61 q_617 q_559 q_560 (by decide +kernel) hR
theorem kc_X3_187 (hB : ∀ w ∈ BG, w.before args s = true) (hR : (rmH 1).frames + 1 ≤ R.frames ∧ 8 + (2 + 11) + (rmH 1).locals ≤ R.locals) : CallW R s args RX3 RX0 187 yX0_reasonOf cX0_reasonOf 2 (some .int) (wsM yX0_reasonOf cX0_reasonOf 2 (some .int)) (rmH 1) 0 0 1 := k_V hB q_621 q_61 q_618 q_619 q_620 (by decide +kernel) hR
theorem kc_X4_27 (hB : ∀ w ∈ BG, w.before args s = true) (hR : (rmH 0).frames + 1 ≤ R.frames ∧ 8 + (1 + 11) + (rmH 0).locals ≤ R.locals) : CallB R s args RX4 27 yX4_isKind cX4_isKind 1 (some .boolean) (wsM yX4_isKind cX4_isKind 1 (some .boolean)) (rmH 0) 0 0 1 ∧ (Cond.static yX4_isKind).before args s = true := k_S hB q_302 q_58 q_509 q_301 (by decide +kernel) hR
theorem kc_X4_31 (hB : ∀ w ∈ BG, w.before args s = true) (hR : (rmH 1).frames + 1 ≤ R.frames ∧ 8 + (1 + 11) + (rmH 1).locals ≤ R.locals) : CallB R s args RX4 31 yX4_requireIndex cX4_requireIndex 1 none (wsM yX4_requireIndex cX4_requireIndex 1 none) (rmH 1) 0 0 1 ∧ (Cond.static yX4_requireIndex).before args s = true := k_S hB q_484 q_58 q_482 q_483 (by decide +kernel) hR
theorem kc_X4_35 (hB : ∀ w ∈ BG, w.before args s = true) (hR : (rmH 0).frames + 1 ≤ R.frames ∧ 8 + (3 + 11) + (rmH 0).locals ≤ R.locals) : CallB R s args RX4 35 yX4_isWithin cX4_isWithin 3 (some .boolean) (wsM yX4_isWithin cX4_isWithin 3 (some .boolean)) (rmH 0) 0 0 3 ∧ (Cond.static yX4_isWithin).before args s = true := k_S hB q_255 q_58 q_253 q_254 (by decide +kernel) hR
theorem kc_X4_39 (hB : ∀ w ∈ BG, w.before args s = true) (hR : (rmH 1).frames + 1 ≤ R.frames ∧ 8 + (1 + 11) + (rmH 1).locals ≤ R.locals) : CallB R s args RX4 39 yX4_requireArgument cX4_requireArgument 1 none (wsM yX4_requireArgument cX4_requireArgument 1 none) (rmH 1) 0 0 1 ∧ (Cond.static yX4_requireArgument).before args s = true := k_S hB q_394 q_58 q_392 q_393 (by decide +kernel) hR
theorem kc_X4_46 (hB : ∀ w ∈ BG, w.before args s = true) (hR : (rmH 1).frames + 1 ≤ R.frames ∧ 8 + (2 + 11) + (rmH 1).locals ≤ R.locals) : CallW R s args RX4 RX1 46 yX1_sizeOf cX1_sizeOf 2 (some .int) (wsM yX1_sizeOf cX1_sizeOf 2 (some .int)) (rmH 1) 0 0 1 := k_V hB q_526 q_60 q_523 q_524 q_525 (by decide +kernel) hR
theorem kc_X4_52 (hB : ∀ w ∈ BG, w.before args s = true) (hR : (rmH 1).frames + 1 ≤ R.frames ∧ 8 + (1 + 11) + (rmH 1).locals ≤ R.locals) : CallB R s args RX4 52 yX4_requireState cX4_requireState 1 none (wsM yX4_requireState cX4_requireState 1 none) (rmH 1) 0 0 1 ∧ (Cond.static yX4_requireState).before args s = true := k_S hB q_713 q_58 q_711 q_712 (by decide +kernel) hR
theorem kc_X4_55 (hB : ∀ w ∈ BG, w.before args s = true) (hR : (rmH 5).frames + 1 ≤ R.frames ∧ 8 + (2 + 11) + (rmH 5).locals ≤ R.locals) : CallW R s args RX4 RX4 55 yX4_save cX4_save 2 none (wsM yX4_save cX4_save 2 none) (rmH 5) 0 0 0 := k_V hB q_732 q_58 q_729 q_731 q_8 (by decide +kernel) hR
theorem kc_X4_58 (hB : ∀ w ∈ BG, w.before args s = true) (hR : (rmH 1).frames + 1 ≤ R.frames ∧ 8 + (7 + 11) + (rmH 1).locals ≤ R.locals) : CallW R s args RX4 RX1 58 yX1_add cX1_add 7 (some .int) (wsM yX1_add cX1_add 7 (some .int)) (rmH 1) 0 0 4 := k_V hB q_740 q_60 q_737 q_738 q_739 (by decide +kernel) hR
theorem kc_X4_62 (hB : ∀ w ∈ BG, w.before args s = true) (hR : (rmH 1).frames + 1 ≤ R.frames ∧ 8 + (3 + 11) + (rmH 1).locals ≤ R.locals) : CallW R s args RX4 RX1 62 yX1_has cX1_has 3 (some .boolean) (wsM yX1_has cX1_has 3 (some .boolean)) (rmH 1) 0 0 2 := k_V hB q_299 q_60 q_540 q_297 q_298 (by decide +kernel) hR
theorem kc_X4_66 (hB : ∀ w ∈ BG, w.before args s = true) (hR : (rmH 2).frames + 1 ≤ R.frames ∧ 8 + (3 + 11) + (rmH 2).locals ≤ R.locals) : CallW R s args RX4 RX1 66 yX1_isOffered cX1_isOffered 3 (some .boolean) (wsM yX1_isOffered cX1_isOffered 3 (some .boolean)) (rmH 2) 0 0 2 := k_V hB q_553 q_60 q_550 q_551 q_552 (by decide +kernel) hR
theorem kc_X4_69 (hB : ∀ w ∈ BG, w.before args s = true) (hR : (rmH 3).frames + 1 ≤ R.frames ∧ 8 + (5 + 11) + (rmH 3).locals ≤ R.locals) : CallW R s args RX4 RX1 69 yX1_remove cX1_remove 5 (some .int) (wsM yX1_remove cX1_remove 5 (some .int)) (rmH 3) 0 0 2 := k_V hB q_751 q_60 q_748 q_749 q_750 (by decide +kernel) hR
theorem kc_X4_73 (hB : ∀ w ∈ BG, w.before args s = true) (hR : (rmH 2).frames + 1 ≤ R.frames ∧ 8 + (4 + 11) + (rmH 2).locals ≤ R.locals) : CallW R s args RX4 RX3 73 yX3_changeBase cX3_changeBase 4 (some .int) (wsM yX3_changeBase cX3_changeBase 4 (some .int)) (rmH 2) 0 0 2 := k_V hB q_764 q_59 q_761 q_762 q_763 (by decide +kernel) hR
theorem kc_X4_76 (hB : ∀ w ∈ BG, w.before args s = true) (hR : (rmH 0).frames + 1 ≤ R.frames ∧ 8 + (1 + 11) + (rmH 0).locals ≤ R.locals) : CallB R s args RX4 76 yX4_isSetting cX4_isSetting 1 (some .boolean) (wsM yX4_isSetting cX4_isSetting 1 (some .boolean)) (rmH 0) 0 0 1 ∧ (Cond.static yX4_isSetting).before args s = true := k_S hB q_344 q_58 q_481 q_343 (by decide +kernel) hR
theorem kc_X4_79 (hB : ∀ w ∈ BG, w.before args s = true) (hR : (rmH 1).frames + 1 ≤ R.frames ∧ 8 + (2 + 11) + (rmH 1).locals ≤ R.locals) : CallB R s args RX4 79 yX4_isValueOf cX4_isValueOf 2 (some .boolean) (wsM yX4_isValueOf cX4_isValueOf 2 (some .boolean)) (rmH 1) 0 0 2 ∧ (Cond.static yX4_isValueOf).before args s = true := k_S hB q_775 q_58 q_773 q_774 (by decide +kernel) hR
theorem kc_X4_82 (hB : ∀ w ∈ BG, w.before args s = true) (hR : (rmH 2).frames + 1 ≤ R.frames ∧ 8 + (4 + 11) + (rmH 2).locals ≤ R.locals) : CallW R s args RX4 RX3 82 yX3_changeSetting cX3_changeSetting 4 (some .int) (wsM yX3_changeSetting cX3_changeSetting 4 (some .int)) (rmH 2) 0 0 2 := k_V hB q_783 q_59 q_780 q_781 q_782 (by decide +kernel) hR
theorem kc_X4_85 (hB : ∀ w ∈ BG, w.before args s = true) (hR : (rmH 0).frames + 1 ≤ R.frames ∧ 8 + (1 + 11) + (rmH 0).locals ≤ R.locals) : CallB R s args RX4 85 yX4_isCustomer cX4_isCustomer 1 (some .boolean) (wsM yX4_isCustomer cX4_isCustomer 1 (some .boolean)) (rmH 0) 0 0 1 ∧ (Cond.static yX4_isCustomer).before args s = true := k_S hB q_683 q_58 q_681 q_682 (by decide +kernel) hR
theorem kc_X4_98 (hB : ∀ w ∈ BG, w.before args s = true) (hR : (rmH 0).frames + 1 ≤ R.frames ∧ 8 + (5 + 11) + (rmH 0).locals ≤ R.locals) : CallW R s args RX4 RX0 98 yX0_add cX0_add 5 (some .int) (wsM yX0_add cX0_add 5 (some .int)) (rmH 0) 0 0 3 := k_V hB q_794 q_61 q_791 q_792 q_793 (by decide +kernel) hR
theorem kc_X4_101 (hB : ∀ w ∈ BG, w.before args s = true) (hR : (rmH 0).frames + 1 ≤ R.frames ∧ 8 + (2 + 11) + (rmH 0).locals ≤ R.locals) : CallW R s args RX4 RX0 101 yX0_has cX0_has 2 (some .boolean) (wsM yX0_has cX0_has 2 (some .boolean)) (rmH 0) 0 0 1 := k_V hB q_278 q_61 q_600 q_276 q_277 (by decide +kernel) hR
theorem kc_X4_103 (hB : ∀ w ∈ BG, w.before args s = true) (hR : (rmH 5).frames + 1 ≤ R.frames ∧ 8 + (6 + 11) + (rmH 5).locals ≤ R.locals) : CallW R s args RX4 RX3 103 yX3_againstDecision cX3_againstDecision 6 (some .int) (wsM yX3_againstDecision cX3_againstDecision 6 (some .int)) (rmH 5) 0 0 3 := k_V hB q_634 q_59 q_631 q_632 q_633 (by decide +kernel) hR
theorem kc_X4_106 (hB : ∀ w ∈ BG, w.before args s = true) (hR : (rmH 5).frames + 1 ≤ R.frames ∧ 8 + (7 + 11) + (rmH 5).locals ≤ R.locals) : CallW R s args RX4 RX3 106 yX3_makeDecision cX3_makeDecision 7 (some .int) (wsM yX3_makeDecision cX3_makeDecision 7 (some .int)) (rmH 5) 0 0 3 := k_V hB q_805 q_59 q_802 q_803 q_804 (by decide +kernel) hR
theorem kc_X4_109 (hB : ∀ w ∈ BG, w.before args s = true) (hR : (rmH 2).frames + 1 ≤ R.frames ∧ 8 + (2 + 11) + (rmH 2).locals ≤ R.locals) : CallW R s args RX4 RX3 109 yX3_canBeAppealed cX3_canBeAppealed 2 (some .boolean) (wsM yX3_canBeAppealed cX3_canBeAppealed 2 (some .boolean)) (rmH 2) 0 0 1 := k_V hB q_824 q_59 q_821 q_822 q_823 (by decide +kernel) hR
theorem kc_X4_112 (hB : ∀ w ∈ BG, w.before args s = true) (hR : (rmH 1).frames + 1 ≤ R.frames ∧ 8 + (3 + 11) + (rmH 1).locals ≤ R.locals) : CallW R s args RX4 RX0 112 yX0_changeStage cX0_changeStage 3 none (wsM yX0_changeStage cX0_changeStage 3 none) (rmH 1) 0 0 2 := k_V hB q_667 q_61 q_825 q_665 q_666 (by decide +kernel) hR
theorem kc_X4_116 (hB : ∀ w ∈ BG, w.before args s = true) (hR : (rmH 2).frames + 1 ≤ R.frames ∧ 8 + (4 + 11) + (rmH 2).locals ≤ R.locals) : CallW R s args RX4 RX0 116 yX0_inStage cX0_inStage 4 (some .int) (wsM yX0_inStage cX0_inStage 4 (some .int)) (rmH 2) 0 0 1 := k_V hB q_364 q_61 q_361 q_362 q_363 (by decide +kernel) hR
theorem kc_X4_119 (hB : ∀ w ∈ BG, w.before args s = true) (hR : (rmH 4).frames + 1 ≤ R.frames ∧ 8 + (5 + 11) + (rmH 4).locals ≤ R.locals) : CallW R s args RX4 RX3 119 yX3_againstJudgement cX3_againstJudgement 5 (some .int) (wsM yX3_againstJudgement cX3_againstJudgement 5 (some .int)) (rmH 4) 0 0 2 := k_V hB q_655 q_59 q_652 q_653 q_654 (by decide +kernel) hR
theorem kc_X4_122 (hB : ∀ w ∈ BG, w.before args s = true) (hR : (rmH 5).frames + 1 ≤ R.frames ∧ 8 + (8 + 11) + (rmH 5).locals ≤ R.locals) : CallW R s args RX4 RX3 122 yX3_makeJudgement cX3_makeJudgement 8 (some .int) (wsM yX3_makeJudgement cX3_makeJudgement 8 (some .int)) (rmH 5) 0 0 2 := k_V hB q_663 q_59 q_660 q_661 q_662 (by decide +kernel) hR
theorem kc_X4_128 (hB : ∀ w ∈ BG, w.before args s = true) (hR : (rmH 5).frames + 1 ≤ R.frames ∧ 8 + (3 + 11) + (rmH 5).locals ≤ R.locals) : CallW R s args RX4 RX3 128 yX3_turnMonth cX3_turnMonth 3 (some .int) (wsM yX3_turnMonth cX3_turnMonth 3 (some .int)) (rmH 5) 0 0 0 := k_V hB q_332 q_59 q_329 q_330 q_331 (by decide +kernel) hR
theorem kc_X4_135 (hB : ∀ w ∈ BG, w.before args s = true) (hR : (rmH 1).frames + 1 ≤ R.frames ∧ 8 + (2 + 11) + (rmH 1).locals ≤ R.locals) : CallW R s args RX4 RX4 135 yX4_codeAt cX4_codeAt 2 (some .int) (wsM yX4_codeAt cX4_codeAt 2 (some .int)) (rmH 1) 0 0 1 := k_V hB q_252 q_58 q_249 q_251 q_0 (by decide +kernel) hR
theorem kc_X4_138 (hB : ∀ w ∈ BG, w.before args s = true) (hR : (rmH 1).frames + 1 ≤ R.frames ∧ 8 + (2 + 11) + (rmH 1).locals ≤ R.locals) : CallB R s args RX4 138 yX4_fitsPlace cX4_fitsPlace 2 (some .boolean) (wsM yX4_fitsPlace cX4_fitsPlace 2 (some .boolean)) (rmH 1) 0 0 2 ∧ (Cond.static yX4_fitsPlace).before args s = true := k_S hB q_258 q_58 q_256 q_257 (by decide +kernel) hR
theorem kc_X4_141 (hB : ∀ w ∈ BG, w.before args s = true) (hR : (rmH 2).frames + 1 ≤ R.frames ∧ 8 + (2 + 11) + (rmH 2).locals ≤ R.locals) : CallW R s args RX4 RX4 141 yX4_firstError cX4_firstError 2 (some .int) (wsM yX4_firstError cX4_firstError 2 (some .int)) (rmH 2) 0 0 0 := k_V hB q_248 q_58 q_854 q_246 q_247 (by decide +kernel) hR
theorem kc_X4_144 (hB : ∀ w ∈ BG, w.before args s = true) (hR : (rmH 2).frames + 1 ≤ R.frames ∧ 8 + (2 + 11) + (rmH 2).locals ≤ R.locals) : CallW R s args RX4 RX4 144 yX4_digitAt cX4_digitAt 2 (some .int) (wsM yX4_digitAt cX4_digitAt 2 (some .int)) (rmH 2) 0 0 1 := k_V hB q_858 q_58 q_855 q_857 q_10 (by decide +kernel) hR
theorem kc_X4_153 (hB : ∀ w ∈ BG, w.before args s = true) (hR : (rmH 1).frames + 1 ≤ R.frames ∧ 8 + (2 + 11) + (rmH 1).locals ≤ R.locals) : CallW R s args RX4 RX4 153 yX4_savedAt cX4_savedAt 2 (some (.object "AmendsLedger$State")) (wsM yX4_savedAt cX4_savedAt 2 (some (.object "AmendsLedger$State"))) (rmH 1) 0 0 1 := k_V hB q_736 q_58 q_733 q_735 q_9 (by decide +kernel) hR
theorem kc_X4_157 (hB : ∀ w ∈ BG, w.before args s = true) (hR : (rmH 4).frames + 1 ≤ R.frames ∧ 8 + (2 + 11) + (rmH 4).locals ≤ R.locals) : CallW R s args RX4 RX3 157 yX3_copyFrom cX3_copyFrom 2 none (wsM yX3_copyFrom cX3_copyFrom 2 none) (rmH 4) 0 0 1 := k_V hB q_313 q_59 q_310 q_311 q_312 (by decide +kernel) hR
theorem kc_X4_161 (hB : ∀ w ∈ BG, w.before args s = true) (hR : (rmH 4).frames + 1 ≤ R.frames ∧ 8 + (3 + 11) + (rmH 4).locals ≤ R.locals) : CallW R s args RX4 RX3 161 yX3_ofComplaint cX3_ofComplaint 3 (some .int) (wsM yX3_ofComplaint cX3_ofComplaint 3 (some .int)) (rmH 4) 0 0 2 := k_V hB q_604 q_59 q_601 q_602 q_603 (by decide +kernel) hR
theorem kc_X4_164 (hB : ∀ w ∈ BG, w.before args s = true) (hR : (rmH 2).frames + 1 ≤ R.frames ∧ 8 + (3 + 11) + (rmH 2).locals ≤ R.locals) : CallW R s args RX4 RX1 164 yX1_costOf cX1_costOf 3 (some .int) (wsM yX1_costOf cX1_costOf 3 (some .int)) (rmH 2) 0 0 2 := k_V hB q_295 q_60 q_541 q_293 q_294 (by decide +kernel) hR
theorem kc_X4_167 (hB : ∀ w ∈ BG, w.before args s = true) (hR : (rmH 2).frames + 1 ≤ R.frames ∧ 8 + (3 + 11) + (rmH 2).locals ≤ R.locals) : CallW R s args RX4 RX1 167 yX1_leastOf cX1_leastOf 3 (some .int) (wsM yX1_leastOf cX1_leastOf 3 (some .int)) (rmH 2) 0 0 2 := k_V hB q_545 q_60 q_542 q_543 q_544 (by decide +kernel) hR
theorem kc_X4_170 (hB : ∀ w ∈ BG, w.before args s = true) (hR : (rmH 2).frames + 1 ≤ R.frames ∧ 8 + (3 + 11) + (rmH 2).locals ≤ R.locals) : CallW R s args RX4 RX1 170 yX1_mostOf cX1_mostOf 3 (some .int) (wsM yX1_mostOf cX1_mostOf 3 (some .int)) (rmH 2) 0 0 2 := k_V hB q_549 q_60 q_546 q_547 q_548 (by decide +kernel) hR
theorem kc_X4_173 (hB : ∀ w ∈ BG, w.before args s = true) (hR : (rmH 2).frames + 1 ≤ R.frames ∧ 8 + (5 + 11) + (rmH 2).locals ≤ R.locals) : CallW R s args RX4 RX0 173 yX0_having cX0_having 5 (some .int) (wsM yX0_having cX0_having 5 (some .int)) (rmH 2) 0 0 2 := k_V hB q_557 q_61 q_554 q_555 q_556 (by decide +kernel) hR
theorem kc_X4_176 (hB : ∀ w ∈ BG, w.before args s = true) (hR : (rmH 0).frames + 1 ≤ R.frames ∧ 8 + (1 + 11) + (rmH 0).locals ≤ R.locals) : CallB R s args RX4 176 yX4_isGroup cX4_isGroup 1 (some .boolean) (wsM yX4_isGroup cX4_isGroup 1 (some .boolean)) (rmH 0) 0 0 1 ∧ (Cond.static yX4_isGroup).before args s = true := k_S hB q_568 q_58 q_566 q_567 (by decide +kernel) hR
theorem kc_X4_183 (hB : ∀ w ∈ BG, w.before args s = true) (hR : (rmH 1).frames + 1 ≤ R.frames ∧ 8 + (3 + 11) + (rmH 1).locals ≤ R.locals) : CallW R s args RX4 RX2 183 yX2_latestOf cX2_latestOf 3 (some .int) (wsM yX2_latestOf cX2_latestOf 3 (some .int)) (rmH 1) 0 0 2 := k_V hB q_572 q_62 q_569 q_570 q_571 (by decide +kernel) hR
theorem kc_X4_188 (hB : ∀ w ∈ BG, w.before args s = true) (hR : (rmH 0).frames + 1 ≤ R.frames ∧ 8 + (2 + 11) + (rmH 0).locals ≤ R.locals) : CallW R s args RX4 RX2 188 yX2_has cX2_has 2 (some .boolean) (wsM yX2_has cX2_has 2 (some .boolean)) (rmH 0) 0 0 1 := k_V hB q_282 q_62 q_575 q_280 q_281 (by decide +kernel) hR
theorem kc_X4_189 (hB : ∀ w ∈ BG, w.before args s = true) (hR : (rmH 1).frames + 1 ≤ R.frames ∧ 8 + (2 + 11) + (rmH 1).locals ≤ R.locals) : CallW R s args RX4 RX2 189 yX2_amendsOf cX2_amendsOf 2 (some .int) (wsM yX2_amendsOf cX2_amendsOf 2 (some .int)) (rmH 1) 0 0 1 := k_V hB q_290 q_62 q_576 q_288 q_289 (by decide +kernel) hR
theorem kc_X4_192 (hB : ∀ w ∈ BG, w.before args s = true) (hR : (rmH 1).frames + 1 ≤ R.frames ∧ 8 + (2 + 11) + (rmH 1).locals ≤ R.locals) : CallW R s args RX4 RX2 192 yX2_monthOf cX2_monthOf 2 (some .int) (wsM yX2_monthOf cX2_monthOf 2 (some .int)) (rmH 1) 0 0 1 := k_V hB q_580 q_62 q_577 q_578 q_579 (by decide +kernel) hR
theorem kc_X4_195 (hB : ∀ w ∈ BG, w.before args s = true) (hR : (rmH 1).frames + 1 ≤ R.frames ∧ 8 + (2 + 11) + (rmH 1).locals ≤ R.locals) : CallW R s args RX4 RX2 195 yX2_setterOf cX2_setterOf 2 (some .int) (wsM yX2_setterOf cX2_setterOf 2 (some .int)) (rmH 1) 0 0 1 := k_V hB q_381 q_62 q_581 q_379 q_380 (by decide +kernel) hR
theorem kc_X4_198 (hB : ∀ w ∈ BG, w.before args s = true) (hR : (rmH 3).frames + 1 ≤ R.frames ∧ 8 + (3 + 11) + (rmH 3).locals ≤ R.locals) : CallW R s args RX4 RX3 198 yX3_isBinding cX3_isBinding 3 (some .boolean) (wsM yX3_isBinding cX3_isBinding 3 (some .boolean)) (rmH 3) 0 0 2 := k_V hB q_585 q_59 q_582 q_583 q_584 (by decide +kernel) hR
theorem kc_X4_201 (hB : ∀ w ∈ BG, w.before args s = true) (hR : (rmH 2).frames + 1 ≤ R.frames ∧ 8 + (4 + 11) + (rmH 2).locals ≤ R.locals) : CallW R s args RX4 RX0 201 yX0_following cX0_following 4 (some .int) (wsM yX0_following cX0_following 4 (some .int)) (rmH 2) 0 0 1 := k_V hB q_591 q_61 q_588 q_589 q_590 (by decide +kernel) hR
theorem kc_X4_204 (hB : ∀ w ∈ BG, w.before args s = true) (hR : (rmH 1).frames + 1 ≤ R.frames ∧ 8 + (2 + 11) + (rmH 1).locals ≤ R.locals) : CallW R s args RX4 RX3 204 yX3_baseOf cX3_baseOf 2 (some .int) (wsM yX3_baseOf cX3_baseOf 2 (some .int)) (rmH 1) 0 0 1 := k_V hB q_513 q_59 q_510 q_511 q_512 (by decide +kernel) hR
theorem kc_X4_207 (hB : ∀ w ∈ BG, w.before args s = true) (hR : (rmH 1).frames + 1 ≤ R.frames ∧ 8 + (2 + 11) + (rmH 1).locals ≤ R.locals) : CallW R s args RX4 RX3 207 yX3_budgetOf cX3_budgetOf 2 (some .int) (wsM yX3_budgetOf cX3_budgetOf 2 (some .int)) (rmH 1) 0 0 1 := k_V hB q_517 q_59 q_514 q_515 q_516 (by decide +kernel) hR
theorem kc_X4_210 (hB : ∀ w ∈ BG, w.before args s = true) (hR : (rmH 1).frames + 1 ≤ R.frames ∧ 8 + (2 + 11) + (rmH 1).locals ≤ R.locals) : CallW R s args RX4 RX3 210 yX3_spentOf cX3_spentOf 2 (some .int) (wsM yX3_spentOf cX3_spentOf 2 (some .int)) (rmH 1) 0 0 1 := k_V hB q_521 q_59 q_518 q_519 q_520 (by decide +kernel) hR
theorem kc_X4_213 (hB : ∀ w ∈ BG, w.before args s = true) (hR : (rmH 1).frames + 1 ≤ R.frames ∧ 8 + (2 + 11) + (rmH 1).locals ≤ R.locals) : CallW R s args RX4 RX3 213 yX3_leftOf cX3_leftOf 2 (some .int) (wsM yX3_leftOf cX3_leftOf 2 (some .int)) (rmH 1) 0 0 1 := k_V hB q_336 q_59 q_522 q_334 q_335 (by decide +kernel) hR
theorem kc_X4_216 (hB : ∀ w ∈ BG, w.before args s = true) (hR : (rmH 2).frames + 1 ≤ R.frames ∧ 8 + (4 + 11) + (rmH 2).locals ≤ R.locals) : CallW R s args RX4 RX0 216 yX0_ofKind cX0_ofKind 4 (some .int) (wsM yX0_ofKind cX0_ofKind 4 (some .int)) (rmH 2) 0 0 1 := k_V hB q_530 q_61 q_527 q_528 q_529 (by decide +kernel) hR
theorem kc_X4_219 (hB : ∀ w ∈ BG, w.before args s = true) (hR : (rmH 2).frames + 1 ≤ R.frames ∧ 8 + (4 + 11) + (rmH 2).locals ≤ R.locals) : CallW R s args RX4 RX0 219 yX0_gotInKind cX0_gotInKind 4 (some .int) (wsM yX0_gotInKind cX0_gotInKind 4 (some .int)) (rmH 2) 0 0 1 := k_V hB q_465 q_61 q_531 q_463 q_464 (by decide +kernel) hR
theorem kc_X4_222 (hB : ∀ w ∈ BG, w.before args s = true) (hR : (rmH 4).frames + 1 ≤ R.frames ∧ 8 + (4 + 11) + (rmH 4).locals ≤ R.locals) : CallW R s args RX4 RX3 222 yX3_owedInKind cX3_owedInKind 4 (some .int) (wsM yX3_owedInKind cX3_owedInKind 4 (some .int)) (rmH 4) 0 0 1 := k_V hB q_535 q_59 q_532 q_533 q_534 (by decide +kernel) hR
theorem kc_X4_225 (hB : ∀ w ∈ BG, w.before args s = true) (hR : (rmH 3).frames + 1 ≤ R.frames ∧ 8 + (3 + 11) + (rmH 3).locals ≤ R.locals) : CallW R s args RX4 RX0 225 yX0_gotInAll cX0_gotInAll 3 (some .int) (wsM yX0_gotInAll cX0_gotInAll 3 (some .int)) (rmH 3) 0 0 0 := k_V hB q_461 q_61 q_458 q_459 q_460 (by decide +kernel) hR
theorem kc_X4_228 (hB : ∀ w ∈ BG, w.before args s = true) (hR : (rmH 4).frames + 1 ≤ R.frames ∧ 8 + (3 + 11) + (rmH 4).locals ≤ R.locals) : CallW R s args RX4 RX3 228 yX3_waiting cX3_waiting 3 (some .int) (wsM yX3_waiting cX3_waiting 3 (some .int)) (rmH 4) 0 0 0 := k_V hB q_266 q_59 q_263 q_264 q_265 (by decide +kernel) hR
theorem kc_X4_231 (hB : ∀ w ∈ BG, w.before args s = true) (hR : (rmH 3).frames + 1 ≤ R.frames ∧ 8 + (3 + 11) + (rmH 3).locals ≤ R.locals) : CallW R s args RX4 RX3 231 yX3_departing cX3_departing 3 (some .int) (wsM yX3_departing cX3_departing 3 (some .int)) (rmH 3) 0 0 0 := k_V hB q_372 q_59 q_369 q_370 q_371 (by decide +kernel) hR
theorem kc_X4_235 (hB : ∀ w ∈ BG, w.before args s = true) (hR : (rmH 3).frames + 1 ≤ R.frames ∧ 8 + (4 + 11) + (rmH 3).locals ≤ R.locals) : CallW R s args RX4 RX0 235 yX0_unequalPairs cX0_unequalPairs 4 (some .int) (wsM yX0_unequalPairs cX0_unequalPairs 4 (some .int)) (rmH 3) 0 0 0 := k_V hB q_471 q_61 q_468 q_469 q_470 (by decide +kernel) hR
theorem kc_X4_238 (hB : ∀ w ∈ BG, w.before args s = true) (hR : (rmH 1).frames + 1 ≤ R.frames ∧ 8 + (2 + 11) + (rmH 1).locals ≤ R.locals) : CallW R s args RX4 RX3 238 yX3_settingOf cX3_settingOf 2 (some .int) (wsM yX3_settingOf cX3_settingOf 2 (some .int)) (rmH 1) 0 0 1 := k_V hB q_341 q_59 q_500 q_339 q_340 (by decide +kernel) hR
theorem kc_X4_241 (hB : ∀ w ∈ BG, w.before args s = true) (hR : (rmH 2).frames + 1 ≤ R.frames ∧ 8 + (5 + 11) + (rmH 2).locals ≤ R.locals) : CallW R s args RX4 RX0 241 yX0_ofOne cX0_ofOne 5 (some .int) (wsM yX0_ofOne cX0_ofOne 5 (some .int)) (rmH 2) 0 0 2 := k_V hB q_687 q_61 q_684 q_685 q_686 (by decide +kernel) hR
theorem kc_X4_244 (hB : ∀ w ∈ BG, w.before args s = true) (hR : (rmH 1).frames + 1 ≤ R.frames ∧ 8 + (2 + 11) + (rmH 1).locals ≤ R.locals) : CallW R s args RX4 RX0 244 yX0_kindOf cX0_kindOf 2 (some .int) (wsM yX0_kindOf cX0_kindOf 2 (some .int)) (rmH 1) 0 0 1 := k_V hB q_286 q_61 q_630 q_284 q_285 (by decide +kernel) hR
theorem kc_X4_247 (hB : ∀ w ∈ BG, w.before args s = true) (hR : (rmH 5).frames + 1 ≤ R.frames ∧ 8 + (3 + 11) + (rmH 5).locals ≤ R.locals) : CallW R s args RX4 RX3 247 yX3_owedInAll cX3_owedInAll 3 (some .int) (wsM yX3_owedInAll cX3_owedInAll 3 (some .int)) (rmH 5) 0 0 0 := k_V hB q_675 q_59 q_672 q_673 q_674 (by decide +kernel) hR
theorem kc_X4_254 (hB : ∀ w ∈ BG, w.before args s = true) (hR : (rmH 5).frames + 1 ≤ R.frames ∧ 8 + (2 + 11) + (rmH 5).locals ≤ R.locals) : CallW R s args RX4 RX4 254 yX4_count cX4_count 2 (some .int) (wsM yX4_count cX4_count 2 (some .int)) (rmH 5) 0 0 1 := k_V hB q_391 q_58 q_388 q_389 q_390 (by decide +kernel) hR
theorem kc_X4_257 (hB : ∀ w ∈ BG, w.before args s = true) (hR : (rmH 2).frames + 1 ≤ R.frames ∧ 8 + (2 + 11) + (rmH 2).locals ≤ R.locals) : CallW R s args RX4 RX4 257 yX4_setting cX4_setting 2 (some .int) (wsM yX4_setting cX4_setting 2 (some .int)) (rmH 2) 0 0 1 := k_V hB q_480 q_58 q_477 q_478 q_479 (by decide +kernel) hR
theorem kc_X4_260 (hB : ∀ w ∈ BG, w.before args s = true) (hR : (rmH 6).frames + 1 ≤ R.frames ∧ 8 + (8 + 11) + (rmH 6).locals ≤ R.locals) : CallW R s args RX4 RX4 260 yX4_withKind cX4_withKind 8 (some .long) (wsM yX4_withKind cX4_withKind 8 (some .long)) (rmH 6) 0 0 2 := k_V hB q_504 q_58 q_501 q_503 q_5 (by decide +kernel) hR
theorem kc_X4_264 (hB : ∀ w ∈ BG, w.before args s = true) (hR : (rmH 6).frames + 1 ≤ R.frames ∧ 8 + (7 + 11) + (rmH 6).locals ≤ R.locals) : CallW R s args RX4 RX4 264 yX4_withComplaint cX4_withComplaint 7 (some .long) (wsM yX4_withComplaint cX4_withComplaint 7 (some .long)) (rmH 6) 0 0 2 := k_V hB q_595 q_58 q_592 q_594 q_6 (by decide +kernel) hR
theorem kc_X4_267 (hB : ∀ w ∈ BG, w.before args s = true) (hR : (rmH 6).frames + 1 ≤ R.frames ∧ 8 + (6 + 11) + (rmH 6).locals ≤ R.locals) : CallW R s args RX4 RX4 267 yX4_fair cX4_fair 6 (some .int) (wsM yX4_fair cX4_fair 6 (some .int)) (rmH 6) 0 0 1 := k_V hB q_629 q_58 q_626 q_627 q_628 (by decide +kernel) hR
theorem kc_X4_270 (hB : ∀ w ∈ BG, w.before args s = true) (hR : (rmH 6).frames + 1 ≤ R.frames ∧ 8 + (4 + 11) + (rmH 6).locals ≤ R.locals) : CallW R s args RX4 RX4 270 yX4_whyNot cX4_whyNot 4 (some .int) (wsM yX4_whyNot cX4_whyNot 4 (some .int)) (rmH 6) 0 0 3 := k_V hB q_651 q_58 q_648 q_649 q_650 (by decide +kernel) hR
theorem kc_X4_273 (hB : ∀ w ∈ BG, w.before args s = true) (hR : (rmH 6).frames + 1 ≤ R.frames ∧ 8 + (5 + 11) + (rmH 6).locals ≤ R.locals) : CallW R s args RX4 RX4 273 yX4_ifJudged cX4_ifJudged 5 (some .int) (wsM yX4_ifJudged cX4_ifJudged 5 (some .int)) (rmH 6) 0 0 3 := k_V hB q_659 q_58 q_656 q_657 q_658 (by decide +kernel) hR
theorem kc_X4_276 (hB : ∀ w ∈ BG, w.before args s = true) (hR : (rmH 3).frames + 1 ≤ R.frames ∧ 8 + (3 + 11) + (rmH 3).locals ≤ R.locals) : CallW R s args RX4 RX4 276 yX4_ofCustomer cX4_ofCustomer 3 (some .int) (wsM yX4_ofCustomer cX4_ofCustomer 3 (some .int)) (rmH 3) 0 0 2 := k_V hB q_680 q_58 q_677 q_678 q_679 (by decide +kernel) hR
theorem kc_X4_279 (hB : ∀ w ∈ BG, w.before args s = true) (hR : (rmH 6).frames + 1 ≤ R.frames ∧ 8 + (2 + 11) + (rmH 6).locals ≤ R.locals) : CallW R s args RX4 RX4 279 yX4_monthsToEqual cX4_monthsToEqual 2 (some .int) (wsM yX4_monthsToEqual cX4_monthsToEqual 2 (some .int)) (rmH 6) 0 0 0 := k_V hB q_262 q_58 q_689 q_260 q_261 (by decide +kernel) hR
theorem kc_X4_282 (hB : ∀ w ∈ BG, w.before args s = true) (hR : (rmH 4).frames + 1 ≤ R.frames ∧ 8 + (2 + 11) + (rmH 4).locals ≤ R.locals) : CallW R s args RX4 RX4 282 yX4_followShare cX4_followShare 2 (some .double) (wsM yX4_followShare cX4_followShare 2 (some .double)) (rmH 4) 0 0 0 := k_V hB q_360 q_58 q_690 q_358 q_359 (by decide +kernel) hR
theorem kc_X4_286 (hB : ∀ w ∈ BG, w.before args s = true) (hR : (rmH 0).frames + 1 ≤ R.frames ∧ 8 + (8 + 11) + (rmH 0).locals ≤ R.locals) : CallB R s args RX4 286 yX4_bitsOf cX4_bitsOf 8 (some .long) (wsM yX4_bitsOf cX4_bitsOf 8 (some .long)) (rmH 0) 0 0 1 ∧ (Cond.static yX4_bitsOf).before args s = true := k_S hB q_693 q_58 q_691 q_692 (by decide +kernel) hR
theorem kc_X4_290 (hB : ∀ w ∈ BG, w.before args s = true) (hR : (rmH 2).frames + 1 ≤ R.frames ∧ 8 + (6 + 11) + (rmH 2).locals ≤ R.locals) : CallW R s args RX4 RX4 290 yX4_withBuffer cX4_withBuffer 6 (some .long) (wsM yX4_withBuffer cX4_withBuffer 6 (some .long)) (rmH 2) 0 0 1 := k_V hB q_700 q_58 q_697 q_699 q_7 (by decide +kernel) hR
theorem kc_X4_294 (hB : ∀ w ∈ BG, w.before args s = true) (hR : (rmH 5).frames + 1 ≤ R.frames ∧ 8 + (3 + 11) + (rmH 5).locals ≤ R.locals) : CallW R s args RX4 RX4 294 yX4_kind cX4_kind 3 (some .int) (wsM yX4_kind cX4_kind 3 (some .int)) (rmH 5) 0 0 2 := k_V hB q_508 q_58 q_505 q_506 q_507 (by decide +kernel) hR
theorem kc_X4_297 (hB : ∀ w ∈ BG, w.before args s = true) (hR : (rmH 3).frames + 1 ≤ R.frames ∧ 8 + (4 + 11) + (rmH 3).locals ≤ R.locals) : CallW R s args RX4 RX4 297 yX4_amends cX4_amends 4 (some .int) (wsM yX4_amends cX4_amends 4 (some .int)) (rmH 3) 0 0 3 := k_V hB q_539 q_58 q_536 q_537 q_538 (by decide +kernel) hR
theorem kc_X4_300 (hB : ∀ w ∈ BG, w.before args s = true) (hR : (rmH 4).frames + 1 ≤ R.frames ∧ 8 + (5 + 11) + (rmH 4).locals ≤ R.locals) : CallW R s args RX4 RX4 300 yX4_precedent cX4_precedent 5 (some .int) (wsM yX4_precedent cX4_precedent 5 (some .int)) (rmH 4) 0 0 3 := k_V hB q_565 q_58 q_562 q_563 q_564 (by decide +kernel) hR
theorem kc_X4_303 (hB : ∀ w ∈ BG, w.before args s = true) (hR : (rmH 5).frames + 1 ≤ R.frames ∧ 8 + (3 + 11) + (rmH 5).locals ≤ R.locals) : CallW R s args RX4 RX4 303 yX4_complaint cX4_complaint 3 (some .int) (wsM yX4_complaint cX4_complaint 3 (some .int)) (rmH 5) 0 0 2 := k_V hB q_599 q_58 q_596 q_597 q_598 (by decide +kernel) hR
theorem kc_X5_25 (hB : ∀ w ∈ BG, w.before args s = true) (hR : (rmH 0).frames + 1 ≤ R.frames ∧ 8 + (1 + 11) + (rmH 0).locals ≤ R.locals) : CallB R s args RX5 25 yX5_at cX5_at 1 (some .int) (wsM yX5_at cX5_at 1 (some .int)) (rmH 0) 0 0 1 ∧ (Cond.static yX5_at).before args s = true := k_S hB q_914 q_66 q_912 q_913 (by decide +kernel) hR
theorem kc_X5_36 (hB : ∀ w ∈ BG, w.before args s = true) (hR : (rmH 0).frames + 1 ≤ R.frames ∧ 8 + (3 + 11) + (rmH 0).locals ≤ R.locals) : CallB R s args RX5 36 yX5_in cX5_in 3 (some .boolean) (wsM yX5_in cX5_in 3 (some .boolean)) (rmH 0) 0 0 3 ∧ (Cond.static yX5_in).before args s = true := k_S hB q_965 q_66 q_963 q_964 (by decide +kernel) hR
theorem kc_X5_40 (hB : ∀ w ∈ BG, w.before args s = true) (hR : (rmH 1).frames + 1 ≤ R.frames ∧ 8 + (3 + 11) + (rmH 1).locals ≤ R.locals) : CallW R s args RX5 RX5 40 yX5_isAmends cX5_isAmends 3 (some .boolean) (wsM yX5_isAmends cX5_isAmends 3 (some .boolean)) (rmH 1) 0 0 2 := k_V hB q_984 q_66 q_981 q_983 q_13 (by decide +kernel) hR
theorem kc_X5_44 (hB : ∀ w ∈ BG, w.before args s = true) (hR : (rmH 1).frames + 1 ≤ R.frames ∧ 8 + (2 + 11) + (rmH 1).locals ≤ R.locals) : CallB R s args RX5 44 yX5_menuAt cX5_menuAt 2 (some .int) (wsM yX5_menuAt cX5_menuAt 2 (some .int)) (rmH 1) 0 0 2 ∧ (Cond.static yX5_menuAt).before args s = true := k_S hB q_976 q_66 q_974 q_975 (by decide +kernel) hR
theorem kc_X5_48 (hB : ∀ w ∈ BG, w.before args s = true) (hR : (rmH 0).frames + 1 ≤ R.frames ∧ 8 + (3 + 11) + (rmH 0).locals ≤ R.locals) : CallW R s args RX5 RX5 48 yX5_latest cX5_latest 3 (some .int) (wsM yX5_latest cX5_latest 3 (some .int)) (rmH 0) 0 0 2 := k_V hB q_1041 q_66 q_1038 q_1040 q_21 (by decide +kernel) hR
theorem kc_X5_51 (hB : ∀ w ∈ BG, w.before args s = true) (hR : (rmH 2).frames + 1 ≤ R.frames ∧ 8 + (3 + 11) + (rmH 2).locals ≤ R.locals) : CallW R s args RX5 RX5 51 yX5_isOffered cX5_isOffered 3 (some .boolean) (wsM yX5_isOffered cX5_isOffered 3 (some .boolean)) (rmH 2) 0 0 2 := k_V hB q_988 q_66 q_985 q_987 q_14 (by decide +kernel) hR
theorem kc_X5_54 (hB : ∀ w ∈ BG, w.before args s = true) (hR : (rmH 0).frames + 1 ≤ R.frames ∧ 8 + (1 + 11) + (rmH 0).locals ≤ R.locals) : CallB R s args RX5 54 yX5_of cX5_of 1 (some .int) (wsM yX5_of cX5_of 1 (some .int)) (rmH 0) 0 0 1 ∧ (Cond.static yX5_of).before args s = true := k_S hB q_1014 q_66 q_1012 q_1013 (by decide +kernel) hR
theorem kc_X5_57 (hB : ∀ w ∈ BG, w.before args s = true) (hR : (rmH 2).frames + 1 ≤ R.frames ∧ 8 + (3 + 11) + (rmH 2).locals ≤ R.locals) : CallW R s args RX5 RX5 57 yX5_cost cX5_cost 3 (some .int) (wsM yX5_cost cX5_cost 3 (some .int)) (rmH 2) 0 0 2 := k_V hB q_1045 q_66 q_1042 q_1044 q_22 (by decide +kernel) hR
theorem kc_X5_60 (hB : ∀ w ∈ BG, w.before args s = true) (hR : (rmH 1).frames + 1 ≤ R.frames ∧ 8 + (1 + 11) + (rmH 1).locals ≤ R.locals) : CallB R s args RX5 60 yX5_isKind cX5_isKind 1 (some .boolean) (wsM yX5_isKind cX5_isKind 1 (some .boolean)) (rmH 1) 0 0 1 ∧ (Cond.static yX5_isKind).before args s = true := k_S hB q_962 q_66 q_960 q_961 (by decide +kernel) hR
theorem kc_X5_64 (hB : ∀ w ∈ BG, w.before args s = true) (hR : (rmH 0).frames + 1 ≤ R.frames ∧ 8 + (2 + 11) + (rmH 0).locals ≤ R.locals) : CallW R s args RX5 RX5 64 yX5_fails cX5_fails 2 (some .int) (wsM yX5_fails cX5_fails 2 (some .int)) (rmH 0) 0 0 1 := k_V hB q_969 q_66 q_966 q_968 q_11 (by decide +kernel) hR
theorem kc_X5_67 (hB : ∀ w ∈ BG, w.before args s = true) (hR : (rmH 0).frames + 1 ≤ R.frames ∧ 8 + (2 + 11) + (rmH 0).locals ≤ R.locals) : CallW R s args RX5 RX5 67 yX5_save cX5_save 2 none (wsM yX5_save cX5_save 2 none) (rmH 0) 0 0 0 := k_V hB q_973 q_66 q_970 q_972 q_12 (by decide +kernel) hR
theorem kc_X5_70 (hB : ∀ w ∈ BG, w.before args s = true) (hR : (rmH 2).frames + 1 ≤ R.frames ∧ 8 + (4 + 11) + (rmH 2).locals ≤ R.locals) : CallW R s args RX5 RX5 70 yX5_offered cX5_offered 4 (some .int) (wsM yX5_offered cX5_offered 4 (some .int)) (rmH 2) 0 0 1 := k_V hB q_992 q_66 q_989 q_991 q_15 (by decide +kernel) hR
theorem kc_X5_73 (hB : ∀ w ∈ BG, w.before args s = true) (hR : (rmH 1).frames + 1 ≤ R.frames ∧ 8 + (2 + 11) + (rmH 1).locals ≤ R.locals) : CallB R s args RX5 73 yX5_maySet cX5_maySet 2 (some .boolean) (wsM yX5_maySet cX5_maySet 2 (some .boolean)) (rmH 1) 0 0 2 ∧ (Cond.static yX5_maySet).before args s = true := k_S hB q_1003 q_66 q_1001 q_1002 (by decide +kernel) hR
theorem kc_X5_76 (hB : ∀ w ∈ BG, w.before args s = true) (hR : (rmH 1).frames + 1 ≤ R.frames ∧ 8 + (5 + 11) + (rmH 1).locals ≤ R.locals) : CallW R s args RX5 RX5 76 yX5_complainNow cX5_complainNow 5 none (wsM yX5_complainNow cX5_complainNow 5 none) (rmH 1) 0 0 3 := k_V hB q_1011 q_66 q_1008 q_1010 q_16 (by decide +kernel) hR
theorem kc_X5_80 (hB : ∀ w ∈ BG, w.before args s = true) (hR : (rmH 0).frames + 1 ≤ R.frames ∧ 8 + (1 + 11) + (rmH 0).locals ≤ R.locals) : CallB R s args RX5 80 yX5_group cX5_group 1 (some .int) (wsM yX5_group cX5_group 1 (some .int)) (rmH 0) 0 0 1 ∧ (Cond.static yX5_group).before args s = true := k_S hB q_1029 q_66 q_1027 q_1028 (by decide +kernel) hR
theorem kc_X5_83 (hB : ∀ w ∈ BG, w.before args s = true) (hR : (rmH 2).frames + 1 ≤ R.frames ∧ 8 + (4 + 11) + (rmH 2).locals ≤ R.locals) : CallW R s args RX5 RX5 83 yX5_fits cX5_fits 4 (some .boolean) (wsM yX5_fits cX5_fits 4 (some .boolean)) (rmH 2) 0 0 2 := k_V hB q_1033 q_66 q_1030 q_1032 q_19 (by decide +kernel) hR
theorem kc_X5_86 (hB : ∀ w ∈ BG, w.before args s = true) (hR : (rmH 3).frames + 1 ≤ R.frames ∧ 8 + (4 + 11) + (rmH 3).locals ≤ R.locals) : CallW R s args RX5 RX5 86 yX5_binds cX5_binds 4 (some .boolean) (wsM yX5_binds cX5_binds 4 (some .boolean)) (rmH 3) 0 0 2 := k_V hB q_1037 q_66 q_1034 q_1036 q_20 (by decide +kernel) hR
theorem kc_X5_89 (hB : ∀ w ∈ BG, w.before args s = true) (hR : (rmH 1).frames + 1 ≤ R.frames ∧ 8 + (2 + 11) + (rmH 1).locals ≤ R.locals) : CallW R s args RX5 RX5 89 yX5_left cX5_left 2 (some .int) (wsM yX5_left cX5_left 2 (some .int)) (rmH 1) 0 0 1 := k_V hB q_1049 q_66 q_1046 q_1048 q_23 (by decide +kernel) hR
theorem kc_X5_92 (hB : ∀ w ∈ BG, w.before args s = true) (hR : (rmH 3).frames + 1 ≤ R.frames ∧ 8 + (5 + 11) + (rmH 3).locals ≤ R.locals) : CallW R s args RX5 RX5 92 yX5_whyJudged cX5_whyJudged 5 (some .int) (wsM yX5_whyJudged cX5_whyJudged 5 (some .int)) (rmH 3) 0 0 2 := k_V hB q_1073 q_66 q_1070 q_1072 q_27 (by decide +kernel) hR
theorem kc_X5_95 (hB : ∀ w ∈ BG, w.before args s = true) (hR : (rmH 4).frames + 1 ≤ R.frames ∧ 8 + (6 + 11) + (rmH 4).locals ≤ R.locals) : CallW R s args RX5 RX5 95 yX5_whyDecided cX5_whyDecided 6 (some .int) (wsM yX5_whyDecided cX5_whyDecided 6 (some .int)) (rmH 4) 0 0 3 := k_V hB q_1026 q_66 q_1023 q_1025 q_18 (by decide +kernel) hR
theorem kc_X5_99 (hB : ∀ w ∈ BG, w.before args s = true) (hR : (rmH 1).frames + 1 ≤ R.frames ∧ 8 + (2 + 11) + (rmH 1).locals ≤ R.locals) : CallW R s args RX5 RX5 99 yX5_isComplaint cX5_isComplaint 2 (some .boolean) (wsM yX5_isComplaint cX5_isComplaint 2 (some .boolean)) (rmH 1) 0 0 1 := k_V hB q_1022 q_66 q_1019 q_1021 q_17 (by decide +kernel) hR
theorem kc_X5_102 (hB : ∀ w ∈ BG, w.before args s = true) (hR : (rmH 3).frames + 1 ≤ R.frames ∧ 8 + (5 + 11) + (rmH 3).locals ≤ R.locals) : CallW R s args RX5 RX5 102 yX5_give cX5_give 5 none (wsM yX5_give cX5_give 5 none) (rmH 3) 0 0 2 := k_V hB q_1053 q_66 q_1050 q_1052 q_24 (by decide +kernel) hR
theorem kc_X5_106 (hB : ∀ w ∈ BG, w.before args s = true) (hR : (rmH 1).frames + 1 ≤ R.frames ∧ 8 + (4 + 11) + (rmH 1).locals ≤ R.locals) : CallW R s args RX5 RX5 106 yX5_setPrecedent cX5_setPrecedent 4 (some .int) (wsM yX5_setPrecedent cX5_setPrecedent 4 (some .int)) (rmH 1) 0 0 2 := k_V hB q_1057 q_66 q_1054 q_1056 q_25 (by decide +kernel) hR
theorem kc_X5_109 (hB : ∀ w ∈ BG, w.before args s = true) (hR : (rmH 1).frames + 1 ≤ R.frames ∧ 8 + (4 + 11) + (rmH 1).locals ≤ R.locals) : CallW R s args RX5 RX5 109 yX5_staged cX5_staged 4 (some .int) (wsM yX5_staged cX5_staged 4 (some .int)) (rmH 1) 0 0 1 := k_V hB q_1065 q_66 q_1062 q_1064 q_26 (by decide +kernel) hR
theorem kc_X5_115 (hB : ∀ w ∈ BG, w.before args s = true) (hR : (rmH 3).frames + 1 ≤ R.frames ∧ 8 + (4 + 11) + (rmH 3).locals ≤ R.locals) : CallW R s args RX5 RX5 115 yX5_waitsFor cX5_waitsFor 4 (some .int) (wsM yX5_waitsFor cX5_waitsFor 4 (some .int)) (rmH 3) 0 0 1 := k_V hB q_1085 q_66 q_1082 q_1084 q_30 (by decide +kernel) hR
theorem kc_X5_118 (hB : ∀ w ∈ BG, w.before args s = true) (hR : (rmH 4).frames + 1 ≤ R.frames ∧ 8 + (6 + 11) + (rmH 4).locals ≤ R.locals) : CallW R s args RX5 RX5 118 yX5_topUps cX5_topUps 6 (some .int) (wsM yX5_topUps cX5_topUps 6 (some .int)) (rmH 4) 0 0 1 := k_V hB q_1081 q_66 q_1078 q_1080 q_29 (by decide +kernel) hR
theorem kc_X5_121 (hB : ∀ w ∈ BG, w.before args s = true) (hR : (rmH 5).frames + 1 ≤ R.frames ∧ 8 + (6 + 11) + (rmH 5).locals ≤ R.locals) : CallW R s args RX5 RX5 121 yX5_judgeNow cX5_judgeNow 6 (some .int) (wsM yX5_judgeNow cX5_judgeNow 6 (some .int)) (rmH 5) 0 0 2 := k_V hB q_1077 q_66 q_1074 q_1076 q_28 (by decide +kernel) hR
theorem kc_X5_124 (hB : ∀ w ∈ BG, w.before args s = true) (hR : (rmH 5).frames + 1 ≤ R.frames ∧ 8 + (2 + 11) + (rmH 5).locals ≤ R.locals) : CallW R s args RX5 RX5 124 yX5_closeNow cX5_closeNow 2 (some .int) (wsM yX5_closeNow cX5_closeNow 2 (some .int)) (rmH 5) 0 0 0 := k_V hB q_1093 q_66 q_1090 q_1092 q_31 (by decide +kernel) hR
theorem kc_X5_137 (hB : ∀ w ∈ BG, w.before args s = true) (hR : (rmH 0).frames + 1 ≤ R.frames ∧ 8 + (3 + 11) + (rmH 0).locals ≤ R.locals) : CallW R s args RX5 RX5 137 yX5_takes cX5_takes 3 (some .boolean) (wsM yX5_takes cX5_takes 3 (some .boolean)) (rmH 0) 0 0 1 := k_V hB q_1117 q_66 q_1114 q_1116 q_34 (by decide +kernel) hR
theorem kc_X5_140 (hB : ∀ w ∈ BG, w.before args s = true) (hR : (rmH 1).frames + 1 ≤ R.frames ∧ 8 + (6 + 11) + (rmH 1).locals ≤ R.locals) : CallW R s args RX5 RX5 140 yX5_digit cX5_digit 6 (some .boolean) (wsM yX5_digit cX5_digit 6 (some .boolean)) (rmH 1) 0 0 3 := k_V hB q_1121 q_66 q_1118 q_1120 q_35 (by decide +kernel) hR
theorem kc_X5_143 (hB : ∀ w ∈ BG, w.before args s = true) (hR : (rmH 2).frames + 1 ≤ R.frames ∧ 8 + (3 + 11) + (rmH 2).locals ≤ R.locals) : CallW R s args RX5 RX5 143 yX5_isOne cX5_isOne 3 (some .boolean) (wsM yX5_isOne cX5_isOne 3 (some .boolean)) (rmH 2) 0 0 0 := k_V hB q_1113 q_66 q_1110 q_1112 q_33 (by decide +kernel) hR
theorem kc_X5_147 (hB : ∀ w ∈ BG, w.before args s = true) (hR : (rmH 3).frames + 1 ≤ R.frames ∧ 8 + (2 + 11) + (rmH 3).locals ≤ R.locals) : CallW R s args RX5 RX5 147 yX5_isText cX5_isText 2 (some .boolean) (wsM yX5_isText cX5_isText 2 (some .boolean)) (rmH 3) 0 0 0 := k_V hB q_1109 q_66 q_1106 q_1108 q_32 (by decide +kernel) hR
theorem kc_X5_150 (hB : ∀ w ∈ BG, w.before args s = true) (hR : (rmH 4).frames + 1 ≤ R.frames ∧ 8 + (4 + 11) + (rmH 4).locals ≤ R.locals) : CallW R s args RX5 RX5 150 yX5_complaintOf cX5_complaintOf 4 (some .int) (wsM yX5_complaintOf cX5_complaintOf 4 (some .int)) (rmH 4) 0 0 2 := k_V hB q_1137 q_66 q_1134 q_1136 q_36 (by decide +kernel) hR
theorem kc_X5_153 (hB : ∀ w ∈ BG, w.before args s = true) (hR : (rmH 1).frames + 1 ≤ R.frames ∧ 8 + (5 + 11) + (rmH 1).locals ≤ R.locals) : CallW R s args RX5 RX5 153 yX5_having cX5_having 5 (some .int) (wsM yX5_having cX5_having 5 (some .int)) (rmH 1) 0 0 2 := k_V hB q_1149 q_66 q_1146 q_1148 q_38 (by decide +kernel) hR
theorem kc_X5_156 (hB : ∀ w ∈ BG, w.before args s = true) (hR : (rmH 2).frames + 1 ≤ R.frames ∧ 8 + (4 + 11) + (rmH 2).locals ≤ R.locals) : CallW R s args RX5 RX5 156 yX5_amendsOf cX5_amendsOf 4 (some .int) (wsM yX5_amendsOf cX5_amendsOf 4 (some .int)) (rmH 2) 0 0 3 := k_V hB q_1145 q_66 q_1142 q_1144 q_37 (by decide +kernel) hR
theorem kc_X5_159 (hB : ∀ w ∈ BG, w.before args s = true) (hR : (rmH 1).frames + 1 ≤ R.frames ∧ 8 + (4 + 11) + (rmH 1).locals ≤ R.locals) : CallW R s args RX5 RX5 159 yX5_following cX5_following 4 (some .int) (wsM yX5_following cX5_following 4 (some .int)) (rmH 1) 0 0 1 := k_V hB q_1161 q_66 q_1158 q_1160 q_40 (by decide +kernel) hR
theorem kc_X5_162 (hB : ∀ w ∈ BG, w.before args s = true) (hR : (rmH 4).frames + 1 ≤ R.frames ∧ 8 + (5 + 11) + (rmH 4).locals ≤ R.locals) : CallW R s args RX5 RX5 162 yX5_precedentOf cX5_precedentOf 5 (some .int) (wsM yX5_precedentOf cX5_precedentOf 5 (some .int)) (rmH 4) 0 0 3 := k_V hB q_1157 q_66 q_1154 q_1156 q_39 (by decide +kernel) hR
theorem kc_X5_165 (hB : ∀ w ∈ BG, w.before args s = true) (hR : (rmH 4).frames + 1 ≤ R.frames ∧ 8 + (6 + 11) + (rmH 4).locals ≤ R.locals) : CallW R s args RX5 RX5 165 yX5_ofComplaints cX5_ofComplaints 6 (some .int) (wsM yX5_ofComplaints cX5_ofComplaints 6 (some .int)) (rmH 4) 0 0 2 := k_V hB q_1173 q_66 q_1170 q_1172 q_42 (by decide +kernel) hR
theorem kc_X5_168 (hB : ∀ w ∈ BG, w.before args s = true) (hR : (rmH 5).frames + 1 ≤ R.frames ∧ 8 + (3 + 11) + (rmH 5).locals ≤ R.locals) : CallW R s args RX5 RX5 168 yX5_kindOf cX5_kindOf 3 (some .int) (wsM yX5_kindOf cX5_kindOf 3 (some .int)) (rmH 5) 0 0 2 := k_V hB q_1169 q_66 q_1166 q_1168 q_41 (by decide +kernel) hR
theorem kc_X5_171 (hB : ∀ w ∈ BG, w.before args s = true) (hR : (rmH 1).frames + 1 ≤ R.frames ∧ 8 + (3 + 11) + (rmH 1).locals ≤ R.locals) : CallW R s args RX5 RX5 171 yX5_departing cX5_departing 3 (some .int) (wsM yX5_departing cX5_departing 3 (some .int)) (rmH 1) 0 0 0 := k_V hB q_1185 q_66 q_1182 q_1184 q_44 (by decide +kernel) hR
theorem kc_X5_174 (hB : ∀ w ∈ BG, w.before args s = true) (hR : (rmH 1).frames + 1 ≤ R.frames ∧ 8 + (5 + 11) + (rmH 1).locals ≤ R.locals) : CallW R s args RX5 RX5 174 yX5_unequal cX5_unequal 5 (some .int) (wsM yX5_unequal cX5_unequal 5 (some .int)) (rmH 1) 0 0 0 := k_V hB q_1189 q_66 q_1186 q_1188 q_45 (by decide +kernel) hR
theorem kc_X5_177 (hB : ∀ w ∈ BG, w.before args s = true) (hR : (rmH 5).frames + 1 ≤ R.frames ∧ 8 + (2 + 11) + (rmH 5).locals ≤ R.locals) : CallW R s args RX5 RX5 177 yX5_counted cX5_counted 2 (some .int) (wsM yX5_counted cX5_counted 2 (some .int)) (rmH 5) 0 0 1 := k_V hB q_1181 q_66 q_1178 q_1180 q_43 (by decide +kernel) hR
theorem kc_X5_180 (hB : ∀ w ∈ BG, w.before args s = true) (hR : (rmH 1).frames + 1 ≤ R.frames ∧ 8 + (7 + 11) + (rmH 1).locals ≤ R.locals) : CallW R s args RX5 RX5 180 yX5_customerAt cX5_customerAt 7 (some .int) (wsM yX5_customerAt cX5_customerAt 7 (some .int)) (rmH 1) 0 0 2 := k_V hB q_1201 q_66 q_1198 q_1200 q_46 (by decide +kernel) hR
theorem kc_X5_183 (hB : ∀ w ∈ BG, w.before args s = true) (hR : (rmH 5).frames + 1 ≤ R.frames ∧ 8 + (4 + 11) + (rmH 5).locals ≤ R.locals) : CallW R s args RX5 RX5 183 yX5_why cX5_why 4 (some .int) (wsM yX5_why cX5_why 4 (some .int)) (rmH 5) 0 0 3 := k_V hB q_1209 q_66 q_1206 q_1208 q_47 (by decide +kernel) hR
theorem kc_X5_186 (hB : ∀ w ∈ BG, w.before args s = true) (hR : (rmH 5).frames + 1 ≤ R.frames ∧ 8 + (6 + 11) + (rmH 5).locals ≤ R.locals) : CallW R s args RX5 RX5 186 yX5_fairOf cX5_fairOf 6 (some .int) (wsM yX5_fairOf cX5_fairOf 6 (some .int)) (rmH 5) 0 0 1 := k_V hB q_1217 q_66 q_1214 q_1216 q_48 (by decide +kernel) hR
theorem kc_X5_189 (hB : ∀ w ∈ BG, w.before args s = true) (hR : (rmH 0).frames + 1 ≤ R.frames ∧ 8 + (2 + 11) + (rmH 0).locals ≤ R.locals) : CallW R s args RX5 RX5 189 yX5_putAside cX5_putAside 2 none (wsM yX5_putAside cX5_putAside 2 none) (rmH 0) 0 0 0 := k_V hB q_1229 q_66 q_1226 q_1228 q_50 (by decide +kernel) hR
theorem kc_X5_192 (hB : ∀ w ∈ BG, w.before args s = true) (hR : (rmH 0).frames + 1 ≤ R.frames ∧ 8 + (2 + 11) + (rmH 0).locals ≤ R.locals) : CallW R s args RX5 RX5 192 yX5_putBack cX5_putBack 2 none (wsM yX5_putBack cX5_putBack 2 none) (rmH 0) 0 0 0 := k_V hB q_1233 q_66 q_1230 q_1232 q_51 (by decide +kernel) hR
theorem kc_X5_195 (hB : ∀ w ∈ BG, w.before args s = true) (hR : (rmH 6).frames + 1 ≤ R.frames ∧ 8 + (6 + 11) + (rmH 6).locals ≤ R.locals) : CallW R s args RX5 RX5 195 yX5_judgedOf cX5_judgedOf 6 (some .int) (wsM yX5_judgedOf cX5_judgedOf 6 (some .int)) (rmH 6) 0 0 3 := k_V hB q_1225 q_66 q_1222 q_1224 q_49 (by decide +kernel) hR
theorem kc_X5_198 (hB : ∀ w ∈ BG, w.before args s = true) (hR : (rmH 6).frames + 1 ≤ R.frames ∧ 8 + (2 + 11) + (rmH 6).locals ≤ R.locals) : CallW R s args RX5 RX5 198 yX5_monthsOf cX5_monthsOf 2 (some .int) (wsM yX5_monthsOf cX5_monthsOf 2 (some .int)) (rmH 6) 0 0 0 := k_V hB q_1241 q_66 q_1238 q_1240 q_52 (by decide +kernel) hR
theorem kc_X5_201 (hB : ∀ w ∈ BG, w.before args s = true) (hR : (rmH 2).frames + 1 ≤ R.frames ∧ 8 + (2 + 11) + (rmH 2).locals ≤ R.locals) : CallW R s args RX5 RX5 201 yX5_shareOf cX5_shareOf 2 (some .double) (wsM yX5_shareOf cX5_shareOf 2 (some .double)) (rmH 2) 0 0 0 := k_V hB q_1249 q_66 q_1246 q_1248 q_53 (by decide +kernel) hR
theorem kc_X5_211 (hB : ∀ w ∈ BG, w.before args s = true) (hR : (rmH 0).frames + 1 ≤ R.frames ∧ 8 + (3 + 11) + (rmH 0).locals ≤ R.locals) : CallW R s args RX5 RX5 211 yX5_mix cX5_mix 3 none (wsM yX5_mix cX5_mix 3 none) (rmH 0) 0 0 1 := k_V hB q_1258 q_66 q_1255 q_1257 q_54 (by decide +kernel) hR
theorem kc_X5_217 (hB : ∀ w ∈ BG, w.before args s = true) (hR : (rmH 6).frames + 1 ≤ R.frames ∧ 8 + (3 + 11) + (rmH 6).locals ≤ R.locals) : CallW R s args RX5 RX5 217 yX5_mixKind cX5_mixKind 3 none (wsM yX5_mixKind cX5_mixKind 3 none) (rmH 6) 0 0 1 := k_V hB q_1263 q_66 q_1260 q_1262 q_55 (by decide +kernel) hR
theorem kc_X5_221 (hB : ∀ w ∈ BG, w.before args s = true) (hR : (rmH 7).frames + 1 ≤ R.frames ∧ 8 + (3 + 11) + (rmH 7).locals ≤ R.locals) : CallW R s args RX5 RX5 221 yX5_mixComplaint cX5_mixComplaint 3 none (wsM yX5_mixComplaint cX5_mixComplaint 3 none) (rmH 7) 0 0 1 := k_V hB q_1267 q_66 q_1264 q_1266 q_56 (by decide +kernel) hR
theorem kc_X5_224 (hB : ∀ w ∈ BG, w.before args s = true) (hR : (rmH 1).frames + 1 ≤ R.frames ∧ 8 + (2 + 11) + (rmH 1).locals ≤ R.locals) : CallB R s args RX5 224 yJD_doubleToLongBits cJD_doubleToLongBits 2 (some .long) (wsM yJD_doubleToLongBits cJD_doubleToLongBits 2 (some .long)) (rmH 1) 0 0 1 ∧ (Cond.static yJD_doubleToLongBits).before args s = true := k_S hB q_1270 q_74 q_1268 q_1269 (by decide +kernel) hR
end LK
