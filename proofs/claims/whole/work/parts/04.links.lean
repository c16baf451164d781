theorem q_4 : Cond.selects RX0 yX0_areAlike yX0_areAlike ∈ BG := bg 4 (by decide +kernel) rfl
theorem q_58 : Cond.initialized RX4 ∈ BG := bg 58 (by decide +kernel) rfl
theorem q_60 : Cond.initialized RX1 ∈ BG := bg 60 (by decide +kernel) rfl
theorem q_61 : Cond.initialized RX0 ∈ BG := bg 61 (by decide +kernel) rfl
theorem q_62 : Cond.initialized RX2 ∈ BG := bg 62 (by decide +kernel) rfl
theorem q_95 : Cond.fieldLink RX1 9 "AmendsLedger$Menus" "sizes" "[I" ∈ BG := bg 95 (by decide +kernel) rfl
theorem q_96 : Cond.fieldLink RX1 15 "AmendsLedger$Menus" "costs" "[I" ∈ BG := bg 96 (by decide +kernel) rfl
theorem q_97 : Cond.fieldLink RX1 18 "AmendsLedger$Menus" "leasts" "[I" ∈ BG := bg 97 (by decide +kernel) rfl
theorem q_98 : Cond.fieldLink RX1 21 "AmendsLedger$Menus" "mosts" "[I" ∈ BG := bg 98 (by decide +kernel) rfl
theorem q_99 : Cond.fieldLink RX1 24 "AmendsLedger$Menus" "offers" "[I" ∈ BG := bg 99 (by decide +kernel) rfl
theorem q_118 : Cond.fieldLink RX0 39 "AmendsLedger$Complaints" "size" "I" ∈ BG := bg 118 (by decide +kernel) rfl
theorem q_121 : Cond.fieldLink RX0 9 "AmendsLedger$Complaints" "kinds" "[I" ∈ BG := bg 121 (by decide +kernel) rfl
theorem q_122 : Cond.fieldLink RX0 15 "AmendsLedger$Complaints" "severities" "[I" ∈ BG := bg 122 (by decide +kernel) rfl
theorem q_123 : Cond.fieldLink RX0 18 "AmendsLedger$Complaints" "customers" "[I" ∈ BG := bg 123 (by decide +kernel) rfl
theorem q_124 : Cond.fieldLink RX0 21 "AmendsLedger$Complaints" "stages" "[I" ∈ BG := bg 124 (by decide +kernel) rfl
theorem q_125 : Cond.fieldLink RX0 24 "AmendsLedger$Complaints" "amendsHad" "[I" ∈ BG := bg 125 (by decide +kernel) rfl
theorem q_126 : Cond.fieldLink RX0 27 "AmendsLedger$Complaints" "got" "[I" ∈ BG := bg 126 (by decide +kernel) rfl
theorem q_127 : Cond.fieldLink RX0 30 "AmendsLedger$Complaints" "reasons" "[I" ∈ BG := bg 127 (by decide +kernel) rfl
theorem q_128 : Cond.fieldLink RX0 33 "AmendsLedger$Complaints" "months" "[I" ∈ BG := bg 128 (by decide +kernel) rfl
theorem q_129 : Cond.fieldLink RX0 36 "AmendsLedger$Complaints" "followed" "[I" ∈ BG := bg 129 (by decide +kernel) rfl
theorem q_160 : Cond.fieldLink RX2 30 "AmendsLedger$Precedents" "size" "I" ∈ BG := bg 160 (by decide +kernel) rfl
theorem q_162 : Cond.fieldLink RX2 9 "AmendsLedger$Precedents" "amendsHeld" "[I" ∈ BG := bg 162 (by decide +kernel) rfl
theorem q_163 : Cond.fieldLink RX2 15 "AmendsLedger$Precedents" "months" "[I" ∈ BG := bg 163 (by decide +kernel) rfl
theorem q_164 : Cond.fieldLink RX2 18 "AmendsLedger$Precedents" "setters" "[I" ∈ BG := bg 164 (by decide +kernel) rfl
theorem q_165 : Cond.fieldLink RX2 21 "AmendsLedger$Precedents" "latest" "[I" ∈ BG := bg 165 (by decide +kernel) rfl
theorem q_254 : Cond.static yX4_isWithin ∈ BG := bg 254 (by decide +kernel) rfl
theorem q_255 : Cond.code yX4_isWithin cX4_isWithin 3 (some .boolean) ∈ BG := bg 255 (by decide +kernel) rfl
theorem q_272 : Cond.instanceMethod yX0_followedBy ∈ BG := bg 272 (by decide +kernel) rfl
theorem q_273 : Cond.selects RX0 yX0_followedBy yX0_followedBy ∈ BG := bg 273 (by decide +kernel) rfl
theorem q_274 : Cond.code yX0_followedBy cX0_followedBy 2 (some .int) ∈ BG := bg 274 (by decide +kernel) rfl
theorem q_275 : Cond.methodLink RX0 47 yX0_has ∈ BG := bg 275 (by decide +kernel) rfl
theorem q_276 : Cond.instanceMethod yX0_has ∈ BG := bg 276 (by decide +kernel) rfl
theorem q_277 : Cond.selects RX0 yX0_has yX0_has ∈ BG := bg 277 (by decide +kernel) rfl
theorem q_278 : Cond.code yX0_has cX0_has 2 (some .boolean) ∈ BG := bg 278 (by decide +kernel) rfl
theorem q_280 : Cond.instanceMethod yX2_has ∈ BG := bg 280 (by decide +kernel) rfl
theorem q_281 : Cond.selects RX2 yX2_has yX2_has ∈ BG := bg 281 (by decide +kernel) rfl
theorem q_282 : Cond.code yX2_has cX2_has 2 (some .boolean) ∈ BG := bg 282 (by decide +kernel) rfl
theorem q_284 : Cond.instanceMethod yX0_kindOf ∈ BG := bg 284 (by decide +kernel) rfl
theorem q_285 : Cond.selects RX0 yX0_kindOf yX0_kindOf ∈ BG := bg 285 (by decide +kernel) rfl
theorem q_286 : Cond.code yX0_kindOf cX0_kindOf 2 (some .int) ∈ BG := bg 286 (by decide +kernel) rfl
theorem q_291 : Cond.methodLink RX2 45 yX2_has ∈ BG := bg 291 (by decide +kernel) rfl
theorem q_296 : Cond.methodLink RX1 35 yX1_has ∈ BG := bg 296 (by decide +kernel) rfl
theorem q_297 : Cond.instanceMethod yX1_has ∈ BG := bg 297 (by decide +kernel) rfl
theorem q_298 : Cond.selects RX1 yX1_has yX1_has ∈ BG := bg 298 (by decide +kernel) rfl
theorem q_299 : Cond.code yX1_has cX1_has 3 (some .boolean) ∈ BG := bg 299 (by decide +kernel) rfl
theorem q_301 : Cond.static yX4_isKind ∈ BG := bg 301 (by decide +kernel) rfl
theorem q_302 : Cond.code yX4_isKind cX4_isKind 1 (some .boolean) ∈ BG := bg 302 (by decide +kernel) rfl
theorem q_304 : Cond.instanceMethod yX0_gotOf ∈ BG := bg 304 (by decide +kernel) rfl
theorem q_305 : Cond.selects RX0 yX0_gotOf yX0_gotOf ∈ BG := bg 305 (by decide +kernel) rfl
theorem q_306 : Cond.code yX0_gotOf cX0_gotOf 2 (some .int) ∈ BG := bg 306 (by decide +kernel) rfl
theorem q_365 : Cond.methodLink RX0 51 yX0_stageOf ∈ BG := bg 365 (by decide +kernel) rfl
theorem q_366 : Cond.instanceMethod yX0_stageOf ∈ BG := bg 366 (by decide +kernel) rfl
theorem q_367 : Cond.selects RX0 yX0_stageOf yX0_stageOf ∈ BG := bg 367 (by decide +kernel) rfl
theorem q_368 : Cond.code yX0_stageOf cX0_stageOf 2 (some .int) ∈ BG := bg 368 (by decide +kernel) rfl
theorem q_462 : Cond.methodLink RX0 70 yX0_gotInKind ∈ BG := bg 462 (by decide +kernel) rfl
theorem q_463 : Cond.instanceMethod yX0_gotInKind ∈ BG := bg 463 (by decide +kernel) rfl
theorem q_464 : Cond.selects RX0 yX0_gotInKind yX0_gotInKind ∈ BG := bg 464 (by decide +kernel) rfl
theorem q_465 : Cond.code yX0_gotInKind cX0_gotInKind 4 (some .int) ∈ BG := bg 465 (by decide +kernel) rfl
theorem q_466 : Cond.methodLink RX0 55 yX0_kindOf ∈ BG := bg 466 (by decide +kernel) rfl
theorem q_467 : Cond.methodLink RX0 67 yX0_gotOf ∈ BG := bg 467 (by decide +kernel) rfl
theorem q_472 : Cond.methodLink RX0 73 yX0_areAlike ∈ BG := bg 472 (by decide +kernel) rfl
theorem q_474 : Cond.instanceMethod yX0_areAlike ∈ BG := bg 474 (by decide +kernel) rfl
theorem q_475 : Cond.code yX0_areAlike cX0_areAlike 3 (some .boolean) ∈ BG := bg 475 (by decide +kernel) rfl
theorem q_476 : Cond.methodLink RX0 61 yX0_followedBy ∈ BG := bg 476 (by decide +kernel) rfl
theorem q_524 : Cond.instanceMethod yX1_sizeOf ∈ BG := bg 524 (by decide +kernel) rfl
theorem q_525 : Cond.selects RX1 yX1_sizeOf yX1_sizeOf ∈ BG := bg 525 (by decide +kernel) rfl
theorem q_526 : Cond.code yX1_sizeOf cX1_sizeOf 2 (some .int) ∈ BG := bg 526 (by decide +kernel) rfl
theorem q_543 : Cond.instanceMethod yX1_leastOf ∈ BG := bg 543 (by decide +kernel) rfl
theorem q_544 : Cond.selects RX1 yX1_leastOf yX1_leastOf ∈ BG := bg 544 (by decide +kernel) rfl
theorem q_545 : Cond.code yX1_leastOf cX1_leastOf 3 (some .int) ∈ BG := bg 545 (by decide +kernel) rfl
theorem q_547 : Cond.instanceMethod yX1_mostOf ∈ BG := bg 547 (by decide +kernel) rfl
theorem q_548 : Cond.selects RX1 yX1_mostOf yX1_mostOf ∈ BG := bg 548 (by decide +kernel) rfl
theorem q_549 : Cond.code yX1_mostOf cX1_mostOf 3 (some .int) ∈ BG := bg 549 (by decide +kernel) rfl
theorem q_551 : Cond.instanceMethod yX1_isOffered ∈ BG := bg 551 (by decide +kernel) rfl
theorem q_552 : Cond.selects RX1 yX1_isOffered yX1_isOffered ∈ BG := bg 552 (by decide +kernel) rfl
theorem q_553 : Cond.code yX1_isOffered cX1_isOffered 3 (some .boolean) ∈ BG := bg 553 (by decide +kernel) rfl
theorem q_558 : Cond.methodLink RX0 58 yX0_amendsOf ∈ BG := bg 558 (by decide +kernel) rfl
theorem q_559 : Cond.instanceMethod yX0_amendsOf ∈ BG := bg 559 (by decide +kernel) rfl
theorem q_560 : Cond.selects RX0 yX0_amendsOf yX0_amendsOf ∈ BG := bg 560 (by decide +kernel) rfl
theorem q_561 : Cond.code yX0_amendsOf cX0_amendsOf 2 (some .int) ∈ BG := bg 561 (by decide +kernel) rfl
theorem q_567 : Cond.static yX4_isGroup ∈ BG := bg 567 (by decide +kernel) rfl
theorem q_568 : Cond.code yX4_isGroup cX4_isGroup 1 (some .boolean) ∈ BG := bg 568 (by decide +kernel) rfl
theorem q_610 : Cond.instanceMethod yX0_customerOf ∈ BG := bg 610 (by decide +kernel) rfl
theorem q_611 : Cond.selects RX0 yX0_customerOf yX0_customerOf ∈ BG := bg 611 (by decide +kernel) rfl
theorem q_612 : Cond.code yX0_customerOf cX0_customerOf 2 (some .int) ∈ BG := bg 612 (by decide +kernel) rfl
theorem q_639 : Cond.methodLink RX1 39 yX1_leastOf ∈ BG := bg 639 (by decide +kernel) rfl
theorem q_640 : Cond.methodLink RX1 43 yX1_mostOf ∈ BG := bg 640 (by decide +kernel) rfl
theorem q_688 : Cond.methodLink RX0 64 yX0_customerOf ∈ BG := bg 688 (by decide +kernel) rfl
theorem q_752 : Cond.methodLink RX1 50 yX1_sizeOf ∈ BG := bg 752 (by decide +kernel) rfl
theorem q_753 : Cond.methodLink RX1 54 yX1_isOffered ∈ BG := bg 753 (by decide +kernel) rfl
theorem nw_119 : (Cond.fieldLinkNest RX4 92 "AmendsLedger$Complaints" "size" "I" "AmendsLedger") ∈ NW := List.mem_of_getElem? (i := 0) rfl
theorem nw_120 : (Cond.fieldLinkNest RX3 121 "AmendsLedger$Complaints" "size" "I" "AmendsLedger") ∈ NW := List.mem_of_getElem? (i := 1) rfl
theorem nw_161 : (Cond.fieldLinkNest RX4 234 "AmendsLedger$Precedents" "size" "I" "AmendsLedger") ∈ NW := List.mem_of_getElem? (i := 2) rfl
theorem nw_177 : (Cond.fieldLinkNest RX3 45 "AmendsLedger" "FIRST_SETTING" "[I" "AmendsLedger") ∈ NW := List.mem_of_getElem? (i := 3) rfl
theorem nw_190 : (Cond.fieldLinkNest RX4 42 "AmendsLedger$State" "menus" "LAmendsLedger$Menus;" "AmendsLedger") ∈ NW := List.mem_of_getElem? (i := 4) rfl
theorem nw_192 : (Cond.fieldLinkNest RX4 88 "AmendsLedger$State" "complaints" "LAmendsLedger$Complaints;" "AmendsLedger") ∈ NW := List.mem_of_getElem? (i := 5) rfl
theorem nw_194 : (Cond.fieldLinkNest RX4 179 "AmendsLedger$State" "precedents" "LAmendsLedger$Precedents;" "AmendsLedger") ∈ NW := List.mem_of_getElem? (i := 6) rfl
theorem nw_200 : (Cond.fieldLinkNest RX4 125 "AmendsLedger$State" "month" "I" "AmendsLedger") ∈ NW := List.mem_of_getElem? (i := 7) rfl
theorem nw_91 : (Cond.methodLinkNest RX3 11 yX1_init RX4) ∈ NW := List.mem_of_getElem? (i := 8) rfl
theorem nw_114 : (Cond.methodLinkNest RX3 20 yX0_init RX4) ∈ NW := List.mem_of_getElem? (i := 9) rfl
theorem nw_179 : (Cond.methodLinkNest RX3 48 yX4_copyAll RX4) ∈ NW := List.mem_of_getElem? (i := 10) rfl
theorem nw_300 : (Cond.methodLinkNest RX1 31 yX4_isKind RX4) ∈ NW := List.mem_of_getElem? (i := 11) rfl
theorem nw_318 : (Cond.methodLinkNest RX1 27 yX4_copyAll RX4) ∈ NW := List.mem_of_getElem? (i := 12) rfl
theorem nw_323 : (Cond.methodLinkNest RX0 43 yX4_copyAll RX4) ∈ NW := List.mem_of_getElem? (i := 13) rfl
theorem nw_328 : (Cond.methodLinkNest RX2 34 yX4_copyAll RX4) ∈ NW := List.mem_of_getElem? (i := 14) rfl
theorem nw_337 : (Cond.methodLinkNest RX3 76 yX4_isKind RX4) ∈ NW := List.mem_of_getElem? (i := 15) rfl
theorem nw_342 : (Cond.methodLinkNest RX3 72 yX4_isSetting RX4) ∈ NW := List.mem_of_getElem? (i := 16) rfl
theorem nw_573 : (Cond.methodLinkNest RX2 38 yX4_isKind RX4) ∈ NW := List.mem_of_getElem? (i := 17) rfl
theorem nw_574 : (Cond.methodLinkNest RX2 42 yX4_isGroup RX4) ∈ NW := List.mem_of_getElem? (i := 18) rfl
theorem nw_641 : (Cond.methodLinkNest RX1 46 yX4_isWithin RX4) ∈ NW := List.mem_of_getElem? (i := 19) rfl
theorem inB_of {ws : List Cond} (is : List Nat) (h : ws = is.filterMap (fun i => lw_tbl[i]?)) (g : ws.all goodWord = true) : ∀ w ∈ ws, w ∈ BG := by
  intro w hw
  have h1 := List.all_eq_true.mp g w hw
  rw [h] at hw
  obtain ⟨i, -, hi⟩ := List.mem_filterMap.mp hw
  exact bg i hi h1
theorem inB_X0 : ∀ w ∈ u_ws RX0 TX0 10, w ∈ BG := inB_of [130, 132, 134, 136, 138, 140, 142, 144, 146, 148] (by decide +kernel) (by decide +kernel)
theorem inB_X1 : ∀ w ∈ u_ws RX1 TX1 5, w ∈ BG := inB_of [100, 102, 104, 106, 108] (by decide +kernel) (by decide +kernel)
theorem inB_X2 : ∀ w ∈ u_ws RX2 TX2 5, w ∈ BG := inB_of [166, 168, 170, 172, 174] (by decide +kernel) (by decide +kernel)
theorem inB_X3 : ∀ w ∈ u_ws RX3 TX3 8, w ∈ BG := inB_of [201, 203, 205, 207, 209, 211, 213, 215] (by decide +kernel) (by decide +kernel)
theorem inB_X4 : ∀ w ∈ u_ws RX4 TX4 7, w ∈ BG := inB_of [226, 228, 230, 232, 234, 236, 238] (by decide +kernel) (by decide +kernel)
theorem inB_X5 : ∀ w ∈ u_ws RX5 TX5 12, w ∈ BG := inB_of [927, 929, 931, 933, 935, 937, 939, 941, 943, 945, 947, 949] (by decide +kernel) (by decide +kernel)
section LK
variable {p : Program} {l : Launch} {e : Env} {R : Room} {s : State} {mi : MethodId} {args : Array Value} {below : List Frame} {meth : Method} {cd : Code} {H : Heap} {locs : List Loc} {cells slots : Nat} {Q : State → Prop}
variable {cc : ByteArray} {pc : Nat} {ls : Array Slot} {rest : List Value} {E : TE} {x m : XS} {g o : Int64}
theorem gf_X0_9 (hx : p.tables.exec = Jvm.exec) (hb : cd.code = cc) (hB : ∀ w ∈ BG, w.before args s = true) (hK : Ks E s) (hown : s.vm.findClass RX0 = some mi.cls) (hW : Wd E x m g o H) {b : Nat} (hbk : IsB b) (hdg : decode cc pc = .ok (.getfield 9, 3)) (kk : W p l e R s mi args below meth cd H locs cells slots Q (F0 mi (pc + 3) ls (rf E (b + 8) :: rest))) : W p l e R s mi args below meth cd H locs cells slots Q (F0 mi pc ls (rf E (b + 7) :: rest)) :=
  r_get hx hb hB hK (own := RX0) (C := RX0) (T := TX0) (N := 10) (ci := 0) inB_X0 hown hW (hbk.l8 (j := 7) (by decide)) (cB_7 hbk) rfl 1 (by decide) rfl q_121 rfl hdg kk
theorem gf_X0_15 (hx : p.tables.exec = Jvm.exec) (hb : cd.code = cc) (hB : ∀ w ∈ BG, w.before args s = true) (hK : Ks E s) (hown : s.vm.findClass RX0 = some mi.cls) (hW : Wd E x m g o H) {b : Nat} (hbk : IsB b) (hdg : decode cc pc = .ok (.getfield 15, 3)) (kk : W p l e R s mi args below meth cd H locs cells slots Q (F0 mi (pc + 3) ls (rf E (b + 9) :: rest))) : W p l e R s mi args below meth cd H locs cells slots Q (F0 mi pc ls (rf E (b + 7) :: rest)) :=
  r_get hx hb hB hK (own := RX0) (C := RX0) (T := TX0) (N := 10) (ci := 0) inB_X0 hown hW (hbk.l8 (j := 7) (by decide)) (cB_7 hbk) rfl 2 (by decide) rfl q_122 rfl hdg kk
theorem gf_X0_18 (hx : p.tables.exec = Jvm.exec) (hb : cd.code = cc) (hB : ∀ w ∈ BG, w.before args s = true) (hK : Ks E s) (hown : s.vm.findClass RX0 = some mi.cls) (hW : Wd E x m g o H) {b : Nat} (hbk : IsB b) (hdg : decode cc pc = .ok (.getfield 18, 3)) (kk : W p l e R s mi args below meth cd H locs cells slots Q (F0 mi (pc + 3) ls (rf E (b + 10) :: rest))) : W p l e R s mi args below meth cd H locs cells slots Q (F0 mi pc ls (rf E (b + 7) :: rest)) :=
  r_get hx hb hB hK (own := RX0) (C := RX0) (T := TX0) (N := 10) (ci := 0) inB_X0 hown hW (hbk.l8 (j := 7) (by decide)) (cB_7 hbk) rfl 3 (by decide) rfl q_123 rfl hdg kk
theorem gf_X0_21 (hx : p.tables.exec = Jvm.exec) (hb : cd.code = cc) (hB : ∀ w ∈ BG, w.before args s = true) (hK : Ks E s) (hown : s.vm.findClass RX0 = some mi.cls) (hW : Wd E x m g o H) {b : Nat} (hbk : IsB b) (hdg : decode cc pc = .ok (.getfield 21, 3)) (kk : W p l e R s mi args below meth cd H locs cells slots Q (F0 mi (pc + 3) ls (rf E (b + 11) :: rest))) : W p l e R s mi args below meth cd H locs cells slots Q (F0 mi pc ls (rf E (b + 7) :: rest)) :=
  r_get hx hb hB hK (own := RX0) (C := RX0) (T := TX0) (N := 10) (ci := 0) inB_X0 hown hW (hbk.l8 (j := 7) (by decide)) (cB_7 hbk) rfl 4 (by decide) rfl q_124 rfl hdg kk
theorem gf_X0_24 (hx : p.tables.exec = Jvm.exec) (hb : cd.code = cc) (hB : ∀ w ∈ BG, w.before args s = true) (hK : Ks E s) (hown : s.vm.findClass RX0 = some mi.cls) (hW : Wd E x m g o H) {b : Nat} (hbk : IsB b) (hdg : decode cc pc = .ok (.getfield 24, 3)) (kk : W p l e R s mi args below meth cd H locs cells slots Q (F0 mi (pc + 3) ls (rf E (b + 12) :: rest))) : W p l e R s mi args below meth cd H locs cells slots Q (F0 mi pc ls (rf E (b + 7) :: rest)) :=
  r_get hx hb hB hK (own := RX0) (C := RX0) (T := TX0) (N := 10) (ci := 0) inB_X0 hown hW (hbk.l8 (j := 7) (by decide)) (cB_7 hbk) rfl 5 (by decide) rfl q_125 rfl hdg kk
theorem gf_X0_27 (hx : p.tables.exec = Jvm.exec) (hb : cd.code = cc) (hB : ∀ w ∈ BG, w.before args s = true) (hK : Ks E s) (hown : s.vm.findClass RX0 = some mi.cls) (hW : Wd E x m g o H) {b : Nat} (hbk : IsB b) (hdg : decode cc pc = .ok (.getfield 27, 3)) (kk : W p l e R s mi args below meth cd H locs cells slots Q (F0 mi (pc + 3) ls (rf E (b + 13) :: rest))) : W p l e R s mi args below meth cd H locs cells slots Q (F0 mi pc ls (rf E (b + 7) :: rest)) :=
  r_get hx hb hB hK (own := RX0) (C := RX0) (T := TX0) (N := 10) (ci := 0) inB_X0 hown hW (hbk.l8 (j := 7) (by decide)) (cB_7 hbk) rfl 6 (by decide) rfl q_126 rfl hdg kk
theorem gf_X0_30 (hx : p.tables.exec = Jvm.exec) (hb : cd.code = cc) (hB : ∀ w ∈ BG, w.before args s = true) (hK : Ks E s) (hown : s.vm.findClass RX0 = some mi.cls) (hW : Wd E x m g o H) {b : Nat} (hbk : IsB b) (hdg : decode cc pc = .ok (.getfield 30, 3)) (kk : W p l e R s mi args below meth cd H locs cells slots Q (F0 mi (pc + 3) ls (rf E (b + 14) :: rest))) : W p l e R s mi args below meth cd H locs cells slots Q (F0 mi pc ls (rf E (b + 7) :: rest)) :=
  r_get hx hb hB hK (own := RX0) (C := RX0) (T := TX0) (N := 10) (ci := 0) inB_X0 hown hW (hbk.l8 (j := 7) (by decide)) (cB_7 hbk) rfl 7 (by decide) rfl q_127 rfl hdg kk
theorem gf_X0_33 (hx : p.tables.exec = Jvm.exec) (hb : cd.code = cc) (hB : ∀ w ∈ BG, w.before args s = true) (hK : Ks E s) (hown : s.vm.findClass RX0 = some mi.cls) (hW : Wd E x m g o H) {b : Nat} (hbk : IsB b) (hdg : decode cc pc = .ok (.getfield 33, 3)) (kk : W p l e R s mi args below meth cd H locs cells slots Q (F0 mi (pc + 3) ls (rf E (b + 15) :: rest))) : W p l e R s mi args below meth cd H locs cells slots Q (F0 mi pc ls (rf E (b + 7) :: rest)) :=
  r_get hx hb hB hK (own := RX0) (C := RX0) (T := TX0) (N := 10) (ci := 0) inB_X0 hown hW (hbk.l8 (j := 7) (by decide)) (cB_7 hbk) rfl 8 (by decide) rfl q_128 rfl hdg kk
theorem gf_X0_36 (hx : p.tables.exec = Jvm.exec) (hb : cd.code = cc) (hB : ∀ w ∈ BG, w.before args s = true) (hK : Ks E s) (hown : s.vm.findClass RX0 = some mi.cls) (hW : Wd E x m g o H) {b : Nat} (hbk : IsB b) (hdg : decode cc pc = .ok (.getfield 36, 3)) (kk : W p l e R s mi args below meth cd H locs cells slots Q (F0 mi (pc + 3) ls (rf E (b + 16) :: rest))) : W p l e R s mi args below meth cd H locs cells slots Q (F0 mi pc ls (rf E (b + 7) :: rest)) :=
  r_get hx hb hB hK (own := RX0) (C := RX0) (T := TX0) (N := 10) (ci := 0) inB_X0 hown hW (hbk.l8 (j := 7) (by decide)) (cB_7 hbk) rfl 9 (by decide) rfl q_129 rfl hdg kk
theorem gf_X0_39 (hx : p.tables.exec = Jvm.exec) (hb : cd.code = cc) (hB : ∀ w ∈ BG, w.before args s = true) (hK : Ks E s) (hown : s.vm.findClass RX0 = some mi.cls) (hW : Wd E x m g o H) {b : Nat} (hbk : IsB b) (hdg : decode cc pc = .ok (.getfield 39, 3)) (kk : W p l e R s mi args below meth cd H locs cells slots Q (F0 mi (pc + 3) ls (.int (x (b + 7) 0) :: rest))) : W p l e R s mi args below meth cd H locs cells slots Q (F0 mi pc ls (rf E (b + 7) :: rest)) :=
  r_get hx hb hB hK (own := RX0) (C := RX0) (T := TX0) (N := 10) (ci := 0) inB_X0 hown hW (hbk.l8 (j := 7) (by decide)) (cB_7 hbk) rfl 0 (by decide) rfl q_118 rfl hdg kk
theorem gf_X1_9 (hx : p.tables.exec = Jvm.exec) (hb : cd.code = cc) (hB : ∀ w ∈ BG, w.before args s = true) (hK : Ks E s) (hown : s.vm.findClass RX1 = some mi.cls) (hW : Wd E x m g o H) {b : Nat} (hbk : IsB b) (hdg : decode cc pc = .ok (.getfield 9, 3)) (kk : W p l e R s mi args below meth cd H locs cells slots Q (F0 mi (pc + 3) ls (rf E (b + 2) :: rest))) : W p l e R s mi args below meth cd H locs cells slots Q (F0 mi pc ls (rf E (b + 1) :: rest)) :=
  r_get hx hb hB hK (own := RX1) (C := RX1) (T := TX1) (N := 5) (ci := 1) inB_X1 hown hW (hbk.l8 (j := 1) (by decide)) (cB_1 hbk) rfl 0 (by decide) rfl q_95 rfl hdg kk
theorem gf_X1_15 (hx : p.tables.exec = Jvm.exec) (hb : cd.code = cc) (hB : ∀ w ∈ BG, w.before args s = true) (hK : Ks E s) (hown : s.vm.findClass RX1 = some mi.cls) (hW : Wd E x m g o H) {b : Nat} (hbk : IsB b) (hdg : decode cc pc = .ok (.getfield 15, 3)) (kk : W p l e R s mi args below meth cd H locs cells slots Q (F0 mi (pc + 3) ls (rf E (b + 3) :: rest))) : W p l e R s mi args below meth cd H locs cells slots Q (F0 mi pc ls (rf E (b + 1) :: rest)) :=
  r_get hx hb hB hK (own := RX1) (C := RX1) (T := TX1) (N := 5) (ci := 1) inB_X1 hown hW (hbk.l8 (j := 1) (by decide)) (cB_1 hbk) rfl 1 (by decide) rfl q_96 rfl hdg kk
theorem gf_X1_18 (hx : p.tables.exec = Jvm.exec) (hb : cd.code = cc) (hB : ∀ w ∈ BG, w.before args s = true) (hK : Ks E s) (hown : s.vm.findClass RX1 = some mi.cls) (hW : Wd E x m g o H) {b : Nat} (hbk : IsB b) (hdg : decode cc pc = .ok (.getfield 18, 3)) (kk : W p l e R s mi args below meth cd H locs cells slots Q (F0 mi (pc + 3) ls (rf E (b + 4) :: rest))) : W p l e R s mi args below meth cd H locs cells slots Q (F0 mi pc ls (rf E (b + 1) :: rest)) :=
  r_get hx hb hB hK (own := RX1) (C := RX1) (T := TX1) (N := 5) (ci := 1) inB_X1 hown hW (hbk.l8 (j := 1) (by decide)) (cB_1 hbk) rfl 2 (by decide) rfl q_97 rfl hdg kk
theorem gf_X1_21 (hx : p.tables.exec = Jvm.exec) (hb : cd.code = cc) (hB : ∀ w ∈ BG, w.before args s = true) (hK : Ks E s) (hown : s.vm.findClass RX1 = some mi.cls) (hW : Wd E x m g o H) {b : Nat} (hbk : IsB b) (hdg : decode cc pc = .ok (.getfield 21, 3)) (kk : W p l e R s mi args below meth cd H locs cells slots Q (F0 mi (pc + 3) ls (rf E (b + 5) :: rest))) : W p l e R s mi args below meth cd H locs cells slots Q (F0 mi pc ls (rf E (b + 1) :: rest)) :=
  r_get hx hb hB hK (own := RX1) (C := RX1) (T := TX1) (N := 5) (ci := 1) inB_X1 hown hW (hbk.l8 (j := 1) (by decide)) (cB_1 hbk) rfl 3 (by decide) rfl q_98 rfl hdg kk
theorem gf_X1_24 (hx : p.tables.exec = Jvm.exec) (hb : cd.code = cc) (hB : ∀ w ∈ BG, w.before args s = true) (hK : Ks E s) (hown : s.vm.findClass RX1 = some mi.cls) (hW : Wd E x m g o H) {b : Nat} (hbk : IsB b) (hdg : decode cc pc = .ok (.getfield 24, 3)) (kk : W p l e R s mi args below meth cd H locs cells slots Q (F0 mi (pc + 3) ls (rf E (b + 6) :: rest))) : W p l e R s mi args below meth cd H locs cells slots Q (F0 mi pc ls (rf E (b + 1) :: rest)) :=
  r_get hx hb hB hK (own := RX1) (C := RX1) (T := TX1) (N := 5) (ci := 1) inB_X1 hown hW (hbk.l8 (j := 1) (by decide)) (cB_1 hbk) rfl 4 (by decide) rfl q_99 rfl hdg kk
theorem gf_X2_9 (hx : p.tables.exec = Jvm.exec) (hb : cd.code = cc) (hB : ∀ w ∈ BG, w.before args s = true) (hK : Ks E s) (hown : s.vm.findClass RX2 = some mi.cls) (hW : Wd E x m g o H) {b : Nat} (hbk : IsB b) (hdg : decode cc pc = .ok (.getfield 9, 3)) (kk : W p l e R s mi args below meth cd H locs cells slots Q (F0 mi (pc + 3) ls (rf E (b + 18) :: rest))) : W p l e R s mi args below meth cd H locs cells slots Q (F0 mi pc ls (rf E (b + 17) :: rest)) :=
  r_get hx hb hB hK (own := RX2) (C := RX2) (T := TX2) (N := 5) (ci := 2) inB_X2 hown hW (hbk.l8 (j := 17) (by decide)) (cB_17 hbk) rfl 1 (by decide) rfl q_162 rfl hdg kk
theorem gf_X2_15 (hx : p.tables.exec = Jvm.exec) (hb : cd.code = cc) (hB : ∀ w ∈ BG, w.before args s = true) (hK : Ks E s) (hown : s.vm.findClass RX2 = some mi.cls) (hW : Wd E x m g o H) {b : Nat} (hbk : IsB b) (hdg : decode cc pc = .ok (.getfield 15, 3)) (kk : W p l e R s mi args below meth cd H locs cells slots Q (F0 mi (pc + 3) ls (rf E (b + 19) :: rest))) : W p l e R s mi args below meth cd H locs cells slots Q (F0 mi pc ls (rf E (b + 17) :: rest)) :=
  r_get hx hb hB hK (own := RX2) (C := RX2) (T := TX2) (N := 5) (ci := 2) inB_X2 hown hW (hbk.l8 (j := 17) (by decide)) (cB_17 hbk) rfl 2 (by decide) rfl q_163 rfl hdg kk
theorem gf_X2_18 (hx : p.tables.exec = Jvm.exec) (hb : cd.code = cc) (hB : ∀ w ∈ BG, w.before args s = true) (hK : Ks E s) (hown : s.vm.findClass RX2 = some mi.cls) (hW : Wd E x m g o H) {b : Nat} (hbk : IsB b) (hdg : decode cc pc = .ok (.getfield 18, 3)) (kk : W p l e R s mi args below meth cd H locs cells slots Q (F0 mi (pc + 3) ls (rf E (b + 20) :: rest))) : W p l e R s mi args below meth cd H locs cells slots Q (F0 mi pc ls (rf E (b + 17) :: rest)) :=
  r_get hx hb hB hK (own := RX2) (C := RX2) (T := TX2) (N := 5) (ci := 2) inB_X2 hown hW (hbk.l8 (j := 17) (by decide)) (cB_17 hbk) rfl 3 (by decide) rfl q_164 rfl hdg kk
theorem gf_X2_21 (hx : p.tables.exec = Jvm.exec) (hb : cd.code = cc) (hB : ∀ w ∈ BG, w.before args s = true) (hK : Ks E s) (hown : s.vm.findClass RX2 = some mi.cls) (hW : Wd E x m g o H) {b : Nat} (hbk : IsB b) (hdg : decode cc pc = .ok (.getfield 21, 3)) (kk : W p l e R s mi args below meth cd H locs cells slots Q (F0 mi (pc + 3) ls (rf E (b + 21) :: rest))) : W p l e R s mi args below meth cd H locs cells slots Q (F0 mi pc ls (rf E (b + 17) :: rest)) :=
  r_get hx hb hB hK (own := RX2) (C := RX2) (T := TX2) (N := 5) (ci := 2) inB_X2 hown hW (hbk.l8 (j := 17) (by decide)) (cB_17 hbk) rfl 4 (by decide) rfl q_165 rfl hdg kk
theorem gf_X2_30 (hx : p.tables.exec = Jvm.exec) (hb : cd.code = cc) (hB : ∀ w ∈ BG, w.before args s = true) (hK : Ks E s) (hown : s.vm.findClass RX2 = some mi.cls) (hW : Wd E x m g o H) {b : Nat} (hbk : IsB b) (hdg : decode cc pc = .ok (.getfield 30, 3)) (kk : W p l e R s mi args below meth cd H locs cells slots Q (F0 mi (pc + 3) ls (.int (x (b + 17) 0) :: rest))) : W p l e R s mi args below meth cd H locs cells slots Q (F0 mi pc ls (rf E (b + 17) :: rest)) :=
  r_get hx hb hB hK (own := RX2) (C := RX2) (T := TX2) (N := 5) (ci := 2) inB_X2 hown hW (hbk.l8 (j := 17) (by decide)) (cB_17 hbk) rfl 0 (by decide) rfl q_160 rfl hdg kk
theorem pf_X0_39 (hx : p.tables.exec = Jvm.exec) (hb : cd.code = cc) (hB : ∀ w ∈ BG, w.before args s = true) (hK : Ks E s) (hown : s.vm.findClass RX0 = some mi.cls) (hW : Wd E x m g o H) (hS : va_S (Ah E) s.heap H locs) {b : Nat} (hbk : IsB b) {v : Int32} {x1 : XS} (ev : x1 = ux x (b + 7) 0 v) (hdg : decode cc pc = .ok (.putfield 39, 3)) (kk : ∀ (H1 : Heap) (locs1 : List Loc), Wd E x1 m g o H1 → va_S (Ah E) s.heap H1 locs1 → W p l e R s mi args below meth cd H1 locs1 cells slots Q (F0 mi (pc + 3) ls rest)) : W p l e R s mi args below meth cd H locs cells slots Q (F0 mi pc ls (.int v :: rf E (b + 7) :: rest)) := by
  subst ev
  exact r_put hx hb hB hK (own := RX0) (C := RX0) (T := TX0) (N := 10) (ci := 0) inB_X0 tyX0 tyX0_ok nmX0 hown hW hS (hbk.l8 (j := 7) (by decide)) (cB_7 hbk) rfl 0 (by decide) rfl rfl q_118 (ty := .int) rfl (vp_nar_int v) rfl (Nat.le_of_ble_eq_true rfl) (by rw [cB_7 hbk]; simp [ux]) (cellV_ux) hdg kk
theorem pf_X2_30 (hx : p.tables.exec = Jvm.exec) (hb : cd.code = cc) (hB : ∀ w ∈ BG, w.before args s = true) (hK : Ks E s) (hown : s.vm.findClass RX2 = some mi.cls) (hW : Wd E x m g o H) (hS : va_S (Ah E) s.heap H locs) {b : Nat} (hbk : IsB b) {v : Int32} {x1 : XS} (ev : x1 = ux x (b + 17) 0 v) (hdg : decode cc pc = .ok (.putfield 30, 3)) (kk : ∀ (H1 : Heap) (locs1 : List Loc), Wd E x1 m g o H1 → va_S (Ah E) s.heap H1 locs1 → W p l e R s mi args below meth cd H1 locs1 cells slots Q (F0 mi (pc + 3) ls rest)) : W p l e R s mi args below meth cd H locs cells slots Q (F0 mi pc ls (.int v :: rf E (b + 17) :: rest)) := by
  subst ev
  exact r_put hx hb hB hK (own := RX2) (C := RX2) (T := TX2) (N := 5) (ci := 2) inB_X2 tyX2 tyX2_ok nmX2 hown hW hS (hbk.l8 (j := 17) (by decide)) (cB_17 hbk) rfl 0 (by decide) rfl rfl q_160 (ty := .int) rfl (vp_nar_int v) rfl (Nat.le_of_ble_eq_true rfl) (by rw [cB_17 hbk]; simp [ux]) (cellV_ux) hdg kk
theorem kc_X0_47 (hB : ∀ w ∈ BG, w.before args s = true) (hR : (rmH 0).frames + 1 ≤ R.frames ∧ 8 + (2 + 11) + (rmH 0).locals ≤ R.locals) : CallW R s args RX0 RX0 47 yX0_has cX0_has 2 (some .boolean) (wsM yX0_has cX0_has 2 (some .boolean)) (rmH 0) 0 0 1 := k_V hB q_278 q_61 q_275 q_276 q_277 (by decide +kernel) hR
theorem kc_X0_51 (hB : ∀ w ∈ BG, w.before args s = true) (hR : (rmH 1).frames + 1 ≤ R.frames ∧ 8 + (2 + 11) + (rmH 1).locals ≤ R.locals) : CallW R s args RX0 RX0 51 yX0_stageOf cX0_stageOf 2 (some .int) (wsM yX0_stageOf cX0_stageOf 2 (some .int)) (rmH 1) 0 0 1 := k_V hB q_368 q_61 q_365 q_366 q_367 (by decide +kernel) hR
theorem kc_X0_55 (hB : ∀ w ∈ BG, w.before args s = true) (hR : (rmH 1).frames + 1 ≤ R.frames ∧ 8 + (2 + 11) + (rmH 1).locals ≤ R.locals) : CallW R s args RX0 RX0 55 yX0_kindOf cX0_kindOf 2 (some .int) (wsM yX0_kindOf cX0_kindOf 2 (some .int)) (rmH 1) 0 0 1 := k_V hB q_286 q_61 q_466 q_284 q_285 (by decide +kernel) hR
theorem kc_X0_58 (hB : ∀ w ∈ BG, w.before args s = true) (hR : (rmH 1).frames + 1 ≤ R.frames ∧ 8 + (2 + 11) + (rmH 1).locals ≤ R.locals) : CallW R s args RX0 RX0 58 yX0_amendsOf cX0_amendsOf 2 (some .int) (wsM yX0_amendsOf cX0_amendsOf 2 (some .int)) (rmH 1) 0 0 1 := k_V hB q_561 q_61 q_558 q_559 q_560 (by decide +kernel) hR
theorem kc_X0_61 (hB : ∀ w ∈ BG, w.before args s = true) (hR : (rmH 1).frames + 1 ≤ R.frames ∧ 8 + (2 + 11) + (rmH 1).locals ≤ R.locals) : CallW R s args RX0 RX0 61 yX0_followedBy cX0_followedBy 2 (some .int) (wsM yX0_followedBy cX0_followedBy 2 (some .int)) (rmH 1) 0 0 1 := k_V hB q_274 q_61 q_476 q_272 q_273 (by decide +kernel) hR
theorem kc_X0_64 (hB : ∀ w ∈ BG, w.before args s = true) (hR : (rmH 1).frames + 1 ≤ R.frames ∧ 8 + (2 + 11) + (rmH 1).locals ≤ R.locals) : CallW R s args RX0 RX0 64 yX0_customerOf cX0_customerOf 2 (some .int) (wsM yX0_customerOf cX0_customerOf 2 (some .int)) (rmH 1) 0 0 1 := k_V hB q_612 q_61 q_688 q_610 q_611 (by decide +kernel) hR
theorem kc_X0_67 (hB : ∀ w ∈ BG, w.before args s = true) (hR : (rmH 1).frames + 1 ≤ R.frames ∧ 8 + (2 + 11) + (rmH 1).locals ≤ R.locals) : CallW R s args RX0 RX0 67 yX0_gotOf cX0_gotOf 2 (some .int) (wsM yX0_gotOf cX0_gotOf 2 (some .int)) (rmH 1) 0 0 1 := k_V hB q_306 q_61 q_467 q_304 q_305 (by decide +kernel) hR
theorem kc_X0_70 (hB : ∀ w ∈ BG, w.before args s = true) (hR : (rmH 2).frames + 1 ≤ R.frames ∧ 8 + (4 + 11) + (rmH 2).locals ≤ R.locals) : CallW R s args RX0 RX0 70 yX0_gotInKind cX0_gotInKind 4 (some .int) (wsM yX0_gotInKind cX0_gotInKind 4 (some .int)) (rmH 2) 0 0 1 := k_V hB q_465 q_61 q_462 q_463 q_464 (by decide +kernel) hR
theorem kc_X0_73 (hB : ∀ w ∈ BG, w.before args s = true) (hR : (rmH 2).frames + 1 ≤ R.frames ∧ 8 + (3 + 11) + (rmH 2).locals ≤ R.locals) : CallW R s args RX0 RX0 73 yX0_areAlike cX0_areAlike 3 (some .boolean) (wsM yX0_areAlike cX0_areAlike 3 (some .boolean)) (rmH 2) 0 0 2 := k_V hB q_475 q_61 q_472 q_474 q_4 (by decide +kernel) hR
theorem kc_X1_31 (hB : ∀ w ∈ BG, w.before args s = true) (hK : Ks E s) (hR : (rmH 0).frames + 1 ≤ R.frames ∧ 8 + (1 + 11) + (rmH 0).locals ≤ R.locals) : va_CN R s args RX1 31 yX4_isKind RX4 cX4_isKind 1 (some .boolean) (wsM yX4_isKind cX4_isKind 1 (some .boolean)) (rmH 0) 0 0 1 ∧ (Cond.static yX4_isKind).before args s = true ∧ True := k_SN hB hK q_302 q_58 nw_300 q_301 (by decide +kernel) hR
theorem kc_X1_35 (hB : ∀ w ∈ BG, w.before args s = true) (hR : (rmH 1).frames + 1 ≤ R.frames ∧ 8 + (3 + 11) + (rmH 1).locals ≤ R.locals) : CallW R s args RX1 RX1 35 yX1_has cX1_has 3 (some .boolean) (wsM yX1_has cX1_has 3 (some .boolean)) (rmH 1) 0 0 2 := k_V hB q_299 q_60 q_296 q_297 q_298 (by decide +kernel) hR
theorem kc_X1_39 (hB : ∀ w ∈ BG, w.before args s = true) (hR : (rmH 2).frames + 1 ≤ R.frames ∧ 8 + (3 + 11) + (rmH 2).locals ≤ R.locals) : CallW R s args RX1 RX1 39 yX1_leastOf cX1_leastOf 3 (some .int) (wsM yX1_leastOf cX1_leastOf 3 (some .int)) (rmH 2) 0 0 2 := k_V hB q_545 q_60 q_639 q_543 q_544 (by decide +kernel) hR
theorem kc_X1_43 (hB : ∀ w ∈ BG, w.before args s = true) (hR : (rmH 2).frames + 1 ≤ R.frames ∧ 8 + (3 + 11) + (rmH 2).locals ≤ R.locals) : CallW R s args RX1 RX1 43 yX1_mostOf cX1_mostOf 3 (some .int) (wsM yX1_mostOf cX1_mostOf 3 (some .int)) (rmH 2) 0 0 2 := k_V hB q_549 q_60 q_640 q_547 q_548 (by decide +kernel) hR
theorem kc_X1_46 (hB : ∀ w ∈ BG, w.before args s = true) (hK : Ks E s) (hR : (rmH 0).frames + 1 ≤ R.frames ∧ 8 + (3 + 11) + (rmH 0).locals ≤ R.locals) : va_CN R s args RX1 46 yX4_isWithin RX4 cX4_isWithin 3 (some .boolean) (wsM yX4_isWithin cX4_isWithin 3 (some .boolean)) (rmH 0) 0 0 3 ∧ (Cond.static yX4_isWithin).before args s = true ∧ True := k_SN hB hK q_255 q_58 nw_641 q_254 (by decide +kernel) hR
theorem kc_X1_50 (hB : ∀ w ∈ BG, w.before args s = true) (hR : (rmH 1).frames + 1 ≤ R.frames ∧ 8 + (2 + 11) + (rmH 1).locals ≤ R.locals) : CallW R s args RX1 RX1 50 yX1_sizeOf cX1_sizeOf 2 (some .int) (wsM yX1_sizeOf cX1_sizeOf 2 (some .int)) (rmH 1) 0 0 1 := k_V hB q_526 q_60 q_752 q_524 q_525 (by decide +kernel) hR
theorem kc_X1_54 (hB : ∀ w ∈ BG, w.before args s = true) (hR : (rmH 2).frames + 1 ≤ R.frames ∧ 8 + (3 + 11) + (rmH 2).locals ≤ R.locals) : CallW R s args RX1 RX1 54 yX1_isOffered cX1_isOffered 3 (some .boolean) (wsM yX1_isOffered cX1_isOffered 3 (some .boolean)) (rmH 2) 0 0 2 := k_V hB q_553 q_60 q_753 q_551 q_552 (by decide +kernel) hR
theorem kc_X2_38 (hB : ∀ w ∈ BG, w.before args s = true) (hK : Ks E s) (hR : (rmH 0).frames + 1 ≤ R.frames ∧ 8 + (1 + 11) + (rmH 0).locals ≤ R.locals) : va_CN R s args RX2 38 yX4_isKind RX4 cX4_isKind 1 (some .boolean) (wsM yX4_isKind cX4_isKind 1 (some .boolean)) (rmH 0) 0 0 1 ∧ (Cond.static yX4_isKind).before args s = true ∧ True := k_SN hB hK q_302 q_58 nw_573 q_301 (by decide +kernel) hR
theorem kc_X2_42 (hB : ∀ w ∈ BG, w.before args s = true) (hK : Ks E s) (hR : (rmH 0).frames + 1 ≤ R.frames ∧ 8 + (1 + 11) + (rmH 0).locals ≤ R.locals) : va_CN R s args RX2 42 yX4_isGroup RX4 cX4_isGroup 1 (some .boolean) (wsM yX4_isGroup cX4_isGroup 1 (some .boolean)) (rmH 0) 0 0 1 ∧ (Cond.static yX4_isGroup).before args s = true ∧ True := k_SN hB hK q_568 q_58 nw_574 q_567 (by decide +kernel) hR
theorem kc_X2_45 (hB : ∀ w ∈ BG, w.before args s = true) (hR : (rmH 0).frames + 1 ≤ R.frames ∧ 8 + (2 + 11) + (rmH 0).locals ≤ R.locals) : CallW R s args RX2 RX2 45 yX2_has cX2_has 2 (some .boolean) (wsM yX2_has cX2_has 2 (some .boolean)) (rmH 0) 0 0 1 := k_V hB q_282 q_62 q_291 q_280 q_281 (by decide +kernel) hR
end LK
