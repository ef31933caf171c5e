/-! which word of the tables is where (by program) -/
theorem az_t (i : Nat) {w : Cond} (h : tables_1[i]? = some w) (g : goodWord w = true) : w ∈ az_gw := List.mem_filter.mpr ⟨List.mem_append_right _ (List.mem_of_getElem? h), g⟩
theorem az_s (i : Nat) {w : Cond} (h : (k2_sels lw_privs)[i]? = some w) (g : goodWord w = true) : w ∈ az_gw := List.mem_filter.mpr ⟨List.mem_append_left _ (List.mem_of_getElem? h), g⟩
theorem az_n (i : Nat) {own host : String} {idx : Nat} {y : MethodName} (h : tables_1[i]? = some (.methodLinkNest own idx y host)) (_ : True = True) : Cond.methodLinkNest own idx y host ∈ az_nest := List.mem_filter.mpr ⟨List.mem_of_getElem? h, rfl⟩
theorem az_cls {ws : List Cond} (ps : List Nat) (h : ws = ps.filterMap (fun i => tables_1[i]?)) (g : ws.all goodWord = true) : ∀ w ∈ ws, w ∈ az_gw := fun w hw => by
  have h1 := List.all_eq_true.mp g w hw
  rw [h] at hw
  obtain ⟨i, -, hi⟩ := List.mem_filterMap.mp hw
  exact az_t i hi h1
theorem mFRX0_31 : Cond.fieldLink RX0 31 "UnitCommitment$State" "outage" "[[I" ∈ az_gw := az_t 86 (by decide +kernel) (by decide +kernel)
theorem iIRX8_6 : az_isI 9 6 = false := by decide +kernel
theorem gwRX8 : ∀ w ∈ u_ws RX8 TX8 11, w ∈ az_gw := az_cls [104, 106, 108, 110, 112, 114, 116, 118, 120, 122, 124] (by decide +kernel) (by decide +kernel)
theorem mFRX0_42 : Cond.fieldLink RX0 42 "UnitCommitment$State" "policy" "I" ∈ az_gw := az_t 62 (by decide +kernel) (by decide +kernel)
theorem iIRX8_2 : az_isI 9 2 = true := by decide +kernel
theorem mFRX0_45 : Cond.fieldLink RX0 45 "UnitCommitment$State" "unit" "[[I" ∈ az_gw := az_t 80 (by decide +kernel) (by decide +kernel)
theorem iIRX8_5 : az_isI 9 5 = false := by decide +kernel
theorem knX0_urgency : az_kn yX0_urgency cX0_urgency 3 (some .int) 2 := ⟨az_t 429 (by decide +kernel) (by decide +kernel), az_t 5 (by decide +kernel) (by decide +kernel), by decide +kernel, by decide +kernel, by decide +kernel⟩
theorem stX0_urgency : Cond.static yX0_urgency ∈ az_gw := az_t 428 (by decide +kernel) (by decide +kernel)
theorem mLRX0_39 : Cond.methodLink RX0 39 yX0_urgency ∈ az_gw := az_t 427 (by decide +kernel) (by decide +kernel)
theorem mFRX0_21 : Cond.fieldLink RX0 21 "UnitCommitment$State" "outages" "I" ∈ az_gw := az_t 72 (by decide +kernel) (by decide +kernel)
theorem iIRX8_4 : az_isI 9 4 = true := by decide +kernel
theorem mFRX0_9 : Cond.fieldLink RX0 9 "UnitCommitment$Crew" "begin" "[I" ∈ az_gw := az_t 160 (by decide +kernel) (by decide +kernel)
theorem iIRX0_0 : az_isI 2 0 = false := by decide +kernel
theorem gwRX0 : ∀ w ∈ u_ws RX0 TX0 3, w ∈ az_gw := az_cls [169, 171, 173] (by decide +kernel) (by decide +kernel)
theorem mFRX0_15 : Cond.fieldLink RX0 15 "UnitCommitment$Crew" "end" "[I" ∈ az_gw := az_t 162 (by decide +kernel) (by decide +kernel)
theorem iIRX0_1 : az_isI 2 1 = false := by decide +kernel
theorem mFRX0_18 : Cond.fieldLink RX0 18 "UnitCommitment$Crew" "away" "[I" ∈ az_gw := az_t 164 (by decide +kernel) (by decide +kernel)
theorem iIRX0_2 : az_isI 2 2 = false := by decide +kernel
theorem mFRX0_48 : Cond.fieldLink RX0 48 "UnitCommitment$State" "hours" "I" ∈ az_gw := az_t 53 (by decide +kernel) (by decide +kernel)
theorem iIRX8_0 : az_isI 9 0 = true := by decide +kernel
theorem knX0_markAway : az_kn yX0_markAway cX0_markAway 4 none 1 := ⟨az_t 433 (by decide +kernel) (by decide +kernel), az_t 5 (by decide +kernel) (by decide +kernel), by decide +kernel, by decide +kernel, by decide +kernel⟩
theorem imX0_markAway : Cond.instanceMethod yX0_markAway ∈ az_gw := az_t 432 (by decide +kernel) (by decide +kernel)
theorem seX0_markAway : Cond.selects RX0 yX0_markAway yX0_markAway ∈ az_gw := az_s 7 (by decide +kernel) (by decide +kernel)
theorem mLRX0_35 : Cond.methodLink RX0 35 yX0_markAway ∈ az_gw := az_t 430 (by decide +kernel) (by decide +kernel)
theorem knX0_nextOne : az_kn yX0_nextOne cX0_nextOne 6 (some .int) 2 := ⟨az_t 426 (by decide +kernel) (by decide +kernel), az_t 5 (by decide +kernel) (by decide +kernel), by decide +kernel, by decide +kernel, by decide +kernel⟩
theorem imX0_nextOne : Cond.instanceMethod yX0_nextOne ∈ az_gw := az_t 425 (by decide +kernel) (by decide +kernel)
theorem seX0_nextOne : Cond.selects RX0 yX0_nextOne yX0_nextOne ∈ az_gw := az_s 6 (by decide +kernel) (by decide +kernel)
theorem mLRX0_27 : Cond.methodLink RX0 27 yX0_nextOne ∈ az_gw := az_t 423 (by decide +kernel) (by decide +kernel)
theorem mFRX1_19 : Cond.fieldLink RX1 19 "UnitCommitment$Grid" "got" "[[I" ∈ az_gw := az_t 212 (by decide +kernel) (by decide +kernel)
theorem iIRX1_2 : az_isI 3 2 = false := by decide +kernel
theorem gwRX1 : ∀ w ∈ u_ws RX1 TX1 3, w ∈ az_gw := az_cls [215, 217, 219] (by decide +kernel) (by decide +kernel)
theorem mFRX1_22 : Cond.fieldLink RX1 22 "UnitCommitment$State" "buses" "I" ∈ az_gw := az_t 56 (by decide +kernel) (by decide +kernel)
theorem iIRX8_1 : az_isI 9 1 = true := by decide +kernel
theorem mFRX1_11 : Cond.fieldLink RX1 11 "UnitCommitment$Grid" "unmet" "[[I" ∈ az_gw := az_t 205 (by decide +kernel) (by decide +kernel)
theorem iIRX1_0 : az_isI 3 0 = false := by decide +kernel
theorem mFRX1_28 : Cond.fieldLink RX1 28 "UnitCommitment$State" "demand" "[[I" ∈ az_gw := az_t 89 (by decide +kernel) (by decide +kernel)
theorem iIRX8_7 : az_isI 9 7 = false := by decide +kernel
theorem mFRX1_16 : Cond.fieldLink RX1 16 "UnitCommitment$Grid" "flow" "[[I" ∈ az_gw := az_t 209 (by decide +kernel) (by decide +kernel)
theorem iIRX1_1 : az_isI 3 1 = false := by decide +kernel
theorem mFRX1_55 : Cond.fieldLink RX1 55 "UnitCommitment$State" "parent" "[I" ∈ az_gw := az_t 100 (by decide +kernel) (by decide +kernel)
theorem iIRX8_9 : az_isI 9 9 = false := by decide +kernel
theorem mFRX1_51 : Cond.fieldLink RX1 51 "UnitCommitment$State" "limit" "[I" ∈ az_gw := az_t 102 (by decide +kernel) (by decide +kernel)
theorem iIRX8_10 : az_isI 9 10 = false := by decide +kernel
theorem mFRX1_31 : Cond.fieldLink RX1 31 "UnitCommitment$State" "unit" "[[I" ∈ az_gw := az_t 78 (by decide +kernel) (by decide +kernel)
theorem knX1_carry : az_kn yX1_carry cX1_carry 9 none 5 := ⟨az_t 535 (by decide +kernel) (by decide +kernel), az_t 7 (by decide +kernel) (by decide +kernel), by decide +kernel, by decide +kernel, by decide +kernel⟩
theorem imX1_carry : Cond.instanceMethod yX1_carry ∈ az_gw := az_t 534 (by decide +kernel) (by decide +kernel)
theorem seX1_carry : Cond.selects RX1 yX1_carry yX1_carry ∈ az_gw := az_s 25 (by decide +kernel) (by decide +kernel)
theorem mLRX1_47 : Cond.methodLink RX1 47 yX1_carry ∈ az_gw := az_t 532 (by decide +kernel) (by decide +kernel)
theorem knX1_passable : az_kn yX1_passable cX1_passable 11 (some .int) 5 := ⟨az_t 531 (by decide +kernel) (by decide +kernel), az_t 7 (by decide +kernel) (by decide +kernel), by decide +kernel, by decide +kernel, by decide +kernel⟩
theorem imX1_passable : Cond.instanceMethod yX1_passable ∈ az_gw := az_t 530 (by decide +kernel) (by decide +kernel)
theorem seX1_passable : Cond.selects RX1 yX1_passable yX1_passable ∈ az_gw := az_s 24 (by decide +kernel) (by decide +kernel)
theorem mLRX1_44 : Cond.methodLink RX1 44 yX1_passable ∈ az_gw := az_t 528 (by decide +kernel) (by decide +kernel)
theorem mLRX1_38 : Cond.methodLink RX1 38 Lib.Math.min.name ∈ az_gw := az_t 527 (by decide +kernel) (by decide +kernel)
theorem mx_st_min : Cond.static Lib.Math.min.name ∈ az_gw := az_t 413 (by decide +kernel) (by decide +kernel)
theorem mx_ini : Cond.initialized "java/lang/Math" ∈ az_gw := az_t 21 (by decide +kernel) (by decide +kernel)
theorem mx_co_min : Cond.code Lib.Math.min.name Lib.Math.min.code 2 (some .int) ∈ az_gw := az_t 414 (by decide +kernel) (by decide +kernel)
theorem knX1_give : az_kn yX1_give cX1_give 8 (some .int) 5 := ⟨az_t 526 (by decide +kernel) (by decide +kernel), az_t 7 (by decide +kernel) (by decide +kernel), by decide +kernel, by decide +kernel, by decide +kernel⟩
theorem imX1_give : Cond.instanceMethod yX1_give ∈ az_gw := az_t 525 (by decide +kernel) (by decide +kernel)
theorem seX1_give : Cond.selects RX1 yX1_give yX1_give ∈ az_gw := az_s 23 (by decide +kernel) (by decide +kernel)
theorem mLRX1_34 : Cond.methodLink RX1 34 yX1_give ∈ az_gw := az_t 523 (by decide +kernel) (by decide +kernel)
theorem mFRX8_22 : Cond.fieldLink RX8 22 "UnitCommitment$State" "reserve" "[I" ∈ az_gw := az_t 92 (by decide +kernel) (by decide +kernel)
theorem iIRX8_8 : az_isI 9 8 = false := by decide +kernel
theorem mFRX8_26 : Cond.fieldLink RX8 26 "UnitCommitment$State" "parent" "[I" ∈ az_gw := az_t 97 (by decide +kernel) (by decide +kernel)
theorem mFRX8_29 : Cond.fieldLink RX8 29 "UnitCommitment$State" "limit" "[I" ∈ az_gw := az_t 101 (by decide +kernel) (by decide +kernel)
theorem mLRX8_52 : Cond.methodLink RX8 52 arraycopyName ∈ az_gw := az_t 409 (by decide +kernel) (by decide +kernel)
theorem cp_nat : Cond.native arraycopyName ∈ az_gw := az_t 411 (by decide +kernel) (by decide +kernel)
theorem cp_st : Cond.static arraycopyName ∈ az_gw := az_t 410 (by decide +kernel) (by decide +kernel)
theorem cp_ini : Cond.initialized "java/lang/System" ∈ az_gw := az_t 20 (by decide +kernel) (by decide +kernel)
theorem mFRX8_19 : Cond.fieldLink RX8 19 "UnitCommitment$State" "demand" "[[I" ∈ az_gw := az_t 88 (by decide +kernel) (by decide +kernel)
theorem mFRX8_16 : Cond.fieldLink RX8 16 "UnitCommitment$State" "outage" "[[I" ∈ az_gw := az_t 85 (by decide +kernel) (by decide +kernel)
theorem mFRX8_11 : Cond.fieldLink RX8 11 "UnitCommitment$State" "unit" "[[I" ∈ az_gw := az_t 75 (by decide +kernel) (by decide +kernel)
theorem mFRX8_36 : Cond.fieldLink RX8 36 "UnitCommitment$State" "hours" "I" ∈ az_gw := az_t 48 (by decide +kernel) (by decide +kernel)
theorem mFRX8_40 : Cond.fieldLink RX8 40 "UnitCommitment$State" "buses" "I" ∈ az_gw := az_t 58 (by decide +kernel) (by decide +kernel)
theorem mFRX8_43 : Cond.fieldLink RX8 43 "UnitCommitment$State" "policy" "I" ∈ az_gw := az_t 61 (by decide +kernel) (by decide +kernel)
theorem mFRX8_46 : Cond.fieldLink RX8 46 "UnitCommitment$State" "units" "I" ∈ az_gw := az_t 66 (by decide +kernel) (by decide +kernel)
theorem iIRX8_3 : az_isI 9 3 = true := by decide +kernel
theorem mFRX8_49 : Cond.fieldLink RX8 49 "UnitCommitment$State" "outages" "I" ∈ az_gw := az_t 73 (by decide +kernel) (by decide +kernel)
theorem mFRX2_17 : Cond.fieldLink RX2 17 "UnitCommitment$History" "next" "I" ∈ az_gw := az_t 138 (by decide +kernel) (by decide +kernel)
theorem iIRX2_1 : az_isI 4 1 = true := by decide +kernel
theorem gwRX2 : ∀ w ∈ u_ws RX2 TX2 3, w ∈ az_gw := az_cls [141, 143, 145] (by decide +kernel) (by decide +kernel)
theorem mFRX2_21 : Cond.fieldLink RX2 21 "UnitCommitment$History" "count" "I" ∈ az_gw := az_t 139 (by decide +kernel) (by decide +kernel)
theorem iIRX2_2 : az_isI 4 2 = true := by decide +kernel
theorem mLRX2_29 : Cond.methodLink RX2 29 Lib.Math.min.name ∈ az_gw := az_t 412 (by decide +kernel) (by decide +kernel)
theorem mFRX2_11 : Cond.fieldLink RX2 11 "UnitCommitment$History" "ring" "[LUnitCommitment$State;" ∈ az_gw := az_t 137 (by decide +kernel) (by decide +kernel)
theorem iIRX2_0 : az_isI 4 0 = false := by decide +kernel
theorem knX8_copyFrom : az_kn yX8_copyFrom cX8_copyFrom 3 none 1 := ⟨az_t 408 (by decide +kernel) (by decide +kernel), az_t 2 (by decide +kernel) (by decide +kernel), by decide +kernel, by decide +kernel, by decide +kernel⟩
theorem imX8_copyFrom : Cond.instanceMethod yX8_copyFrom ∈ az_gw := az_t 407 (by decide +kernel) (by decide +kernel)
theorem seX8_copyFrom : Cond.selects RX8 yX8_copyFrom yX8_copyFrom ∈ az_gw := az_s 3 (by decide +kernel) (by decide +kernel)
theorem mNRX2_25 : Cond.methodLinkNest RX2 25 yX8_copyFrom "UnitCommitment" ∈ az_nest := az_n 405 (by decide +kernel) rfl
theorem mFRX3_60 : Cond.fieldLink RX3 60 "UnitCommitment$State" "unit" "[[I" ∈ az_gw := az_t 77 (by decide +kernel) (by decide +kernel)
theorem knX3_isDearer : az_kn yX3_isDearer cX3_isDearer 5 (some .boolean) 3 := ⟨az_t 439 (by decide +kernel) (by decide +kernel), az_t 9 (by decide +kernel) (by decide +kernel), by decide +kernel, by decide +kernel, by decide +kernel⟩
theorem stX3_isDearer : Cond.static yX3_isDearer ∈ az_gw := az_t 438 (by decide +kernel) (by decide +kernel)
theorem mLRX3_90 : Cond.methodLink RX3 90 yX3_isDearer ∈ az_gw := az_t 437 (by decide +kernel) (by decide +kernel)
theorem mFRX3_34 : Cond.fieldLink RX3 34 "UnitCommitment$State" "units" "I" ∈ az_gw := az_t 67 (by decide +kernel) (by decide +kernel)
theorem mFRX9_9 : Cond.fieldLink RX9 9 "UnitCommitment$Times" "running" "[I" ∈ az_gw := az_t 183 (by decide +kernel) (by decide +kernel)
theorem iIRX9_0 : az_isI 10 0 = false := by decide +kernel
theorem gwRX9 : ∀ w ∈ u_ws RX9 TX9 3, w ∈ az_gw := az_cls [191, 193, 195] (by decide +kernel) (by decide +kernel)
theorem mFRX9_23 : Cond.fieldLink RX9 23 "UnitCommitment$State" "units" "I" ∈ az_gw := az_t 65 (by decide +kernel) (by decide +kernel)
theorem mFRX9_17 : Cond.fieldLink RX9 17 "UnitCommitment$Times" "up" "[[I" ∈ az_gw := az_t 186 (by decide +kernel) (by decide +kernel)
theorem iIRX9_1 : az_isI 10 1 = false := by decide +kernel
theorem mFRX9_20 : Cond.fieldLink RX9 20 "UnitCommitment$Times" "rest" "[[I" ∈ az_gw := az_t 188 (by decide +kernel) (by decide +kernel)
theorem iIRX9_2 : az_isI 10 2 = false := by decide +kernel
theorem knX9_runs : az_kn yX9_runs cX9_runs 3 (some .boolean) 2 := ⟨az_t 450 (by decide +kernel) (by decide +kernel), az_t 6 (by decide +kernel) (by decide +kernel), by decide +kernel, by decide +kernel, by decide +kernel⟩
theorem imX9_runs : Cond.instanceMethod yX9_runs ∈ az_gw := az_t 449 (by decide +kernel) (by decide +kernel)
theorem seX9_runs : Cond.selects RX9 yX9_runs yX9_runs ∈ az_gw := az_s 9 (by decide +kernel) (by decide +kernel)
theorem mLRX9_38 : Cond.methodLink RX9 38 yX9_runs ∈ az_gw := az_t 447 (by decide +kernel) (by decide +kernel)
theorem mFRX9_29 : Cond.fieldLink RX9 29 "UnitCommitment$State" "unit" "[[I" ∈ az_gw := az_t 76 (by decide +kernel) (by decide +kernel)
theorem mLRX9_32 : Cond.methodLink RX9 32 Lib.Math.max.name ∈ az_gw := az_t 444 (by decide +kernel) (by decide +kernel)
theorem mx_st_max : Cond.static Lib.Math.max.name ∈ az_gw := az_t 445 (by decide +kernel) (by decide +kernel)
theorem mx_co_max : Cond.code Lib.Math.max.name Lib.Math.max.code 2 (some .int) ∈ az_gw := az_t 446 (by decide +kernel) (by decide +kernel)
theorem mFRX3_18 : Cond.fieldLink RX3 18 "UnitCommitment$Outcome" "crew" "LUnitCommitment$Crew;" ∈ az_gw := az_t 224 (by decide +kernel) (by decide +kernel)
theorem iIRX4_0 : az_isI 6 0 = false := by decide +kernel
theorem gwRX4 : ∀ w ∈ u_ws RX4 TX4 10, w ∈ az_gw := az_cls [255, 257, 259, 261, 263, 265, 267, 269, 271, 273] (by decide +kernel) (by decide +kernel)
theorem mFRX3_87 : Cond.fieldLink RX3 87 "UnitCommitment$Crew" "away" "[I" ∈ az_gw := az_t 167 (by decide +kernel) (by decide +kernel)
theorem knX9_ranBefore : az_kn yX9_ranBefore cX9_ranBefore 3 (some .boolean) 2 := ⟨az_t 469 (by decide +kernel) (by decide +kernel), az_t 6 (by decide +kernel) (by decide +kernel), by decide +kernel, by decide +kernel, by decide +kernel⟩
theorem imX9_ranBefore : Cond.instanceMethod yX9_ranBefore ∈ az_gw := az_t 468 (by decide +kernel) (by decide +kernel)
theorem seX9_ranBefore : Cond.selects RX9 yX9_ranBefore yX9_ranBefore ∈ az_gw := az_s 13 (by decide +kernel) (by decide +kernel)
theorem mLRX9_42 : Cond.methodLink RX9 42 yX9_ranBefore ∈ az_gw := az_t 466 (by decide +kernel) (by decide +kernel)
theorem mFRX3_9 : Cond.fieldLink RX3 9 "UnitCommitment$Merit" "byMean" "[I" ∈ az_gw := az_t 309 (by decide +kernel) (by decide +kernel)
theorem iIRX3_0 : az_isI 5 0 = false := by decide +kernel
theorem gwRX3 : ∀ w ∈ u_ws RX3 TX3 2, w ∈ az_gw := az_cls [311, 313] (by decide +kernel) (by decide +kernel)
theorem mFRX3_43 : Cond.fieldLink RX3 43 "UnitCommitment$Outcome" "times" "LUnitCommitment$Times;" ∈ az_gw := az_t 230 (by decide +kernel) (by decide +kernel)
theorem iIRX4_1 : az_isI 6 1 = false := by decide +kernel
theorem knX9_mustRest : az_kn yX9_mustRest cX9_mustRest 4 (some .boolean) 3 := ⟨az_t 473 (by decide +kernel) (by decide +kernel), az_t 6 (by decide +kernel) (by decide +kernel), by decide +kernel, by decide +kernel, by decide +kernel⟩
theorem imX9_mustRest : Cond.instanceMethod yX9_mustRest ∈ az_gw := az_t 472 (by decide +kernel) (by decide +kernel)
theorem seX9_mustRest : Cond.selects RX9 yX9_mustRest yX9_mustRest ∈ az_gw := az_s 14 (by decide +kernel) (by decide +kernel)
theorem mNRX3_84 : Cond.methodLinkNest RX3 84 yX9_mustRest "UnitCommitment" ∈ az_nest := az_n 470 (by decide +kernel) rfl
theorem knX9_mustStay : az_kn yX9_mustStay cX9_mustStay 4 (some .boolean) 3 := ⟨az_t 465 (by decide +kernel) (by decide +kernel), az_t 6 (by decide +kernel) (by decide +kernel), by decide +kernel, by decide +kernel, by decide +kernel⟩
theorem imX9_mustStay : Cond.instanceMethod yX9_mustStay ∈ az_gw := az_t 464 (by decide +kernel) (by decide +kernel)
theorem seX9_mustStay : Cond.selects RX9 yX9_mustStay yX9_mustStay ∈ az_gw := az_s 12 (by decide +kernel) (by decide +kernel)
theorem mNRX3_80 : Cond.methodLinkNest RX3 80 yX9_mustStay "UnitCommitment" ∈ az_nest := az_n 462 (by decide +kernel) rfl
theorem knX3_isAvailable : az_kn yX3_isAvailable cX3_isAvailable 3 (some .boolean) 3 := ⟨az_t 461 (by decide +kernel) (by decide +kernel), az_t 9 (by decide +kernel) (by decide +kernel), by decide +kernel, by decide +kernel, by decide +kernel⟩
theorem stX3_isAvailable : Cond.static yX3_isAvailable ∈ az_gw := az_t 460 (by decide +kernel) (by decide +kernel)
theorem mLRX3_76 : Cond.methodLink RX3 76 yX3_isAvailable ∈ az_gw := az_t 459 (by decide +kernel) (by decide +kernel)
theorem mFRX3_73 : Cond.fieldLink RX3 73 "UnitCommitment$State" "reserve" "[I" ∈ az_gw := az_t 94 (by decide +kernel) (by decide +kernel)
theorem knX8_demandIn : az_kn yX8_demandIn cX8_demandIn 4 (some .int) 1 := ⟨az_t 458 (by decide +kernel) (by decide +kernel), az_t 2 (by decide +kernel) (by decide +kernel), by decide +kernel, by decide +kernel, by decide +kernel⟩
theorem imX8_demandIn : Cond.instanceMethod yX8_demandIn ∈ az_gw := az_t 457 (by decide +kernel) (by decide +kernel)
theorem seX8_demandIn : Cond.selects RX8 yX8_demandIn yX8_demandIn ∈ az_gw := az_s 11 (by decide +kernel) (by decide +kernel)
theorem mNRX3_70 : Cond.methodLinkNest RX3 70 yX8_demandIn "UnitCommitment" ∈ az_nest := az_n 455 (by decide +kernel) rfl
theorem cvRJ6_267 : Cond.constant RJ6 267 (252645135) ∈ az_gw := az_t 479 (by decide +kernel) (by decide +kernel)
theorem cvRJ6_266 : Cond.constant RJ6 266 (858993459) ∈ az_gw := az_t 478 (by decide +kernel) (by decide +kernel)
theorem cvRJ6_265 : Cond.constant RJ6 265 (1431655765) ∈ az_gw := az_t 477 (by decide +kernel) (by decide +kernel)
theorem mFRX3_15 : Cond.fieldLink RX3 15 "UnitCommitment$Merit" "plan" "[I" ∈ az_gw := az_t 310 (by decide +kernel) (by decide +kernel)
theorem iIRX3_1 : az_isI 5 1 = false := by decide +kernel
theorem knJ6_bitCount_0f7a4 : az_kn yJ6_bitCount_0f7a4 cJ6_bitCount_0f7a4 1 (some .int) 1 := ⟨az_t 476 (by decide +kernel) (by decide +kernel), az_t 23 (by decide +kernel) (by decide +kernel), by decide +kernel, by decide +kernel, by decide +kernel⟩
theorem stJ6_bitCount_0f7a4 : Cond.static yJ6_bitCount_0f7a4 ∈ az_gw := az_t 475 (by decide +kernel) (by decide +kernel)
theorem mLRX3_64 : Cond.methodLink RX3 64 yJ6_bitCount_0f7a4 ∈ az_gw := az_t 474 (by decide +kernel) (by decide +kernel)
theorem mFRX3_53 : Cond.fieldLink RX3 53 "UnitCommitment$Times" "running" "[I" ∈ az_gw := az_t 184 (by decide +kernel) (by decide +kernel)
theorem mFRX3_40 : Cond.fieldLink RX3 40 "UnitCommitment$State" "hours" "I" ∈ az_gw := az_t 51 (by decide +kernel) (by decide +kernel)
theorem knX3_choose : az_kn yX3_choose cX3_choose 10 (some .int) 3 := ⟨az_t 454 (by decide +kernel) (by decide +kernel), az_t 9 (by decide +kernel) (by decide +kernel), by decide +kernel, by decide +kernel, by decide +kernel⟩
theorem imX3_choose : Cond.instanceMethod yX3_choose ∈ az_gw := az_t 453 (by decide +kernel) (by decide +kernel)
theorem seX3_choose : Cond.selects RX3 yX3_choose yX3_choose ∈ az_gw := az_s 10 (by decide +kernel) (by decide +kernel)
theorem mLRX3_56 : Cond.methodLink RX3 56 yX3_choose ∈ az_gw := az_t 451 (by decide +kernel) (by decide +kernel)
theorem knX9_advance : az_kn yX9_advance cX9_advance 5 none 2 := ⟨az_t 443 (by decide +kernel) (by decide +kernel), az_t 6 (by decide +kernel) (by decide +kernel), by decide +kernel, by decide +kernel, by decide +kernel⟩
theorem imX9_advance : Cond.instanceMethod yX9_advance ∈ az_gw := az_t 442 (by decide +kernel) (by decide +kernel)
theorem seX9_advance : Cond.selects RX9 yX9_advance yX9_advance ∈ az_gw := az_s 8 (by decide +kernel) (by decide +kernel)
theorem mNRX3_47 : Cond.methodLinkNest RX3 47 yX9_advance "UnitCommitment" ∈ az_nest := az_n 440 (by decide +kernel) rfl
theorem knX3_sort : az_kn yX3_sort cX3_sort 6 none 3 := ⟨az_t 436 (by decide +kernel) (by decide +kernel), az_t 9 (by decide +kernel) (by decide +kernel), by decide +kernel, by decide +kernel, by decide +kernel⟩
theorem stX3_sort : Cond.static yX3_sort ∈ az_gw := az_t 435 (by decide +kernel) (by decide +kernel)
theorem mLRX3_30 : Cond.methodLink RX3 30 yX3_sort ∈ az_gw := az_t 434 (by decide +kernel) (by decide +kernel)
theorem knX0_schedule : az_kn yX0_schedule cX0_schedule 5 none 1 := ⟨az_t 422 (by decide +kernel) (by decide +kernel), az_t 5 (by decide +kernel) (by decide +kernel), by decide +kernel, by decide +kernel, by decide +kernel⟩
theorem imX0_schedule : Cond.instanceMethod yX0_schedule ∈ az_gw := az_t 421 (by decide +kernel) (by decide +kernel)
theorem seX0_schedule : Cond.selects RX0 yX0_schedule yX0_schedule ∈ az_gw := az_s 5 (by decide +kernel) (by decide +kernel)
theorem mNRX3_24 : Cond.methodLinkNest RX3 24 yX0_schedule "UnitCommitment" ∈ az_nest := az_n 419 (by decide +kernel) rfl
theorem mFRX4_12 : Cond.fieldLink RX4 12 "UnitCommitment$Outcome" "crew" "LUnitCommitment$Crew;" ∈ az_gw := az_t 223 (by decide +kernel) (by decide +kernel)
theorem mFRX4_52 : Cond.fieldLink RX4 52 "UnitCommitment$Outcome" "byCost" "[I" ∈ az_gw := az_t 254 (by decide +kernel) (by decide +kernel)
theorem iIRX4_9 : az_isI 6 9 = false := by decide +kernel
theorem mNRX4_84 : Cond.methodLinkNest RX4 84 yX3_sort "UnitCommitment" ∈ az_nest := az_n 497 (by decide +kernel) rfl
theorem mNRX4_81 : Cond.methodLinkNest RX4 81 yX0_schedule "UnitCommitment" ∈ az_nest := az_n 496 (by decide +kernel) rfl
theorem mFRX4_37 : Cond.fieldLink RX4 37 "UnitCommitment$Outcome" "low" "[[I" ∈ az_gw := az_t 239 (by decide +kernel) (by decide +kernel)
theorem iIRX4_4 : az_isI 6 4 = false := by decide +kernel
theorem mFRX4_40 : Cond.fieldLink RX4 40 "UnitCommitment$Outcome" "high" "[[I" ∈ az_gw := az_t 241 (by decide +kernel) (by decide +kernel)
theorem iIRX4_5 : az_isI 6 5 = false := by decide +kernel
theorem mLRX4_125 : Cond.methodLink RX4 125 Lib.Math.min.name ∈ az_gw := az_t 518 (by decide +kernel) (by decide +kernel)
theorem mLRX4_119 : Cond.methodLink RX4 119 Lib.Math.max.name ∈ az_gw := az_t 517 (by decide +kernel) (by decide +kernel)
theorem mFRX4_113 : Cond.fieldLink RX4 113 "UnitCommitment$State" "unit" "[[I" ∈ az_gw := az_t 81 (by decide +kernel) (by decide +kernel)
theorem mFRX4_34 : Cond.fieldLink RX4 34 "UnitCommitment$Outcome" "output" "[[I" ∈ az_gw := az_t 237 (by decide +kernel) (by decide +kernel)
theorem iIRX4_3 : az_isI 6 3 = false := by decide +kernel
theorem mFRX4_43 : Cond.fieldLink RX4 43 "UnitCommitment$Outcome" "spilled" "[[I" ∈ az_gw := az_t 243 (by decide +kernel) (by decide +kernel)
theorem iIRX4_6 : az_isI 6 6 = false := by decide +kernel
theorem mFRX4_46 : Cond.fieldLink RX4 46 "UnitCommitment$Outcome" "startCost" "[[I" ∈ az_gw := az_t 246 (by decide +kernel) (by decide +kernel)
theorem iIRX4_7 : az_isI 6 7 = false := by decide +kernel
theorem mFRX4_21 : Cond.fieldLink RX4 21 "UnitCommitment$Outcome" "times" "LUnitCommitment$Times;" ∈ az_gw := az_t 228 (by decide +kernel) (by decide +kernel)
theorem mFRX4_128 : Cond.fieldLink RX4 128 "UnitCommitment$Times" "rest" "[[I" ∈ az_gw := az_t 189 (by decide +kernel) (by decide +kernel)
theorem mNRX4_116 : Cond.methodLinkNest RX4 116 yX9_ranBefore "UnitCommitment" ∈ az_nest := az_n 516 (by decide +kernel) rfl
theorem mNRX4_102 : Cond.methodLinkNest RX4 102 yX9_runs "UnitCommitment" ∈ az_nest := az_n 515 (by decide +kernel) rfl
theorem mFRX4_49 : Cond.fieldLink RX4 49 "UnitCommitment$Outcome" "sums" "[[I" ∈ az_gw := az_t 249 (by decide +kernel) (by decide +kernel)
theorem iIRX4_8 : az_isI 6 8 = false := by decide +kernel
theorem mFRX4_134 : Cond.fieldLink RX4 134 "UnitCommitment$State" "buses" "I" ∈ az_gw := az_t 59 (by decide +kernel) (by decide +kernel)
theorem mFRX4_140 : Cond.fieldLink RX4 140 "UnitCommitment$State" "reserve" "[I" ∈ az_gw := az_t 96 (by decide +kernel) (by decide +kernel)
theorem mFRX4_90 : Cond.fieldLink RX4 90 "UnitCommitment$Times" "running" "[I" ∈ az_gw := az_t 185 (by decide +kernel) (by decide +kernel)
theorem mNRX4_143 : Cond.methodLinkNest RX4 143 yX8_demandIn "UnitCommitment" ∈ az_nest := az_n 544 (by decide +kernel) rfl
theorem mFRX4_28 : Cond.fieldLink RX4 28 "UnitCommitment$Outcome" "grid" "LUnitCommitment$Grid;" ∈ az_gw := az_t 234 (by decide +kernel) (by decide +kernel)
theorem iIRX4_2 : az_isI 6 2 = false := by decide +kernel
theorem mFRX4_137 : Cond.fieldLink RX4 137 "UnitCommitment$Grid" "unmet" "[[I" ∈ az_gw := az_t 207 (by decide +kernel) (by decide +kernel)
theorem mFRX4_96 : Cond.fieldLink RX4 96 "UnitCommitment$State" "units" "I" ∈ az_gw := az_t 71 (by decide +kernel) (by decide +kernel)
theorem knX4_addUnitUp : az_kn yX4_addUnitUp cX4_addUnitUp 5 none 3 := ⟨az_t 543 (by decide +kernel) (by decide +kernel), az_t 4 (by decide +kernel) (by decide +kernel), by decide +kernel, by decide +kernel, by decide +kernel⟩
theorem imX4_addUnitUp : Cond.instanceMethod yX4_addUnitUp ∈ az_gw := az_t 542 (by decide +kernel) (by decide +kernel)
theorem seX4_addUnitUp : Cond.selects RX4 yX4_addUnitUp yX4_addUnitUp ∈ az_gw := az_s 27 (by decide +kernel) (by decide +kernel)
theorem mLRX4_131 : Cond.methodLink RX4 131 yX4_addUnitUp ∈ az_gw := az_t 540 (by decide +kernel) (by decide +kernel)
theorem knX4_addUp : az_kn yX4_addUp cX4_addUp 4 none 2 := ⟨az_t 539 (by decide +kernel) (by decide +kernel), az_t 4 (by decide +kernel) (by decide +kernel), by decide +kernel, by decide +kernel, by decide +kernel⟩
theorem imX4_addUp : Cond.instanceMethod yX4_addUp ∈ az_gw := az_t 538 (by decide +kernel) (by decide +kernel)
theorem seX4_addUp : Cond.selects RX4 yX4_addUp yX4_addUp ∈ az_gw := az_s 26 (by decide +kernel) (by decide +kernel)
theorem mLRX4_110 : Cond.methodLink RX4 110 yX4_addUp ∈ az_gw := az_t 536 (by decide +kernel) (by decide +kernel)
theorem knX1_deliver : az_kn yX1_deliver cX1_deliver 8 (some .int) 4 := ⟨az_t 522 (by decide +kernel) (by decide +kernel), az_t 7 (by decide +kernel) (by decide +kernel), by decide +kernel, by decide +kernel, by decide +kernel⟩
theorem imX1_deliver : Cond.instanceMethod yX1_deliver ∈ az_gw := az_t 521 (by decide +kernel) (by decide +kernel)
theorem seX1_deliver : Cond.selects RX1 yX1_deliver yX1_deliver ∈ az_gw := az_s 22 (by decide +kernel) (by decide +kernel)
theorem mNRX4_106 : Cond.methodLinkNest RX4 106 yX1_deliver "UnitCommitment" ∈ az_nest := az_n 519 (by decide +kernel) rfl
theorem knX4_setLimits : az_kn yX4_setLimits cX4_setLimits 6 none 3 := ⟨az_t 514 (by decide +kernel) (by decide +kernel), az_t 4 (by decide +kernel) (by decide +kernel), by decide +kernel, by decide +kernel, by decide +kernel⟩
theorem imX4_setLimits : Cond.instanceMethod yX4_setLimits ∈ az_gw := az_t 513 (by decide +kernel) (by decide +kernel)
theorem seX4_setLimits : Cond.selects RX4 yX4_setLimits yX4_setLimits ∈ az_gw := az_s 21 (by decide +kernel) (by decide +kernel)
theorem mLRX4_99 : Cond.methodLink RX4 99 yX4_setLimits ∈ az_gw := az_t 511 (by decide +kernel) (by decide +kernel)
theorem knX1_open : az_kn yX1_open cX1_open 4 none 2 := ⟨az_t 510 (by decide +kernel) (by decide +kernel), az_t 7 (by decide +kernel) (by decide +kernel), by decide +kernel, by decide +kernel, by decide +kernel⟩
theorem imX1_open : Cond.instanceMethod yX1_open ∈ az_gw := az_t 509 (by decide +kernel) (by decide +kernel)
theorem seX1_open : Cond.selects RX1 yX1_open yX1_open ∈ az_gw := az_s 20 (by decide +kernel) (by decide +kernel)
theorem mNRX4_93 : Cond.methodLinkNest RX4 93 yX1_open "UnitCommitment" ∈ az_nest := az_n 507 (by decide +kernel) rfl
theorem mFRX4_60 : Cond.fieldLink RX4 60 "UnitCommitment$State" "hours" "I" ∈ az_gw := az_t 49 (by decide +kernel) (by decide +kernel)
theorem mFRX4_74 : Cond.fieldLink RX4 74 "UnitCommitment$Crew" "away" "[I" ∈ az_gw := az_t 165 (by decide +kernel) (by decide +kernel)
theorem knX4_dispatch : az_kn yX4_dispatch cX4_dispatch 7 none 3 := ⟨az_t 506 (by decide +kernel) (by decide +kernel), az_t 4 (by decide +kernel) (by decide +kernel), by decide +kernel, by decide +kernel, by decide +kernel⟩
theorem imX4_dispatch : Cond.instanceMethod yX4_dispatch ∈ az_gw := az_t 505 (by decide +kernel) (by decide +kernel)
theorem seX4_dispatch : Cond.selects RX4 yX4_dispatch yX4_dispatch ∈ az_gw := az_s 19 (by decide +kernel) (by decide +kernel)
theorem mLRX4_77 : Cond.methodLink RX4 77 yX4_dispatch ∈ az_gw := az_t 503 (by decide +kernel) (by decide +kernel)
theorem knX8_plannedIn : az_kn yX8_plannedIn cX8_plannedIn 4 (some .int) 1 := ⟨az_t 502 (by decide +kernel) (by decide +kernel), az_t 2 (by decide +kernel) (by decide +kernel), by decide +kernel, by decide +kernel, by decide +kernel⟩
theorem imX8_plannedIn : Cond.instanceMethod yX8_plannedIn ∈ az_gw := az_t 501 (by decide +kernel) (by decide +kernel)
theorem seX8_plannedIn : Cond.selects RX8 yX8_plannedIn yX8_plannedIn ∈ az_gw := az_s 18 (by decide +kernel) (by decide +kernel)
theorem mNRX4_70 : Cond.methodLinkNest RX4 70 yX8_plannedIn "UnitCommitment" ∈ az_nest := az_n 499 (by decide +kernel) rfl
theorem mNRX4_66 : Cond.methodLinkNest RX4 66 yX9_advance "UnitCommitment" ∈ az_nest := az_n 498 (by decide +kernel) rfl
theorem knX4_prepare : az_kn yX4_prepare cX4_prepare 2 none 1 := ⟨az_t 495 (by decide +kernel) (by decide +kernel), az_t 4 (by decide +kernel) (by decide +kernel), by decide +kernel, by decide +kernel, by decide +kernel⟩
theorem imX4_prepare : Cond.instanceMethod yX4_prepare ∈ az_gw := az_t 494 (by decide +kernel) (by decide +kernel)
theorem seX4_prepare : Cond.selects RX4 yX4_prepare yX4_prepare ∈ az_gw := az_s 17 (by decide +kernel) (by decide +kernel)
theorem mLRX4_56 : Cond.methodLink RX4 56 yX4_prepare ∈ az_gw := az_t 492 (by decide +kernel) (by decide +kernel)
theorem mFRX5_15 : Cond.fieldLink RX5 15 "UnitCommitment$PlanText" "length" "I" ∈ az_gw := az_t 350 (by decide +kernel) (by decide +kernel)
theorem iIRX5_1 : az_isI 7 1 = true := by decide +kernel
theorem gwRX5 : ∀ w ∈ u_ws RX5 TX5 3, w ∈ az_gw := az_cls [354, 356, 358] (by decide +kernel) (by decide +kernel)
theorem mFRX5_9 : Cond.fieldLink RX5 9 "UnitCommitment$PlanText" "buffer" "[C" ∈ az_gw := az_t 349 (by decide +kernel) (by decide +kernel)
theorem iIRX5_0 : az_isI 7 0 = false := by decide +kernel
theorem mFRX5_19 : Cond.fieldLink RX5 19 "UnitCommitment$PlanText" "errorAt" "I" ∈ az_gw := az_t 352 (by decide +kernel) (by decide +kernel)
theorem iIRX5_2 : az_isI 7 2 = true := by decide +kernel
theorem knX5_fits : az_kn yX5_fits cX5_fits 3 (some .boolean) 3 := ⟨az_t 917 (by decide +kernel) (by decide +kernel), az_t 11 (by decide +kernel) (by decide +kernel), by decide +kernel, by decide +kernel, by decide +kernel⟩
theorem stX5_fits : Cond.static yX5_fits ∈ az_gw := az_t 916 (by decide +kernel) (by decide +kernel)
theorem mLRX5_22 : Cond.methodLink RX5 22 yX5_fits ∈ az_gw := az_t 915 (by decide +kernel) (by decide +kernel)
theorem mLRX5_26 : Cond.methodLink RX5 26 Lib.Math.max.name ∈ az_gw := az_t 922 (by decide +kernel) (by decide +kernel)
theorem mFRX5_32 : Cond.fieldLink RX5 32 "UnitCommitment$State" "hours" "I" ∈ az_gw := az_t 54 (by decide +kernel) (by decide +kernel)
theorem mFRX5_37 : Cond.fieldLink RX5 37 "UnitCommitment$State" "unit" "[[I" ∈ az_gw := az_t 84 (by decide +kernel) (by decide +kernel)
theorem mFRX6_48 : Cond.fieldLink RX6 48 "UnitCommitment$State" "units" "I" ∈ az_gw := az_t 69 (by decide +kernel) (by decide +kernel)
theorem mFRX6_21 : Cond.fieldLink RX6 21 "UnitCommitment$Outcome" "grid" "LUnitCommitment$Grid;" ∈ az_gw := az_t 235 (by decide +kernel) (by decide +kernel)
theorem mFRX6_51 : Cond.fieldLink RX6 51 "UnitCommitment$Grid" "got" "[[I" ∈ az_gw := az_t 213 (by decide +kernel) (by decide +kernel)
theorem mFRX6_61 : Cond.fieldLink RX6 61 "UnitCommitment$State" "parent" "[I" ∈ az_gw := az_t 98 (by decide +kernel) (by decide +kernel)
theorem mFRX6_9 : Cond.fieldLink RX6 9 "UnitCommitment$State" "buses" "I" ∈ az_gw := az_t 57 (by decide +kernel) (by decide +kernel)
theorem knX6_isFar : az_kn yX6_isFar cX6_isFar 5 (some .boolean) 3 := ⟨az_t 575 (by decide +kernel) (by decide +kernel), az_t 27 (by decide +kernel) (by decide +kernel), by decide +kernel, by decide +kernel, by decide +kernel⟩
theorem stX6_isFar : Cond.static yX6_isFar ∈ az_gw := az_t 574 (by decide +kernel) (by decide +kernel)
theorem mLRX6_57 : Cond.methodLink RX6 57 yX6_isFar ∈ az_gw := az_t 573 (by decide +kernel) (by decide +kernel)
theorem mFRX6_54 : Cond.fieldLink RX6 54 "UnitCommitment$State" "unit" "[[I" ∈ az_gw := az_t 79 (by decide +kernel) (by decide +kernel)
theorem mFRX6_68 : Cond.fieldLink RX6 68 "UnitCommitment$Outcome" "startCost" "[[I" ∈ az_gw := az_t 247 (by decide +kernel) (by decide +kernel)
theorem mFRX6_71 : Cond.fieldLink RX6 71 "UnitCommitment$Outcome" "times" "LUnitCommitment$Times;" ∈ az_gw := az_t 232 (by decide +kernel) (by decide +kernel)
theorem mNRX6_75 : Cond.methodLinkNest RX6 75 yX9_runs "UnitCommitment" ∈ az_nest := az_n 579 (by decide +kernel) rfl
theorem mFRX6_65 : Cond.fieldLink RX6 65 "UnitCommitment$Outcome" "spilled" "[[I" ∈ az_gw := az_t 244 (by decide +kernel) (by decide +kernel)
theorem mFRX6_45 : Cond.fieldLink RX6 45 "UnitCommitment$Outcome" "sums" "[[I" ∈ az_gw := az_t 251 (by decide +kernel) (by decide +kernel)
theorem knX6_cost : az_kn yX6_cost cX6_cost 7 (some .int) 3 := ⟨az_t 578 (by decide +kernel) (by decide +kernel), az_t 27 (by decide +kernel) (by decide +kernel), by decide +kernel, by decide +kernel, by decide +kernel⟩
theorem stX6_cost : Cond.static yX6_cost ∈ az_gw := az_t 577 (by decide +kernel) (by decide +kernel)
theorem mLRX6_41 : Cond.methodLink RX6 41 yX6_cost ∈ az_gw := az_t 576 (by decide +kernel) (by decide +kernel)
theorem mFRX6_27 : Cond.fieldLink RX6 27 "UnitCommitment$Grid" "unmet" "[[I" ∈ az_gw := az_t 206 (by decide +kernel) (by decide +kernel)
theorem mFRX6_33 : Cond.fieldLink RX6 33 "UnitCommitment$State" "demand" "[[I" ∈ az_gw := az_t 90 (by decide +kernel) (by decide +kernel)
theorem mFRX6_39 : Cond.fieldLink RX6 39 "UnitCommitment$Grid" "flow" "[[I" ∈ az_gw := az_t 210 (by decide +kernel) (by decide +kernel)
theorem knX6_flow : az_kn yX6_flow cX6_flow 10 (some .int) 4 := ⟨az_t 572 (by decide +kernel) (by decide +kernel), az_t 27 (by decide +kernel) (by decide +kernel), by decide +kernel, by decide +kernel, by decide +kernel⟩
theorem stX6_flow : Cond.static yX6_flow ∈ az_gw := az_t 571 (by decide +kernel) (by decide +kernel)
theorem mLRX6_36 : Cond.methodLink RX6 36 yX6_flow ∈ az_gw := az_t 570 (by decide +kernel) (by decide +kernel)
theorem knX6_met : az_kn yX6_met cX6_met 6 (some .int) 4 := ⟨az_t 569 (by decide +kernel) (by decide +kernel), az_t 27 (by decide +kernel) (by decide +kernel), by decide +kernel, by decide +kernel, by decide +kernel⟩
theorem stX6_met : Cond.static yX6_met ∈ az_gw := az_t 568 (by decide +kernel) (by decide +kernel)
theorem mLRX6_15 : Cond.methodLink RX6 15 yX6_met ∈ az_gw := az_t 567 (by decide +kernel) (by decide +kernel)
theorem mFRX7_9 : Cond.fieldLink RX7 9 "UnitCommitment$Search" "choice" "[I" ∈ az_gw := az_t 322 (by decide +kernel) (by decide +kernel)
theorem iIRX7_0 : az_isI 8 0 = false := by decide +kernel
theorem gwRX7 : ∀ w ∈ u_ws RX7 TX7 6, w ∈ az_gw := az_cls [330, 332, 334, 336, 338, 340] (by decide +kernel) (by decide +kernel)
theorem mLRX9_49 : Cond.methodLink RX9 49 yX9_mustStay ∈ az_gw := az_t 559 (by decide +kernel) (by decide +kernel)
theorem mLRX9_45 : Cond.methodLink RX9 45 yX9_mustRest ∈ az_gw := az_t 558 (by decide +kernel) (by decide +kernel)
theorem mFRX7_28 : Cond.fieldLink RX7 28 "UnitCommitment$Search" "found" "Z" ∈ az_gw := az_t 328 (by decide +kernel) (by decide +kernel)
theorem iIRX7_5 : az_isI 8 5 = true := by decide +kernel
theorem mFRX7_15 : Cond.fieldLink RX7 15 "UnitCommitment$Search" "sum" "[I" ∈ az_gw := az_t 323 (by decide +kernel) (by decide +kernel)
theorem iIRX7_1 : az_isI 8 1 = false := by decide +kernel
theorem mFRX7_25 : Cond.fieldLink RX7 25 "UnitCommitment$Search" "bestSum" "I" ∈ az_gw := az_t 326 (by decide +kernel) (by decide +kernel)
theorem iIRX7_4 : az_isI 8 4 = true := by decide +kernel
theorem mFRX7_32 : Cond.fieldLink RX7 32 "UnitCommitment$State" "units" "I" ∈ az_gw := az_t 64 (by decide +kernel) (by decide +kernel)
theorem mFRX7_85 : Cond.fieldLink RX7 85 "UnitCommitment$Outcome" "sums" "[[I" ∈ az_gw := az_t 252 (by decide +kernel) (by decide +kernel)
theorem mNRX7_81 : Cond.methodLinkNest RX7 81 yX4_dispatch "UnitCommitment" ∈ az_nest := az_n 879 (by decide +kernel) rfl
theorem mFRX7_43 : Cond.fieldLink RX7 43 "UnitCommitment$Outcome" "times" "LUnitCommitment$Times;" ∈ az_gw := az_t 229 (by decide +kernel) (by decide +kernel)
theorem mFRX7_68 : Cond.fieldLink RX7 68 "UnitCommitment$Outcome" "crew" "LUnitCommitment$Crew;" ∈ az_gw := az_t 226 (by decide +kernel) (by decide +kernel)
theorem mFRX7_72 : Cond.fieldLink RX7 72 "UnitCommitment$Crew" "away" "[I" ∈ az_gw := az_t 168 (by decide +kernel) (by decide +kernel)
theorem knX9_breach : az_kn yX9_breach cX9_breach 7 (some .int) 5 := ⟨az_t 557 (by decide +kernel) (by decide +kernel), az_t 6 (by decide +kernel) (by decide +kernel), by decide +kernel, by decide +kernel, by decide +kernel⟩
theorem imX9_breach : Cond.instanceMethod yX9_breach ∈ az_gw := az_t 556 (by decide +kernel) (by decide +kernel)
theorem seX9_breach : Cond.selects RX9 yX9_breach yX9_breach ∈ az_gw := az_s 30 (by decide +kernel) (by decide +kernel)
theorem mNRX7_77 : Cond.methodLinkNest RX7 77 yX9_breach "UnitCommitment" ∈ az_nest := az_n 878 (by decide +kernel) rfl
theorem mFRX7_62 : Cond.fieldLink RX7 62 "UnitCommitment$State" "hours" "I" ∈ az_gw := az_t 52 (by decide +kernel) (by decide +kernel)
theorem mFRX7_21 : Cond.fieldLink RX7 21 "UnitCommitment$Search" "bestNumber" "I" ∈ az_gw := az_t 325 (by decide +kernel) (by decide +kernel)
theorem iIRX7_3 : az_isI 8 3 = true := by decide +kernel
theorem mFRX7_18 : Cond.fieldLink RX7 18 "UnitCommitment$Search" "best" "[I" ∈ az_gw := az_t 324 (by decide +kernel) (by decide +kernel)
theorem iIRX7_2 : az_isI 8 2 = false := by decide +kernel
theorem mLRX7_93 : Cond.methodLink RX7 93 arraycopyName ∈ az_gw := az_t 888 (by decide +kernel) (by decide +kernel)
theorem knX7_number : az_kn yX7_number cX7_number 5 (some .int) 1 := ⟨az_t 887 (by decide +kernel) (by decide +kernel), az_t 10 (by decide +kernel) (by decide +kernel), by decide +kernel, by decide +kernel, by decide +kernel⟩
theorem imX7_number : Cond.instanceMethod yX7_number ∈ az_gw := az_t 886 (by decide +kernel) (by decide +kernel)
theorem seX7_number : Cond.selects RX7 yX7_number yX7_number ∈ az_gw := az_s 44 (by decide +kernel) (by decide +kernel)
theorem mLRX7_89 : Cond.methodLink RX7 89 yX7_number ∈ az_gw := az_t 884 (by decide +kernel) (by decide +kernel)
theorem knX7_leaveChoice : az_kn yX7_leaveChoice cX7_leaveChoice 2 none 1 := ⟨az_t 873 (by decide +kernel) (by decide +kernel), az_t 10 (by decide +kernel) (by decide +kernel), by decide +kernel, by decide +kernel, by decide +kernel⟩
theorem imX7_leaveChoice : Cond.instanceMethod yX7_leaveChoice ∈ az_gw := az_t 872 (by decide +kernel) (by decide +kernel)
theorem seX7_leaveChoice : Cond.selects RX7 yX7_leaveChoice yX7_leaveChoice ∈ az_gw := az_s 41 (by decide +kernel) (by decide +kernel)
theorem mLRX7_54 : Cond.methodLink RX7 54 yX7_leaveChoice ∈ az_gw := az_t 870 (by decide +kernel) (by decide +kernel)
theorem knX7_compare : az_kn yX7_compare cX7_compare 4 none 1 := ⟨az_t 883 (by decide +kernel) (by decide +kernel), az_t 10 (by decide +kernel) (by decide +kernel), by decide +kernel, by decide +kernel, by decide +kernel⟩
theorem imX7_compare : Cond.instanceMethod yX7_compare ∈ az_gw := az_t 882 (by decide +kernel) (by decide +kernel)
theorem seX7_compare : Cond.selects RX7 yX7_compare yX7_compare ∈ az_gw := az_s 43 (by decide +kernel) (by decide +kernel)
theorem mLRX7_65 : Cond.methodLink RX7 65 yX7_compare ∈ az_gw := az_t 880 (by decide +kernel) (by decide +kernel)
theorem mNRX7_47 : Cond.methodLinkNest RX7 47 yX9_advance "UnitCommitment" ∈ az_nest := az_n 868 (by decide +kernel) rfl
theorem knX7_isWorthwhile : az_kn yX7_isWorthwhile cX7_isWorthwhile 5 (some .boolean) 3 := ⟨az_t 877 (by decide +kernel) (by decide +kernel), az_t 10 (by decide +kernel) (by decide +kernel), by decide +kernel, by decide +kernel, by decide +kernel⟩
theorem imX7_isWorthwhile : Cond.instanceMethod yX7_isWorthwhile ∈ az_gw := az_t 876 (by decide +kernel) (by decide +kernel)
theorem seX7_isWorthwhile : Cond.selects RX7 yX7_isWorthwhile yX7_isWorthwhile ∈ az_gw := az_s 42 (by decide +kernel) (by decide +kernel)
theorem mLRX7_58 : Cond.methodLink RX7 58 yX7_isWorthwhile ∈ az_gw := az_t 874 (by decide +kernel) (by decide +kernel)
theorem cvRX7_53 : Cond.constant RX7 53 (1000000) ∈ az_gw := az_t 869 (by decide +kernel) (by decide +kernel)
theorem mNRX7_37 : Cond.methodLinkNest RX7 37 yX4_prepare "UnitCommitment" ∈ az_nest := az_n 867 (by decide +kernel) rfl
theorem mFRX7_99 : Cond.fieldLink RX7 99 "UnitCommitment$State" "unit" "[[I" ∈ az_gw := az_t 83 (by decide +kernel) (by decide +kernel)
theorem mFRX10_24 : Cond.fieldLink RX10 24 "UnitCommitment$Violations" "count" "I" ∈ az_gw := az_t 290 (by decide +kernel) (by decide +kernel)
theorem iIRX10_4 : az_isI 11 4 = true := by decide +kernel
theorem gwRX10 : ∀ w ∈ u_ws RX10 TX10 5, w ∈ az_gw := az_cls [292, 294, 296, 298, 300] (by decide +kernel) (by decide +kernel)
theorem mFRX10_11 : Cond.fieldLink RX10 11 "UnitCommitment$Violations" "hour" "[I" ∈ az_gw := az_t 282 (by decide +kernel) (by decide +kernel)
theorem iIRX10_0 : az_isI 11 0 = false := by decide +kernel
theorem mFRX10_15 : Cond.fieldLink RX10 15 "UnitCommitment$Violations" "kind" "[I" ∈ az_gw := az_t 284 (by decide +kernel) (by decide +kernel)
theorem iIRX10_1 : az_isI 11 1 = false := by decide +kernel
theorem mFRX10_18 : Cond.fieldLink RX10 18 "UnitCommitment$Violations" "unit" "[I" ∈ az_gw := az_t 286 (by decide +kernel) (by decide +kernel)
theorem iIRX10_2 : az_isI 11 2 = false := by decide +kernel
theorem mFRX10_21 : Cond.fieldLink RX10 21 "UnitCommitment$Violations" "ofKind" "[I" ∈ az_gw := az_t 288 (by decide +kernel) (by decide +kernel)
theorem iIRX10_3 : az_isI 11 3 = false := by decide +kernel
theorem knX10_note : az_kn yX10_note cX10_note 5 none 4 := ⟨az_t 563 (by decide +kernel) (by decide +kernel), az_t 8 (by decide +kernel) (by decide +kernel), by decide +kernel, by decide +kernel, by decide +kernel⟩
theorem imX10_note : Cond.instanceMethod yX10_note ∈ az_gw := az_t 562 (by decide +kernel) (by decide +kernel)
theorem seX10_note : Cond.selects RX10 yX10_note yX10_note ∈ az_gw := az_s 31 (by decide +kernel) (by decide +kernel)
theorem mLRX10_43 : Cond.methodLink RX10 43 yX10_note ∈ az_gw := az_t 560 (by decide +kernel) (by decide +kernel)
theorem mFRX10_63 : Cond.fieldLink RX10 63 "UnitCommitment$State" "units" "I" ∈ az_gw := az_t 70 (by decide +kernel) (by decide +kernel)
theorem mFRX10_66 : Cond.fieldLink RX10 66 "UnitCommitment$Outcome" "times" "LUnitCommitment$Times;" ∈ az_gw := az_t 231 (by decide +kernel) (by decide +kernel)
theorem mNRX10_70 : Cond.methodLinkNest RX10 70 yX9_breach "UnitCommitment" ∈ az_nest := az_n 554 (by decide +kernel) rfl
theorem mFRX10_54 : Cond.fieldLink RX10 54 "UnitCommitment$Outcome" "crew" "LUnitCommitment$Crew;" ∈ az_gw := az_t 225 (by decide +kernel) (by decide +kernel)
theorem mFRX10_58 : Cond.fieldLink RX10 58 "UnitCommitment$Crew" "away" "[I" ∈ az_gw := az_t 166 (by decide +kernel) (by decide +kernel)
theorem mNRX10_50 : Cond.methodLinkNest RX10 50 yX8_plannedIn "UnitCommitment" ∈ az_nest := az_n 553 (by decide +kernel) rfl
theorem mFRX10_37 : Cond.fieldLink RX10 37 "UnitCommitment$Outcome" "sums" "[[I" ∈ az_gw := az_t 250 (by decide +kernel) (by decide +kernel)
theorem mFRX10_47 : Cond.fieldLink RX10 47 "UnitCommitment$State" "reserve" "[I" ∈ az_gw := az_t 93 (by decide +kernel) (by decide +kernel)
theorem mFRX10_28 : Cond.fieldLink RX10 28 "UnitCommitment$State" "hours" "I" ∈ az_gw := az_t 50 (by decide +kernel) (by decide +kernel)
theorem knX10_listUnits : az_kn yX10_listUnits cX10_listUnits 8 none 3 := ⟨az_t 552 (by decide +kernel) (by decide +kernel), az_t 8 (by decide +kernel) (by decide +kernel), by decide +kernel, by decide +kernel, by decide +kernel⟩
theorem imX10_listUnits : Cond.instanceMethod yX10_listUnits ∈ az_gw := az_t 551 (by decide +kernel) (by decide +kernel)
theorem seX10_listUnits : Cond.selects RX10 yX10_listUnits yX10_listUnits ∈ az_gw := az_s 29 (by decide +kernel) (by decide +kernel)
theorem mLRX10_33 : Cond.methodLink RX10 33 yX10_listUnits ∈ az_gw := az_t 549 (by decide +kernel) (by decide +kernel)
theorem mFRX11_22 : Cond.fieldLink RX11 22 "UnitCommitment" "history" "LUnitCommitment$History;" ∈ az_gw := az_t 364 (by decide +kernel) (by decide +kernel)
theorem iIRX11_2 : az_isI 12 2 = false := by decide +kernel
theorem gwRX11 : ∀ w ∈ u_ws RX11 TX11 10, w ∈ az_gw := az_cls [372, 374, 376, 378, 380, 382, 384, 386, 388, 390] (by decide +kernel) (by decide +kernel)
theorem mFRX11_10 : Cond.fieldLink RX11 10 "UnitCommitment" "state" "LUnitCommitment$State;" ∈ az_gw := az_t 362 (by decide +kernel) (by decide +kernel)
theorem iIRX11_0 : az_isI 12 0 = false := by decide +kernel
theorem mFRX11_65 : Cond.fieldLink RX11 65 "UnitCommitment" "stale" "Z" ∈ az_gw := az_t 371 (by decide +kernel) (by decide +kernel)
theorem iIRX11_9 : az_isI 12 9 = true := by decide +kernel
theorem knX2_keep : az_kn yX2_keep cX2_keep 2 none 1 := ⟨az_t 404 (by decide +kernel) (by decide +kernel), az_t 3 (by decide +kernel) (by decide +kernel), by decide +kernel, by decide +kernel, by decide +kernel⟩
theorem imX2_keep : Cond.instanceMethod yX2_keep ∈ az_gw := az_t 403 (by decide +kernel) (by decide +kernel)
theorem seX2_keep : Cond.selects RX2 yX2_keep yX2_keep ∈ az_gw := az_s 2 (by decide +kernel) (by decide +kernel)
theorem mNRX11_306 : Cond.methodLinkNest RX11 306 yX2_keep "UnitCommitment" ∈ az_nest := az_n 401 (by decide +kernel) rfl
theorem mFRX11_43 : Cond.fieldLink RX11 43 "UnitCommitment" "merit" "LUnitCommitment$Merit;" ∈ az_gw := az_t 367 (by decide +kernel) (by decide +kernel)
theorem iIRX11_5 : az_isI 12 5 = false := by decide +kernel
theorem mFRX11_29 : Cond.fieldLink RX11 29 "UnitCommitment" "outcome" "LUnitCommitment$Outcome;" ∈ az_gw := az_t 365 (by decide +kernel) (by decide +kernel)
theorem iIRX11_3 : az_isI 12 3 = false := by decide +kernel
theorem knX3_makePlan : az_kn yX3_makePlan cX3_makePlan 5 (some .int) 2 := ⟨az_t 418 (by decide +kernel) (by decide +kernel), az_t 9 (by decide +kernel) (by decide +kernel), by decide +kernel, by decide +kernel, by decide +kernel⟩
theorem imX3_makePlan : Cond.instanceMethod yX3_makePlan ∈ az_gw := az_t 417 (by decide +kernel) (by decide +kernel)
theorem seX3_makePlan : Cond.selects RX3 yX3_makePlan yX3_makePlan ∈ az_gw := az_s 4 (by decide +kernel) (by decide +kernel)
theorem mNRX11_187 : Cond.methodLinkNest RX11 187 yX3_makePlan "UnitCommitment" ∈ az_nest := az_n 415 (by decide +kernel) rfl
theorem knX11_beginChange : az_kn yX11_beginChange cX11_beginChange 1 none 0 := ⟨az_t 400 (by decide +kernel) (by decide +kernel), az_t 1 (by decide +kernel) (by decide +kernel), by decide +kernel, by decide +kernel, by decide +kernel⟩
theorem imX11_beginChange : Cond.instanceMethod yX11_beginChange ∈ az_gw := az_t 399 (by decide +kernel) (by decide +kernel)
theorem seX11_beginChange : Cond.selects RX11 yX11_beginChange yX11_beginChange ∈ az_gw := az_s 1 (by decide +kernel) (by decide +kernel)
theorem mLRX11_96 : Cond.methodLink RX11 96 yX11_beginChange ∈ az_gw := az_t 397 (by decide +kernel) (by decide +kernel)
theorem mFRX11_36 : Cond.fieldLink RX11 36 "UnitCommitment" "violations" "LUnitCommitment$Violations;" ∈ az_gw := az_t 366 (by decide +kernel) (by decide +kernel)
theorem iIRX11_4 : az_isI 12 4 = false := by decide +kernel
theorem knX10_list : az_kn yX10_list cX10_list 4 none 2 := ⟨az_t 548 (by decide +kernel) (by decide +kernel), az_t 8 (by decide +kernel) (by decide +kernel), by decide +kernel, by decide +kernel, by decide +kernel⟩
theorem imX10_list : Cond.instanceMethod yX10_list ∈ az_gw := az_t 547 (by decide +kernel) (by decide +kernel)
theorem seX10_list : Cond.selects RX10 yX10_list yX10_list ∈ az_gw := az_s 28 (by decide +kernel) (by decide +kernel)
theorem mNRX11_312 : Cond.methodLinkNest RX11 312 yX10_list "UnitCommitment" ∈ az_nest := az_n 545 (by decide +kernel) rfl
theorem knX4_find : az_kn yX4_find cX4_find 3 none 1 := ⟨az_t 491 (by decide +kernel) (by decide +kernel), az_t 4 (by decide +kernel) (by decide +kernel), by decide +kernel, by decide +kernel, by decide +kernel⟩
theorem imX4_find : Cond.instanceMethod yX4_find ∈ az_gw := az_t 490 (by decide +kernel) (by decide +kernel)
theorem seX4_find : Cond.selects RX4 yX4_find yX4_find ∈ az_gw := az_s 16 (by decide +kernel) (by decide +kernel)
theorem mNRX11_309 : Cond.methodLinkNest RX11 309 yX4_find "UnitCommitment" ∈ az_nest := az_n 488 (by decide +kernel) rfl
theorem mFRX11_143 : Cond.fieldLink RX11 143 "UnitCommitment$State" "hours" "I" ∈ az_gw := az_t 55 (by decide +kernel) (by decide +kernel)
theorem knX6_agrees : az_kn yX6_agrees cX6_agrees 4 (some .boolean) 3 := ⟨az_t 566 (by decide +kernel) (by decide +kernel), az_t 27 (by decide +kernel) (by decide +kernel), by decide +kernel, by decide +kernel, by decide +kernel⟩
theorem stX6_agrees : Cond.static yX6_agrees ∈ az_gw := az_t 565 (by decide +kernel) (by decide +kernel)
theorem mNRX11_290 : Cond.methodLinkNest RX11 290 yX6_agrees "UnitCommitment" ∈ az_nest := az_n 564 (by decide +kernel) rfl
theorem knX11_refresh : az_kn yX11_refresh cX11_refresh 1 none 0 := ⟨az_t 487 (by decide +kernel) (by decide +kernel), az_t 1 (by decide +kernel) (by decide +kernel), by decide +kernel, by decide +kernel, by decide +kernel⟩
theorem imX11_refresh : Cond.instanceMethod yX11_refresh ∈ az_gw := az_t 486 (by decide +kernel) (by decide +kernel)
theorem seX11_refresh : Cond.selects RX11 yX11_refresh yX11_refresh ∈ az_gw := az_s 15 (by decide +kernel) (by decide +kernel)
theorem mLRX11_136 : Cond.methodLink RX11 136 yX11_refresh ∈ az_gw := az_t 484 (by decide +kernel) (by decide +kernel)
theorem mFRX11_16 : Cond.fieldLink RX11 16 "UnitCommitment" "saved" "LUnitCommitment$State;" ∈ az_gw := az_t 363 (by decide +kernel) (by decide +kernel)
theorem iIRX11_1 : az_isI 12 1 = false := by decide +kernel
theorem mFRX11_61 : Cond.fieldLink RX11 61 "UnitCommitment" "hasSaved" "Z" ∈ az_gw := az_t 370 (by decide +kernel) (by decide +kernel)
theorem iIRX11_8 : az_isI 12 8 = true := by decide +kernel
theorem mFRX11_75 : Cond.fieldLink RX11 75 "UnitCommitment$State" "units" "I" ∈ az_gw := az_t 68 (by decide +kernel) (by decide +kernel)
theorem mNRX11_300 : Cond.methodLinkNest RX11 300 yX8_copyFrom "UnitCommitment" ∈ az_nest := az_n 584 (by decide +kernel) rfl
theorem knX11_within : az_kn yX11_within cX11_within 3 (some .boolean) 3 := ⟨az_t 595 (by decide +kernel) (by decide +kernel), az_t 1 (by decide +kernel) (by decide +kernel), by decide +kernel, by decide +kernel, by decide +kernel⟩
theorem stX11_within : Cond.static yX11_within ∈ az_gw := az_t 594 (by decide +kernel) (by decide +kernel)
theorem mLRX11_68 : Cond.methodLink RX11 68 yX11_within ∈ az_gw := az_t 593 (by decide +kernel) (by decide +kernel)
theorem mFRX11_303 : Cond.fieldLink RX11 303 "UnitCommitment$State" "buses" "I" ∈ az_gw := az_t 60 (by decide +kernel) (by decide +kernel)
theorem mFRX11_157 : Cond.fieldLink RX11 157 "UnitCommitment$State" "outages" "I" ∈ az_gw := az_t 74 (by decide +kernel) (by decide +kernel)
theorem mFRX11_267 : Cond.fieldLink RX11 267 "UnitCommitment$Outcome" "sums" "[[I" ∈ az_gw := az_t 253 (by decide +kernel) (by decide +kernel)
theorem mFRX12_89 : Cond.fieldLink RX12 89 "UnitCommitmentModel" "thrown" "I" ∈ az_gw := az_t 1073 (by decide +kernel) (by decide +kernel)
theorem iIRX12_5 : az_isI 13 5 = true := by decide +kernel
theorem gwRX12 : ∀ w ∈ u_ws RX12 TX12 33, w ∈ az_gw := az_cls [1101, 1103, 1105, 1107, 1109, 1111, 1113, 1115, 1117, 1119, 1121, 1123, 1125, 1127, 1129, 1131, 1133, 1135, 1137, 1139, 1141, 1143, 1145, 1147, 1149, 1151, 1153, 1155, 1157, 1159, 1161, 1163, 1165] (by decide +kernel) (by decide +kernel)
theorem mFRX12_9 : Cond.fieldLink RX12 9 "UnitCommitmentModel" "s" "[I" ∈ az_gw := az_t 1068 (by decide +kernel) (by decide +kernel)
theorem iIRX12_0 : az_isI 13 0 = false := by decide +kernel
theorem knX12_in : az_kn yX12_in cX12_in 3 (some .boolean) 3 := ⟨az_t 1179 (by decide +kernel) (by decide +kernel), az_t 12 (by decide +kernel) (by decide +kernel), by decide +kernel, by decide +kernel, by decide +kernel⟩
theorem stX12_in : Cond.static yX12_in ∈ az_gw := az_t 1178 (by decide +kernel) (by decide +kernel)
theorem mLRX12_92 : Cond.methodLink RX12 92 yX12_in ∈ az_gw := az_t 1177 (by decide +kernel) (by decide +kernel)
theorem knX12_at : az_kn yX12_at cX12_at 2 (some .int) 2 := ⟨az_t 1212 (by decide +kernel) (by decide +kernel), az_t 12 (by decide +kernel) (by decide +kernel), by decide +kernel, by decide +kernel, by decide +kernel⟩
theorem stX12_at : Cond.static yX12_at ∈ az_gw := az_t 1211 (by decide +kernel) (by decide +kernel)
theorem mLRX12_96 : Cond.methodLink RX12 96 yX12_at ∈ az_gw := az_t 1210 (by decide +kernel) (by decide +kernel)
theorem mFRX12_16 : Cond.fieldLink RX12 16 "UnitCommitmentModel" "past" "[I" ∈ az_gw := az_t 1071 (by decide +kernel) (by decide +kernel)
theorem iIRX12_3 : az_isI 13 3 = false := by decide +kernel
theorem mFRX12_100 : Cond.fieldLink RX12 100 "UnitCommitmentModel" "pastMany" "I" ∈ az_gw := az_t 1072 (by decide +kernel) (by decide +kernel)
theorem iIRX12_4 : az_isI 13 4 = true := by decide +kernel
theorem mFRX12_109 : Cond.fieldLink RX12 109 "UnitCommitmentModel" "isKnown" "Z" ∈ az_gw := az_t 1075 (by decide +kernel) (by decide +kernel)
theorem iIRX12_7 : az_isI 13 7 = true := by decide +kernel
theorem mLRX12_103 : Cond.methodLink RX12 103 arraycopyName ∈ az_gw := az_t 1196 (by decide +kernel) (by decide +kernel)
theorem knX12_start : az_kn yX12_start cX12_start 4 none 2 := ⟨az_t 1067 (by decide +kernel) (by decide +kernel), az_t 12 (by decide +kernel) (by decide +kernel), by decide +kernel, by decide +kernel, by decide +kernel⟩
theorem imX12_start : Cond.instanceMethod yX12_start ∈ az_gw := az_t 1066 (by decide +kernel) (by decide +kernel)
theorem seX12_start : Cond.selects RX12 yX12_start yX12_start ∈ az_gw := az_s 53 (by decide +kernel) (by decide +kernel)
theorem mLRX12_85 : Cond.methodLink RX12 85 yX12_start ∈ az_gw := az_t 1064 (by decide +kernel) (by decide +kernel)
theorem knX12_change : az_kn yX12_change cX12_change 1 none 0 := ⟨az_t 1195 (by decide +kernel) (by decide +kernel), az_t 12 (by decide +kernel) (by decide +kernel), by decide +kernel, by decide +kernel, by decide +kernel⟩
theorem imX12_change : Cond.instanceMethod yX12_change ∈ az_gw := az_t 1194 (by decide +kernel) (by decide +kernel)
theorem seX12_change : Cond.selects RX12 yX12_change yX12_change ∈ az_gw := az_s 56 (by decide +kernel) (by decide +kernel)
theorem mLRX12_120 : Cond.methodLink RX12 120 yX12_change ∈ az_gw := az_t 1192 (by decide +kernel) (by decide +kernel)
theorem knX12_isHour : az_kn yX12_isHour cX12_isHour 2 (some .boolean) 1 := ⟨az_t 1191 (by decide +kernel) (by decide +kernel), az_t 12 (by decide +kernel) (by decide +kernel), by decide +kernel, by decide +kernel, by decide +kernel⟩
theorem imX12_isHour : Cond.instanceMethod yX12_isHour ∈ az_gw := az_t 1190 (by decide +kernel) (by decide +kernel)
theorem seX12_isHour : Cond.selects RX12 yX12_isHour yX12_isHour ∈ az_gw := az_s 55 (by decide +kernel) (by decide +kernel)
theorem mLRX12_117 : Cond.methodLink RX12 117 yX12_isHour ∈ az_gw := az_t 1188 (by decide +kernel) (by decide +kernel)
theorem knX12_isBus : az_kn yX12_isBus cX12_isBus 2 (some .boolean) 1 := ⟨az_t 1187 (by decide +kernel) (by decide +kernel), az_t 12 (by decide +kernel) (by decide +kernel), by decide +kernel, by decide +kernel, by decide +kernel⟩
theorem imX12_isBus : Cond.instanceMethod yX12_isBus ∈ az_gw := az_t 1186 (by decide +kernel) (by decide +kernel)
theorem seX12_isBus : Cond.selects RX12 yX12_isBus yX12_isBus ∈ az_gw := az_s 54 (by decide +kernel) (by decide +kernel)
theorem mLRX12_113 : Cond.methodLink RX12 113 yX12_isBus ∈ az_gw := az_t 1184 (by decide +kernel) (by decide +kernel)
theorem mLRX12_123 : Cond.methodLink RX12 123 Lib.Math.max.name ∈ az_gw := az_t 1209 (by decide +kernel) (by decide +kernel)
theorem knX12_of : az_kn yX12_of cX12_of 3 (some .int) 2 := ⟨az_t 1228 (by decide +kernel) (by decide +kernel), az_t 12 (by decide +kernel) (by decide +kernel), by decide +kernel, by decide +kernel, by decide +kernel⟩
theorem imX12_of : Cond.instanceMethod yX12_of ∈ az_gw := az_t 1227 (by decide +kernel) (by decide +kernel)
theorem seX12_of : Cond.selects RX12 yX12_of yX12_of ∈ az_gw := az_s 59 (by decide +kernel) (by decide +kernel)
theorem mLRX12_128 : Cond.methodLink RX12 128 yX12_of ∈ az_gw := az_t 1225 (by decide +kernel) (by decide +kernel)
theorem knX12_isTermValue : az_kn yX12_isTermValue cX12_isTermValue 4 (some .boolean) 3 := ⟨az_t 1224 (by decide +kernel) (by decide +kernel), az_t 12 (by decide +kernel) (by decide +kernel), by decide +kernel, by decide +kernel, by decide +kernel⟩
theorem imX12_isTermValue : Cond.instanceMethod yX12_isTermValue ∈ az_gw := az_t 1223 (by decide +kernel) (by decide +kernel)
theorem seX12_isTermValue : Cond.selects RX12 yX12_isTermValue yX12_isTermValue ∈ az_gw := az_s 58 (by decide +kernel) (by decide +kernel)
theorem mLRX12_134 : Cond.methodLink RX12 134 yX12_isTermValue ∈ az_gw := az_t 1221 (by decide +kernel) (by decide +kernel)
theorem knX12_isUnit : az_kn yX12_isUnit cX12_isUnit 2 (some .boolean) 1 := ⟨az_t 1220 (by decide +kernel) (by decide +kernel), az_t 12 (by decide +kernel) (by decide +kernel), by decide +kernel, by decide +kernel, by decide +kernel⟩
theorem imX12_isUnit : Cond.instanceMethod yX12_isUnit ∈ az_gw := az_t 1219 (by decide +kernel) (by decide +kernel)
theorem seX12_isUnit : Cond.selects RX12 yX12_isUnit yX12_isUnit ∈ az_gw := az_s 57 (by decide +kernel) (by decide +kernel)
theorem mLRX12_131 : Cond.methodLink RX12 131 yX12_isUnit ∈ az_gw := az_t 1217 (by decide +kernel) (by decide +kernel)
theorem knX12_urgency : az_kn yX12_urgency cX12_urgency 3 (some .int) 1 := ⟨az_t 1248 (by decide +kernel) (by decide +kernel), az_t 12 (by decide +kernel) (by decide +kernel), by decide +kernel, by decide +kernel, by decide +kernel⟩
theorem imX12_urgency : Cond.instanceMethod yX12_urgency ∈ az_gw := az_t 1247 (by decide +kernel) (by decide +kernel)
theorem seX12_urgency : Cond.selects RX12 yX12_urgency yX12_urgency ∈ az_gw := az_s 63 (by decide +kernel) (by decide +kernel)
theorem mLRX12_147 : Cond.methodLink RX12 147 yX12_urgency ∈ az_gw := az_t 1245 (by decide +kernel) (by decide +kernel)
theorem mFRX12_19 : Cond.fieldLink RX12 19 "UnitCommitmentModel" "takenAt" "[I" ∈ az_gw := az_t 1074 (by decide +kernel) (by decide +kernel)
theorem iIRX12_6 : az_isI 13 6 = false := by decide +kernel
theorem knX12_endOf : az_kn yX12_endOf cX12_endOf 2 (some .int) 1 := ⟨az_t 1256 (by decide +kernel) (by decide +kernel), az_t 12 (by decide +kernel) (by decide +kernel), by decide +kernel, by decide +kernel, by decide +kernel⟩
theorem imX12_endOf : Cond.instanceMethod yX12_endOf ∈ az_gw := az_t 1255 (by decide +kernel) (by decide +kernel)
theorem seX12_endOf : Cond.selects RX12 yX12_endOf yX12_endOf ∈ az_gw := az_s 65 (by decide +kernel) (by decide +kernel)
theorem mLRX12_151 : Cond.methodLink RX12 151 yX12_endOf ∈ az_gw := az_t 1253 (by decide +kernel) (by decide +kernel)
theorem mFRX12_32 : Cond.fieldLink RX12 32 "UnitCommitmentModel" "rests" "[I" ∈ az_gw := az_t 1079 (by decide +kernel) (by decide +kernel)
theorem iIRX12_11 : az_isI 13 11 = false := by decide +kernel
theorem mFRX12_22 : Cond.fieldLink RX12 22 "UnitCommitmentModel" "runs" "[Z" ∈ az_gw := az_t 1076 (by decide +kernel) (by decide +kernel)
theorem iIRX12_8 : az_isI 13 8 = false := by decide +kernel
theorem mFRX12_29 : Cond.fieldLink RX12 29 "UnitCommitmentModel" "ups" "[I" ∈ az_gw := az_t 1078 (by decide +kernel) (by decide +kernel)
theorem iIRX12_10 : az_isI 13 10 = false := by decide +kernel
theorem mFRX12_35 : Cond.fieldLink RX12 35 "UnitCommitmentModel" "lows" "[I" ∈ az_gw := az_t 1080 (by decide +kernel) (by decide +kernel)
theorem iIRX12_12 : az_isI 13 12 = false := by decide +kernel
theorem mFRX12_38 : Cond.fieldLink RX12 38 "UnitCommitmentModel" "highs" "[I" ∈ az_gw := az_t 1081 (by decide +kernel) (by decide +kernel)
theorem iIRX12_13 : az_isI 13 13 = false := by decide +kernel
theorem mLRX12_160 : Cond.methodLink RX12 160 Lib.Math.min.name ∈ az_gw := az_t 1277 (by decide +kernel) (by decide +kernel)
theorem mFRX12_47 : Cond.fieldLink RX12 47 "UnitCommitmentModel" "starts" "[I" ∈ az_gw := az_t 1084 (by decide +kernel) (by decide +kernel)
theorem iIRX12_16 : az_isI 13 16 = false := by decide +kernel
theorem mFRX12_41 : Cond.fieldLink RX12 41 "UnitCommitmentModel" "outputs" "[I" ∈ az_gw := az_t 1082 (by decide +kernel) (by decide +kernel)
theorem iIRX12_14 : az_isI 13 14 = false := by decide +kernel
theorem knX12_ranBefore : az_kn yX12_ranBefore cX12_ranBefore 3 (some .boolean) 2 := ⟨az_t 1276 (by decide +kernel) (by decide +kernel), az_t 12 (by decide +kernel) (by decide +kernel), by decide +kernel, by decide +kernel, by decide +kernel⟩
theorem imX12_ranBefore : Cond.instanceMethod yX12_ranBefore ∈ az_gw := az_t 1275 (by decide +kernel) (by decide +kernel)
theorem seX12_ranBefore : Cond.selects RX12 yX12_ranBefore yX12_ranBefore ∈ az_gw := az_s 70 (by decide +kernel) (by decide +kernel)
theorem mLRX12_157 : Cond.methodLink RX12 157 yX12_ranBefore ∈ az_gw := az_t 1273 (by decide +kernel) (by decide +kernel)
theorem mFRX12_59 : Cond.fieldLink RX12 59 "UnitCommitmentModel" "direction" "[I" ∈ az_gw := az_t 1088 (by decide +kernel) (by decide +kernel)
theorem iIRX12_20 : az_isI 13 20 = false := by decide +kernel
theorem mFRX12_53 : Cond.fieldLink RX12 53 "UnitCommitmentModel" "shed" "[I" ∈ az_gw := az_t 1086 (by decide +kernel) (by decide +kernel)
theorem iIRX12_18 : az_isI 13 18 = false := by decide +kernel
theorem mFRX12_50 : Cond.fieldLink RX12 50 "UnitCommitmentModel" "given" "[I" ∈ az_gw := az_t 1085 (by decide +kernel) (by decide +kernel)
theorem iIRX12_17 : az_isI 13 17 = false := by decide +kernel
theorem mFRX12_56 : Cond.fieldLink RX12 56 "UnitCommitmentModel" "flows" "[I" ∈ az_gw := az_t 1087 (by decide +kernel) (by decide +kernel)
theorem iIRX12_19 : az_isI 13 19 = false := by decide +kernel
theorem knX12_findWay : az_kn yX12_findWay cX12_findWay 4 none 2 := ⟨az_t 1285 (by decide +kernel) (by decide +kernel), az_t 12 (by decide +kernel) (by decide +kernel), by decide +kernel, by decide +kernel, by decide +kernel⟩
theorem imX12_findWay : Cond.instanceMethod yX12_findWay ∈ az_gw := az_t 1284 (by decide +kernel) (by decide +kernel)
theorem seX12_findWay : Cond.selects RX12 yX12_findWay yX12_findWay ∈ az_gw := az_s 72 (by decide +kernel) (by decide +kernel)
theorem mLRX12_163 : Cond.methodLink RX12 163 yX12_findWay ∈ az_gw := az_t 1282 (by decide +kernel) (by decide +kernel)
theorem mFRX12_62 : Cond.fieldLink RX12 62 "UnitCommitmentModel" "isServed" "[Z" ∈ az_gw := az_t 1089 (by decide +kernel) (by decide +kernel)
theorem iIRX12_21 : az_isI 13 21 = false := by decide +kernel
theorem knX12_deliver : az_kn yX12_deliver cX12_deliver 10 (some .int) 3 := ⟨az_t 1281 (by decide +kernel) (by decide +kernel), az_t 12 (by decide +kernel) (by decide +kernel), by decide +kernel, by decide +kernel, by decide +kernel⟩
theorem imX12_deliver : Cond.instanceMethod yX12_deliver ∈ az_gw := az_t 1280 (by decide +kernel) (by decide +kernel)
theorem seX12_deliver : Cond.selects RX12 yX12_deliver yX12_deliver ∈ az_gw := az_s 71 (by decide +kernel) (by decide +kernel)
theorem mLRX12_169 : Cond.methodLink RX12 169 yX12_deliver ∈ az_gw := az_t 1278 (by decide +kernel) (by decide +kernel)
theorem mFRX12_44 : Cond.fieldLink RX12 44 "UnitCommitmentModel" "spills" "[I" ∈ az_gw := az_t 1083 (by decide +kernel) (by decide +kernel)
theorem iIRX12_15 : az_isI 13 15 = false := by decide +kernel
theorem knX12_bound : az_kn yX12_bound cX12_bound 5 none 2 := ⟨az_t 1272 (by decide +kernel) (by decide +kernel), az_t 12 (by decide +kernel) (by decide +kernel), by decide +kernel, by decide +kernel, by decide +kernel⟩
theorem imX12_bound : Cond.instanceMethod yX12_bound ∈ az_gw := az_t 1271 (by decide +kernel) (by decide +kernel)
theorem seX12_bound : Cond.selects RX12 yX12_bound yX12_bound ∈ az_gw := az_s 69 (by decide +kernel) (by decide +kernel)
theorem mLRX12_166 : Cond.methodLink RX12 166 yX12_bound ∈ az_gw := az_t 1269 (by decide +kernel) (by decide +kernel)
theorem mFRX12_26 : Cond.fieldLink RX12 26 "UnitCommitmentModel" "isFree" "[Z" ∈ az_gw := az_t 1077 (by decide +kernel) (by decide +kernel)
theorem iIRX12_9 : az_isI 13 9 = false := by decide +kernel
theorem knX12_isPlanned : az_kn yX12_isPlanned cX12_isPlanned 3 (some .boolean) 2 := ⟨az_t 1260 (by decide +kernel) (by decide +kernel), az_t 12 (by decide +kernel) (by decide +kernel), by decide +kernel, by decide +kernel, by decide +kernel⟩
theorem imX12_isPlanned : Cond.instanceMethod yX12_isPlanned ∈ az_gw := az_t 1259 (by decide +kernel) (by decide +kernel)
theorem seX12_isPlanned : Cond.selects RX12 yX12_isPlanned yX12_isPlanned ∈ az_gw := az_s 66 (by decide +kernel) (by decide +kernel)
theorem mLRX12_140 : Cond.methodLink RX12 140 yX12_isPlanned ∈ az_gw := az_t 1257 (by decide +kernel) (by decide +kernel)
theorem mFRX12_65 : Cond.fieldLink RX12 65 "UnitCommitmentModel" "violations" "[I" ∈ az_gw := az_t 1090 (by decide +kernel) (by decide +kernel)
theorem iIRX12_22 : az_isI 13 22 = false := by decide +kernel
theorem mFRX12_208 : Cond.fieldLink RX12 208 "UnitCommitmentModel" "violationMany" "I" ∈ az_gw := az_t 1091 (by decide +kernel) (by decide +kernel)
theorem iIRX12_23 : az_isI 13 23 = true := by decide +kernel
theorem knX12_sum : az_kn yX12_sum cX12_sum 7 (some .int) 4 := ⟨az_t 1305 (by decide +kernel) (by decide +kernel), az_t 12 (by decide +kernel) (by decide +kernel), by decide +kernel, by decide +kernel, by decide +kernel⟩
theorem imX12_sum : Cond.instanceMethod yX12_sum ∈ az_gw := az_t 1304 (by decide +kernel) (by decide +kernel)
theorem seX12_sum : Cond.selects RX12 yX12_sum yX12_sum ∈ az_gw := az_s 77 (by decide +kernel) (by decide +kernel)
theorem mLRX12_189 : Cond.methodLink RX12 189 yX12_sum ∈ az_gw := az_t 1302 (by decide +kernel) (by decide +kernel)
theorem knX12_tellViolation : az_kn yX12_tellViolation cX12_tellViolation 4 none 3 := ⟨az_t 1297 (by decide +kernel) (by decide +kernel), az_t 12 (by decide +kernel) (by decide +kernel), by decide +kernel, by decide +kernel, by decide +kernel⟩
theorem imX12_tellViolation : Cond.instanceMethod yX12_tellViolation ∈ az_gw := az_t 1296 (by decide +kernel) (by decide +kernel)
theorem seX12_tellViolation : Cond.selects RX12 yX12_tellViolation yX12_tellViolation ∈ az_gw := az_s 75 (by decide +kernel) (by decide +kernel)
theorem mLRX12_214 : Cond.methodLink RX12 214 yX12_tellViolation ∈ az_gw := az_t 1294 (by decide +kernel) (by decide +kernel)
theorem knX12_reserveOf : az_kn yX12_reserveOf cX12_reserveOf 2 (some .int) 1 := ⟨az_t 1309 (by decide +kernel) (by decide +kernel), az_t 12 (by decide +kernel) (by decide +kernel), by decide +kernel, by decide +kernel, by decide +kernel⟩
theorem imX12_reserveOf : Cond.instanceMethod yX12_reserveOf ∈ az_gw := az_t 1308 (by decide +kernel) (by decide +kernel)
theorem seX12_reserveOf : Cond.selects RX12 yX12_reserveOf yX12_reserveOf ∈ az_gw := az_s 78 (by decide +kernel) (by decide +kernel)
theorem mLRX12_205 : Cond.methodLink RX12 205 yX12_reserveOf ∈ az_gw := az_t 1306 (by decide +kernel) (by decide +kernel)
theorem knX12_violates : az_kn yX12_violates cX12_violates 6 (some .boolean) 3 := ⟨az_t 1293 (by decide +kernel) (by decide +kernel), az_t 12 (by decide +kernel) (by decide +kernel), by decide +kernel, by decide +kernel, by decide +kernel⟩
theorem imX12_violates : Cond.instanceMethod yX12_violates ∈ az_gw := az_t 1292 (by decide +kernel) (by decide +kernel)
theorem seX12_violates : Cond.selects RX12 yX12_violates yX12_violates ∈ az_gw := az_s 74 (by decide +kernel) (by decide +kernel)
theorem mLRX12_211 : Cond.methodLink RX12 211 yX12_violates ∈ az_gw := az_t 1290 (by decide +kernel) (by decide +kernel)
theorem knX12_shedIn : az_kn yX12_shedIn cX12_shedIn 2 (some .int) 1 := ⟨az_t 1301 (by decide +kernel) (by decide +kernel), az_t 12 (by decide +kernel) (by decide +kernel), by decide +kernel, by decide +kernel, by decide +kernel⟩
theorem imX12_shedIn : Cond.instanceMethod yX12_shedIn ∈ az_gw := az_t 1300 (by decide +kernel) (by decide +kernel)
theorem seX12_shedIn : Cond.selects RX12 yX12_shedIn yX12_shedIn ∈ az_gw := az_s 76 (by decide +kernel) (by decide +kernel)
theorem mLRX12_202 : Cond.methodLink RX12 202 yX12_shedIn ∈ az_gw := az_t 1298 (by decide +kernel) (by decide +kernel)
theorem knX12_lookBack : az_kn yX12_lookBack cX12_lookBack 5 none 2 := ⟨az_t 1264 (by decide +kernel) (by decide +kernel), az_t 12 (by decide +kernel) (by decide +kernel), by decide +kernel, by decide +kernel, by decide +kernel⟩
theorem imX12_lookBack : Cond.instanceMethod yX12_lookBack ∈ az_gw := az_t 1263 (by decide +kernel) (by decide +kernel)
theorem seX12_lookBack : Cond.selects RX12 yX12_lookBack yX12_lookBack ∈ az_gw := az_s 67 (by decide +kernel) (by decide +kernel)
theorem mLRX12_176 : Cond.methodLink RX12 176 yX12_lookBack ∈ az_gw := az_t 1261 (by decide +kernel) (by decide +kernel)
theorem knX12_dispatch : az_kn yX12_dispatch cX12_dispatch 6 none 1 := ⟨az_t 1268 (by decide +kernel) (by decide +kernel), az_t 12 (by decide +kernel) (by decide +kernel), by decide +kernel, by decide +kernel, by decide +kernel⟩
theorem imX12_dispatch : Cond.instanceMethod yX12_dispatch ∈ az_gw := az_t 1267 (by decide +kernel) (by decide +kernel)
theorem seX12_dispatch : Cond.selects RX12 yX12_dispatch yX12_dispatch ∈ az_gw := az_s 68 (by decide +kernel) (by decide +kernel)
theorem mLRX12_179 : Cond.methodLink RX12 179 yX12_dispatch ∈ az_gw := az_t 1265 (by decide +kernel) (by decide +kernel)
theorem knX12_isAvailable : az_kn yX12_isAvailable cX12_isAvailable 5 (some .boolean) 2 := ⟨az_t 1252 (by decide +kernel) (by decide +kernel), az_t 12 (by decide +kernel) (by decide +kernel), by decide +kernel, by decide +kernel, by decide +kernel⟩
theorem imX12_isAvailable : Cond.instanceMethod yX12_isAvailable ∈ az_gw := az_t 1251 (by decide +kernel) (by decide +kernel)
theorem seX12_isAvailable : Cond.selects RX12 yX12_isAvailable yX12_isAvailable ∈ az_gw := az_s 64 (by decide +kernel) (by decide +kernel)
theorem mLRX12_173 : Cond.methodLink RX12 173 yX12_isAvailable ∈ az_gw := az_t 1249 (by decide +kernel) (by decide +kernel)
theorem knX12_findViolations : az_kn yX12_findViolations cX12_findViolations 4 none 0 := ⟨az_t 1289 (by decide +kernel) (by decide +kernel), az_t 12 (by decide +kernel) (by decide +kernel), by decide +kernel, by decide +kernel, by decide +kernel⟩
theorem imX12_findViolations : Cond.instanceMethod yX12_findViolations ∈ az_gw := az_t 1288 (by decide +kernel) (by decide +kernel)
theorem seX12_findViolations : Cond.selects RX12 yX12_findViolations yX12_findViolations ∈ az_gw := az_s 73 (by decide +kernel) (by decide +kernel)
theorem mLRX12_183 : Cond.methodLink RX12 183 yX12_findViolations ∈ az_gw := az_t 1286 (by decide +kernel) (by decide +kernel)
theorem knX12_repair : az_kn yX12_repair cX12_repair 6 none 0 := ⟨az_t 1244 (by decide +kernel) (by decide +kernel), az_t 12 (by decide +kernel) (by decide +kernel), by decide +kernel, by decide +kernel, by decide +kernel⟩
theorem imX12_repair : Cond.instanceMethod yX12_repair ∈ az_gw := az_t 1243 (by decide +kernel) (by decide +kernel)
theorem seX12_repair : Cond.selects RX12 yX12_repair yX12_repair ∈ az_gw := az_s 62 (by decide +kernel) (by decide +kernel)
theorem mLRX12_154 : Cond.methodLink RX12 154 yX12_repair ∈ az_gw := az_t 1241 (by decide +kernel) (by decide +kernel)
theorem knX12_workOut : az_kn yX12_workOut cX12_workOut 4 none 0 := ⟨az_t 1240 (by decide +kernel) (by decide +kernel), az_t 12 (by decide +kernel) (by decide +kernel), by decide +kernel, by decide +kernel, by decide +kernel⟩
theorem imX12_workOut : Cond.instanceMethod yX12_workOut ∈ az_gw := az_t 1239 (by decide +kernel) (by decide +kernel)
theorem seX12_workOut : Cond.selects RX12 yX12_workOut yX12_workOut ∈ az_gw := az_s 61 (by decide +kernel) (by decide +kernel)
theorem mLRX12_186 : Cond.methodLink RX12 186 yX12_workOut ∈ az_gw := az_t 1237 (by decide +kernel) (by decide +kernel)
theorem knX12_know : az_kn yX12_know cX12_know 1 none 0 := ⟨az_t 1236 (by decide +kernel) (by decide +kernel), az_t 12 (by decide +kernel) (by decide +kernel), by decide +kernel, by decide +kernel, by decide +kernel⟩
theorem imX12_know : Cond.instanceMethod yX12_know ∈ az_gw := az_t 1235 (by decide +kernel) (by decide +kernel)
theorem seX12_know : Cond.selects RX12 yX12_know yX12_know ∈ az_gw := az_s 60 (by decide +kernel) (by decide +kernel)
theorem mLRX12_137 : Cond.methodLink RX12 137 yX12_know ∈ az_gw := az_t 1233 (by decide +kernel) (by decide +kernel)
theorem knX12_isOutage : az_kn yX12_isOutage cX12_isOutage 2 (some .boolean) 1 := ⟨az_t 1325 (by decide +kernel) (by decide +kernel), az_t 12 (by decide +kernel) (by decide +kernel), by decide +kernel, by decide +kernel, by decide +kernel⟩
theorem imX12_isOutage : Cond.instanceMethod yX12_isOutage ∈ az_gw := az_t 1324 (by decide +kernel) (by decide +kernel)
theorem seX12_isOutage : Cond.selects RX12 yX12_isOutage yX12_isOutage ∈ az_gw := az_s 79 (by decide +kernel) (by decide +kernel)
theorem mLRX12_144 : Cond.methodLink RX12 144 yX12_isOutage ∈ az_gw := az_t 1322 (by decide +kernel) (by decide +kernel)
theorem knX12_startCost : az_kn yX12_startCost cX12_startCost 2 (some .int) 1 := ⟨az_t 1393 (by decide +kernel) (by decide +kernel), az_t 12 (by decide +kernel) (by decide +kernel), by decide +kernel, by decide +kernel, by decide +kernel⟩
theorem imX12_startCost : Cond.instanceMethod yX12_startCost ∈ az_gw := az_t 1392 (by decide +kernel) (by decide +kernel)
theorem seX12_startCost : Cond.selects RX12 yX12_startCost yX12_startCost ∈ az_gw := az_s 90 (by decide +kernel) (by decide +kernel)
theorem mLRX12_199 : Cond.methodLink RX12 199 yX12_startCost ∈ az_gw := az_t 1390 (by decide +kernel) (by decide +kernel)
theorem knX12_runningCost : az_kn yX12_runningCost cX12_runningCost 4 (some .int) 1 := ⟨az_t 1389 (by decide +kernel) (by decide +kernel), az_t 12 (by decide +kernel) (by decide +kernel), by decide +kernel, by decide +kernel, by decide +kernel⟩
theorem imX12_runningCost : Cond.instanceMethod yX12_runningCost ∈ az_gw := az_t 1388 (by decide +kernel) (by decide +kernel)
theorem seX12_runningCost : Cond.selects RX12 yX12_runningCost yX12_runningCost ∈ az_gw := az_s 89 (by decide +kernel) (by decide +kernel)
theorem mLRX12_196 : Cond.methodLink RX12 196 yX12_runningCost ∈ az_gw := az_t 1386 (by decide +kernel) (by decide +kernel)
theorem knX12_outputCost : az_kn yX12_outputCost cX12_outputCost 4 (some .int) 1 := ⟨az_t 1385 (by decide +kernel) (by decide +kernel), az_t 12 (by decide +kernel) (by decide +kernel), by decide +kernel, by decide +kernel, by decide +kernel⟩
theorem imX12_outputCost : Cond.instanceMethod yX12_outputCost ∈ az_gw := az_t 1384 (by decide +kernel) (by decide +kernel)
theorem seX12_outputCost : Cond.selects RX12 yX12_outputCost yX12_outputCost ∈ az_gw := az_s 88 (by decide +kernel) (by decide +kernel)
theorem mLRX12_193 : Cond.methodLink RX12 193 yX12_outputCost ∈ az_gw := az_t 1382 (by decide +kernel) (by decide +kernel)
theorem knX12_violationsOf : az_kn yX12_violationsOf cX12_violationsOf 4 (some .int) 1 := ⟨az_t 1341 (by decide +kernel) (by decide +kernel), az_t 12 (by decide +kernel) (by decide +kernel), by decide +kernel, by decide +kernel, by decide +kernel⟩
theorem imX12_violationsOf : Cond.instanceMethod yX12_violationsOf ∈ az_gw := az_t 1340 (by decide +kernel) (by decide +kernel)
theorem seX12_violationsOf : Cond.selects RX12 yX12_violationsOf yX12_violationsOf ∈ az_gw := az_s 80 (by decide +kernel) (by decide +kernel)
theorem mLRX12_218 : Cond.methodLink RX12 218 yX12_violationsOf ∈ az_gw := az_t 1338 (by decide +kernel) (by decide +kernel)
theorem knX12_plan : az_kn yX12_plan cX12_plan 3 none 2 := ⟨az_t 1361 (by decide +kernel) (by decide +kernel), az_t 12 (by decide +kernel) (by decide +kernel), by decide +kernel, by decide +kernel, by decide +kernel⟩
theorem imX12_plan : Cond.instanceMethod yX12_plan ∈ az_gw := az_t 1360 (by decide +kernel) (by decide +kernel)
theorem seX12_plan : Cond.selects RX12 yX12_plan yX12_plan ∈ az_gw := az_s 83 (by decide +kernel) (by decide +kernel)
theorem mLRX12_224 : Cond.methodLink RX12 224 yX12_plan ∈ az_gw := az_t 1358 (by decide +kernel) (by decide +kernel)
theorem knX12_isCheaper : az_kn yX12_isCheaper cX12_isCheaper 5 (some .boolean) 2 := ⟨az_t 1365 (by decide +kernel) (by decide +kernel), az_t 12 (by decide +kernel) (by decide +kernel), by decide +kernel, by decide +kernel, by decide +kernel⟩
theorem imX12_isCheaper : Cond.instanceMethod yX12_isCheaper ∈ az_gw := az_t 1364 (by decide +kernel) (by decide +kernel)
theorem seX12_isCheaper : Cond.selects RX12 yX12_isCheaper yX12_isCheaper ∈ az_gw := az_s 84 (by decide +kernel) (by decide +kernel)
theorem mLRX12_227 : Cond.methodLink RX12 227 yX12_isCheaper ∈ az_gw := az_t 1362 (by decide +kernel) (by decide +kernel)
theorem knX12_demandIn : az_kn yX12_demandIn cX12_demandIn 4 (some .int) 1 := ⟨az_t 1357 (by decide +kernel) (by decide +kernel), az_t 12 (by decide +kernel) (by decide +kernel), by decide +kernel, by decide +kernel, by decide +kernel⟩
theorem imX12_demandIn : Cond.instanceMethod yX12_demandIn ∈ az_gw := az_t 1356 (by decide +kernel) (by decide +kernel)
theorem seX12_demandIn : Cond.selects RX12 yX12_demandIn yX12_demandIn ∈ az_gw := az_s 82 (by decide +kernel) (by decide +kernel)
theorem mLRX12_221 : Cond.methodLink RX12 221 yX12_demandIn ∈ az_gw := az_t 1354 (by decide +kernel) (by decide +kernel)
theorem mFRX12_68 : Cond.fieldLink RX12 68 "UnitCommitmentModel" "oldPlans" "[I" ∈ az_gw := az_t 1092 (by decide +kernel) (by decide +kernel)
theorem iIRX12_24 : az_isI 13 24 = false := by decide +kernel
theorem knX12_planHour : az_kn yX12_planHour cX12_planHour 7 none 1 := ⟨az_t 1353 (by decide +kernel) (by decide +kernel), az_t 12 (by decide +kernel) (by decide +kernel), by decide +kernel, by decide +kernel, by decide +kernel⟩
theorem imX12_planHour : Cond.instanceMethod yX12_planHour ∈ az_gw := az_t 1352 (by decide +kernel) (by decide +kernel)
theorem seX12_planHour : Cond.selects RX12 yX12_planHour yX12_planHour ∈ az_gw := az_s 81 (by decide +kernel) (by decide +kernel)
theorem mLRX12_230 : Cond.methodLink RX12 230 yX12_planHour ∈ az_gw := az_t 1350 (by decide +kernel) (by decide +kernel)
theorem knX12_penaltyOf : az_kn yX12_penaltyOf cX12_penaltyOf 2 (some .int) 1 := ⟨az_t 1397 (by decide +kernel) (by decide +kernel), az_t 12 (by decide +kernel) (by decide +kernel), by decide +kernel, by decide +kernel, by decide +kernel⟩
theorem imX12_penaltyOf : Cond.instanceMethod yX12_penaltyOf ∈ az_gw := az_t 1396 (by decide +kernel) (by decide +kernel)
theorem seX12_penaltyOf : Cond.selects RX12 yX12_penaltyOf yX12_penaltyOf ∈ az_gw := az_s 91 (by decide +kernel) (by decide +kernel)
theorem mLRX12_236 : Cond.methodLink RX12 236 yX12_penaltyOf ∈ az_gw := az_t 1394 (by decide +kernel) (by decide +kernel)
theorem knX12_costOf : az_kn yX12_costOf cX12_costOf 2 (some .int) 1 := ⟨az_t 1381 (by decide +kernel) (by decide +kernel), az_t 12 (by decide +kernel) (by decide +kernel), by decide +kernel, by decide +kernel, by decide +kernel⟩
theorem imX12_costOf : Cond.instanceMethod yX12_costOf ∈ az_gw := az_t 1380 (by decide +kernel) (by decide +kernel)
theorem seX12_costOf : Cond.selects RX12 yX12_costOf yX12_costOf ∈ az_gw := az_s 87 (by decide +kernel) (by decide +kernel)
theorem mLRX12_233 : Cond.methodLink RX12 233 yX12_costOf ∈ az_gw := az_t 1378 (by decide +kernel) (by decide +kernel)
theorem knX12_takePlans : az_kn yX12_takePlans cX12_takePlans 4 none 1 := ⟨az_t 1373 (by decide +kernel) (by decide +kernel), az_t 12 (by decide +kernel) (by decide +kernel), by decide +kernel, by decide +kernel, by decide +kernel⟩
theorem imX12_takePlans : Cond.instanceMethod yX12_takePlans ∈ az_gw := az_t 1372 (by decide +kernel) (by decide +kernel)
theorem seX12_takePlans : Cond.selects RX12 yX12_takePlans yX12_takePlans ∈ az_gw := az_s 85 (by decide +kernel) (by decide +kernel)
theorem mLRX12_239 : Cond.methodLink RX12 239 yX12_takePlans ∈ az_gw := az_t 1370 (by decide +kernel) (by decide +kernel)
theorem knX12_allCosts : az_kn yX12_allCosts cX12_allCosts 3 (some .int) 0 := ⟨az_t 1377 (by decide +kernel) (by decide +kernel), az_t 12 (by decide +kernel) (by decide +kernel), by decide +kernel, by decide +kernel, by decide +kernel⟩
theorem imX12_allCosts : Cond.instanceMethod yX12_allCosts ∈ az_gw := az_t 1376 (by decide +kernel) (by decide +kernel)
theorem seX12_allCosts : Cond.selects RX12 yX12_allCosts yX12_allCosts ∈ az_gw := az_s 86 (by decide +kernel) (by decide +kernel)
theorem mLRX12_242 : Cond.methodLink RX12 242 yX12_allCosts ∈ az_gw := az_t 1374 (by decide +kernel) (by decide +kernel)
theorem mFRX12_71 : Cond.fieldLink RX12 71 "UnitCommitmentModel" "buffer" "[C" ∈ az_gw := az_t 1093 (by decide +kernel) (by decide +kernel)
theorem iIRX12_25 : az_isI 13 25 = false := by decide +kernel
theorem mFRX12_246 : Cond.fieldLink RX12 246 "UnitCommitmentModel" "length" "I" ∈ az_gw := az_t 1094 (by decide +kernel) (by decide +kernel)
theorem iIRX12_26 : az_isI 13 26 = true := by decide +kernel
theorem mFRX12_249 : Cond.fieldLink RX12 249 "UnitCommitmentModel" "isWrong" "Z" ∈ az_gw := az_t 1096 (by decide +kernel) (by decide +kernel)
theorem iIRX12_28 : az_isI 13 28 = true := by decide +kernel
theorem mFRX12_252 : Cond.fieldLink RX12 252 "UnitCommitmentModel" "place" "I" ∈ az_gw := az_t 1095 (by decide +kernel) (by decide +kernel)
theorem iIRX12_27 : az_isI 13 27 = true := by decide +kernel
theorem mFRX12_255 : Cond.fieldLink RX12 255 "UnitCommitmentModel" "rowMany" "I" ∈ az_gw := az_t 1100 (by decide +kernel) (by decide +kernel)
theorem iIRX12_32 : az_isI 13 32 = true := by decide +kernel
theorem mFRX12_82 : Cond.fieldLink RX12 82 "UnitCommitmentModel" "rowPlan" "[I" ∈ az_gw := az_t 1099 (by decide +kernel) (by decide +kernel)
theorem iIRX12_31 : az_isI 13 31 = false := by decide +kernel
theorem knX12_takes : az_kn yX12_takes cX12_takes 3 (some .int) 2 := ⟨az_t 1413 (by decide +kernel) (by decide +kernel), az_t 12 (by decide +kernel) (by decide +kernel), by decide +kernel, by decide +kernel, by decide +kernel⟩
theorem imX12_takes : Cond.instanceMethod yX12_takes ∈ az_gw := az_t 1412 (by decide +kernel) (by decide +kernel)
theorem seX12_takes : Cond.selects RX12 yX12_takes yX12_takes ∈ az_gw := az_s 93 (by decide +kernel) (by decide +kernel)
theorem mLRX12_258 : Cond.methodLink RX12 258 yX12_takes ∈ az_gw := az_t 1410 (by decide +kernel) (by decide +kernel)
theorem mFRX12_79 : Cond.fieldLink RX12 79 "UnitCommitmentModel" "rowUnit" "[I" ∈ az_gw := az_t 1098 (by decide +kernel) (by decide +kernel)
theorem iIRX12_30 : az_isI 13 30 = false := by decide +kernel
theorem mFRX12_75 : Cond.fieldLink RX12 75 "UnitCommitmentModel" "errorPosition" "I" ∈ az_gw := az_t 1097 (by decide +kernel) (by decide +kernel)
theorem iIRX12_29 : az_isI 13 29 = true := by decide +kernel
theorem knX12_readRow : az_kn yX12_readRow cX12_readRow 3 none 0 := ⟨az_t 1409 (by decide +kernel) (by decide +kernel), az_t 12 (by decide +kernel) (by decide +kernel), by decide +kernel, by decide +kernel, by decide +kernel⟩
theorem imX12_readRow : Cond.instanceMethod yX12_readRow ∈ az_gw := az_t 1408 (by decide +kernel) (by decide +kernel)
theorem seX12_readRow : Cond.selects RX12 yX12_readRow yX12_readRow ∈ az_gw := az_s 92 (by decide +kernel) (by decide +kernel)
theorem mLRX12_261 : Cond.methodLink RX12 261 yX12_readRow ∈ az_gw := az_t 1406 (by decide +kernel) (by decide +kernel)
theorem knX12_runningIn : az_kn yX12_runningIn cX12_runningIn 4 (some .int) 1 := ⟨az_t 1437 (by decide +kernel) (by decide +kernel), az_t 12 (by decide +kernel) (by decide +kernel), by decide +kernel, by decide +kernel, by decide +kernel⟩
theorem imX12_runningIn : Cond.instanceMethod yX12_runningIn ∈ az_gw := az_t 1436 (by decide +kernel) (by decide +kernel)
theorem seX12_runningIn : Cond.selects RX12 yX12_runningIn yX12_runningIn ∈ az_gw := az_s 94 (by decide +kernel) (by decide +kernel)
theorem mLRX12_264 : Cond.methodLink RX12 264 yX12_runningIn ∈ az_gw := az_t 1434 (by decide +kernel) (by decide +kernel)
theorem knX12_startsIn : az_kn yX12_startsIn cX12_startsIn 4 (some .int) 1 := ⟨az_t 1453 (by decide +kernel) (by decide +kernel), az_t 12 (by decide +kernel) (by decide +kernel), by decide +kernel, by decide +kernel, by decide +kernel⟩
theorem imX12_startsIn : Cond.instanceMethod yX12_startsIn ∈ az_gw := az_t 1452 (by decide +kernel) (by decide +kernel)
theorem seX12_startsIn : Cond.selects RX12 yX12_startsIn yX12_startsIn ∈ az_gw := az_s 97 (by decide +kernel) (by decide +kernel)
theorem mLRX12_267 : Cond.methodLink RX12 267 yX12_startsIn ∈ az_gw := az_t 1450 (by decide +kernel) (by decide +kernel)
theorem knX12_partOf : az_kn yX12_partOf cX12_partOf 3 (some .int) 2 := ⟨az_t 1449 (by decide +kernel) (by decide +kernel), az_t 12 (by decide +kernel) (by decide +kernel), by decide +kernel, by decide +kernel, by decide +kernel⟩
theorem imX12_partOf : Cond.instanceMethod yX12_partOf ∈ az_gw := az_t 1448 (by decide +kernel) (by decide +kernel)
theorem seX12_partOf : Cond.selects RX12 yX12_partOf yX12_partOf ∈ az_gw := az_s 96 (by decide +kernel) (by decide +kernel)
theorem mLRX12_270 : Cond.methodLink RX12 270 yX12_partOf ∈ az_gw := az_t 1446 (by decide +kernel) (by decide +kernel)
theorem knX12_totalOf : az_kn yX12_totalOf cX12_totalOf 4 (some .int) 1 := ⟨az_t 1445 (by decide +kernel) (by decide +kernel), az_t 12 (by decide +kernel) (by decide +kernel), by decide +kernel, by decide +kernel, by decide +kernel⟩
theorem imX12_totalOf : Cond.instanceMethod yX12_totalOf ∈ az_gw := az_t 1444 (by decide +kernel) (by decide +kernel)
theorem seX12_totalOf : Cond.selects RX12 yX12_totalOf yX12_totalOf ∈ az_gw := az_s 95 (by decide +kernel) (by decide +kernel)
theorem mLRX12_273 : Cond.methodLink RX12 273 yX12_totalOf ∈ az_gw := az_t 1442 (by decide +kernel) (by decide +kernel)
theorem knX12_isBehind : az_kn yX12_isBehind cX12_isBehind 4 (some .boolean) 2 := ⟨az_t 1481 (by decide +kernel) (by decide +kernel), az_t 12 (by decide +kernel) (by decide +kernel), by decide +kernel, by decide +kernel, by decide +kernel⟩
theorem imX12_isBehind : Cond.instanceMethod yX12_isBehind ∈ az_gw := az_t 1480 (by decide +kernel) (by decide +kernel)
theorem seX12_isBehind : Cond.selects RX12 yX12_isBehind yX12_isBehind ∈ az_gw := az_s 101 (by decide +kernel) (by decide +kernel)
theorem mLRX12_279 : Cond.methodLink RX12 279 yX12_isBehind ∈ az_gw := az_t 1478 (by decide +kernel) (by decide +kernel)
theorem knX12_allGiven : az_kn yX12_allGiven cX12_allGiven 3 (some .int) 2 := ⟨az_t 1461 (by decide +kernel) (by decide +kernel), az_t 12 (by decide +kernel) (by decide +kernel), by decide +kernel, by decide +kernel, by decide +kernel⟩
theorem imX12_allGiven : Cond.instanceMethod yX12_allGiven ∈ az_gw := az_t 1460 (by decide +kernel) (by decide +kernel)
theorem seX12_allGiven : Cond.selects RX12 yX12_allGiven yX12_allGiven ∈ az_gw := az_s 98 (by decide +kernel) (by decide +kernel)
theorem mLRX12_276 : Cond.methodLink RX12 276 yX12_allGiven ∈ az_gw := az_t 1458 (by decide +kernel) (by decide +kernel)
theorem knX12_crossing : az_kn yX12_crossing cX12_crossing 7 (some .int) 2 := ⟨az_t 1477 (by decide +kernel) (by decide +kernel), az_t 12 (by decide +kernel) (by decide +kernel), by decide +kernel, by decide +kernel, by decide +kernel⟩
theorem imX12_crossing : Cond.instanceMethod yX12_crossing ∈ az_gw := az_t 1476 (by decide +kernel) (by decide +kernel)
theorem seX12_crossing : Cond.selects RX12 yX12_crossing yX12_crossing ∈ az_gw := az_s 100 (by decide +kernel) (by decide +kernel)
theorem mLRX12_282 : Cond.methodLink RX12 282 yX12_crossing ∈ az_gw := az_t 1474 (by decide +kernel) (by decide +kernel)
theorem knX12_agrees : az_kn yX12_agrees cX12_agrees 7 (some .boolean) 1 := ⟨az_t 1473 (by decide +kernel) (by decide +kernel), az_t 12 (by decide +kernel) (by decide +kernel), by decide +kernel, by decide +kernel, by decide +kernel⟩
theorem imX12_agrees : Cond.instanceMethod yX12_agrees ∈ az_gw := az_t 1472 (by decide +kernel) (by decide +kernel)
theorem seX12_agrees : Cond.selects RX12 yX12_agrees yX12_agrees ∈ az_gw := az_s 99 (by decide +kernel) (by decide +kernel)
theorem mLRX12_285 : Cond.methodLink RX12 285 yX12_agrees ∈ az_gw := az_t 1470 (by decide +kernel) (by decide +kernel)
theorem mFRX12_13 : Cond.fieldLink RX12 13 "UnitCommitmentModel" "saved" "[I" ∈ az_gw := az_t 1069 (by decide +kernel) (by decide +kernel)
theorem iIRX12_1 : az_isI 13 1 = false := by decide +kernel
theorem mFRX12_288 : Cond.fieldLink RX12 288 "UnitCommitmentModel" "isSaved" "Z" ∈ az_gw := az_t 1070 (by decide +kernel) (by decide +kernel)
theorem iIRX12_2 : az_isI 13 2 = true := by decide +kernel
theorem thkRX11_72 : Cond.classLink RX11 72 "java/lang/IllegalArgumentException" ∈ az_gw := az_t 596 (by decide +kernel) (by decide +kernel)
theorem thi_IllegalArgumentException : Cond.initialized "java/lang/IllegalArgumentException" ∈ az_gw := az_t 16 (by decide +kernel) (by decide +kernel)
theorem knX2_forget : az_kn yX2_forget cX2_forget 1 none 0 := ⟨az_t 668 (by decide +kernel) (by decide +kernel), az_t 3 (by decide +kernel) (by decide +kernel), by decide +kernel, by decide +kernel, by decide +kernel⟩
theorem imX2_forget : Cond.instanceMethod yX2_forget ∈ az_gw := az_t 667 (by decide +kernel) (by decide +kernel)
theorem seX2_forget : Cond.selects RX2 yX2_forget yX2_forget ∈ az_gw := az_s 33 (by decide +kernel) (by decide +kernel)
theorem mNRX11_83 : Cond.methodLinkNest RX11 83 yX2_forget "UnitCommitment" ∈ az_nest := az_n 665 (by decide +kernel) rfl
theorem knX8_startAnew : az_kn yX8_startAnew cX8_startAnew 5 none 2 := ⟨az_t 47 (by decide +kernel) (by decide +kernel), az_t 2 (by decide +kernel) (by decide +kernel), by decide +kernel, by decide +kernel, by decide +kernel⟩
theorem imX8_startAnew : Cond.instanceMethod yX8_startAnew ∈ az_gw := az_t 46 (by decide +kernel) (by decide +kernel)
theorem seX8_startAnew : Cond.selects RX8 yX8_startAnew yX8_startAnew ∈ az_gw := az_s 0 (by decide +kernel) (by decide +kernel)
theorem mNRX11_79 : Cond.methodLinkNest RX11 79 yX8_startAnew "UnitCommitment" ∈ az_nest := az_n 664 (by decide +kernel) rfl
theorem thkRX11_93 : Cond.classLink RX11 93 "java/lang/IndexOutOfBoundsException" ∈ az_gw := az_t 717 (by decide +kernel) (by decide +kernel)
theorem thi_IndexOutOfBoundsException : Cond.initialized "java/lang/IndexOutOfBoundsException" ∈ az_gw := az_t 17 (by decide +kernel) (by decide +kernel)
theorem mFRX11_99 : Cond.fieldLink RX11 99 "UnitCommitment$State" "demand" "[[I" ∈ az_gw := az_t 91 (by decide +kernel) (by decide +kernel)
theorem knX11_isHour : az_kn yX11_isHour cX11_isHour 2 (some .boolean) 1 := ⟨az_t 716 (by decide +kernel) (by decide +kernel), az_t 1 (by decide +kernel) (by decide +kernel), by decide +kernel, by decide +kernel, by decide +kernel⟩
theorem imX11_isHour : Cond.instanceMethod yX11_isHour ∈ az_gw := az_t 715 (by decide +kernel) (by decide +kernel)
theorem seX11_isHour : Cond.selects RX11 yX11_isHour yX11_isHour ∈ az_gw := az_s 35 (by decide +kernel) (by decide +kernel)
theorem mLRX11_90 : Cond.methodLink RX11 90 yX11_isHour ∈ az_gw := az_t 713 (by decide +kernel) (by decide +kernel)
theorem knX11_isBus : az_kn yX11_isBus cX11_isBus 2 (some .boolean) 1 := ⟨az_t 712 (by decide +kernel) (by decide +kernel), az_t 1 (by decide +kernel) (by decide +kernel), by decide +kernel, by decide +kernel, by decide +kernel⟩
theorem imX11_isBus : Cond.instanceMethod yX11_isBus ∈ az_gw := az_t 711 (by decide +kernel) (by decide +kernel)
theorem seX11_isBus : Cond.selects RX11 yX11_isBus yX11_isBus ∈ az_gw := az_s 34 (by decide +kernel) (by decide +kernel)
theorem mLRX11_86 : Cond.methodLink RX11 86 yX11_isBus ∈ az_gw := az_t 709 (by decide +kernel) (by decide +kernel)
theorem mFRX11_103 : Cond.fieldLink RX11 103 "UnitCommitment$State" "reserve" "[I" ∈ az_gw := az_t 95 (by decide +kernel) (by decide +kernel)
theorem mFRX11_107 : Cond.fieldLink RX11 107 "UnitCommitment$State" "limit" "[I" ∈ az_gw := az_t 103 (by decide +kernel) (by decide +kernel)
theorem mFRX11_110 : Cond.fieldLink RX11 110 "UnitCommitment$State" "parent" "[I" ∈ az_gw := az_t 99 (by decide +kernel) (by decide +kernel)
theorem knX8_fillUnit : az_kn yX8_fillUnit cX8_fillUnit 8 none 6 := ⟨az_t 773 (by decide +kernel) (by decide +kernel), az_t 2 (by decide +kernel) (by decide +kernel), by decide +kernel, by decide +kernel, by decide +kernel⟩
theorem imX8_fillUnit : Cond.instanceMethod yX8_fillUnit ∈ az_gw := az_t 772 (by decide +kernel) (by decide +kernel)
theorem seX8_fillUnit : Cond.selects RX8 yX8_fillUnit yX8_fillUnit ∈ az_gw := az_s 36 (by decide +kernel) (by decide +kernel)
theorem mNRX11_122 : Cond.methodLinkNest RX11 122 yX8_fillUnit "UnitCommitment" ∈ az_nest := az_n 770 (by decide +kernel) rfl
theorem thkRX11_119 : Cond.classLink RX11 119 "java/lang/IllegalStateException" ∈ az_gw := az_t 755 (by decide +kernel) (by decide +kernel)
theorem thi_IllegalStateException : Cond.initialized "java/lang/IllegalStateException" ∈ az_gw := az_t 22 (by decide +kernel) (by decide +kernel)
theorem mLRX11_113 : Cond.methodLink RX11 113 Lib.Math.max.name ∈ az_gw := az_t 754 (by decide +kernel) (by decide +kernel)
theorem mFRX11_129 : Cond.fieldLink RX11 129 "UnitCommitment$State" "unit" "[[I" ∈ az_gw := az_t 82 (by decide +kernel) (by decide +kernel)
theorem knX11_fitsTerm : az_kn yX11_fitsTerm cX11_fitsTerm 3 (some .boolean) 3 := ⟨az_t 787 (by decide +kernel) (by decide +kernel), az_t 1 (by decide +kernel) (by decide +kernel), by decide +kernel, by decide +kernel, by decide +kernel⟩
theorem stX11_fitsTerm : Cond.static yX11_fitsTerm ∈ az_gw := az_t 786 (by decide +kernel) (by decide +kernel)
theorem mLRX11_132 : Cond.methodLink RX11 132 yX11_fitsTerm ∈ az_gw := az_t 785 (by decide +kernel) (by decide +kernel)
theorem knX11_isUnit : az_kn yX11_isUnit cX11_isUnit 2 (some .boolean) 1 := ⟨az_t 784 (by decide +kernel) (by decide +kernel), az_t 1 (by decide +kernel) (by decide +kernel), by decide +kernel, by decide +kernel, by decide +kernel⟩
theorem imX11_isUnit : Cond.instanceMethod yX11_isUnit ∈ az_gw := az_t 783 (by decide +kernel) (by decide +kernel)
theorem seX11_isUnit : Cond.selects RX11 yX11_isUnit yX11_isUnit ∈ az_gw := az_s 37 (by decide +kernel) (by decide +kernel)
theorem mLRX11_126 : Cond.methodLink RX11 126 yX11_isUnit ∈ az_gw := az_t 781 (by decide +kernel) (by decide +kernel)
theorem mFRX11_139 : Cond.fieldLink RX11 139 "UnitCommitment$Outcome" "times" "LUnitCommitment$Times;" ∈ az_gw := az_t 233 (by decide +kernel) (by decide +kernel)
theorem knX9_hoursRun : az_kn yX9_hoursRun cX9_hoursRun 5 (some .int) 2 := ⟨az_t 798 (by decide +kernel) (by decide +kernel), az_t 6 (by decide +kernel) (by decide +kernel), by decide +kernel, by decide +kernel, by decide +kernel⟩
theorem imX9_hoursRun : Cond.instanceMethod yX9_hoursRun ∈ az_gw := az_t 797 (by decide +kernel) (by decide +kernel)
theorem seX9_hoursRun : Cond.selects RX9 yX9_hoursRun yX9_hoursRun ∈ az_gw := az_s 38 (by decide +kernel) (by decide +kernel)
theorem mNRX11_146 : Cond.methodLinkNest RX11 146 yX9_hoursRun "UnitCommitment" ∈ az_nest := az_n 795 (by decide +kernel) rfl
theorem mLRX11_151 : Cond.methodLink RX11 151 yJ6_bitCount_0f7a4 ∈ az_gw := az_t 806 (by decide +kernel) (by decide +kernel)
theorem mFRX11_160 : Cond.fieldLink RX11 160 "UnitCommitment$State" "outage" "[[I" ∈ az_gw := az_t 87 (by decide +kernel) (by decide +kernel)
theorem mLRX11_166 : Cond.methodLink RX11 166 arraycopyName ∈ az_gw := az_t 825 (by decide +kernel) (by decide +kernel)
theorem knX11_isOutage : az_kn yX11_isOutage cX11_isOutage 2 (some .boolean) 1 := ⟨az_t 824 (by decide +kernel) (by decide +kernel), az_t 1 (by decide +kernel) (by decide +kernel), by decide +kernel, by decide +kernel, by decide +kernel⟩
theorem imX11_isOutage : Cond.instanceMethod yX11_isOutage ∈ az_gw := az_t 823 (by decide +kernel) (by decide +kernel)
theorem seX11_isOutage : Cond.selects RX11 yX11_isOutage yX11_isOutage ∈ az_gw := az_s 39 (by decide +kernel) (by decide +kernel)
theorem mLRX11_163 : Cond.methodLink RX11 163 yX11_isOutage ∈ az_gw := az_t 821 (by decide +kernel) (by decide +kernel)
theorem mFRX11_172 : Cond.fieldLink RX11 172 "UnitCommitment$State" "policy" "I" ∈ az_gw := az_t 63 (by decide +kernel) (by decide +kernel)
theorem mFRX11_175 : Cond.fieldLink RX11 175 "UnitCommitment$Outcome" "crew" "LUnitCommitment$Crew;" ∈ az_gw := az_t 227 (by decide +kernel) (by decide +kernel)
theorem mFRX11_184 : Cond.fieldLink RX11 184 "UnitCommitment$Crew" "end" "[I" ∈ az_gw := az_t 163 (by decide +kernel) (by decide +kernel)
theorem mFRX11_179 : Cond.fieldLink RX11 179 "UnitCommitment$Crew" "begin" "[I" ∈ az_gw := az_t 161 (by decide +kernel) (by decide +kernel)
theorem mFRX11_50 : Cond.fieldLink RX11 50 "UnitCommitment" "search" "LUnitCommitment$Search;" ∈ az_gw := az_t 368 (by decide +kernel) (by decide +kernel)
theorem iIRX11_6 : az_isI 12 6 = false := by decide +kernel
theorem mFRX11_198 : Cond.fieldLink RX11 198 "UnitCommitment$Search" "found" "Z" ∈ az_gw := az_t 329 (by decide +kernel) (by decide +kernel)
theorem mFRX11_205 : Cond.fieldLink RX11 205 "UnitCommitment$Search" "bestSum" "I" ∈ az_gw := az_t 327 (by decide +kernel) (by decide +kernel)
theorem knX7_writePlan : az_kn yX7_writePlan cX7_writePlan 5 none 1 := ⟨az_t 892 (by decide +kernel) (by decide +kernel), az_t 10 (by decide +kernel) (by decide +kernel), by decide +kernel, by decide +kernel, by decide +kernel⟩
theorem imX7_writePlan : Cond.instanceMethod yX7_writePlan ∈ az_gw := az_t 891 (by decide +kernel) (by decide +kernel)
theorem seX7_writePlan : Cond.selects RX7 yX7_writePlan yX7_writePlan ∈ az_gw := az_s 45 (by decide +kernel) (by decide +kernel)
theorem mNRX11_201 : Cond.methodLinkNest RX11 201 yX7_writePlan "UnitCommitment" ∈ az_nest := az_n 889 (by decide +kernel) rfl
theorem knX7_look : az_kn yX7_look cX7_look 6 none 2 := ⟨az_t 866 (by decide +kernel) (by decide +kernel), az_t 10 (by decide +kernel) (by decide +kernel), by decide +kernel, by decide +kernel, by decide +kernel⟩
theorem imX7_look : Cond.instanceMethod yX7_look ∈ az_gw := az_t 865 (by decide +kernel) (by decide +kernel)
theorem seX7_look : Cond.selects RX7 yX7_look yX7_look ∈ az_gw := az_s 40 (by decide +kernel) (by decide +kernel)
theorem mNRX11_194 : Cond.methodLinkNest RX11 194 yX7_look "UnitCommitment" ∈ az_nest := az_n 863 (by decide +kernel) rfl
theorem thkRX11_191 : Cond.classLink RX11 191 "java/lang/UnsupportedOperationException" ∈ az_gw := az_t 848 (by decide +kernel) (by decide +kernel)
theorem thi_UnsupportedOperationException : Cond.initialized "java/lang/UnsupportedOperationException" ∈ az_gw := az_t 24 (by decide +kernel) (by decide +kernel)
theorem mFRX11_57 : Cond.fieldLink RX11 57 "UnitCommitment" "text" "LUnitCommitment$PlanText;" ∈ az_gw := az_t 369 (by decide +kernel) (by decide +kernel)
theorem iIRX11_7 : az_isI 12 7 = false := by decide +kernel
theorem mFRX11_208 : Cond.fieldLink RX11 208 "UnitCommitment$PlanText" "length" "I" ∈ az_gw := az_t 351 (by decide +kernel) (by decide +kernel)
theorem knX5_add : az_kn yX5_add cX5_add 2 none 1 := ⟨az_t 903 (by decide +kernel) (by decide +kernel), az_t 11 (by decide +kernel) (by decide +kernel), by decide +kernel, by decide +kernel, by decide +kernel⟩
theorem imX5_add : Cond.instanceMethod yX5_add ∈ az_gw := az_t 902 (by decide +kernel) (by decide +kernel)
theorem seX5_add : Cond.selects RX5 yX5_add yX5_add ∈ az_gw := az_s 46 (by decide +kernel) (by decide +kernel)
theorem mNRX11_211 : Cond.methodLinkNest RX11 211 yX5_add "UnitCommitment" ∈ az_nest := az_n 900 (by decide +kernel) rfl
theorem knX5_writePlan : az_kn yX5_writePlan cX5_writePlan 5 none 1 := ⟨az_t 930 (by decide +kernel) (by decide +kernel), az_t 11 (by decide +kernel) (by decide +kernel), by decide +kernel, by decide +kernel, by decide +kernel⟩
theorem imX5_writePlan : Cond.instanceMethod yX5_writePlan ∈ az_gw := az_t 929 (by decide +kernel) (by decide +kernel)
theorem seX5_writePlan : Cond.selects RX5 yX5_writePlan yX5_writePlan ∈ az_gw := az_s 50 (by decide +kernel) (by decide +kernel)
theorem mNRX11_224 : Cond.methodLinkNest RX11 224 yX5_writePlan "UnitCommitment" ∈ az_nest := az_n 927 (by decide +kernel) rfl
theorem knX5_rows : az_kn yX5_rows cX5_rows 2 (some .int) 1 := ⟨az_t 926 (by decide +kernel) (by decide +kernel), az_t 11 (by decide +kernel) (by decide +kernel), by decide +kernel, by decide +kernel, by decide +kernel⟩
theorem imX5_rows : Cond.instanceMethod yX5_rows ∈ az_gw := az_t 925 (by decide +kernel) (by decide +kernel)
theorem seX5_rows : Cond.selects RX5 yX5_rows yX5_rows ∈ az_gw := az_s 49 (by decide +kernel) (by decide +kernel)
theorem mNRX11_221 : Cond.methodLinkNest RX11 221 yX5_rows "UnitCommitment" ∈ az_nest := az_n 923 (by decide +kernel) rfl
theorem knX5_greatestUnit : az_kn yX5_greatestUnit cX5_greatestUnit 4 (some .int) 1 := ⟨az_t 921 (by decide +kernel) (by decide +kernel), az_t 11 (by decide +kernel) (by decide +kernel), by decide +kernel, by decide +kernel, by decide +kernel⟩
theorem imX5_greatestUnit : Cond.instanceMethod yX5_greatestUnit ∈ az_gw := az_t 920 (by decide +kernel) (by decide +kernel)
theorem seX5_greatestUnit : Cond.selects RX5 yX5_greatestUnit yX5_greatestUnit ∈ az_gw := az_s 48 (by decide +kernel) (by decide +kernel)
theorem mNRX11_218 : Cond.methodLinkNest RX11 218 yX5_greatestUnit "UnitCommitment" ∈ az_nest := az_n 918 (by decide +kernel) rfl
theorem knX5_isWellFormed : az_kn yX5_isWellFormed cX5_isWellFormed 4 (some .boolean) 1 := ⟨az_t 914 (by decide +kernel) (by decide +kernel), az_t 11 (by decide +kernel) (by decide +kernel), by decide +kernel, by decide +kernel, by decide +kernel⟩
theorem imX5_isWellFormed : Cond.instanceMethod yX5_isWellFormed ∈ az_gw := az_t 913 (by decide +kernel) (by decide +kernel)
theorem seX5_isWellFormed : Cond.selects RX5 yX5_isWellFormed yX5_isWellFormed ∈ az_gw := az_s 47 (by decide +kernel) (by decide +kernel)
theorem mNRX11_215 : Cond.methodLinkNest RX11 215 yX5_isWellFormed "UnitCommitment" ∈ az_nest := az_n 911 (by decide +kernel) rfl
theorem mFRX11_225 : Cond.fieldLink RX11 225 "UnitCommitment$PlanText" "errorAt" "I" ∈ az_gw := az_t 353 (by decide +kernel) (by decide +kernel)
theorem thkRX11_228 : Cond.classLink RX11 228 "java/util/NoSuchElementException" ∈ az_gw := az_t 939 (by decide +kernel) (by decide +kernel)
theorem thi_NoSuchElementException : Cond.initialized "java/util/NoSuchElementException" ∈ az_gw := az_t 25 (by decide +kernel) (by decide +kernel)
theorem mFRX11_231 : Cond.fieldLink RX11 231 "UnitCommitment$Outcome" "output" "[[I" ∈ az_gw := az_t 238 (by decide +kernel) (by decide +kernel)
theorem mFRX11_234 : Cond.fieldLink RX11 234 "UnitCommitment$Outcome" "low" "[[I" ∈ az_gw := az_t 240 (by decide +kernel) (by decide +kernel)
theorem mFRX11_237 : Cond.fieldLink RX11 237 "UnitCommitment$Outcome" "high" "[[I" ∈ az_gw := az_t 242 (by decide +kernel) (by decide +kernel)
theorem mFRX11_240 : Cond.fieldLink RX11 240 "UnitCommitment$Outcome" "spilled" "[[I" ∈ az_gw := az_t 245 (by decide +kernel) (by decide +kernel)
theorem mFRX11_243 : Cond.fieldLink RX11 243 "UnitCommitment$Outcome" "startCost" "[[I" ∈ az_gw := az_t 248 (by decide +kernel) (by decide +kernel)
theorem mFRX11_246 : Cond.fieldLink RX11 246 "UnitCommitment$Times" "up" "[[I" ∈ az_gw := az_t 187 (by decide +kernel) (by decide +kernel)
theorem mFRX11_249 : Cond.fieldLink RX11 249 "UnitCommitment$Times" "rest" "[[I" ∈ az_gw := az_t 190 (by decide +kernel) (by decide +kernel)
theorem mFRX11_252 : Cond.fieldLink RX11 252 "UnitCommitment$Outcome" "grid" "LUnitCommitment$Grid;" ∈ az_gw := az_t 236 (by decide +kernel) (by decide +kernel)
theorem mFRX11_256 : Cond.fieldLink RX11 256 "UnitCommitment$Grid" "got" "[[I" ∈ az_gw := az_t 214 (by decide +kernel) (by decide +kernel)
theorem mFRX11_261 : Cond.fieldLink RX11 261 "UnitCommitment$Grid" "unmet" "[[I" ∈ az_gw := az_t 208 (by decide +kernel) (by decide +kernel)
theorem mFRX11_264 : Cond.fieldLink RX11 264 "UnitCommitment$Grid" "flow" "[[I" ∈ az_gw := az_t 211 (by decide +kernel) (by decide +kernel)
theorem knX11_sumOf : az_kn yX11_sumOf cX11_sumOf 4 (some .int) 1 := ⟨az_t 992 (by decide +kernel) (by decide +kernel), az_t 1 (by decide +kernel) (by decide +kernel), by decide +kernel, by decide +kernel, by decide +kernel⟩
theorem imX11_sumOf : Cond.instanceMethod yX11_sumOf ∈ az_gw := az_t 991 (by decide +kernel) (by decide +kernel)
theorem seX11_sumOf : Cond.selects RX11 yX11_sumOf yX11_sumOf ∈ az_gw := az_s 51 (by decide +kernel) (by decide +kernel)
theorem mLRX11_270 : Cond.methodLink RX11 270 yX11_sumOf ∈ az_gw := az_t 989 (by decide +kernel) (by decide +kernel)
theorem mFRX11_276 : Cond.fieldLink RX11 276 "UnitCommitment$Violations" "ofKind" "[I" ∈ az_gw := az_t 289 (by decide +kernel) (by decide +kernel)
theorem mFRX11_273 : Cond.fieldLink RX11 273 "UnitCommitment$Violations" "count" "I" ∈ az_gw := az_t 291 (by decide +kernel) (by decide +kernel)
theorem mFRX11_285 : Cond.fieldLink RX11 285 "UnitCommitment$Violations" "unit" "[I" ∈ az_gw := az_t 287 (by decide +kernel) (by decide +kernel)
theorem mFRX11_279 : Cond.fieldLink RX11 279 "UnitCommitment$Violations" "hour" "[I" ∈ az_gw := az_t 283 (by decide +kernel) (by decide +kernel)
theorem mFRX11_282 : Cond.fieldLink RX11 282 "UnitCommitment$Violations" "kind" "[I" ∈ az_gw := az_t 285 (by decide +kernel) (by decide +kernel)
theorem thkRX11_287 : Cond.classLink RX11 287 "java/lang/ArithmeticException" ∈ az_gw := az_t 1028 (by decide +kernel) (by decide +kernel)
theorem thi_ArithmeticException : Cond.initialized "java/lang/ArithmeticException" ∈ az_gw := az_t 26 (by decide +kernel) (by decide +kernel)
theorem mFRX11_296 : Cond.fieldLink RX11 296 "UnitCommitment$History" "count" "I" ∈ az_gw := az_t 140 (by decide +kernel) (by decide +kernel)
theorem knX2_takeBack : az_kn yX2_takeBack cX2_takeBack 2 none 1 := ⟨az_t 1050 (by decide +kernel) (by decide +kernel), az_t 3 (by decide +kernel) (by decide +kernel), by decide +kernel, by decide +kernel, by decide +kernel⟩
theorem imX2_takeBack : Cond.instanceMethod yX2_takeBack ∈ az_gw := az_t 1049 (by decide +kernel) (by decide +kernel)
theorem seX2_takeBack : Cond.selects RX2 yX2_takeBack yX2_takeBack ∈ az_gw := az_s 52 (by decide +kernel) (by decide +kernel)
theorem mNRX11_297 : Cond.methodLinkNest RX11 297 yX2_takeBack "UnitCommitment" ∈ az_nest := az_n 1047 (by decide +kernel) rfl
theorem knX11_size : az_kn yX11_size cX11_size 4 (some .int) 2 := ⟨az_t 592 (by decide +kernel) (by decide +kernel), az_t 1 (by decide +kernel) (by decide +kernel), by decide +kernel, by decide +kernel, by decide +kernel⟩
theorem imX11_size : Cond.instanceMethod yX11_size ∈ az_gw := az_t 590 (by decide +kernel) (by decide +kernel)
theorem seX11_size : Cond.selects RX11 yX11_size yX11_size ∈ az_gw := az_t 591 (by decide +kernel) (by decide +kernel)
theorem mLRL_7 : Cond.methodLink RL 7 yX11_size ∈ az_gw := az_t 589 (by decide +kernel) (by decide +kernel)
theorem thkRL_13 : Cond.classLink RL 13 "java/lang/IllegalArgumentException" ∈ az_gw := az_t 588 (by decide +kernel) (by decide +kernel)
theorem knX11_setDemand : az_kn yX11_setDemand cX11_setDemand 5 (some .int) 3 := ⟨az_t 708 (by decide +kernel) (by decide +kernel), az_t 1 (by decide +kernel) (by decide +kernel), by decide +kernel, by decide +kernel, by decide +kernel⟩
theorem imX11_setDemand : Cond.instanceMethod yX11_setDemand ∈ az_gw := az_t 706 (by decide +kernel) (by decide +kernel)
theorem seX11_setDemand : Cond.selects RX11 yX11_setDemand yX11_setDemand ∈ az_gw := az_t 707 (by decide +kernel) (by decide +kernel)
theorem mLRL_15 : Cond.methodLink RL 15 yX11_setDemand ∈ az_gw := az_t 705 (by decide +kernel) (by decide +kernel)
theorem thkRL_19 : Cond.classLink RL 19 "java/lang/IndexOutOfBoundsException" ∈ az_gw := az_t 672 (by decide +kernel) (by decide +kernel)
theorem knX11_setReserve : az_kn yX11_setReserve cX11_setReserve 4 (some .int) 2 := ⟨az_t 738 (by decide +kernel) (by decide +kernel), az_t 1 (by decide +kernel) (by decide +kernel), by decide +kernel, by decide +kernel, by decide +kernel⟩
theorem imX11_setReserve : Cond.instanceMethod yX11_setReserve ∈ az_gw := az_t 736 (by decide +kernel) (by decide +kernel)
theorem seX11_setReserve : Cond.selects RX11 yX11_setReserve yX11_setReserve ∈ az_gw := az_t 737 (by decide +kernel) (by decide +kernel)
theorem mLRL_21 : Cond.methodLink RL 21 yX11_setReserve ∈ az_gw := az_t 735 (by decide +kernel) (by decide +kernel)
theorem knX11_setLine : az_kn yX11_setLine cX11_setLine 5 (some .int) 3 := ⟨az_t 745 (by decide +kernel) (by decide +kernel), az_t 1 (by decide +kernel) (by decide +kernel), by decide +kernel, by decide +kernel, by decide +kernel⟩
theorem imX11_setLine : Cond.instanceMethod yX11_setLine ∈ az_gw := az_t 743 (by decide +kernel) (by decide +kernel)
theorem seX11_setLine : Cond.selects RX11 yX11_setLine yX11_setLine ∈ az_gw := az_t 744 (by decide +kernel) (by decide +kernel)
theorem mLRL_24 : Cond.methodLink RL 24 yX11_setLine ∈ az_gw := az_t 742 (by decide +kernel) (by decide +kernel)
theorem knX11_addUnit : az_kn yX11_addUnit cX11_addUnit 7 (some .int) 5 := ⟨az_t 753 (by decide +kernel) (by decide +kernel), az_t 1 (by decide +kernel) (by decide +kernel), by decide +kernel, by decide +kernel, by decide +kernel⟩
theorem imX11_addUnit : Cond.instanceMethod yX11_addUnit ∈ az_gw := az_t 751 (by decide +kernel) (by decide +kernel)
theorem seX11_addUnit : Cond.selects RX11 yX11_addUnit yX11_addUnit ∈ az_gw := az_t 752 (by decide +kernel) (by decide +kernel)
theorem mLRL_27 : Cond.methodLink RL 27 yX11_addUnit ∈ az_gw := az_t 750 (by decide +kernel) (by decide +kernel)
theorem thkRL_31 : Cond.classLink RL 31 "java/lang/IllegalStateException" ∈ az_gw := az_t 749 (by decide +kernel) (by decide +kernel)
theorem knX11_setUnit : az_kn yX11_setUnit cX11_setUnit 6 (some .int) 3 := ⟨az_t 780 (by decide +kernel) (by decide +kernel), az_t 1 (by decide +kernel) (by decide +kernel), by decide +kernel, by decide +kernel, by decide +kernel⟩
theorem imX11_setUnit : Cond.instanceMethod yX11_setUnit ∈ az_gw := az_t 778 (by decide +kernel) (by decide +kernel)
theorem seX11_setUnit : Cond.selects RX11 yX11_setUnit yX11_setUnit ∈ az_gw := az_t 779 (by decide +kernel) (by decide +kernel)
theorem mLRL_33 : Cond.methodLink RL 33 yX11_setUnit ∈ az_gw := az_t 777 (by decide +kernel) (by decide +kernel)
theorem knX11_unit : az_kn yX11_unit cX11_unit 3 (some .int) 2 := ⟨az_t 794 (by decide +kernel) (by decide +kernel), az_t 1 (by decide +kernel) (by decide +kernel), by decide +kernel, by decide +kernel, by decide +kernel⟩
theorem imX11_unit : Cond.instanceMethod yX11_unit ∈ az_gw := az_t 792 (by decide +kernel) (by decide +kernel)
theorem seX11_unit : Cond.selects RX11 yX11_unit yX11_unit ∈ az_gw := az_t 793 (by decide +kernel) (by decide +kernel)
theorem mLRL_36 : Cond.methodLink RL 36 yX11_unit ∈ az_gw := az_t 791 (by decide +kernel) (by decide +kernel)
theorem knX11_commit : az_kn yX11_commit cX11_commit 8 (some .int) 4 := ⟨az_t 805 (by decide +kernel) (by decide +kernel), az_t 1 (by decide +kernel) (by decide +kernel), by decide +kernel, by decide +kernel, by decide +kernel⟩
theorem imX11_commit : Cond.instanceMethod yX11_commit ∈ az_gw := az_t 803 (by decide +kernel) (by decide +kernel)
theorem seX11_commit : Cond.selects RX11 yX11_commit yX11_commit ∈ az_gw := az_t 804 (by decide +kernel) (by decide +kernel)
theorem mLRL_39 : Cond.methodLink RL 39 yX11_commit ∈ az_gw := az_t 802 (by decide +kernel) (by decide +kernel)
theorem knX11_addOutage : az_kn yX11_addOutage cX11_addOutage 5 (some .int) 3 := ⟨az_t 813 (by decide +kernel) (by decide +kernel), az_t 1 (by decide +kernel) (by decide +kernel), by decide +kernel, by decide +kernel, by decide +kernel⟩
theorem imX11_addOutage : Cond.instanceMethod yX11_addOutage ∈ az_gw := az_t 811 (by decide +kernel) (by decide +kernel)
theorem seX11_addOutage : Cond.selects RX11 yX11_addOutage yX11_addOutage ∈ az_gw := az_t 812 (by decide +kernel) (by decide +kernel)
theorem mLRL_43 : Cond.methodLink RL 43 yX11_addOutage ∈ az_gw := az_t 810 (by decide +kernel) (by decide +kernel)
theorem knX11_removeOutage : az_kn yX11_removeOutage cX11_removeOutage 3 (some .int) 1 := ⟨az_t 820 (by decide +kernel) (by decide +kernel), az_t 1 (by decide +kernel) (by decide +kernel), by decide +kernel, by decide +kernel, by decide +kernel⟩
theorem imX11_removeOutage : Cond.instanceMethod yX11_removeOutage ∈ az_gw := az_t 818 (by decide +kernel) (by decide +kernel)
theorem seX11_removeOutage : Cond.selects RX11 yX11_removeOutage yX11_removeOutage ∈ az_gw := az_t 819 (by decide +kernel) (by decide +kernel)
theorem mLRL_46 : Cond.methodLink RL 46 yX11_removeOutage ∈ az_gw := az_t 817 (by decide +kernel) (by decide +kernel)
theorem knX11_setPolicy : az_kn yX11_setPolicy cX11_setPolicy 3 (some .int) 1 := ⟨az_t 832 (by decide +kernel) (by decide +kernel), az_t 1 (by decide +kernel) (by decide +kernel), by decide +kernel, by decide +kernel, by decide +kernel⟩
theorem imX11_setPolicy : Cond.instanceMethod yX11_setPolicy ∈ az_gw := az_t 830 (by decide +kernel) (by decide +kernel)
theorem seX11_setPolicy : Cond.selects RX11 yX11_setPolicy yX11_setPolicy ∈ az_gw := az_t 831 (by decide +kernel) (by decide +kernel)
theorem mLRL_50 : Cond.methodLink RL 50 yX11_setPolicy ∈ az_gw := az_t 829 (by decide +kernel) (by decide +kernel)
theorem knX11_outage : az_kn yX11_outage cX11_outage 3 (some .int) 2 := ⟨az_t 839 (by decide +kernel) (by decide +kernel), az_t 1 (by decide +kernel) (by decide +kernel), by decide +kernel, by decide +kernel, by decide +kernel⟩
theorem imX11_outage : Cond.instanceMethod yX11_outage ∈ az_gw := az_t 837 (by decide +kernel) (by decide +kernel)
theorem seX11_outage : Cond.selects RX11 yX11_outage yX11_outage ∈ az_gw := az_t 838 (by decide +kernel) (by decide +kernel)
theorem mLRL_53 : Cond.methodLink RL 53 yX11_outage ∈ az_gw := az_t 836 (by decide +kernel) (by decide +kernel)
theorem knX11_search : az_kn yX11_search cX11_search 1 (some .int) 0 := ⟨az_t 847 (by decide +kernel) (by decide +kernel), az_t 1 (by decide +kernel) (by decide +kernel), by decide +kernel, by decide +kernel, by decide +kernel⟩
theorem imX11_search : Cond.instanceMethod yX11_search ∈ az_gw := az_t 845 (by decide +kernel) (by decide +kernel)
theorem seX11_search : Cond.selects RX11 yX11_search yX11_search ∈ az_gw := az_t 846 (by decide +kernel) (by decide +kernel)
theorem mLRL_56 : Cond.methodLink RL 56 yX11_search ∈ az_gw := az_t 844 (by decide +kernel) (by decide +kernel)
theorem thkRL_60 : Cond.classLink RL 60 "java/lang/UnsupportedOperationException" ∈ az_gw := az_t 843 (by decide +kernel) (by decide +kernel)
theorem knX11_append : az_kn yX11_append cX11_append 2 (some .int) 1 := ⟨az_t 899 (by decide +kernel) (by decide +kernel), az_t 1 (by decide +kernel) (by decide +kernel), by decide +kernel, by decide +kernel, by decide +kernel⟩
theorem imX11_append : Cond.instanceMethod yX11_append ∈ az_gw := az_t 897 (by decide +kernel) (by decide +kernel)
theorem seX11_append : Cond.selects RX11 yX11_append yX11_append ∈ az_gw := az_t 898 (by decide +kernel) (by decide +kernel)
theorem mLRL_62 : Cond.methodLink RL 62 yX11_append ∈ az_gw := az_t 896 (by decide +kernel) (by decide +kernel)
theorem knX11_readPlan : az_kn yX11_readPlan cX11_readPlan 4 (some .int) 0 := ⟨az_t 910 (by decide +kernel) (by decide +kernel), az_t 1 (by decide +kernel) (by decide +kernel), by decide +kernel, by decide +kernel, by decide +kernel⟩
theorem imX11_readPlan : Cond.instanceMethod yX11_readPlan ∈ az_gw := az_t 908 (by decide +kernel) (by decide +kernel)
theorem seX11_readPlan : Cond.selects RX11 yX11_readPlan yX11_readPlan ∈ az_gw := az_t 909 (by decide +kernel) (by decide +kernel)
theorem mLRL_66 : Cond.methodLink RL 66 yX11_readPlan ∈ az_gw := az_t 907 (by decide +kernel) (by decide +kernel)
theorem knX11_errorPosition : az_kn yX11_errorPosition cX11_errorPosition 1 (some .int) 0 := ⟨az_t 938 (by decide +kernel) (by decide +kernel), az_t 1 (by decide +kernel) (by decide +kernel), by decide +kernel, by decide +kernel, by decide +kernel⟩
theorem imX11_errorPosition : Cond.instanceMethod yX11_errorPosition ∈ az_gw := az_t 936 (by decide +kernel) (by decide +kernel)
theorem seX11_errorPosition : Cond.selects RX11 yX11_errorPosition yX11_errorPosition ∈ az_gw := az_t 937 (by decide +kernel) (by decide +kernel)
theorem mLRL_69 : Cond.methodLink RL 69 yX11_errorPosition ∈ az_gw := az_t 935 (by decide +kernel) (by decide +kernel)
theorem thkRL_72 : Cond.classLink RL 72 "java/util/NoSuchElementException" ∈ az_gw := az_t 934 (by decide +kernel) (by decide +kernel)
theorem knX11_output : az_kn yX11_output cX11_output 4 (some .int) 3 := ⟨az_t 960 (by decide +kernel) (by decide +kernel), az_t 1 (by decide +kernel) (by decide +kernel), by decide +kernel, by decide +kernel, by decide +kernel⟩
theorem imX11_output : Cond.instanceMethod yX11_output ∈ az_gw := az_t 958 (by decide +kernel) (by decide +kernel)
theorem seX11_output : Cond.selects RX11 yX11_output yX11_output ∈ az_gw := az_t 959 (by decide +kernel) (by decide +kernel)
theorem mLRL_74 : Cond.methodLink RL 74 yX11_output ∈ az_gw := az_t 957 (by decide +kernel) (by decide +kernel)
theorem knX11_delivered : az_kn yX11_delivered cX11_delivered 4 (some .int) 3 := ⟨az_t 967 (by decide +kernel) (by decide +kernel), az_t 1 (by decide +kernel) (by decide +kernel), by decide +kernel, by decide +kernel, by decide +kernel⟩
theorem imX11_delivered : Cond.instanceMethod yX11_delivered ∈ az_gw := az_t 965 (by decide +kernel) (by decide +kernel)
theorem seX11_delivered : Cond.selects RX11 yX11_delivered yX11_delivered ∈ az_gw := az_t 966 (by decide +kernel) (by decide +kernel)
theorem mLRL_77 : Cond.methodLink RL 77 yX11_delivered ∈ az_gw := az_t 964 (by decide +kernel) (by decide +kernel)
theorem knX11_bus : az_kn yX11_bus cX11_bus 4 (some .int) 3 := ⟨az_t 974 (by decide +kernel) (by decide +kernel), az_t 1 (by decide +kernel) (by decide +kernel), by decide +kernel, by decide +kernel, by decide +kernel⟩
theorem imX11_bus : Cond.instanceMethod yX11_bus ∈ az_gw := az_t 972 (by decide +kernel) (by decide +kernel)
theorem seX11_bus : Cond.selects RX11 yX11_bus yX11_bus ∈ az_gw := az_t 973 (by decide +kernel) (by decide +kernel)
theorem mLRL_80 : Cond.methodLink RL 80 yX11_bus ∈ az_gw := az_t 971 (by decide +kernel) (by decide +kernel)
theorem knX11_hour : az_kn yX11_hour cX11_hour 3 (some .int) 2 := ⟨az_t 981 (by decide +kernel) (by decide +kernel), az_t 1 (by decide +kernel) (by decide +kernel), by decide +kernel, by decide +kernel, by decide +kernel⟩
theorem imX11_hour : Cond.instanceMethod yX11_hour ∈ az_gw := az_t 979 (by decide +kernel) (by decide +kernel)
theorem seX11_hour : Cond.selects RX11 yX11_hour yX11_hour ∈ az_gw := az_t 980 (by decide +kernel) (by decide +kernel)
theorem mLRL_83 : Cond.methodLink RL 83 yX11_hour ∈ az_gw := az_t 978 (by decide +kernel) (by decide +kernel)
theorem knX11_total : az_kn yX11_total cX11_total 2 (some .int) 1 := ⟨az_t 988 (by decide +kernel) (by decide +kernel), az_t 1 (by decide +kernel) (by decide +kernel), by decide +kernel, by decide +kernel, by decide +kernel⟩
theorem imX11_total : Cond.instanceMethod yX11_total ∈ az_gw := az_t 986 (by decide +kernel) (by decide +kernel)
theorem seX11_total : Cond.selects RX11 yX11_total yX11_total ∈ az_gw := az_t 987 (by decide +kernel) (by decide +kernel)
theorem mLRL_86 : Cond.methodLink RL 86 yX11_total ∈ az_gw := az_t 985 (by decide +kernel) (by decide +kernel)
theorem knX11_violationCount : az_kn yX11_violationCount cX11_violationCount 2 (some .int) 1 := ⟨az_t 999 (by decide +kernel) (by decide +kernel), az_t 1 (by decide +kernel) (by decide +kernel), by decide +kernel, by decide +kernel, by decide +kernel⟩
theorem imX11_violationCount : Cond.instanceMethod yX11_violationCount ∈ az_gw := az_t 997 (by decide +kernel) (by decide +kernel)
theorem seX11_violationCount : Cond.selects RX11 yX11_violationCount yX11_violationCount ∈ az_gw := az_t 998 (by decide +kernel) (by decide +kernel)
theorem mLRL_89 : Cond.methodLink RL 89 yX11_violationCount ∈ az_gw := az_t 996 (by decide +kernel) (by decide +kernel)
theorem knX11_violation : az_kn yX11_violation cX11_violation 3 (some .int) 2 := ⟨az_t 1006 (by decide +kernel) (by decide +kernel), az_t 1 (by decide +kernel) (by decide +kernel), by decide +kernel, by decide +kernel, by decide +kernel⟩
theorem imX11_violation : Cond.instanceMethod yX11_violation ∈ az_gw := az_t 1004 (by decide +kernel) (by decide +kernel)
theorem seX11_violation : Cond.selects RX11 yX11_violation yX11_violation ∈ az_gw := az_t 1005 (by decide +kernel) (by decide +kernel)
theorem mLRL_92 : Cond.methodLink RL 92 yX11_violation ∈ az_gw := az_t 1003 (by decide +kernel) (by decide +kernel)
theorem knX11_meanCost : az_kn yX11_meanCost cX11_meanCost 2 (some .double) 0 := ⟨az_t 1027 (by decide +kernel) (by decide +kernel), az_t 1 (by decide +kernel) (by decide +kernel), by decide +kernel, by decide +kernel, by decide +kernel⟩
theorem imX11_meanCost : Cond.instanceMethod yX11_meanCost ∈ az_gw := az_t 1025 (by decide +kernel) (by decide +kernel)
theorem seX11_meanCost : Cond.selects RX11 yX11_meanCost yX11_meanCost ∈ az_gw := az_t 1026 (by decide +kernel) (by decide +kernel)
theorem mLRL_95 : Cond.methodLink RL 95 yX11_meanCost ∈ az_gw := az_t 1024 (by decide +kernel) (by decide +kernel)
theorem thkRL_99 : Cond.classLink RL 99 "java/lang/ArithmeticException" ∈ az_gw := az_t 1010 (by decide +kernel) (by decide +kernel)
theorem knX11_load : az_kn yX11_load cX11_load 6 (some .float) 1 := ⟨az_t 1039 (by decide +kernel) (by decide +kernel), az_t 1 (by decide +kernel) (by decide +kernel), by decide +kernel, by decide +kernel, by decide +kernel⟩
theorem imX11_load : Cond.instanceMethod yX11_load ∈ az_gw := az_t 1037 (by decide +kernel) (by decide +kernel)
theorem seX11_load : Cond.selects RX11 yX11_load yX11_load ∈ az_gw := az_t 1038 (by decide +kernel) (by decide +kernel)
theorem mLRL_101 : Cond.methodLink RL 101 yX11_load ∈ az_gw := az_t 1036 (by decide +kernel) (by decide +kernel)
theorem knX11_undo : az_kn yX11_undo cX11_undo 1 (some .int) 0 := ⟨az_t 1046 (by decide +kernel) (by decide +kernel), az_t 1 (by decide +kernel) (by decide +kernel), by decide +kernel, by decide +kernel, by decide +kernel⟩
theorem imX11_undo : Cond.instanceMethod yX11_undo ∈ az_gw := az_t 1044 (by decide +kernel) (by decide +kernel)
theorem seX11_undo : Cond.selects RX11 yX11_undo yX11_undo ∈ az_gw := az_t 1045 (by decide +kernel) (by decide +kernel)
theorem mLRL_105 : Cond.methodLink RL 105 yX11_undo ∈ az_gw := az_t 1043 (by decide +kernel) (by decide +kernel)
theorem knX11_restore : az_kn yX11_restore cX11_restore 1 (some .int) 0 := ⟨az_t 1057 (by decide +kernel) (by decide +kernel), az_t 1 (by decide +kernel) (by decide +kernel), by decide +kernel, by decide +kernel, by decide +kernel⟩
theorem imX11_restore : Cond.instanceMethod yX11_restore ∈ az_gw := az_t 1055 (by decide +kernel) (by decide +kernel)
theorem seX11_restore : Cond.selects RX11 yX11_restore yX11_restore ∈ az_gw := az_t 1056 (by decide +kernel) (by decide +kernel)
theorem mLRL_108 : Cond.methodLink RL 108 yX11_restore ∈ az_gw := az_t 1054 (by decide +kernel) (by decide +kernel)
