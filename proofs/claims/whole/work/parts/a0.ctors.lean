/-! by program (wip/whole/gen_ctor.py): the constructors -/
theorem mLRX8_32 : Cond.methodLink RX8 32 yX8_startAnew ∈ az_gw := az_t 44 (by decide +kernel) (by decide +kernel)
theorem acl_int : Cond.arrayClass .int ∈ az_gw := az_t 127 (by decide +kernel) (by decide +kernel)
theorem cksRX8_9 : Cond.classLink RX8 9 "[[I" ∈ az_gw := az_t 42 (by decide +kernel) (by decide +kernel)
theorem mLRX8_3 : Cond.methodLink RX8 3 Lib.objectInit ∈ az_gw := az_t 41 (by decide +kernel) (by decide +kernel)
theorem obj_in : Cond.instanceMethod Lib.objectInit ∈ az_gw := az_t 34 (by decide +kernel) (by decide +kernel)
theorem obj_co : Cond.code Lib.objectInit ⟨#[0xb1]⟩ 1 none ∈ az_gw := az_t 35 (by decide +kernel) (by decide +kernel)
theorem mLRX0_3 : Cond.methodLink RX0 3 Lib.objectInit ∈ az_gw := az_t 159 (by decide +kernel) (by decide +kernel)
theorem cksRX1_9 : Cond.classLink RX1 9 "[[I" ∈ az_gw := az_t 204 (by decide +kernel) (by decide +kernel)
theorem mLRX1_3 : Cond.methodLink RX1 3 Lib.objectInit ∈ az_gw := az_t 203 (by decide +kernel) (by decide +kernel)
theorem cksRX9_15 : Cond.classLink RX9 15 "[[I" ∈ az_gw := az_t 182 (by decide +kernel) (by decide +kernel)
theorem mLRX9_3 : Cond.methodLink RX9 3 Lib.objectInit ∈ az_gw := az_t 181 (by decide +kernel) (by decide +kernel)
theorem mLRX3_3 : Cond.methodLink RX3 3 Lib.objectInit ∈ az_gw := az_t 308 (by decide +kernel) (by decide +kernel)
theorem acl_char : Cond.arrayClass .char ∈ az_gw := az_t 361 (by decide +kernel) (by decide +kernel)
theorem mLRX5_3 : Cond.methodLink RX5 3 Lib.objectInit ∈ az_gw := az_t 348 (by decide +kernel) (by decide +kernel)
theorem mLRX7_3 : Cond.methodLink RX7 3 Lib.objectInit ∈ az_gw := az_t 321 (by decide +kernel) (by decide +kernel)
theorem mLRX10_3 : Cond.methodLink RX10 3 Lib.objectInit ∈ az_gw := az_t 281 (by decide +kernel) (by decide +kernel)
theorem knX8_init : az_kn yX8_init cX8_init 1 none 0 := ⟨az_t 40 (by decide +kernel) (by decide +kernel), az_t 2 (by decide +kernel) (by decide +kernel), by decide +kernel, by decide +kernel, by decide +kernel⟩
theorem imX8_init : Cond.instanceMethod yX8_init ∈ az_gw := az_t 39 (by decide +kernel) (by decide +kernel)
theorem mLRX2_24 : Cond.methodLink RX2 24 yX8_init ∈ az_gw := az_t 136 (by decide +kernel) (by decide +kernel)
theorem ckRX2_9 : Cond.classLink RX2 9 RX8 ∈ az_gw := az_t 134 (by decide +kernel) (by decide +kernel)
theorem cinRX8 : Cond.instantiable RX8 11 ∈ az_gw := az_t 37 (by decide +kernel) (by decide +kernel)
theorem ciniRX8 : Cond.initialized RX8 ∈ az_gw := az_t 2 (by decide +kernel) (by decide +kernel)
theorem cksRX2_9 : Cond.classLink RX2 9 "UnitCommitment$State" ∈ az_gw := az_t 134 (by decide +kernel) (by decide +kernel)
theorem mLRX2_3 : Cond.methodLink RX2 3 Lib.objectInit ∈ az_gw := az_t 133 (by decide +kernel) (by decide +kernel)
theorem cksRX4_32 : Cond.classLink RX4 32 "[[I" ∈ az_gw := az_t 222 (by decide +kernel) (by decide +kernel)
theorem knX1_init : az_kn yX1_init cX1_init 1 none 0 := ⟨az_t 202 (by decide +kernel) (by decide +kernel), az_t 7 (by decide +kernel) (by decide +kernel), by decide +kernel, by decide +kernel, by decide +kernel⟩
theorem imX1_init : Cond.instanceMethod yX1_init ∈ az_gw := az_t 201 (by decide +kernel) (by decide +kernel)
theorem mNRX4_27 : Cond.methodLinkNest RX4 27 yX1_init "UnitCommitment" ∈ az_nest := az_n 200 (by decide +kernel) rfl
theorem ckRX4_25 : Cond.classLink RX4 25 RX1 ∈ az_gw := az_t 198 (by decide +kernel) (by decide +kernel)
theorem cinRX1 : Cond.instantiable RX1 3 ∈ az_gw := az_t 199 (by decide +kernel) (by decide +kernel)
theorem ciniRX1 : Cond.initialized RX1 ∈ az_gw := az_t 7 (by decide +kernel) (by decide +kernel)
theorem knX9_init : az_kn yX9_init cX9_init 1 none 0 := ⟨az_t 180 (by decide +kernel) (by decide +kernel), az_t 6 (by decide +kernel) (by decide +kernel), by decide +kernel, by decide +kernel, by decide +kernel⟩
theorem imX9_init : Cond.instanceMethod yX9_init ∈ az_gw := az_t 179 (by decide +kernel) (by decide +kernel)
theorem mNRX4_20 : Cond.methodLinkNest RX4 20 yX9_init "UnitCommitment" ∈ az_nest := az_n 178 (by decide +kernel) rfl
theorem ckRX4_18 : Cond.classLink RX4 18 RX9 ∈ az_gw := az_t 176 (by decide +kernel) (by decide +kernel)
theorem cinRX9 : Cond.instantiable RX9 3 ∈ az_gw := az_t 177 (by decide +kernel) (by decide +kernel)
theorem ciniRX9 : Cond.initialized RX9 ∈ az_gw := az_t 6 (by decide +kernel) (by decide +kernel)
theorem knX0_init : az_kn yX0_init cX0_init 1 none 0 := ⟨az_t 158 (by decide +kernel) (by decide +kernel), az_t 5 (by decide +kernel) (by decide +kernel), by decide +kernel, by decide +kernel, by decide +kernel⟩
theorem imX0_init : Cond.instanceMethod yX0_init ∈ az_gw := az_t 157 (by decide +kernel) (by decide +kernel)
theorem mNRX4_11 : Cond.methodLinkNest RX4 11 yX0_init "UnitCommitment" ∈ az_nest := az_n 156 (by decide +kernel) rfl
theorem ckRX4_9 : Cond.classLink RX4 9 RX0 ∈ az_gw := az_t 154 (by decide +kernel) (by decide +kernel)
theorem cinRX0 : Cond.instantiable RX0 3 ∈ az_gw := az_t 155 (by decide +kernel) (by decide +kernel)
theorem ciniRX0 : Cond.initialized RX0 ∈ az_gw := az_t 5 (by decide +kernel) (by decide +kernel)
theorem mLRX4_3 : Cond.methodLink RX4 3 Lib.objectInit ∈ az_gw := az_t 153 (by decide +kernel) (by decide +kernel)
theorem knX5_init : az_kn yX5_init cX5_init 1 none 0 := ⟨az_t 347 (by decide +kernel) (by decide +kernel), az_t 11 (by decide +kernel) (by decide +kernel), by decide +kernel, by decide +kernel, by decide +kernel⟩
theorem imX5_init : Cond.instanceMethod yX5_init ∈ az_gw := az_t 346 (by decide +kernel) (by decide +kernel)
theorem mNRX11_56 : Cond.methodLinkNest RX11 56 yX5_init "UnitCommitment" ∈ az_nest := az_n 345 (by decide +kernel) rfl
theorem ckRX11_54 : Cond.classLink RX11 54 RX5 ∈ az_gw := az_t 343 (by decide +kernel) (by decide +kernel)
theorem cinRX5 : Cond.instantiable RX5 3 ∈ az_gw := az_t 344 (by decide +kernel) (by decide +kernel)
theorem ciniRX5 : Cond.initialized RX5 ∈ az_gw := az_t 11 (by decide +kernel) (by decide +kernel)
theorem knX7_init : az_kn yX7_init cX7_init 1 none 0 := ⟨az_t 320 (by decide +kernel) (by decide +kernel), az_t 10 (by decide +kernel) (by decide +kernel), by decide +kernel, by decide +kernel, by decide +kernel⟩
theorem imX7_init : Cond.instanceMethod yX7_init ∈ az_gw := az_t 319 (by decide +kernel) (by decide +kernel)
theorem mNRX11_49 : Cond.methodLinkNest RX11 49 yX7_init "UnitCommitment" ∈ az_nest := az_n 318 (by decide +kernel) rfl
theorem ckRX11_47 : Cond.classLink RX11 47 RX7 ∈ az_gw := az_t 316 (by decide +kernel) (by decide +kernel)
theorem cinRX7 : Cond.instantiable RX7 6 ∈ az_gw := az_t 317 (by decide +kernel) (by decide +kernel)
theorem ciniRX7 : Cond.initialized RX7 ∈ az_gw := az_t 10 (by decide +kernel) (by decide +kernel)
theorem knX3_init : az_kn yX3_init cX3_init 1 none 0 := ⟨az_t 307 (by decide +kernel) (by decide +kernel), az_t 9 (by decide +kernel) (by decide +kernel), by decide +kernel, by decide +kernel, by decide +kernel⟩
theorem imX3_init : Cond.instanceMethod yX3_init ∈ az_gw := az_t 306 (by decide +kernel) (by decide +kernel)
theorem mNRX11_42 : Cond.methodLinkNest RX11 42 yX3_init "UnitCommitment" ∈ az_nest := az_n 305 (by decide +kernel) rfl
theorem ckRX11_40 : Cond.classLink RX11 40 RX3 ∈ az_gw := az_t 303 (by decide +kernel) (by decide +kernel)
theorem cinRX3 : Cond.instantiable RX3 2 ∈ az_gw := az_t 304 (by decide +kernel) (by decide +kernel)
theorem ciniRX3 : Cond.initialized RX3 ∈ az_gw := az_t 9 (by decide +kernel) (by decide +kernel)
theorem knX10_init : az_kn yX10_init cX10_init 1 none 0 := ⟨az_t 280 (by decide +kernel) (by decide +kernel), az_t 8 (by decide +kernel) (by decide +kernel), by decide +kernel, by decide +kernel, by decide +kernel⟩
theorem imX10_init : Cond.instanceMethod yX10_init ∈ az_gw := az_t 279 (by decide +kernel) (by decide +kernel)
theorem mNRX11_35 : Cond.methodLinkNest RX11 35 yX10_init "UnitCommitment" ∈ az_nest := az_n 278 (by decide +kernel) rfl
theorem ckRX11_33 : Cond.classLink RX11 33 RX10 ∈ az_gw := az_t 276 (by decide +kernel) (by decide +kernel)
theorem cinRX10 : Cond.instantiable RX10 5 ∈ az_gw := az_t 277 (by decide +kernel) (by decide +kernel)
theorem ciniRX10 : Cond.initialized RX10 ∈ az_gw := az_t 8 (by decide +kernel) (by decide +kernel)
theorem knX4_init : az_kn yX4_init cX4_init 1 none 0 := ⟨az_t 152 (by decide +kernel) (by decide +kernel), az_t 4 (by decide +kernel) (by decide +kernel), by decide +kernel, by decide +kernel, by decide +kernel⟩
theorem imX4_init : Cond.instanceMethod yX4_init ∈ az_gw := az_t 151 (by decide +kernel) (by decide +kernel)
theorem mNRX11_28 : Cond.methodLinkNest RX11 28 yX4_init "UnitCommitment" ∈ az_nest := az_n 150 (by decide +kernel) rfl
theorem ckRX11_26 : Cond.classLink RX11 26 RX4 ∈ az_gw := az_t 148 (by decide +kernel) (by decide +kernel)
theorem cinRX4 : Cond.instantiable RX4 10 ∈ az_gw := az_t 149 (by decide +kernel) (by decide +kernel)
theorem ciniRX4 : Cond.initialized RX4 ∈ az_gw := az_t 4 (by decide +kernel) (by decide +kernel)
theorem knX2_init : az_kn yX2_init cX2_init 2 none 0 := ⟨az_t 132 (by decide +kernel) (by decide +kernel), az_t 3 (by decide +kernel) (by decide +kernel), by decide +kernel, by decide +kernel, by decide +kernel⟩
theorem imX2_init : Cond.instanceMethod yX2_init ∈ az_gw := az_t 131 (by decide +kernel) (by decide +kernel)
theorem mLRX11_21 : Cond.methodLink RX11 21 yX2_init ∈ az_gw := az_t 130 (by decide +kernel) (by decide +kernel)
theorem ckRX11_19 : Cond.classLink RX11 19 RX2 ∈ az_gw := az_t 128 (by decide +kernel) (by decide +kernel)
theorem cinRX2 : Cond.instantiable RX2 3 ∈ az_gw := az_t 129 (by decide +kernel) (by decide +kernel)
theorem ciniRX2 : Cond.initialized RX2 ∈ az_gw := az_t 3 (by decide +kernel) (by decide +kernel)
theorem mLRX11_9 : Cond.methodLink RX11 9 yX8_init ∈ az_gw := az_t 38 (by decide +kernel) (by decide +kernel)
theorem ckRX11_7 : Cond.classLink RX11 7 RX8 ∈ az_gw := az_t 36 (by decide +kernel) (by decide +kernel)
theorem mLRX11_1 : Cond.methodLink RX11 1 Lib.objectInit ∈ az_gw := az_t 33 (by decide +kernel) (by decide +kernel)
theorem acl_boolean : Cond.arrayClass .boolean ∈ az_gw := az_t 1168 (by decide +kernel) (by decide +kernel)
theorem mLRX12_3 : Cond.methodLink RX12 3 Lib.objectInit ∈ az_gw := az_t 1063 (by decide +kernel) (by decide +kernel)
theorem dX8_init_0 : decode cX8_init 0 = .ok (.aload_n 0, 1) := by decide +kernel
theorem dX8_init_1 : decode cX8_init 1 = .ok (.invokespecial 3, 3) := by decide +kernel
theorem dX8_init_4 : decode cX8_init 4 = .ok (.aload_n 0, 1) := by decide +kernel
theorem dX8_init_5 : decode cX8_init 5 = .ok (.bipush 6, 2) := by decide +kernel
theorem dX8_init_7 : decode cX8_init 7 = .ok (.bipush 14, 2) := by decide +kernel
theorem dX8_init_9 : decode cX8_init 9 = .ok (.multianewarray 9 2, 4) := by decide +kernel
theorem dX8_init_13 : decode cX8_init 13 = .ok (.putfield 11, 3) := by decide +kernel
theorem dX8_init_16 : decode cX8_init 16 = .ok (.aload_n 0, 1) := by decide +kernel
theorem dX8_init_17 : decode cX8_init 17 = .ok (.bipush 6, 2) := by decide +kernel
theorem dX8_init_19 : decode cX8_init 19 = .ok (.iconst 3, 1) := by decide +kernel
theorem dX8_init_20 : decode cX8_init 20 = .ok (.multianewarray 9 2, 4) := by decide +kernel
theorem dX8_init_24 : decode cX8_init 24 = .ok (.putfield 16, 3) := by decide +kernel
theorem dX8_init_27 : decode cX8_init 27 = .ok (.aload_n 0, 1) := by decide +kernel
theorem dX8_init_28 : decode cX8_init 28 = .ok (.iconst 4, 1) := by decide +kernel
theorem dX8_init_29 : decode cX8_init 29 = .ok (.bipush 24, 2) := by decide +kernel
theorem dX8_init_31 : decode cX8_init 31 = .ok (.multianewarray 9 2, 4) := by decide +kernel
theorem dX8_init_35 : decode cX8_init 35 = .ok (.putfield 19, 3) := by decide +kernel
theorem dX8_init_38 : decode cX8_init 38 = .ok (.aload_n 0, 1) := by decide +kernel
theorem dX8_init_39 : decode cX8_init 39 = .ok (.bipush 24, 2) := by decide +kernel
theorem dX8_init_41 : decode cX8_init 41 = .ok (.newarray .int, 2) := by decide +kernel
theorem dX8_init_43 : decode cX8_init 43 = .ok (.putfield 22, 3) := by decide +kernel
theorem dX8_init_46 : decode cX8_init 46 = .ok (.aload_n 0, 1) := by decide +kernel
theorem dX8_init_47 : decode cX8_init 47 = .ok (.iconst 4, 1) := by decide +kernel
theorem dX8_init_48 : decode cX8_init 48 = .ok (.newarray .int, 2) := by decide +kernel
theorem dX8_init_50 : decode cX8_init 50 = .ok (.putfield 26, 3) := by decide +kernel
theorem dX8_init_53 : decode cX8_init 53 = .ok (.aload_n 0, 1) := by decide +kernel
theorem dX8_init_54 : decode cX8_init 54 = .ok (.iconst 4, 1) := by decide +kernel
theorem dX8_init_55 : decode cX8_init 55 = .ok (.newarray .int, 2) := by decide +kernel
theorem dX8_init_57 : decode cX8_init 57 = .ok (.putfield 29, 3) := by decide +kernel
theorem dX8_init_60 : decode cX8_init 60 = .ok (.aload_n 0, 1) := by decide +kernel
theorem dX8_init_61 : decode cX8_init 61 = .ok (.bipush 6, 2) := by decide +kernel
theorem dX8_init_63 : decode cX8_init 63 = .ok (.iconst 1, 1) := by decide +kernel
theorem dX8_init_64 : decode cX8_init 64 = .ok (.invokevirtual 32, 3) := by decide +kernel
theorem dX8_init_67 : decode cX8_init 67 = .ok (.return_, 1) := by decide +kernel
def PX8_init (n0 : Nat) (Q : Option Value → az_M → Prop) : az_T := (s_la 0 (s_obj (s_la 0 (s_ic (nI 6) (s_ic (nI 14) (s_mna n0 22 246 (s_pr 9 5 (s_la 0 (s_ic (nI 6) (s_ic (nI 3) (s_mna n0 22 246 (s_pr 9 6 (s_la 0 (s_ic (nI 4) (s_ic (nI 24) (s_mna n0 22 246 (s_pr 9 7 (s_la 0 (s_ic (nI 24) (s_nar n0 22 246 20 (s_pr 9 8 (s_la 0 (s_ic (nI 4) (s_nar n0 22 246 20 (s_pr 9 9 (s_la 0 (s_ic (nI 4) (s_nar n0 22 246 20 (s_pr 9 10 (s_la 0 (s_ic (nI 6) (s_ic (nI 1) (s_cv 2 9 FX8_startAnew (s_rv Q))))))))))))))))))))))))))))))))))
def FX8_init : az_F := az_funI [true] 1 PX8_init
theorem okX8_init (l : Launch) : az_metI l yX8_init cX8_init 1 ({ frames := 2, cells := 22, slots := 246, locals := 124 } : Room) FX8_init := az_metI_of (own := RX8) (by decide +kernel) rfl rfl (by decide) (fun X Q n0 C G CI O => by
  have h67 := az_vreturn C rfl dX8_init_67
  have h64 := az_callV (ci := 9) C okX8_startAnew knX8_startAnew imX8_startAnew seX8_startAnew mLRX8_32 rfl (by decide) ⟨rfl, rfl, by decide, by decide⟩ dX8_init_64 h67
  have h63 := az_iconst (x := (nI 1)) C dX8_init_63 (by decide +kernel) h64
  have h61 := az_bipush (x := (nI 6)) C dX8_init_61 (by decide +kernel) h63
  have h60 := az_aload_n C 0 rfl dX8_init_60 h61
  have h57 := az_putR (T := TX8) (N := 11) (ci := 9) (j := 10) (ty := (.array .int)) C CI gwRX8 rfl (by decide) (by decide) tyX8 tyX8_ok nmX8 iIRX8_10 (by decide +kernel) (fun _ => ⟨rfl, rfl⟩) rfl rfl mFRX8_29 rfl dX8_init_57 h60
  have h55 := az_nar (n0 := n0) (cm := 22) (sm := 246) (kd := 20) (atype := .int) (ty := .int) C G (by decide) (by decide) rfl (by decide) (fun _ => rfl) (fun _ _ h => h) (by decide) (az_zI (by decide) rfl) acl_int dX8_init_55 h57
  have h54 := az_iconst (x := (nI 4)) C dX8_init_54 (by decide +kernel) h55
  have h53 := az_aload_n C 0 rfl dX8_init_53 h54
  have h50 := az_putR (T := TX8) (N := 11) (ci := 9) (j := 9) (ty := (.array .int)) C CI gwRX8 rfl (by decide) (by decide) tyX8 tyX8_ok nmX8 iIRX8_9 (by decide +kernel) (fun _ => ⟨rfl, rfl⟩) rfl rfl mFRX8_26 rfl dX8_init_50 h53
  have h48 := az_nar (n0 := n0) (cm := 22) (sm := 246) (kd := 20) (atype := .int) (ty := .int) C G (by decide) (by decide) rfl (by decide) (fun _ => rfl) (fun _ _ h => h) (by decide) (az_zI (by decide) rfl) acl_int dX8_init_48 h50
  have h47 := az_iconst (x := (nI 4)) C dX8_init_47 (by decide +kernel) h48
  have h46 := az_aload_n C 0 rfl dX8_init_46 h47
  have h43 := az_putR (T := TX8) (N := 11) (ci := 9) (j := 8) (ty := (.array .int)) C CI gwRX8 rfl (by decide) (by decide) tyX8 tyX8_ok nmX8 iIRX8_8 (by decide +kernel) (fun _ => ⟨rfl, rfl⟩) rfl rfl mFRX8_22 rfl dX8_init_43 h46
  have h41 := az_nar (n0 := n0) (cm := 22) (sm := 246) (kd := 20) (atype := .int) (ty := .int) C G (by decide) (by decide) rfl (by decide) (fun _ => rfl) (fun _ _ h => h) (by decide) (az_zI (by decide) rfl) acl_int dX8_init_41 h43
  have h39 := az_bipush (x := (nI 24)) C dX8_init_39 (by decide +kernel) h41
  have h38 := az_aload_n C 0 rfl dX8_init_38 h39
  have h35 := az_putR (T := TX8) (N := 11) (ci := 9) (j := 7) (ty := (.array (.array .int))) C CI gwRX8 rfl (by decide) (by decide) tyX8 tyX8_ok nmX8 iIRX8_7 (by decide +kernel) (fun _ => ⟨rfl, rfl⟩) rfl rfl mFRX8_19 rfl dX8_init_35 h38
  have h31 := az_mna (n0 := n0) (cm := 22) (sm := 246) C G (by decide) (by decide) cksRX8_9 O acl_int dX8_init_31 h35
  have h29 := az_bipush (x := (nI 24)) C dX8_init_29 (by decide +kernel) h31
  have h28 := az_iconst (x := (nI 4)) C dX8_init_28 (by decide +kernel) h29
  have h27 := az_aload_n C 0 rfl dX8_init_27 h28
  have h24 := az_putR (T := TX8) (N := 11) (ci := 9) (j := 6) (ty := (.array (.array .int))) C CI gwRX8 rfl (by decide) (by decide) tyX8 tyX8_ok nmX8 iIRX8_6 (by decide +kernel) (fun _ => ⟨rfl, rfl⟩) rfl rfl mFRX8_16 rfl dX8_init_24 h27
  have h20 := az_mna (n0 := n0) (cm := 22) (sm := 246) C G (by decide) (by decide) cksRX8_9 O acl_int dX8_init_20 h24
  have h19 := az_iconst (x := (nI 3)) C dX8_init_19 (by decide +kernel) h20
  have h17 := az_bipush (x := (nI 6)) C dX8_init_17 (by decide +kernel) h19
  have h16 := az_aload_n C 0 rfl dX8_init_16 h17
  have h13 := az_putR (T := TX8) (N := 11) (ci := 9) (j := 5) (ty := (.array (.array .int))) C CI gwRX8 rfl (by decide) (by decide) tyX8 tyX8_ok nmX8 iIRX8_5 (by decide +kernel) (fun _ => ⟨rfl, rfl⟩) rfl rfl mFRX8_11 rfl dX8_init_13 h16
  have h9 := az_mna (n0 := n0) (cm := 22) (sm := 246) C G (by decide) (by decide) cksRX8_9 O acl_int dX8_init_9 h13
  have h7 := az_bipush (x := (nI 14)) C dX8_init_7 (by decide +kernel) h9
  have h5 := az_bipush (x := (nI 6)) C dX8_init_5 (by decide +kernel) h7
  have h4 := az_aload_n C 0 rfl dX8_init_4 h5
  have h1 := az_obji C mLRX8_3 obj_in obj_co (by decide) dX8_init_1 h4
  have h0 := az_aload_n C 0 rfl dX8_init_0 h1
  exact h0) l
theorem dX0_init_0 : decode cX0_init 0 = .ok (.aload_n 0, 1) := by decide +kernel
theorem dX0_init_1 : decode cX0_init 1 = .ok (.invokespecial 3, 3) := by decide +kernel
theorem dX0_init_4 : decode cX0_init 4 = .ok (.aload_n 0, 1) := by decide +kernel
theorem dX0_init_5 : decode cX0_init 5 = .ok (.bipush 6, 2) := by decide +kernel
theorem dX0_init_7 : decode cX0_init 7 = .ok (.newarray .int, 2) := by decide +kernel
theorem dX0_init_9 : decode cX0_init 9 = .ok (.putfield 9, 3) := by decide +kernel
theorem dX0_init_12 : decode cX0_init 12 = .ok (.aload_n 0, 1) := by decide +kernel
theorem dX0_init_13 : decode cX0_init 13 = .ok (.bipush 6, 2) := by decide +kernel
theorem dX0_init_15 : decode cX0_init 15 = .ok (.newarray .int, 2) := by decide +kernel
theorem dX0_init_17 : decode cX0_init 17 = .ok (.putfield 15, 3) := by decide +kernel
theorem dX0_init_20 : decode cX0_init 20 = .ok (.aload_n 0, 1) := by decide +kernel
theorem dX0_init_21 : decode cX0_init 21 = .ok (.bipush 24, 2) := by decide +kernel
theorem dX0_init_23 : decode cX0_init 23 = .ok (.newarray .int, 2) := by decide +kernel
theorem dX0_init_25 : decode cX0_init 25 = .ok (.putfield 18, 3) := by decide +kernel
theorem dX0_init_28 : decode cX0_init 28 = .ok (.return_, 1) := by decide +kernel
def PX0_init (n0 : Nat) (Q : Option Value → az_M → Prop) : az_T := (s_la 0 (s_obj (s_la 0 (s_ic (nI 6) (s_nar n0 3 36 20 (s_pr 2 0 (s_la 0 (s_ic (nI 6) (s_nar n0 3 36 20 (s_pr 2 1 (s_la 0 (s_ic (nI 24) (s_nar n0 3 36 20 (s_pr 2 2 (s_rv Q)))))))))))))))
def FX0_init : az_F := az_funI [true] 1 PX0_init
theorem okX0_init (l : Launch) : az_metI l yX0_init cX0_init 1 ({ frames := 1, cells := 3, slots := 36, locals := 100 } : Room) FX0_init := az_metI_of (own := RX0) (by decide +kernel) rfl rfl (by decide) (fun X Q n0 C G CI O => by
  have h28 := az_vreturn C rfl dX0_init_28
  have h25 := az_putR (T := TX0) (N := 3) (ci := 2) (j := 2) (ty := (.array .int)) C CI gwRX0 rfl (by decide) (by decide) tyX0 tyX0_ok nmX0 iIRX0_2 (by decide +kernel) (fun _ => ⟨rfl, rfl⟩) rfl rfl mFRX0_18 rfl dX0_init_25 h28
  have h23 := az_nar (n0 := n0) (cm := 3) (sm := 36) (kd := 20) (atype := .int) (ty := .int) C G (by decide) (by decide) rfl (by decide) (fun _ => rfl) (fun _ _ h => h) (by decide) (az_zI (by decide) rfl) acl_int dX0_init_23 h25
  have h21 := az_bipush (x := (nI 24)) C dX0_init_21 (by decide +kernel) h23
  have h20 := az_aload_n C 0 rfl dX0_init_20 h21
  have h17 := az_putR (T := TX0) (N := 3) (ci := 2) (j := 1) (ty := (.array .int)) C CI gwRX0 rfl (by decide) (by decide) tyX0 tyX0_ok nmX0 iIRX0_1 (by decide +kernel) (fun _ => ⟨rfl, rfl⟩) rfl rfl mFRX0_15 rfl dX0_init_17 h20
  have h15 := az_nar (n0 := n0) (cm := 3) (sm := 36) (kd := 20) (atype := .int) (ty := .int) C G (by decide) (by decide) rfl (by decide) (fun _ => rfl) (fun _ _ h => h) (by decide) (az_zI (by decide) rfl) acl_int dX0_init_15 h17
  have h13 := az_bipush (x := (nI 6)) C dX0_init_13 (by decide +kernel) h15
  have h12 := az_aload_n C 0 rfl dX0_init_12 h13
  have h9 := az_putR (T := TX0) (N := 3) (ci := 2) (j := 0) (ty := (.array .int)) C CI gwRX0 rfl (by decide) (by decide) tyX0 tyX0_ok nmX0 iIRX0_0 (by decide +kernel) (fun _ => ⟨rfl, rfl⟩) rfl rfl mFRX0_9 rfl dX0_init_9 h12
  have h7 := az_nar (n0 := n0) (cm := 3) (sm := 36) (kd := 20) (atype := .int) (ty := .int) C G (by decide) (by decide) rfl (by decide) (fun _ => rfl) (fun _ _ h => h) (by decide) (az_zI (by decide) rfl) acl_int dX0_init_7 h9
  have h5 := az_bipush (x := (nI 6)) C dX0_init_5 (by decide +kernel) h7
  have h4 := az_aload_n C 0 rfl dX0_init_4 h5
  have h1 := az_obji C mLRX0_3 obj_in obj_co (by decide) dX0_init_1 h4
  have h0 := az_aload_n C 0 rfl dX0_init_0 h1
  exact h0) l
theorem dX1_init_0 : decode cX1_init 0 = .ok (.aload_n 0, 1) := by decide +kernel
theorem dX1_init_1 : decode cX1_init 1 = .ok (.invokespecial 3, 3) := by decide +kernel
theorem dX1_init_4 : decode cX1_init 4 = .ok (.aload_n 0, 1) := by decide +kernel
theorem dX1_init_5 : decode cX1_init 5 = .ok (.iconst 4, 1) := by decide +kernel
theorem dX1_init_6 : decode cX1_init 6 = .ok (.bipush 24, 2) := by decide +kernel
theorem dX1_init_8 : decode cX1_init 8 = .ok (.multianewarray 9 2, 4) := by decide +kernel
theorem dX1_init_12 : decode cX1_init 12 = .ok (.putfield 11, 3) := by decide +kernel
theorem dX1_init_15 : decode cX1_init 15 = .ok (.aload_n 0, 1) := by decide +kernel
theorem dX1_init_16 : decode cX1_init 16 = .ok (.iconst 4, 1) := by decide +kernel
theorem dX1_init_17 : decode cX1_init 17 = .ok (.bipush 24, 2) := by decide +kernel
theorem dX1_init_19 : decode cX1_init 19 = .ok (.multianewarray 9 2, 4) := by decide +kernel
theorem dX1_init_23 : decode cX1_init 23 = .ok (.putfield 16, 3) := by decide +kernel
theorem dX1_init_26 : decode cX1_init 26 = .ok (.aload_n 0, 1) := by decide +kernel
theorem dX1_init_27 : decode cX1_init 27 = .ok (.bipush 24, 2) := by decide +kernel
theorem dX1_init_29 : decode cX1_init 29 = .ok (.bipush 24, 2) := by decide +kernel
theorem dX1_init_31 : decode cX1_init 31 = .ok (.multianewarray 9 2, 4) := by decide +kernel
theorem dX1_init_35 : decode cX1_init 35 = .ok (.putfield 19, 3) := by decide +kernel
theorem dX1_init_38 : decode cX1_init 38 = .ok (.return_, 1) := by decide +kernel
def PX1_init (n0 : Nat) (Q : Option Value → az_M → Prop) : az_T := (s_la 0 (s_obj (s_la 0 (s_ic (nI 4) (s_ic (nI 24) (s_mna n0 35 800 (s_pr 3 0 (s_la 0 (s_ic (nI 4) (s_ic (nI 24) (s_mna n0 35 800 (s_pr 3 1 (s_la 0 (s_ic (nI 24) (s_ic (nI 24) (s_mna n0 35 800 (s_pr 3 2 (s_rv Q))))))))))))))))))
def FX1_init : az_F := az_funI [true] 1 PX1_init
theorem okX1_init (l : Launch) : az_metI l yX1_init cX1_init 1 ({ frames := 1, cells := 35, slots := 800, locals := 100 } : Room) FX1_init := az_metI_of (own := RX1) (by decide +kernel) rfl rfl (by decide) (fun X Q n0 C G CI O => by
  have h38 := az_vreturn C rfl dX1_init_38
  have h35 := az_putR (T := TX1) (N := 3) (ci := 3) (j := 2) (ty := (.array (.array .int))) C CI gwRX1 rfl (by decide) (by decide) tyX1 tyX1_ok nmX1 iIRX1_2 (by decide +kernel) (fun _ => ⟨rfl, rfl⟩) rfl rfl mFRX1_19 rfl dX1_init_35 h38
  have h31 := az_mna (n0 := n0) (cm := 35) (sm := 800) C G (by decide) (by decide) cksRX1_9 O acl_int dX1_init_31 h35
  have h29 := az_bipush (x := (nI 24)) C dX1_init_29 (by decide +kernel) h31
  have h27 := az_bipush (x := (nI 24)) C dX1_init_27 (by decide +kernel) h29
  have h26 := az_aload_n C 0 rfl dX1_init_26 h27
  have h23 := az_putR (T := TX1) (N := 3) (ci := 3) (j := 1) (ty := (.array (.array .int))) C CI gwRX1 rfl (by decide) (by decide) tyX1 tyX1_ok nmX1 iIRX1_1 (by decide +kernel) (fun _ => ⟨rfl, rfl⟩) rfl rfl mFRX1_16 rfl dX1_init_23 h26
  have h19 := az_mna (n0 := n0) (cm := 35) (sm := 800) C G (by decide) (by decide) cksRX1_9 O acl_int dX1_init_19 h23
  have h17 := az_bipush (x := (nI 24)) C dX1_init_17 (by decide +kernel) h19
  have h16 := az_iconst (x := (nI 4)) C dX1_init_16 (by decide +kernel) h17
  have h15 := az_aload_n C 0 rfl dX1_init_15 h16
  have h12 := az_putR (T := TX1) (N := 3) (ci := 3) (j := 0) (ty := (.array (.array .int))) C CI gwRX1 rfl (by decide) (by decide) tyX1 tyX1_ok nmX1 iIRX1_0 (by decide +kernel) (fun _ => ⟨rfl, rfl⟩) rfl rfl mFRX1_11 rfl dX1_init_12 h15
  have h8 := az_mna (n0 := n0) (cm := 35) (sm := 800) C G (by decide) (by decide) cksRX1_9 O acl_int dX1_init_8 h12
  have h6 := az_bipush (x := (nI 24)) C dX1_init_6 (by decide +kernel) h8
  have h5 := az_iconst (x := (nI 4)) C dX1_init_5 (by decide +kernel) h6
  have h4 := az_aload_n C 0 rfl dX1_init_4 h5
  have h1 := az_obji C mLRX1_3 obj_in obj_co (by decide) dX1_init_1 h4
  have h0 := az_aload_n C 0 rfl dX1_init_0 h1
  exact h0) l
theorem dX9_init_0 : decode cX9_init 0 = .ok (.aload_n 0, 1) := by decide +kernel
theorem dX9_init_1 : decode cX9_init 1 = .ok (.invokespecial 3, 3) := by decide +kernel
theorem dX9_init_4 : decode cX9_init 4 = .ok (.aload_n 0, 1) := by decide +kernel
theorem dX9_init_5 : decode cX9_init 5 = .ok (.bipush 24, 2) := by decide +kernel
theorem dX9_init_7 : decode cX9_init 7 = .ok (.newarray .int, 2) := by decide +kernel
theorem dX9_init_9 : decode cX9_init 9 = .ok (.putfield 9, 3) := by decide +kernel
theorem dX9_init_12 : decode cX9_init 12 = .ok (.aload_n 0, 1) := by decide +kernel
theorem dX9_init_13 : decode cX9_init 13 = .ok (.bipush 6, 2) := by decide +kernel
theorem dX9_init_15 : decode cX9_init 15 = .ok (.bipush 24, 2) := by decide +kernel
theorem dX9_init_17 : decode cX9_init 17 = .ok (.multianewarray 15 2, 4) := by decide +kernel
theorem dX9_init_21 : decode cX9_init 21 = .ok (.putfield 17, 3) := by decide +kernel
theorem dX9_init_24 : decode cX9_init 24 = .ok (.aload_n 0, 1) := by decide +kernel
theorem dX9_init_25 : decode cX9_init 25 = .ok (.bipush 6, 2) := by decide +kernel
theorem dX9_init_27 : decode cX9_init 27 = .ok (.bipush 24, 2) := by decide +kernel
theorem dX9_init_29 : decode cX9_init 29 = .ok (.multianewarray 15 2, 4) := by decide +kernel
theorem dX9_init_33 : decode cX9_init 33 = .ok (.putfield 20, 3) := by decide +kernel
theorem dX9_init_36 : decode cX9_init 36 = .ok (.return_, 1) := by decide +kernel
def PX9_init (n0 : Nat) (Q : Option Value → az_M → Prop) : az_T := (s_la 0 (s_obj (s_la 0 (s_ic (nI 24) (s_nar n0 15 324 20 (s_pr 10 0 (s_la 0 (s_ic (nI 6) (s_ic (nI 24) (s_mna n0 15 324 (s_pr 10 1 (s_la 0 (s_ic (nI 6) (s_ic (nI 24) (s_mna n0 15 324 (s_pr 10 2 (s_rv Q)))))))))))))))))
def FX9_init : az_F := az_funI [true] 1 PX9_init
theorem okX9_init (l : Launch) : az_metI l yX9_init cX9_init 1 ({ frames := 1, cells := 15, slots := 324, locals := 100 } : Room) FX9_init := az_metI_of (own := RX9) (by decide +kernel) rfl rfl (by decide) (fun X Q n0 C G CI O => by
  have h36 := az_vreturn C rfl dX9_init_36
  have h33 := az_putR (T := TX9) (N := 3) (ci := 10) (j := 2) (ty := (.array (.array .int))) C CI gwRX9 rfl (by decide) (by decide) tyX9 tyX9_ok nmX9 iIRX9_2 (by decide +kernel) (fun _ => ⟨rfl, rfl⟩) rfl rfl mFRX9_20 rfl dX9_init_33 h36
  have h29 := az_mna (n0 := n0) (cm := 15) (sm := 324) C G (by decide) (by decide) cksRX9_15 O acl_int dX9_init_29 h33
  have h27 := az_bipush (x := (nI 24)) C dX9_init_27 (by decide +kernel) h29
  have h25 := az_bipush (x := (nI 6)) C dX9_init_25 (by decide +kernel) h27
  have h24 := az_aload_n C 0 rfl dX9_init_24 h25
  have h21 := az_putR (T := TX9) (N := 3) (ci := 10) (j := 1) (ty := (.array (.array .int))) C CI gwRX9 rfl (by decide) (by decide) tyX9 tyX9_ok nmX9 iIRX9_1 (by decide +kernel) (fun _ => ⟨rfl, rfl⟩) rfl rfl mFRX9_17 rfl dX9_init_21 h24
  have h17 := az_mna (n0 := n0) (cm := 15) (sm := 324) C G (by decide) (by decide) cksRX9_15 O acl_int dX9_init_17 h21
  have h15 := az_bipush (x := (nI 24)) C dX9_init_15 (by decide +kernel) h17
  have h13 := az_bipush (x := (nI 6)) C dX9_init_13 (by decide +kernel) h15
  have h12 := az_aload_n C 0 rfl dX9_init_12 h13
  have h9 := az_putR (T := TX9) (N := 3) (ci := 10) (j := 0) (ty := (.array .int)) C CI gwRX9 rfl (by decide) (by decide) tyX9 tyX9_ok nmX9 iIRX9_0 (by decide +kernel) (fun _ => ⟨rfl, rfl⟩) rfl rfl mFRX9_9 rfl dX9_init_9 h12
  have h7 := az_nar (n0 := n0) (cm := 15) (sm := 324) (kd := 20) (atype := .int) (ty := .int) C G (by decide) (by decide) rfl (by decide) (fun _ => rfl) (fun _ _ h => h) (by decide) (az_zI (by decide) rfl) acl_int dX9_init_7 h9
  have h5 := az_bipush (x := (nI 24)) C dX9_init_5 (by decide +kernel) h7
  have h4 := az_aload_n C 0 rfl dX9_init_4 h5
  have h1 := az_obji C mLRX9_3 obj_in obj_co (by decide) dX9_init_1 h4
  have h0 := az_aload_n C 0 rfl dX9_init_0 h1
  exact h0) l
theorem dX3_init_0 : decode cX3_init 0 = .ok (.aload_n 0, 1) := by decide +kernel
theorem dX3_init_1 : decode cX3_init 1 = .ok (.invokespecial 3, 3) := by decide +kernel
theorem dX3_init_4 : decode cX3_init 4 = .ok (.aload_n 0, 1) := by decide +kernel
theorem dX3_init_5 : decode cX3_init 5 = .ok (.bipush 6, 2) := by decide +kernel
theorem dX3_init_7 : decode cX3_init 7 = .ok (.newarray .int, 2) := by decide +kernel
theorem dX3_init_9 : decode cX3_init 9 = .ok (.putfield 9, 3) := by decide +kernel
theorem dX3_init_12 : decode cX3_init 12 = .ok (.aload_n 0, 1) := by decide +kernel
theorem dX3_init_13 : decode cX3_init 13 = .ok (.bipush 6, 2) := by decide +kernel
theorem dX3_init_15 : decode cX3_init 15 = .ok (.newarray .int, 2) := by decide +kernel
theorem dX3_init_17 : decode cX3_init 17 = .ok (.putfield 15, 3) := by decide +kernel
theorem dX3_init_20 : decode cX3_init 20 = .ok (.return_, 1) := by decide +kernel
def PX3_init (n0 : Nat) (Q : Option Value → az_M → Prop) : az_T := (s_la 0 (s_obj (s_la 0 (s_ic (nI 6) (s_nar n0 2 12 20 (s_pr 5 0 (s_la 0 (s_ic (nI 6) (s_nar n0 2 12 20 (s_pr 5 1 (s_rv Q)))))))))))
def FX3_init : az_F := az_funI [true] 1 PX3_init
theorem okX3_init (l : Launch) : az_metI l yX3_init cX3_init 1 ({ frames := 1, cells := 2, slots := 12, locals := 100 } : Room) FX3_init := az_metI_of (own := RX3) (by decide +kernel) rfl rfl (by decide) (fun X Q n0 C G CI O => by
  have h20 := az_vreturn C rfl dX3_init_20
  have h17 := az_putR (T := TX3) (N := 2) (ci := 5) (j := 1) (ty := (.array .int)) C CI gwRX3 rfl (by decide) (by decide) tyX3 tyX3_ok nmX3 iIRX3_1 (by decide +kernel) (fun _ => ⟨rfl, rfl⟩) rfl rfl mFRX3_15 rfl dX3_init_17 h20
  have h15 := az_nar (n0 := n0) (cm := 2) (sm := 12) (kd := 20) (atype := .int) (ty := .int) C G (by decide) (by decide) rfl (by decide) (fun _ => rfl) (fun _ _ h => h) (by decide) (az_zI (by decide) rfl) acl_int dX3_init_15 h17
  have h13 := az_bipush (x := (nI 6)) C dX3_init_13 (by decide +kernel) h15
  have h12 := az_aload_n C 0 rfl dX3_init_12 h13
  have h9 := az_putR (T := TX3) (N := 2) (ci := 5) (j := 0) (ty := (.array .int)) C CI gwRX3 rfl (by decide) (by decide) tyX3 tyX3_ok nmX3 iIRX3_0 (by decide +kernel) (fun _ => ⟨rfl, rfl⟩) rfl rfl mFRX3_9 rfl dX3_init_9 h12
  have h7 := az_nar (n0 := n0) (cm := 2) (sm := 12) (kd := 20) (atype := .int) (ty := .int) C G (by decide) (by decide) rfl (by decide) (fun _ => rfl) (fun _ _ h => h) (by decide) (az_zI (by decide) rfl) acl_int dX3_init_7 h9
  have h5 := az_bipush (x := (nI 6)) C dX3_init_5 (by decide +kernel) h7
  have h4 := az_aload_n C 0 rfl dX3_init_4 h5
  have h1 := az_obji C mLRX3_3 obj_in obj_co (by decide) dX3_init_1 h4
  have h0 := az_aload_n C 0 rfl dX3_init_0 h1
  exact h0) l
theorem dX5_init_0 : decode cX5_init 0 = .ok (.aload_n 0, 1) := by decide +kernel
theorem dX5_init_1 : decode cX5_init 1 = .ok (.invokespecial 3, 3) := by decide +kernel
theorem dX5_init_4 : decode cX5_init 4 = .ok (.aload_n 0, 1) := by decide +kernel
theorem dX5_init_5 : decode cX5_init 5 = .ok (.bipush 100, 2) := by decide +kernel
theorem dX5_init_7 : decode cX5_init 7 = .ok (.newarray .char, 2) := by decide +kernel
theorem dX5_init_9 : decode cX5_init 9 = .ok (.putfield 9, 3) := by decide +kernel
theorem dX5_init_12 : decode cX5_init 12 = .ok (.aload_n 0, 1) := by decide +kernel
theorem dX5_init_13 : decode cX5_init 13 = .ok (.iconst 0, 1) := by decide +kernel
theorem dX5_init_14 : decode cX5_init 14 = .ok (.putfield 15, 3) := by decide +kernel
theorem dX5_init_17 : decode cX5_init 17 = .ok (.aload_n 0, 1) := by decide +kernel
theorem dX5_init_18 : decode cX5_init 18 = .ok (.iconst (-1), 1) := by decide +kernel
theorem dX5_init_19 : decode cX5_init 19 = .ok (.putfield 19, 3) := by decide +kernel
theorem dX5_init_22 : decode cX5_init 22 = .ok (.return_, 1) := by decide +kernel
def PX5_init (n0 : Nat) (Q : Option Value → az_M → Prop) : az_T := (s_la 0 (s_obj (s_la 0 (s_ic (nI 100) (s_nar n0 1 100 22 (s_pr 7 0 (s_la 0 (s_ic (nI 0) (s_pi 7 1 (s_la 0 (s_ic (-1) (s_pi 7 2 (s_rv Q)))))))))))))
def FX5_init : az_F := az_funI [true] 1 PX5_init
theorem okX5_init (l : Launch) : az_metI l yX5_init cX5_init 1 ({ frames := 1, cells := 1, slots := 100, locals := 100 } : Room) FX5_init := az_metI_of (own := RX5) (by decide +kernel) rfl rfl (by decide) (fun X Q n0 C G CI O => by
  have h22 := az_vreturn C rfl dX5_init_22
  have h19 := az_putI (T := TX5) (N := 3) (j := 2) C gwRX5 rfl (by decide) (by decide) tyX5 tyX5_ok nmX5 iIRX5_2 (by decide +kernel) rfl mFRX5_19 rfl dX5_init_19 h22
  have h18 := az_iconst (x := (-1)) C dX5_init_18 (by decide +kernel) h19
  have h17 := az_aload_n C 0 rfl dX5_init_17 h18
  have h14 := az_putI (T := TX5) (N := 3) (j := 1) C gwRX5 rfl (by decide) (by decide) tyX5 tyX5_ok nmX5 iIRX5_1 (by decide +kernel) rfl mFRX5_15 rfl dX5_init_14 h17
  have h13 := az_iconst (x := (nI 0)) C dX5_init_13 (by decide +kernel) h14
  have h12 := az_aload_n C 0 rfl dX5_init_12 h13
  have h9 := az_putR (T := TX5) (N := 3) (ci := 7) (j := 0) (ty := (.array .char)) C CI gwRX5 rfl (by decide) (by decide) tyX5 tyX5_ok nmX5 iIRX5_0 (by decide +kernel) (fun _ => ⟨rfl, rfl⟩) rfl rfl mFRX5_9 rfl dX5_init_9 h12
  have h7 := az_nar (n0 := n0) (cm := 1) (sm := 100) (kd := 22) (atype := .char) (ty := .char) C G (by decide) (by decide) rfl (by decide) (fun _ => rfl) (fun _ _ h => h) (by decide) (az_zI (by decide) rfl) acl_char dX5_init_7 h9
  have h5 := az_bipush (x := (nI 100)) C dX5_init_5 (by decide +kernel) h7
  have h4 := az_aload_n C 0 rfl dX5_init_4 h5
  have h1 := az_obji C mLRX5_3 obj_in obj_co (by decide) dX5_init_1 h4
  have h0 := az_aload_n C 0 rfl dX5_init_0 h1
  exact h0) l
theorem dX7_init_0 : decode cX7_init 0 = .ok (.aload_n 0, 1) := by decide +kernel
theorem dX7_init_1 : decode cX7_init 1 = .ok (.invokespecial 3, 3) := by decide +kernel
theorem dX7_init_4 : decode cX7_init 4 = .ok (.aload_n 0, 1) := by decide +kernel
theorem dX7_init_5 : decode cX7_init 5 = .ok (.bipush 24, 2) := by decide +kernel
theorem dX7_init_7 : decode cX7_init 7 = .ok (.newarray .int, 2) := by decide +kernel
theorem dX7_init_9 : decode cX7_init 9 = .ok (.putfield 9, 3) := by decide +kernel
theorem dX7_init_12 : decode cX7_init 12 = .ok (.aload_n 0, 1) := by decide +kernel
theorem dX7_init_13 : decode cX7_init 13 = .ok (.bipush 24, 2) := by decide +kernel
theorem dX7_init_15 : decode cX7_init 15 = .ok (.newarray .int, 2) := by decide +kernel
theorem dX7_init_17 : decode cX7_init 17 = .ok (.putfield 15, 3) := by decide +kernel
theorem dX7_init_20 : decode cX7_init 20 = .ok (.aload_n 0, 1) := by decide +kernel
theorem dX7_init_21 : decode cX7_init 21 = .ok (.bipush 24, 2) := by decide +kernel
theorem dX7_init_23 : decode cX7_init 23 = .ok (.newarray .int, 2) := by decide +kernel
theorem dX7_init_25 : decode cX7_init 25 = .ok (.putfield 18, 3) := by decide +kernel
theorem dX7_init_28 : decode cX7_init 28 = .ok (.aload_n 0, 1) := by decide +kernel
theorem dX7_init_29 : decode cX7_init 29 = .ok (.iconst 0, 1) := by decide +kernel
theorem dX7_init_30 : decode cX7_init 30 = .ok (.putfield 21, 3) := by decide +kernel
theorem dX7_init_33 : decode cX7_init 33 = .ok (.aload_n 0, 1) := by decide +kernel
theorem dX7_init_34 : decode cX7_init 34 = .ok (.iconst 0, 1) := by decide +kernel
theorem dX7_init_35 : decode cX7_init 35 = .ok (.putfield 25, 3) := by decide +kernel
theorem dX7_init_38 : decode cX7_init 38 = .ok (.aload_n 0, 1) := by decide +kernel
theorem dX7_init_39 : decode cX7_init 39 = .ok (.iconst 0, 1) := by decide +kernel
theorem dX7_init_40 : decode cX7_init 40 = .ok (.putfield 28, 3) := by decide +kernel
theorem dX7_init_43 : decode cX7_init 43 = .ok (.return_, 1) := by decide +kernel
def PX7_init (n0 : Nat) (Q : Option Value → az_M → Prop) : az_T := (s_la 0 (s_obj (s_la 0 (s_ic (nI 24) (s_nar n0 3 72 20 (s_pr 8 0 (s_la 0 (s_ic (nI 24) (s_nar n0 3 72 20 (s_pr 8 1 (s_la 0 (s_ic (nI 24) (s_nar n0 3 72 20 (s_pr 8 2 (s_la 0 (s_ic (nI 0) (s_pi 8 3 (s_la 0 (s_ic (nI 0) (s_pi 8 4 (s_la 0 (s_ic (nI 0) (s_pz 8 5 (s_rv Q))))))))))))))))))))))))
def FX7_init : az_F := az_funI [true] 1 PX7_init
theorem okX7_init (l : Launch) : az_metI l yX7_init cX7_init 1 ({ frames := 1, cells := 3, slots := 72, locals := 100 } : Room) FX7_init := az_metI_of (own := RX7) (by decide +kernel) rfl rfl (by decide) (fun X Q n0 C G CI O => by
  have h43 := az_vreturn C rfl dX7_init_43
  have h40 := az_putZ (T := TX7) (N := 6) (j := 5) C gwRX7 rfl (by decide) (by decide) tyX7 tyX7_ok nmX7 iIRX7_5 (by decide +kernel) rfl mFRX7_28 rfl dX7_init_40 h43
  have h39 := az_iconst (x := (nI 0)) C dX7_init_39 (by decide +kernel) h40
  have h38 := az_aload_n C 0 rfl dX7_init_38 h39
  have h35 := az_putI (T := TX7) (N := 6) (j := 4) C gwRX7 rfl (by decide) (by decide) tyX7 tyX7_ok nmX7 iIRX7_4 (by decide +kernel) rfl mFRX7_25 rfl dX7_init_35 h38
  have h34 := az_iconst (x := (nI 0)) C dX7_init_34 (by decide +kernel) h35
  have h33 := az_aload_n C 0 rfl dX7_init_33 h34
  have h30 := az_putI (T := TX7) (N := 6) (j := 3) C gwRX7 rfl (by decide) (by decide) tyX7 tyX7_ok nmX7 iIRX7_3 (by decide +kernel) rfl mFRX7_21 rfl dX7_init_30 h33
  have h29 := az_iconst (x := (nI 0)) C dX7_init_29 (by decide +kernel) h30
  have h28 := az_aload_n C 0 rfl dX7_init_28 h29
  have h25 := az_putR (T := TX7) (N := 6) (ci := 8) (j := 2) (ty := (.array .int)) C CI gwRX7 rfl (by decide) (by decide) tyX7 tyX7_ok nmX7 iIRX7_2 (by decide +kernel) (fun _ => ⟨rfl, rfl⟩) rfl rfl mFRX7_18 rfl dX7_init_25 h28
  have h23 := az_nar (n0 := n0) (cm := 3) (sm := 72) (kd := 20) (atype := .int) (ty := .int) C G (by decide) (by decide) rfl (by decide) (fun _ => rfl) (fun _ _ h => h) (by decide) (az_zI (by decide) rfl) acl_int dX7_init_23 h25
  have h21 := az_bipush (x := (nI 24)) C dX7_init_21 (by decide +kernel) h23
  have h20 := az_aload_n C 0 rfl dX7_init_20 h21
  have h17 := az_putR (T := TX7) (N := 6) (ci := 8) (j := 1) (ty := (.array .int)) C CI gwRX7 rfl (by decide) (by decide) tyX7 tyX7_ok nmX7 iIRX7_1 (by decide +kernel) (fun _ => ⟨rfl, rfl⟩) rfl rfl mFRX7_15 rfl dX7_init_17 h20
  have h15 := az_nar (n0 := n0) (cm := 3) (sm := 72) (kd := 20) (atype := .int) (ty := .int) C G (by decide) (by decide) rfl (by decide) (fun _ => rfl) (fun _ _ h => h) (by decide) (az_zI (by decide) rfl) acl_int dX7_init_15 h17
  have h13 := az_bipush (x := (nI 24)) C dX7_init_13 (by decide +kernel) h15
  have h12 := az_aload_n C 0 rfl dX7_init_12 h13
  have h9 := az_putR (T := TX7) (N := 6) (ci := 8) (j := 0) (ty := (.array .int)) C CI gwRX7 rfl (by decide) (by decide) tyX7 tyX7_ok nmX7 iIRX7_0 (by decide +kernel) (fun _ => ⟨rfl, rfl⟩) rfl rfl mFRX7_9 rfl dX7_init_9 h12
  have h7 := az_nar (n0 := n0) (cm := 3) (sm := 72) (kd := 20) (atype := .int) (ty := .int) C G (by decide) (by decide) rfl (by decide) (fun _ => rfl) (fun _ _ h => h) (by decide) (az_zI (by decide) rfl) acl_int dX7_init_7 h9
  have h5 := az_bipush (x := (nI 24)) C dX7_init_5 (by decide +kernel) h7
  have h4 := az_aload_n C 0 rfl dX7_init_4 h5
  have h1 := az_obji C mLRX7_3 obj_in obj_co (by decide) dX7_init_1 h4
  have h0 := az_aload_n C 0 rfl dX7_init_0 h1
  exact h0) l
theorem dX10_init_0 : decode cX10_init 0 = .ok (.aload_n 0, 1) := by decide +kernel
theorem dX10_init_1 : decode cX10_init 1 = .ok (.invokespecial 3, 3) := by decide +kernel
theorem dX10_init_4 : decode cX10_init 4 = .ok (.aload_n 0, 1) := by decide +kernel
theorem dX10_init_5 : decode cX10_init 5 = .ok (.sipush 216, 3) := by decide +kernel
theorem dX10_init_8 : decode cX10_init 8 = .ok (.newarray .int, 2) := by decide +kernel
theorem dX10_init_10 : decode cX10_init 10 = .ok (.putfield 11, 3) := by decide +kernel
theorem dX10_init_13 : decode cX10_init 13 = .ok (.aload_n 0, 1) := by decide +kernel
theorem dX10_init_14 : decode cX10_init 14 = .ok (.sipush 216, 3) := by decide +kernel
theorem dX10_init_17 : decode cX10_init 17 = .ok (.newarray .int, 2) := by decide +kernel
theorem dX10_init_19 : decode cX10_init 19 = .ok (.putfield 15, 3) := by decide +kernel
theorem dX10_init_22 : decode cX10_init 22 = .ok (.aload_n 0, 1) := by decide +kernel
theorem dX10_init_23 : decode cX10_init 23 = .ok (.sipush 216, 3) := by decide +kernel
theorem dX10_init_26 : decode cX10_init 26 = .ok (.newarray .int, 2) := by decide +kernel
theorem dX10_init_28 : decode cX10_init 28 = .ok (.putfield 18, 3) := by decide +kernel
theorem dX10_init_31 : decode cX10_init 31 = .ok (.aload_n 0, 1) := by decide +kernel
theorem dX10_init_32 : decode cX10_init 32 = .ok (.bipush 7, 2) := by decide +kernel
theorem dX10_init_34 : decode cX10_init 34 = .ok (.newarray .int, 2) := by decide +kernel
theorem dX10_init_36 : decode cX10_init 36 = .ok (.putfield 21, 3) := by decide +kernel
theorem dX10_init_39 : decode cX10_init 39 = .ok (.aload_n 0, 1) := by decide +kernel
theorem dX10_init_40 : decode cX10_init 40 = .ok (.iconst 0, 1) := by decide +kernel
theorem dX10_init_41 : decode cX10_init 41 = .ok (.putfield 24, 3) := by decide +kernel
theorem dX10_init_44 : decode cX10_init 44 = .ok (.return_, 1) := by decide +kernel
def PX10_init (n0 : Nat) (Q : Option Value → az_M → Prop) : az_T := (s_la 0 (s_obj (s_la 0 (s_ic (nI 216) (s_nar n0 4 655 20 (s_pr 11 0 (s_la 0 (s_ic (nI 216) (s_nar n0 4 655 20 (s_pr 11 1 (s_la 0 (s_ic (nI 216) (s_nar n0 4 655 20 (s_pr 11 2 (s_la 0 (s_ic (nI 7) (s_nar n0 4 655 20 (s_pr 11 3 (s_la 0 (s_ic (nI 0) (s_pi 11 4 (s_rv Q))))))))))))))))))))))
def FX10_init : az_F := az_funI [true] 1 PX10_init
theorem okX10_init (l : Launch) : az_metI l yX10_init cX10_init 1 ({ frames := 1, cells := 4, slots := 655, locals := 100 } : Room) FX10_init := az_metI_of (own := RX10) (by decide +kernel) rfl rfl (by decide) (fun X Q n0 C G CI O => by
  have h44 := az_vreturn C rfl dX10_init_44
  have h41 := az_putI (T := TX10) (N := 5) (j := 4) C gwRX10 rfl (by decide) (by decide) tyX10 tyX10_ok nmX10 iIRX10_4 (by decide +kernel) rfl mFRX10_24 rfl dX10_init_41 h44
  have h40 := az_iconst (x := (nI 0)) C dX10_init_40 (by decide +kernel) h41
  have h39 := az_aload_n C 0 rfl dX10_init_39 h40
  have h36 := az_putR (T := TX10) (N := 5) (ci := 11) (j := 3) (ty := (.array .int)) C CI gwRX10 rfl (by decide) (by decide) tyX10 tyX10_ok nmX10 iIRX10_3 (by decide +kernel) (fun _ => ⟨rfl, rfl⟩) rfl rfl mFRX10_21 rfl dX10_init_36 h39
  have h34 := az_nar (n0 := n0) (cm := 4) (sm := 655) (kd := 20) (atype := .int) (ty := .int) C G (by decide) (by decide) rfl (by decide) (fun _ => rfl) (fun _ _ h => h) (by decide) (az_zI (by decide) rfl) acl_int dX10_init_34 h36
  have h32 := az_bipush (x := (nI 7)) C dX10_init_32 (by decide +kernel) h34
  have h31 := az_aload_n C 0 rfl dX10_init_31 h32
  have h28 := az_putR (T := TX10) (N := 5) (ci := 11) (j := 2) (ty := (.array .int)) C CI gwRX10 rfl (by decide) (by decide) tyX10 tyX10_ok nmX10 iIRX10_2 (by decide +kernel) (fun _ => ⟨rfl, rfl⟩) rfl rfl mFRX10_18 rfl dX10_init_28 h31
  have h26 := az_nar (n0 := n0) (cm := 4) (sm := 655) (kd := 20) (atype := .int) (ty := .int) C G (by decide) (by decide) rfl (by decide) (fun _ => rfl) (fun _ _ h => h) (by decide) (az_zI (by decide) rfl) acl_int dX10_init_26 h28
  have h23 := az_sipush (x := (nI 216)) C dX10_init_23 (by decide +kernel) h26
  have h22 := az_aload_n C 0 rfl dX10_init_22 h23
  have h19 := az_putR (T := TX10) (N := 5) (ci := 11) (j := 1) (ty := (.array .int)) C CI gwRX10 rfl (by decide) (by decide) tyX10 tyX10_ok nmX10 iIRX10_1 (by decide +kernel) (fun _ => ⟨rfl, rfl⟩) rfl rfl mFRX10_15 rfl dX10_init_19 h22
  have h17 := az_nar (n0 := n0) (cm := 4) (sm := 655) (kd := 20) (atype := .int) (ty := .int) C G (by decide) (by decide) rfl (by decide) (fun _ => rfl) (fun _ _ h => h) (by decide) (az_zI (by decide) rfl) acl_int dX10_init_17 h19
  have h14 := az_sipush (x := (nI 216)) C dX10_init_14 (by decide +kernel) h17
  have h13 := az_aload_n C 0 rfl dX10_init_13 h14
  have h10 := az_putR (T := TX10) (N := 5) (ci := 11) (j := 0) (ty := (.array .int)) C CI gwRX10 rfl (by decide) (by decide) tyX10 tyX10_ok nmX10 iIRX10_0 (by decide +kernel) (fun _ => ⟨rfl, rfl⟩) rfl rfl mFRX10_11 rfl dX10_init_10 h13
  have h8 := az_nar (n0 := n0) (cm := 4) (sm := 655) (kd := 20) (atype := .int) (ty := .int) C G (by decide) (by decide) rfl (by decide) (fun _ => rfl) (fun _ _ h => h) (by decide) (az_zI (by decide) rfl) acl_int dX10_init_8 h10
  have h5 := az_sipush (x := (nI 216)) C dX10_init_5 (by decide +kernel) h8
  have h4 := az_aload_n C 0 rfl dX10_init_4 h5
  have h1 := az_obji C mLRX10_3 obj_in obj_co (by decide) dX10_init_1 h4
  have h0 := az_aload_n C 0 rfl dX10_init_0 h1
  exact h0) l
theorem dX2_init_0 : decode cX2_init 0 = .ok (.aload_n 0, 1) := by decide +kernel
theorem dX2_init_1 : decode cX2_init 1 = .ok (.invokespecial 3, 3) := by decide +kernel
theorem dX2_init_4 : decode cX2_init 4 = .ok (.aload_n 0, 1) := by decide +kernel
theorem dX2_init_5 : decode cX2_init 5 = .ok (.bipush 8, 2) := by decide +kernel
theorem dX2_init_7 : decode cX2_init 7 = .ok (.anewarray 9, 3) := by decide +kernel
theorem dX2_init_10 : decode cX2_init 10 = .ok (.putfield 11, 3) := by decide +kernel
theorem dX2_init_13 : decode cX2_init 13 = .ok (.aload_n 0, 1) := by decide +kernel
theorem dX2_init_14 : decode cX2_init 14 = .ok (.iconst 0, 1) := by decide +kernel
theorem dX2_init_15 : decode cX2_init 15 = .ok (.putfield 17, 3) := by decide +kernel
theorem dX2_init_18 : decode cX2_init 18 = .ok (.aload_n 0, 1) := by decide +kernel
theorem dX2_init_19 : decode cX2_init 19 = .ok (.iconst 0, 1) := by decide +kernel
theorem dX2_init_20 : decode cX2_init 20 = .ok (.putfield 21, 3) := by decide +kernel
theorem dX2_init_23 : decode cX2_init 23 = .ok (.iconst 0, 1) := by decide +kernel
theorem dX2_init_24 : decode cX2_init 24 = .ok (.istore_n 1, 1) := by decide +kernel
theorem dX2_init_25 : decode cX2_init 25 = .ok (.iload_n 1, 1) := by decide +kernel
theorem dX2_init_26 : decode cX2_init 26 = .ok (.bipush 8, 2) := by decide +kernel
theorem dX2_init_28 : decode cX2_init 28 = .ok (.if_icmp .ge 22, 3) := by decide +kernel
theorem dX2_init_31 : decode cX2_init 31 = .ok (.aload_n 0, 1) := by decide +kernel
theorem dX2_init_32 : decode cX2_init 32 = .ok (.getfield 11, 3) := by decide +kernel
theorem dX2_init_35 : decode cX2_init 35 = .ok (.iload_n 1, 1) := by decide +kernel
theorem dX2_init_36 : decode cX2_init 36 = .ok (.new 9, 3) := by decide +kernel
theorem dX2_init_39 : decode cX2_init 39 = .ok (.dup, 1) := by decide +kernel
theorem dX2_init_40 : decode cX2_init 40 = .ok (.invokespecial 24, 3) := by decide +kernel
theorem dX2_init_43 : decode cX2_init 43 = .ok (.aastore, 1) := by decide +kernel
theorem dX2_init_44 : decode cX2_init 44 = .ok (.iinc 1 1, 3) := by decide +kernel
theorem dX2_init_47 : decode cX2_init 47 = .ok (.goto (-22), 3) := by decide +kernel
theorem dX2_init_50 : decode cX2_init 50 = .ok (.return_, 1) := by decide +kernel
def BX2_init_25 (n0 : Nat) (Q : Option Value → az_M → Prop) (Z25 : az_T) : az_T := (s_li 1 (s_ic (nI 8) (s_if2 d_ge (s_rv Q) (s_la 0 (s_gr 4 0 (s_li 1 (s_new n0 185 2064 9 11 (s_dup (s_ci n0 185 2064 22 246 0 9 FX8_init (s_ast (s_inc 1 (nI 1) (s_kp [true, true] Z25))))))))))))
theorem okBX2_init_25 {X : az_X} {Q : Option Value → az_M → Prop} {n0 : Nat} (C : az_C X cX2_init 2 RX2 (az_ts yX2_init cX2_init 2 none) ({ frames := 3, cells := 185, slots := 2064, locals := 144 } : Room) none Q) (G : az_G X n0) (CI : az_I X) (O : az_O X) {Z25 : az_T} (hZ25 : az_ok X 25 Z25) : az_ok X 25 (BX2_init_25 n0 Q Z25) := by
  have h50 := az_vreturn C rfl dX2_init_50
  have h47 := az_goto (tgt := 25) C dX2_init_47 (by decide) (az_keep [true, true] hZ25)
  have h44 := az_iinc (v := (nI 1)) C (by decide) (by decide +kernel) dX2_init_44 h47
  have h43 := az_astst C rfl dX2_init_43 h44
  have h40 := az_callI (n0 := n0) (cm := 185) (sm := 2064) (ci := 9) C G (by decide) (by decide) O okX8_init knX8_init rfl imX8_init mLRX2_24 ⟨by decide, by decide⟩ dX2_init_40 h43
  have h39 := az_dup C dX2_init_39 h40
  have h36 := az_new (n0 := n0) (cm := 185) (sm := 2064) (T := TX8) (N := 11) (ci := 9) C G (by decide) (by decide) gwRX8 rfl (by decide) tyX8 tyX8_ok (by decide +kernel) ckRX2_9 cinRX8 ciniRX8 dX2_init_36 h39
  have h35 := az_iload_n C 1 rfl dX2_init_35 h36
  have h32 := az_getR (T := TX2) (N := 3) (j := 0) C gwRX2 rfl (by decide) (by decide) iIRX2_0 mFRX2_11 rfl dX2_init_32 h35
  have h31 := az_aload_n C 0 rfl dX2_init_31 h32
  have h28 := az_icmp_ge (tgt := 50) C dX2_init_28 (by decide) h50 h31
  have h26 := az_bipush (x := (nI 8)) C dX2_init_26 (by decide +kernel) h28
  have h25 := az_iload_n C 1 rfl dX2_init_25 h26
  exact h25
def LX2_init_25 (n0 : Nat) (Q : Option Value → az_M → Prop) : az_T := s_lp (fun Z => BX2_init_25 n0 Q Z)
theorem okLX2_init_25 {X : az_X} {Q : Option Value → az_M → Prop} {n0 : Nat} (C : az_C X cX2_init 2 RX2 (az_ts yX2_init cX2_init 2 none) ({ frames := 3, cells := 185, slots := 2064, locals := 144 } : Room) none Q) (G : az_G X n0) (CI : az_I X) (O : az_O X) : az_ok X 25 (LX2_init_25 n0 Q) := az_loop (F := fun Z => BX2_init_25 n0 Q Z) (fun _ hZ => okBX2_init_25 C G CI O hZ)
def PX2_init (n0 : Nat) (Q : Option Value → az_M → Prop) : az_T := (s_la 0 (s_obj (s_la 0 (s_ic (nI 8) (s_anq n0 185 2064 (s_pr 4 0 (s_la 0 (s_ic (nI 0) (s_pi 4 1 (s_la 0 (s_ic (nI 0) (s_pi 4 2 (s_ic (nI 0) (s_si 1 (s_kp [true, true] (LX2_init_25 n0 Q))))))))))))))))
def FX2_init : az_F := az_funI [true] 2 PX2_init
theorem okX2_init (l : Launch) : az_metI l yX2_init cX2_init 2 ({ frames := 3, cells := 185, slots := 2064, locals := 144 } : Room) FX2_init := az_metI_of (own := RX2) (by decide +kernel) rfl rfl (by decide) (fun X Q n0 C G CI O => by
  have h24 := az_istore_n C 1 rfl (by decide) dX2_init_24 (az_keep [true, true] (okLX2_init_25 C G CI O))
  have h23 := az_iconst (x := (nI 0)) C dX2_init_23 (by decide +kernel) h24
  have h20 := az_putI (T := TX2) (N := 3) (j := 2) C gwRX2 rfl (by decide) (by decide) tyX2 tyX2_ok nmX2 iIRX2_2 (by decide +kernel) rfl mFRX2_21 rfl dX2_init_20 h23
  have h19 := az_iconst (x := (nI 0)) C dX2_init_19 (by decide +kernel) h20
  have h18 := az_aload_n C 0 rfl dX2_init_18 h19
  have h15 := az_putI (T := TX2) (N := 3) (j := 1) C gwRX2 rfl (by decide) (by decide) tyX2 tyX2_ok nmX2 iIRX2_1 (by decide +kernel) rfl mFRX2_17 rfl dX2_init_15 h18
  have h14 := az_iconst (x := (nI 0)) C dX2_init_14 (by decide +kernel) h15
  have h13 := az_aload_n C 0 rfl dX2_init_13 h14
  have h10 := az_putR (T := TX2) (N := 3) (ci := 4) (j := 0) (ty := (.array (.object "UnitCommitment$State"))) C CI gwRX2 rfl (by decide) (by decide) tyX2 tyX2_ok nmX2 iIRX2_0 (by decide +kernel) (fun _ => ⟨rfl, rfl⟩) rfl rfl mFRX2_11 rfl dX2_init_10 h13
  have h7 := az_anq (n0 := n0) (cm := 185) (sm := 2064) C G (by decide) (by decide) cksRX2_9 O dX2_init_7 h10
  have h5 := az_bipush (x := (nI 8)) C dX2_init_5 (by decide +kernel) h7
  have h4 := az_aload_n C 0 rfl dX2_init_4 h5
  have h1 := az_obji C mLRX2_3 obj_in obj_co (by decide) dX2_init_1 h4
  have h0 := az_aload_n C 0 rfl dX2_init_0 h1
  exact h0) l
theorem dX4_init_0 : decode cX4_init 0 = .ok (.aload_n 0, 1) := by decide +kernel
theorem dX4_init_1 : decode cX4_init 1 = .ok (.invokespecial 3, 3) := by decide +kernel
theorem dX4_init_4 : decode cX4_init 4 = .ok (.aload_n 0, 1) := by decide +kernel
theorem dX4_init_5 : decode cX4_init 5 = .ok (.new 9, 3) := by decide +kernel
theorem dX4_init_8 : decode cX4_init 8 = .ok (.dup, 1) := by decide +kernel
theorem dX4_init_9 : decode cX4_init 9 = .ok (.invokespecial 11, 3) := by decide +kernel
theorem dX4_init_12 : decode cX4_init 12 = .ok (.putfield 12, 3) := by decide +kernel
theorem dX4_init_15 : decode cX4_init 15 = .ok (.aload_n 0, 1) := by decide +kernel
theorem dX4_init_16 : decode cX4_init 16 = .ok (.new 18, 3) := by decide +kernel
theorem dX4_init_19 : decode cX4_init 19 = .ok (.dup, 1) := by decide +kernel
theorem dX4_init_20 : decode cX4_init 20 = .ok (.invokespecial 20, 3) := by decide +kernel
theorem dX4_init_23 : decode cX4_init 23 = .ok (.putfield 21, 3) := by decide +kernel
theorem dX4_init_26 : decode cX4_init 26 = .ok (.aload_n 0, 1) := by decide +kernel
theorem dX4_init_27 : decode cX4_init 27 = .ok (.new 25, 3) := by decide +kernel
theorem dX4_init_30 : decode cX4_init 30 = .ok (.dup, 1) := by decide +kernel
theorem dX4_init_31 : decode cX4_init 31 = .ok (.invokespecial 27, 3) := by decide +kernel
theorem dX4_init_34 : decode cX4_init 34 = .ok (.putfield 28, 3) := by decide +kernel
theorem dX4_init_37 : decode cX4_init 37 = .ok (.aload_n 0, 1) := by decide +kernel
theorem dX4_init_38 : decode cX4_init 38 = .ok (.bipush 6, 2) := by decide +kernel
theorem dX4_init_40 : decode cX4_init 40 = .ok (.bipush 24, 2) := by decide +kernel
theorem dX4_init_42 : decode cX4_init 42 = .ok (.multianewarray 32 2, 4) := by decide +kernel
theorem dX4_init_46 : decode cX4_init 46 = .ok (.putfield 34, 3) := by decide +kernel
theorem dX4_init_49 : decode cX4_init 49 = .ok (.aload_n 0, 1) := by decide +kernel
theorem dX4_init_50 : decode cX4_init 50 = .ok (.bipush 6, 2) := by decide +kernel
theorem dX4_init_52 : decode cX4_init 52 = .ok (.bipush 24, 2) := by decide +kernel
theorem dX4_init_54 : decode cX4_init 54 = .ok (.multianewarray 32 2, 4) := by decide +kernel
theorem dX4_init_58 : decode cX4_init 58 = .ok (.putfield 37, 3) := by decide +kernel
theorem dX4_init_61 : decode cX4_init 61 = .ok (.aload_n 0, 1) := by decide +kernel
theorem dX4_init_62 : decode cX4_init 62 = .ok (.bipush 6, 2) := by decide +kernel
theorem dX4_init_64 : decode cX4_init 64 = .ok (.bipush 24, 2) := by decide +kernel
theorem dX4_init_66 : decode cX4_init 66 = .ok (.multianewarray 32 2, 4) := by decide +kernel
theorem dX4_init_70 : decode cX4_init 70 = .ok (.putfield 40, 3) := by decide +kernel
theorem dX4_init_73 : decode cX4_init 73 = .ok (.aload_n 0, 1) := by decide +kernel
theorem dX4_init_74 : decode cX4_init 74 = .ok (.bipush 6, 2) := by decide +kernel
theorem dX4_init_76 : decode cX4_init 76 = .ok (.bipush 24, 2) := by decide +kernel
theorem dX4_init_78 : decode cX4_init 78 = .ok (.multianewarray 32 2, 4) := by decide +kernel
theorem dX4_init_82 : decode cX4_init 82 = .ok (.putfield 43, 3) := by decide +kernel
theorem dX4_init_85 : decode cX4_init 85 = .ok (.aload_n 0, 1) := by decide +kernel
theorem dX4_init_86 : decode cX4_init 86 = .ok (.bipush 6, 2) := by decide +kernel
theorem dX4_init_88 : decode cX4_init 88 = .ok (.bipush 24, 2) := by decide +kernel
theorem dX4_init_90 : decode cX4_init 90 = .ok (.multianewarray 32 2, 4) := by decide +kernel
theorem dX4_init_94 : decode cX4_init 94 = .ok (.putfield 46, 3) := by decide +kernel
theorem dX4_init_97 : decode cX4_init 97 = .ok (.aload_n 0, 1) := by decide +kernel
theorem dX4_init_98 : decode cX4_init 98 = .ok (.bipush 13, 2) := by decide +kernel
theorem dX4_init_100 : decode cX4_init 100 = .ok (.bipush 24, 2) := by decide +kernel
theorem dX4_init_102 : decode cX4_init 102 = .ok (.multianewarray 32 2, 4) := by decide +kernel
theorem dX4_init_106 : decode cX4_init 106 = .ok (.putfield 49, 3) := by decide +kernel
theorem dX4_init_109 : decode cX4_init 109 = .ok (.aload_n 0, 1) := by decide +kernel
theorem dX4_init_110 : decode cX4_init 110 = .ok (.bipush 6, 2) := by decide +kernel
theorem dX4_init_112 : decode cX4_init 112 = .ok (.newarray .int, 2) := by decide +kernel
theorem dX4_init_114 : decode cX4_init 114 = .ok (.putfield 52, 3) := by decide +kernel
theorem dX4_init_117 : decode cX4_init 117 = .ok (.return_, 1) := by decide +kernel
def PX4_init (n0 : Nat) (Q : Option Value → az_M → Prop) : az_T := (s_la 0 (s_obj (s_la 0 (s_new n0 106 2250 2 3 (s_dup (s_ci n0 106 2250 3 36 0 2 FX0_init (s_pr 6 0 (s_la 0 (s_new n0 106 2250 10 3 (s_dup (s_ci n0 106 2250 15 324 0 10 FX9_init (s_pr 6 1 (s_la 0 (s_new n0 106 2250 3 3 (s_dup (s_ci n0 106 2250 35 800 0 3 FX1_init (s_pr 6 2 (s_la 0 (s_ic (nI 6) (s_ic (nI 24) (s_mna n0 106 2250 (s_pr 6 3 (s_la 0 (s_ic (nI 6) (s_ic (nI 24) (s_mna n0 106 2250 (s_pr 6 4 (s_la 0 (s_ic (nI 6) (s_ic (nI 24) (s_mna n0 106 2250 (s_pr 6 5 (s_la 0 (s_ic (nI 6) (s_ic (nI 24) (s_mna n0 106 2250 (s_pr 6 6 (s_la 0 (s_ic (nI 6) (s_ic (nI 24) (s_mna n0 106 2250 (s_pr 6 7 (s_la 0 (s_ic (nI 13) (s_ic (nI 24) (s_mna n0 106 2250 (s_pr 6 8 (s_la 0 (s_ic (nI 6) (s_nar n0 106 2250 20 (s_pr 6 9 (s_rv Q))))))))))))))))))))))))))))))))))))))))))))))))))))
def FX4_init : az_F := az_funI [true] 1 PX4_init
theorem okX4_init (l : Launch) : az_metI l yX4_init cX4_init 1 ({ frames := 2, cells := 106, slots := 2250, locals := 120 } : Room) FX4_init := az_metI_of (own := RX4) (by decide +kernel) rfl rfl (by decide) (fun X Q n0 C G CI O => by
  have h117 := az_vreturn C rfl dX4_init_117
  have h114 := az_putR (T := TX4) (N := 10) (ci := 6) (j := 9) (ty := (.array .int)) C CI gwRX4 rfl (by decide) (by decide) tyX4 tyX4_ok nmX4 iIRX4_9 (by decide +kernel) (fun _ => ⟨rfl, rfl⟩) rfl rfl mFRX4_52 rfl dX4_init_114 h117
  have h112 := az_nar (n0 := n0) (cm := 106) (sm := 2250) (kd := 20) (atype := .int) (ty := .int) C G (by decide) (by decide) rfl (by decide) (fun _ => rfl) (fun _ _ h => h) (by decide) (az_zI (by decide) rfl) acl_int dX4_init_112 h114
  have h110 := az_bipush (x := (nI 6)) C dX4_init_110 (by decide +kernel) h112
  have h109 := az_aload_n C 0 rfl dX4_init_109 h110
  have h106 := az_putR (T := TX4) (N := 10) (ci := 6) (j := 8) (ty := (.array (.array .int))) C CI gwRX4 rfl (by decide) (by decide) tyX4 tyX4_ok nmX4 iIRX4_8 (by decide +kernel) (fun _ => ⟨rfl, rfl⟩) rfl rfl mFRX4_49 rfl dX4_init_106 h109
  have h102 := az_mna (n0 := n0) (cm := 106) (sm := 2250) C G (by decide) (by decide) cksRX4_32 O acl_int dX4_init_102 h106
  have h100 := az_bipush (x := (nI 24)) C dX4_init_100 (by decide +kernel) h102
  have h98 := az_bipush (x := (nI 13)) C dX4_init_98 (by decide +kernel) h100
  have h97 := az_aload_n C 0 rfl dX4_init_97 h98
  have h94 := az_putR (T := TX4) (N := 10) (ci := 6) (j := 7) (ty := (.array (.array .int))) C CI gwRX4 rfl (by decide) (by decide) tyX4 tyX4_ok nmX4 iIRX4_7 (by decide +kernel) (fun _ => ⟨rfl, rfl⟩) rfl rfl mFRX4_46 rfl dX4_init_94 h97
  have h90 := az_mna (n0 := n0) (cm := 106) (sm := 2250) C G (by decide) (by decide) cksRX4_32 O acl_int dX4_init_90 h94
  have h88 := az_bipush (x := (nI 24)) C dX4_init_88 (by decide +kernel) h90
  have h86 := az_bipush (x := (nI 6)) C dX4_init_86 (by decide +kernel) h88
  have h85 := az_aload_n C 0 rfl dX4_init_85 h86
  have h82 := az_putR (T := TX4) (N := 10) (ci := 6) (j := 6) (ty := (.array (.array .int))) C CI gwRX4 rfl (by decide) (by decide) tyX4 tyX4_ok nmX4 iIRX4_6 (by decide +kernel) (fun _ => ⟨rfl, rfl⟩) rfl rfl mFRX4_43 rfl dX4_init_82 h85
  have h78 := az_mna (n0 := n0) (cm := 106) (sm := 2250) C G (by decide) (by decide) cksRX4_32 O acl_int dX4_init_78 h82
  have h76 := az_bipush (x := (nI 24)) C dX4_init_76 (by decide +kernel) h78
  have h74 := az_bipush (x := (nI 6)) C dX4_init_74 (by decide +kernel) h76
  have h73 := az_aload_n C 0 rfl dX4_init_73 h74
  have h70 := az_putR (T := TX4) (N := 10) (ci := 6) (j := 5) (ty := (.array (.array .int))) C CI gwRX4 rfl (by decide) (by decide) tyX4 tyX4_ok nmX4 iIRX4_5 (by decide +kernel) (fun _ => ⟨rfl, rfl⟩) rfl rfl mFRX4_40 rfl dX4_init_70 h73
  have h66 := az_mna (n0 := n0) (cm := 106) (sm := 2250) C G (by decide) (by decide) cksRX4_32 O acl_int dX4_init_66 h70
  have h64 := az_bipush (x := (nI 24)) C dX4_init_64 (by decide +kernel) h66
  have h62 := az_bipush (x := (nI 6)) C dX4_init_62 (by decide +kernel) h64
  have h61 := az_aload_n C 0 rfl dX4_init_61 h62
  have h58 := az_putR (T := TX4) (N := 10) (ci := 6) (j := 4) (ty := (.array (.array .int))) C CI gwRX4 rfl (by decide) (by decide) tyX4 tyX4_ok nmX4 iIRX4_4 (by decide +kernel) (fun _ => ⟨rfl, rfl⟩) rfl rfl mFRX4_37 rfl dX4_init_58 h61
  have h54 := az_mna (n0 := n0) (cm := 106) (sm := 2250) C G (by decide) (by decide) cksRX4_32 O acl_int dX4_init_54 h58
  have h52 := az_bipush (x := (nI 24)) C dX4_init_52 (by decide +kernel) h54
  have h50 := az_bipush (x := (nI 6)) C dX4_init_50 (by decide +kernel) h52
  have h49 := az_aload_n C 0 rfl dX4_init_49 h50
  have h46 := az_putR (T := TX4) (N := 10) (ci := 6) (j := 3) (ty := (.array (.array .int))) C CI gwRX4 rfl (by decide) (by decide) tyX4 tyX4_ok nmX4 iIRX4_3 (by decide +kernel) (fun _ => ⟨rfl, rfl⟩) rfl rfl mFRX4_34 rfl dX4_init_46 h49
  have h42 := az_mna (n0 := n0) (cm := 106) (sm := 2250) C G (by decide) (by decide) cksRX4_32 O acl_int dX4_init_42 h46
  have h40 := az_bipush (x := (nI 24)) C dX4_init_40 (by decide +kernel) h42
  have h38 := az_bipush (x := (nI 6)) C dX4_init_38 (by decide +kernel) h40
  have h37 := az_aload_n C 0 rfl dX4_init_37 h38
  have h34 := az_putR (T := TX4) (N := 10) (ci := 6) (j := 2) (ty := (.object "UnitCommitment$Grid")) C CI gwRX4 rfl (by decide) (by decide) tyX4 tyX4_ok nmX4 iIRX4_2 (by decide +kernel) (fun _ => ⟨rfl, rfl⟩) rfl rfl mFRX4_28 rfl dX4_init_34 h37
  have h31 := az_callIN (n0 := n0) (cm := 106) (sm := 2250) (ci := 3) C G (by decide) (by decide) O okX1_init knX1_init rfl imX1_init mNRX4_27 ⟨by decide, by decide⟩ dX4_init_31 h34
  have h30 := az_dup C dX4_init_30 h31
  have h27 := az_new (n0 := n0) (cm := 106) (sm := 2250) (T := TX1) (N := 3) (ci := 3) C G (by decide) (by decide) gwRX1 rfl (by decide) tyX1 tyX1_ok (by decide +kernel) ckRX4_25 cinRX1 ciniRX1 dX4_init_27 h30
  have h26 := az_aload_n C 0 rfl dX4_init_26 h27
  have h23 := az_putR (T := TX4) (N := 10) (ci := 6) (j := 1) (ty := (.object "UnitCommitment$Times")) C CI gwRX4 rfl (by decide) (by decide) tyX4 tyX4_ok nmX4 iIRX4_1 (by decide +kernel) (fun _ => ⟨rfl, rfl⟩) rfl rfl mFRX4_21 rfl dX4_init_23 h26
  have h20 := az_callIN (n0 := n0) (cm := 106) (sm := 2250) (ci := 10) C G (by decide) (by decide) O okX9_init knX9_init rfl imX9_init mNRX4_20 ⟨by decide, by decide⟩ dX4_init_20 h23
  have h19 := az_dup C dX4_init_19 h20
  have h16 := az_new (n0 := n0) (cm := 106) (sm := 2250) (T := TX9) (N := 3) (ci := 10) C G (by decide) (by decide) gwRX9 rfl (by decide) tyX9 tyX9_ok (by decide +kernel) ckRX4_18 cinRX9 ciniRX9 dX4_init_16 h19
  have h15 := az_aload_n C 0 rfl dX4_init_15 h16
  have h12 := az_putR (T := TX4) (N := 10) (ci := 6) (j := 0) (ty := (.object "UnitCommitment$Crew")) C CI gwRX4 rfl (by decide) (by decide) tyX4 tyX4_ok nmX4 iIRX4_0 (by decide +kernel) (fun _ => ⟨rfl, rfl⟩) rfl rfl mFRX4_12 rfl dX4_init_12 h15
  have h9 := az_callIN (n0 := n0) (cm := 106) (sm := 2250) (ci := 2) C G (by decide) (by decide) O okX0_init knX0_init rfl imX0_init mNRX4_11 ⟨by decide, by decide⟩ dX4_init_9 h12
  have h8 := az_dup C dX4_init_8 h9
  have h5 := az_new (n0 := n0) (cm := 106) (sm := 2250) (T := TX0) (N := 3) (ci := 2) C G (by decide) (by decide) gwRX0 rfl (by decide) tyX0 tyX0_ok (by decide +kernel) ckRX4_9 cinRX0 ciniRX0 dX4_init_5 h8
  have h4 := az_aload_n C 0 rfl dX4_init_4 h5
  have h1 := az_obji C mLRX4_3 obj_in obj_co (by decide) dX4_init_1 h4
  have h0 := az_aload_n C 0 rfl dX4_init_0 h1
  exact h0) l
theorem dX11_init_0 : decode cX11_init 0 = .ok (.aload_n 0, 1) := by decide +kernel
theorem dX11_init_1 : decode cX11_init 1 = .ok (.invokespecial 1, 3) := by decide +kernel
theorem dX11_init_4 : decode cX11_init 4 = .ok (.aload_n 0, 1) := by decide +kernel
theorem dX11_init_5 : decode cX11_init 5 = .ok (.new 7, 3) := by decide +kernel
theorem dX11_init_8 : decode cX11_init 8 = .ok (.dup, 1) := by decide +kernel
theorem dX11_init_9 : decode cX11_init 9 = .ok (.invokespecial 9, 3) := by decide +kernel
theorem dX11_init_12 : decode cX11_init 12 = .ok (.putfield 10, 3) := by decide +kernel
theorem dX11_init_15 : decode cX11_init 15 = .ok (.aload_n 0, 1) := by decide +kernel
theorem dX11_init_16 : decode cX11_init 16 = .ok (.new 7, 3) := by decide +kernel
theorem dX11_init_19 : decode cX11_init 19 = .ok (.dup, 1) := by decide +kernel
theorem dX11_init_20 : decode cX11_init 20 = .ok (.invokespecial 9, 3) := by decide +kernel
theorem dX11_init_23 : decode cX11_init 23 = .ok (.putfield 16, 3) := by decide +kernel
theorem dX11_init_26 : decode cX11_init 26 = .ok (.aload_n 0, 1) := by decide +kernel
theorem dX11_init_27 : decode cX11_init 27 = .ok (.new 19, 3) := by decide +kernel
theorem dX11_init_30 : decode cX11_init 30 = .ok (.dup, 1) := by decide +kernel
theorem dX11_init_31 : decode cX11_init 31 = .ok (.invokespecial 21, 3) := by decide +kernel
theorem dX11_init_34 : decode cX11_init 34 = .ok (.putfield 22, 3) := by decide +kernel
theorem dX11_init_37 : decode cX11_init 37 = .ok (.aload_n 0, 1) := by decide +kernel
theorem dX11_init_38 : decode cX11_init 38 = .ok (.new 26, 3) := by decide +kernel
theorem dX11_init_41 : decode cX11_init 41 = .ok (.dup, 1) := by decide +kernel
theorem dX11_init_42 : decode cX11_init 42 = .ok (.invokespecial 28, 3) := by decide +kernel
theorem dX11_init_45 : decode cX11_init 45 = .ok (.putfield 29, 3) := by decide +kernel
theorem dX11_init_48 : decode cX11_init 48 = .ok (.aload_n 0, 1) := by decide +kernel
theorem dX11_init_49 : decode cX11_init 49 = .ok (.new 33, 3) := by decide +kernel
theorem dX11_init_52 : decode cX11_init 52 = .ok (.dup, 1) := by decide +kernel
theorem dX11_init_53 : decode cX11_init 53 = .ok (.invokespecial 35, 3) := by decide +kernel
theorem dX11_init_56 : decode cX11_init 56 = .ok (.putfield 36, 3) := by decide +kernel
theorem dX11_init_59 : decode cX11_init 59 = .ok (.aload_n 0, 1) := by decide +kernel
theorem dX11_init_60 : decode cX11_init 60 = .ok (.new 40, 3) := by decide +kernel
theorem dX11_init_63 : decode cX11_init 63 = .ok (.dup, 1) := by decide +kernel
theorem dX11_init_64 : decode cX11_init 64 = .ok (.invokespecial 42, 3) := by decide +kernel
theorem dX11_init_67 : decode cX11_init 67 = .ok (.putfield 43, 3) := by decide +kernel
theorem dX11_init_70 : decode cX11_init 70 = .ok (.aload_n 0, 1) := by decide +kernel
theorem dX11_init_71 : decode cX11_init 71 = .ok (.new 47, 3) := by decide +kernel
theorem dX11_init_74 : decode cX11_init 74 = .ok (.dup, 1) := by decide +kernel
theorem dX11_init_75 : decode cX11_init 75 = .ok (.invokespecial 49, 3) := by decide +kernel
theorem dX11_init_78 : decode cX11_init 78 = .ok (.putfield 50, 3) := by decide +kernel
theorem dX11_init_81 : decode cX11_init 81 = .ok (.aload_n 0, 1) := by decide +kernel
theorem dX11_init_82 : decode cX11_init 82 = .ok (.new 54, 3) := by decide +kernel
theorem dX11_init_85 : decode cX11_init 85 = .ok (.dup, 1) := by decide +kernel
theorem dX11_init_86 : decode cX11_init 86 = .ok (.invokespecial 56, 3) := by decide +kernel
theorem dX11_init_89 : decode cX11_init 89 = .ok (.putfield 57, 3) := by decide +kernel
theorem dX11_init_92 : decode cX11_init 92 = .ok (.aload_n 0, 1) := by decide +kernel
theorem dX11_init_93 : decode cX11_init 93 = .ok (.iconst 0, 1) := by decide +kernel
theorem dX11_init_94 : decode cX11_init 94 = .ok (.putfield 61, 3) := by decide +kernel
theorem dX11_init_97 : decode cX11_init 97 = .ok (.aload_n 0, 1) := by decide +kernel
theorem dX11_init_98 : decode cX11_init 98 = .ok (.iconst 1, 1) := by decide +kernel
theorem dX11_init_99 : decode cX11_init 99 = .ok (.putfield 65, 3) := by decide +kernel
theorem dX11_init_102 : decode cX11_init 102 = .ok (.return_, 1) := by decide +kernel
def PX11_init (n0 : Nat) (Q : Option Value → az_M → Prop) : az_T := (s_la 0 (s_obj (s_la 0 (s_new n0 353 5696 9 11 (s_dup (s_ci n0 353 5696 22 246 0 9 FX8_init (s_pr 12 0 (s_la 0 (s_new n0 353 5696 9 11 (s_dup (s_ci n0 353 5696 22 246 0 9 FX8_init (s_pr 12 1 (s_la 0 (s_new n0 353 5696 4 3 (s_dup (s_ci n0 353 5696 185 2064 0 4 FX2_init (s_pr 12 2 (s_la 0 (s_new n0 353 5696 6 10 (s_dup (s_ci n0 353 5696 106 2250 0 6 FX4_init (s_pr 12 3 (s_la 0 (s_new n0 353 5696 11 5 (s_dup (s_ci n0 353 5696 4 655 0 11 FX10_init (s_pr 12 4 (s_la 0 (s_new n0 353 5696 5 2 (s_dup (s_ci n0 353 5696 2 12 0 5 FX3_init (s_pr 12 5 (s_la 0 (s_new n0 353 5696 8 6 (s_dup (s_ci n0 353 5696 3 72 0 8 FX7_init (s_pr 12 6 (s_la 0 (s_new n0 353 5696 7 3 (s_dup (s_ci n0 353 5696 1 100 0 7 FX5_init (s_pr 12 7 (s_la 0 (s_ic (nI 0) (s_pz 12 8 (s_la 0 (s_ic (nI 1) (s_pz 12 9 (s_rv Q)))))))))))))))))))))))))))))))))))))))))))))))))
def FX11_init : az_F := az_funI [true] 1 PX11_init
theorem okX11_init (l : Launch) : az_metI l yX11_init cX11_init 1 ({ frames := 4, cells := 353, slots := 5696, locals := 165 } : Room) FX11_init := az_metI_of (own := RX11) (by decide +kernel) rfl rfl (by decide) (fun X Q n0 C G CI O => by
  have h102 := az_vreturn C rfl dX11_init_102
  have h99 := az_putZ (T := TX11) (N := 10) (j := 9) C gwRX11 rfl (by decide) (by decide) tyX11 tyX11_ok nmX11 iIRX11_9 (by decide +kernel) rfl mFRX11_65 rfl dX11_init_99 h102
  have h98 := az_iconst (x := (nI 1)) C dX11_init_98 (by decide +kernel) h99
  have h97 := az_aload_n C 0 rfl dX11_init_97 h98
  have h94 := az_putZ (T := TX11) (N := 10) (j := 8) C gwRX11 rfl (by decide) (by decide) tyX11 tyX11_ok nmX11 iIRX11_8 (by decide +kernel) rfl mFRX11_61 rfl dX11_init_94 h97
  have h93 := az_iconst (x := (nI 0)) C dX11_init_93 (by decide +kernel) h94
  have h92 := az_aload_n C 0 rfl dX11_init_92 h93
  have h89 := az_putR (T := TX11) (N := 10) (ci := 12) (j := 7) (ty := (.object "UnitCommitment$PlanText")) C CI gwRX11 rfl (by decide) (by decide) tyX11 tyX11_ok nmX11 iIRX11_7 (by decide +kernel) (fun _ => ⟨rfl, rfl⟩) rfl rfl mFRX11_57 rfl dX11_init_89 h92
  have h86 := az_callIN (n0 := n0) (cm := 353) (sm := 5696) (ci := 7) C G (by decide) (by decide) O okX5_init knX5_init rfl imX5_init mNRX11_56 ⟨by decide, by decide⟩ dX11_init_86 h89
  have h85 := az_dup C dX11_init_85 h86
  have h82 := az_new (n0 := n0) (cm := 353) (sm := 5696) (T := TX5) (N := 3) (ci := 7) C G (by decide) (by decide) gwRX5 rfl (by decide) tyX5 tyX5_ok (by decide +kernel) ckRX11_54 cinRX5 ciniRX5 dX11_init_82 h85
  have h81 := az_aload_n C 0 rfl dX11_init_81 h82
  have h78 := az_putR (T := TX11) (N := 10) (ci := 12) (j := 6) (ty := (.object "UnitCommitment$Search")) C CI gwRX11 rfl (by decide) (by decide) tyX11 tyX11_ok nmX11 iIRX11_6 (by decide +kernel) (fun _ => ⟨rfl, rfl⟩) rfl rfl mFRX11_50 rfl dX11_init_78 h81
  have h75 := az_callIN (n0 := n0) (cm := 353) (sm := 5696) (ci := 8) C G (by decide) (by decide) O okX7_init knX7_init rfl imX7_init mNRX11_49 ⟨by decide, by decide⟩ dX11_init_75 h78
  have h74 := az_dup C dX11_init_74 h75
  have h71 := az_new (n0 := n0) (cm := 353) (sm := 5696) (T := TX7) (N := 6) (ci := 8) C G (by decide) (by decide) gwRX7 rfl (by decide) tyX7 tyX7_ok (by decide +kernel) ckRX11_47 cinRX7 ciniRX7 dX11_init_71 h74
  have h70 := az_aload_n C 0 rfl dX11_init_70 h71
  have h67 := az_putR (T := TX11) (N := 10) (ci := 12) (j := 5) (ty := (.object "UnitCommitment$Merit")) C CI gwRX11 rfl (by decide) (by decide) tyX11 tyX11_ok nmX11 iIRX11_5 (by decide +kernel) (fun _ => ⟨rfl, rfl⟩) rfl rfl mFRX11_43 rfl dX11_init_67 h70
  have h64 := az_callIN (n0 := n0) (cm := 353) (sm := 5696) (ci := 5) C G (by decide) (by decide) O okX3_init knX3_init rfl imX3_init mNRX11_42 ⟨by decide, by decide⟩ dX11_init_64 h67
  have h63 := az_dup C dX11_init_63 h64
  have h60 := az_new (n0 := n0) (cm := 353) (sm := 5696) (T := TX3) (N := 2) (ci := 5) C G (by decide) (by decide) gwRX3 rfl (by decide) tyX3 tyX3_ok (by decide +kernel) ckRX11_40 cinRX3 ciniRX3 dX11_init_60 h63
  have h59 := az_aload_n C 0 rfl dX11_init_59 h60
  have h56 := az_putR (T := TX11) (N := 10) (ci := 12) (j := 4) (ty := (.object "UnitCommitment$Violations")) C CI gwRX11 rfl (by decide) (by decide) tyX11 tyX11_ok nmX11 iIRX11_4 (by decide +kernel) (fun _ => ⟨rfl, rfl⟩) rfl rfl mFRX11_36 rfl dX11_init_56 h59
  have h53 := az_callIN (n0 := n0) (cm := 353) (sm := 5696) (ci := 11) C G (by decide) (by decide) O okX10_init knX10_init rfl imX10_init mNRX11_35 ⟨by decide, by decide⟩ dX11_init_53 h56
  have h52 := az_dup C dX11_init_52 h53
  have h49 := az_new (n0 := n0) (cm := 353) (sm := 5696) (T := TX10) (N := 5) (ci := 11) C G (by decide) (by decide) gwRX10 rfl (by decide) tyX10 tyX10_ok (by decide +kernel) ckRX11_33 cinRX10 ciniRX10 dX11_init_49 h52
  have h48 := az_aload_n C 0 rfl dX11_init_48 h49
  have h45 := az_putR (T := TX11) (N := 10) (ci := 12) (j := 3) (ty := (.object "UnitCommitment$Outcome")) C CI gwRX11 rfl (by decide) (by decide) tyX11 tyX11_ok nmX11 iIRX11_3 (by decide +kernel) (fun _ => ⟨rfl, rfl⟩) rfl rfl mFRX11_29 rfl dX11_init_45 h48
  have h42 := az_callIN (n0 := n0) (cm := 353) (sm := 5696) (ci := 6) C G (by decide) (by decide) O okX4_init knX4_init rfl imX4_init mNRX11_28 ⟨by decide, by decide⟩ dX11_init_42 h45
  have h41 := az_dup C dX11_init_41 h42
  have h38 := az_new (n0 := n0) (cm := 353) (sm := 5696) (T := TX4) (N := 10) (ci := 6) C G (by decide) (by decide) gwRX4 rfl (by decide) tyX4 tyX4_ok (by decide +kernel) ckRX11_26 cinRX4 ciniRX4 dX11_init_38 h41
  have h37 := az_aload_n C 0 rfl dX11_init_37 h38
  have h34 := az_putR (T := TX11) (N := 10) (ci := 12) (j := 2) (ty := (.object "UnitCommitment$History")) C CI gwRX11 rfl (by decide) (by decide) tyX11 tyX11_ok nmX11 iIRX11_2 (by decide +kernel) (fun _ => ⟨rfl, rfl⟩) rfl rfl mFRX11_22 rfl dX11_init_34 h37
  have h31 := az_callI (n0 := n0) (cm := 353) (sm := 5696) (ci := 4) C G (by decide) (by decide) O okX2_init knX2_init rfl imX2_init mLRX11_21 ⟨by decide, by decide⟩ dX11_init_31 h34
  have h30 := az_dup C dX11_init_30 h31
  have h27 := az_new (n0 := n0) (cm := 353) (sm := 5696) (T := TX2) (N := 3) (ci := 4) C G (by decide) (by decide) gwRX2 rfl (by decide) tyX2 tyX2_ok (by decide +kernel) ckRX11_19 cinRX2 ciniRX2 dX11_init_27 h30
  have h26 := az_aload_n C 0 rfl dX11_init_26 h27
  have h23 := az_putR (T := TX11) (N := 10) (ci := 12) (j := 1) (ty := (.object "UnitCommitment$State")) C CI gwRX11 rfl (by decide) (by decide) tyX11 tyX11_ok nmX11 iIRX11_1 (by decide +kernel) (fun _ => ⟨rfl, rfl⟩) rfl rfl mFRX11_16 rfl dX11_init_23 h26
  have h20 := az_callI (n0 := n0) (cm := 353) (sm := 5696) (ci := 9) C G (by decide) (by decide) O okX8_init knX8_init rfl imX8_init mLRX11_9 ⟨by decide, by decide⟩ dX11_init_20 h23
  have h19 := az_dup C dX11_init_19 h20
  have h16 := az_new (n0 := n0) (cm := 353) (sm := 5696) (T := TX8) (N := 11) (ci := 9) C G (by decide) (by decide) gwRX8 rfl (by decide) tyX8 tyX8_ok (by decide +kernel) ckRX11_7 cinRX8 ciniRX8 dX11_init_16 h19
  have h15 := az_aload_n C 0 rfl dX11_init_15 h16
  have h12 := az_putR (T := TX11) (N := 10) (ci := 12) (j := 0) (ty := (.object "UnitCommitment$State")) C CI gwRX11 rfl (by decide) (by decide) tyX11 tyX11_ok nmX11 iIRX11_0 (by decide +kernel) (fun _ => ⟨rfl, rfl⟩) rfl rfl mFRX11_10 rfl dX11_init_12 h15
  have h9 := az_callI (n0 := n0) (cm := 353) (sm := 5696) (ci := 9) C G (by decide) (by decide) O okX8_init knX8_init rfl imX8_init mLRX11_9 ⟨by decide, by decide⟩ dX11_init_9 h12
  have h8 := az_dup C dX11_init_8 h9
  have h5 := az_new (n0 := n0) (cm := 353) (sm := 5696) (T := TX8) (N := 11) (ci := 9) C G (by decide) (by decide) gwRX8 rfl (by decide) tyX8 tyX8_ok (by decide +kernel) ckRX11_7 cinRX8 ciniRX8 dX11_init_5 h8
  have h4 := az_aload_n C 0 rfl dX11_init_4 h5
  have h1 := az_obji C mLRX11_1 obj_in obj_co (by decide) dX11_init_1 h4
  have h0 := az_aload_n C 0 rfl dX11_init_0 h1
  exact h0) l
theorem dX12_init_0 : decode cX12_init 0 = .ok (.aload_n 0, 1) := by decide +kernel
theorem dX12_init_1 : decode cX12_init 1 = .ok (.invokespecial 3, 3) := by decide +kernel
theorem dX12_init_4 : decode cX12_init 4 = .ok (.aload_n 0, 1) := by decide +kernel
theorem dX12_init_5 : decode cX12_init 5 = .ok (.sipush 235, 3) := by decide +kernel
theorem dX12_init_8 : decode cX12_init 8 = .ok (.newarray .int, 2) := by decide +kernel
theorem dX12_init_10 : decode cX12_init 10 = .ok (.putfield 9, 3) := by decide +kernel
theorem dX12_init_13 : decode cX12_init 13 = .ok (.aload_n 0, 1) := by decide +kernel
theorem dX12_init_14 : decode cX12_init 14 = .ok (.sipush 235, 3) := by decide +kernel
theorem dX12_init_17 : decode cX12_init 17 = .ok (.newarray .int, 2) := by decide +kernel
theorem dX12_init_19 : decode cX12_init 19 = .ok (.putfield 13, 3) := by decide +kernel
theorem dX12_init_22 : decode cX12_init 22 = .ok (.aload_n 0, 1) := by decide +kernel
theorem dX12_init_23 : decode cX12_init 23 = .ok (.sipush 1880, 3) := by decide +kernel
theorem dX12_init_26 : decode cX12_init 26 = .ok (.newarray .int, 2) := by decide +kernel
theorem dX12_init_28 : decode cX12_init 28 = .ok (.putfield 16, 3) := by decide +kernel
theorem dX12_init_31 : decode cX12_init 31 = .ok (.aload_n 0, 1) := by decide +kernel
theorem dX12_init_32 : decode cX12_init 32 = .ok (.bipush 6, 2) := by decide +kernel
theorem dX12_init_34 : decode cX12_init 34 = .ok (.newarray .int, 2) := by decide +kernel
theorem dX12_init_36 : decode cX12_init 36 = .ok (.putfield 19, 3) := by decide +kernel
theorem dX12_init_39 : decode cX12_init 39 = .ok (.aload_n 0, 1) := by decide +kernel
theorem dX12_init_40 : decode cX12_init 40 = .ok (.sipush 144, 3) := by decide +kernel
theorem dX12_init_43 : decode cX12_init 43 = .ok (.newarray .boolean, 2) := by decide +kernel
theorem dX12_init_45 : decode cX12_init 45 = .ok (.putfield 22, 3) := by decide +kernel
theorem dX12_init_48 : decode cX12_init 48 = .ok (.aload_n 0, 1) := by decide +kernel
theorem dX12_init_49 : decode cX12_init 49 = .ok (.sipush 144, 3) := by decide +kernel
theorem dX12_init_52 : decode cX12_init 52 = .ok (.newarray .boolean, 2) := by decide +kernel
theorem dX12_init_54 : decode cX12_init 54 = .ok (.putfield 26, 3) := by decide +kernel
theorem dX12_init_57 : decode cX12_init 57 = .ok (.aload_n 0, 1) := by decide +kernel
theorem dX12_init_58 : decode cX12_init 58 = .ok (.sipush 144, 3) := by decide +kernel
theorem dX12_init_61 : decode cX12_init 61 = .ok (.newarray .int, 2) := by decide +kernel
theorem dX12_init_63 : decode cX12_init 63 = .ok (.putfield 29, 3) := by decide +kernel
theorem dX12_init_66 : decode cX12_init 66 = .ok (.aload_n 0, 1) := by decide +kernel
theorem dX12_init_67 : decode cX12_init 67 = .ok (.sipush 144, 3) := by decide +kernel
theorem dX12_init_70 : decode cX12_init 70 = .ok (.newarray .int, 2) := by decide +kernel
theorem dX12_init_72 : decode cX12_init 72 = .ok (.putfield 32, 3) := by decide +kernel
theorem dX12_init_75 : decode cX12_init 75 = .ok (.aload_n 0, 1) := by decide +kernel
theorem dX12_init_76 : decode cX12_init 76 = .ok (.sipush 144, 3) := by decide +kernel
theorem dX12_init_79 : decode cX12_init 79 = .ok (.newarray .int, 2) := by decide +kernel
theorem dX12_init_81 : decode cX12_init 81 = .ok (.putfield 35, 3) := by decide +kernel
theorem dX12_init_84 : decode cX12_init 84 = .ok (.aload_n 0, 1) := by decide +kernel
theorem dX12_init_85 : decode cX12_init 85 = .ok (.sipush 144, 3) := by decide +kernel
theorem dX12_init_88 : decode cX12_init 88 = .ok (.newarray .int, 2) := by decide +kernel
theorem dX12_init_90 : decode cX12_init 90 = .ok (.putfield 38, 3) := by decide +kernel
theorem dX12_init_93 : decode cX12_init 93 = .ok (.aload_n 0, 1) := by decide +kernel
theorem dX12_init_94 : decode cX12_init 94 = .ok (.sipush 144, 3) := by decide +kernel
theorem dX12_init_97 : decode cX12_init 97 = .ok (.newarray .int, 2) := by decide +kernel
theorem dX12_init_99 : decode cX12_init 99 = .ok (.putfield 41, 3) := by decide +kernel
theorem dX12_init_102 : decode cX12_init 102 = .ok (.aload_n 0, 1) := by decide +kernel
theorem dX12_init_103 : decode cX12_init 103 = .ok (.sipush 144, 3) := by decide +kernel
theorem dX12_init_106 : decode cX12_init 106 = .ok (.newarray .int, 2) := by decide +kernel
theorem dX12_init_108 : decode cX12_init 108 = .ok (.putfield 44, 3) := by decide +kernel
theorem dX12_init_111 : decode cX12_init 111 = .ok (.aload_n 0, 1) := by decide +kernel
theorem dX12_init_112 : decode cX12_init 112 = .ok (.sipush 144, 3) := by decide +kernel
theorem dX12_init_115 : decode cX12_init 115 = .ok (.newarray .int, 2) := by decide +kernel
theorem dX12_init_117 : decode cX12_init 117 = .ok (.putfield 47, 3) := by decide +kernel
theorem dX12_init_120 : decode cX12_init 120 = .ok (.aload_n 0, 1) := by decide +kernel
theorem dX12_init_121 : decode cX12_init 121 = .ok (.sipush 576, 3) := by decide +kernel
theorem dX12_init_124 : decode cX12_init 124 = .ok (.newarray .int, 2) := by decide +kernel
theorem dX12_init_126 : decode cX12_init 126 = .ok (.putfield 50, 3) := by decide +kernel
theorem dX12_init_129 : decode cX12_init 129 = .ok (.aload_n 0, 1) := by decide +kernel
theorem dX12_init_130 : decode cX12_init 130 = .ok (.bipush 96, 2) := by decide +kernel
theorem dX12_init_132 : decode cX12_init 132 = .ok (.newarray .int, 2) := by decide +kernel
theorem dX12_init_134 : decode cX12_init 134 = .ok (.putfield 53, 3) := by decide +kernel
theorem dX12_init_137 : decode cX12_init 137 = .ok (.aload_n 0, 1) := by decide +kernel
theorem dX12_init_138 : decode cX12_init 138 = .ok (.bipush 96, 2) := by decide +kernel
theorem dX12_init_140 : decode cX12_init 140 = .ok (.newarray .int, 2) := by decide +kernel
theorem dX12_init_142 : decode cX12_init 142 = .ok (.putfield 56, 3) := by decide +kernel
theorem dX12_init_145 : decode cX12_init 145 = .ok (.aload_n 0, 1) := by decide +kernel
theorem dX12_init_146 : decode cX12_init 146 = .ok (.iconst 4, 1) := by decide +kernel
theorem dX12_init_147 : decode cX12_init 147 = .ok (.newarray .int, 2) := by decide +kernel
theorem dX12_init_149 : decode cX12_init 149 = .ok (.putfield 59, 3) := by decide +kernel
theorem dX12_init_152 : decode cX12_init 152 = .ok (.aload_n 0, 1) := by decide +kernel
theorem dX12_init_153 : decode cX12_init 153 = .ok (.bipush 6, 2) := by decide +kernel
theorem dX12_init_155 : decode cX12_init 155 = .ok (.newarray .boolean, 2) := by decide +kernel
theorem dX12_init_157 : decode cX12_init 157 = .ok (.putfield 62, 3) := by decide +kernel
theorem dX12_init_160 : decode cX12_init 160 = .ok (.aload_n 0, 1) := by decide +kernel
theorem dX12_init_161 : decode cX12_init 161 = .ok (.sipush 1512, 3) := by decide +kernel
theorem dX12_init_164 : decode cX12_init 164 = .ok (.newarray .int, 2) := by decide +kernel
theorem dX12_init_166 : decode cX12_init 166 = .ok (.putfield 65, 3) := by decide +kernel
theorem dX12_init_169 : decode cX12_init 169 = .ok (.aload_n 0, 1) := by decide +kernel
theorem dX12_init_170 : decode cX12_init 170 = .ok (.bipush 6, 2) := by decide +kernel
theorem dX12_init_172 : decode cX12_init 172 = .ok (.newarray .int, 2) := by decide +kernel
theorem dX12_init_174 : decode cX12_init 174 = .ok (.putfield 68, 3) := by decide +kernel
theorem dX12_init_177 : decode cX12_init 177 = .ok (.aload_n 0, 1) := by decide +kernel
theorem dX12_init_178 : decode cX12_init 178 = .ok (.bipush 100, 2) := by decide +kernel
theorem dX12_init_180 : decode cX12_init 180 = .ok (.newarray .char, 2) := by decide +kernel
theorem dX12_init_182 : decode cX12_init 182 = .ok (.putfield 71, 3) := by decide +kernel
theorem dX12_init_185 : decode cX12_init 185 = .ok (.aload_n 0, 1) := by decide +kernel
theorem dX12_init_186 : decode cX12_init 186 = .ok (.iconst (-1), 1) := by decide +kernel
theorem dX12_init_187 : decode cX12_init 187 = .ok (.putfield 75, 3) := by decide +kernel
theorem dX12_init_190 : decode cX12_init 190 = .ok (.aload_n 0, 1) := by decide +kernel
theorem dX12_init_191 : decode cX12_init 191 = .ok (.bipush 100, 2) := by decide +kernel
theorem dX12_init_193 : decode cX12_init 193 = .ok (.newarray .int, 2) := by decide +kernel
theorem dX12_init_195 : decode cX12_init 195 = .ok (.putfield 79, 3) := by decide +kernel
theorem dX12_init_198 : decode cX12_init 198 = .ok (.aload_n 0, 1) := by decide +kernel
theorem dX12_init_199 : decode cX12_init 199 = .ok (.bipush 100, 2) := by decide +kernel
theorem dX12_init_201 : decode cX12_init 201 = .ok (.newarray .int, 2) := by decide +kernel
theorem dX12_init_203 : decode cX12_init 203 = .ok (.putfield 82, 3) := by decide +kernel
theorem dX12_init_206 : decode cX12_init 206 = .ok (.aload_n 0, 1) := by decide +kernel
theorem dX12_init_207 : decode cX12_init 207 = .ok (.bipush 6, 2) := by decide +kernel
theorem dX12_init_209 : decode cX12_init 209 = .ok (.iconst 1, 1) := by decide +kernel
theorem dX12_init_210 : decode cX12_init 210 = .ok (.invokevirtual 85, 3) := by decide +kernel
theorem dX12_init_213 : decode cX12_init 213 = .ok (.return_, 1) := by decide +kernel
def PX12_init (n0 : Nat) (Q : Option Value → az_M → Prop) : az_T := (s_la 0 (s_obj (s_la 0 (s_ic (nI 235) (s_nar n0 23 6248 20 (s_pr 13 0 (s_la 0 (s_ic (nI 235) (s_nar n0 23 6248 20 (s_pr 13 1 (s_la 0 (s_ic (nI 1880) (s_nar n0 23 6248 20 (s_pr 13 3 (s_la 0 (s_ic (nI 6) (s_nar n0 23 6248 20 (s_pr 13 6 (s_la 0 (s_ic (nI 144) (s_nar n0 23 6248 21 (s_pr 13 8 (s_la 0 (s_ic (nI 144) (s_nar n0 23 6248 21 (s_pr 13 9 (s_la 0 (s_ic (nI 144) (s_nar n0 23 6248 20 (s_pr 13 10 (s_la 0 (s_ic (nI 144) (s_nar n0 23 6248 20 (s_pr 13 11 (s_la 0 (s_ic (nI 144) (s_nar n0 23 6248 20 (s_pr 13 12 (s_la 0 (s_ic (nI 144) (s_nar n0 23 6248 20 (s_pr 13 13 (s_la 0 (s_ic (nI 144) (s_nar n0 23 6248 20 (s_pr 13 14 (s_la 0 (s_ic (nI 144) (s_nar n0 23 6248 20 (s_pr 13 15 (s_la 0 (s_ic (nI 144) (s_nar n0 23 6248 20 (s_pr 13 16 (s_la 0 (s_ic (nI 576) (s_nar n0 23 6248 20 (s_pr 13 17 (s_la 0 (s_ic (nI 96) (s_nar n0 23 6248 20 (s_pr 13 18 (s_la 0 (s_ic (nI 96) (s_nar n0 23 6248 20 (s_pr 13 19 (s_la 0 (s_ic (nI 4) (s_nar n0 23 6248 20 (s_pr 13 20 (s_la 0 (s_ic (nI 6) (s_nar n0 23 6248 21 (s_pr 13 21 (s_la 0 (s_ic (nI 1512) (s_nar n0 23 6248 20 (s_pr 13 22 (s_la 0 (s_ic (nI 6) (s_nar n0 23 6248 20 (s_pr 13 24 (s_la 0 (s_ic (nI 100) (s_nar n0 23 6248 22 (s_pr 13 25 (s_la 0 (s_ic (-1) (s_pi 13 29 (s_la 0 (s_ic (nI 100) (s_nar n0 23 6248 20 (s_pr 13 30 (s_la 0 (s_ic (nI 100) (s_nar n0 23 6248 20 (s_pr 13 31 (s_la 0 (s_ic (nI 6) (s_ic (nI 1) (s_cv 2 13 FX12_start (s_rv Q))))))))))))))))))))))))))))))))))))))))))))))))))))))))))))))))))))))))))))))))))))))))))))))))))))))
def FX12_init : az_F := az_funI [true] 1 PX12_init
theorem okX12_init (l : Launch) : az_metI l yX12_init cX12_init 1 ({ frames := 2, cells := 23, slots := 6248, locals := 123 } : Room) FX12_init := az_metI_of (own := RX12) (by decide +kernel) rfl rfl (by decide) (fun X Q n0 C G CI O => by
  have h213 := az_vreturn C rfl dX12_init_213
  have h210 := az_callV (ci := 13) C okX12_start knX12_start imX12_start seX12_start mLRX12_85 rfl (by decide) ⟨rfl, rfl, by decide, by decide⟩ dX12_init_210 h213
  have h209 := az_iconst (x := (nI 1)) C dX12_init_209 (by decide +kernel) h210
  have h207 := az_bipush (x := (nI 6)) C dX12_init_207 (by decide +kernel) h209
  have h206 := az_aload_n C 0 rfl dX12_init_206 h207
  have h203 := az_putR (T := TX12) (N := 33) (ci := 13) (j := 31) (ty := (.array .int)) C CI gwRX12 rfl (by decide) (by decide) tyX12 tyX12_ok nmX12 iIRX12_31 (by decide +kernel) (fun _ => ⟨rfl, rfl⟩) rfl rfl mFRX12_82 rfl dX12_init_203 h206
  have h201 := az_nar (n0 := n0) (cm := 23) (sm := 6248) (kd := 20) (atype := .int) (ty := .int) C G (by decide) (by decide) rfl (by decide) (fun _ => rfl) (fun _ _ h => h) (by decide) (az_zI (by decide) rfl) acl_int dX12_init_201 h203
  have h199 := az_bipush (x := (nI 100)) C dX12_init_199 (by decide +kernel) h201
  have h198 := az_aload_n C 0 rfl dX12_init_198 h199
  have h195 := az_putR (T := TX12) (N := 33) (ci := 13) (j := 30) (ty := (.array .int)) C CI gwRX12 rfl (by decide) (by decide) tyX12 tyX12_ok nmX12 iIRX12_30 (by decide +kernel) (fun _ => ⟨rfl, rfl⟩) rfl rfl mFRX12_79 rfl dX12_init_195 h198
  have h193 := az_nar (n0 := n0) (cm := 23) (sm := 6248) (kd := 20) (atype := .int) (ty := .int) C G (by decide) (by decide) rfl (by decide) (fun _ => rfl) (fun _ _ h => h) (by decide) (az_zI (by decide) rfl) acl_int dX12_init_193 h195
  have h191 := az_bipush (x := (nI 100)) C dX12_init_191 (by decide +kernel) h193
  have h190 := az_aload_n C 0 rfl dX12_init_190 h191
  have h187 := az_putI (T := TX12) (N := 33) (j := 29) C gwRX12 rfl (by decide) (by decide) tyX12 tyX12_ok nmX12 iIRX12_29 (by decide +kernel) rfl mFRX12_75 rfl dX12_init_187 h190
  have h186 := az_iconst (x := (-1)) C dX12_init_186 (by decide +kernel) h187
  have h185 := az_aload_n C 0 rfl dX12_init_185 h186
  have h182 := az_putR (T := TX12) (N := 33) (ci := 13) (j := 25) (ty := (.array .char)) C CI gwRX12 rfl (by decide) (by decide) tyX12 tyX12_ok nmX12 iIRX12_25 (by decide +kernel) (fun _ => ⟨rfl, rfl⟩) rfl rfl mFRX12_71 rfl dX12_init_182 h185
  have h180 := az_nar (n0 := n0) (cm := 23) (sm := 6248) (kd := 22) (atype := .char) (ty := .char) C G (by decide) (by decide) rfl (by decide) (fun _ => rfl) (fun _ _ h => h) (by decide) (az_zI (by decide) rfl) acl_char dX12_init_180 h182
  have h178 := az_bipush (x := (nI 100)) C dX12_init_178 (by decide +kernel) h180
  have h177 := az_aload_n C 0 rfl dX12_init_177 h178
  have h174 := az_putR (T := TX12) (N := 33) (ci := 13) (j := 24) (ty := (.array .int)) C CI gwRX12 rfl (by decide) (by decide) tyX12 tyX12_ok nmX12 iIRX12_24 (by decide +kernel) (fun _ => ⟨rfl, rfl⟩) rfl rfl mFRX12_68 rfl dX12_init_174 h177
  have h172 := az_nar (n0 := n0) (cm := 23) (sm := 6248) (kd := 20) (atype := .int) (ty := .int) C G (by decide) (by decide) rfl (by decide) (fun _ => rfl) (fun _ _ h => h) (by decide) (az_zI (by decide) rfl) acl_int dX12_init_172 h174
  have h170 := az_bipush (x := (nI 6)) C dX12_init_170 (by decide +kernel) h172
  have h169 := az_aload_n C 0 rfl dX12_init_169 h170
  have h166 := az_putR (T := TX12) (N := 33) (ci := 13) (j := 22) (ty := (.array .int)) C CI gwRX12 rfl (by decide) (by decide) tyX12 tyX12_ok nmX12 iIRX12_22 (by decide +kernel) (fun _ => ⟨rfl, rfl⟩) rfl rfl mFRX12_65 rfl dX12_init_166 h169
  have h164 := az_nar (n0 := n0) (cm := 23) (sm := 6248) (kd := 20) (atype := .int) (ty := .int) C G (by decide) (by decide) rfl (by decide) (fun _ => rfl) (fun _ _ h => h) (by decide) (az_zI (by decide) rfl) acl_int dX12_init_164 h166
  have h161 := az_sipush (x := (nI 1512)) C dX12_init_161 (by decide +kernel) h164
  have h160 := az_aload_n C 0 rfl dX12_init_160 h161
  have h157 := az_putR (T := TX12) (N := 33) (ci := 13) (j := 21) (ty := (.array .boolean)) C CI gwRX12 rfl (by decide) (by decide) tyX12 tyX12_ok nmX12 iIRX12_21 (by decide +kernel) (fun _ => ⟨rfl, rfl⟩) rfl rfl mFRX12_62 rfl dX12_init_157 h160
  have h155 := az_nar (n0 := n0) (cm := 23) (sm := 6248) (kd := 21) (atype := .boolean) (ty := .boolean) C G (by decide) (by decide) rfl (by decide) (fun _ => rfl) (fun _ _ h => h) (by decide) (az_zI (by decide) rfl) acl_boolean dX12_init_155 h157
  have h153 := az_bipush (x := (nI 6)) C dX12_init_153 (by decide +kernel) h155
  have h152 := az_aload_n C 0 rfl dX12_init_152 h153
  have h149 := az_putR (T := TX12) (N := 33) (ci := 13) (j := 20) (ty := (.array .int)) C CI gwRX12 rfl (by decide) (by decide) tyX12 tyX12_ok nmX12 iIRX12_20 (by decide +kernel) (fun _ => ⟨rfl, rfl⟩) rfl rfl mFRX12_59 rfl dX12_init_149 h152
  have h147 := az_nar (n0 := n0) (cm := 23) (sm := 6248) (kd := 20) (atype := .int) (ty := .int) C G (by decide) (by decide) rfl (by decide) (fun _ => rfl) (fun _ _ h => h) (by decide) (az_zI (by decide) rfl) acl_int dX12_init_147 h149
  have h146 := az_iconst (x := (nI 4)) C dX12_init_146 (by decide +kernel) h147
  have h145 := az_aload_n C 0 rfl dX12_init_145 h146
  have h142 := az_putR (T := TX12) (N := 33) (ci := 13) (j := 19) (ty := (.array .int)) C CI gwRX12 rfl (by decide) (by decide) tyX12 tyX12_ok nmX12 iIRX12_19 (by decide +kernel) (fun _ => ⟨rfl, rfl⟩) rfl rfl mFRX12_56 rfl dX12_init_142 h145
  have h140 := az_nar (n0 := n0) (cm := 23) (sm := 6248) (kd := 20) (atype := .int) (ty := .int) C G (by decide) (by decide) rfl (by decide) (fun _ => rfl) (fun _ _ h => h) (by decide) (az_zI (by decide) rfl) acl_int dX12_init_140 h142
  have h138 := az_bipush (x := (nI 96)) C dX12_init_138 (by decide +kernel) h140
  have h137 := az_aload_n C 0 rfl dX12_init_137 h138
  have h134 := az_putR (T := TX12) (N := 33) (ci := 13) (j := 18) (ty := (.array .int)) C CI gwRX12 rfl (by decide) (by decide) tyX12 tyX12_ok nmX12 iIRX12_18 (by decide +kernel) (fun _ => ⟨rfl, rfl⟩) rfl rfl mFRX12_53 rfl dX12_init_134 h137
  have h132 := az_nar (n0 := n0) (cm := 23) (sm := 6248) (kd := 20) (atype := .int) (ty := .int) C G (by decide) (by decide) rfl (by decide) (fun _ => rfl) (fun _ _ h => h) (by decide) (az_zI (by decide) rfl) acl_int dX12_init_132 h134
  have h130 := az_bipush (x := (nI 96)) C dX12_init_130 (by decide +kernel) h132
  have h129 := az_aload_n C 0 rfl dX12_init_129 h130
  have h126 := az_putR (T := TX12) (N := 33) (ci := 13) (j := 17) (ty := (.array .int)) C CI gwRX12 rfl (by decide) (by decide) tyX12 tyX12_ok nmX12 iIRX12_17 (by decide +kernel) (fun _ => ⟨rfl, rfl⟩) rfl rfl mFRX12_50 rfl dX12_init_126 h129
  have h124 := az_nar (n0 := n0) (cm := 23) (sm := 6248) (kd := 20) (atype := .int) (ty := .int) C G (by decide) (by decide) rfl (by decide) (fun _ => rfl) (fun _ _ h => h) (by decide) (az_zI (by decide) rfl) acl_int dX12_init_124 h126
  have h121 := az_sipush (x := (nI 576)) C dX12_init_121 (by decide +kernel) h124
  have h120 := az_aload_n C 0 rfl dX12_init_120 h121
  have h117 := az_putR (T := TX12) (N := 33) (ci := 13) (j := 16) (ty := (.array .int)) C CI gwRX12 rfl (by decide) (by decide) tyX12 tyX12_ok nmX12 iIRX12_16 (by decide +kernel) (fun _ => ⟨rfl, rfl⟩) rfl rfl mFRX12_47 rfl dX12_init_117 h120
  have h115 := az_nar (n0 := n0) (cm := 23) (sm := 6248) (kd := 20) (atype := .int) (ty := .int) C G (by decide) (by decide) rfl (by decide) (fun _ => rfl) (fun _ _ h => h) (by decide) (az_zI (by decide) rfl) acl_int dX12_init_115 h117
  have h112 := az_sipush (x := (nI 144)) C dX12_init_112 (by decide +kernel) h115
  have h111 := az_aload_n C 0 rfl dX12_init_111 h112
  have h108 := az_putR (T := TX12) (N := 33) (ci := 13) (j := 15) (ty := (.array .int)) C CI gwRX12 rfl (by decide) (by decide) tyX12 tyX12_ok nmX12 iIRX12_15 (by decide +kernel) (fun _ => ⟨rfl, rfl⟩) rfl rfl mFRX12_44 rfl dX12_init_108 h111
  have h106 := az_nar (n0 := n0) (cm := 23) (sm := 6248) (kd := 20) (atype := .int) (ty := .int) C G (by decide) (by decide) rfl (by decide) (fun _ => rfl) (fun _ _ h => h) (by decide) (az_zI (by decide) rfl) acl_int dX12_init_106 h108
  have h103 := az_sipush (x := (nI 144)) C dX12_init_103 (by decide +kernel) h106
  have h102 := az_aload_n C 0 rfl dX12_init_102 h103
  have h99 := az_putR (T := TX12) (N := 33) (ci := 13) (j := 14) (ty := (.array .int)) C CI gwRX12 rfl (by decide) (by decide) tyX12 tyX12_ok nmX12 iIRX12_14 (by decide +kernel) (fun _ => ⟨rfl, rfl⟩) rfl rfl mFRX12_41 rfl dX12_init_99 h102
  have h97 := az_nar (n0 := n0) (cm := 23) (sm := 6248) (kd := 20) (atype := .int) (ty := .int) C G (by decide) (by decide) rfl (by decide) (fun _ => rfl) (fun _ _ h => h) (by decide) (az_zI (by decide) rfl) acl_int dX12_init_97 h99
  have h94 := az_sipush (x := (nI 144)) C dX12_init_94 (by decide +kernel) h97
  have h93 := az_aload_n C 0 rfl dX12_init_93 h94
  have h90 := az_putR (T := TX12) (N := 33) (ci := 13) (j := 13) (ty := (.array .int)) C CI gwRX12 rfl (by decide) (by decide) tyX12 tyX12_ok nmX12 iIRX12_13 (by decide +kernel) (fun _ => ⟨rfl, rfl⟩) rfl rfl mFRX12_38 rfl dX12_init_90 h93
  have h88 := az_nar (n0 := n0) (cm := 23) (sm := 6248) (kd := 20) (atype := .int) (ty := .int) C G (by decide) (by decide) rfl (by decide) (fun _ => rfl) (fun _ _ h => h) (by decide) (az_zI (by decide) rfl) acl_int dX12_init_88 h90
  have h85 := az_sipush (x := (nI 144)) C dX12_init_85 (by decide +kernel) h88
  have h84 := az_aload_n C 0 rfl dX12_init_84 h85
  have h81 := az_putR (T := TX12) (N := 33) (ci := 13) (j := 12) (ty := (.array .int)) C CI gwRX12 rfl (by decide) (by decide) tyX12 tyX12_ok nmX12 iIRX12_12 (by decide +kernel) (fun _ => ⟨rfl, rfl⟩) rfl rfl mFRX12_35 rfl dX12_init_81 h84
  have h79 := az_nar (n0 := n0) (cm := 23) (sm := 6248) (kd := 20) (atype := .int) (ty := .int) C G (by decide) (by decide) rfl (by decide) (fun _ => rfl) (fun _ _ h => h) (by decide) (az_zI (by decide) rfl) acl_int dX12_init_79 h81
  have h76 := az_sipush (x := (nI 144)) C dX12_init_76 (by decide +kernel) h79
  have h75 := az_aload_n C 0 rfl dX12_init_75 h76
  have h72 := az_putR (T := TX12) (N := 33) (ci := 13) (j := 11) (ty := (.array .int)) C CI gwRX12 rfl (by decide) (by decide) tyX12 tyX12_ok nmX12 iIRX12_11 (by decide +kernel) (fun _ => ⟨rfl, rfl⟩) rfl rfl mFRX12_32 rfl dX12_init_72 h75
  have h70 := az_nar (n0 := n0) (cm := 23) (sm := 6248) (kd := 20) (atype := .int) (ty := .int) C G (by decide) (by decide) rfl (by decide) (fun _ => rfl) (fun _ _ h => h) (by decide) (az_zI (by decide) rfl) acl_int dX12_init_70 h72
  have h67 := az_sipush (x := (nI 144)) C dX12_init_67 (by decide +kernel) h70
  have h66 := az_aload_n C 0 rfl dX12_init_66 h67
  have h63 := az_putR (T := TX12) (N := 33) (ci := 13) (j := 10) (ty := (.array .int)) C CI gwRX12 rfl (by decide) (by decide) tyX12 tyX12_ok nmX12 iIRX12_10 (by decide +kernel) (fun _ => ⟨rfl, rfl⟩) rfl rfl mFRX12_29 rfl dX12_init_63 h66
  have h61 := az_nar (n0 := n0) (cm := 23) (sm := 6248) (kd := 20) (atype := .int) (ty := .int) C G (by decide) (by decide) rfl (by decide) (fun _ => rfl) (fun _ _ h => h) (by decide) (az_zI (by decide) rfl) acl_int dX12_init_61 h63
  have h58 := az_sipush (x := (nI 144)) C dX12_init_58 (by decide +kernel) h61
  have h57 := az_aload_n C 0 rfl dX12_init_57 h58
  have h54 := az_putR (T := TX12) (N := 33) (ci := 13) (j := 9) (ty := (.array .boolean)) C CI gwRX12 rfl (by decide) (by decide) tyX12 tyX12_ok nmX12 iIRX12_9 (by decide +kernel) (fun _ => ⟨rfl, rfl⟩) rfl rfl mFRX12_26 rfl dX12_init_54 h57
  have h52 := az_nar (n0 := n0) (cm := 23) (sm := 6248) (kd := 21) (atype := .boolean) (ty := .boolean) C G (by decide) (by decide) rfl (by decide) (fun _ => rfl) (fun _ _ h => h) (by decide) (az_zI (by decide) rfl) acl_boolean dX12_init_52 h54
  have h49 := az_sipush (x := (nI 144)) C dX12_init_49 (by decide +kernel) h52
  have h48 := az_aload_n C 0 rfl dX12_init_48 h49
  have h45 := az_putR (T := TX12) (N := 33) (ci := 13) (j := 8) (ty := (.array .boolean)) C CI gwRX12 rfl (by decide) (by decide) tyX12 tyX12_ok nmX12 iIRX12_8 (by decide +kernel) (fun _ => ⟨rfl, rfl⟩) rfl rfl mFRX12_22 rfl dX12_init_45 h48
  have h43 := az_nar (n0 := n0) (cm := 23) (sm := 6248) (kd := 21) (atype := .boolean) (ty := .boolean) C G (by decide) (by decide) rfl (by decide) (fun _ => rfl) (fun _ _ h => h) (by decide) (az_zI (by decide) rfl) acl_boolean dX12_init_43 h45
  have h40 := az_sipush (x := (nI 144)) C dX12_init_40 (by decide +kernel) h43
  have h39 := az_aload_n C 0 rfl dX12_init_39 h40
  have h36 := az_putR (T := TX12) (N := 33) (ci := 13) (j := 6) (ty := (.array .int)) C CI gwRX12 rfl (by decide) (by decide) tyX12 tyX12_ok nmX12 iIRX12_6 (by decide +kernel) (fun _ => ⟨rfl, rfl⟩) rfl rfl mFRX12_19 rfl dX12_init_36 h39
  have h34 := az_nar (n0 := n0) (cm := 23) (sm := 6248) (kd := 20) (atype := .int) (ty := .int) C G (by decide) (by decide) rfl (by decide) (fun _ => rfl) (fun _ _ h => h) (by decide) (az_zI (by decide) rfl) acl_int dX12_init_34 h36
  have h32 := az_bipush (x := (nI 6)) C dX12_init_32 (by decide +kernel) h34
  have h31 := az_aload_n C 0 rfl dX12_init_31 h32
  have h28 := az_putR (T := TX12) (N := 33) (ci := 13) (j := 3) (ty := (.array .int)) C CI gwRX12 rfl (by decide) (by decide) tyX12 tyX12_ok nmX12 iIRX12_3 (by decide +kernel) (fun _ => ⟨rfl, rfl⟩) rfl rfl mFRX12_16 rfl dX12_init_28 h31
  have h26 := az_nar (n0 := n0) (cm := 23) (sm := 6248) (kd := 20) (atype := .int) (ty := .int) C G (by decide) (by decide) rfl (by decide) (fun _ => rfl) (fun _ _ h => h) (by decide) (az_zI (by decide) rfl) acl_int dX12_init_26 h28
  have h23 := az_sipush (x := (nI 1880)) C dX12_init_23 (by decide +kernel) h26
  have h22 := az_aload_n C 0 rfl dX12_init_22 h23
  have h19 := az_putR (T := TX12) (N := 33) (ci := 13) (j := 1) (ty := (.array .int)) C CI gwRX12 rfl (by decide) (by decide) tyX12 tyX12_ok nmX12 iIRX12_1 (by decide +kernel) (fun _ => ⟨rfl, rfl⟩) rfl rfl mFRX12_13 rfl dX12_init_19 h22
  have h17 := az_nar (n0 := n0) (cm := 23) (sm := 6248) (kd := 20) (atype := .int) (ty := .int) C G (by decide) (by decide) rfl (by decide) (fun _ => rfl) (fun _ _ h => h) (by decide) (az_zI (by decide) rfl) acl_int dX12_init_17 h19
  have h14 := az_sipush (x := (nI 235)) C dX12_init_14 (by decide +kernel) h17
  have h13 := az_aload_n C 0 rfl dX12_init_13 h14
  have h10 := az_putR (T := TX12) (N := 33) (ci := 13) (j := 0) (ty := (.array .int)) C CI gwRX12 rfl (by decide) (by decide) tyX12 tyX12_ok nmX12 iIRX12_0 (by decide +kernel) (fun _ => ⟨rfl, rfl⟩) rfl rfl mFRX12_9 rfl dX12_init_10 h13
  have h8 := az_nar (n0 := n0) (cm := 23) (sm := 6248) (kd := 20) (atype := .int) (ty := .int) C G (by decide) (by decide) rfl (by decide) (fun _ => rfl) (fun _ _ h => h) (by decide) (az_zI (by decide) rfl) acl_int dX12_init_8 h10
  have h5 := az_sipush (x := (nI 235)) C dX12_init_5 (by decide +kernel) h8
  have h4 := az_aload_n C 0 rfl dX12_init_4 h5
  have h1 := az_obji C mLRX12_3 obj_in obj_co (by decide) dX12_init_1 h4
  have h0 := az_aload_n C 0 rfl dX12_init_0 h1
  exact h0) l
