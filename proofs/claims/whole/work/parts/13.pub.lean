/-! by program (wip/whole/run_gen.py): decode rows, predicates and contracts of 27 methods -/
theorem dX11_size_0 : decode cX11_size 0 = .ok (.iload_n 1, 1) := by decide +kernel
theorem dX11_size_1 : decode cX11_size 1 = .ok (.iconst 1, 1) := by decide +kernel
theorem dX11_size_2 : decode cX11_size 2 = .ok (.bipush 24, 2) := by decide +kernel
theorem dX11_size_4 : decode cX11_size 4 = .ok (.invokestatic 68, 3) := by decide +kernel
theorem dX11_size_7 : decode cX11_size 7 = .ok (.ifCond .eq 12, 3) := by decide +kernel
theorem dX11_size_10 : decode cX11_size 10 = .ok (.iload_n 2, 1) := by decide +kernel
theorem dX11_size_11 : decode cX11_size 11 = .ok (.iconst 1, 1) := by decide +kernel
theorem dX11_size_12 : decode cX11_size 12 = .ok (.iconst 4, 1) := by decide +kernel
theorem dX11_size_13 : decode cX11_size 13 = .ok (.invokestatic 68, 3) := by decide +kernel
theorem dX11_size_16 : decode cX11_size 16 = .ok (.ifCond .ne 11, 3) := by decide +kernel
theorem dX11_size_19 : decode cX11_size 19 = .ok (.new 72, 3) := by decide +kernel
theorem dX11_size_22 : decode cX11_size 22 = .ok (.dup, 1) := by decide +kernel
theorem dX11_size_23 : decode cX11_size 23 = .ok (.invokespecial 74, 3) := by decide +kernel
theorem dX11_size_26 : decode cX11_size 26 = .ok (.athrow, 1) := by decide +kernel
theorem dX11_size_27 : decode cX11_size 27 = .ok (.aload_n 0, 1) := by decide +kernel
theorem dX11_size_28 : decode cX11_size 28 = .ok (.getfield 10, 3) := by decide +kernel
theorem dX11_size_31 : decode cX11_size 31 = .ok (.getfield 75, 3) := by decide +kernel
theorem dX11_size_34 : decode cX11_size 34 = .ok (.istore_n 3, 1) := by decide +kernel
theorem dX11_size_35 : decode cX11_size 35 = .ok (.aload_n 0, 1) := by decide +kernel
theorem dX11_size_36 : decode cX11_size 36 = .ok (.getfield 10, 3) := by decide +kernel
theorem dX11_size_39 : decode cX11_size 39 = .ok (.iload_n 1, 1) := by decide +kernel
theorem dX11_size_40 : decode cX11_size 40 = .ok (.iload_n 2, 1) := by decide +kernel
theorem dX11_size_41 : decode cX11_size 41 = .ok (.invokevirtual 79, 3) := by decide +kernel
theorem dX11_size_44 : decode cX11_size 44 = .ok (.aload_n 0, 1) := by decide +kernel
theorem dX11_size_45 : decode cX11_size 45 = .ok (.getfield 22, 3) := by decide +kernel
theorem dX11_size_48 : decode cX11_size 48 = .ok (.invokevirtual 83, 3) := by decide +kernel
theorem dX11_size_51 : decode cX11_size 51 = .ok (.aload_n 0, 1) := by decide +kernel
theorem dX11_size_52 : decode cX11_size 52 = .ok (.iconst 1, 1) := by decide +kernel
theorem dX11_size_53 : decode cX11_size 53 = .ok (.putfield 65, 3) := by decide +kernel
theorem dX11_size_56 : decode cX11_size 56 = .ok (.iload_n 3, 1) := by decide +kernel
theorem dX11_size_57 : decode cX11_size 57 = .ok (.ireturn, 1) := by decide +kernel
def LX11_size_19 (Q : Option Value → az_M → Prop) (Xs : String → az_M → Prop) : az_T := (s_thr "java/lang/IllegalArgumentException" Xs)
theorem okLX11_size_19 {X : az_X} {Q : Option Value → az_M → Prop} {Xs : String → az_M → Prop} (C : az_C X cX11_size 4 RX11 (az_ts yX11_size cX11_size 4 (some .int)) ({ frames := 7, cells := 1, slots := 6, locals := 124 } : Room) (some .int) Q) (CX : az_CX X ({ frames := 7, cells := 1, slots := 6, locals := 124 } : Room) Q Xs) : az_ok X 19 (LX11_size_19 Q Xs) := by
  have h19 := az_throw (cls := "java/lang/IllegalArgumentException") (names := ["java/lang/RuntimeException", "java/lang/Exception"]) C CX (by decide +kernel) (by decide +kernel) thkRX11_72 thi_IllegalArgumentException thaRX11_74 thgRX11_74 dX11_size_19 dX11_size_22 dX11_size_23 dX11_size_26 ⟨by decide, by decide, by decide, by decide⟩
  exact h19
def PX11_size (Q : Option Value → az_M → Prop) (Xs : String → az_M → Prop) : az_T := (s_li 1 (s_ic (nI 1) (s_ic (nI 24) (s_cs 3 FX11_within (s_if c_eq (s_kp [false, false, false, false] (LX11_size_19 Q Xs)) (s_li 2 (s_ic (nI 1) (s_ic (nI 4) (s_cs 3 FX11_within (s_if c_ne (s_la 0 (s_gr 12 0 (s_gi 9 3 (s_si 3 (s_la 0 (s_gr 12 0 (s_li 1 (s_li 2 (s_cv 2 9 FX8_startAnew (s_la 0 (s_gr 12 2 (s_cv 0 4 FX2_forget (s_la 0 (s_ic (nI 1) (s_pz 12 9 (s_li 3 (s_ri Q))))))))))))))))) (s_kp [false, false, false, false] (LX11_size_19 Q Xs))))))))))))
def FX11_size : az_FX := az_funX [true, false, false] 4 PX11_size
theorem okX11_size (l : Launch) (hlt : l.stackTraces = false) : az_metX l yX11_size cX11_size 4 (some .int) ({ frames := 7, cells := 1, slots := 6, locals := 124 } : Room) FX11_size := az_metX_of (own := RX11) (by decide +kernel) rfl (by decide) (fun X Q Xs C CX => by
  have h57 := az_ireturn C rfl dX11_size_57
  have h56 := az_iload_n C 3 rfl dX11_size_56 h57
  have h53 := az_putZ (T := TX11) (N := 10) (j := 9) C gwRX11 rfl (by decide) (by decide) tyX11 tyX11_ok nmX11 iIRX11_9 (by decide +kernel) rfl mFRX11_65 rfl dX11_size_53 h56
  have h52 := az_iconst (x := (nI 1)) C dX11_size_52 (by decide +kernel) h53
  have h51 := az_aload_n C 0 rfl dX11_size_51 h52
  have h48 := az_callVN (ci := 4) C okX2_forget knX2_forget imX2_forget seX2_forget mNRX11_83 rfl (by decide) ⟨rfl, rfl, by decide, by decide⟩ dX11_size_48 h51
  have h45 := az_getR (T := TX11) (N := 10) (j := 2) C gwRX11 rfl (by decide) (by decide) iIRX11_2 mFRX11_22 rfl dX11_size_45 h48
  have h44 := az_aload_n C 0 rfl dX11_size_44 h45
  have h41 := az_callVN (ci := 9) C okX8_startAnew knX8_startAnew imX8_startAnew seX8_startAnew mNRX11_79 rfl (by decide) ⟨rfl, rfl, by decide, by decide⟩ dX11_size_41 h44
  have h40 := az_iload_n C 2 rfl dX11_size_40 h41
  have h39 := az_iload_n C 1 rfl dX11_size_39 h40
  have h36 := az_getR (T := TX11) (N := 10) (j := 0) C gwRX11 rfl (by decide) (by decide) iIRX11_0 mFRX11_10 rfl dX11_size_36 h39
  have h35 := az_aload_n C 0 rfl dX11_size_35 h36
  have h34 := az_istore_n C 3 rfl (by decide) dX11_size_34 h35
  have h31 := az_getI (T := TX8) (N := 11) (j := 3) C gwRX8 rfl (by decide) (by decide) iIRX8_3 mFRX11_75 rfl dX11_size_31 h34
  have h28 := az_getR (T := TX11) (N := 10) (j := 0) C gwRX11 rfl (by decide) (by decide) iIRX11_0 mFRX11_10 rfl dX11_size_28 h31
  have h27 := az_aload_n C 0 rfl dX11_size_27 h28
  have h16 := az_if_ne (tgt := 27) C dX11_size_16 (by decide) h27 (az_keep [false, false, false, false] (okLX11_size_19 C CX))
  have h13 := az_callS C okX11_within knX11_within stX11_within mLRX11_68 ⟨rfl, rfl, by decide, by decide⟩ dX11_size_13 h16
  have h12 := az_iconst (x := (nI 4)) C dX11_size_12 (by decide +kernel) h13
  have h11 := az_iconst (x := (nI 1)) C dX11_size_11 (by decide +kernel) h12
  have h10 := az_iload_n C 2 rfl dX11_size_10 h11
  have h7 := az_if_eq (tgt := 19) C dX11_size_7 (by decide) (az_keep [false, false, false, false] (okLX11_size_19 C CX)) h10
  have h4 := az_callS C okX11_within knX11_within stX11_within mLRX11_68 ⟨rfl, rfl, by decide, by decide⟩ dX11_size_4 h7
  have h2 := az_bipush (x := (nI 24)) C dX11_size_2 (by decide +kernel) h4
  have h1 := az_iconst (x := (nI 1)) C dX11_size_1 (by decide +kernel) h2
  have h0 := az_iload_n C 1 rfl dX11_size_0 h1
  exact h0) l hlt
theorem dX11_setDemand_0 : decode cX11_setDemand 0 = .ok (.aload_n 0, 1) := by decide +kernel
theorem dX11_setDemand_1 : decode cX11_setDemand 1 = .ok (.iload_n 1, 1) := by decide +kernel
theorem dX11_setDemand_2 : decode cX11_setDemand 2 = .ok (.invokevirtual 86, 3) := by decide +kernel
theorem dX11_setDemand_5 : decode cX11_setDemand 5 = .ok (.ifCond .eq 11, 3) := by decide +kernel
theorem dX11_setDemand_8 : decode cX11_setDemand 8 = .ok (.aload_n 0, 1) := by decide +kernel
theorem dX11_setDemand_9 : decode cX11_setDemand 9 = .ok (.iload_n 2, 1) := by decide +kernel
theorem dX11_setDemand_10 : decode cX11_setDemand 10 = .ok (.invokevirtual 90, 3) := by decide +kernel
theorem dX11_setDemand_13 : decode cX11_setDemand 13 = .ok (.ifCond .ne 11, 3) := by decide +kernel
theorem dX11_setDemand_16 : decode cX11_setDemand 16 = .ok (.new 93, 3) := by decide +kernel
theorem dX11_setDemand_19 : decode cX11_setDemand 19 = .ok (.dup, 1) := by decide +kernel
theorem dX11_setDemand_20 : decode cX11_setDemand 20 = .ok (.invokespecial 95, 3) := by decide +kernel
theorem dX11_setDemand_23 : decode cX11_setDemand 23 = .ok (.athrow, 1) := by decide +kernel
theorem dX11_setDemand_24 : decode cX11_setDemand 24 = .ok (.iload_n 3, 1) := by decide +kernel
theorem dX11_setDemand_25 : decode cX11_setDemand 25 = .ok (.iconst 0, 1) := by decide +kernel
theorem dX11_setDemand_26 : decode cX11_setDemand 26 = .ok (.sipush 500, 3) := by decide +kernel
theorem dX11_setDemand_29 : decode cX11_setDemand 29 = .ok (.invokestatic 68, 3) := by decide +kernel
theorem dX11_setDemand_32 : decode cX11_setDemand 32 = .ok (.ifCond .ne 11, 3) := by decide +kernel
theorem dX11_setDemand_35 : decode cX11_setDemand 35 = .ok (.new 72, 3) := by decide +kernel
theorem dX11_setDemand_38 : decode cX11_setDemand 38 = .ok (.dup, 1) := by decide +kernel
theorem dX11_setDemand_39 : decode cX11_setDemand 39 = .ok (.invokespecial 74, 3) := by decide +kernel
theorem dX11_setDemand_42 : decode cX11_setDemand 42 = .ok (.athrow, 1) := by decide +kernel
theorem dX11_setDemand_43 : decode cX11_setDemand 43 = .ok (.aload_n 0, 1) := by decide +kernel
theorem dX11_setDemand_44 : decode cX11_setDemand 44 = .ok (.invokevirtual 96, 3) := by decide +kernel
theorem dX11_setDemand_47 : decode cX11_setDemand 47 = .ok (.aload_n 0, 1) := by decide +kernel
theorem dX11_setDemand_48 : decode cX11_setDemand 48 = .ok (.getfield 10, 3) := by decide +kernel
theorem dX11_setDemand_51 : decode cX11_setDemand 51 = .ok (.getfield 99, 3) := by decide +kernel
theorem dX11_setDemand_54 : decode cX11_setDemand 54 = .ok (.iload_n 1, 1) := by decide +kernel
theorem dX11_setDemand_55 : decode cX11_setDemand 55 = .ok (.aaload, 1) := by decide +kernel
theorem dX11_setDemand_56 : decode cX11_setDemand 56 = .ok (.iload_n 2, 1) := by decide +kernel
theorem dX11_setDemand_57 : decode cX11_setDemand 57 = .ok (.iaload, 1) := by decide +kernel
theorem dX11_setDemand_58 : decode cX11_setDemand 58 = .ok (.istore 4, 2) := by decide +kernel
theorem dX11_setDemand_60 : decode cX11_setDemand 60 = .ok (.aload_n 0, 1) := by decide +kernel
theorem dX11_setDemand_61 : decode cX11_setDemand 61 = .ok (.getfield 10, 3) := by decide +kernel
theorem dX11_setDemand_64 : decode cX11_setDemand 64 = .ok (.getfield 99, 3) := by decide +kernel
theorem dX11_setDemand_67 : decode cX11_setDemand 67 = .ok (.iload_n 1, 1) := by decide +kernel
theorem dX11_setDemand_68 : decode cX11_setDemand 68 = .ok (.aaload, 1) := by decide +kernel
theorem dX11_setDemand_69 : decode cX11_setDemand 69 = .ok (.iload_n 2, 1) := by decide +kernel
theorem dX11_setDemand_70 : decode cX11_setDemand 70 = .ok (.iload_n 3, 1) := by decide +kernel
theorem dX11_setDemand_71 : decode cX11_setDemand 71 = .ok (.iastore, 1) := by decide +kernel
theorem dX11_setDemand_72 : decode cX11_setDemand 72 = .ok (.iload 4, 2) := by decide +kernel
theorem dX11_setDemand_74 : decode cX11_setDemand 74 = .ok (.ireturn, 1) := by decide +kernel
def LX11_setDemand_16 (Q : Option Value → az_M → Prop) (Xs : String → az_M → Prop) : az_T := (s_thr "java/lang/IndexOutOfBoundsException" Xs)
theorem okLX11_setDemand_16 {X : az_X} {Q : Option Value → az_M → Prop} {Xs : String → az_M → Prop} (C : az_C X cX11_setDemand 5 RX11 (az_ts yX11_setDemand cX11_setDemand 5 (some .int)) ({ frames := 7, cells := 1, slots := 6, locals := 163 } : Room) (some .int) Q) (CX : az_CX X ({ frames := 7, cells := 1, slots := 6, locals := 163 } : Room) Q Xs) : az_ok X 16 (LX11_setDemand_16 Q Xs) := by
  have h16 := az_throw (cls := "java/lang/IndexOutOfBoundsException") (names := ["java/lang/RuntimeException", "java/lang/Exception"]) C CX (by decide +kernel) (by decide +kernel) thkRX11_93 thi_IndexOutOfBoundsException thaRX11_95 thgRX11_95 dX11_setDemand_16 dX11_setDemand_19 dX11_setDemand_20 dX11_setDemand_23 ⟨by decide, by decide, by decide, by decide⟩
  exact h16
def PX11_setDemand (Q : Option Value → az_M → Prop) (Xs : String → az_M → Prop) : az_T := (s_la 0 (s_li 1 (s_cv 1 12 FX11_isBus (s_if c_eq (s_kp [false, false, false, false, false] (LX11_setDemand_16 Q Xs)) (s_la 0 (s_li 2 (s_cv 1 12 FX11_isHour (s_if c_ne (s_li 3 (s_ic (nI 0) (s_ic (nI 500) (s_cs 3 FX11_within (s_if c_ne (s_la 0 (s_cv 0 12 FX11_beginChange (s_la 0 (s_gr 12 0 (s_gr 9 7 (s_li 1 (s_aa 25 (s_li 2 (s_al 20 (s_si 4 (s_la 0 (s_gr 12 0 (s_gr 9 7 (s_li 1 (s_aa 25 (s_li 2 (s_li 3 (s_as (s_li 4 (s_ri Q)))))))))))))))))))) (s_thr "java/lang/IllegalArgumentException" Xs)))))) (s_kp [false, false, false, false, false] (LX11_setDemand_16 Q Xs))))))))))
def FX11_setDemand : az_FX := az_funX [true, false, false, false] 5 PX11_setDemand
theorem okX11_setDemand (l : Launch) (hlt : l.stackTraces = false) : az_metX l yX11_setDemand cX11_setDemand 5 (some .int) ({ frames := 7, cells := 1, slots := 6, locals := 163 } : Room) FX11_setDemand := az_metX_of (own := RX11) (by decide +kernel) rfl (by decide) (fun X Q Xs C CX => by
  have h74 := az_ireturn C rfl dX11_setDemand_74
  have h72 := az_iload C dX11_setDemand_72 h74
  have h71 := az_iast C dX11_setDemand_71 h72
  have h70 := az_iload_n C 3 rfl dX11_setDemand_70 h71
  have h69 := az_iload_n C 2 rfl dX11_setDemand_69 h70
  have h68 := az_aald2 C dX11_setDemand_68 h69
  have h67 := az_iload_n C 1 rfl dX11_setDemand_67 h68
  have h64 := az_getR (T := TX8) (N := 11) (j := 7) C gwRX8 rfl (by decide) (by decide) iIRX8_7 mFRX11_99 rfl dX11_setDemand_64 h67
  have h61 := az_getR (T := TX11) (N := 10) (j := 0) C gwRX11 rfl (by decide) (by decide) iIRX11_0 mFRX11_10 rfl dX11_setDemand_61 h64
  have h60 := az_aload_n C 0 rfl dX11_setDemand_60 h61
  have h58 := az_istore C (by decide) dX11_setDemand_58 h60
  have h57 := az_iald C dX11_setDemand_57 h58
  have h56 := az_iload_n C 2 rfl dX11_setDemand_56 h57
  have h55 := az_aald2 C dX11_setDemand_55 h56
  have h54 := az_iload_n C 1 rfl dX11_setDemand_54 h55
  have h51 := az_getR (T := TX8) (N := 11) (j := 7) C gwRX8 rfl (by decide) (by decide) iIRX8_7 mFRX11_99 rfl dX11_setDemand_51 h54
  have h48 := az_getR (T := TX11) (N := 10) (j := 0) C gwRX11 rfl (by decide) (by decide) iIRX11_0 mFRX11_10 rfl dX11_setDemand_48 h51
  have h47 := az_aload_n C 0 rfl dX11_setDemand_47 h48
  have h44 := az_callV (ci := 12) C okX11_beginChange knX11_beginChange imX11_beginChange seX11_beginChange mLRX11_96 rfl (by decide) ⟨rfl, rfl, by decide, by decide⟩ dX11_setDemand_44 h47
  have h43 := az_aload_n C 0 rfl dX11_setDemand_43 h44
  have h35 := az_throw (cls := "java/lang/IllegalArgumentException") (names := ["java/lang/RuntimeException", "java/lang/Exception"]) C CX (by decide +kernel) (by decide +kernel) thkRX11_72 thi_IllegalArgumentException thaRX11_74 thgRX11_74 dX11_setDemand_35 dX11_setDemand_38 dX11_setDemand_39 dX11_setDemand_42 ⟨by decide, by decide, by decide, by decide⟩
  have h32 := az_if_ne (tgt := 43) C dX11_setDemand_32 (by decide) h43 h35
  have h29 := az_callS C okX11_within knX11_within stX11_within mLRX11_68 ⟨rfl, rfl, by decide, by decide⟩ dX11_setDemand_29 h32
  have h26 := az_sipush (x := (nI 500)) C dX11_setDemand_26 (by decide +kernel) h29
  have h25 := az_iconst (x := (nI 0)) C dX11_setDemand_25 (by decide +kernel) h26
  have h24 := az_iload_n C 3 rfl dX11_setDemand_24 h25
  have h13 := az_if_ne (tgt := 24) C dX11_setDemand_13 (by decide) h24 (az_keep [false, false, false, false, false] (okLX11_setDemand_16 C CX))
  have h10 := az_callV (ci := 12) C okX11_isHour knX11_isHour imX11_isHour seX11_isHour mLRX11_90 rfl (by decide) ⟨rfl, rfl, by decide, by decide⟩ dX11_setDemand_10 h13
  have h9 := az_iload_n C 2 rfl dX11_setDemand_9 h10
  have h8 := az_aload_n C 0 rfl dX11_setDemand_8 h9
  have h5 := az_if_eq (tgt := 16) C dX11_setDemand_5 (by decide) (az_keep [false, false, false, false, false] (okLX11_setDemand_16 C CX)) h8
  have h2 := az_callV (ci := 12) C okX11_isBus knX11_isBus imX11_isBus seX11_isBus mLRX11_86 rfl (by decide) ⟨rfl, rfl, by decide, by decide⟩ dX11_setDemand_2 h5
  have h1 := az_iload_n C 1 rfl dX11_setDemand_1 h2
  have h0 := az_aload_n C 0 rfl dX11_setDemand_0 h1
  exact h0) l hlt
theorem dX11_setReserve_0 : decode cX11_setReserve 0 = .ok (.aload_n 0, 1) := by decide +kernel
theorem dX11_setReserve_1 : decode cX11_setReserve 1 = .ok (.iload_n 1, 1) := by decide +kernel
theorem dX11_setReserve_2 : decode cX11_setReserve 2 = .ok (.invokevirtual 90, 3) := by decide +kernel
theorem dX11_setReserve_5 : decode cX11_setReserve 5 = .ok (.ifCond .ne 11, 3) := by decide +kernel
theorem dX11_setReserve_8 : decode cX11_setReserve 8 = .ok (.new 93, 3) := by decide +kernel
theorem dX11_setReserve_11 : decode cX11_setReserve 11 = .ok (.dup, 1) := by decide +kernel
theorem dX11_setReserve_12 : decode cX11_setReserve 12 = .ok (.invokespecial 95, 3) := by decide +kernel
theorem dX11_setReserve_15 : decode cX11_setReserve 15 = .ok (.athrow, 1) := by decide +kernel
theorem dX11_setReserve_16 : decode cX11_setReserve 16 = .ok (.iload_n 2, 1) := by decide +kernel
theorem dX11_setReserve_17 : decode cX11_setReserve 17 = .ok (.iconst 0, 1) := by decide +kernel
theorem dX11_setReserve_18 : decode cX11_setReserve 18 = .ok (.sipush 500, 3) := by decide +kernel
theorem dX11_setReserve_21 : decode cX11_setReserve 21 = .ok (.invokestatic 68, 3) := by decide +kernel
theorem dX11_setReserve_24 : decode cX11_setReserve 24 = .ok (.ifCond .ne 11, 3) := by decide +kernel
theorem dX11_setReserve_27 : decode cX11_setReserve 27 = .ok (.new 72, 3) := by decide +kernel
theorem dX11_setReserve_30 : decode cX11_setReserve 30 = .ok (.dup, 1) := by decide +kernel
theorem dX11_setReserve_31 : decode cX11_setReserve 31 = .ok (.invokespecial 74, 3) := by decide +kernel
theorem dX11_setReserve_34 : decode cX11_setReserve 34 = .ok (.athrow, 1) := by decide +kernel
theorem dX11_setReserve_35 : decode cX11_setReserve 35 = .ok (.aload_n 0, 1) := by decide +kernel
theorem dX11_setReserve_36 : decode cX11_setReserve 36 = .ok (.invokevirtual 96, 3) := by decide +kernel
theorem dX11_setReserve_39 : decode cX11_setReserve 39 = .ok (.aload_n 0, 1) := by decide +kernel
theorem dX11_setReserve_40 : decode cX11_setReserve 40 = .ok (.getfield 10, 3) := by decide +kernel
theorem dX11_setReserve_43 : decode cX11_setReserve 43 = .ok (.getfield 103, 3) := by decide +kernel
theorem dX11_setReserve_46 : decode cX11_setReserve 46 = .ok (.iload_n 1, 1) := by decide +kernel
theorem dX11_setReserve_47 : decode cX11_setReserve 47 = .ok (.iaload, 1) := by decide +kernel
theorem dX11_setReserve_48 : decode cX11_setReserve 48 = .ok (.istore_n 3, 1) := by decide +kernel
theorem dX11_setReserve_49 : decode cX11_setReserve 49 = .ok (.aload_n 0, 1) := by decide +kernel
theorem dX11_setReserve_50 : decode cX11_setReserve 50 = .ok (.getfield 10, 3) := by decide +kernel
theorem dX11_setReserve_53 : decode cX11_setReserve 53 = .ok (.getfield 103, 3) := by decide +kernel
theorem dX11_setReserve_56 : decode cX11_setReserve 56 = .ok (.iload_n 1, 1) := by decide +kernel
theorem dX11_setReserve_57 : decode cX11_setReserve 57 = .ok (.iload_n 2, 1) := by decide +kernel
theorem dX11_setReserve_58 : decode cX11_setReserve 58 = .ok (.iastore, 1) := by decide +kernel
theorem dX11_setReserve_59 : decode cX11_setReserve 59 = .ok (.iload_n 3, 1) := by decide +kernel
theorem dX11_setReserve_60 : decode cX11_setReserve 60 = .ok (.ireturn, 1) := by decide +kernel
def PX11_setReserve (Q : Option Value → az_M → Prop) (Xs : String → az_M → Prop) : az_T := (s_la 0 (s_li 1 (s_cv 1 12 FX11_isHour (s_if c_ne (s_li 2 (s_ic (nI 0) (s_ic (nI 500) (s_cs 3 FX11_within (s_if c_ne (s_la 0 (s_cv 0 12 FX11_beginChange (s_la 0 (s_gr 12 0 (s_gr 9 8 (s_li 1 (s_al 20 (s_si 3 (s_la 0 (s_gr 12 0 (s_gr 9 8 (s_li 1 (s_li 2 (s_as (s_li 3 (s_ri Q)))))))))))))))) (s_thr "java/lang/IllegalArgumentException" Xs)))))) (s_thr "java/lang/IndexOutOfBoundsException" Xs)))))
def FX11_setReserve : az_FX := az_funX [true, false, false] 4 PX11_setReserve
theorem okX11_setReserve (l : Launch) (hlt : l.stackTraces = false) : az_metX l yX11_setReserve cX11_setReserve 4 (some .int) ({ frames := 7, cells := 1, slots := 6, locals := 163 } : Room) FX11_setReserve := az_metX_of (own := RX11) (by decide +kernel) rfl (by decide) (fun X Q Xs C CX => by
  have h60 := az_ireturn C rfl dX11_setReserve_60
  have h59 := az_iload_n C 3 rfl dX11_setReserve_59 h60
  have h58 := az_iast C dX11_setReserve_58 h59
  have h57 := az_iload_n C 2 rfl dX11_setReserve_57 h58
  have h56 := az_iload_n C 1 rfl dX11_setReserve_56 h57
  have h53 := az_getR (T := TX8) (N := 11) (j := 8) C gwRX8 rfl (by decide) (by decide) iIRX8_8 mFRX11_103 rfl dX11_setReserve_53 h56
  have h50 := az_getR (T := TX11) (N := 10) (j := 0) C gwRX11 rfl (by decide) (by decide) iIRX11_0 mFRX11_10 rfl dX11_setReserve_50 h53
  have h49 := az_aload_n C 0 rfl dX11_setReserve_49 h50
  have h48 := az_istore_n C 3 rfl (by decide) dX11_setReserve_48 h49
  have h47 := az_iald C dX11_setReserve_47 h48
  have h46 := az_iload_n C 1 rfl dX11_setReserve_46 h47
  have h43 := az_getR (T := TX8) (N := 11) (j := 8) C gwRX8 rfl (by decide) (by decide) iIRX8_8 mFRX11_103 rfl dX11_setReserve_43 h46
  have h40 := az_getR (T := TX11) (N := 10) (j := 0) C gwRX11 rfl (by decide) (by decide) iIRX11_0 mFRX11_10 rfl dX11_setReserve_40 h43
  have h39 := az_aload_n C 0 rfl dX11_setReserve_39 h40
  have h36 := az_callV (ci := 12) C okX11_beginChange knX11_beginChange imX11_beginChange seX11_beginChange mLRX11_96 rfl (by decide) ⟨rfl, rfl, by decide, by decide⟩ dX11_setReserve_36 h39
  have h35 := az_aload_n C 0 rfl dX11_setReserve_35 h36
  have h27 := az_throw (cls := "java/lang/IllegalArgumentException") (names := ["java/lang/RuntimeException", "java/lang/Exception"]) C CX (by decide +kernel) (by decide +kernel) thkRX11_72 thi_IllegalArgumentException thaRX11_74 thgRX11_74 dX11_setReserve_27 dX11_setReserve_30 dX11_setReserve_31 dX11_setReserve_34 ⟨by decide, by decide, by decide, by decide⟩
  have h24 := az_if_ne (tgt := 35) C dX11_setReserve_24 (by decide) h35 h27
  have h21 := az_callS C okX11_within knX11_within stX11_within mLRX11_68 ⟨rfl, rfl, by decide, by decide⟩ dX11_setReserve_21 h24
  have h18 := az_sipush (x := (nI 500)) C dX11_setReserve_18 (by decide +kernel) h21
  have h17 := az_iconst (x := (nI 0)) C dX11_setReserve_17 (by decide +kernel) h18
  have h16 := az_iload_n C 2 rfl dX11_setReserve_16 h17
  have h8 := az_throw (cls := "java/lang/IndexOutOfBoundsException") (names := ["java/lang/RuntimeException", "java/lang/Exception"]) C CX (by decide +kernel) (by decide +kernel) thkRX11_93 thi_IndexOutOfBoundsException thaRX11_95 thgRX11_95 dX11_setReserve_8 dX11_setReserve_11 dX11_setReserve_12 dX11_setReserve_15 ⟨by decide, by decide, by decide, by decide⟩
  have h5 := az_if_ne (tgt := 16) C dX11_setReserve_5 (by decide) h16 h8
  have h2 := az_callV (ci := 12) C okX11_isHour knX11_isHour imX11_isHour seX11_isHour mLRX11_90 rfl (by decide) ⟨rfl, rfl, by decide, by decide⟩ dX11_setReserve_2 h5
  have h1 := az_iload_n C 1 rfl dX11_setReserve_1 h2
  have h0 := az_aload_n C 0 rfl dX11_setReserve_0 h1
  exact h0) l hlt
theorem dX11_setLine_0 : decode cX11_setLine 0 = .ok (.aload_n 0, 1) := by decide +kernel
theorem dX11_setLine_1 : decode cX11_setLine 1 = .ok (.iload_n 1, 1) := by decide +kernel
theorem dX11_setLine_2 : decode cX11_setLine 2 = .ok (.invokevirtual 86, 3) := by decide +kernel
theorem dX11_setLine_5 : decode cX11_setLine 5 = .ok (.ifCond .eq 16, 3) := by decide +kernel
theorem dX11_setLine_8 : decode cX11_setLine 8 = .ok (.iload_n 1, 1) := by decide +kernel
theorem dX11_setLine_9 : decode cX11_setLine 9 = .ok (.ifCond .eq 12, 3) := by decide +kernel
theorem dX11_setLine_12 : decode cX11_setLine 12 = .ok (.iload_n 2, 1) := by decide +kernel
theorem dX11_setLine_13 : decode cX11_setLine 13 = .ok (.ifCond .lt 8, 3) := by decide +kernel
theorem dX11_setLine_16 : decode cX11_setLine 16 = .ok (.iload_n 2, 1) := by decide +kernel
theorem dX11_setLine_17 : decode cX11_setLine 17 = .ok (.iload_n 1, 1) := by decide +kernel
theorem dX11_setLine_18 : decode cX11_setLine 18 = .ok (.if_icmp .lt 11, 3) := by decide +kernel
theorem dX11_setLine_21 : decode cX11_setLine 21 = .ok (.new 93, 3) := by decide +kernel
theorem dX11_setLine_24 : decode cX11_setLine 24 = .ok (.dup, 1) := by decide +kernel
theorem dX11_setLine_25 : decode cX11_setLine 25 = .ok (.invokespecial 95, 3) := by decide +kernel
theorem dX11_setLine_28 : decode cX11_setLine 28 = .ok (.athrow, 1) := by decide +kernel
theorem dX11_setLine_29 : decode cX11_setLine 29 = .ok (.iload_n 3, 1) := by decide +kernel
theorem dX11_setLine_30 : decode cX11_setLine 30 = .ok (.iconst 0, 1) := by decide +kernel
theorem dX11_setLine_31 : decode cX11_setLine 31 = .ok (.sipush 1000, 3) := by decide +kernel
theorem dX11_setLine_34 : decode cX11_setLine 34 = .ok (.invokestatic 68, 3) := by decide +kernel
theorem dX11_setLine_37 : decode cX11_setLine 37 = .ok (.ifCond .ne 11, 3) := by decide +kernel
theorem dX11_setLine_40 : decode cX11_setLine 40 = .ok (.new 72, 3) := by decide +kernel
theorem dX11_setLine_43 : decode cX11_setLine 43 = .ok (.dup, 1) := by decide +kernel
theorem dX11_setLine_44 : decode cX11_setLine 44 = .ok (.invokespecial 74, 3) := by decide +kernel
theorem dX11_setLine_47 : decode cX11_setLine 47 = .ok (.athrow, 1) := by decide +kernel
theorem dX11_setLine_48 : decode cX11_setLine 48 = .ok (.aload_n 0, 1) := by decide +kernel
theorem dX11_setLine_49 : decode cX11_setLine 49 = .ok (.invokevirtual 96, 3) := by decide +kernel
theorem dX11_setLine_52 : decode cX11_setLine 52 = .ok (.aload_n 0, 1) := by decide +kernel
theorem dX11_setLine_53 : decode cX11_setLine 53 = .ok (.getfield 10, 3) := by decide +kernel
theorem dX11_setLine_56 : decode cX11_setLine 56 = .ok (.getfield 107, 3) := by decide +kernel
theorem dX11_setLine_59 : decode cX11_setLine 59 = .ok (.iload_n 1, 1) := by decide +kernel
theorem dX11_setLine_60 : decode cX11_setLine 60 = .ok (.iaload, 1) := by decide +kernel
theorem dX11_setLine_61 : decode cX11_setLine 61 = .ok (.istore 4, 2) := by decide +kernel
theorem dX11_setLine_63 : decode cX11_setLine 63 = .ok (.aload_n 0, 1) := by decide +kernel
theorem dX11_setLine_64 : decode cX11_setLine 64 = .ok (.getfield 10, 3) := by decide +kernel
theorem dX11_setLine_67 : decode cX11_setLine 67 = .ok (.getfield 110, 3) := by decide +kernel
theorem dX11_setLine_70 : decode cX11_setLine 70 = .ok (.iload_n 1, 1) := by decide +kernel
theorem dX11_setLine_71 : decode cX11_setLine 71 = .ok (.iload_n 2, 1) := by decide +kernel
theorem dX11_setLine_72 : decode cX11_setLine 72 = .ok (.iastore, 1) := by decide +kernel
theorem dX11_setLine_73 : decode cX11_setLine 73 = .ok (.aload_n 0, 1) := by decide +kernel
theorem dX11_setLine_74 : decode cX11_setLine 74 = .ok (.getfield 10, 3) := by decide +kernel
theorem dX11_setLine_77 : decode cX11_setLine 77 = .ok (.getfield 107, 3) := by decide +kernel
theorem dX11_setLine_80 : decode cX11_setLine 80 = .ok (.iload_n 1, 1) := by decide +kernel
theorem dX11_setLine_81 : decode cX11_setLine 81 = .ok (.iload_n 3, 1) := by decide +kernel
theorem dX11_setLine_82 : decode cX11_setLine 82 = .ok (.iastore, 1) := by decide +kernel
theorem dX11_setLine_83 : decode cX11_setLine 83 = .ok (.iload 4, 2) := by decide +kernel
theorem dX11_setLine_85 : decode cX11_setLine 85 = .ok (.ireturn, 1) := by decide +kernel
def LX11_setLine_21 (Q : Option Value → az_M → Prop) (Xs : String → az_M → Prop) : az_T := (s_thr "java/lang/IndexOutOfBoundsException" Xs)
theorem okLX11_setLine_21 {X : az_X} {Q : Option Value → az_M → Prop} {Xs : String → az_M → Prop} (C : az_C X cX11_setLine 5 RX11 (az_ts yX11_setLine cX11_setLine 5 (some .int)) ({ frames := 7, cells := 1, slots := 6, locals := 163 } : Room) (some .int) Q) (CX : az_CX X ({ frames := 7, cells := 1, slots := 6, locals := 163 } : Room) Q Xs) : az_ok X 21 (LX11_setLine_21 Q Xs) := by
  have h21 := az_throw (cls := "java/lang/IndexOutOfBoundsException") (names := ["java/lang/RuntimeException", "java/lang/Exception"]) C CX (by decide +kernel) (by decide +kernel) thkRX11_93 thi_IndexOutOfBoundsException thaRX11_95 thgRX11_95 dX11_setLine_21 dX11_setLine_24 dX11_setLine_25 dX11_setLine_28 ⟨by decide, by decide, by decide, by decide⟩
  exact h21
def PX11_setLine (Q : Option Value → az_M → Prop) (Xs : String → az_M → Prop) : az_T := (s_la 0 (s_li 1 (s_cv 1 12 FX11_isBus (s_if c_eq (s_kp [false, false, false, false, false] (LX11_setLine_21 Q Xs)) (s_li 1 (s_if c_eq (s_kp [false, false, false, false, false] (LX11_setLine_21 Q Xs)) (s_li 2 (s_if c_lt (s_kp [false, false, false, false, false] (LX11_setLine_21 Q Xs)) (s_li 2 (s_li 1 (s_if2 d_lt (s_li 3 (s_ic (nI 0) (s_ic (nI 1000) (s_cs 3 FX11_within (s_if c_ne (s_la 0 (s_cv 0 12 FX11_beginChange (s_la 0 (s_gr 12 0 (s_gr 9 10 (s_li 1 (s_al 20 (s_si 4 (s_la 0 (s_gr 12 0 (s_gr 9 9 (s_li 1 (s_li 2 (s_as (s_la 0 (s_gr 12 0 (s_gr 9 10 (s_li 1 (s_li 3 (s_as (s_li 4 (s_ri Q)))))))))))))))))))))) (s_thr "java/lang/IllegalArgumentException" Xs)))))) (s_kp [false, false, false, false, false] (LX11_setLine_21 Q Xs)))))))))))))
def FX11_setLine : az_FX := az_funX [true, false, false, false] 5 PX11_setLine
theorem okX11_setLine (l : Launch) (hlt : l.stackTraces = false) : az_metX l yX11_setLine cX11_setLine 5 (some .int) ({ frames := 7, cells := 1, slots := 6, locals := 163 } : Room) FX11_setLine := az_metX_of (own := RX11) (by decide +kernel) rfl (by decide) (fun X Q Xs C CX => by
  have h85 := az_ireturn C rfl dX11_setLine_85
  have h83 := az_iload C dX11_setLine_83 h85
  have h82 := az_iast C dX11_setLine_82 h83
  have h81 := az_iload_n C 3 rfl dX11_setLine_81 h82
  have h80 := az_iload_n C 1 rfl dX11_setLine_80 h81
  have h77 := az_getR (T := TX8) (N := 11) (j := 10) C gwRX8 rfl (by decide) (by decide) iIRX8_10 mFRX11_107 rfl dX11_setLine_77 h80
  have h74 := az_getR (T := TX11) (N := 10) (j := 0) C gwRX11 rfl (by decide) (by decide) iIRX11_0 mFRX11_10 rfl dX11_setLine_74 h77
  have h73 := az_aload_n C 0 rfl dX11_setLine_73 h74
  have h72 := az_iast C dX11_setLine_72 h73
  have h71 := az_iload_n C 2 rfl dX11_setLine_71 h72
  have h70 := az_iload_n C 1 rfl dX11_setLine_70 h71
  have h67 := az_getR (T := TX8) (N := 11) (j := 9) C gwRX8 rfl (by decide) (by decide) iIRX8_9 mFRX11_110 rfl dX11_setLine_67 h70
  have h64 := az_getR (T := TX11) (N := 10) (j := 0) C gwRX11 rfl (by decide) (by decide) iIRX11_0 mFRX11_10 rfl dX11_setLine_64 h67
  have h63 := az_aload_n C 0 rfl dX11_setLine_63 h64
  have h61 := az_istore C (by decide) dX11_setLine_61 h63
  have h60 := az_iald C dX11_setLine_60 h61
  have h59 := az_iload_n C 1 rfl dX11_setLine_59 h60
  have h56 := az_getR (T := TX8) (N := 11) (j := 10) C gwRX8 rfl (by decide) (by decide) iIRX8_10 mFRX11_107 rfl dX11_setLine_56 h59
  have h53 := az_getR (T := TX11) (N := 10) (j := 0) C gwRX11 rfl (by decide) (by decide) iIRX11_0 mFRX11_10 rfl dX11_setLine_53 h56
  have h52 := az_aload_n C 0 rfl dX11_setLine_52 h53
  have h49 := az_callV (ci := 12) C okX11_beginChange knX11_beginChange imX11_beginChange seX11_beginChange mLRX11_96 rfl (by decide) ⟨rfl, rfl, by decide, by decide⟩ dX11_setLine_49 h52
  have h48 := az_aload_n C 0 rfl dX11_setLine_48 h49
  have h40 := az_throw (cls := "java/lang/IllegalArgumentException") (names := ["java/lang/RuntimeException", "java/lang/Exception"]) C CX (by decide +kernel) (by decide +kernel) thkRX11_72 thi_IllegalArgumentException thaRX11_74 thgRX11_74 dX11_setLine_40 dX11_setLine_43 dX11_setLine_44 dX11_setLine_47 ⟨by decide, by decide, by decide, by decide⟩
  have h37 := az_if_ne (tgt := 48) C dX11_setLine_37 (by decide) h48 h40
  have h34 := az_callS C okX11_within knX11_within stX11_within mLRX11_68 ⟨rfl, rfl, by decide, by decide⟩ dX11_setLine_34 h37
  have h31 := az_sipush (x := (nI 1000)) C dX11_setLine_31 (by decide +kernel) h34
  have h30 := az_iconst (x := (nI 0)) C dX11_setLine_30 (by decide +kernel) h31
  have h29 := az_iload_n C 3 rfl dX11_setLine_29 h30
  have h18 := az_icmp_lt (tgt := 29) C dX11_setLine_18 (by decide) h29 (az_keep [false, false, false, false, false] (okLX11_setLine_21 C CX))
  have h17 := az_iload_n C 1 rfl dX11_setLine_17 h18
  have h16 := az_iload_n C 2 rfl dX11_setLine_16 h17
  have h13 := az_if_lt (tgt := 21) C dX11_setLine_13 (by decide) (az_keep [false, false, false, false, false] (okLX11_setLine_21 C CX)) h16
  have h12 := az_iload_n C 2 rfl dX11_setLine_12 h13
  have h9 := az_if_eq (tgt := 21) C dX11_setLine_9 (by decide) (az_keep [false, false, false, false, false] (okLX11_setLine_21 C CX)) h12
  have h8 := az_iload_n C 1 rfl dX11_setLine_8 h9
  have h5 := az_if_eq (tgt := 21) C dX11_setLine_5 (by decide) (az_keep [false, false, false, false, false] (okLX11_setLine_21 C CX)) h8
  have h2 := az_callV (ci := 12) C okX11_isBus knX11_isBus imX11_isBus seX11_isBus mLRX11_86 rfl (by decide) ⟨rfl, rfl, by decide, by decide⟩ dX11_setLine_2 h5
  have h1 := az_iload_n C 1 rfl dX11_setLine_1 h2
  have h0 := az_aload_n C 0 rfl dX11_setLine_0 h1
  exact h0) l hlt
theorem dX11_addUnit_0 : decode cX11_addUnit 0 = .ok (.aload_n 0, 1) := by decide +kernel
theorem dX11_addUnit_1 : decode cX11_addUnit 1 = .ok (.iload_n 1, 1) := by decide +kernel
theorem dX11_addUnit_2 : decode cX11_addUnit 2 = .ok (.invokevirtual 86, 3) := by decide +kernel
theorem dX11_addUnit_5 : decode cX11_addUnit 5 = .ok (.ifCond .ne 11, 3) := by decide +kernel
theorem dX11_addUnit_8 : decode cX11_addUnit 8 = .ok (.new 93, 3) := by decide +kernel
theorem dX11_addUnit_11 : decode cX11_addUnit 11 = .ok (.dup, 1) := by decide +kernel
theorem dX11_addUnit_12 : decode cX11_addUnit 12 = .ok (.invokespecial 95, 3) := by decide +kernel
theorem dX11_addUnit_15 : decode cX11_addUnit 15 = .ok (.athrow, 1) := by decide +kernel
theorem dX11_addUnit_16 : decode cX11_addUnit 16 = .ok (.iload_n 2, 1) := by decide +kernel
theorem dX11_addUnit_17 : decode cX11_addUnit 17 = .ok (.iconst 0, 1) := by decide +kernel
theorem dX11_addUnit_18 : decode cX11_addUnit 18 = .ok (.sipush 500, 3) := by decide +kernel
theorem dX11_addUnit_21 : decode cX11_addUnit 21 = .ok (.invokestatic 68, 3) := by decide +kernel
theorem dX11_addUnit_24 : decode cX11_addUnit 24 = .ok (.ifCond .eq 41, 3) := by decide +kernel
theorem dX11_addUnit_27 : decode cX11_addUnit 27 = .ok (.iload_n 3, 1) := by decide +kernel
theorem dX11_addUnit_28 : decode cX11_addUnit 28 = .ok (.iload_n 2, 1) := by decide +kernel
theorem dX11_addUnit_29 : decode cX11_addUnit 29 = .ok (.iconst 1, 1) := by decide +kernel
theorem dX11_addUnit_30 : decode cX11_addUnit 30 = .ok (.invokestatic 113, 3) := by decide +kernel
theorem dX11_addUnit_33 : decode cX11_addUnit 33 = .ok (.sipush 500, 3) := by decide +kernel
theorem dX11_addUnit_36 : decode cX11_addUnit 36 = .ok (.invokestatic 68, 3) := by decide +kernel
theorem dX11_addUnit_39 : decode cX11_addUnit 39 = .ok (.ifCond .eq 26, 3) := by decide +kernel
theorem dX11_addUnit_42 : decode cX11_addUnit 42 = .ok (.iload 4, 2) := by decide +kernel
theorem dX11_addUnit_44 : decode cX11_addUnit 44 = .ok (.iconst 1, 1) := by decide +kernel
theorem dX11_addUnit_45 : decode cX11_addUnit 45 = .ok (.sipush 500, 3) := by decide +kernel
theorem dX11_addUnit_48 : decode cX11_addUnit 48 = .ok (.invokestatic 68, 3) := by decide +kernel
theorem dX11_addUnit_51 : decode cX11_addUnit 51 = .ok (.ifCond .eq 14, 3) := by decide +kernel
theorem dX11_addUnit_54 : decode cX11_addUnit 54 = .ok (.iload 5, 2) := by decide +kernel
theorem dX11_addUnit_56 : decode cX11_addUnit 56 = .ok (.iconst 0, 1) := by decide +kernel
theorem dX11_addUnit_57 : decode cX11_addUnit 57 = .ok (.bipush 100, 2) := by decide +kernel
theorem dX11_addUnit_59 : decode cX11_addUnit 59 = .ok (.invokestatic 68, 3) := by decide +kernel
theorem dX11_addUnit_62 : decode cX11_addUnit 62 = .ok (.ifCond .ne 11, 3) := by decide +kernel
theorem dX11_addUnit_65 : decode cX11_addUnit 65 = .ok (.new 72, 3) := by decide +kernel
theorem dX11_addUnit_68 : decode cX11_addUnit 68 = .ok (.dup, 1) := by decide +kernel
theorem dX11_addUnit_69 : decode cX11_addUnit 69 = .ok (.invokespecial 74, 3) := by decide +kernel
theorem dX11_addUnit_72 : decode cX11_addUnit 72 = .ok (.athrow, 1) := by decide +kernel
theorem dX11_addUnit_73 : decode cX11_addUnit 73 = .ok (.aload_n 0, 1) := by decide +kernel
theorem dX11_addUnit_74 : decode cX11_addUnit 74 = .ok (.getfield 10, 3) := by decide +kernel
theorem dX11_addUnit_77 : decode cX11_addUnit 77 = .ok (.getfield 75, 3) := by decide +kernel
theorem dX11_addUnit_80 : decode cX11_addUnit 80 = .ok (.bipush 6, 2) := by decide +kernel
theorem dX11_addUnit_82 : decode cX11_addUnit 82 = .ok (.if_icmp .lt 11, 3) := by decide +kernel
theorem dX11_addUnit_85 : decode cX11_addUnit 85 = .ok (.new 119, 3) := by decide +kernel
theorem dX11_addUnit_88 : decode cX11_addUnit 88 = .ok (.dup, 1) := by decide +kernel
theorem dX11_addUnit_89 : decode cX11_addUnit 89 = .ok (.invokespecial 121, 3) := by decide +kernel
theorem dX11_addUnit_92 : decode cX11_addUnit 92 = .ok (.athrow, 1) := by decide +kernel
theorem dX11_addUnit_93 : decode cX11_addUnit 93 = .ok (.aload_n 0, 1) := by decide +kernel
theorem dX11_addUnit_94 : decode cX11_addUnit 94 = .ok (.invokevirtual 96, 3) := by decide +kernel
theorem dX11_addUnit_97 : decode cX11_addUnit 97 = .ok (.aload_n 0, 1) := by decide +kernel
theorem dX11_addUnit_98 : decode cX11_addUnit 98 = .ok (.getfield 10, 3) := by decide +kernel
theorem dX11_addUnit_101 : decode cX11_addUnit 101 = .ok (.getfield 75, 3) := by decide +kernel
theorem dX11_addUnit_104 : decode cX11_addUnit 104 = .ok (.istore 6, 2) := by decide +kernel
theorem dX11_addUnit_106 : decode cX11_addUnit 106 = .ok (.aload_n 0, 1) := by decide +kernel
theorem dX11_addUnit_107 : decode cX11_addUnit 107 = .ok (.getfield 10, 3) := by decide +kernel
theorem dX11_addUnit_110 : decode cX11_addUnit 110 = .ok (.dup, 1) := by decide +kernel
theorem dX11_addUnit_111 : decode cX11_addUnit 111 = .ok (.getfield 75, 3) := by decide +kernel
theorem dX11_addUnit_114 : decode cX11_addUnit 114 = .ok (.iconst 1, 1) := by decide +kernel
theorem dX11_addUnit_115 : decode cX11_addUnit 115 = .ok (.iadd, 1) := by decide +kernel
theorem dX11_addUnit_116 : decode cX11_addUnit 116 = .ok (.putfield 75, 3) := by decide +kernel
theorem dX11_addUnit_119 : decode cX11_addUnit 119 = .ok (.aload_n 0, 1) := by decide +kernel
theorem dX11_addUnit_120 : decode cX11_addUnit 120 = .ok (.getfield 10, 3) := by decide +kernel
theorem dX11_addUnit_123 : decode cX11_addUnit 123 = .ok (.iload 6, 2) := by decide +kernel
theorem dX11_addUnit_125 : decode cX11_addUnit 125 = .ok (.iload_n 1, 1) := by decide +kernel
theorem dX11_addUnit_126 : decode cX11_addUnit 126 = .ok (.iload_n 2, 1) := by decide +kernel
theorem dX11_addUnit_127 : decode cX11_addUnit 127 = .ok (.iload_n 3, 1) := by decide +kernel
theorem dX11_addUnit_128 : decode cX11_addUnit 128 = .ok (.iload 4, 2) := by decide +kernel
theorem dX11_addUnit_130 : decode cX11_addUnit 130 = .ok (.iload 5, 2) := by decide +kernel
theorem dX11_addUnit_132 : decode cX11_addUnit 132 = .ok (.invokevirtual 122, 3) := by decide +kernel
theorem dX11_addUnit_135 : decode cX11_addUnit 135 = .ok (.iload 6, 2) := by decide +kernel
theorem dX11_addUnit_137 : decode cX11_addUnit 137 = .ok (.ireturn, 1) := by decide +kernel
def LX11_addUnit_65 (Q : Option Value → az_M → Prop) (Xs : String → az_M → Prop) : az_T := (s_thr "java/lang/IllegalArgumentException" Xs)
theorem okLX11_addUnit_65 {X : az_X} {Q : Option Value → az_M → Prop} {Xs : String → az_M → Prop} (C : az_C X cX11_addUnit 7 RX11 (az_ts yX11_addUnit cX11_addUnit 7 (some .int)) ({ frames := 7, cells := 1, slots := 6, locals := 163 } : Room) (some .int) Q) (CX : az_CX X ({ frames := 7, cells := 1, slots := 6, locals := 163 } : Room) Q Xs) : az_ok X 65 (LX11_addUnit_65 Q Xs) := by
  have h65 := az_throw (cls := "java/lang/IllegalArgumentException") (names := ["java/lang/RuntimeException", "java/lang/Exception"]) C CX (by decide +kernel) (by decide +kernel) thkRX11_72 thi_IllegalArgumentException thaRX11_74 thgRX11_74 dX11_addUnit_65 dX11_addUnit_68 dX11_addUnit_69 dX11_addUnit_72 ⟨by decide, by decide, by decide, by decide⟩
  exact h65
def PX11_addUnit (Q : Option Value → az_M → Prop) (Xs : String → az_M → Prop) : az_T := (s_la 0 (s_li 1 (s_cv 1 12 FX11_isBus (s_if c_ne (s_li 2 (s_ic (nI 0) (s_ic (nI 500) (s_cs 3 FX11_within (s_if c_eq (s_kp [false, false, false, false, false, false, false] (LX11_addUnit_65 Q Xs)) (s_li 3 (s_li 2 (s_ic (nI 1) (s_mx (s_ic (nI 500) (s_cs 3 FX11_within (s_if c_eq (s_kp [false, false, false, false, false, false, false] (LX11_addUnit_65 Q Xs)) (s_li 4 (s_ic (nI 1) (s_ic (nI 500) (s_cs 3 FX11_within (s_if c_eq (s_kp [false, false, false, false, false, false, false] (LX11_addUnit_65 Q Xs)) (s_li 5 (s_ic (nI 0) (s_ic (nI 100) (s_cs 3 FX11_within (s_if c_ne (s_la 0 (s_gr 12 0 (s_gi 9 3 (s_ic (nI 6) (s_if2 d_lt (s_la 0 (s_cv 0 12 FX11_beginChange (s_la 0 (s_gr 12 0 (s_gi 9 3 (s_si 6 (s_la 0 (s_gr 12 0 (s_dup (s_gi 9 3 (s_ic (nI 1) (s_bin f_add (s_pi 9 3 (s_la 0 (s_gr 12 0 (s_li 6 (s_li 1 (s_li 2 (s_li 3 (s_li 4 (s_li 5 (s_cv 6 9 FX8_fillUnit (s_li 6 (s_ri Q)))))))))))))))))))))))) (s_thr "java/lang/IllegalStateException" Xs)))))) (s_kp [false, false, false, false, false, false, false] (LX11_addUnit_65 Q Xs)))))))))))))))))))))))) (s_thr "java/lang/IndexOutOfBoundsException" Xs)))))
def FX11_addUnit : az_FX := az_funX [true, false, false, false, false, false] 7 PX11_addUnit
theorem okX11_addUnit (l : Launch) (hlt : l.stackTraces = false) : az_metX l yX11_addUnit cX11_addUnit 7 (some .int) ({ frames := 7, cells := 1, slots := 6, locals := 163 } : Room) FX11_addUnit := az_metX_of (own := RX11) (by decide +kernel) rfl (by decide) (fun X Q Xs C CX => by
  have h137 := az_ireturn C rfl dX11_addUnit_137
  have h135 := az_iload C dX11_addUnit_135 h137
  have h132 := az_callVN (ci := 9) C okX8_fillUnit knX8_fillUnit imX8_fillUnit seX8_fillUnit mNRX11_122 rfl (by decide) ⟨rfl, rfl, by decide, by decide⟩ dX11_addUnit_132 h135
  have h130 := az_iload C dX11_addUnit_130 h132
  have h128 := az_iload C dX11_addUnit_128 h130
  have h127 := az_iload_n C 3 rfl dX11_addUnit_127 h128
  have h126 := az_iload_n C 2 rfl dX11_addUnit_126 h127
  have h125 := az_iload_n C 1 rfl dX11_addUnit_125 h126
  have h123 := az_iload C dX11_addUnit_123 h125
  have h120 := az_getR (T := TX11) (N := 10) (j := 0) C gwRX11 rfl (by decide) (by decide) iIRX11_0 mFRX11_10 rfl dX11_addUnit_120 h123
  have h119 := az_aload_n C 0 rfl dX11_addUnit_119 h120
  have h116 := az_putI (T := TX8) (N := 11) (j := 3) C gwRX8 rfl (by decide) (by decide) tyX8 tyX8_ok nmX8 iIRX8_3 (by decide +kernel) rfl mFRX11_75 rfl dX11_addUnit_116 h119
  have h115 := az_iadd C dX11_addUnit_115 h116
  have h114 := az_iconst (x := (nI 1)) C dX11_addUnit_114 (by decide +kernel) h115
  have h111 := az_getI (T := TX8) (N := 11) (j := 3) C gwRX8 rfl (by decide) (by decide) iIRX8_3 mFRX11_75 rfl dX11_addUnit_111 h114
  have h110 := az_dup C dX11_addUnit_110 h111
  have h107 := az_getR (T := TX11) (N := 10) (j := 0) C gwRX11 rfl (by decide) (by decide) iIRX11_0 mFRX11_10 rfl dX11_addUnit_107 h110
  have h106 := az_aload_n C 0 rfl dX11_addUnit_106 h107
  have h104 := az_istore C (by decide) dX11_addUnit_104 h106
  have h101 := az_getI (T := TX8) (N := 11) (j := 3) C gwRX8 rfl (by decide) (by decide) iIRX8_3 mFRX11_75 rfl dX11_addUnit_101 h104
  have h98 := az_getR (T := TX11) (N := 10) (j := 0) C gwRX11 rfl (by decide) (by decide) iIRX11_0 mFRX11_10 rfl dX11_addUnit_98 h101
  have h97 := az_aload_n C 0 rfl dX11_addUnit_97 h98
  have h94 := az_callV (ci := 12) C okX11_beginChange knX11_beginChange imX11_beginChange seX11_beginChange mLRX11_96 rfl (by decide) ⟨rfl, rfl, by decide, by decide⟩ dX11_addUnit_94 h97
  have h93 := az_aload_n C 0 rfl dX11_addUnit_93 h94
  have h85 := az_throw (cls := "java/lang/IllegalStateException") (names := ["java/lang/RuntimeException", "java/lang/Exception"]) C CX (by decide +kernel) (by decide +kernel) thkRX11_119 thi_IllegalStateException thaRX11_121 thgRX11_121 dX11_addUnit_85 dX11_addUnit_88 dX11_addUnit_89 dX11_addUnit_92 ⟨by decide, by decide, by decide, by decide⟩
  have h82 := az_icmp_lt (tgt := 93) C dX11_addUnit_82 (by decide) h93 h85
  have h80 := az_bipush (x := (nI 6)) C dX11_addUnit_80 (by decide +kernel) h82
  have h77 := az_getI (T := TX8) (N := 11) (j := 3) C gwRX8 rfl (by decide) (by decide) iIRX8_3 mFRX11_75 rfl dX11_addUnit_77 h80
  have h74 := az_getR (T := TX11) (N := 10) (j := 0) C gwRX11 rfl (by decide) (by decide) iIRX11_0 mFRX11_10 rfl dX11_addUnit_74 h77
  have h73 := az_aload_n C 0 rfl dX11_addUnit_73 h74
  have h62 := az_if_ne (tgt := 73) C dX11_addUnit_62 (by decide) h73 (az_keep [false, false, false, false, false, false, false] (okLX11_addUnit_65 C CX))
  have h59 := az_callS C okX11_within knX11_within stX11_within mLRX11_68 ⟨rfl, rfl, by decide, by decide⟩ dX11_addUnit_59 h62
  have h57 := az_bipush (x := (nI 100)) C dX11_addUnit_57 (by decide +kernel) h59
  have h56 := az_iconst (x := (nI 0)) C dX11_addUnit_56 (by decide +kernel) h57
  have h54 := az_iload C dX11_addUnit_54 h56
  have h51 := az_if_eq (tgt := 65) C dX11_addUnit_51 (by decide) (az_keep [false, false, false, false, false, false, false] (okLX11_addUnit_65 C CX)) h54
  have h48 := az_callS C okX11_within knX11_within stX11_within mLRX11_68 ⟨rfl, rfl, by decide, by decide⟩ dX11_addUnit_48 h51
  have h45 := az_sipush (x := (nI 500)) C dX11_addUnit_45 (by decide +kernel) h48
  have h44 := az_iconst (x := (nI 1)) C dX11_addUnit_44 (by decide +kernel) h45
  have h42 := az_iload C dX11_addUnit_42 h44
  have h39 := az_if_eq (tgt := 65) C dX11_addUnit_39 (by decide) (az_keep [false, false, false, false, false, false, false] (okLX11_addUnit_65 C CX)) h42
  have h36 := az_callS C okX11_within knX11_within stX11_within mLRX11_68 ⟨rfl, rfl, by decide, by decide⟩ dX11_addUnit_36 h39
  have h33 := az_sipush (x := (nI 500)) C dX11_addUnit_33 (by decide +kernel) h36
  have h30 := az_mmax C mLRX11_113 mx_st_max mx_ini mx_co_max (by decide) (by decide) dX11_addUnit_30 h33
  have h29 := az_iconst (x := (nI 1)) C dX11_addUnit_29 (by decide +kernel) h30
  have h28 := az_iload_n C 2 rfl dX11_addUnit_28 h29
  have h27 := az_iload_n C 3 rfl dX11_addUnit_27 h28
  have h24 := az_if_eq (tgt := 65) C dX11_addUnit_24 (by decide) (az_keep [false, false, false, false, false, false, false] (okLX11_addUnit_65 C CX)) h27
  have h21 := az_callS C okX11_within knX11_within stX11_within mLRX11_68 ⟨rfl, rfl, by decide, by decide⟩ dX11_addUnit_21 h24
  have h18 := az_sipush (x := (nI 500)) C dX11_addUnit_18 (by decide +kernel) h21
  have h17 := az_iconst (x := (nI 0)) C dX11_addUnit_17 (by decide +kernel) h18
  have h16 := az_iload_n C 2 rfl dX11_addUnit_16 h17
  have h8 := az_throw (cls := "java/lang/IndexOutOfBoundsException") (names := ["java/lang/RuntimeException", "java/lang/Exception"]) C CX (by decide +kernel) (by decide +kernel) thkRX11_93 thi_IndexOutOfBoundsException thaRX11_95 thgRX11_95 dX11_addUnit_8 dX11_addUnit_11 dX11_addUnit_12 dX11_addUnit_15 ⟨by decide, by decide, by decide, by decide⟩
  have h5 := az_if_ne (tgt := 16) C dX11_addUnit_5 (by decide) h16 h8
  have h2 := az_callV (ci := 12) C okX11_isBus knX11_isBus imX11_isBus seX11_isBus mLRX11_86 rfl (by decide) ⟨rfl, rfl, by decide, by decide⟩ dX11_addUnit_2 h5
  have h1 := az_iload_n C 1 rfl dX11_addUnit_1 h2
  have h0 := az_aload_n C 0 rfl dX11_addUnit_0 h1
  exact h0) l hlt
theorem dX11_setUnit_0 : decode cX11_setUnit 0 = .ok (.aload_n 0, 1) := by decide +kernel
theorem dX11_setUnit_1 : decode cX11_setUnit 1 = .ok (.iload_n 1, 1) := by decide +kernel
theorem dX11_setUnit_2 : decode cX11_setUnit 2 = .ok (.invokevirtual 126, 3) := by decide +kernel
theorem dX11_setUnit_5 : decode cX11_setUnit 5 = .ok (.ifCond .eq 13, 3) := by decide +kernel
theorem dX11_setUnit_8 : decode cX11_setUnit 8 = .ok (.iload_n 2, 1) := by decide +kernel
theorem dX11_setUnit_9 : decode cX11_setUnit 9 = .ok (.iconst 0, 1) := by decide +kernel
theorem dX11_setUnit_10 : decode cX11_setUnit 10 = .ok (.bipush 7, 2) := by decide +kernel
theorem dX11_setUnit_12 : decode cX11_setUnit 12 = .ok (.invokestatic 68, 3) := by decide +kernel
theorem dX11_setUnit_15 : decode cX11_setUnit 15 = .ok (.ifCond .ne 11, 3) := by decide +kernel
theorem dX11_setUnit_18 : decode cX11_setUnit 18 = .ok (.new 93, 3) := by decide +kernel
theorem dX11_setUnit_21 : decode cX11_setUnit 21 = .ok (.dup, 1) := by decide +kernel
theorem dX11_setUnit_22 : decode cX11_setUnit 22 = .ok (.invokespecial 95, 3) := by decide +kernel
theorem dX11_setUnit_25 : decode cX11_setUnit 25 = .ok (.athrow, 1) := by decide +kernel
theorem dX11_setUnit_26 : decode cX11_setUnit 26 = .ok (.aload_n 0, 1) := by decide +kernel
theorem dX11_setUnit_27 : decode cX11_setUnit 27 = .ok (.getfield 10, 3) := by decide +kernel
theorem dX11_setUnit_30 : decode cX11_setUnit 30 = .ok (.getfield 129, 3) := by decide +kernel
theorem dX11_setUnit_33 : decode cX11_setUnit 33 = .ok (.iload_n 1, 1) := by decide +kernel
theorem dX11_setUnit_34 : decode cX11_setUnit 34 = .ok (.aaload, 1) := by decide +kernel
theorem dX11_setUnit_35 : decode cX11_setUnit 35 = .ok (.iload_n 2, 1) := by decide +kernel
theorem dX11_setUnit_36 : decode cX11_setUnit 36 = .ok (.iload_n 3, 1) := by decide +kernel
theorem dX11_setUnit_37 : decode cX11_setUnit 37 = .ok (.invokestatic 132, 3) := by decide +kernel
theorem dX11_setUnit_40 : decode cX11_setUnit 40 = .ok (.ifCond .ne 11, 3) := by decide +kernel
theorem dX11_setUnit_43 : decode cX11_setUnit 43 = .ok (.new 72, 3) := by decide +kernel
theorem dX11_setUnit_46 : decode cX11_setUnit 46 = .ok (.dup, 1) := by decide +kernel
theorem dX11_setUnit_47 : decode cX11_setUnit 47 = .ok (.invokespecial 74, 3) := by decide +kernel
theorem dX11_setUnit_50 : decode cX11_setUnit 50 = .ok (.athrow, 1) := by decide +kernel
theorem dX11_setUnit_51 : decode cX11_setUnit 51 = .ok (.aload_n 0, 1) := by decide +kernel
theorem dX11_setUnit_52 : decode cX11_setUnit 52 = .ok (.invokevirtual 96, 3) := by decide +kernel
theorem dX11_setUnit_55 : decode cX11_setUnit 55 = .ok (.aload_n 0, 1) := by decide +kernel
theorem dX11_setUnit_56 : decode cX11_setUnit 56 = .ok (.getfield 10, 3) := by decide +kernel
theorem dX11_setUnit_59 : decode cX11_setUnit 59 = .ok (.getfield 129, 3) := by decide +kernel
theorem dX11_setUnit_62 : decode cX11_setUnit 62 = .ok (.iload_n 1, 1) := by decide +kernel
theorem dX11_setUnit_63 : decode cX11_setUnit 63 = .ok (.aaload, 1) := by decide +kernel
theorem dX11_setUnit_64 : decode cX11_setUnit 64 = .ok (.astore 4, 2) := by decide +kernel
theorem dX11_setUnit_66 : decode cX11_setUnit 66 = .ok (.aload 4, 2) := by decide +kernel
theorem dX11_setUnit_68 : decode cX11_setUnit 68 = .ok (.iload_n 2, 1) := by decide +kernel
theorem dX11_setUnit_69 : decode cX11_setUnit 69 = .ok (.iaload, 1) := by decide +kernel
theorem dX11_setUnit_70 : decode cX11_setUnit 70 = .ok (.istore 5, 2) := by decide +kernel
theorem dX11_setUnit_72 : decode cX11_setUnit 72 = .ok (.aload 4, 2) := by decide +kernel
theorem dX11_setUnit_74 : decode cX11_setUnit 74 = .ok (.iload_n 2, 1) := by decide +kernel
theorem dX11_setUnit_75 : decode cX11_setUnit 75 = .ok (.iload_n 3, 1) := by decide +kernel
theorem dX11_setUnit_76 : decode cX11_setUnit 76 = .ok (.iastore, 1) := by decide +kernel
theorem dX11_setUnit_77 : decode cX11_setUnit 77 = .ok (.iload_n 2, 1) := by decide +kernel
theorem dX11_setUnit_78 : decode cX11_setUnit 78 = .ok (.bipush 6, 2) := by decide +kernel
theorem dX11_setUnit_80 : decode cX11_setUnit 80 = .ok (.if_icmp .ne 13, 3) := by decide +kernel
theorem dX11_setUnit_83 : decode cX11_setUnit 83 = .ok (.iload_n 3, 1) := by decide +kernel
theorem dX11_setUnit_84 : decode cX11_setUnit 84 = .ok (.ifCond .ge 9, 3) := by decide +kernel
theorem dX11_setUnit_87 : decode cX11_setUnit 87 = .ok (.aload 4, 2) := by decide +kernel
theorem dX11_setUnit_89 : decode cX11_setUnit 89 = .ok (.bipush 7, 2) := by decide +kernel
theorem dX11_setUnit_91 : decode cX11_setUnit 91 = .ok (.iconst 0, 1) := by decide +kernel
theorem dX11_setUnit_92 : decode cX11_setUnit 92 = .ok (.iastore, 1) := by decide +kernel
theorem dX11_setUnit_93 : decode cX11_setUnit 93 = .ok (.iload_n 2, 1) := by decide +kernel
theorem dX11_setUnit_94 : decode cX11_setUnit 94 = .ok (.bipush 6, 2) := by decide +kernel
theorem dX11_setUnit_96 : decode cX11_setUnit 96 = .ok (.if_icmp .ne 22, 3) := by decide +kernel
theorem dX11_setUnit_99 : decode cX11_setUnit 99 = .ok (.iload_n 3, 1) := by decide +kernel
theorem dX11_setUnit_100 : decode cX11_setUnit 100 = .ok (.ifCond .le 18, 3) := by decide +kernel
theorem dX11_setUnit_103 : decode cX11_setUnit 103 = .ok (.iload 5, 2) := by decide +kernel
theorem dX11_setUnit_105 : decode cX11_setUnit 105 = .ok (.ifCond .ge 13, 3) := by decide +kernel
theorem dX11_setUnit_108 : decode cX11_setUnit 108 = .ok (.aload 4, 2) := by decide +kernel
theorem dX11_setUnit_110 : decode cX11_setUnit 110 = .ok (.bipush 7, 2) := by decide +kernel
theorem dX11_setUnit_112 : decode cX11_setUnit 112 = .ok (.aload 4, 2) := by decide +kernel
theorem dX11_setUnit_114 : decode cX11_setUnit 114 = .ok (.bipush 9, 2) := by decide +kernel
theorem dX11_setUnit_116 : decode cX11_setUnit 116 = .ok (.iaload, 1) := by decide +kernel
theorem dX11_setUnit_117 : decode cX11_setUnit 117 = .ok (.iastore, 1) := by decide +kernel
theorem dX11_setUnit_118 : decode cX11_setUnit 118 = .ok (.iload 5, 2) := by decide +kernel
theorem dX11_setUnit_120 : decode cX11_setUnit 120 = .ok (.ireturn, 1) := by decide +kernel
def LX11_setUnit_18 (Q : Option Value → az_M → Prop) (Xs : String → az_M → Prop) : az_T := (s_thr "java/lang/IndexOutOfBoundsException" Xs)
theorem okLX11_setUnit_18 {X : az_X} {Q : Option Value → az_M → Prop} {Xs : String → az_M → Prop} (C : az_C X cX11_setUnit 6 RX11 (az_ts yX11_setUnit cX11_setUnit 6 (some .int)) ({ frames := 7, cells := 1, slots := 6, locals := 163 } : Room) (some .int) Q) (CX : az_CX X ({ frames := 7, cells := 1, slots := 6, locals := 163 } : Room) Q Xs) : az_ok X 18 (LX11_setUnit_18 Q Xs) := by
  have h18 := az_throw (cls := "java/lang/IndexOutOfBoundsException") (names := ["java/lang/RuntimeException", "java/lang/Exception"]) C CX (by decide +kernel) (by decide +kernel) thkRX11_93 thi_IndexOutOfBoundsException thaRX11_95 thgRX11_95 dX11_setUnit_18 dX11_setUnit_21 dX11_setUnit_22 dX11_setUnit_25 ⟨by decide, by decide, by decide, by decide⟩
  exact h18
def LX11_setUnit_118 (Q : Option Value → az_M → Prop) (Xs : String → az_M → Prop) : az_T := (s_li 5 (s_ri Q))
theorem okLX11_setUnit_118 {X : az_X} {Q : Option Value → az_M → Prop} {Xs : String → az_M → Prop} (C : az_C X cX11_setUnit 6 RX11 (az_ts yX11_setUnit cX11_setUnit 6 (some .int)) ({ frames := 7, cells := 1, slots := 6, locals := 163 } : Room) (some .int) Q) (CX : az_CX X ({ frames := 7, cells := 1, slots := 6, locals := 163 } : Room) Q Xs) : az_ok X 118 (LX11_setUnit_118 Q Xs) := by
  have h120 := az_ireturn C rfl dX11_setUnit_120
  have h118 := az_iload C dX11_setUnit_118 h120
  exact h118
def LX11_setUnit_93 (Q : Option Value → az_M → Prop) (Xs : String → az_M → Prop) : az_T := (s_li 2 (s_ic (nI 6) (s_if2 d_ne (s_kp [false, false, false, false, false, true] (LX11_setUnit_118 Q Xs)) (s_li 3 (s_if c_le (s_kp [false, false, false, false, false, true] (LX11_setUnit_118 Q Xs)) (s_li 5 (s_if c_ge (s_kp [false, false, false, false, false, true] (LX11_setUnit_118 Q Xs)) (s_la 4 (s_ic (nI 7) (s_la 4 (s_ic (nI 9) (s_al 20 (s_as (s_kp [false, false, false, false, false, true] (LX11_setUnit_118 Q Xs)))))))))))))))
theorem okLX11_setUnit_93 {X : az_X} {Q : Option Value → az_M → Prop} {Xs : String → az_M → Prop} (C : az_C X cX11_setUnit 6 RX11 (az_ts yX11_setUnit cX11_setUnit 6 (some .int)) ({ frames := 7, cells := 1, slots := 6, locals := 163 } : Room) (some .int) Q) (CX : az_CX X ({ frames := 7, cells := 1, slots := 6, locals := 163 } : Room) Q Xs) : az_ok X 93 (LX11_setUnit_93 Q Xs) := by
  have h117 := az_iast C dX11_setUnit_117 (az_keep [false, false, false, false, false, true] (okLX11_setUnit_118 C CX))
  have h116 := az_iald C dX11_setUnit_116 h117
  have h114 := az_bipush (x := (nI 9)) C dX11_setUnit_114 (by decide +kernel) h116
  have h112 := az_aload C dX11_setUnit_112 h114
  have h110 := az_bipush (x := (nI 7)) C dX11_setUnit_110 (by decide +kernel) h112
  have h108 := az_aload C dX11_setUnit_108 h110
  have h105 := az_if_ge (tgt := 118) C dX11_setUnit_105 (by decide) (az_keep [false, false, false, false, false, true] (okLX11_setUnit_118 C CX)) h108
  have h103 := az_iload C dX11_setUnit_103 h105
  have h100 := az_if_le (tgt := 118) C dX11_setUnit_100 (by decide) (az_keep [false, false, false, false, false, true] (okLX11_setUnit_118 C CX)) h103
  have h99 := az_iload_n C 3 rfl dX11_setUnit_99 h100
  have h96 := az_icmp_ne (tgt := 118) C dX11_setUnit_96 (by decide) (az_keep [false, false, false, false, false, true] (okLX11_setUnit_118 C CX)) h99
  have h94 := az_bipush (x := (nI 6)) C dX11_setUnit_94 (by decide +kernel) h96
  have h93 := az_iload_n C 2 rfl dX11_setUnit_93 h94
  exact h93
def PX11_setUnit (Q : Option Value → az_M → Prop) (Xs : String → az_M → Prop) : az_T := (s_la 0 (s_li 1 (s_cv 1 12 FX11_isUnit (s_if c_eq (s_kp [false, false, false, false, false, false] (LX11_setUnit_18 Q Xs)) (s_li 2 (s_ic (nI 0) (s_ic (nI 7) (s_cs 3 FX11_within (s_if c_ne (s_la 0 (s_gr 12 0 (s_gr 9 5 (s_li 1 (s_aa 25 (s_li 2 (s_li 3 (s_cs 3 FX11_fitsTerm (s_if c_ne (s_la 0 (s_cv 0 12 FX11_beginChange (s_la 0 (s_gr 12 0 (s_gr 9 5 (s_li 1 (s_aa 25 (s_sa 4 (s_la 4 (s_li 2 (s_al 20 (s_si 5 (s_la 4 (s_li 2 (s_li 3 (s_as (s_li 2 (s_ic (nI 6) (s_if2 d_ne (s_kp [false, false, true, true, true, true] (LX11_setUnit_93 Q Xs)) (s_li 3 (s_if c_ge (s_kp [false, false, true, true, true, true] (LX11_setUnit_93 Q Xs)) (s_la 4 (s_ic (nI 7) (s_ic (nI 0) (s_as (s_kp [false, false, true, true, true, true] (LX11_setUnit_93 Q Xs))))))))))))))))))))))))))) (s_thr "java/lang/IllegalArgumentException" Xs)))))))))) (s_kp [false, false, false, false, false, false] (LX11_setUnit_18 Q Xs)))))))))))
def FX11_setUnit : az_FX := az_funX [true, false, false, false] 6 PX11_setUnit
theorem okX11_setUnit (l : Launch) (hlt : l.stackTraces = false) : az_metX l yX11_setUnit cX11_setUnit 6 (some .int) ({ frames := 7, cells := 1, slots := 6, locals := 163 } : Room) FX11_setUnit := az_metX_of (own := RX11) (by decide +kernel) rfl (by decide) (fun X Q Xs C CX => by
  have h92 := az_iast C dX11_setUnit_92 (az_keep [false, false, true, true, true, true] (okLX11_setUnit_93 C CX))
  have h91 := az_iconst (x := (nI 0)) C dX11_setUnit_91 (by decide +kernel) h92
  have h89 := az_bipush (x := (nI 7)) C dX11_setUnit_89 (by decide +kernel) h91
  have h87 := az_aload C dX11_setUnit_87 h89
  have h84 := az_if_ge (tgt := 93) C dX11_setUnit_84 (by decide) (az_keep [false, false, true, true, true, true] (okLX11_setUnit_93 C CX)) h87
  have h83 := az_iload_n C 3 rfl dX11_setUnit_83 h84
  have h80 := az_icmp_ne (tgt := 93) C dX11_setUnit_80 (by decide) (az_keep [false, false, true, true, true, true] (okLX11_setUnit_93 C CX)) h83
  have h78 := az_bipush (x := (nI 6)) C dX11_setUnit_78 (by decide +kernel) h80
  have h77 := az_iload_n C 2 rfl dX11_setUnit_77 h78
  have h76 := az_iast C dX11_setUnit_76 h77
  have h75 := az_iload_n C 3 rfl dX11_setUnit_75 h76
  have h74 := az_iload_n C 2 rfl dX11_setUnit_74 h75
  have h72 := az_aload C dX11_setUnit_72 h74
  have h70 := az_istore C (by decide) dX11_setUnit_70 h72
  have h69 := az_iald C dX11_setUnit_69 h70
  have h68 := az_iload_n C 2 rfl dX11_setUnit_68 h69
  have h66 := az_aload C dX11_setUnit_66 h68
  have h64 := az_astore C (by decide) dX11_setUnit_64 h66
  have h63 := az_aald2 C dX11_setUnit_63 h64
  have h62 := az_iload_n C 1 rfl dX11_setUnit_62 h63
  have h59 := az_getR (T := TX8) (N := 11) (j := 5) C gwRX8 rfl (by decide) (by decide) iIRX8_5 mFRX11_129 rfl dX11_setUnit_59 h62
  have h56 := az_getR (T := TX11) (N := 10) (j := 0) C gwRX11 rfl (by decide) (by decide) iIRX11_0 mFRX11_10 rfl dX11_setUnit_56 h59
  have h55 := az_aload_n C 0 rfl dX11_setUnit_55 h56
  have h52 := az_callV (ci := 12) C okX11_beginChange knX11_beginChange imX11_beginChange seX11_beginChange mLRX11_96 rfl (by decide) ⟨rfl, rfl, by decide, by decide⟩ dX11_setUnit_52 h55
  have h51 := az_aload_n C 0 rfl dX11_setUnit_51 h52
  have h43 := az_throw (cls := "java/lang/IllegalArgumentException") (names := ["java/lang/RuntimeException", "java/lang/Exception"]) C CX (by decide +kernel) (by decide +kernel) thkRX11_72 thi_IllegalArgumentException thaRX11_74 thgRX11_74 dX11_setUnit_43 dX11_setUnit_46 dX11_setUnit_47 dX11_setUnit_50 ⟨by decide, by decide, by decide, by decide⟩
  have h40 := az_if_ne (tgt := 51) C dX11_setUnit_40 (by decide) h51 h43
  have h37 := az_callS C okX11_fitsTerm knX11_fitsTerm stX11_fitsTerm mLRX11_132 ⟨rfl, rfl, by decide, by decide⟩ dX11_setUnit_37 h40
  have h36 := az_iload_n C 3 rfl dX11_setUnit_36 h37
  have h35 := az_iload_n C 2 rfl dX11_setUnit_35 h36
  have h34 := az_aald2 C dX11_setUnit_34 h35
  have h33 := az_iload_n C 1 rfl dX11_setUnit_33 h34
  have h30 := az_getR (T := TX8) (N := 11) (j := 5) C gwRX8 rfl (by decide) (by decide) iIRX8_5 mFRX11_129 rfl dX11_setUnit_30 h33
  have h27 := az_getR (T := TX11) (N := 10) (j := 0) C gwRX11 rfl (by decide) (by decide) iIRX11_0 mFRX11_10 rfl dX11_setUnit_27 h30
  have h26 := az_aload_n C 0 rfl dX11_setUnit_26 h27
  have h15 := az_if_ne (tgt := 26) C dX11_setUnit_15 (by decide) h26 (az_keep [false, false, false, false, false, false] (okLX11_setUnit_18 C CX))
  have h12 := az_callS C okX11_within knX11_within stX11_within mLRX11_68 ⟨rfl, rfl, by decide, by decide⟩ dX11_setUnit_12 h15
  have h10 := az_bipush (x := (nI 7)) C dX11_setUnit_10 (by decide +kernel) h12
  have h9 := az_iconst (x := (nI 0)) C dX11_setUnit_9 (by decide +kernel) h10
  have h8 := az_iload_n C 2 rfl dX11_setUnit_8 h9
  have h5 := az_if_eq (tgt := 18) C dX11_setUnit_5 (by decide) (az_keep [false, false, false, false, false, false] (okLX11_setUnit_18 C CX)) h8
  have h2 := az_callV (ci := 12) C okX11_isUnit knX11_isUnit imX11_isUnit seX11_isUnit mLRX11_126 rfl (by decide) ⟨rfl, rfl, by decide, by decide⟩ dX11_setUnit_2 h5
  have h1 := az_iload_n C 1 rfl dX11_setUnit_1 h2
  have h0 := az_aload_n C 0 rfl dX11_setUnit_0 h1
  exact h0) l hlt
theorem dX11_unit_0 : decode cX11_unit 0 = .ok (.aload_n 0, 1) := by decide +kernel
theorem dX11_unit_1 : decode cX11_unit 1 = .ok (.iload_n 1, 1) := by decide +kernel
theorem dX11_unit_2 : decode cX11_unit 2 = .ok (.invokevirtual 126, 3) := by decide +kernel
theorem dX11_unit_5 : decode cX11_unit 5 = .ok (.ifCond .ne 11, 3) := by decide +kernel
theorem dX11_unit_8 : decode cX11_unit 8 = .ok (.new 93, 3) := by decide +kernel
theorem dX11_unit_11 : decode cX11_unit 11 = .ok (.dup, 1) := by decide +kernel
theorem dX11_unit_12 : decode cX11_unit 12 = .ok (.invokespecial 95, 3) := by decide +kernel
theorem dX11_unit_15 : decode cX11_unit 15 = .ok (.athrow, 1) := by decide +kernel
theorem dX11_unit_16 : decode cX11_unit 16 = .ok (.iload_n 2, 1) := by decide +kernel
theorem dX11_unit_17 : decode cX11_unit 17 = .ok (.iconst 0, 1) := by decide +kernel
theorem dX11_unit_18 : decode cX11_unit 18 = .ok (.bipush 14, 2) := by decide +kernel
theorem dX11_unit_20 : decode cX11_unit 20 = .ok (.invokestatic 68, 3) := by decide +kernel
theorem dX11_unit_23 : decode cX11_unit 23 = .ok (.ifCond .ne 11, 3) := by decide +kernel
theorem dX11_unit_26 : decode cX11_unit 26 = .ok (.new 72, 3) := by decide +kernel
theorem dX11_unit_29 : decode cX11_unit 29 = .ok (.dup, 1) := by decide +kernel
theorem dX11_unit_30 : decode cX11_unit 30 = .ok (.invokespecial 74, 3) := by decide +kernel
theorem dX11_unit_33 : decode cX11_unit 33 = .ok (.athrow, 1) := by decide +kernel
theorem dX11_unit_34 : decode cX11_unit 34 = .ok (.iload_n 2, 1) := by decide +kernel
theorem dX11_unit_35 : decode cX11_unit 35 = .ok (.bipush 14, 2) := by decide +kernel
theorem dX11_unit_37 : decode cX11_unit 37 = .ok (.if_icmp .ge 15, 3) := by decide +kernel
theorem dX11_unit_40 : decode cX11_unit 40 = .ok (.aload_n 0, 1) := by decide +kernel
theorem dX11_unit_41 : decode cX11_unit 41 = .ok (.getfield 10, 3) := by decide +kernel
theorem dX11_unit_44 : decode cX11_unit 44 = .ok (.getfield 129, 3) := by decide +kernel
theorem dX11_unit_47 : decode cX11_unit 47 = .ok (.iload_n 1, 1) := by decide +kernel
theorem dX11_unit_48 : decode cX11_unit 48 = .ok (.aaload, 1) := by decide +kernel
theorem dX11_unit_49 : decode cX11_unit 49 = .ok (.iload_n 2, 1) := by decide +kernel
theorem dX11_unit_50 : decode cX11_unit 50 = .ok (.iaload, 1) := by decide +kernel
theorem dX11_unit_51 : decode cX11_unit 51 = .ok (.ireturn, 1) := by decide +kernel
theorem dX11_unit_52 : decode cX11_unit 52 = .ok (.aload_n 0, 1) := by decide +kernel
theorem dX11_unit_53 : decode cX11_unit 53 = .ok (.invokevirtual 136, 3) := by decide +kernel
theorem dX11_unit_56 : decode cX11_unit 56 = .ok (.aload_n 0, 1) := by decide +kernel
theorem dX11_unit_57 : decode cX11_unit 57 = .ok (.getfield 29, 3) := by decide +kernel
theorem dX11_unit_60 : decode cX11_unit 60 = .ok (.getfield 139, 3) := by decide +kernel
theorem dX11_unit_63 : decode cX11_unit 63 = .ok (.iload_n 1, 1) := by decide +kernel
theorem dX11_unit_64 : decode cX11_unit 64 = .ok (.aload_n 0, 1) := by decide +kernel
theorem dX11_unit_65 : decode cX11_unit 65 = .ok (.getfield 10, 3) := by decide +kernel
theorem dX11_unit_68 : decode cX11_unit 68 = .ok (.getfield 143, 3) := by decide +kernel
theorem dX11_unit_71 : decode cX11_unit 71 = .ok (.invokevirtual 146, 3) := by decide +kernel
theorem dX11_unit_74 : decode cX11_unit 74 = .ok (.ireturn, 1) := by decide +kernel
def PX11_unit (Q : Option Value → az_M → Prop) (Xs : String → az_M → Prop) : az_T := (s_la 0 (s_li 1 (s_cv 1 12 FX11_isUnit (s_if c_ne (s_li 2 (s_ic (nI 0) (s_ic (nI 14) (s_cs 3 FX11_within (s_if c_ne (s_li 2 (s_ic (nI 14) (s_if2 d_ge (s_la 0 (s_cv 0 12 FX11_refresh (s_la 0 (s_gr 12 3 (s_gr 6 1 (s_li 1 (s_la 0 (s_gr 12 0 (s_gi 9 0 (s_cv 2 10 FX9_hoursRun (s_ri Q))))))))))) (s_la 0 (s_gr 12 0 (s_gr 9 5 (s_li 1 (s_aa 25 (s_li 2 (s_al 20 (s_ri Q))))))))))) (s_thr "java/lang/IllegalArgumentException" Xs)))))) (s_thr "java/lang/IndexOutOfBoundsException" Xs)))))
def FX11_unit : az_FX := az_funX [true, false, false] 3 PX11_unit
theorem okX11_unit (l : Launch) (hlt : l.stackTraces = false) : az_metX l yX11_unit cX11_unit 3 (some .int) ({ frames := 7, cells := 1, slots := 6, locals := 252 } : Room) FX11_unit := az_metX_of (own := RX11) (by decide +kernel) rfl (by decide) (fun X Q Xs C CX => by
  have h74 := az_ireturn C rfl dX11_unit_74
  have h71 := az_callVN (ci := 10) C okX9_hoursRun knX9_hoursRun imX9_hoursRun seX9_hoursRun mNRX11_146 rfl (by decide) ⟨rfl, rfl, by decide, by decide⟩ dX11_unit_71 h74
  have h68 := az_getI (T := TX8) (N := 11) (j := 0) C gwRX8 rfl (by decide) (by decide) iIRX8_0 mFRX11_143 rfl dX11_unit_68 h71
  have h65 := az_getR (T := TX11) (N := 10) (j := 0) C gwRX11 rfl (by decide) (by decide) iIRX11_0 mFRX11_10 rfl dX11_unit_65 h68
  have h64 := az_aload_n C 0 rfl dX11_unit_64 h65
  have h63 := az_iload_n C 1 rfl dX11_unit_63 h64
  have h60 := az_getR (T := TX4) (N := 10) (j := 1) C gwRX4 rfl (by decide) (by decide) iIRX4_1 mFRX11_139 rfl dX11_unit_60 h63
  have h57 := az_getR (T := TX11) (N := 10) (j := 3) C gwRX11 rfl (by decide) (by decide) iIRX11_3 mFRX11_29 rfl dX11_unit_57 h60
  have h56 := az_aload_n C 0 rfl dX11_unit_56 h57
  have h53 := az_callV (ci := 12) C okX11_refresh knX11_refresh imX11_refresh seX11_refresh mLRX11_136 rfl (by decide) ⟨rfl, rfl, by decide, by decide⟩ dX11_unit_53 h56
  have h52 := az_aload_n C 0 rfl dX11_unit_52 h53
  have h51 := az_ireturn C rfl dX11_unit_51
  have h50 := az_iald C dX11_unit_50 h51
  have h49 := az_iload_n C 2 rfl dX11_unit_49 h50
  have h48 := az_aald2 C dX11_unit_48 h49
  have h47 := az_iload_n C 1 rfl dX11_unit_47 h48
  have h44 := az_getR (T := TX8) (N := 11) (j := 5) C gwRX8 rfl (by decide) (by decide) iIRX8_5 mFRX11_129 rfl dX11_unit_44 h47
  have h41 := az_getR (T := TX11) (N := 10) (j := 0) C gwRX11 rfl (by decide) (by decide) iIRX11_0 mFRX11_10 rfl dX11_unit_41 h44
  have h40 := az_aload_n C 0 rfl dX11_unit_40 h41
  have h37 := az_icmp_ge (tgt := 52) C dX11_unit_37 (by decide) h52 h40
  have h35 := az_bipush (x := (nI 14)) C dX11_unit_35 (by decide +kernel) h37
  have h34 := az_iload_n C 2 rfl dX11_unit_34 h35
  have h26 := az_throw (cls := "java/lang/IllegalArgumentException") (names := ["java/lang/RuntimeException", "java/lang/Exception"]) C CX (by decide +kernel) (by decide +kernel) thkRX11_72 thi_IllegalArgumentException thaRX11_74 thgRX11_74 dX11_unit_26 dX11_unit_29 dX11_unit_30 dX11_unit_33 ⟨by decide, by decide, by decide, by decide⟩
  have h23 := az_if_ne (tgt := 34) C dX11_unit_23 (by decide) h34 h26
  have h20 := az_callS C okX11_within knX11_within stX11_within mLRX11_68 ⟨rfl, rfl, by decide, by decide⟩ dX11_unit_20 h23
  have h18 := az_bipush (x := (nI 14)) C dX11_unit_18 (by decide +kernel) h20
  have h17 := az_iconst (x := (nI 0)) C dX11_unit_17 (by decide +kernel) h18
  have h16 := az_iload_n C 2 rfl dX11_unit_16 h17
  have h8 := az_throw (cls := "java/lang/IndexOutOfBoundsException") (names := ["java/lang/RuntimeException", "java/lang/Exception"]) C CX (by decide +kernel) (by decide +kernel) thkRX11_93 thi_IndexOutOfBoundsException thaRX11_95 thgRX11_95 dX11_unit_8 dX11_unit_11 dX11_unit_12 dX11_unit_15 ⟨by decide, by decide, by decide, by decide⟩
  have h5 := az_if_ne (tgt := 16) C dX11_unit_5 (by decide) h16 h8
  have h2 := az_callV (ci := 12) C okX11_isUnit knX11_isUnit imX11_isUnit seX11_isUnit mLRX11_126 rfl (by decide) ⟨rfl, rfl, by decide, by decide⟩ dX11_unit_2 h5
  have h1 := az_iload_n C 1 rfl dX11_unit_1 h2
  have h0 := az_aload_n C 0 rfl dX11_unit_0 h1
  exact h0) l hlt
theorem dX11_commit_0 : decode cX11_commit 0 = .ok (.aload_n 0, 1) := by decide +kernel
theorem dX11_commit_1 : decode cX11_commit 1 = .ok (.iload_n 1, 1) := by decide +kernel
theorem dX11_commit_2 : decode cX11_commit 2 = .ok (.invokevirtual 126, 3) := by decide +kernel
theorem dX11_commit_5 : decode cX11_commit 5 = .ok (.ifCond .eq 19, 3) := by decide +kernel
theorem dX11_commit_8 : decode cX11_commit 8 = .ok (.aload_n 0, 1) := by decide +kernel
theorem dX11_commit_9 : decode cX11_commit 9 = .ok (.iload_n 2, 1) := by decide +kernel
theorem dX11_commit_10 : decode cX11_commit 10 = .ok (.invokevirtual 90, 3) := by decide +kernel
theorem dX11_commit_13 : decode cX11_commit 13 = .ok (.ifCond .eq 11, 3) := by decide +kernel
theorem dX11_commit_16 : decode cX11_commit 16 = .ok (.aload_n 0, 1) := by decide +kernel
theorem dX11_commit_17 : decode cX11_commit 17 = .ok (.iload_n 3, 1) := by decide +kernel
theorem dX11_commit_18 : decode cX11_commit 18 = .ok (.invokevirtual 90, 3) := by decide +kernel
theorem dX11_commit_21 : decode cX11_commit 21 = .ok (.ifCond .ne 11, 3) := by decide +kernel
theorem dX11_commit_24 : decode cX11_commit 24 = .ok (.new 93, 3) := by decide +kernel
theorem dX11_commit_27 : decode cX11_commit 27 = .ok (.dup, 1) := by decide +kernel
theorem dX11_commit_28 : decode cX11_commit 28 = .ok (.invokespecial 95, 3) := by decide +kernel
theorem dX11_commit_31 : decode cX11_commit 31 = .ok (.athrow, 1) := by decide +kernel
theorem dX11_commit_32 : decode cX11_commit 32 = .ok (.iload_n 2, 1) := by decide +kernel
theorem dX11_commit_33 : decode cX11_commit 33 = .ok (.iload_n 3, 1) := by decide +kernel
theorem dX11_commit_34 : decode cX11_commit 34 = .ok (.if_icmp .le 11, 3) := by decide +kernel
theorem dX11_commit_37 : decode cX11_commit 37 = .ok (.new 72, 3) := by decide +kernel
theorem dX11_commit_40 : decode cX11_commit 40 = .ok (.dup, 1) := by decide +kernel
theorem dX11_commit_41 : decode cX11_commit 41 = .ok (.invokespecial 74, 3) := by decide +kernel
theorem dX11_commit_44 : decode cX11_commit 44 = .ok (.athrow, 1) := by decide +kernel
theorem dX11_commit_45 : decode cX11_commit 45 = .ok (.aload_n 0, 1) := by decide +kernel
theorem dX11_commit_46 : decode cX11_commit 46 = .ok (.invokevirtual 96, 3) := by decide +kernel
theorem dX11_commit_49 : decode cX11_commit 49 = .ok (.iconst 1, 1) := by decide +kernel
theorem dX11_commit_50 : decode cX11_commit 50 = .ok (.iload_n 3, 1) := by decide +kernel
theorem dX11_commit_51 : decode cX11_commit 51 = .ok (.iconst 1, 1) := by decide +kernel
theorem dX11_commit_52 : decode cX11_commit 52 = .ok (.iadd, 1) := by decide +kernel
theorem dX11_commit_53 : decode cX11_commit 53 = .ok (.ishl, 1) := by decide +kernel
theorem dX11_commit_54 : decode cX11_commit 54 = .ok (.iconst 1, 1) := by decide +kernel
theorem dX11_commit_55 : decode cX11_commit 55 = .ok (.iload_n 2, 1) := by decide +kernel
theorem dX11_commit_56 : decode cX11_commit 56 = .ok (.ishl, 1) := by decide +kernel
theorem dX11_commit_57 : decode cX11_commit 57 = .ok (.isub, 1) := by decide +kernel
theorem dX11_commit_58 : decode cX11_commit 58 = .ok (.istore 5, 2) := by decide +kernel
theorem dX11_commit_60 : decode cX11_commit 60 = .ok (.aload_n 0, 1) := by decide +kernel
theorem dX11_commit_61 : decode cX11_commit 61 = .ok (.getfield 10, 3) := by decide +kernel
theorem dX11_commit_64 : decode cX11_commit 64 = .ok (.getfield 129, 3) := by decide +kernel
theorem dX11_commit_67 : decode cX11_commit 67 = .ok (.iload_n 1, 1) := by decide +kernel
theorem dX11_commit_68 : decode cX11_commit 68 = .ok (.aaload, 1) := by decide +kernel
theorem dX11_commit_69 : decode cX11_commit 69 = .ok (.bipush 13, 2) := by decide +kernel
theorem dX11_commit_71 : decode cX11_commit 71 = .ok (.iaload, 1) := by decide +kernel
theorem dX11_commit_72 : decode cX11_commit 72 = .ok (.istore 6, 2) := by decide +kernel
theorem dX11_commit_74 : decode cX11_commit 74 = .ok (.iload 4, 2) := by decide +kernel
theorem dX11_commit_76 : decode cX11_commit 76 = .ok (.ifCond .eq 11, 3) := by decide +kernel
theorem dX11_commit_79 : decode cX11_commit 79 = .ok (.iload 6, 2) := by decide +kernel
theorem dX11_commit_81 : decode cX11_commit 81 = .ok (.iload 5, 2) := by decide +kernel
theorem dX11_commit_83 : decode cX11_commit 83 = .ok (.ior, 1) := by decide +kernel
theorem dX11_commit_84 : decode cX11_commit 84 = .ok (.goto 10, 3) := by decide +kernel
theorem dX11_commit_87 : decode cX11_commit 87 = .ok (.iload 6, 2) := by decide +kernel
theorem dX11_commit_89 : decode cX11_commit 89 = .ok (.iload 5, 2) := by decide +kernel
theorem dX11_commit_91 : decode cX11_commit 91 = .ok (.iconst (-1), 1) := by decide +kernel
theorem dX11_commit_92 : decode cX11_commit 92 = .ok (.ixor, 1) := by decide +kernel
theorem dX11_commit_93 : decode cX11_commit 93 = .ok (.iand, 1) := by decide +kernel
theorem dX11_commit_94 : decode cX11_commit 94 = .ok (.istore 7, 2) := by decide +kernel
theorem dX11_commit_96 : decode cX11_commit 96 = .ok (.aload_n 0, 1) := by decide +kernel
theorem dX11_commit_97 : decode cX11_commit 97 = .ok (.getfield 10, 3) := by decide +kernel
theorem dX11_commit_100 : decode cX11_commit 100 = .ok (.getfield 129, 3) := by decide +kernel
theorem dX11_commit_103 : decode cX11_commit 103 = .ok (.iload_n 1, 1) := by decide +kernel
theorem dX11_commit_104 : decode cX11_commit 104 = .ok (.aaload, 1) := by decide +kernel
theorem dX11_commit_105 : decode cX11_commit 105 = .ok (.bipush 13, 2) := by decide +kernel
theorem dX11_commit_107 : decode cX11_commit 107 = .ok (.iload 7, 2) := by decide +kernel
theorem dX11_commit_109 : decode cX11_commit 109 = .ok (.iastore, 1) := by decide +kernel
theorem dX11_commit_110 : decode cX11_commit 110 = .ok (.iload 6, 2) := by decide +kernel
theorem dX11_commit_112 : decode cX11_commit 112 = .ok (.iload 7, 2) := by decide +kernel
theorem dX11_commit_114 : decode cX11_commit 114 = .ok (.ixor, 1) := by decide +kernel
theorem dX11_commit_115 : decode cX11_commit 115 = .ok (.invokestatic 151, 3) := by decide +kernel
theorem dX11_commit_118 : decode cX11_commit 118 = .ok (.ireturn, 1) := by decide +kernel
def LX11_commit_24 (Q : Option Value → az_M → Prop) (Xs : String → az_M → Prop) : az_T := (s_thr "java/lang/IndexOutOfBoundsException" Xs)
theorem okLX11_commit_24 {X : az_X} {Q : Option Value → az_M → Prop} {Xs : String → az_M → Prop} (C : az_C X cX11_commit 8 RX11 (az_ts yX11_commit cX11_commit 8 (some .int)) ({ frames := 7, cells := 1, slots := 6, locals := 163 } : Room) (some .int) Q) (CX : az_CX X ({ frames := 7, cells := 1, slots := 6, locals := 163 } : Room) Q Xs) : az_ok X 24 (LX11_commit_24 Q Xs) := by
  have h24 := az_throw (cls := "java/lang/IndexOutOfBoundsException") (names := ["java/lang/RuntimeException", "java/lang/Exception"]) C CX (by decide +kernel) (by decide +kernel) thkRX11_93 thi_IndexOutOfBoundsException thaRX11_95 thgRX11_95 dX11_commit_24 dX11_commit_27 dX11_commit_28 dX11_commit_31 ⟨by decide, by decide, by decide, by decide⟩
  exact h24
def LX11_commit_94 (Q : Option Value → az_M → Prop) (Xs : String → az_M → Prop) : az_T := (s_si 7 (s_la 0 (s_gr 12 0 (s_gr 9 5 (s_li 1 (s_aa 25 (s_ic (nI 13) (s_li 7 (s_as (s_li 6 (s_li 7 (s_bin f_xor (s_cs 1 FJ6_bitCount_0f7a4 (s_ri Q))))))))))))))
theorem okLX11_commit_94 {X : az_X} {Q : Option Value → az_M → Prop} {Xs : String → az_M → Prop} (C : az_C X cX11_commit 8 RX11 (az_ts yX11_commit cX11_commit 8 (some .int)) ({ frames := 7, cells := 1, slots := 6, locals := 163 } : Room) (some .int) Q) (CX : az_CX X ({ frames := 7, cells := 1, slots := 6, locals := 163 } : Room) Q Xs) : az_ok X 94 (LX11_commit_94 Q Xs) := by
  have h118 := az_ireturn C rfl dX11_commit_118
  have h115 := az_callS C okJ6_bitCount_0f7a4 knJ6_bitCount_0f7a4 stJ6_bitCount_0f7a4 mLRX11_151 ⟨rfl, rfl, by decide, by decide⟩ dX11_commit_115 h118
  have h114 := az_ixor C dX11_commit_114 h115
  have h112 := az_iload C dX11_commit_112 h114
  have h110 := az_iload C dX11_commit_110 h112
  have h109 := az_iast C dX11_commit_109 h110
  have h107 := az_iload C dX11_commit_107 h109
  have h105 := az_bipush (x := (nI 13)) C dX11_commit_105 (by decide +kernel) h107
  have h104 := az_aald2 C dX11_commit_104 h105
  have h103 := az_iload_n C 1 rfl dX11_commit_103 h104
  have h100 := az_getR (T := TX8) (N := 11) (j := 5) C gwRX8 rfl (by decide) (by decide) iIRX8_5 mFRX11_129 rfl dX11_commit_100 h103
  have h97 := az_getR (T := TX11) (N := 10) (j := 0) C gwRX11 rfl (by decide) (by decide) iIRX11_0 mFRX11_10 rfl dX11_commit_97 h100
  have h96 := az_aload_n C 0 rfl dX11_commit_96 h97
  have h94 := az_istore C (by decide) dX11_commit_94 h96
  exact h94
def PX11_commit (Q : Option Value → az_M → Prop) (Xs : String → az_M → Prop) : az_T := (s_la 0 (s_li 1 (s_cv 1 12 FX11_isUnit (s_if c_eq (s_kp [false, false, false, false, false, false, false, false] (LX11_commit_24 Q Xs)) (s_la 0 (s_li 2 (s_cv 1 12 FX11_isHour (s_if c_eq (s_kp [false, false, false, false, false, false, false, false] (LX11_commit_24 Q Xs)) (s_la 0 (s_li 3 (s_cv 1 12 FX11_isHour (s_if c_ne (s_li 2 (s_li 3 (s_if2 d_le (s_la 0 (s_cv 0 12 FX11_beginChange (s_ic (nI 1) (s_li 3 (s_ic (nI 1) (s_bin f_add (s_bin f_shl (s_ic (nI 1) (s_li 2 (s_bin f_shl (s_bin f_sub (s_si 5 (s_la 0 (s_gr 12 0 (s_gr 9 5 (s_li 1 (s_aa 25 (s_ic (nI 13) (s_al 20 (s_si 6 (s_li 4 (s_if c_eq (s_li 6 (s_li 5 (s_ic (-1) (s_bin f_xor (s_bin f_and (s_kp [true, true, false, false, false, false, true, false] (LX11_commit_94 Q Xs))))))) (s_li 6 (s_li 5 (s_bin f_or (s_kp [true, true, false, false, false, false, true, false] (LX11_commit_94 Q Xs))))))))))))))))))))))))))) (s_thr "java/lang/IllegalArgumentException" Xs)))) (s_kp [false, false, false, false, false, false, false, false] (LX11_commit_24 Q Xs))))))))))))))
def FX11_commit : az_FX := az_funX [true, false, false, false, false] 8 PX11_commit
theorem okX11_commit (l : Launch) (hlt : l.stackTraces = false) : az_metX l yX11_commit cX11_commit 8 (some .int) ({ frames := 7, cells := 1, slots := 6, locals := 163 } : Room) FX11_commit := az_metX_of (own := RX11) (by decide +kernel) rfl (by decide) (fun X Q Xs C CX => by
  have h93 := az_iand C dX11_commit_93 (az_keep [true, true, false, false, false, false, true, false] (okLX11_commit_94 C CX))
  have h92 := az_ixor C dX11_commit_92 h93
  have h91 := az_iconst (x := (-1)) C dX11_commit_91 (by decide +kernel) h92
  have h89 := az_iload C dX11_commit_89 h91
  have h87 := az_iload C dX11_commit_87 h89
  have h84 := az_goto (tgt := 94) C dX11_commit_84 (by decide) (az_keep [true, true, false, false, false, false, true, false] (okLX11_commit_94 C CX))
  have h83 := az_ior C dX11_commit_83 h84
  have h81 := az_iload C dX11_commit_81 h83
  have h79 := az_iload C dX11_commit_79 h81
  have h76 := az_if_eq (tgt := 87) C dX11_commit_76 (by decide) h87 h79
  have h74 := az_iload C dX11_commit_74 h76
  have h72 := az_istore C (by decide) dX11_commit_72 h74
  have h71 := az_iald C dX11_commit_71 h72
  have h69 := az_bipush (x := (nI 13)) C dX11_commit_69 (by decide +kernel) h71
  have h68 := az_aald2 C dX11_commit_68 h69
  have h67 := az_iload_n C 1 rfl dX11_commit_67 h68
  have h64 := az_getR (T := TX8) (N := 11) (j := 5) C gwRX8 rfl (by decide) (by decide) iIRX8_5 mFRX11_129 rfl dX11_commit_64 h67
  have h61 := az_getR (T := TX11) (N := 10) (j := 0) C gwRX11 rfl (by decide) (by decide) iIRX11_0 mFRX11_10 rfl dX11_commit_61 h64
  have h60 := az_aload_n C 0 rfl dX11_commit_60 h61
  have h58 := az_istore C (by decide) dX11_commit_58 h60
  have h57 := az_isub C dX11_commit_57 h58
  have h56 := az_ishl C dX11_commit_56 h57
  have h55 := az_iload_n C 2 rfl dX11_commit_55 h56
  have h54 := az_iconst (x := (nI 1)) C dX11_commit_54 (by decide +kernel) h55
  have h53 := az_ishl C dX11_commit_53 h54
  have h52 := az_iadd C dX11_commit_52 h53
  have h51 := az_iconst (x := (nI 1)) C dX11_commit_51 (by decide +kernel) h52
  have h50 := az_iload_n C 3 rfl dX11_commit_50 h51
  have h49 := az_iconst (x := (nI 1)) C dX11_commit_49 (by decide +kernel) h50
  have h46 := az_callV (ci := 12) C okX11_beginChange knX11_beginChange imX11_beginChange seX11_beginChange mLRX11_96 rfl (by decide) ⟨rfl, rfl, by decide, by decide⟩ dX11_commit_46 h49
  have h45 := az_aload_n C 0 rfl dX11_commit_45 h46
  have h37 := az_throw (cls := "java/lang/IllegalArgumentException") (names := ["java/lang/RuntimeException", "java/lang/Exception"]) C CX (by decide +kernel) (by decide +kernel) thkRX11_72 thi_IllegalArgumentException thaRX11_74 thgRX11_74 dX11_commit_37 dX11_commit_40 dX11_commit_41 dX11_commit_44 ⟨by decide, by decide, by decide, by decide⟩
  have h34 := az_icmp_le (tgt := 45) C dX11_commit_34 (by decide) h45 h37
  have h33 := az_iload_n C 3 rfl dX11_commit_33 h34
  have h32 := az_iload_n C 2 rfl dX11_commit_32 h33
  have h21 := az_if_ne (tgt := 32) C dX11_commit_21 (by decide) h32 (az_keep [false, false, false, false, false, false, false, false] (okLX11_commit_24 C CX))
  have h18 := az_callV (ci := 12) C okX11_isHour knX11_isHour imX11_isHour seX11_isHour mLRX11_90 rfl (by decide) ⟨rfl, rfl, by decide, by decide⟩ dX11_commit_18 h21
  have h17 := az_iload_n C 3 rfl dX11_commit_17 h18
  have h16 := az_aload_n C 0 rfl dX11_commit_16 h17
  have h13 := az_if_eq (tgt := 24) C dX11_commit_13 (by decide) (az_keep [false, false, false, false, false, false, false, false] (okLX11_commit_24 C CX)) h16
  have h10 := az_callV (ci := 12) C okX11_isHour knX11_isHour imX11_isHour seX11_isHour mLRX11_90 rfl (by decide) ⟨rfl, rfl, by decide, by decide⟩ dX11_commit_10 h13
  have h9 := az_iload_n C 2 rfl dX11_commit_9 h10
  have h8 := az_aload_n C 0 rfl dX11_commit_8 h9
  have h5 := az_if_eq (tgt := 24) C dX11_commit_5 (by decide) (az_keep [false, false, false, false, false, false, false, false] (okLX11_commit_24 C CX)) h8
  have h2 := az_callV (ci := 12) C okX11_isUnit knX11_isUnit imX11_isUnit seX11_isUnit mLRX11_126 rfl (by decide) ⟨rfl, rfl, by decide, by decide⟩ dX11_commit_2 h5
  have h1 := az_iload_n C 1 rfl dX11_commit_1 h2
  have h0 := az_aload_n C 0 rfl dX11_commit_0 h1
  exact h0) l hlt
theorem dX11_addOutage_0 : decode cX11_addOutage 0 = .ok (.aload_n 0, 1) := by decide +kernel
theorem dX11_addOutage_1 : decode cX11_addOutage 1 = .ok (.iload_n 1, 1) := by decide +kernel
theorem dX11_addOutage_2 : decode cX11_addOutage 2 = .ok (.invokevirtual 126, 3) := by decide +kernel
theorem dX11_addOutage_5 : decode cX11_addOutage 5 = .ok (.ifCond .eq 11, 3) := by decide +kernel
theorem dX11_addOutage_8 : decode cX11_addOutage 8 = .ok (.aload_n 0, 1) := by decide +kernel
theorem dX11_addOutage_9 : decode cX11_addOutage 9 = .ok (.iload_n 2, 1) := by decide +kernel
theorem dX11_addOutage_10 : decode cX11_addOutage 10 = .ok (.invokevirtual 90, 3) := by decide +kernel
theorem dX11_addOutage_13 : decode cX11_addOutage 13 = .ok (.ifCond .ne 11, 3) := by decide +kernel
theorem dX11_addOutage_16 : decode cX11_addOutage 16 = .ok (.new 93, 3) := by decide +kernel
theorem dX11_addOutage_19 : decode cX11_addOutage 19 = .ok (.dup, 1) := by decide +kernel
theorem dX11_addOutage_20 : decode cX11_addOutage 20 = .ok (.invokespecial 95, 3) := by decide +kernel
theorem dX11_addOutage_23 : decode cX11_addOutage 23 = .ok (.athrow, 1) := by decide +kernel
theorem dX11_addOutage_24 : decode cX11_addOutage 24 = .ok (.iload_n 3, 1) := by decide +kernel
theorem dX11_addOutage_25 : decode cX11_addOutage 25 = .ok (.iconst 1, 1) := by decide +kernel
theorem dX11_addOutage_26 : decode cX11_addOutage 26 = .ok (.bipush 24, 2) := by decide +kernel
theorem dX11_addOutage_28 : decode cX11_addOutage 28 = .ok (.invokestatic 68, 3) := by decide +kernel
theorem dX11_addOutage_31 : decode cX11_addOutage 31 = .ok (.ifCond .ne 11, 3) := by decide +kernel
theorem dX11_addOutage_34 : decode cX11_addOutage 34 = .ok (.new 72, 3) := by decide +kernel
theorem dX11_addOutage_37 : decode cX11_addOutage 37 = .ok (.dup, 1) := by decide +kernel
theorem dX11_addOutage_38 : decode cX11_addOutage 38 = .ok (.invokespecial 74, 3) := by decide +kernel
theorem dX11_addOutage_41 : decode cX11_addOutage 41 = .ok (.athrow, 1) := by decide +kernel
theorem dX11_addOutage_42 : decode cX11_addOutage 42 = .ok (.aload_n 0, 1) := by decide +kernel
theorem dX11_addOutage_43 : decode cX11_addOutage 43 = .ok (.getfield 10, 3) := by decide +kernel
theorem dX11_addOutage_46 : decode cX11_addOutage 46 = .ok (.getfield 157, 3) := by decide +kernel
theorem dX11_addOutage_49 : decode cX11_addOutage 49 = .ok (.bipush 6, 2) := by decide +kernel
theorem dX11_addOutage_51 : decode cX11_addOutage 51 = .ok (.if_icmp .lt 11, 3) := by decide +kernel
theorem dX11_addOutage_54 : decode cX11_addOutage 54 = .ok (.new 119, 3) := by decide +kernel
theorem dX11_addOutage_57 : decode cX11_addOutage 57 = .ok (.dup, 1) := by decide +kernel
theorem dX11_addOutage_58 : decode cX11_addOutage 58 = .ok (.invokespecial 121, 3) := by decide +kernel
theorem dX11_addOutage_61 : decode cX11_addOutage 61 = .ok (.athrow, 1) := by decide +kernel
theorem dX11_addOutage_62 : decode cX11_addOutage 62 = .ok (.aload_n 0, 1) := by decide +kernel
theorem dX11_addOutage_63 : decode cX11_addOutage 63 = .ok (.invokevirtual 96, 3) := by decide +kernel
theorem dX11_addOutage_66 : decode cX11_addOutage 66 = .ok (.aload_n 0, 1) := by decide +kernel
theorem dX11_addOutage_67 : decode cX11_addOutage 67 = .ok (.getfield 10, 3) := by decide +kernel
theorem dX11_addOutage_70 : decode cX11_addOutage 70 = .ok (.getfield 157, 3) := by decide +kernel
theorem dX11_addOutage_73 : decode cX11_addOutage 73 = .ok (.istore 4, 2) := by decide +kernel
theorem dX11_addOutage_75 : decode cX11_addOutage 75 = .ok (.aload_n 0, 1) := by decide +kernel
theorem dX11_addOutage_76 : decode cX11_addOutage 76 = .ok (.getfield 10, 3) := by decide +kernel
theorem dX11_addOutage_79 : decode cX11_addOutage 79 = .ok (.dup, 1) := by decide +kernel
theorem dX11_addOutage_80 : decode cX11_addOutage 80 = .ok (.getfield 157, 3) := by decide +kernel
theorem dX11_addOutage_83 : decode cX11_addOutage 83 = .ok (.iconst 1, 1) := by decide +kernel
theorem dX11_addOutage_84 : decode cX11_addOutage 84 = .ok (.iadd, 1) := by decide +kernel
theorem dX11_addOutage_85 : decode cX11_addOutage 85 = .ok (.putfield 157, 3) := by decide +kernel
theorem dX11_addOutage_88 : decode cX11_addOutage 88 = .ok (.aload_n 0, 1) := by decide +kernel
theorem dX11_addOutage_89 : decode cX11_addOutage 89 = .ok (.getfield 10, 3) := by decide +kernel
theorem dX11_addOutage_92 : decode cX11_addOutage 92 = .ok (.getfield 160, 3) := by decide +kernel
theorem dX11_addOutage_95 : decode cX11_addOutage 95 = .ok (.iload 4, 2) := by decide +kernel
theorem dX11_addOutage_97 : decode cX11_addOutage 97 = .ok (.aaload, 1) := by decide +kernel
theorem dX11_addOutage_98 : decode cX11_addOutage 98 = .ok (.iconst 0, 1) := by decide +kernel
theorem dX11_addOutage_99 : decode cX11_addOutage 99 = .ok (.iload_n 1, 1) := by decide +kernel
theorem dX11_addOutage_100 : decode cX11_addOutage 100 = .ok (.iastore, 1) := by decide +kernel
theorem dX11_addOutage_101 : decode cX11_addOutage 101 = .ok (.aload_n 0, 1) := by decide +kernel
theorem dX11_addOutage_102 : decode cX11_addOutage 102 = .ok (.getfield 10, 3) := by decide +kernel
theorem dX11_addOutage_105 : decode cX11_addOutage 105 = .ok (.getfield 160, 3) := by decide +kernel
theorem dX11_addOutage_108 : decode cX11_addOutage 108 = .ok (.iload 4, 2) := by decide +kernel
theorem dX11_addOutage_110 : decode cX11_addOutage 110 = .ok (.aaload, 1) := by decide +kernel
theorem dX11_addOutage_111 : decode cX11_addOutage 111 = .ok (.iconst 1, 1) := by decide +kernel
theorem dX11_addOutage_112 : decode cX11_addOutage 112 = .ok (.iload_n 2, 1) := by decide +kernel
theorem dX11_addOutage_113 : decode cX11_addOutage 113 = .ok (.iastore, 1) := by decide +kernel
theorem dX11_addOutage_114 : decode cX11_addOutage 114 = .ok (.aload_n 0, 1) := by decide +kernel
theorem dX11_addOutage_115 : decode cX11_addOutage 115 = .ok (.getfield 10, 3) := by decide +kernel
theorem dX11_addOutage_118 : decode cX11_addOutage 118 = .ok (.getfield 160, 3) := by decide +kernel
theorem dX11_addOutage_121 : decode cX11_addOutage 121 = .ok (.iload 4, 2) := by decide +kernel
theorem dX11_addOutage_123 : decode cX11_addOutage 123 = .ok (.aaload, 1) := by decide +kernel
theorem dX11_addOutage_124 : decode cX11_addOutage 124 = .ok (.iconst 2, 1) := by decide +kernel
theorem dX11_addOutage_125 : decode cX11_addOutage 125 = .ok (.iload_n 3, 1) := by decide +kernel
theorem dX11_addOutage_126 : decode cX11_addOutage 126 = .ok (.iastore, 1) := by decide +kernel
theorem dX11_addOutage_127 : decode cX11_addOutage 127 = .ok (.iload 4, 2) := by decide +kernel
theorem dX11_addOutage_129 : decode cX11_addOutage 129 = .ok (.ireturn, 1) := by decide +kernel
def LX11_addOutage_16 (Q : Option Value → az_M → Prop) (Xs : String → az_M → Prop) : az_T := (s_thr "java/lang/IndexOutOfBoundsException" Xs)
theorem okLX11_addOutage_16 {X : az_X} {Q : Option Value → az_M → Prop} {Xs : String → az_M → Prop} (C : az_C X cX11_addOutage 5 RX11 (az_ts yX11_addOutage cX11_addOutage 5 (some .int)) ({ frames := 7, cells := 1, slots := 6, locals := 163 } : Room) (some .int) Q) (CX : az_CX X ({ frames := 7, cells := 1, slots := 6, locals := 163 } : Room) Q Xs) : az_ok X 16 (LX11_addOutage_16 Q Xs) := by
  have h16 := az_throw (cls := "java/lang/IndexOutOfBoundsException") (names := ["java/lang/RuntimeException", "java/lang/Exception"]) C CX (by decide +kernel) (by decide +kernel) thkRX11_93 thi_IndexOutOfBoundsException thaRX11_95 thgRX11_95 dX11_addOutage_16 dX11_addOutage_19 dX11_addOutage_20 dX11_addOutage_23 ⟨by decide, by decide, by decide, by decide⟩
  exact h16
def PX11_addOutage (Q : Option Value → az_M → Prop) (Xs : String → az_M → Prop) : az_T := (s_la 0 (s_li 1 (s_cv 1 12 FX11_isUnit (s_if c_eq (s_kp [false, false, false, false, false] (LX11_addOutage_16 Q Xs)) (s_la 0 (s_li 2 (s_cv 1 12 FX11_isHour (s_if c_ne (s_li 3 (s_ic (nI 1) (s_ic (nI 24) (s_cs 3 FX11_within (s_if c_ne (s_la 0 (s_gr 12 0 (s_gi 9 4 (s_ic (nI 6) (s_if2 d_lt (s_la 0 (s_cv 0 12 FX11_beginChange (s_la 0 (s_gr 12 0 (s_gi 9 4 (s_si 4 (s_la 0 (s_gr 12 0 (s_dup (s_gi 9 4 (s_ic (nI 1) (s_bin f_add (s_pi 9 4 (s_la 0 (s_gr 12 0 (s_gr 9 6 (s_li 4 (s_aa 25 (s_ic (nI 0) (s_li 1 (s_as (s_la 0 (s_gr 12 0 (s_gr 9 6 (s_li 4 (s_aa 25 (s_ic (nI 1) (s_li 2 (s_as (s_la 0 (s_gr 12 0 (s_gr 9 6 (s_li 4 (s_aa 25 (s_ic (nI 2) (s_li 3 (s_as (s_li 4 (s_ri Q))))))))))))))))))))))))))))))))))))))) (s_thr "java/lang/IllegalStateException" Xs)))))) (s_thr "java/lang/IllegalArgumentException" Xs)))))) (s_kp [false, false, false, false, false] (LX11_addOutage_16 Q Xs))))))))))
def FX11_addOutage : az_FX := az_funX [true, false, false, false] 5 PX11_addOutage
theorem okX11_addOutage (l : Launch) (hlt : l.stackTraces = false) : az_metX l yX11_addOutage cX11_addOutage 5 (some .int) ({ frames := 7, cells := 1, slots := 6, locals := 163 } : Room) FX11_addOutage := az_metX_of (own := RX11) (by decide +kernel) rfl (by decide) (fun X Q Xs C CX => by
  have h129 := az_ireturn C rfl dX11_addOutage_129
  have h127 := az_iload C dX11_addOutage_127 h129
  have h126 := az_iast C dX11_addOutage_126 h127
  have h125 := az_iload_n C 3 rfl dX11_addOutage_125 h126
  have h124 := az_iconst (x := (nI 2)) C dX11_addOutage_124 (by decide +kernel) h125
  have h123 := az_aald2 C dX11_addOutage_123 h124
  have h121 := az_iload C dX11_addOutage_121 h123
  have h118 := az_getR (T := TX8) (N := 11) (j := 6) C gwRX8 rfl (by decide) (by decide) iIRX8_6 mFRX11_160 rfl dX11_addOutage_118 h121
  have h115 := az_getR (T := TX11) (N := 10) (j := 0) C gwRX11 rfl (by decide) (by decide) iIRX11_0 mFRX11_10 rfl dX11_addOutage_115 h118
  have h114 := az_aload_n C 0 rfl dX11_addOutage_114 h115
  have h113 := az_iast C dX11_addOutage_113 h114
  have h112 := az_iload_n C 2 rfl dX11_addOutage_112 h113
  have h111 := az_iconst (x := (nI 1)) C dX11_addOutage_111 (by decide +kernel) h112
  have h110 := az_aald2 C dX11_addOutage_110 h111
  have h108 := az_iload C dX11_addOutage_108 h110
  have h105 := az_getR (T := TX8) (N := 11) (j := 6) C gwRX8 rfl (by decide) (by decide) iIRX8_6 mFRX11_160 rfl dX11_addOutage_105 h108
  have h102 := az_getR (T := TX11) (N := 10) (j := 0) C gwRX11 rfl (by decide) (by decide) iIRX11_0 mFRX11_10 rfl dX11_addOutage_102 h105
  have h101 := az_aload_n C 0 rfl dX11_addOutage_101 h102
  have h100 := az_iast C dX11_addOutage_100 h101
  have h99 := az_iload_n C 1 rfl dX11_addOutage_99 h100
  have h98 := az_iconst (x := (nI 0)) C dX11_addOutage_98 (by decide +kernel) h99
  have h97 := az_aald2 C dX11_addOutage_97 h98
  have h95 := az_iload C dX11_addOutage_95 h97
  have h92 := az_getR (T := TX8) (N := 11) (j := 6) C gwRX8 rfl (by decide) (by decide) iIRX8_6 mFRX11_160 rfl dX11_addOutage_92 h95
  have h89 := az_getR (T := TX11) (N := 10) (j := 0) C gwRX11 rfl (by decide) (by decide) iIRX11_0 mFRX11_10 rfl dX11_addOutage_89 h92
  have h88 := az_aload_n C 0 rfl dX11_addOutage_88 h89
  have h85 := az_putI (T := TX8) (N := 11) (j := 4) C gwRX8 rfl (by decide) (by decide) tyX8 tyX8_ok nmX8 iIRX8_4 (by decide +kernel) rfl mFRX11_157 rfl dX11_addOutage_85 h88
  have h84 := az_iadd C dX11_addOutage_84 h85
  have h83 := az_iconst (x := (nI 1)) C dX11_addOutage_83 (by decide +kernel) h84
  have h80 := az_getI (T := TX8) (N := 11) (j := 4) C gwRX8 rfl (by decide) (by decide) iIRX8_4 mFRX11_157 rfl dX11_addOutage_80 h83
  have h79 := az_dup C dX11_addOutage_79 h80
  have h76 := az_getR (T := TX11) (N := 10) (j := 0) C gwRX11 rfl (by decide) (by decide) iIRX11_0 mFRX11_10 rfl dX11_addOutage_76 h79
  have h75 := az_aload_n C 0 rfl dX11_addOutage_75 h76
  have h73 := az_istore C (by decide) dX11_addOutage_73 h75
  have h70 := az_getI (T := TX8) (N := 11) (j := 4) C gwRX8 rfl (by decide) (by decide) iIRX8_4 mFRX11_157 rfl dX11_addOutage_70 h73
  have h67 := az_getR (T := TX11) (N := 10) (j := 0) C gwRX11 rfl (by decide) (by decide) iIRX11_0 mFRX11_10 rfl dX11_addOutage_67 h70
  have h66 := az_aload_n C 0 rfl dX11_addOutage_66 h67
  have h63 := az_callV (ci := 12) C okX11_beginChange knX11_beginChange imX11_beginChange seX11_beginChange mLRX11_96 rfl (by decide) ⟨rfl, rfl, by decide, by decide⟩ dX11_addOutage_63 h66
  have h62 := az_aload_n C 0 rfl dX11_addOutage_62 h63
  have h54 := az_throw (cls := "java/lang/IllegalStateException") (names := ["java/lang/RuntimeException", "java/lang/Exception"]) C CX (by decide +kernel) (by decide +kernel) thkRX11_119 thi_IllegalStateException thaRX11_121 thgRX11_121 dX11_addOutage_54 dX11_addOutage_57 dX11_addOutage_58 dX11_addOutage_61 ⟨by decide, by decide, by decide, by decide⟩
  have h51 := az_icmp_lt (tgt := 62) C dX11_addOutage_51 (by decide) h62 h54
  have h49 := az_bipush (x := (nI 6)) C dX11_addOutage_49 (by decide +kernel) h51
  have h46 := az_getI (T := TX8) (N := 11) (j := 4) C gwRX8 rfl (by decide) (by decide) iIRX8_4 mFRX11_157 rfl dX11_addOutage_46 h49
  have h43 := az_getR (T := TX11) (N := 10) (j := 0) C gwRX11 rfl (by decide) (by decide) iIRX11_0 mFRX11_10 rfl dX11_addOutage_43 h46
  have h42 := az_aload_n C 0 rfl dX11_addOutage_42 h43
  have h34 := az_throw (cls := "java/lang/IllegalArgumentException") (names := ["java/lang/RuntimeException", "java/lang/Exception"]) C CX (by decide +kernel) (by decide +kernel) thkRX11_72 thi_IllegalArgumentException thaRX11_74 thgRX11_74 dX11_addOutage_34 dX11_addOutage_37 dX11_addOutage_38 dX11_addOutage_41 ⟨by decide, by decide, by decide, by decide⟩
  have h31 := az_if_ne (tgt := 42) C dX11_addOutage_31 (by decide) h42 h34
  have h28 := az_callS C okX11_within knX11_within stX11_within mLRX11_68 ⟨rfl, rfl, by decide, by decide⟩ dX11_addOutage_28 h31
  have h26 := az_bipush (x := (nI 24)) C dX11_addOutage_26 (by decide +kernel) h28
  have h25 := az_iconst (x := (nI 1)) C dX11_addOutage_25 (by decide +kernel) h26
  have h24 := az_iload_n C 3 rfl dX11_addOutage_24 h25
  have h13 := az_if_ne (tgt := 24) C dX11_addOutage_13 (by decide) h24 (az_keep [false, false, false, false, false] (okLX11_addOutage_16 C CX))
  have h10 := az_callV (ci := 12) C okX11_isHour knX11_isHour imX11_isHour seX11_isHour mLRX11_90 rfl (by decide) ⟨rfl, rfl, by decide, by decide⟩ dX11_addOutage_10 h13
  have h9 := az_iload_n C 2 rfl dX11_addOutage_9 h10
  have h8 := az_aload_n C 0 rfl dX11_addOutage_8 h9
  have h5 := az_if_eq (tgt := 16) C dX11_addOutage_5 (by decide) (az_keep [false, false, false, false, false] (okLX11_addOutage_16 C CX)) h8
  have h2 := az_callV (ci := 12) C okX11_isUnit knX11_isUnit imX11_isUnit seX11_isUnit mLRX11_126 rfl (by decide) ⟨rfl, rfl, by decide, by decide⟩ dX11_addOutage_2 h5
  have h1 := az_iload_n C 1 rfl dX11_addOutage_1 h2
  have h0 := az_aload_n C 0 rfl dX11_addOutage_0 h1
  exact h0) l hlt
theorem dX11_removeOutage_0 : decode cX11_removeOutage 0 = .ok (.aload_n 0, 1) := by decide +kernel
theorem dX11_removeOutage_1 : decode cX11_removeOutage 1 = .ok (.iload_n 1, 1) := by decide +kernel
theorem dX11_removeOutage_2 : decode cX11_removeOutage 2 = .ok (.invokevirtual 163, 3) := by decide +kernel
theorem dX11_removeOutage_5 : decode cX11_removeOutage 5 = .ok (.ifCond .ne 11, 3) := by decide +kernel
theorem dX11_removeOutage_8 : decode cX11_removeOutage 8 = .ok (.new 93, 3) := by decide +kernel
theorem dX11_removeOutage_11 : decode cX11_removeOutage 11 = .ok (.dup, 1) := by decide +kernel
theorem dX11_removeOutage_12 : decode cX11_removeOutage 12 = .ok (.invokespecial 95, 3) := by decide +kernel
theorem dX11_removeOutage_15 : decode cX11_removeOutage 15 = .ok (.athrow, 1) := by decide +kernel
theorem dX11_removeOutage_16 : decode cX11_removeOutage 16 = .ok (.aload_n 0, 1) := by decide +kernel
theorem dX11_removeOutage_17 : decode cX11_removeOutage 17 = .ok (.invokevirtual 96, 3) := by decide +kernel
theorem dX11_removeOutage_20 : decode cX11_removeOutage 20 = .ok (.iload_n 1, 1) := by decide +kernel
theorem dX11_removeOutage_21 : decode cX11_removeOutage 21 = .ok (.iconst 1, 1) := by decide +kernel
theorem dX11_removeOutage_22 : decode cX11_removeOutage 22 = .ok (.iadd, 1) := by decide +kernel
theorem dX11_removeOutage_23 : decode cX11_removeOutage 23 = .ok (.istore_n 2, 1) := by decide +kernel
theorem dX11_removeOutage_24 : decode cX11_removeOutage 24 = .ok (.iload_n 2, 1) := by decide +kernel
theorem dX11_removeOutage_25 : decode cX11_removeOutage 25 = .ok (.aload_n 0, 1) := by decide +kernel
theorem dX11_removeOutage_26 : decode cX11_removeOutage 26 = .ok (.getfield 10, 3) := by decide +kernel
theorem dX11_removeOutage_29 : decode cX11_removeOutage 29 = .ok (.getfield 157, 3) := by decide +kernel
theorem dX11_removeOutage_32 : decode cX11_removeOutage 32 = .ok (.if_icmp .ge 35, 3) := by decide +kernel
theorem dX11_removeOutage_35 : decode cX11_removeOutage 35 = .ok (.aload_n 0, 1) := by decide +kernel
theorem dX11_removeOutage_36 : decode cX11_removeOutage 36 = .ok (.getfield 10, 3) := by decide +kernel
theorem dX11_removeOutage_39 : decode cX11_removeOutage 39 = .ok (.getfield 160, 3) := by decide +kernel
theorem dX11_removeOutage_42 : decode cX11_removeOutage 42 = .ok (.iload_n 2, 1) := by decide +kernel
theorem dX11_removeOutage_43 : decode cX11_removeOutage 43 = .ok (.aaload, 1) := by decide +kernel
theorem dX11_removeOutage_44 : decode cX11_removeOutage 44 = .ok (.iconst 0, 1) := by decide +kernel
theorem dX11_removeOutage_45 : decode cX11_removeOutage 45 = .ok (.aload_n 0, 1) := by decide +kernel
theorem dX11_removeOutage_46 : decode cX11_removeOutage 46 = .ok (.getfield 10, 3) := by decide +kernel
theorem dX11_removeOutage_49 : decode cX11_removeOutage 49 = .ok (.getfield 160, 3) := by decide +kernel
theorem dX11_removeOutage_52 : decode cX11_removeOutage 52 = .ok (.iload_n 2, 1) := by decide +kernel
theorem dX11_removeOutage_53 : decode cX11_removeOutage 53 = .ok (.iconst 1, 1) := by decide +kernel
theorem dX11_removeOutage_54 : decode cX11_removeOutage 54 = .ok (.isub, 1) := by decide +kernel
theorem dX11_removeOutage_55 : decode cX11_removeOutage 55 = .ok (.aaload, 1) := by decide +kernel
theorem dX11_removeOutage_56 : decode cX11_removeOutage 56 = .ok (.iconst 0, 1) := by decide +kernel
theorem dX11_removeOutage_57 : decode cX11_removeOutage 57 = .ok (.iconst 3, 1) := by decide +kernel
theorem dX11_removeOutage_58 : decode cX11_removeOutage 58 = .ok (.invokestatic 166, 3) := by decide +kernel
theorem dX11_removeOutage_61 : decode cX11_removeOutage 61 = .ok (.iinc 2 1, 3) := by decide +kernel
theorem dX11_removeOutage_64 : decode cX11_removeOutage 64 = .ok (.goto (-40), 3) := by decide +kernel
theorem dX11_removeOutage_67 : decode cX11_removeOutage 67 = .ok (.aload_n 0, 1) := by decide +kernel
theorem dX11_removeOutage_68 : decode cX11_removeOutage 68 = .ok (.getfield 10, 3) := by decide +kernel
theorem dX11_removeOutage_71 : decode cX11_removeOutage 71 = .ok (.dup, 1) := by decide +kernel
theorem dX11_removeOutage_72 : decode cX11_removeOutage 72 = .ok (.getfield 157, 3) := by decide +kernel
theorem dX11_removeOutage_75 : decode cX11_removeOutage 75 = .ok (.iconst 1, 1) := by decide +kernel
theorem dX11_removeOutage_76 : decode cX11_removeOutage 76 = .ok (.isub, 1) := by decide +kernel
theorem dX11_removeOutage_77 : decode cX11_removeOutage 77 = .ok (.putfield 157, 3) := by decide +kernel
theorem dX11_removeOutage_80 : decode cX11_removeOutage 80 = .ok (.aload_n 0, 1) := by decide +kernel
theorem dX11_removeOutage_81 : decode cX11_removeOutage 81 = .ok (.getfield 10, 3) := by decide +kernel
theorem dX11_removeOutage_84 : decode cX11_removeOutage 84 = .ok (.getfield 157, 3) := by decide +kernel
theorem dX11_removeOutage_87 : decode cX11_removeOutage 87 = .ok (.ireturn, 1) := by decide +kernel
def BX11_removeOutage_24 (Q : Option Value → az_M → Prop) (Xs : String → az_M → Prop) (Z24 : az_T) : az_T := (s_li 2 (s_la 0 (s_gr 12 0 (s_gi 9 4 (s_if2 d_ge (s_la 0 (s_gr 12 0 (s_dup (s_gi 9 4 (s_ic (nI 1) (s_bin f_sub (s_pi 9 4 (s_la 0 (s_gr 12 0 (s_gi 9 4 (s_ri Q))))))))))) (s_la 0 (s_gr 12 0 (s_gr 9 6 (s_li 2 (s_aa 25 (s_ic (nI 0) (s_la 0 (s_gr 12 0 (s_gr 9 6 (s_li 2 (s_ic (nI 1) (s_bin f_sub (s_aa 25 (s_ic (nI 0) (s_ic (nI 3) (s_cpy (s_inc 2 (nI 1) (s_kp [true, false, true] Z24)))))))))))))))))))))))
theorem okBX11_removeOutage_24 {X : az_X} {Q : Option Value → az_M → Prop} {Xs : String → az_M → Prop} (C : az_C X cX11_removeOutage 3 RX11 (az_ts yX11_removeOutage cX11_removeOutage 3 (some .int)) ({ frames := 7, cells := 1, slots := 6, locals := 163 } : Room) (some .int) Q) (CX : az_CX X ({ frames := 7, cells := 1, slots := 6, locals := 163 } : Room) Q Xs) {Z24 : az_T} (hZ24 : az_ok X 24 Z24) : az_ok X 24 (BX11_removeOutage_24 Q Xs Z24) := by
  have h87 := az_ireturn C rfl dX11_removeOutage_87
  have h84 := az_getI (T := TX8) (N := 11) (j := 4) C gwRX8 rfl (by decide) (by decide) iIRX8_4 mFRX11_157 rfl dX11_removeOutage_84 h87
  have h81 := az_getR (T := TX11) (N := 10) (j := 0) C gwRX11 rfl (by decide) (by decide) iIRX11_0 mFRX11_10 rfl dX11_removeOutage_81 h84
  have h80 := az_aload_n C 0 rfl dX11_removeOutage_80 h81
  have h77 := az_putI (T := TX8) (N := 11) (j := 4) C gwRX8 rfl (by decide) (by decide) tyX8 tyX8_ok nmX8 iIRX8_4 (by decide +kernel) rfl mFRX11_157 rfl dX11_removeOutage_77 h80
  have h76 := az_isub C dX11_removeOutage_76 h77
  have h75 := az_iconst (x := (nI 1)) C dX11_removeOutage_75 (by decide +kernel) h76
  have h72 := az_getI (T := TX8) (N := 11) (j := 4) C gwRX8 rfl (by decide) (by decide) iIRX8_4 mFRX11_157 rfl dX11_removeOutage_72 h75
  have h71 := az_dup C dX11_removeOutage_71 h72
  have h68 := az_getR (T := TX11) (N := 10) (j := 0) C gwRX11 rfl (by decide) (by decide) iIRX11_0 mFRX11_10 rfl dX11_removeOutage_68 h71
  have h67 := az_aload_n C 0 rfl dX11_removeOutage_67 h68
  have h64 := az_goto (tgt := 24) C dX11_removeOutage_64 (by decide) (az_keep [true, false, true] hZ24)
  have h61 := az_iinc (v := (nI 1)) C (by decide) (by decide +kernel) dX11_removeOutage_61 h64
  have h58 := az_copy C mLRX11_166 cp_nat cp_st cp_ini (by decide) (by decide +kernel) dX11_removeOutage_58 h61
  have h57 := az_iconst (x := (nI 3)) C dX11_removeOutage_57 (by decide +kernel) h58
  have h56 := az_iconst (x := (nI 0)) C dX11_removeOutage_56 (by decide +kernel) h57
  have h55 := az_aald2 C dX11_removeOutage_55 h56
  have h54 := az_isub C dX11_removeOutage_54 h55
  have h53 := az_iconst (x := (nI 1)) C dX11_removeOutage_53 (by decide +kernel) h54
  have h52 := az_iload_n C 2 rfl dX11_removeOutage_52 h53
  have h49 := az_getR (T := TX8) (N := 11) (j := 6) C gwRX8 rfl (by decide) (by decide) iIRX8_6 mFRX11_160 rfl dX11_removeOutage_49 h52
  have h46 := az_getR (T := TX11) (N := 10) (j := 0) C gwRX11 rfl (by decide) (by decide) iIRX11_0 mFRX11_10 rfl dX11_removeOutage_46 h49
  have h45 := az_aload_n C 0 rfl dX11_removeOutage_45 h46
  have h44 := az_iconst (x := (nI 0)) C dX11_removeOutage_44 (by decide +kernel) h45
  have h43 := az_aald2 C dX11_removeOutage_43 h44
  have h42 := az_iload_n C 2 rfl dX11_removeOutage_42 h43
  have h39 := az_getR (T := TX8) (N := 11) (j := 6) C gwRX8 rfl (by decide) (by decide) iIRX8_6 mFRX11_160 rfl dX11_removeOutage_39 h42
  have h36 := az_getR (T := TX11) (N := 10) (j := 0) C gwRX11 rfl (by decide) (by decide) iIRX11_0 mFRX11_10 rfl dX11_removeOutage_36 h39
  have h35 := az_aload_n C 0 rfl dX11_removeOutage_35 h36
  have h32 := az_icmp_ge (tgt := 67) C dX11_removeOutage_32 (by decide) h67 h35
  have h29 := az_getI (T := TX8) (N := 11) (j := 4) C gwRX8 rfl (by decide) (by decide) iIRX8_4 mFRX11_157 rfl dX11_removeOutage_29 h32
  have h26 := az_getR (T := TX11) (N := 10) (j := 0) C gwRX11 rfl (by decide) (by decide) iIRX11_0 mFRX11_10 rfl dX11_removeOutage_26 h29
  have h25 := az_aload_n C 0 rfl dX11_removeOutage_25 h26
  have h24 := az_iload_n C 2 rfl dX11_removeOutage_24 h25
  exact h24
def LX11_removeOutage_24 (Q : Option Value → az_M → Prop) (Xs : String → az_M → Prop) : az_T := s_lp (fun Z => BX11_removeOutage_24 Q Xs Z)
theorem okLX11_removeOutage_24 {X : az_X} {Q : Option Value → az_M → Prop} {Xs : String → az_M → Prop} (C : az_C X cX11_removeOutage 3 RX11 (az_ts yX11_removeOutage cX11_removeOutage 3 (some .int)) ({ frames := 7, cells := 1, slots := 6, locals := 163 } : Room) (some .int) Q) (CX : az_CX X ({ frames := 7, cells := 1, slots := 6, locals := 163 } : Room) Q Xs) : az_ok X 24 (LX11_removeOutage_24 Q Xs) := az_loop (F := fun Z => BX11_removeOutage_24 Q Xs Z) (fun _ hZ => okBX11_removeOutage_24 C CX hZ)
def PX11_removeOutage (Q : Option Value → az_M → Prop) (Xs : String → az_M → Prop) : az_T := (s_la 0 (s_li 1 (s_cv 1 12 FX11_isOutage (s_if c_ne (s_la 0 (s_cv 0 12 FX11_beginChange (s_li 1 (s_ic (nI 1) (s_bin f_add (s_si 2 (s_kp [true, false, true] (LX11_removeOutage_24 Q Xs)))))))) (s_thr "java/lang/IndexOutOfBoundsException" Xs)))))
def FX11_removeOutage : az_FX := az_funX [true, false] 3 PX11_removeOutage
theorem okX11_removeOutage (l : Launch) (hlt : l.stackTraces = false) : az_metX l yX11_removeOutage cX11_removeOutage 3 (some .int) ({ frames := 7, cells := 1, slots := 6, locals := 163 } : Room) FX11_removeOutage := az_metX_of (own := RX11) (by decide +kernel) rfl (by decide) (fun X Q Xs C CX => by
  have h23 := az_istore_n C 2 rfl (by decide) dX11_removeOutage_23 (az_keep [true, false, true] (okLX11_removeOutage_24 C CX))
  have h22 := az_iadd C dX11_removeOutage_22 h23
  have h21 := az_iconst (x := (nI 1)) C dX11_removeOutage_21 (by decide +kernel) h22
  have h20 := az_iload_n C 1 rfl dX11_removeOutage_20 h21
  have h17 := az_callV (ci := 12) C okX11_beginChange knX11_beginChange imX11_beginChange seX11_beginChange mLRX11_96 rfl (by decide) ⟨rfl, rfl, by decide, by decide⟩ dX11_removeOutage_17 h20
  have h16 := az_aload_n C 0 rfl dX11_removeOutage_16 h17
  have h8 := az_throw (cls := "java/lang/IndexOutOfBoundsException") (names := ["java/lang/RuntimeException", "java/lang/Exception"]) C CX (by decide +kernel) (by decide +kernel) thkRX11_93 thi_IndexOutOfBoundsException thaRX11_95 thgRX11_95 dX11_removeOutage_8 dX11_removeOutage_11 dX11_removeOutage_12 dX11_removeOutage_15 ⟨by decide, by decide, by decide, by decide⟩
  have h5 := az_if_ne (tgt := 16) C dX11_removeOutage_5 (by decide) h16 h8
  have h2 := az_callV (ci := 12) C okX11_isOutage knX11_isOutage imX11_isOutage seX11_isOutage mLRX11_163 rfl (by decide) ⟨rfl, rfl, by decide, by decide⟩ dX11_removeOutage_2 h5
  have h1 := az_iload_n C 1 rfl dX11_removeOutage_1 h2
  have h0 := az_aload_n C 0 rfl dX11_removeOutage_0 h1
  exact h0) l hlt
theorem dX11_setPolicy_0 : decode cX11_setPolicy 0 = .ok (.iload_n 1, 1) := by decide +kernel
theorem dX11_setPolicy_1 : decode cX11_setPolicy 1 = .ok (.iconst 0, 1) := by decide +kernel
theorem dX11_setPolicy_2 : decode cX11_setPolicy 2 = .ok (.iconst 2, 1) := by decide +kernel
theorem dX11_setPolicy_3 : decode cX11_setPolicy 3 = .ok (.invokestatic 68, 3) := by decide +kernel
theorem dX11_setPolicy_6 : decode cX11_setPolicy 6 = .ok (.ifCond .ne 11, 3) := by decide +kernel
theorem dX11_setPolicy_9 : decode cX11_setPolicy 9 = .ok (.new 72, 3) := by decide +kernel
theorem dX11_setPolicy_12 : decode cX11_setPolicy 12 = .ok (.dup, 1) := by decide +kernel
theorem dX11_setPolicy_13 : decode cX11_setPolicy 13 = .ok (.invokespecial 74, 3) := by decide +kernel
theorem dX11_setPolicy_16 : decode cX11_setPolicy 16 = .ok (.athrow, 1) := by decide +kernel
theorem dX11_setPolicy_17 : decode cX11_setPolicy 17 = .ok (.aload_n 0, 1) := by decide +kernel
theorem dX11_setPolicy_18 : decode cX11_setPolicy 18 = .ok (.invokevirtual 96, 3) := by decide +kernel
theorem dX11_setPolicy_21 : decode cX11_setPolicy 21 = .ok (.aload_n 0, 1) := by decide +kernel
theorem dX11_setPolicy_22 : decode cX11_setPolicy 22 = .ok (.getfield 10, 3) := by decide +kernel
theorem dX11_setPolicy_25 : decode cX11_setPolicy 25 = .ok (.getfield 172, 3) := by decide +kernel
theorem dX11_setPolicy_28 : decode cX11_setPolicy 28 = .ok (.istore_n 2, 1) := by decide +kernel
theorem dX11_setPolicy_29 : decode cX11_setPolicy 29 = .ok (.aload_n 0, 1) := by decide +kernel
theorem dX11_setPolicy_30 : decode cX11_setPolicy 30 = .ok (.getfield 10, 3) := by decide +kernel
theorem dX11_setPolicy_33 : decode cX11_setPolicy 33 = .ok (.iload_n 1, 1) := by decide +kernel
theorem dX11_setPolicy_34 : decode cX11_setPolicy 34 = .ok (.putfield 172, 3) := by decide +kernel
theorem dX11_setPolicy_37 : decode cX11_setPolicy 37 = .ok (.iload_n 2, 1) := by decide +kernel
theorem dX11_setPolicy_38 : decode cX11_setPolicy 38 = .ok (.ireturn, 1) := by decide +kernel
def PX11_setPolicy (Q : Option Value → az_M → Prop) (Xs : String → az_M → Prop) : az_T := (s_li 1 (s_ic (nI 0) (s_ic (nI 2) (s_cs 3 FX11_within (s_if c_ne (s_la 0 (s_cv 0 12 FX11_beginChange (s_la 0 (s_gr 12 0 (s_gi 9 2 (s_si 2 (s_la 0 (s_gr 12 0 (s_li 1 (s_pi 9 2 (s_li 2 (s_ri Q)))))))))))) (s_thr "java/lang/IllegalArgumentException" Xs))))))
def FX11_setPolicy : az_FX := az_funX [true, false] 3 PX11_setPolicy
theorem okX11_setPolicy (l : Launch) (hlt : l.stackTraces = false) : az_metX l yX11_setPolicy cX11_setPolicy 3 (some .int) ({ frames := 7, cells := 1, slots := 6, locals := 163 } : Room) FX11_setPolicy := az_metX_of (own := RX11) (by decide +kernel) rfl (by decide) (fun X Q Xs C CX => by
  have h38 := az_ireturn C rfl dX11_setPolicy_38
  have h37 := az_iload_n C 2 rfl dX11_setPolicy_37 h38
  have h34 := az_putI (T := TX8) (N := 11) (j := 2) C gwRX8 rfl (by decide) (by decide) tyX8 tyX8_ok nmX8 iIRX8_2 (by decide +kernel) rfl mFRX11_172 rfl dX11_setPolicy_34 h37
  have h33 := az_iload_n C 1 rfl dX11_setPolicy_33 h34
  have h30 := az_getR (T := TX11) (N := 10) (j := 0) C gwRX11 rfl (by decide) (by decide) iIRX11_0 mFRX11_10 rfl dX11_setPolicy_30 h33
  have h29 := az_aload_n C 0 rfl dX11_setPolicy_29 h30
  have h28 := az_istore_n C 2 rfl (by decide) dX11_setPolicy_28 h29
  have h25 := az_getI (T := TX8) (N := 11) (j := 2) C gwRX8 rfl (by decide) (by decide) iIRX8_2 mFRX11_172 rfl dX11_setPolicy_25 h28
  have h22 := az_getR (T := TX11) (N := 10) (j := 0) C gwRX11 rfl (by decide) (by decide) iIRX11_0 mFRX11_10 rfl dX11_setPolicy_22 h25
  have h21 := az_aload_n C 0 rfl dX11_setPolicy_21 h22
  have h18 := az_callV (ci := 12) C okX11_beginChange knX11_beginChange imX11_beginChange seX11_beginChange mLRX11_96 rfl (by decide) ⟨rfl, rfl, by decide, by decide⟩ dX11_setPolicy_18 h21
  have h17 := az_aload_n C 0 rfl dX11_setPolicy_17 h18
  have h9 := az_throw (cls := "java/lang/IllegalArgumentException") (names := ["java/lang/RuntimeException", "java/lang/Exception"]) C CX (by decide +kernel) (by decide +kernel) thkRX11_72 thi_IllegalArgumentException thaRX11_74 thgRX11_74 dX11_setPolicy_9 dX11_setPolicy_12 dX11_setPolicy_13 dX11_setPolicy_16 ⟨by decide, by decide, by decide, by decide⟩
  have h6 := az_if_ne (tgt := 17) C dX11_setPolicy_6 (by decide) h17 h9
  have h3 := az_callS C okX11_within knX11_within stX11_within mLRX11_68 ⟨rfl, rfl, by decide, by decide⟩ dX11_setPolicy_3 h6
  have h2 := az_iconst (x := (nI 2)) C dX11_setPolicy_2 (by decide +kernel) h3
  have h1 := az_iconst (x := (nI 0)) C dX11_setPolicy_1 (by decide +kernel) h2
  have h0 := az_iload_n C 1 rfl dX11_setPolicy_0 h1
  exact h0) l hlt
theorem dX11_outage_0 : decode cX11_outage 0 = .ok (.aload_n 0, 1) := by decide +kernel
theorem dX11_outage_1 : decode cX11_outage 1 = .ok (.iload_n 1, 1) := by decide +kernel
theorem dX11_outage_2 : decode cX11_outage 2 = .ok (.invokevirtual 163, 3) := by decide +kernel
theorem dX11_outage_5 : decode cX11_outage 5 = .ok (.ifCond .ne 11, 3) := by decide +kernel
theorem dX11_outage_8 : decode cX11_outage 8 = .ok (.new 93, 3) := by decide +kernel
theorem dX11_outage_11 : decode cX11_outage 11 = .ok (.dup, 1) := by decide +kernel
theorem dX11_outage_12 : decode cX11_outage 12 = .ok (.invokespecial 95, 3) := by decide +kernel
theorem dX11_outage_15 : decode cX11_outage 15 = .ok (.athrow, 1) := by decide +kernel
theorem dX11_outage_16 : decode cX11_outage 16 = .ok (.iload_n 2, 1) := by decide +kernel
theorem dX11_outage_17 : decode cX11_outage 17 = .ok (.iconst 0, 1) := by decide +kernel
theorem dX11_outage_18 : decode cX11_outage 18 = .ok (.iconst 4, 1) := by decide +kernel
theorem dX11_outage_19 : decode cX11_outage 19 = .ok (.invokestatic 68, 3) := by decide +kernel
theorem dX11_outage_22 : decode cX11_outage 22 = .ok (.ifCond .ne 11, 3) := by decide +kernel
theorem dX11_outage_25 : decode cX11_outage 25 = .ok (.new 72, 3) := by decide +kernel
theorem dX11_outage_28 : decode cX11_outage 28 = .ok (.dup, 1) := by decide +kernel
theorem dX11_outage_29 : decode cX11_outage 29 = .ok (.invokespecial 74, 3) := by decide +kernel
theorem dX11_outage_32 : decode cX11_outage 32 = .ok (.athrow, 1) := by decide +kernel
theorem dX11_outage_33 : decode cX11_outage 33 = .ok (.iload_n 2, 1) := by decide +kernel
theorem dX11_outage_34 : decode cX11_outage 34 = .ok (.iconst 3, 1) := by decide +kernel
theorem dX11_outage_35 : decode cX11_outage 35 = .ok (.if_icmp .ge 15, 3) := by decide +kernel
theorem dX11_outage_38 : decode cX11_outage 38 = .ok (.aload_n 0, 1) := by decide +kernel
theorem dX11_outage_39 : decode cX11_outage 39 = .ok (.getfield 10, 3) := by decide +kernel
theorem dX11_outage_42 : decode cX11_outage 42 = .ok (.getfield 160, 3) := by decide +kernel
theorem dX11_outage_45 : decode cX11_outage 45 = .ok (.iload_n 1, 1) := by decide +kernel
theorem dX11_outage_46 : decode cX11_outage 46 = .ok (.aaload, 1) := by decide +kernel
theorem dX11_outage_47 : decode cX11_outage 47 = .ok (.iload_n 2, 1) := by decide +kernel
theorem dX11_outage_48 : decode cX11_outage 48 = .ok (.iaload, 1) := by decide +kernel
theorem dX11_outage_49 : decode cX11_outage 49 = .ok (.ireturn, 1) := by decide +kernel
theorem dX11_outage_50 : decode cX11_outage 50 = .ok (.aload_n 0, 1) := by decide +kernel
theorem dX11_outage_51 : decode cX11_outage 51 = .ok (.invokevirtual 136, 3) := by decide +kernel
theorem dX11_outage_54 : decode cX11_outage 54 = .ok (.iload_n 2, 1) := by decide +kernel
theorem dX11_outage_55 : decode cX11_outage 55 = .ok (.iconst 3, 1) := by decide +kernel
theorem dX11_outage_56 : decode cX11_outage 56 = .ok (.if_icmp .ne 18, 3) := by decide +kernel
theorem dX11_outage_59 : decode cX11_outage 59 = .ok (.aload_n 0, 1) := by decide +kernel
theorem dX11_outage_60 : decode cX11_outage 60 = .ok (.getfield 29, 3) := by decide +kernel
theorem dX11_outage_63 : decode cX11_outage 63 = .ok (.getfield 175, 3) := by decide +kernel
theorem dX11_outage_66 : decode cX11_outage 66 = .ok (.getfield 179, 3) := by decide +kernel
theorem dX11_outage_69 : decode cX11_outage 69 = .ok (.iload_n 1, 1) := by decide +kernel
theorem dX11_outage_70 : decode cX11_outage 70 = .ok (.iaload, 1) := by decide +kernel
theorem dX11_outage_71 : decode cX11_outage 71 = .ok (.goto 15, 3) := by decide +kernel
theorem dX11_outage_74 : decode cX11_outage 74 = .ok (.aload_n 0, 1) := by decide +kernel
theorem dX11_outage_75 : decode cX11_outage 75 = .ok (.getfield 29, 3) := by decide +kernel
theorem dX11_outage_78 : decode cX11_outage 78 = .ok (.getfield 175, 3) := by decide +kernel
theorem dX11_outage_81 : decode cX11_outage 81 = .ok (.getfield 184, 3) := by decide +kernel
theorem dX11_outage_84 : decode cX11_outage 84 = .ok (.iload_n 1, 1) := by decide +kernel
theorem dX11_outage_85 : decode cX11_outage 85 = .ok (.iaload, 1) := by decide +kernel
theorem dX11_outage_86 : decode cX11_outage 86 = .ok (.ireturn, 1) := by decide +kernel
def LX11_outage_86 (Q : Option Value → az_M → Prop) (Xs : String → az_M → Prop) : az_T := (s_ri Q)
theorem okLX11_outage_86 {X : az_X} {Q : Option Value → az_M → Prop} {Xs : String → az_M → Prop} (C : az_C X cX11_outage 3 RX11 (az_ts yX11_outage cX11_outage 3 (some .int)) ({ frames := 7, cells := 1, slots := 6, locals := 252 } : Room) (some .int) Q) (CX : az_CX X ({ frames := 7, cells := 1, slots := 6, locals := 252 } : Room) Q Xs) : az_ok X 86 (LX11_outage_86 Q Xs) := by
  have h86 := az_ireturn C rfl dX11_outage_86
  exact h86
def PX11_outage (Q : Option Value → az_M → Prop) (Xs : String → az_M → Prop) : az_T := (s_la 0 (s_li 1 (s_cv 1 12 FX11_isOutage (s_if c_ne (s_li 2 (s_ic (nI 0) (s_ic (nI 4) (s_cs 3 FX11_within (s_if c_ne (s_li 2 (s_ic (nI 3) (s_if2 d_ge (s_la 0 (s_cv 0 12 FX11_refresh (s_li 2 (s_ic (nI 3) (s_if2 d_ne (s_la 0 (s_gr 12 3 (s_gr 6 0 (s_gr 2 1 (s_li 1 (s_al 20 (s_kp [false, false, false] (LX11_outage_86 Q Xs)))))))) (s_la 0 (s_gr 12 3 (s_gr 6 0 (s_gr 2 0 (s_li 1 (s_al 20 (s_kp [false, false, false] (LX11_outage_86 Q Xs))))))))))))) (s_la 0 (s_gr 12 0 (s_gr 9 6 (s_li 1 (s_aa 25 (s_li 2 (s_al 20 (s_ri Q))))))))))) (s_thr "java/lang/IllegalArgumentException" Xs)))))) (s_thr "java/lang/IndexOutOfBoundsException" Xs)))))
def FX11_outage : az_FX := az_funX [true, false, false] 3 PX11_outage
theorem okX11_outage (l : Launch) (hlt : l.stackTraces = false) : az_metX l yX11_outage cX11_outage 3 (some .int) ({ frames := 7, cells := 1, slots := 6, locals := 252 } : Room) FX11_outage := az_metX_of (own := RX11) (by decide +kernel) rfl (by decide) (fun X Q Xs C CX => by
  have h85 := az_iald C dX11_outage_85 (az_keep [false, false, false] (okLX11_outage_86 C CX))
  have h84 := az_iload_n C 1 rfl dX11_outage_84 h85
  have h81 := az_getR (T := TX0) (N := 3) (j := 1) C gwRX0 rfl (by decide) (by decide) iIRX0_1 mFRX11_184 rfl dX11_outage_81 h84
  have h78 := az_getR (T := TX4) (N := 10) (j := 0) C gwRX4 rfl (by decide) (by decide) iIRX4_0 mFRX11_175 rfl dX11_outage_78 h81
  have h75 := az_getR (T := TX11) (N := 10) (j := 3) C gwRX11 rfl (by decide) (by decide) iIRX11_3 mFRX11_29 rfl dX11_outage_75 h78
  have h74 := az_aload_n C 0 rfl dX11_outage_74 h75
  have h71 := az_goto (tgt := 86) C dX11_outage_71 (by decide) (az_keep [false, false, false] (okLX11_outage_86 C CX))
  have h70 := az_iald C dX11_outage_70 h71
  have h69 := az_iload_n C 1 rfl dX11_outage_69 h70
  have h66 := az_getR (T := TX0) (N := 3) (j := 0) C gwRX0 rfl (by decide) (by decide) iIRX0_0 mFRX11_179 rfl dX11_outage_66 h69
  have h63 := az_getR (T := TX4) (N := 10) (j := 0) C gwRX4 rfl (by decide) (by decide) iIRX4_0 mFRX11_175 rfl dX11_outage_63 h66
  have h60 := az_getR (T := TX11) (N := 10) (j := 3) C gwRX11 rfl (by decide) (by decide) iIRX11_3 mFRX11_29 rfl dX11_outage_60 h63
  have h59 := az_aload_n C 0 rfl dX11_outage_59 h60
  have h56 := az_icmp_ne (tgt := 74) C dX11_outage_56 (by decide) h74 h59
  have h55 := az_iconst (x := (nI 3)) C dX11_outage_55 (by decide +kernel) h56
  have h54 := az_iload_n C 2 rfl dX11_outage_54 h55
  have h51 := az_callV (ci := 12) C okX11_refresh knX11_refresh imX11_refresh seX11_refresh mLRX11_136 rfl (by decide) ⟨rfl, rfl, by decide, by decide⟩ dX11_outage_51 h54
  have h50 := az_aload_n C 0 rfl dX11_outage_50 h51
  have h49 := az_ireturn C rfl dX11_outage_49
  have h48 := az_iald C dX11_outage_48 h49
  have h47 := az_iload_n C 2 rfl dX11_outage_47 h48
  have h46 := az_aald2 C dX11_outage_46 h47
  have h45 := az_iload_n C 1 rfl dX11_outage_45 h46
  have h42 := az_getR (T := TX8) (N := 11) (j := 6) C gwRX8 rfl (by decide) (by decide) iIRX8_6 mFRX11_160 rfl dX11_outage_42 h45
  have h39 := az_getR (T := TX11) (N := 10) (j := 0) C gwRX11 rfl (by decide) (by decide) iIRX11_0 mFRX11_10 rfl dX11_outage_39 h42
  have h38 := az_aload_n C 0 rfl dX11_outage_38 h39
  have h35 := az_icmp_ge (tgt := 50) C dX11_outage_35 (by decide) h50 h38
  have h34 := az_iconst (x := (nI 3)) C dX11_outage_34 (by decide +kernel) h35
  have h33 := az_iload_n C 2 rfl dX11_outage_33 h34
  have h25 := az_throw (cls := "java/lang/IllegalArgumentException") (names := ["java/lang/RuntimeException", "java/lang/Exception"]) C CX (by decide +kernel) (by decide +kernel) thkRX11_72 thi_IllegalArgumentException thaRX11_74 thgRX11_74 dX11_outage_25 dX11_outage_28 dX11_outage_29 dX11_outage_32 ⟨by decide, by decide, by decide, by decide⟩
  have h22 := az_if_ne (tgt := 33) C dX11_outage_22 (by decide) h33 h25
  have h19 := az_callS C okX11_within knX11_within stX11_within mLRX11_68 ⟨rfl, rfl, by decide, by decide⟩ dX11_outage_19 h22
  have h18 := az_iconst (x := (nI 4)) C dX11_outage_18 (by decide +kernel) h19
  have h17 := az_iconst (x := (nI 0)) C dX11_outage_17 (by decide +kernel) h18
  have h16 := az_iload_n C 2 rfl dX11_outage_16 h17
  have h8 := az_throw (cls := "java/lang/IndexOutOfBoundsException") (names := ["java/lang/RuntimeException", "java/lang/Exception"]) C CX (by decide +kernel) (by decide +kernel) thkRX11_93 thi_IndexOutOfBoundsException thaRX11_95 thgRX11_95 dX11_outage_8 dX11_outage_11 dX11_outage_12 dX11_outage_15 ⟨by decide, by decide, by decide, by decide⟩
  have h5 := az_if_ne (tgt := 16) C dX11_outage_5 (by decide) h16 h8
  have h2 := az_callV (ci := 12) C okX11_isOutage knX11_isOutage imX11_isOutage seX11_isOutage mLRX11_163 rfl (by decide) ⟨rfl, rfl, by decide, by decide⟩ dX11_outage_2 h5
  have h1 := az_iload_n C 1 rfl dX11_outage_1 h2
  have h0 := az_aload_n C 0 rfl dX11_outage_0 h1
  exact h0) l hlt
theorem dX11_search_0 : decode cX11_search 0 = .ok (.aload_n 0, 1) := by decide +kernel
theorem dX11_search_1 : decode cX11_search 1 = .ok (.getfield 10, 3) := by decide +kernel
theorem dX11_search_4 : decode cX11_search 4 = .ok (.getfield 75, 3) := by decide +kernel
theorem dX11_search_7 : decode cX11_search 7 = .ok (.aload_n 0, 1) := by decide +kernel
theorem dX11_search_8 : decode cX11_search 8 = .ok (.getfield 10, 3) := by decide +kernel
theorem dX11_search_11 : decode cX11_search 11 = .ok (.getfield 143, 3) := by decide +kernel
theorem dX11_search_14 : decode cX11_search 14 = .ok (.imul, 1) := by decide +kernel
theorem dX11_search_15 : decode cX11_search 15 = .ok (.bipush 10, 2) := by decide +kernel
theorem dX11_search_17 : decode cX11_search 17 = .ok (.if_icmp .le 11, 3) := by decide +kernel
theorem dX11_search_20 : decode cX11_search 20 = .ok (.new 191, 3) := by decide +kernel
theorem dX11_search_23 : decode cX11_search 23 = .ok (.dup, 1) := by decide +kernel
theorem dX11_search_24 : decode cX11_search 24 = .ok (.invokespecial 193, 3) := by decide +kernel
theorem dX11_search_27 : decode cX11_search 27 = .ok (.athrow, 1) := by decide +kernel
theorem dX11_search_28 : decode cX11_search 28 = .ok (.aload_n 0, 1) := by decide +kernel
theorem dX11_search_29 : decode cX11_search 29 = .ok (.iconst 1, 1) := by decide +kernel
theorem dX11_search_30 : decode cX11_search 30 = .ok (.putfield 65, 3) := by decide +kernel
theorem dX11_search_33 : decode cX11_search 33 = .ok (.aload_n 0, 1) := by decide +kernel
theorem dX11_search_34 : decode cX11_search 34 = .ok (.getfield 50, 3) := by decide +kernel
theorem dX11_search_37 : decode cX11_search 37 = .ok (.aload_n 0, 1) := by decide +kernel
theorem dX11_search_38 : decode cX11_search 38 = .ok (.getfield 10, 3) := by decide +kernel
theorem dX11_search_41 : decode cX11_search 41 = .ok (.aload_n 0, 1) := by decide +kernel
theorem dX11_search_42 : decode cX11_search 42 = .ok (.getfield 29, 3) := by decide +kernel
theorem dX11_search_45 : decode cX11_search 45 = .ok (.invokevirtual 194, 3) := by decide +kernel
theorem dX11_search_48 : decode cX11_search 48 = .ok (.aload_n 0, 1) := by decide +kernel
theorem dX11_search_49 : decode cX11_search 49 = .ok (.getfield 50, 3) := by decide +kernel
theorem dX11_search_52 : decode cX11_search 52 = .ok (.getfield 198, 3) := by decide +kernel
theorem dX11_search_55 : decode cX11_search 55 = .ok (.ifCond .ne 11, 3) := by decide +kernel
theorem dX11_search_58 : decode cX11_search 58 = .ok (.new 119, 3) := by decide +kernel
theorem dX11_search_61 : decode cX11_search 61 = .ok (.dup, 1) := by decide +kernel
theorem dX11_search_62 : decode cX11_search 62 = .ok (.invokespecial 121, 3) := by decide +kernel
theorem dX11_search_65 : decode cX11_search 65 = .ok (.athrow, 1) := by decide +kernel
theorem dX11_search_66 : decode cX11_search 66 = .ok (.aload_n 0, 1) := by decide +kernel
theorem dX11_search_67 : decode cX11_search 67 = .ok (.invokevirtual 96, 3) := by decide +kernel
theorem dX11_search_70 : decode cX11_search 70 = .ok (.aload_n 0, 1) := by decide +kernel
theorem dX11_search_71 : decode cX11_search 71 = .ok (.getfield 50, 3) := by decide +kernel
theorem dX11_search_74 : decode cX11_search 74 = .ok (.aload_n 0, 1) := by decide +kernel
theorem dX11_search_75 : decode cX11_search 75 = .ok (.getfield 10, 3) := by decide +kernel
theorem dX11_search_78 : decode cX11_search 78 = .ok (.invokevirtual 201, 3) := by decide +kernel
theorem dX11_search_81 : decode cX11_search 81 = .ok (.aload_n 0, 1) := by decide +kernel
theorem dX11_search_82 : decode cX11_search 82 = .ok (.getfield 50, 3) := by decide +kernel
theorem dX11_search_85 : decode cX11_search 85 = .ok (.getfield 205, 3) := by decide +kernel
theorem dX11_search_88 : decode cX11_search 88 = .ok (.ireturn, 1) := by decide +kernel
def PX11_search (Q : Option Value → az_M → Prop) (Xs : String → az_M → Prop) : az_T := (s_la 0 (s_gr 12 0 (s_gi 9 3 (s_la 0 (s_gr 12 0 (s_gi 9 0 (s_bin f_mul (s_ic (nI 10) (s_if2 d_le (s_la 0 (s_ic (nI 1) (s_pz 12 9 (s_la 0 (s_gr 12 6 (s_la 0 (s_gr 12 0 (s_la 0 (s_gr 12 3 (s_cv 2 8 FX7_look (s_la 0 (s_gr 12 6 (s_gi 8 5 (s_if c_ne (s_la 0 (s_cv 0 12 FX11_beginChange (s_la 0 (s_gr 12 6 (s_la 0 (s_gr 12 0 (s_cv 1 8 FX7_writePlan (s_la 0 (s_gr 12 6 (s_gi 8 4 (s_ri Q))))))))))) (s_thr "java/lang/IllegalStateException" Xs))))))))))))))) (s_thr "java/lang/UnsupportedOperationException" Xs))))))))))
def FX11_search : az_FX := az_funX [true] 1 PX11_search
theorem okX11_search (l : Launch) (hlt : l.stackTraces = false) : az_metX l yX11_search cX11_search 1 (some .int) ({ frames := 7, cells := 1, slots := 6, locals := 259 } : Room) FX11_search := az_metX_of (own := RX11) (by decide +kernel) rfl (by decide) (fun X Q Xs C CX => by
  have h88 := az_ireturn C rfl dX11_search_88
  have h85 := az_getI (T := TX7) (N := 6) (j := 4) C gwRX7 rfl (by decide) (by decide) iIRX7_4 mFRX11_205 rfl dX11_search_85 h88
  have h82 := az_getR (T := TX11) (N := 10) (j := 6) C gwRX11 rfl (by decide) (by decide) iIRX11_6 mFRX11_50 rfl dX11_search_82 h85
  have h81 := az_aload_n C 0 rfl dX11_search_81 h82
  have h78 := az_callVN (ci := 8) C okX7_writePlan knX7_writePlan imX7_writePlan seX7_writePlan mNRX11_201 rfl (by decide) ⟨rfl, rfl, by decide, by decide⟩ dX11_search_78 h81
  have h75 := az_getR (T := TX11) (N := 10) (j := 0) C gwRX11 rfl (by decide) (by decide) iIRX11_0 mFRX11_10 rfl dX11_search_75 h78
  have h74 := az_aload_n C 0 rfl dX11_search_74 h75
  have h71 := az_getR (T := TX11) (N := 10) (j := 6) C gwRX11 rfl (by decide) (by decide) iIRX11_6 mFRX11_50 rfl dX11_search_71 h74
  have h70 := az_aload_n C 0 rfl dX11_search_70 h71
  have h67 := az_callV (ci := 12) C okX11_beginChange knX11_beginChange imX11_beginChange seX11_beginChange mLRX11_96 rfl (by decide) ⟨rfl, rfl, by decide, by decide⟩ dX11_search_67 h70
  have h66 := az_aload_n C 0 rfl dX11_search_66 h67
  have h58 := az_throw (cls := "java/lang/IllegalStateException") (names := ["java/lang/RuntimeException", "java/lang/Exception"]) C CX (by decide +kernel) (by decide +kernel) thkRX11_119 thi_IllegalStateException thaRX11_121 thgRX11_121 dX11_search_58 dX11_search_61 dX11_search_62 dX11_search_65 ⟨by decide, by decide, by decide, by decide⟩
  have h55 := az_if_ne (tgt := 66) C dX11_search_55 (by decide) h66 h58
  have h52 := az_getI (T := TX7) (N := 6) (j := 5) C gwRX7 rfl (by decide) (by decide) iIRX7_5 mFRX11_198 rfl dX11_search_52 h55
  have h49 := az_getR (T := TX11) (N := 10) (j := 6) C gwRX11 rfl (by decide) (by decide) iIRX11_6 mFRX11_50 rfl dX11_search_49 h52
  have h48 := az_aload_n C 0 rfl dX11_search_48 h49
  have h45 := az_callVN (ci := 8) C okX7_look knX7_look imX7_look seX7_look mNRX11_194 rfl (by decide) ⟨rfl, rfl, by decide, by decide⟩ dX11_search_45 h48
  have h42 := az_getR (T := TX11) (N := 10) (j := 3) C gwRX11 rfl (by decide) (by decide) iIRX11_3 mFRX11_29 rfl dX11_search_42 h45
  have h41 := az_aload_n C 0 rfl dX11_search_41 h42
  have h38 := az_getR (T := TX11) (N := 10) (j := 0) C gwRX11 rfl (by decide) (by decide) iIRX11_0 mFRX11_10 rfl dX11_search_38 h41
  have h37 := az_aload_n C 0 rfl dX11_search_37 h38
  have h34 := az_getR (T := TX11) (N := 10) (j := 6) C gwRX11 rfl (by decide) (by decide) iIRX11_6 mFRX11_50 rfl dX11_search_34 h37
  have h33 := az_aload_n C 0 rfl dX11_search_33 h34
  have h30 := az_putZ (T := TX11) (N := 10) (j := 9) C gwRX11 rfl (by decide) (by decide) tyX11 tyX11_ok nmX11 iIRX11_9 (by decide +kernel) rfl mFRX11_65 rfl dX11_search_30 h33
  have h29 := az_iconst (x := (nI 1)) C dX11_search_29 (by decide +kernel) h30
  have h28 := az_aload_n C 0 rfl dX11_search_28 h29
  have h20 := az_throw (cls := "java/lang/UnsupportedOperationException") (names := ["java/lang/RuntimeException", "java/lang/Exception"]) C CX (by decide +kernel) (by decide +kernel) thkRX11_191 thi_UnsupportedOperationException thaRX11_193 thgRX11_193 dX11_search_20 dX11_search_23 dX11_search_24 dX11_search_27 ⟨by decide, by decide, by decide, by decide⟩
  have h17 := az_icmp_le (tgt := 28) C dX11_search_17 (by decide) h28 h20
  have h15 := az_bipush (x := (nI 10)) C dX11_search_15 (by decide +kernel) h17
  have h14 := az_imul C dX11_search_14 h15
  have h11 := az_getI (T := TX8) (N := 11) (j := 0) C gwRX8 rfl (by decide) (by decide) iIRX8_0 mFRX11_143 rfl dX11_search_11 h14
  have h8 := az_getR (T := TX11) (N := 10) (j := 0) C gwRX11 rfl (by decide) (by decide) iIRX11_0 mFRX11_10 rfl dX11_search_8 h11
  have h7 := az_aload_n C 0 rfl dX11_search_7 h8
  have h4 := az_getI (T := TX8) (N := 11) (j := 3) C gwRX8 rfl (by decide) (by decide) iIRX8_3 mFRX11_75 rfl dX11_search_4 h7
  have h1 := az_getR (T := TX11) (N := 10) (j := 0) C gwRX11 rfl (by decide) (by decide) iIRX11_0 mFRX11_10 rfl dX11_search_1 h4
  have h0 := az_aload_n C 0 rfl dX11_search_0 h1
  exact h0) l hlt
theorem dX11_append_0 : decode cX11_append 0 = .ok (.iload_n 1, 1) := by decide +kernel
theorem dX11_append_1 : decode cX11_append 1 = .ok (.bipush 32, 2) := by decide +kernel
theorem dX11_append_3 : decode cX11_append 3 = .ok (.bipush 126, 2) := by decide +kernel
theorem dX11_append_5 : decode cX11_append 5 = .ok (.invokestatic 68, 3) := by decide +kernel
theorem dX11_append_8 : decode cX11_append 8 = .ok (.ifCond .ne 11, 3) := by decide +kernel
theorem dX11_append_11 : decode cX11_append 11 = .ok (.new 72, 3) := by decide +kernel
theorem dX11_append_14 : decode cX11_append 14 = .ok (.dup, 1) := by decide +kernel
theorem dX11_append_15 : decode cX11_append 15 = .ok (.invokespecial 74, 3) := by decide +kernel
theorem dX11_append_18 : decode cX11_append 18 = .ok (.athrow, 1) := by decide +kernel
theorem dX11_append_19 : decode cX11_append 19 = .ok (.aload_n 0, 1) := by decide +kernel
theorem dX11_append_20 : decode cX11_append 20 = .ok (.getfield 57, 3) := by decide +kernel
theorem dX11_append_23 : decode cX11_append 23 = .ok (.getfield 208, 3) := by decide +kernel
theorem dX11_append_26 : decode cX11_append 26 = .ok (.bipush 100, 2) := by decide +kernel
theorem dX11_append_28 : decode cX11_append 28 = .ok (.if_icmp .lt 11, 3) := by decide +kernel
theorem dX11_append_31 : decode cX11_append 31 = .ok (.new 119, 3) := by decide +kernel
theorem dX11_append_34 : decode cX11_append 34 = .ok (.dup, 1) := by decide +kernel
theorem dX11_append_35 : decode cX11_append 35 = .ok (.invokespecial 121, 3) := by decide +kernel
theorem dX11_append_38 : decode cX11_append 38 = .ok (.athrow, 1) := by decide +kernel
theorem dX11_append_39 : decode cX11_append 39 = .ok (.aload_n 0, 1) := by decide +kernel
theorem dX11_append_40 : decode cX11_append 40 = .ok (.getfield 57, 3) := by decide +kernel
theorem dX11_append_43 : decode cX11_append 43 = .ok (.iload_n 1, 1) := by decide +kernel
theorem dX11_append_44 : decode cX11_append 44 = .ok (.invokevirtual 211, 3) := by decide +kernel
theorem dX11_append_47 : decode cX11_append 47 = .ok (.aload_n 0, 1) := by decide +kernel
theorem dX11_append_48 : decode cX11_append 48 = .ok (.getfield 57, 3) := by decide +kernel
theorem dX11_append_51 : decode cX11_append 51 = .ok (.getfield 208, 3) := by decide +kernel
theorem dX11_append_54 : decode cX11_append 54 = .ok (.ireturn, 1) := by decide +kernel
def PX11_append (Q : Option Value → az_M → Prop) (Xs : String → az_M → Prop) : az_T := (s_li 1 (s_ic (nI 32) (s_ic (nI 126) (s_cs 3 FX11_within (s_if c_ne (s_la 0 (s_gr 12 7 (s_gi 7 1 (s_ic (nI 100) (s_if2 d_lt (s_la 0 (s_gr 12 7 (s_li 1 (s_cv 1 7 FX5_add (s_la 0 (s_gr 12 7 (s_gi 7 1 (s_ri Q)))))))) (s_thr "java/lang/IllegalStateException" Xs)))))) (s_thr "java/lang/IllegalArgumentException" Xs))))))
def FX11_append : az_FX := az_funX [true, false] 2 PX11_append
theorem okX11_append (l : Launch) (hlt : l.stackTraces = false) : az_metX l yX11_append cX11_append 2 (some .int) ({ frames := 7, cells := 1, slots := 6, locals := 122 } : Room) FX11_append := az_metX_of (own := RX11) (by decide +kernel) rfl (by decide) (fun X Q Xs C CX => by
  have h54 := az_ireturn C rfl dX11_append_54
  have h51 := az_getI (T := TX5) (N := 3) (j := 1) C gwRX5 rfl (by decide) (by decide) iIRX5_1 mFRX11_208 rfl dX11_append_51 h54
  have h48 := az_getR (T := TX11) (N := 10) (j := 7) C gwRX11 rfl (by decide) (by decide) iIRX11_7 mFRX11_57 rfl dX11_append_48 h51
  have h47 := az_aload_n C 0 rfl dX11_append_47 h48
  have h44 := az_callVN (ci := 7) C okX5_add knX5_add imX5_add seX5_add mNRX11_211 rfl (by decide) ⟨rfl, rfl, by decide, by decide⟩ dX11_append_44 h47
  have h43 := az_iload_n C 1 rfl dX11_append_43 h44
  have h40 := az_getR (T := TX11) (N := 10) (j := 7) C gwRX11 rfl (by decide) (by decide) iIRX11_7 mFRX11_57 rfl dX11_append_40 h43
  have h39 := az_aload_n C 0 rfl dX11_append_39 h40
  have h31 := az_throw (cls := "java/lang/IllegalStateException") (names := ["java/lang/RuntimeException", "java/lang/Exception"]) C CX (by decide +kernel) (by decide +kernel) thkRX11_119 thi_IllegalStateException thaRX11_121 thgRX11_121 dX11_append_31 dX11_append_34 dX11_append_35 dX11_append_38 ⟨by decide, by decide, by decide, by decide⟩
  have h28 := az_icmp_lt (tgt := 39) C dX11_append_28 (by decide) h39 h31
  have h26 := az_bipush (x := (nI 100)) C dX11_append_26 (by decide +kernel) h28
  have h23 := az_getI (T := TX5) (N := 3) (j := 1) C gwRX5 rfl (by decide) (by decide) iIRX5_1 mFRX11_208 rfl dX11_append_23 h26
  have h20 := az_getR (T := TX11) (N := 10) (j := 7) C gwRX11 rfl (by decide) (by decide) iIRX11_7 mFRX11_57 rfl dX11_append_20 h23
  have h19 := az_aload_n C 0 rfl dX11_append_19 h20
  have h11 := az_throw (cls := "java/lang/IllegalArgumentException") (names := ["java/lang/RuntimeException", "java/lang/Exception"]) C CX (by decide +kernel) (by decide +kernel) thkRX11_72 thi_IllegalArgumentException thaRX11_74 thgRX11_74 dX11_append_11 dX11_append_14 dX11_append_15 dX11_append_18 ⟨by decide, by decide, by decide, by decide⟩
  have h8 := az_if_ne (tgt := 19) C dX11_append_8 (by decide) h19 h11
  have h5 := az_callS C okX11_within knX11_within stX11_within mLRX11_68 ⟨rfl, rfl, by decide, by decide⟩ dX11_append_5 h8
  have h3 := az_bipush (x := (nI 126)) C dX11_append_3 (by decide +kernel) h5
  have h1 := az_bipush (x := (nI 32)) C dX11_append_1 (by decide +kernel) h3
  have h0 := az_iload_n C 1 rfl dX11_append_0 h1
  exact h0) l hlt
theorem dX11_readPlan_0 : decode cX11_readPlan 0 = .ok (.aload_n 0, 1) := by decide +kernel
theorem dX11_readPlan_1 : decode cX11_readPlan 1 = .ok (.getfield 57, 3) := by decide +kernel
theorem dX11_readPlan_4 : decode cX11_readPlan 4 = .ok (.aload_n 0, 1) := by decide +kernel
theorem dX11_readPlan_5 : decode cX11_readPlan 5 = .ok (.getfield 10, 3) := by decide +kernel
theorem dX11_readPlan_8 : decode cX11_readPlan 8 = .ok (.getfield 143, 3) := by decide +kernel
theorem dX11_readPlan_11 : decode cX11_readPlan 11 = .ok (.invokevirtual 215, 3) := by decide +kernel
theorem dX11_readPlan_14 : decode cX11_readPlan 14 = .ok (.istore_n 1, 1) := by decide +kernel
theorem dX11_readPlan_15 : decode cX11_readPlan 15 = .ok (.iload_n 1, 1) := by decide +kernel
theorem dX11_readPlan_16 : decode cX11_readPlan 16 = .ok (.ifCond .eq 31, 3) := by decide +kernel
theorem dX11_readPlan_19 : decode cX11_readPlan 19 = .ok (.aload_n 0, 1) := by decide +kernel
theorem dX11_readPlan_20 : decode cX11_readPlan 20 = .ok (.getfield 57, 3) := by decide +kernel
theorem dX11_readPlan_23 : decode cX11_readPlan 23 = .ok (.aload_n 0, 1) := by decide +kernel
theorem dX11_readPlan_24 : decode cX11_readPlan 24 = .ok (.getfield 10, 3) := by decide +kernel
theorem dX11_readPlan_27 : decode cX11_readPlan 27 = .ok (.getfield 143, 3) := by decide +kernel
theorem dX11_readPlan_30 : decode cX11_readPlan 30 = .ok (.invokevirtual 218, 3) := by decide +kernel
theorem dX11_readPlan_33 : decode cX11_readPlan 33 = .ok (.aload_n 0, 1) := by decide +kernel
theorem dX11_readPlan_34 : decode cX11_readPlan 34 = .ok (.getfield 10, 3) := by decide +kernel
theorem dX11_readPlan_37 : decode cX11_readPlan 37 = .ok (.getfield 75, 3) := by decide +kernel
theorem dX11_readPlan_40 : decode cX11_readPlan 40 = .ok (.if_icmp .ge 7, 3) := by decide +kernel
theorem dX11_readPlan_43 : decode cX11_readPlan 43 = .ok (.iconst 1, 1) := by decide +kernel
theorem dX11_readPlan_44 : decode cX11_readPlan 44 = .ok (.goto 4, 3) := by decide +kernel
theorem dX11_readPlan_47 : decode cX11_readPlan 47 = .ok (.iconst 0, 1) := by decide +kernel
theorem dX11_readPlan_48 : decode cX11_readPlan 48 = .ok (.istore_n 2, 1) := by decide +kernel
theorem dX11_readPlan_49 : decode cX11_readPlan 49 = .ok (.iload_n 1, 1) := by decide +kernel
theorem dX11_readPlan_50 : decode cX11_readPlan 50 = .ok (.ifCond .eq 20, 3) := by decide +kernel
theorem dX11_readPlan_53 : decode cX11_readPlan 53 = .ok (.aload_n 0, 1) := by decide +kernel
theorem dX11_readPlan_54 : decode cX11_readPlan 54 = .ok (.getfield 57, 3) := by decide +kernel
theorem dX11_readPlan_57 : decode cX11_readPlan 57 = .ok (.aload_n 0, 1) := by decide +kernel
theorem dX11_readPlan_58 : decode cX11_readPlan 58 = .ok (.getfield 10, 3) := by decide +kernel
theorem dX11_readPlan_61 : decode cX11_readPlan 61 = .ok (.getfield 143, 3) := by decide +kernel
theorem dX11_readPlan_64 : decode cX11_readPlan 64 = .ok (.invokevirtual 221, 3) := by decide +kernel
theorem dX11_readPlan_67 : decode cX11_readPlan 67 = .ok (.goto 4, 3) := by decide +kernel
theorem dX11_readPlan_70 : decode cX11_readPlan 70 = .ok (.iconst 0, 1) := by decide +kernel
theorem dX11_readPlan_71 : decode cX11_readPlan 71 = .ok (.istore_n 3, 1) := by decide +kernel
theorem dX11_readPlan_72 : decode cX11_readPlan 72 = .ok (.iload_n 2, 1) := by decide +kernel
theorem dX11_readPlan_73 : decode cX11_readPlan 73 = .ok (.ifCond .eq 18, 3) := by decide +kernel
theorem dX11_readPlan_76 : decode cX11_readPlan 76 = .ok (.aload_n 0, 1) := by decide +kernel
theorem dX11_readPlan_77 : decode cX11_readPlan 77 = .ok (.invokevirtual 96, 3) := by decide +kernel
theorem dX11_readPlan_80 : decode cX11_readPlan 80 = .ok (.aload_n 0, 1) := by decide +kernel
theorem dX11_readPlan_81 : decode cX11_readPlan 81 = .ok (.getfield 57, 3) := by decide +kernel
theorem dX11_readPlan_84 : decode cX11_readPlan 84 = .ok (.aload_n 0, 1) := by decide +kernel
theorem dX11_readPlan_85 : decode cX11_readPlan 85 = .ok (.getfield 10, 3) := by decide +kernel
theorem dX11_readPlan_88 : decode cX11_readPlan 88 = .ok (.invokevirtual 224, 3) := by decide +kernel
theorem dX11_readPlan_91 : decode cX11_readPlan 91 = .ok (.aload_n 0, 1) := by decide +kernel
theorem dX11_readPlan_92 : decode cX11_readPlan 92 = .ok (.getfield 57, 3) := by decide +kernel
theorem dX11_readPlan_95 : decode cX11_readPlan 95 = .ok (.iconst 0, 1) := by decide +kernel
theorem dX11_readPlan_96 : decode cX11_readPlan 96 = .ok (.putfield 208, 3) := by decide +kernel
theorem dX11_readPlan_99 : decode cX11_readPlan 99 = .ok (.iload_n 1, 1) := by decide +kernel
theorem dX11_readPlan_100 : decode cX11_readPlan 100 = .ok (.ifCond .ne 11, 3) := by decide +kernel
theorem dX11_readPlan_103 : decode cX11_readPlan 103 = .ok (.new 72, 3) := by decide +kernel
theorem dX11_readPlan_106 : decode cX11_readPlan 106 = .ok (.dup, 1) := by decide +kernel
theorem dX11_readPlan_107 : decode cX11_readPlan 107 = .ok (.invokespecial 74, 3) := by decide +kernel
theorem dX11_readPlan_110 : decode cX11_readPlan 110 = .ok (.athrow, 1) := by decide +kernel
theorem dX11_readPlan_111 : decode cX11_readPlan 111 = .ok (.iload_n 2, 1) := by decide +kernel
theorem dX11_readPlan_112 : decode cX11_readPlan 112 = .ok (.ifCond .ne 11, 3) := by decide +kernel
theorem dX11_readPlan_115 : decode cX11_readPlan 115 = .ok (.new 191, 3) := by decide +kernel
theorem dX11_readPlan_118 : decode cX11_readPlan 118 = .ok (.dup, 1) := by decide +kernel
theorem dX11_readPlan_119 : decode cX11_readPlan 119 = .ok (.invokespecial 193, 3) := by decide +kernel
theorem dX11_readPlan_122 : decode cX11_readPlan 122 = .ok (.athrow, 1) := by decide +kernel
theorem dX11_readPlan_123 : decode cX11_readPlan 123 = .ok (.iload_n 3, 1) := by decide +kernel
theorem dX11_readPlan_124 : decode cX11_readPlan 124 = .ok (.ireturn, 1) := by decide +kernel
def LX11_readPlan_91 (Q : Option Value → az_M → Prop) (Xs : String → az_M → Prop) : az_T := (s_la 0 (s_gr 12 7 (s_ic (nI 0) (s_pi 7 1 (s_li 1 (s_if c_ne (s_li 2 (s_if c_ne (s_li 3 (s_ri Q)) (s_thr "java/lang/UnsupportedOperationException" Xs))) (s_thr "java/lang/IllegalArgumentException" Xs)))))))
theorem okLX11_readPlan_91 {X : az_X} {Q : Option Value → az_M → Prop} {Xs : String → az_M → Prop} (C : az_C X cX11_readPlan 4 RX11 (az_ts yX11_readPlan cX11_readPlan 4 (some .int)) ({ frames := 7, cells := 1, slots := 6, locals := 163 } : Room) (some .int) Q) (CX : az_CX X ({ frames := 7, cells := 1, slots := 6, locals := 163 } : Room) Q Xs) : az_ok X 91 (LX11_readPlan_91 Q Xs) := by
  have h124 := az_ireturn C rfl dX11_readPlan_124
  have h123 := az_iload_n C 3 rfl dX11_readPlan_123 h124
  have h115 := az_throw (cls := "java/lang/UnsupportedOperationException") (names := ["java/lang/RuntimeException", "java/lang/Exception"]) C CX (by decide +kernel) (by decide +kernel) thkRX11_191 thi_UnsupportedOperationException thaRX11_193 thgRX11_193 dX11_readPlan_115 dX11_readPlan_118 dX11_readPlan_119 dX11_readPlan_122 ⟨by decide, by decide, by decide, by decide⟩
  have h112 := az_if_ne (tgt := 123) C dX11_readPlan_112 (by decide) h123 h115
  have h111 := az_iload_n C 2 rfl dX11_readPlan_111 h112
  have h103 := az_throw (cls := "java/lang/IllegalArgumentException") (names := ["java/lang/RuntimeException", "java/lang/Exception"]) C CX (by decide +kernel) (by decide +kernel) thkRX11_72 thi_IllegalArgumentException thaRX11_74 thgRX11_74 dX11_readPlan_103 dX11_readPlan_106 dX11_readPlan_107 dX11_readPlan_110 ⟨by decide, by decide, by decide, by decide⟩
  have h100 := az_if_ne (tgt := 111) C dX11_readPlan_100 (by decide) h111 h103
  have h99 := az_iload_n C 1 rfl dX11_readPlan_99 h100
  have h96 := az_putI (T := TX5) (N := 3) (j := 1) C gwRX5 rfl (by decide) (by decide) tyX5 tyX5_ok nmX5 iIRX5_1 (by decide +kernel) rfl mFRX11_208 rfl dX11_readPlan_96 h99
  have h95 := az_iconst (x := (nI 0)) C dX11_readPlan_95 (by decide +kernel) h96
  have h92 := az_getR (T := TX11) (N := 10) (j := 7) C gwRX11 rfl (by decide) (by decide) iIRX11_7 mFRX11_57 rfl dX11_readPlan_92 h95
  have h91 := az_aload_n C 0 rfl dX11_readPlan_91 h92
  exact h91
def LX11_readPlan_71 (Q : Option Value → az_M → Prop) (Xs : String → az_M → Prop) : az_T := (s_si 3 (s_li 2 (s_if c_eq (s_kp [true, true, true, true] (LX11_readPlan_91 Q Xs)) (s_la 0 (s_cv 0 12 FX11_beginChange (s_la 0 (s_gr 12 7 (s_la 0 (s_gr 12 0 (s_cv 1 7 FX5_writePlan (s_kp [true, true, true, true] (LX11_readPlan_91 Q Xs))))))))))))
theorem okLX11_readPlan_71 {X : az_X} {Q : Option Value → az_M → Prop} {Xs : String → az_M → Prop} (C : az_C X cX11_readPlan 4 RX11 (az_ts yX11_readPlan cX11_readPlan 4 (some .int)) ({ frames := 7, cells := 1, slots := 6, locals := 163 } : Room) (some .int) Q) (CX : az_CX X ({ frames := 7, cells := 1, slots := 6, locals := 163 } : Room) Q Xs) : az_ok X 71 (LX11_readPlan_71 Q Xs) := by
  have h88 := az_callVN (ci := 7) C okX5_writePlan knX5_writePlan imX5_writePlan seX5_writePlan mNRX11_224 rfl (by decide) ⟨rfl, rfl, by decide, by decide⟩ dX11_readPlan_88 (az_keep [true, true, true, true] (okLX11_readPlan_91 C CX))
  have h85 := az_getR (T := TX11) (N := 10) (j := 0) C gwRX11 rfl (by decide) (by decide) iIRX11_0 mFRX11_10 rfl dX11_readPlan_85 h88
  have h84 := az_aload_n C 0 rfl dX11_readPlan_84 h85
  have h81 := az_getR (T := TX11) (N := 10) (j := 7) C gwRX11 rfl (by decide) (by decide) iIRX11_7 mFRX11_57 rfl dX11_readPlan_81 h84
  have h80 := az_aload_n C 0 rfl dX11_readPlan_80 h81
  have h77 := az_callV (ci := 12) C okX11_beginChange knX11_beginChange imX11_beginChange seX11_beginChange mLRX11_96 rfl (by decide) ⟨rfl, rfl, by decide, by decide⟩ dX11_readPlan_77 h80
  have h76 := az_aload_n C 0 rfl dX11_readPlan_76 h77
  have h73 := az_if_eq (tgt := 91) C dX11_readPlan_73 (by decide) (az_keep [true, true, true, true] (okLX11_readPlan_91 C CX)) h76
  have h72 := az_iload_n C 2 rfl dX11_readPlan_72 h73
  have h71 := az_istore_n C 3 rfl (by decide) dX11_readPlan_71 h72
  exact h71
def LX11_readPlan_48 (Q : Option Value → az_M → Prop) (Xs : String → az_M → Prop) : az_T := (s_si 2 (s_li 1 (s_if c_eq (s_ic (nI 0) (s_kp [true, true, true, false] (LX11_readPlan_71 Q Xs))) (s_la 0 (s_gr 12 7 (s_la 0 (s_gr 12 0 (s_gi 9 0 (s_cv 1 7 FX5_rows (s_kp [true, true, true, false] (LX11_readPlan_71 Q Xs)))))))))))
theorem okLX11_readPlan_48 {X : az_X} {Q : Option Value → az_M → Prop} {Xs : String → az_M → Prop} (C : az_C X cX11_readPlan 4 RX11 (az_ts yX11_readPlan cX11_readPlan 4 (some .int)) ({ frames := 7, cells := 1, slots := 6, locals := 163 } : Room) (some .int) Q) (CX : az_CX X ({ frames := 7, cells := 1, slots := 6, locals := 163 } : Room) Q Xs) : az_ok X 48 (LX11_readPlan_48 Q Xs) := by
  have h70 := az_iconst (x := (nI 0)) C dX11_readPlan_70 (by decide +kernel) (az_keep [true, true, true, false] (okLX11_readPlan_71 C CX))
  have h67 := az_goto (tgt := 71) C dX11_readPlan_67 (by decide) (az_keep [true, true, true, false] (okLX11_readPlan_71 C CX))
  have h64 := az_callVN (ci := 7) C okX5_rows knX5_rows imX5_rows seX5_rows mNRX11_221 rfl (by decide) ⟨rfl, rfl, by decide, by decide⟩ dX11_readPlan_64 h67
  have h61 := az_getI (T := TX8) (N := 11) (j := 0) C gwRX8 rfl (by decide) (by decide) iIRX8_0 mFRX11_143 rfl dX11_readPlan_61 h64
  have h58 := az_getR (T := TX11) (N := 10) (j := 0) C gwRX11 rfl (by decide) (by decide) iIRX11_0 mFRX11_10 rfl dX11_readPlan_58 h61
  have h57 := az_aload_n C 0 rfl dX11_readPlan_57 h58
  have h54 := az_getR (T := TX11) (N := 10) (j := 7) C gwRX11 rfl (by decide) (by decide) iIRX11_7 mFRX11_57 rfl dX11_readPlan_54 h57
  have h53 := az_aload_n C 0 rfl dX11_readPlan_53 h54
  have h50 := az_if_eq (tgt := 70) C dX11_readPlan_50 (by decide) h70 h53
  have h49 := az_iload_n C 1 rfl dX11_readPlan_49 h50
  have h48 := az_istore_n C 2 rfl (by decide) dX11_readPlan_48 h49
  exact h48
def LX11_readPlan_47 (Q : Option Value → az_M → Prop) (Xs : String → az_M → Prop) : az_T := (s_ic (nI 0) (s_kp [true, true, false, false] (LX11_readPlan_48 Q Xs)))
theorem okLX11_readPlan_47 {X : az_X} {Q : Option Value → az_M → Prop} {Xs : String → az_M → Prop} (C : az_C X cX11_readPlan 4 RX11 (az_ts yX11_readPlan cX11_readPlan 4 (some .int)) ({ frames := 7, cells := 1, slots := 6, locals := 163 } : Room) (some .int) Q) (CX : az_CX X ({ frames := 7, cells := 1, slots := 6, locals := 163 } : Room) Q Xs) : az_ok X 47 (LX11_readPlan_47 Q Xs) := by
  have h47 := az_iconst (x := (nI 0)) C dX11_readPlan_47 (by decide +kernel) (az_keep [true, true, false, false] (okLX11_readPlan_48 C CX))
  exact h47
def PX11_readPlan (Q : Option Value → az_M → Prop) (Xs : String → az_M → Prop) : az_T := (s_la 0 (s_gr 12 7 (s_la 0 (s_gr 12 0 (s_gi 9 0 (s_cv 1 7 FX5_isWellFormed (s_si 1 (s_li 1 (s_if c_eq (s_kp [true, true, false, false] (LX11_readPlan_47 Q Xs)) (s_la 0 (s_gr 12 7 (s_la 0 (s_gr 12 0 (s_gi 9 0 (s_cv 1 7 FX5_greatestUnit (s_la 0 (s_gr 12 0 (s_gi 9 3 (s_if2 d_ge (s_kp [true, true, false, false] (LX11_readPlan_47 Q Xs)) (s_ic (nI 1) (s_kp [true, true, false, false] (LX11_readPlan_48 Q Xs))))))))))))))))))))))
def FX11_readPlan : az_FX := az_funX [true] 4 PX11_readPlan
theorem okX11_readPlan (l : Launch) (hlt : l.stackTraces = false) : az_metX l yX11_readPlan cX11_readPlan 4 (some .int) ({ frames := 7, cells := 1, slots := 6, locals := 163 } : Room) FX11_readPlan := az_metX_of (own := RX11) (by decide +kernel) rfl (by decide) (fun X Q Xs C CX => by
  have h44 := az_goto (tgt := 48) C dX11_readPlan_44 (by decide) (az_keep [true, true, false, false] (okLX11_readPlan_48 C CX))
  have h43 := az_iconst (x := (nI 1)) C dX11_readPlan_43 (by decide +kernel) h44
  have h40 := az_icmp_ge (tgt := 47) C dX11_readPlan_40 (by decide) (az_keep [true, true, false, false] (okLX11_readPlan_47 C CX)) h43
  have h37 := az_getI (T := TX8) (N := 11) (j := 3) C gwRX8 rfl (by decide) (by decide) iIRX8_3 mFRX11_75 rfl dX11_readPlan_37 h40
  have h34 := az_getR (T := TX11) (N := 10) (j := 0) C gwRX11 rfl (by decide) (by decide) iIRX11_0 mFRX11_10 rfl dX11_readPlan_34 h37
  have h33 := az_aload_n C 0 rfl dX11_readPlan_33 h34
  have h30 := az_callVN (ci := 7) C okX5_greatestUnit knX5_greatestUnit imX5_greatestUnit seX5_greatestUnit mNRX11_218 rfl (by decide) ⟨rfl, rfl, by decide, by decide⟩ dX11_readPlan_30 h33
  have h27 := az_getI (T := TX8) (N := 11) (j := 0) C gwRX8 rfl (by decide) (by decide) iIRX8_0 mFRX11_143 rfl dX11_readPlan_27 h30
  have h24 := az_getR (T := TX11) (N := 10) (j := 0) C gwRX11 rfl (by decide) (by decide) iIRX11_0 mFRX11_10 rfl dX11_readPlan_24 h27
  have h23 := az_aload_n C 0 rfl dX11_readPlan_23 h24
  have h20 := az_getR (T := TX11) (N := 10) (j := 7) C gwRX11 rfl (by decide) (by decide) iIRX11_7 mFRX11_57 rfl dX11_readPlan_20 h23
  have h19 := az_aload_n C 0 rfl dX11_readPlan_19 h20
  have h16 := az_if_eq (tgt := 47) C dX11_readPlan_16 (by decide) (az_keep [true, true, false, false] (okLX11_readPlan_47 C CX)) h19
  have h15 := az_iload_n C 1 rfl dX11_readPlan_15 h16
  have h14 := az_istore_n C 1 rfl (by decide) dX11_readPlan_14 h15
  have h11 := az_callVN (ci := 7) C okX5_isWellFormed knX5_isWellFormed imX5_isWellFormed seX5_isWellFormed mNRX11_215 rfl (by decide) ⟨rfl, rfl, by decide, by decide⟩ dX11_readPlan_11 h14
  have h8 := az_getI (T := TX8) (N := 11) (j := 0) C gwRX8 rfl (by decide) (by decide) iIRX8_0 mFRX11_143 rfl dX11_readPlan_8 h11
  have h5 := az_getR (T := TX11) (N := 10) (j := 0) C gwRX11 rfl (by decide) (by decide) iIRX11_0 mFRX11_10 rfl dX11_readPlan_5 h8
  have h4 := az_aload_n C 0 rfl dX11_readPlan_4 h5
  have h1 := az_getR (T := TX11) (N := 10) (j := 7) C gwRX11 rfl (by decide) (by decide) iIRX11_7 mFRX11_57 rfl dX11_readPlan_1 h4
  have h0 := az_aload_n C 0 rfl dX11_readPlan_0 h1
  exact h0) l hlt
theorem dX11_errorPosition_0 : decode cX11_errorPosition 0 = .ok (.aload_n 0, 1) := by decide +kernel
theorem dX11_errorPosition_1 : decode cX11_errorPosition 1 = .ok (.getfield 57, 3) := by decide +kernel
theorem dX11_errorPosition_4 : decode cX11_errorPosition 4 = .ok (.getfield 225, 3) := by decide +kernel
theorem dX11_errorPosition_7 : decode cX11_errorPosition 7 = .ok (.ifCond .ge 11, 3) := by decide +kernel
theorem dX11_errorPosition_10 : decode cX11_errorPosition 10 = .ok (.new 228, 3) := by decide +kernel
theorem dX11_errorPosition_13 : decode cX11_errorPosition 13 = .ok (.dup, 1) := by decide +kernel
theorem dX11_errorPosition_14 : decode cX11_errorPosition 14 = .ok (.invokespecial 230, 3) := by decide +kernel
theorem dX11_errorPosition_17 : decode cX11_errorPosition 17 = .ok (.athrow, 1) := by decide +kernel
theorem dX11_errorPosition_18 : decode cX11_errorPosition 18 = .ok (.aload_n 0, 1) := by decide +kernel
theorem dX11_errorPosition_19 : decode cX11_errorPosition 19 = .ok (.getfield 57, 3) := by decide +kernel
theorem dX11_errorPosition_22 : decode cX11_errorPosition 22 = .ok (.getfield 225, 3) := by decide +kernel
theorem dX11_errorPosition_25 : decode cX11_errorPosition 25 = .ok (.ireturn, 1) := by decide +kernel
def PX11_errorPosition (Q : Option Value → az_M → Prop) (Xs : String → az_M → Prop) : az_T := (s_la 0 (s_gr 12 7 (s_gi 7 2 (s_if c_ge (s_la 0 (s_gr 12 7 (s_gi 7 2 (s_ri Q)))) (s_thr "java/util/NoSuchElementException" Xs)))))
def FX11_errorPosition : az_FX := az_funX [true] 1 PX11_errorPosition
theorem okX11_errorPosition (l : Launch) (hlt : l.stackTraces = false) : az_metX l yX11_errorPosition cX11_errorPosition 1 (some .int) ({ frames := 7, cells := 1, slots := 6, locals := 100 } : Room) FX11_errorPosition := az_metX_of (own := RX11) (by decide +kernel) rfl (by decide) (fun X Q Xs C CX => by
  have h25 := az_ireturn C rfl dX11_errorPosition_25
  have h22 := az_getI (T := TX5) (N := 3) (j := 2) C gwRX5 rfl (by decide) (by decide) iIRX5_2 mFRX11_225 rfl dX11_errorPosition_22 h25
  have h19 := az_getR (T := TX11) (N := 10) (j := 7) C gwRX11 rfl (by decide) (by decide) iIRX11_7 mFRX11_57 rfl dX11_errorPosition_19 h22
  have h18 := az_aload_n C 0 rfl dX11_errorPosition_18 h19
  have h10 := az_throw (cls := "java/util/NoSuchElementException") (names := ["java/lang/RuntimeException", "java/lang/Exception"]) C CX (by decide +kernel) (by decide +kernel) thkRX11_228 thi_NoSuchElementException thaRX11_230 thgRX11_230 dX11_errorPosition_10 dX11_errorPosition_13 dX11_errorPosition_14 dX11_errorPosition_17 ⟨by decide, by decide, by decide, by decide⟩
  have h7 := az_if_ge (tgt := 18) C dX11_errorPosition_7 (by decide) h18 h10
  have h4 := az_getI (T := TX5) (N := 3) (j := 2) C gwRX5 rfl (by decide) (by decide) iIRX5_2 mFRX11_225 rfl dX11_errorPosition_4 h7
  have h1 := az_getR (T := TX11) (N := 10) (j := 7) C gwRX11 rfl (by decide) (by decide) iIRX11_7 mFRX11_57 rfl dX11_errorPosition_1 h4
  have h0 := az_aload_n C 0 rfl dX11_errorPosition_0 h1
  exact h0) l hlt
theorem dX11_output_0 : decode cX11_output 0 = .ok (.aload_n 0, 1) := by decide +kernel
theorem dX11_output_1 : decode cX11_output 1 = .ok (.iload_n 1, 1) := by decide +kernel
theorem dX11_output_2 : decode cX11_output 2 = .ok (.invokevirtual 126, 3) := by decide +kernel
theorem dX11_output_5 : decode cX11_output 5 = .ok (.ifCond .eq 11, 3) := by decide +kernel
theorem dX11_output_8 : decode cX11_output 8 = .ok (.aload_n 0, 1) := by decide +kernel
theorem dX11_output_9 : decode cX11_output 9 = .ok (.iload_n 2, 1) := by decide +kernel
theorem dX11_output_10 : decode cX11_output 10 = .ok (.invokevirtual 90, 3) := by decide +kernel
theorem dX11_output_13 : decode cX11_output 13 = .ok (.ifCond .ne 11, 3) := by decide +kernel
theorem dX11_output_16 : decode cX11_output 16 = .ok (.new 93, 3) := by decide +kernel
theorem dX11_output_19 : decode cX11_output 19 = .ok (.dup, 1) := by decide +kernel
theorem dX11_output_20 : decode cX11_output 20 = .ok (.invokespecial 95, 3) := by decide +kernel
theorem dX11_output_23 : decode cX11_output 23 = .ok (.athrow, 1) := by decide +kernel
theorem dX11_output_24 : decode cX11_output 24 = .ok (.iload_n 3, 1) := by decide +kernel
theorem dX11_output_25 : decode cX11_output 25 = .ok (.iconst 0, 1) := by decide +kernel
theorem dX11_output_26 : decode cX11_output 26 = .ok (.bipush 6, 2) := by decide +kernel
theorem dX11_output_28 : decode cX11_output 28 = .ok (.invokestatic 68, 3) := by decide +kernel
theorem dX11_output_31 : decode cX11_output 31 = .ok (.ifCond .ne 11, 3) := by decide +kernel
theorem dX11_output_34 : decode cX11_output 34 = .ok (.new 72, 3) := by decide +kernel
theorem dX11_output_37 : decode cX11_output 37 = .ok (.dup, 1) := by decide +kernel
theorem dX11_output_38 : decode cX11_output 38 = .ok (.invokespecial 74, 3) := by decide +kernel
theorem dX11_output_41 : decode cX11_output 41 = .ok (.athrow, 1) := by decide +kernel
theorem dX11_output_42 : decode cX11_output 42 = .ok (.aload_n 0, 1) := by decide +kernel
theorem dX11_output_43 : decode cX11_output 43 = .ok (.invokevirtual 136, 3) := by decide +kernel
theorem dX11_output_46 : decode cX11_output 46 = .ok (.iload_n 3, 1) := by decide +kernel
theorem dX11_output_47 : decode cX11_output 47 = .ok (.tableswitch 112 0 5 #[37, 49, 61, 73, 85, 97], 37) := by decide +kernel
theorem dX11_output_84 : decode cX11_output 84 = .ok (.aload_n 0, 1) := by decide +kernel
theorem dX11_output_85 : decode cX11_output 85 = .ok (.getfield 29, 3) := by decide +kernel
theorem dX11_output_88 : decode cX11_output 88 = .ok (.getfield 231, 3) := by decide +kernel
theorem dX11_output_91 : decode cX11_output 91 = .ok (.iload_n 1, 1) := by decide +kernel
theorem dX11_output_92 : decode cX11_output 92 = .ok (.aaload, 1) := by decide +kernel
theorem dX11_output_93 : decode cX11_output 93 = .ok (.iload_n 2, 1) := by decide +kernel
theorem dX11_output_94 : decode cX11_output 94 = .ok (.iaload, 1) := by decide +kernel
theorem dX11_output_95 : decode cX11_output 95 = .ok (.ireturn, 1) := by decide +kernel
theorem dX11_output_96 : decode cX11_output 96 = .ok (.aload_n 0, 1) := by decide +kernel
theorem dX11_output_97 : decode cX11_output 97 = .ok (.getfield 29, 3) := by decide +kernel
theorem dX11_output_100 : decode cX11_output 100 = .ok (.getfield 234, 3) := by decide +kernel
theorem dX11_output_103 : decode cX11_output 103 = .ok (.iload_n 1, 1) := by decide +kernel
theorem dX11_output_104 : decode cX11_output 104 = .ok (.aaload, 1) := by decide +kernel
theorem dX11_output_105 : decode cX11_output 105 = .ok (.iload_n 2, 1) := by decide +kernel
theorem dX11_output_106 : decode cX11_output 106 = .ok (.iaload, 1) := by decide +kernel
theorem dX11_output_107 : decode cX11_output 107 = .ok (.ireturn, 1) := by decide +kernel
theorem dX11_output_108 : decode cX11_output 108 = .ok (.aload_n 0, 1) := by decide +kernel
theorem dX11_output_109 : decode cX11_output 109 = .ok (.getfield 29, 3) := by decide +kernel
theorem dX11_output_112 : decode cX11_output 112 = .ok (.getfield 237, 3) := by decide +kernel
theorem dX11_output_115 : decode cX11_output 115 = .ok (.iload_n 1, 1) := by decide +kernel
theorem dX11_output_116 : decode cX11_output 116 = .ok (.aaload, 1) := by decide +kernel
theorem dX11_output_117 : decode cX11_output 117 = .ok (.iload_n 2, 1) := by decide +kernel
theorem dX11_output_118 : decode cX11_output 118 = .ok (.iaload, 1) := by decide +kernel
theorem dX11_output_119 : decode cX11_output 119 = .ok (.ireturn, 1) := by decide +kernel
theorem dX11_output_120 : decode cX11_output 120 = .ok (.aload_n 0, 1) := by decide +kernel
theorem dX11_output_121 : decode cX11_output 121 = .ok (.getfield 29, 3) := by decide +kernel
theorem dX11_output_124 : decode cX11_output 124 = .ok (.getfield 240, 3) := by decide +kernel
theorem dX11_output_127 : decode cX11_output 127 = .ok (.iload_n 1, 1) := by decide +kernel
theorem dX11_output_128 : decode cX11_output 128 = .ok (.aaload, 1) := by decide +kernel
theorem dX11_output_129 : decode cX11_output 129 = .ok (.iload_n 2, 1) := by decide +kernel
theorem dX11_output_130 : decode cX11_output 130 = .ok (.iaload, 1) := by decide +kernel
theorem dX11_output_131 : decode cX11_output 131 = .ok (.ireturn, 1) := by decide +kernel
theorem dX11_output_132 : decode cX11_output 132 = .ok (.aload_n 0, 1) := by decide +kernel
theorem dX11_output_133 : decode cX11_output 133 = .ok (.getfield 29, 3) := by decide +kernel
theorem dX11_output_136 : decode cX11_output 136 = .ok (.getfield 243, 3) := by decide +kernel
theorem dX11_output_139 : decode cX11_output 139 = .ok (.iload_n 1, 1) := by decide +kernel
theorem dX11_output_140 : decode cX11_output 140 = .ok (.aaload, 1) := by decide +kernel
theorem dX11_output_141 : decode cX11_output 141 = .ok (.iload_n 2, 1) := by decide +kernel
theorem dX11_output_142 : decode cX11_output 142 = .ok (.iaload, 1) := by decide +kernel
theorem dX11_output_143 : decode cX11_output 143 = .ok (.ireturn, 1) := by decide +kernel
theorem dX11_output_144 : decode cX11_output 144 = .ok (.aload_n 0, 1) := by decide +kernel
theorem dX11_output_145 : decode cX11_output 145 = .ok (.getfield 29, 3) := by decide +kernel
theorem dX11_output_148 : decode cX11_output 148 = .ok (.getfield 139, 3) := by decide +kernel
theorem dX11_output_151 : decode cX11_output 151 = .ok (.getfield 246, 3) := by decide +kernel
theorem dX11_output_154 : decode cX11_output 154 = .ok (.iload_n 1, 1) := by decide +kernel
theorem dX11_output_155 : decode cX11_output 155 = .ok (.aaload, 1) := by decide +kernel
theorem dX11_output_156 : decode cX11_output 156 = .ok (.iload_n 2, 1) := by decide +kernel
theorem dX11_output_157 : decode cX11_output 157 = .ok (.iaload, 1) := by decide +kernel
theorem dX11_output_158 : decode cX11_output 158 = .ok (.ireturn, 1) := by decide +kernel
theorem dX11_output_159 : decode cX11_output 159 = .ok (.aload_n 0, 1) := by decide +kernel
theorem dX11_output_160 : decode cX11_output 160 = .ok (.getfield 29, 3) := by decide +kernel
theorem dX11_output_163 : decode cX11_output 163 = .ok (.getfield 139, 3) := by decide +kernel
theorem dX11_output_166 : decode cX11_output 166 = .ok (.getfield 249, 3) := by decide +kernel
theorem dX11_output_169 : decode cX11_output 169 = .ok (.iload_n 1, 1) := by decide +kernel
theorem dX11_output_170 : decode cX11_output 170 = .ok (.aaload, 1) := by decide +kernel
theorem dX11_output_171 : decode cX11_output 171 = .ok (.iload_n 2, 1) := by decide +kernel
theorem dX11_output_172 : decode cX11_output 172 = .ok (.iaload, 1) := by decide +kernel
theorem dX11_output_173 : decode cX11_output 173 = .ok (.ireturn, 1) := by decide +kernel
def LX11_output_16 (Q : Option Value → az_M → Prop) (Xs : String → az_M → Prop) : az_T := (s_thr "java/lang/IndexOutOfBoundsException" Xs)
theorem okLX11_output_16 {X : az_X} {Q : Option Value → az_M → Prop} {Xs : String → az_M → Prop} (C : az_C X cX11_output 4 RX11 (az_ts yX11_output cX11_output 4 (some .int)) ({ frames := 7, cells := 1, slots := 6, locals := 252 } : Room) (some .int) Q) (CX : az_CX X ({ frames := 7, cells := 1, slots := 6, locals := 252 } : Room) Q Xs) : az_ok X 16 (LX11_output_16 Q Xs) := by
  have h16 := az_throw (cls := "java/lang/IndexOutOfBoundsException") (names := ["java/lang/RuntimeException", "java/lang/Exception"]) C CX (by decide +kernel) (by decide +kernel) thkRX11_93 thi_IndexOutOfBoundsException thaRX11_95 thgRX11_95 dX11_output_16 dX11_output_19 dX11_output_20 dX11_output_23 ⟨by decide, by decide, by decide, by decide⟩
  exact h16
def PX11_output (Q : Option Value → az_M → Prop) (Xs : String → az_M → Prop) : az_T := (s_la 0 (s_li 1 (s_cv 1 12 FX11_isUnit (s_if c_eq (s_kp [false, false, false, false] (LX11_output_16 Q Xs)) (s_la 0 (s_li 2 (s_cv 1 12 FX11_isHour (s_if c_ne (s_li 3 (s_ic (nI 0) (s_ic (nI 6) (s_cs 3 FX11_within (s_if c_ne (s_la 0 (s_cv 0 12 FX11_refresh (s_li 3 (s_sw 0 [(s_la 0 (s_gr 12 3 (s_gr 6 3 (s_li 1 (s_aa 25 (s_li 2 (s_al 20 (s_ri Q)))))))), (s_la 0 (s_gr 12 3 (s_gr 6 4 (s_li 1 (s_aa 25 (s_li 2 (s_al 20 (s_ri Q)))))))), (s_la 0 (s_gr 12 3 (s_gr 6 5 (s_li 1 (s_aa 25 (s_li 2 (s_al 20 (s_ri Q)))))))), (s_la 0 (s_gr 12 3 (s_gr 6 6 (s_li 1 (s_aa 25 (s_li 2 (s_al 20 (s_ri Q)))))))), (s_la 0 (s_gr 12 3 (s_gr 6 7 (s_li 1 (s_aa 25 (s_li 2 (s_al 20 (s_ri Q)))))))), (s_la 0 (s_gr 12 3 (s_gr 6 1 (s_gr 10 1 (s_li 1 (s_aa 25 (s_li 2 (s_al 20 (s_ri Q)))))))))] (s_la 0 (s_gr 12 3 (s_gr 6 1 (s_gr 10 2 (s_li 1 (s_aa 25 (s_li 2 (s_al 20 (s_ri Q))))))))))))) (s_thr "java/lang/IllegalArgumentException" Xs)))))) (s_kp [false, false, false, false] (LX11_output_16 Q Xs))))))))))
def FX11_output : az_FX := az_funX [true, false, false, false] 4 PX11_output
theorem okX11_output (l : Launch) (hlt : l.stackTraces = false) : az_metX l yX11_output cX11_output 4 (some .int) ({ frames := 7, cells := 1, slots := 6, locals := 252 } : Room) FX11_output := az_metX_of (own := RX11) (by decide +kernel) rfl (by decide) (fun X Q Xs C CX => by
  have h95 := az_ireturn C rfl dX11_output_95
  have h94 := az_iald C dX11_output_94 h95
  have h93 := az_iload_n C 2 rfl dX11_output_93 h94
  have h92 := az_aald2 C dX11_output_92 h93
  have h91 := az_iload_n C 1 rfl dX11_output_91 h92
  have h88 := az_getR (T := TX4) (N := 10) (j := 3) C gwRX4 rfl (by decide) (by decide) iIRX4_3 mFRX11_231 rfl dX11_output_88 h91
  have h85 := az_getR (T := TX11) (N := 10) (j := 3) C gwRX11 rfl (by decide) (by decide) iIRX11_3 mFRX11_29 rfl dX11_output_85 h88
  have h84 := az_aload_n C 0 rfl dX11_output_84 h85
  have h107 := az_ireturn C rfl dX11_output_107
  have h106 := az_iald C dX11_output_106 h107
  have h105 := az_iload_n C 2 rfl dX11_output_105 h106
  have h104 := az_aald2 C dX11_output_104 h105
  have h103 := az_iload_n C 1 rfl dX11_output_103 h104
  have h100 := az_getR (T := TX4) (N := 10) (j := 4) C gwRX4 rfl (by decide) (by decide) iIRX4_4 mFRX11_234 rfl dX11_output_100 h103
  have h97 := az_getR (T := TX11) (N := 10) (j := 3) C gwRX11 rfl (by decide) (by decide) iIRX11_3 mFRX11_29 rfl dX11_output_97 h100
  have h96 := az_aload_n C 0 rfl dX11_output_96 h97
  have h119 := az_ireturn C rfl dX11_output_119
  have h118 := az_iald C dX11_output_118 h119
  have h117 := az_iload_n C 2 rfl dX11_output_117 h118
  have h116 := az_aald2 C dX11_output_116 h117
  have h115 := az_iload_n C 1 rfl dX11_output_115 h116
  have h112 := az_getR (T := TX4) (N := 10) (j := 5) C gwRX4 rfl (by decide) (by decide) iIRX4_5 mFRX11_237 rfl dX11_output_112 h115
  have h109 := az_getR (T := TX11) (N := 10) (j := 3) C gwRX11 rfl (by decide) (by decide) iIRX11_3 mFRX11_29 rfl dX11_output_109 h112
  have h108 := az_aload_n C 0 rfl dX11_output_108 h109
  have h131 := az_ireturn C rfl dX11_output_131
  have h130 := az_iald C dX11_output_130 h131
  have h129 := az_iload_n C 2 rfl dX11_output_129 h130
  have h128 := az_aald2 C dX11_output_128 h129
  have h127 := az_iload_n C 1 rfl dX11_output_127 h128
  have h124 := az_getR (T := TX4) (N := 10) (j := 6) C gwRX4 rfl (by decide) (by decide) iIRX4_6 mFRX11_240 rfl dX11_output_124 h127
  have h121 := az_getR (T := TX11) (N := 10) (j := 3) C gwRX11 rfl (by decide) (by decide) iIRX11_3 mFRX11_29 rfl dX11_output_121 h124
  have h120 := az_aload_n C 0 rfl dX11_output_120 h121
  have h143 := az_ireturn C rfl dX11_output_143
  have h142 := az_iald C dX11_output_142 h143
  have h141 := az_iload_n C 2 rfl dX11_output_141 h142
  have h140 := az_aald2 C dX11_output_140 h141
  have h139 := az_iload_n C 1 rfl dX11_output_139 h140
  have h136 := az_getR (T := TX4) (N := 10) (j := 7) C gwRX4 rfl (by decide) (by decide) iIRX4_7 mFRX11_243 rfl dX11_output_136 h139
  have h133 := az_getR (T := TX11) (N := 10) (j := 3) C gwRX11 rfl (by decide) (by decide) iIRX11_3 mFRX11_29 rfl dX11_output_133 h136
  have h132 := az_aload_n C 0 rfl dX11_output_132 h133
  have h158 := az_ireturn C rfl dX11_output_158
  have h157 := az_iald C dX11_output_157 h158
  have h156 := az_iload_n C 2 rfl dX11_output_156 h157
  have h155 := az_aald2 C dX11_output_155 h156
  have h154 := az_iload_n C 1 rfl dX11_output_154 h155
  have h151 := az_getR (T := TX9) (N := 3) (j := 1) C gwRX9 rfl (by decide) (by decide) iIRX9_1 mFRX11_246 rfl dX11_output_151 h154
  have h148 := az_getR (T := TX4) (N := 10) (j := 1) C gwRX4 rfl (by decide) (by decide) iIRX4_1 mFRX11_139 rfl dX11_output_148 h151
  have h145 := az_getR (T := TX11) (N := 10) (j := 3) C gwRX11 rfl (by decide) (by decide) iIRX11_3 mFRX11_29 rfl dX11_output_145 h148
  have h144 := az_aload_n C 0 rfl dX11_output_144 h145
  have h173 := az_ireturn C rfl dX11_output_173
  have h172 := az_iald C dX11_output_172 h173
  have h171 := az_iload_n C 2 rfl dX11_output_171 h172
  have h170 := az_aald2 C dX11_output_170 h171
  have h169 := az_iload_n C 1 rfl dX11_output_169 h170
  have h166 := az_getR (T := TX9) (N := 3) (j := 2) C gwRX9 rfl (by decide) (by decide) iIRX9_2 mFRX11_249 rfl dX11_output_166 h169
  have h163 := az_getR (T := TX4) (N := 10) (j := 1) C gwRX4 rfl (by decide) (by decide) iIRX4_1 mFRX11_139 rfl dX11_output_163 h166
  have h160 := az_getR (T := TX11) (N := 10) (j := 3) C gwRX11 rfl (by decide) (by decide) iIRX11_3 mFRX11_29 rfl dX11_output_160 h163
  have h159 := az_aload_n C 0 rfl dX11_output_159 h160
  have h47 := az_tsw (td := 159) (tgts := [84, 96, 108, 120, 132, 144]) (lo := 0) C dX11_output_47 (by decide) (by decide +kernel) (by decide) h159 (az_all_cons h84 (az_all_cons h96 (az_all_cons h108 (az_all_cons h120 (az_all_cons h132 (az_all_cons h144 az_all_nil))))))
  have h46 := az_iload_n C 3 rfl dX11_output_46 h47
  have h43 := az_callV (ci := 12) C okX11_refresh knX11_refresh imX11_refresh seX11_refresh mLRX11_136 rfl (by decide) ⟨rfl, rfl, by decide, by decide⟩ dX11_output_43 h46
  have h42 := az_aload_n C 0 rfl dX11_output_42 h43
  have h34 := az_throw (cls := "java/lang/IllegalArgumentException") (names := ["java/lang/RuntimeException", "java/lang/Exception"]) C CX (by decide +kernel) (by decide +kernel) thkRX11_72 thi_IllegalArgumentException thaRX11_74 thgRX11_74 dX11_output_34 dX11_output_37 dX11_output_38 dX11_output_41 ⟨by decide, by decide, by decide, by decide⟩
  have h31 := az_if_ne (tgt := 42) C dX11_output_31 (by decide) h42 h34
  have h28 := az_callS C okX11_within knX11_within stX11_within mLRX11_68 ⟨rfl, rfl, by decide, by decide⟩ dX11_output_28 h31
  have h26 := az_bipush (x := (nI 6)) C dX11_output_26 (by decide +kernel) h28
  have h25 := az_iconst (x := (nI 0)) C dX11_output_25 (by decide +kernel) h26
  have h24 := az_iload_n C 3 rfl dX11_output_24 h25
  have h13 := az_if_ne (tgt := 24) C dX11_output_13 (by decide) h24 (az_keep [false, false, false, false] (okLX11_output_16 C CX))
  have h10 := az_callV (ci := 12) C okX11_isHour knX11_isHour imX11_isHour seX11_isHour mLRX11_90 rfl (by decide) ⟨rfl, rfl, by decide, by decide⟩ dX11_output_10 h13
  have h9 := az_iload_n C 2 rfl dX11_output_9 h10
  have h8 := az_aload_n C 0 rfl dX11_output_8 h9
  have h5 := az_if_eq (tgt := 16) C dX11_output_5 (by decide) (az_keep [false, false, false, false] (okLX11_output_16 C CX)) h8
  have h2 := az_callV (ci := 12) C okX11_isUnit knX11_isUnit imX11_isUnit seX11_isUnit mLRX11_126 rfl (by decide) ⟨rfl, rfl, by decide, by decide⟩ dX11_output_2 h5
  have h1 := az_iload_n C 1 rfl dX11_output_1 h2
  have h0 := az_aload_n C 0 rfl dX11_output_0 h1
  exact h0) l hlt
theorem dX11_delivered_0 : decode cX11_delivered 0 = .ok (.aload_n 0, 1) := by decide +kernel
theorem dX11_delivered_1 : decode cX11_delivered 1 = .ok (.iload_n 1, 1) := by decide +kernel
theorem dX11_delivered_2 : decode cX11_delivered 2 = .ok (.invokevirtual 126, 3) := by decide +kernel
theorem dX11_delivered_5 : decode cX11_delivered 5 = .ok (.ifCond .eq 19, 3) := by decide +kernel
theorem dX11_delivered_8 : decode cX11_delivered 8 = .ok (.aload_n 0, 1) := by decide +kernel
theorem dX11_delivered_9 : decode cX11_delivered 9 = .ok (.iload_n 2, 1) := by decide +kernel
theorem dX11_delivered_10 : decode cX11_delivered 10 = .ok (.invokevirtual 86, 3) := by decide +kernel
theorem dX11_delivered_13 : decode cX11_delivered 13 = .ok (.ifCond .eq 11, 3) := by decide +kernel
theorem dX11_delivered_16 : decode cX11_delivered 16 = .ok (.aload_n 0, 1) := by decide +kernel
theorem dX11_delivered_17 : decode cX11_delivered 17 = .ok (.iload_n 3, 1) := by decide +kernel
theorem dX11_delivered_18 : decode cX11_delivered 18 = .ok (.invokevirtual 90, 3) := by decide +kernel
theorem dX11_delivered_21 : decode cX11_delivered 21 = .ok (.ifCond .ne 11, 3) := by decide +kernel
theorem dX11_delivered_24 : decode cX11_delivered 24 = .ok (.new 93, 3) := by decide +kernel
theorem dX11_delivered_27 : decode cX11_delivered 27 = .ok (.dup, 1) := by decide +kernel
theorem dX11_delivered_28 : decode cX11_delivered 28 = .ok (.invokespecial 95, 3) := by decide +kernel
theorem dX11_delivered_31 : decode cX11_delivered 31 = .ok (.athrow, 1) := by decide +kernel
theorem dX11_delivered_32 : decode cX11_delivered 32 = .ok (.aload_n 0, 1) := by decide +kernel
theorem dX11_delivered_33 : decode cX11_delivered 33 = .ok (.invokevirtual 136, 3) := by decide +kernel
theorem dX11_delivered_36 : decode cX11_delivered 36 = .ok (.aload_n 0, 1) := by decide +kernel
theorem dX11_delivered_37 : decode cX11_delivered 37 = .ok (.getfield 29, 3) := by decide +kernel
theorem dX11_delivered_40 : decode cX11_delivered 40 = .ok (.getfield 252, 3) := by decide +kernel
theorem dX11_delivered_43 : decode cX11_delivered 43 = .ok (.getfield 256, 3) := by decide +kernel
theorem dX11_delivered_46 : decode cX11_delivered 46 = .ok (.iload_n 3, 1) := by decide +kernel
theorem dX11_delivered_47 : decode cX11_delivered 47 = .ok (.aaload, 1) := by decide +kernel
theorem dX11_delivered_48 : decode cX11_delivered 48 = .ok (.iload_n 1, 1) := by decide +kernel
theorem dX11_delivered_49 : decode cX11_delivered 49 = .ok (.iconst 4, 1) := by decide +kernel
theorem dX11_delivered_50 : decode cX11_delivered 50 = .ok (.imul, 1) := by decide +kernel
theorem dX11_delivered_51 : decode cX11_delivered 51 = .ok (.iload_n 2, 1) := by decide +kernel
theorem dX11_delivered_52 : decode cX11_delivered 52 = .ok (.iadd, 1) := by decide +kernel
theorem dX11_delivered_53 : decode cX11_delivered 53 = .ok (.iaload, 1) := by decide +kernel
theorem dX11_delivered_54 : decode cX11_delivered 54 = .ok (.ireturn, 1) := by decide +kernel
def LX11_delivered_24 (Q : Option Value → az_M → Prop) (Xs : String → az_M → Prop) : az_T := (s_thr "java/lang/IndexOutOfBoundsException" Xs)
theorem okLX11_delivered_24 {X : az_X} {Q : Option Value → az_M → Prop} {Xs : String → az_M → Prop} (C : az_C X cX11_delivered 4 RX11 (az_ts yX11_delivered cX11_delivered 4 (some .int)) ({ frames := 7, cells := 1, slots := 6, locals := 252 } : Room) (some .int) Q) (CX : az_CX X ({ frames := 7, cells := 1, slots := 6, locals := 252 } : Room) Q Xs) : az_ok X 24 (LX11_delivered_24 Q Xs) := by
  have h24 := az_throw (cls := "java/lang/IndexOutOfBoundsException") (names := ["java/lang/RuntimeException", "java/lang/Exception"]) C CX (by decide +kernel) (by decide +kernel) thkRX11_93 thi_IndexOutOfBoundsException thaRX11_95 thgRX11_95 dX11_delivered_24 dX11_delivered_27 dX11_delivered_28 dX11_delivered_31 ⟨by decide, by decide, by decide, by decide⟩
  exact h24
def PX11_delivered (Q : Option Value → az_M → Prop) (Xs : String → az_M → Prop) : az_T := (s_la 0 (s_li 1 (s_cv 1 12 FX11_isUnit (s_if c_eq (s_kp [false, false, false, false] (LX11_delivered_24 Q Xs)) (s_la 0 (s_li 2 (s_cv 1 12 FX11_isBus (s_if c_eq (s_kp [false, false, false, false] (LX11_delivered_24 Q Xs)) (s_la 0 (s_li 3 (s_cv 1 12 FX11_isHour (s_if c_ne (s_la 0 (s_cv 0 12 FX11_refresh (s_la 0 (s_gr 12 3 (s_gr 6 2 (s_gr 3 2 (s_li 3 (s_aa 25 (s_li 1 (s_ic (nI 4) (s_bin f_mul (s_li 2 (s_bin f_add (s_al 20 (s_ri Q))))))))))))))) (s_kp [false, false, false, false] (LX11_delivered_24 Q Xs))))))))))))))
def FX11_delivered : az_FX := az_funX [true, false, false, false] 4 PX11_delivered
theorem okX11_delivered (l : Launch) (hlt : l.stackTraces = false) : az_metX l yX11_delivered cX11_delivered 4 (some .int) ({ frames := 7, cells := 1, slots := 6, locals := 252 } : Room) FX11_delivered := az_metX_of (own := RX11) (by decide +kernel) rfl (by decide) (fun X Q Xs C CX => by
  have h54 := az_ireturn C rfl dX11_delivered_54
  have h53 := az_iald C dX11_delivered_53 h54
  have h52 := az_iadd C dX11_delivered_52 h53
  have h51 := az_iload_n C 2 rfl dX11_delivered_51 h52
  have h50 := az_imul C dX11_delivered_50 h51
  have h49 := az_iconst (x := (nI 4)) C dX11_delivered_49 (by decide +kernel) h50
  have h48 := az_iload_n C 1 rfl dX11_delivered_48 h49
  have h47 := az_aald2 C dX11_delivered_47 h48
  have h46 := az_iload_n C 3 rfl dX11_delivered_46 h47
  have h43 := az_getR (T := TX1) (N := 3) (j := 2) C gwRX1 rfl (by decide) (by decide) iIRX1_2 mFRX11_256 rfl dX11_delivered_43 h46
  have h40 := az_getR (T := TX4) (N := 10) (j := 2) C gwRX4 rfl (by decide) (by decide) iIRX4_2 mFRX11_252 rfl dX11_delivered_40 h43
  have h37 := az_getR (T := TX11) (N := 10) (j := 3) C gwRX11 rfl (by decide) (by decide) iIRX11_3 mFRX11_29 rfl dX11_delivered_37 h40
  have h36 := az_aload_n C 0 rfl dX11_delivered_36 h37
  have h33 := az_callV (ci := 12) C okX11_refresh knX11_refresh imX11_refresh seX11_refresh mLRX11_136 rfl (by decide) ⟨rfl, rfl, by decide, by decide⟩ dX11_delivered_33 h36
  have h32 := az_aload_n C 0 rfl dX11_delivered_32 h33
  have h21 := az_if_ne (tgt := 32) C dX11_delivered_21 (by decide) h32 (az_keep [false, false, false, false] (okLX11_delivered_24 C CX))
  have h18 := az_callV (ci := 12) C okX11_isHour knX11_isHour imX11_isHour seX11_isHour mLRX11_90 rfl (by decide) ⟨rfl, rfl, by decide, by decide⟩ dX11_delivered_18 h21
  have h17 := az_iload_n C 3 rfl dX11_delivered_17 h18
  have h16 := az_aload_n C 0 rfl dX11_delivered_16 h17
  have h13 := az_if_eq (tgt := 24) C dX11_delivered_13 (by decide) (az_keep [false, false, false, false] (okLX11_delivered_24 C CX)) h16
  have h10 := az_callV (ci := 12) C okX11_isBus knX11_isBus imX11_isBus seX11_isBus mLRX11_86 rfl (by decide) ⟨rfl, rfl, by decide, by decide⟩ dX11_delivered_10 h13
  have h9 := az_iload_n C 2 rfl dX11_delivered_9 h10
  have h8 := az_aload_n C 0 rfl dX11_delivered_8 h9
  have h5 := az_if_eq (tgt := 24) C dX11_delivered_5 (by decide) (az_keep [false, false, false, false] (okLX11_delivered_24 C CX)) h8
  have h2 := az_callV (ci := 12) C okX11_isUnit knX11_isUnit imX11_isUnit seX11_isUnit mLRX11_126 rfl (by decide) ⟨rfl, rfl, by decide, by decide⟩ dX11_delivered_2 h5
  have h1 := az_iload_n C 1 rfl dX11_delivered_1 h2
  have h0 := az_aload_n C 0 rfl dX11_delivered_0 h1
  exact h0) l hlt
theorem dX11_bus_0 : decode cX11_bus 0 = .ok (.aload_n 0, 1) := by decide +kernel
theorem dX11_bus_1 : decode cX11_bus 1 = .ok (.iload_n 1, 1) := by decide +kernel
theorem dX11_bus_2 : decode cX11_bus 2 = .ok (.invokevirtual 86, 3) := by decide +kernel
theorem dX11_bus_5 : decode cX11_bus 5 = .ok (.ifCond .eq 11, 3) := by decide +kernel
theorem dX11_bus_8 : decode cX11_bus 8 = .ok (.aload_n 0, 1) := by decide +kernel
theorem dX11_bus_9 : decode cX11_bus 9 = .ok (.iload_n 2, 1) := by decide +kernel
theorem dX11_bus_10 : decode cX11_bus 10 = .ok (.invokevirtual 90, 3) := by decide +kernel
theorem dX11_bus_13 : decode cX11_bus 13 = .ok (.ifCond .ne 11, 3) := by decide +kernel
theorem dX11_bus_16 : decode cX11_bus 16 = .ok (.new 93, 3) := by decide +kernel
theorem dX11_bus_19 : decode cX11_bus 19 = .ok (.dup, 1) := by decide +kernel
theorem dX11_bus_20 : decode cX11_bus 20 = .ok (.invokespecial 95, 3) := by decide +kernel
theorem dX11_bus_23 : decode cX11_bus 23 = .ok (.athrow, 1) := by decide +kernel
theorem dX11_bus_24 : decode cX11_bus 24 = .ok (.iload_n 3, 1) := by decide +kernel
theorem dX11_bus_25 : decode cX11_bus 25 = .ok (.iconst 0, 1) := by decide +kernel
theorem dX11_bus_26 : decode cX11_bus 26 = .ok (.iconst 4, 1) := by decide +kernel
theorem dX11_bus_27 : decode cX11_bus 27 = .ok (.invokestatic 68, 3) := by decide +kernel
theorem dX11_bus_30 : decode cX11_bus 30 = .ok (.ifCond .ne 11, 3) := by decide +kernel
theorem dX11_bus_33 : decode cX11_bus 33 = .ok (.new 72, 3) := by decide +kernel
theorem dX11_bus_36 : decode cX11_bus 36 = .ok (.dup, 1) := by decide +kernel
theorem dX11_bus_37 : decode cX11_bus 37 = .ok (.invokespecial 74, 3) := by decide +kernel
theorem dX11_bus_40 : decode cX11_bus 40 = .ok (.athrow, 1) := by decide +kernel
theorem dX11_bus_41 : decode cX11_bus 41 = .ok (.aload_n 0, 1) := by decide +kernel
theorem dX11_bus_42 : decode cX11_bus 42 = .ok (.invokevirtual 136, 3) := by decide +kernel
theorem dX11_bus_45 : decode cX11_bus 45 = .ok (.iload_n 3, 1) := by decide +kernel
theorem dX11_bus_46 : decode cX11_bus 46 = .ok (.tableswitch 90 0 3 #[30, 42, 57, 72], 30) := by decide +kernel
theorem dX11_bus_76 : decode cX11_bus 76 = .ok (.aload_n 0, 1) := by decide +kernel
theorem dX11_bus_77 : decode cX11_bus 77 = .ok (.getfield 10, 3) := by decide +kernel
theorem dX11_bus_80 : decode cX11_bus 80 = .ok (.getfield 99, 3) := by decide +kernel
theorem dX11_bus_83 : decode cX11_bus 83 = .ok (.iload_n 1, 1) := by decide +kernel
theorem dX11_bus_84 : decode cX11_bus 84 = .ok (.aaload, 1) := by decide +kernel
theorem dX11_bus_85 : decode cX11_bus 85 = .ok (.iload_n 2, 1) := by decide +kernel
theorem dX11_bus_86 : decode cX11_bus 86 = .ok (.iaload, 1) := by decide +kernel
theorem dX11_bus_87 : decode cX11_bus 87 = .ok (.ireturn, 1) := by decide +kernel
theorem dX11_bus_88 : decode cX11_bus 88 = .ok (.aload_n 0, 1) := by decide +kernel
theorem dX11_bus_89 : decode cX11_bus 89 = .ok (.getfield 29, 3) := by decide +kernel
theorem dX11_bus_92 : decode cX11_bus 92 = .ok (.getfield 252, 3) := by decide +kernel
theorem dX11_bus_95 : decode cX11_bus 95 = .ok (.getfield 261, 3) := by decide +kernel
theorem dX11_bus_98 : decode cX11_bus 98 = .ok (.iload_n 1, 1) := by decide +kernel
theorem dX11_bus_99 : decode cX11_bus 99 = .ok (.aaload, 1) := by decide +kernel
theorem dX11_bus_100 : decode cX11_bus 100 = .ok (.iload_n 2, 1) := by decide +kernel
theorem dX11_bus_101 : decode cX11_bus 101 = .ok (.iaload, 1) := by decide +kernel
theorem dX11_bus_102 : decode cX11_bus 102 = .ok (.ireturn, 1) := by decide +kernel
theorem dX11_bus_103 : decode cX11_bus 103 = .ok (.aload_n 0, 1) := by decide +kernel
theorem dX11_bus_104 : decode cX11_bus 104 = .ok (.getfield 29, 3) := by decide +kernel
theorem dX11_bus_107 : decode cX11_bus 107 = .ok (.getfield 252, 3) := by decide +kernel
theorem dX11_bus_110 : decode cX11_bus 110 = .ok (.getfield 264, 3) := by decide +kernel
theorem dX11_bus_113 : decode cX11_bus 113 = .ok (.iload_n 1, 1) := by decide +kernel
theorem dX11_bus_114 : decode cX11_bus 114 = .ok (.aaload, 1) := by decide +kernel
theorem dX11_bus_115 : decode cX11_bus 115 = .ok (.iload_n 2, 1) := by decide +kernel
theorem dX11_bus_116 : decode cX11_bus 116 = .ok (.iaload, 1) := by decide +kernel
theorem dX11_bus_117 : decode cX11_bus 117 = .ok (.ireturn, 1) := by decide +kernel
theorem dX11_bus_118 : decode cX11_bus 118 = .ok (.iload_n 1, 1) := by decide +kernel
theorem dX11_bus_119 : decode cX11_bus 119 = .ok (.ifCond .ne 7, 3) := by decide +kernel
theorem dX11_bus_122 : decode cX11_bus 122 = .ok (.iconst (-1), 1) := by decide +kernel
theorem dX11_bus_123 : decode cX11_bus 123 = .ok (.goto 12, 3) := by decide +kernel
theorem dX11_bus_126 : decode cX11_bus 126 = .ok (.aload_n 0, 1) := by decide +kernel
theorem dX11_bus_127 : decode cX11_bus 127 = .ok (.getfield 10, 3) := by decide +kernel
theorem dX11_bus_130 : decode cX11_bus 130 = .ok (.getfield 110, 3) := by decide +kernel
theorem dX11_bus_133 : decode cX11_bus 133 = .ok (.iload_n 1, 1) := by decide +kernel
theorem dX11_bus_134 : decode cX11_bus 134 = .ok (.iaload, 1) := by decide +kernel
theorem dX11_bus_135 : decode cX11_bus 135 = .ok (.ireturn, 1) := by decide +kernel
theorem dX11_bus_136 : decode cX11_bus 136 = .ok (.iload_n 1, 1) := by decide +kernel
theorem dX11_bus_137 : decode cX11_bus 137 = .ok (.ifCond .ne 7, 3) := by decide +kernel
theorem dX11_bus_140 : decode cX11_bus 140 = .ok (.iconst 0, 1) := by decide +kernel
theorem dX11_bus_141 : decode cX11_bus 141 = .ok (.goto 12, 3) := by decide +kernel
theorem dX11_bus_144 : decode cX11_bus 144 = .ok (.aload_n 0, 1) := by decide +kernel
theorem dX11_bus_145 : decode cX11_bus 145 = .ok (.getfield 10, 3) := by decide +kernel
theorem dX11_bus_148 : decode cX11_bus 148 = .ok (.getfield 107, 3) := by decide +kernel
theorem dX11_bus_151 : decode cX11_bus 151 = .ok (.iload_n 1, 1) := by decide +kernel
theorem dX11_bus_152 : decode cX11_bus 152 = .ok (.iaload, 1) := by decide +kernel
theorem dX11_bus_153 : decode cX11_bus 153 = .ok (.ireturn, 1) := by decide +kernel
def LX11_bus_16 (Q : Option Value → az_M → Prop) (Xs : String → az_M → Prop) : az_T := (s_thr "java/lang/IndexOutOfBoundsException" Xs)
theorem okLX11_bus_16 {X : az_X} {Q : Option Value → az_M → Prop} {Xs : String → az_M → Prop} (C : az_C X cX11_bus 4 RX11 (az_ts yX11_bus cX11_bus 4 (some .int)) ({ frames := 7, cells := 1, slots := 6, locals := 252 } : Room) (some .int) Q) (CX : az_CX X ({ frames := 7, cells := 1, slots := 6, locals := 252 } : Room) Q Xs) : az_ok X 16 (LX11_bus_16 Q Xs) := by
  have h16 := az_throw (cls := "java/lang/IndexOutOfBoundsException") (names := ["java/lang/RuntimeException", "java/lang/Exception"]) C CX (by decide +kernel) (by decide +kernel) thkRX11_93 thi_IndexOutOfBoundsException thaRX11_95 thgRX11_95 dX11_bus_16 dX11_bus_19 dX11_bus_20 dX11_bus_23 ⟨by decide, by decide, by decide, by decide⟩
  exact h16
def LX11_bus_153 (Q : Option Value → az_M → Prop) (Xs : String → az_M → Prop) : az_T := (s_ri Q)
theorem okLX11_bus_153 {X : az_X} {Q : Option Value → az_M → Prop} {Xs : String → az_M → Prop} (C : az_C X cX11_bus 4 RX11 (az_ts yX11_bus cX11_bus 4 (some .int)) ({ frames := 7, cells := 1, slots := 6, locals := 252 } : Room) (some .int) Q) (CX : az_CX X ({ frames := 7, cells := 1, slots := 6, locals := 252 } : Room) Q Xs) : az_ok X 153 (LX11_bus_153 Q Xs) := by
  have h153 := az_ireturn C rfl dX11_bus_153
  exact h153
def LX11_bus_135 (Q : Option Value → az_M → Prop) (Xs : String → az_M → Prop) : az_T := (s_ri Q)
theorem okLX11_bus_135 {X : az_X} {Q : Option Value → az_M → Prop} {Xs : String → az_M → Prop} (C : az_C X cX11_bus 4 RX11 (az_ts yX11_bus cX11_bus 4 (some .int)) ({ frames := 7, cells := 1, slots := 6, locals := 252 } : Room) (some .int) Q) (CX : az_CX X ({ frames := 7, cells := 1, slots := 6, locals := 252 } : Room) Q Xs) : az_ok X 135 (LX11_bus_135 Q Xs) := by
  have h135 := az_ireturn C rfl dX11_bus_135
  exact h135
def PX11_bus (Q : Option Value → az_M → Prop) (Xs : String → az_M → Prop) : az_T := (s_la 0 (s_li 1 (s_cv 1 12 FX11_isBus (s_if c_eq (s_kp [false, false, false, false] (LX11_bus_16 Q Xs)) (s_la 0 (s_li 2 (s_cv 1 12 FX11_isHour (s_if c_ne (s_li 3 (s_ic (nI 0) (s_ic (nI 4) (s_cs 3 FX11_within (s_if c_ne (s_la 0 (s_cv 0 12 FX11_refresh (s_li 3 (s_sw 0 [(s_la 0 (s_gr 12 0 (s_gr 9 7 (s_li 1 (s_aa 25 (s_li 2 (s_al 20 (s_ri Q)))))))), (s_la 0 (s_gr 12 3 (s_gr 6 2 (s_gr 3 0 (s_li 1 (s_aa 25 (s_li 2 (s_al 20 (s_ri Q))))))))), (s_la 0 (s_gr 12 3 (s_gr 6 2 (s_gr 3 1 (s_li 1 (s_aa 25 (s_li 2 (s_al 20 (s_ri Q))))))))), (s_li 1 (s_if c_ne (s_la 0 (s_gr 12 0 (s_gr 9 9 (s_li 1 (s_al 20 (s_kp [false, false, false, false] (LX11_bus_135 Q Xs))))))) (s_ic (-1) (s_kp [false, false, false, false] (LX11_bus_135 Q Xs)))))] (s_li 1 (s_if c_ne (s_la 0 (s_gr 12 0 (s_gr 9 10 (s_li 1 (s_al 20 (s_kp [false, false, false, false] (LX11_bus_153 Q Xs))))))) (s_ic (nI 0) (s_kp [false, false, false, false] (LX11_bus_153 Q Xs))))))))) (s_thr "java/lang/IllegalArgumentException" Xs)))))) (s_kp [false, false, false, false] (LX11_bus_16 Q Xs))))))))))
def FX11_bus : az_FX := az_funX [true, false, false, false] 4 PX11_bus
theorem okX11_bus (l : Launch) (hlt : l.stackTraces = false) : az_metX l yX11_bus cX11_bus 4 (some .int) ({ frames := 7, cells := 1, slots := 6, locals := 252 } : Room) FX11_bus := az_metX_of (own := RX11) (by decide +kernel) rfl (by decide) (fun X Q Xs C CX => by
  have h87 := az_ireturn C rfl dX11_bus_87
  have h86 := az_iald C dX11_bus_86 h87
  have h85 := az_iload_n C 2 rfl dX11_bus_85 h86
  have h84 := az_aald2 C dX11_bus_84 h85
  have h83 := az_iload_n C 1 rfl dX11_bus_83 h84
  have h80 := az_getR (T := TX8) (N := 11) (j := 7) C gwRX8 rfl (by decide) (by decide) iIRX8_7 mFRX11_99 rfl dX11_bus_80 h83
  have h77 := az_getR (T := TX11) (N := 10) (j := 0) C gwRX11 rfl (by decide) (by decide) iIRX11_0 mFRX11_10 rfl dX11_bus_77 h80
  have h76 := az_aload_n C 0 rfl dX11_bus_76 h77
  have h102 := az_ireturn C rfl dX11_bus_102
  have h101 := az_iald C dX11_bus_101 h102
  have h100 := az_iload_n C 2 rfl dX11_bus_100 h101
  have h99 := az_aald2 C dX11_bus_99 h100
  have h98 := az_iload_n C 1 rfl dX11_bus_98 h99
  have h95 := az_getR (T := TX1) (N := 3) (j := 0) C gwRX1 rfl (by decide) (by decide) iIRX1_0 mFRX11_261 rfl dX11_bus_95 h98
  have h92 := az_getR (T := TX4) (N := 10) (j := 2) C gwRX4 rfl (by decide) (by decide) iIRX4_2 mFRX11_252 rfl dX11_bus_92 h95
  have h89 := az_getR (T := TX11) (N := 10) (j := 3) C gwRX11 rfl (by decide) (by decide) iIRX11_3 mFRX11_29 rfl dX11_bus_89 h92
  have h88 := az_aload_n C 0 rfl dX11_bus_88 h89
  have h117 := az_ireturn C rfl dX11_bus_117
  have h116 := az_iald C dX11_bus_116 h117
  have h115 := az_iload_n C 2 rfl dX11_bus_115 h116
  have h114 := az_aald2 C dX11_bus_114 h115
  have h113 := az_iload_n C 1 rfl dX11_bus_113 h114
  have h110 := az_getR (T := TX1) (N := 3) (j := 1) C gwRX1 rfl (by decide) (by decide) iIRX1_1 mFRX11_264 rfl dX11_bus_110 h113
  have h107 := az_getR (T := TX4) (N := 10) (j := 2) C gwRX4 rfl (by decide) (by decide) iIRX4_2 mFRX11_252 rfl dX11_bus_107 h110
  have h104 := az_getR (T := TX11) (N := 10) (j := 3) C gwRX11 rfl (by decide) (by decide) iIRX11_3 mFRX11_29 rfl dX11_bus_104 h107
  have h103 := az_aload_n C 0 rfl dX11_bus_103 h104
  have h134 := az_iald C dX11_bus_134 (az_keep [false, false, false, false] (okLX11_bus_135 C CX))
  have h133 := az_iload_n C 1 rfl dX11_bus_133 h134
  have h130 := az_getR (T := TX8) (N := 11) (j := 9) C gwRX8 rfl (by decide) (by decide) iIRX8_9 mFRX11_110 rfl dX11_bus_130 h133
  have h127 := az_getR (T := TX11) (N := 10) (j := 0) C gwRX11 rfl (by decide) (by decide) iIRX11_0 mFRX11_10 rfl dX11_bus_127 h130
  have h126 := az_aload_n C 0 rfl dX11_bus_126 h127
  have h123 := az_goto (tgt := 135) C dX11_bus_123 (by decide) (az_keep [false, false, false, false] (okLX11_bus_135 C CX))
  have h122 := az_iconst (x := (-1)) C dX11_bus_122 (by decide +kernel) h123
  have h119 := az_if_ne (tgt := 126) C dX11_bus_119 (by decide) h126 h122
  have h118 := az_iload_n C 1 rfl dX11_bus_118 h119
  have h152 := az_iald C dX11_bus_152 (az_keep [false, false, false, false] (okLX11_bus_153 C CX))
  have h151 := az_iload_n C 1 rfl dX11_bus_151 h152
  have h148 := az_getR (T := TX8) (N := 11) (j := 10) C gwRX8 rfl (by decide) (by decide) iIRX8_10 mFRX11_107 rfl dX11_bus_148 h151
  have h145 := az_getR (T := TX11) (N := 10) (j := 0) C gwRX11 rfl (by decide) (by decide) iIRX11_0 mFRX11_10 rfl dX11_bus_145 h148
  have h144 := az_aload_n C 0 rfl dX11_bus_144 h145
  have h141 := az_goto (tgt := 153) C dX11_bus_141 (by decide) (az_keep [false, false, false, false] (okLX11_bus_153 C CX))
  have h140 := az_iconst (x := (nI 0)) C dX11_bus_140 (by decide +kernel) h141
  have h137 := az_if_ne (tgt := 144) C dX11_bus_137 (by decide) h144 h140
  have h136 := az_iload_n C 1 rfl dX11_bus_136 h137
  have h46 := az_tsw (td := 136) (tgts := [76, 88, 103, 118]) (lo := 0) C dX11_bus_46 (by decide) (by decide +kernel) (by decide) h136 (az_all_cons h76 (az_all_cons h88 (az_all_cons h103 (az_all_cons h118 az_all_nil))))
  have h45 := az_iload_n C 3 rfl dX11_bus_45 h46
  have h42 := az_callV (ci := 12) C okX11_refresh knX11_refresh imX11_refresh seX11_refresh mLRX11_136 rfl (by decide) ⟨rfl, rfl, by decide, by decide⟩ dX11_bus_42 h45
  have h41 := az_aload_n C 0 rfl dX11_bus_41 h42
  have h33 := az_throw (cls := "java/lang/IllegalArgumentException") (names := ["java/lang/RuntimeException", "java/lang/Exception"]) C CX (by decide +kernel) (by decide +kernel) thkRX11_72 thi_IllegalArgumentException thaRX11_74 thgRX11_74 dX11_bus_33 dX11_bus_36 dX11_bus_37 dX11_bus_40 ⟨by decide, by decide, by decide, by decide⟩
  have h30 := az_if_ne (tgt := 41) C dX11_bus_30 (by decide) h41 h33
  have h27 := az_callS C okX11_within knX11_within stX11_within mLRX11_68 ⟨rfl, rfl, by decide, by decide⟩ dX11_bus_27 h30
  have h26 := az_iconst (x := (nI 4)) C dX11_bus_26 (by decide +kernel) h27
  have h25 := az_iconst (x := (nI 0)) C dX11_bus_25 (by decide +kernel) h26
  have h24 := az_iload_n C 3 rfl dX11_bus_24 h25
  have h13 := az_if_ne (tgt := 24) C dX11_bus_13 (by decide) h24 (az_keep [false, false, false, false] (okLX11_bus_16 C CX))
  have h10 := az_callV (ci := 12) C okX11_isHour knX11_isHour imX11_isHour seX11_isHour mLRX11_90 rfl (by decide) ⟨rfl, rfl, by decide, by decide⟩ dX11_bus_10 h13
  have h9 := az_iload_n C 2 rfl dX11_bus_9 h10
  have h8 := az_aload_n C 0 rfl dX11_bus_8 h9
  have h5 := az_if_eq (tgt := 16) C dX11_bus_5 (by decide) (az_keep [false, false, false, false] (okLX11_bus_16 C CX)) h8
  have h2 := az_callV (ci := 12) C okX11_isBus knX11_isBus imX11_isBus seX11_isBus mLRX11_86 rfl (by decide) ⟨rfl, rfl, by decide, by decide⟩ dX11_bus_2 h5
  have h1 := az_iload_n C 1 rfl dX11_bus_1 h2
  have h0 := az_aload_n C 0 rfl dX11_bus_0 h1
  exact h0) l hlt
theorem dX11_hour_0 : decode cX11_hour 0 = .ok (.aload_n 0, 1) := by decide +kernel
theorem dX11_hour_1 : decode cX11_hour 1 = .ok (.iload_n 1, 1) := by decide +kernel
theorem dX11_hour_2 : decode cX11_hour 2 = .ok (.invokevirtual 90, 3) := by decide +kernel
theorem dX11_hour_5 : decode cX11_hour 5 = .ok (.ifCond .ne 11, 3) := by decide +kernel
theorem dX11_hour_8 : decode cX11_hour 8 = .ok (.new 93, 3) := by decide +kernel
theorem dX11_hour_11 : decode cX11_hour 11 = .ok (.dup, 1) := by decide +kernel
theorem dX11_hour_12 : decode cX11_hour 12 = .ok (.invokespecial 95, 3) := by decide +kernel
theorem dX11_hour_15 : decode cX11_hour 15 = .ok (.athrow, 1) := by decide +kernel
theorem dX11_hour_16 : decode cX11_hour 16 = .ok (.iload_n 2, 1) := by decide +kernel
theorem dX11_hour_17 : decode cX11_hour 17 = .ok (.iconst 0, 1) := by decide +kernel
theorem dX11_hour_18 : decode cX11_hour 18 = .ok (.bipush 7, 2) := by decide +kernel
theorem dX11_hour_20 : decode cX11_hour 20 = .ok (.invokestatic 68, 3) := by decide +kernel
theorem dX11_hour_23 : decode cX11_hour 23 = .ok (.ifCond .ne 11, 3) := by decide +kernel
theorem dX11_hour_26 : decode cX11_hour 26 = .ok (.new 72, 3) := by decide +kernel
theorem dX11_hour_29 : decode cX11_hour 29 = .ok (.dup, 1) := by decide +kernel
theorem dX11_hour_30 : decode cX11_hour 30 = .ok (.invokespecial 74, 3) := by decide +kernel
theorem dX11_hour_33 : decode cX11_hour 33 = .ok (.athrow, 1) := by decide +kernel
theorem dX11_hour_34 : decode cX11_hour 34 = .ok (.aload_n 0, 1) := by decide +kernel
theorem dX11_hour_35 : decode cX11_hour 35 = .ok (.invokevirtual 136, 3) := by decide +kernel
theorem dX11_hour_38 : decode cX11_hour 38 = .ok (.aload_n 0, 1) := by decide +kernel
theorem dX11_hour_39 : decode cX11_hour 39 = .ok (.getfield 29, 3) := by decide +kernel
theorem dX11_hour_42 : decode cX11_hour 42 = .ok (.getfield 267, 3) := by decide +kernel
theorem dX11_hour_45 : decode cX11_hour 45 = .ok (.iload_n 2, 1) := by decide +kernel
theorem dX11_hour_46 : decode cX11_hour 46 = .ok (.aaload, 1) := by decide +kernel
theorem dX11_hour_47 : decode cX11_hour 47 = .ok (.iload_n 1, 1) := by decide +kernel
theorem dX11_hour_48 : decode cX11_hour 48 = .ok (.iaload, 1) := by decide +kernel
theorem dX11_hour_49 : decode cX11_hour 49 = .ok (.ireturn, 1) := by decide +kernel
def PX11_hour (Q : Option Value → az_M → Prop) (Xs : String → az_M → Prop) : az_T := (s_la 0 (s_li 1 (s_cv 1 12 FX11_isHour (s_if c_ne (s_li 2 (s_ic (nI 0) (s_ic (nI 7) (s_cs 3 FX11_within (s_if c_ne (s_la 0 (s_cv 0 12 FX11_refresh (s_la 0 (s_gr 12 3 (s_gr 6 8 (s_li 2 (s_aa 25 (s_li 1 (s_al 20 (s_ri Q)))))))))) (s_thr "java/lang/IllegalArgumentException" Xs)))))) (s_thr "java/lang/IndexOutOfBoundsException" Xs)))))
def FX11_hour : az_FX := az_funX [true, false, false] 3 PX11_hour
theorem okX11_hour (l : Launch) (hlt : l.stackTraces = false) : az_metX l yX11_hour cX11_hour 3 (some .int) ({ frames := 7, cells := 1, slots := 6, locals := 252 } : Room) FX11_hour := az_metX_of (own := RX11) (by decide +kernel) rfl (by decide) (fun X Q Xs C CX => by
  have h49 := az_ireturn C rfl dX11_hour_49
  have h48 := az_iald C dX11_hour_48 h49
  have h47 := az_iload_n C 1 rfl dX11_hour_47 h48
  have h46 := az_aald2 C dX11_hour_46 h47
  have h45 := az_iload_n C 2 rfl dX11_hour_45 h46
  have h42 := az_getR (T := TX4) (N := 10) (j := 8) C gwRX4 rfl (by decide) (by decide) iIRX4_8 mFRX11_267 rfl dX11_hour_42 h45
  have h39 := az_getR (T := TX11) (N := 10) (j := 3) C gwRX11 rfl (by decide) (by decide) iIRX11_3 mFRX11_29 rfl dX11_hour_39 h42
  have h38 := az_aload_n C 0 rfl dX11_hour_38 h39
  have h35 := az_callV (ci := 12) C okX11_refresh knX11_refresh imX11_refresh seX11_refresh mLRX11_136 rfl (by decide) ⟨rfl, rfl, by decide, by decide⟩ dX11_hour_35 h38
  have h34 := az_aload_n C 0 rfl dX11_hour_34 h35
  have h26 := az_throw (cls := "java/lang/IllegalArgumentException") (names := ["java/lang/RuntimeException", "java/lang/Exception"]) C CX (by decide +kernel) (by decide +kernel) thkRX11_72 thi_IllegalArgumentException thaRX11_74 thgRX11_74 dX11_hour_26 dX11_hour_29 dX11_hour_30 dX11_hour_33 ⟨by decide, by decide, by decide, by decide⟩
  have h23 := az_if_ne (tgt := 34) C dX11_hour_23 (by decide) h34 h26
  have h20 := az_callS C okX11_within knX11_within stX11_within mLRX11_68 ⟨rfl, rfl, by decide, by decide⟩ dX11_hour_20 h23
  have h18 := az_bipush (x := (nI 7)) C dX11_hour_18 (by decide +kernel) h20
  have h17 := az_iconst (x := (nI 0)) C dX11_hour_17 (by decide +kernel) h18
  have h16 := az_iload_n C 2 rfl dX11_hour_16 h17
  have h8 := az_throw (cls := "java/lang/IndexOutOfBoundsException") (names := ["java/lang/RuntimeException", "java/lang/Exception"]) C CX (by decide +kernel) (by decide +kernel) thkRX11_93 thi_IndexOutOfBoundsException thaRX11_95 thgRX11_95 dX11_hour_8 dX11_hour_11 dX11_hour_12 dX11_hour_15 ⟨by decide, by decide, by decide, by decide⟩
  have h5 := az_if_ne (tgt := 16) C dX11_hour_5 (by decide) h16 h8
  have h2 := az_callV (ci := 12) C okX11_isHour knX11_isHour imX11_isHour seX11_isHour mLRX11_90 rfl (by decide) ⟨rfl, rfl, by decide, by decide⟩ dX11_hour_2 h5
  have h1 := az_iload_n C 1 rfl dX11_hour_1 h2
  have h0 := az_aload_n C 0 rfl dX11_hour_0 h1
  exact h0) l hlt
theorem dX11_total_0 : decode cX11_total 0 = .ok (.iload_n 1, 1) := by decide +kernel
theorem dX11_total_1 : decode cX11_total 1 = .ok (.iconst 0, 1) := by decide +kernel
theorem dX11_total_2 : decode cX11_total 2 = .ok (.bipush 7, 2) := by decide +kernel
theorem dX11_total_4 : decode cX11_total 4 = .ok (.invokestatic 68, 3) := by decide +kernel
theorem dX11_total_7 : decode cX11_total 7 = .ok (.ifCond .ne 11, 3) := by decide +kernel
theorem dX11_total_10 : decode cX11_total 10 = .ok (.new 72, 3) := by decide +kernel
theorem dX11_total_13 : decode cX11_total 13 = .ok (.dup, 1) := by decide +kernel
theorem dX11_total_14 : decode cX11_total 14 = .ok (.invokespecial 74, 3) := by decide +kernel
theorem dX11_total_17 : decode cX11_total 17 = .ok (.athrow, 1) := by decide +kernel
theorem dX11_total_18 : decode cX11_total 18 = .ok (.aload_n 0, 1) := by decide +kernel
theorem dX11_total_19 : decode cX11_total 19 = .ok (.invokevirtual 136, 3) := by decide +kernel
theorem dX11_total_22 : decode cX11_total 22 = .ok (.iload_n 1, 1) := by decide +kernel
theorem dX11_total_23 : decode cX11_total 23 = .ok (.tableswitch 87 0 6 #[41, 47, 53, 60, 67, 74, 80], 41) := by decide +kernel
theorem dX11_total_64 : decode cX11_total 64 = .ok (.aload_n 0, 1) := by decide +kernel
theorem dX11_total_65 : decode cX11_total 65 = .ok (.iconst 0, 1) := by decide +kernel
theorem dX11_total_66 : decode cX11_total 66 = .ok (.invokevirtual 270, 3) := by decide +kernel
theorem dX11_total_69 : decode cX11_total 69 = .ok (.ireturn, 1) := by decide +kernel
theorem dX11_total_70 : decode cX11_total 70 = .ok (.aload_n 0, 1) := by decide +kernel
theorem dX11_total_71 : decode cX11_total 71 = .ok (.iconst 1, 1) := by decide +kernel
theorem dX11_total_72 : decode cX11_total 72 = .ok (.invokevirtual 270, 3) := by decide +kernel
theorem dX11_total_75 : decode cX11_total 75 = .ok (.ireturn, 1) := by decide +kernel
theorem dX11_total_76 : decode cX11_total 76 = .ok (.aload_n 0, 1) := by decide +kernel
theorem dX11_total_77 : decode cX11_total 77 = .ok (.bipush 8, 2) := by decide +kernel
theorem dX11_total_79 : decode cX11_total 79 = .ok (.invokevirtual 270, 3) := by decide +kernel
theorem dX11_total_82 : decode cX11_total 82 = .ok (.ireturn, 1) := by decide +kernel
theorem dX11_total_83 : decode cX11_total 83 = .ok (.aload_n 0, 1) := by decide +kernel
theorem dX11_total_84 : decode cX11_total 84 = .ok (.bipush 9, 2) := by decide +kernel
theorem dX11_total_86 : decode cX11_total 86 = .ok (.invokevirtual 270, 3) := by decide +kernel
theorem dX11_total_89 : decode cX11_total 89 = .ok (.ireturn, 1) := by decide +kernel
theorem dX11_total_90 : decode cX11_total 90 = .ok (.aload_n 0, 1) := by decide +kernel
theorem dX11_total_91 : decode cX11_total 91 = .ok (.bipush 10, 2) := by decide +kernel
theorem dX11_total_93 : decode cX11_total 93 = .ok (.invokevirtual 270, 3) := by decide +kernel
theorem dX11_total_96 : decode cX11_total 96 = .ok (.ireturn, 1) := by decide +kernel
theorem dX11_total_97 : decode cX11_total 97 = .ok (.aload_n 0, 1) := by decide +kernel
theorem dX11_total_98 : decode cX11_total 98 = .ok (.iconst 4, 1) := by decide +kernel
theorem dX11_total_99 : decode cX11_total 99 = .ok (.invokevirtual 270, 3) := by decide +kernel
theorem dX11_total_102 : decode cX11_total 102 = .ok (.ireturn, 1) := by decide +kernel
theorem dX11_total_103 : decode cX11_total 103 = .ok (.aload_n 0, 1) := by decide +kernel
theorem dX11_total_104 : decode cX11_total 104 = .ok (.bipush 11, 2) := by decide +kernel
theorem dX11_total_106 : decode cX11_total 106 = .ok (.invokevirtual 270, 3) := by decide +kernel
theorem dX11_total_109 : decode cX11_total 109 = .ok (.ireturn, 1) := by decide +kernel
theorem dX11_total_110 : decode cX11_total 110 = .ok (.aload_n 0, 1) := by decide +kernel
theorem dX11_total_111 : decode cX11_total 111 = .ok (.bipush 12, 2) := by decide +kernel
theorem dX11_total_113 : decode cX11_total 113 = .ok (.invokevirtual 270, 3) := by decide +kernel
theorem dX11_total_116 : decode cX11_total 116 = .ok (.ireturn, 1) := by decide +kernel
def PX11_total (Q : Option Value → az_M → Prop) (Xs : String → az_M → Prop) : az_T := (s_li 1 (s_ic (nI 0) (s_ic (nI 7) (s_cs 3 FX11_within (s_if c_ne (s_la 0 (s_cv 0 12 FX11_refresh (s_li 1 (s_sw 0 [(s_la 0 (s_ic (nI 0) (s_cv 1 12 FX11_sumOf (s_ri Q)))), (s_la 0 (s_ic (nI 1) (s_cv 1 12 FX11_sumOf (s_ri Q)))), (s_la 0 (s_ic (nI 8) (s_cv 1 12 FX11_sumOf (s_ri Q)))), (s_la 0 (s_ic (nI 9) (s_cv 1 12 FX11_sumOf (s_ri Q)))), (s_la 0 (s_ic (nI 10) (s_cv 1 12 FX11_sumOf (s_ri Q)))), (s_la 0 (s_ic (nI 4) (s_cv 1 12 FX11_sumOf (s_ri Q)))), (s_la 0 (s_ic (nI 11) (s_cv 1 12 FX11_sumOf (s_ri Q))))] (s_la 0 (s_ic (nI 12) (s_cv 1 12 FX11_sumOf (s_ri Q)))))))) (s_thr "java/lang/IllegalArgumentException" Xs))))))
def FX11_total : az_FX := az_funX [true, false] 2 PX11_total
theorem okX11_total (l : Launch) (hlt : l.stackTraces = false) : az_metX l yX11_total cX11_total 2 (some .int) ({ frames := 7, cells := 1, slots := 6, locals := 252 } : Room) FX11_total := az_metX_of (own := RX11) (by decide +kernel) rfl (by decide) (fun X Q Xs C CX => by
  have h69 := az_ireturn C rfl dX11_total_69
  have h66 := az_callV (ci := 12) C okX11_sumOf knX11_sumOf imX11_sumOf seX11_sumOf mLRX11_270 rfl (by decide) ⟨rfl, rfl, by decide, by decide⟩ dX11_total_66 h69
  have h65 := az_iconst (x := (nI 0)) C dX11_total_65 (by decide +kernel) h66
  have h64 := az_aload_n C 0 rfl dX11_total_64 h65
  have h75 := az_ireturn C rfl dX11_total_75
  have h72 := az_callV (ci := 12) C okX11_sumOf knX11_sumOf imX11_sumOf seX11_sumOf mLRX11_270 rfl (by decide) ⟨rfl, rfl, by decide, by decide⟩ dX11_total_72 h75
  have h71 := az_iconst (x := (nI 1)) C dX11_total_71 (by decide +kernel) h72
  have h70 := az_aload_n C 0 rfl dX11_total_70 h71
  have h82 := az_ireturn C rfl dX11_total_82
  have h79 := az_callV (ci := 12) C okX11_sumOf knX11_sumOf imX11_sumOf seX11_sumOf mLRX11_270 rfl (by decide) ⟨rfl, rfl, by decide, by decide⟩ dX11_total_79 h82
  have h77 := az_bipush (x := (nI 8)) C dX11_total_77 (by decide +kernel) h79
  have h76 := az_aload_n C 0 rfl dX11_total_76 h77
  have h89 := az_ireturn C rfl dX11_total_89
  have h86 := az_callV (ci := 12) C okX11_sumOf knX11_sumOf imX11_sumOf seX11_sumOf mLRX11_270 rfl (by decide) ⟨rfl, rfl, by decide, by decide⟩ dX11_total_86 h89
  have h84 := az_bipush (x := (nI 9)) C dX11_total_84 (by decide +kernel) h86
  have h83 := az_aload_n C 0 rfl dX11_total_83 h84
  have h96 := az_ireturn C rfl dX11_total_96
  have h93 := az_callV (ci := 12) C okX11_sumOf knX11_sumOf imX11_sumOf seX11_sumOf mLRX11_270 rfl (by decide) ⟨rfl, rfl, by decide, by decide⟩ dX11_total_93 h96
  have h91 := az_bipush (x := (nI 10)) C dX11_total_91 (by decide +kernel) h93
  have h90 := az_aload_n C 0 rfl dX11_total_90 h91
  have h102 := az_ireturn C rfl dX11_total_102
  have h99 := az_callV (ci := 12) C okX11_sumOf knX11_sumOf imX11_sumOf seX11_sumOf mLRX11_270 rfl (by decide) ⟨rfl, rfl, by decide, by decide⟩ dX11_total_99 h102
  have h98 := az_iconst (x := (nI 4)) C dX11_total_98 (by decide +kernel) h99
  have h97 := az_aload_n C 0 rfl dX11_total_97 h98
  have h109 := az_ireturn C rfl dX11_total_109
  have h106 := az_callV (ci := 12) C okX11_sumOf knX11_sumOf imX11_sumOf seX11_sumOf mLRX11_270 rfl (by decide) ⟨rfl, rfl, by decide, by decide⟩ dX11_total_106 h109
  have h104 := az_bipush (x := (nI 11)) C dX11_total_104 (by decide +kernel) h106
  have h103 := az_aload_n C 0 rfl dX11_total_103 h104
  have h116 := az_ireturn C rfl dX11_total_116
  have h113 := az_callV (ci := 12) C okX11_sumOf knX11_sumOf imX11_sumOf seX11_sumOf mLRX11_270 rfl (by decide) ⟨rfl, rfl, by decide, by decide⟩ dX11_total_113 h116
  have h111 := az_bipush (x := (nI 12)) C dX11_total_111 (by decide +kernel) h113
  have h110 := az_aload_n C 0 rfl dX11_total_110 h111
  have h23 := az_tsw (td := 110) (tgts := [64, 70, 76, 83, 90, 97, 103]) (lo := 0) C dX11_total_23 (by decide) (by decide +kernel) (by decide) h110 (az_all_cons h64 (az_all_cons h70 (az_all_cons h76 (az_all_cons h83 (az_all_cons h90 (az_all_cons h97 (az_all_cons h103 az_all_nil)))))))
  have h22 := az_iload_n C 1 rfl dX11_total_22 h23
  have h19 := az_callV (ci := 12) C okX11_refresh knX11_refresh imX11_refresh seX11_refresh mLRX11_136 rfl (by decide) ⟨rfl, rfl, by decide, by decide⟩ dX11_total_19 h22
  have h18 := az_aload_n C 0 rfl dX11_total_18 h19
  have h10 := az_throw (cls := "java/lang/IllegalArgumentException") (names := ["java/lang/RuntimeException", "java/lang/Exception"]) C CX (by decide +kernel) (by decide +kernel) thkRX11_72 thi_IllegalArgumentException thaRX11_74 thgRX11_74 dX11_total_10 dX11_total_13 dX11_total_14 dX11_total_17 ⟨by decide, by decide, by decide, by decide⟩
  have h7 := az_if_ne (tgt := 18) C dX11_total_7 (by decide) h18 h10
  have h4 := az_callS C okX11_within knX11_within stX11_within mLRX11_68 ⟨rfl, rfl, by decide, by decide⟩ dX11_total_4 h7
  have h2 := az_bipush (x := (nI 7)) C dX11_total_2 (by decide +kernel) h4
  have h1 := az_iconst (x := (nI 0)) C dX11_total_1 (by decide +kernel) h2
  have h0 := az_iload_n C 1 rfl dX11_total_0 h1
  exact h0) l hlt
theorem dX11_violationCount_0 : decode cX11_violationCount 0 = .ok (.iload_n 1, 1) := by decide +kernel
theorem dX11_violationCount_1 : decode cX11_violationCount 1 = .ok (.iconst 0, 1) := by decide +kernel
theorem dX11_violationCount_2 : decode cX11_violationCount 2 = .ok (.bipush 6, 2) := by decide +kernel
theorem dX11_violationCount_4 : decode cX11_violationCount 4 = .ok (.invokestatic 68, 3) := by decide +kernel
theorem dX11_violationCount_7 : decode cX11_violationCount 7 = .ok (.ifCond .ne 11, 3) := by decide +kernel
theorem dX11_violationCount_10 : decode cX11_violationCount 10 = .ok (.new 72, 3) := by decide +kernel
theorem dX11_violationCount_13 : decode cX11_violationCount 13 = .ok (.dup, 1) := by decide +kernel
theorem dX11_violationCount_14 : decode cX11_violationCount 14 = .ok (.invokespecial 74, 3) := by decide +kernel
theorem dX11_violationCount_17 : decode cX11_violationCount 17 = .ok (.athrow, 1) := by decide +kernel
theorem dX11_violationCount_18 : decode cX11_violationCount 18 = .ok (.aload_n 0, 1) := by decide +kernel
theorem dX11_violationCount_19 : decode cX11_violationCount 19 = .ok (.invokevirtual 136, 3) := by decide +kernel
theorem dX11_violationCount_22 : decode cX11_violationCount 22 = .ok (.iload_n 1, 1) := by decide +kernel
theorem dX11_violationCount_23 : decode cX11_violationCount 23 = .ok (.ifCond .ne 13, 3) := by decide +kernel
theorem dX11_violationCount_26 : decode cX11_violationCount 26 = .ok (.aload_n 0, 1) := by decide +kernel
theorem dX11_violationCount_27 : decode cX11_violationCount 27 = .ok (.getfield 36, 3) := by decide +kernel
theorem dX11_violationCount_30 : decode cX11_violationCount 30 = .ok (.getfield 273, 3) := by decide +kernel
theorem dX11_violationCount_33 : decode cX11_violationCount 33 = .ok (.goto 12, 3) := by decide +kernel
theorem dX11_violationCount_36 : decode cX11_violationCount 36 = .ok (.aload_n 0, 1) := by decide +kernel
theorem dX11_violationCount_37 : decode cX11_violationCount 37 = .ok (.getfield 36, 3) := by decide +kernel
theorem dX11_violationCount_40 : decode cX11_violationCount 40 = .ok (.getfield 276, 3) := by decide +kernel
theorem dX11_violationCount_43 : decode cX11_violationCount 43 = .ok (.iload_n 1, 1) := by decide +kernel
theorem dX11_violationCount_44 : decode cX11_violationCount 44 = .ok (.iaload, 1) := by decide +kernel
theorem dX11_violationCount_45 : decode cX11_violationCount 45 = .ok (.ireturn, 1) := by decide +kernel
def LX11_violationCount_45 (Q : Option Value → az_M → Prop) (Xs : String → az_M → Prop) : az_T := (s_ri Q)
theorem okLX11_violationCount_45 {X : az_X} {Q : Option Value → az_M → Prop} {Xs : String → az_M → Prop} (C : az_C X cX11_violationCount 2 RX11 (az_ts yX11_violationCount cX11_violationCount 2 (some .int)) ({ frames := 7, cells := 1, slots := 6, locals := 252 } : Room) (some .int) Q) (CX : az_CX X ({ frames := 7, cells := 1, slots := 6, locals := 252 } : Room) Q Xs) : az_ok X 45 (LX11_violationCount_45 Q Xs) := by
  have h45 := az_ireturn C rfl dX11_violationCount_45
  exact h45
def PX11_violationCount (Q : Option Value → az_M → Prop) (Xs : String → az_M → Prop) : az_T := (s_li 1 (s_ic (nI 0) (s_ic (nI 6) (s_cs 3 FX11_within (s_if c_ne (s_la 0 (s_cv 0 12 FX11_refresh (s_li 1 (s_if c_ne (s_la 0 (s_gr 12 4 (s_gr 11 3 (s_li 1 (s_al 20 (s_kp [false, false] (LX11_violationCount_45 Q Xs))))))) (s_la 0 (s_gr 12 4 (s_gi 11 4 (s_kp [false, false] (LX11_violationCount_45 Q Xs))))))))) (s_thr "java/lang/IllegalArgumentException" Xs))))))
def FX11_violationCount : az_FX := az_funX [true, false] 2 PX11_violationCount
theorem okX11_violationCount (l : Launch) (hlt : l.stackTraces = false) : az_metX l yX11_violationCount cX11_violationCount 2 (some .int) ({ frames := 7, cells := 1, slots := 6, locals := 252 } : Room) FX11_violationCount := az_metX_of (own := RX11) (by decide +kernel) rfl (by decide) (fun X Q Xs C CX => by
  have h44 := az_iald C dX11_violationCount_44 (az_keep [false, false] (okLX11_violationCount_45 C CX))
  have h43 := az_iload_n C 1 rfl dX11_violationCount_43 h44
  have h40 := az_getR (T := TX10) (N := 5) (j := 3) C gwRX10 rfl (by decide) (by decide) iIRX10_3 mFRX11_276 rfl dX11_violationCount_40 h43
  have h37 := az_getR (T := TX11) (N := 10) (j := 4) C gwRX11 rfl (by decide) (by decide) iIRX11_4 mFRX11_36 rfl dX11_violationCount_37 h40
  have h36 := az_aload_n C 0 rfl dX11_violationCount_36 h37
  have h33 := az_goto (tgt := 45) C dX11_violationCount_33 (by decide) (az_keep [false, false] (okLX11_violationCount_45 C CX))
  have h30 := az_getI (T := TX10) (N := 5) (j := 4) C gwRX10 rfl (by decide) (by decide) iIRX10_4 mFRX11_273 rfl dX11_violationCount_30 h33
  have h27 := az_getR (T := TX11) (N := 10) (j := 4) C gwRX11 rfl (by decide) (by decide) iIRX11_4 mFRX11_36 rfl dX11_violationCount_27 h30
  have h26 := az_aload_n C 0 rfl dX11_violationCount_26 h27
  have h23 := az_if_ne (tgt := 36) C dX11_violationCount_23 (by decide) h36 h26
  have h22 := az_iload_n C 1 rfl dX11_violationCount_22 h23
  have h19 := az_callV (ci := 12) C okX11_refresh knX11_refresh imX11_refresh seX11_refresh mLRX11_136 rfl (by decide) ⟨rfl, rfl, by decide, by decide⟩ dX11_violationCount_19 h22
  have h18 := az_aload_n C 0 rfl dX11_violationCount_18 h19
  have h10 := az_throw (cls := "java/lang/IllegalArgumentException") (names := ["java/lang/RuntimeException", "java/lang/Exception"]) C CX (by decide +kernel) (by decide +kernel) thkRX11_72 thi_IllegalArgumentException thaRX11_74 thgRX11_74 dX11_violationCount_10 dX11_violationCount_13 dX11_violationCount_14 dX11_violationCount_17 ⟨by decide, by decide, by decide, by decide⟩
  have h7 := az_if_ne (tgt := 18) C dX11_violationCount_7 (by decide) h18 h10
  have h4 := az_callS C okX11_within knX11_within stX11_within mLRX11_68 ⟨rfl, rfl, by decide, by decide⟩ dX11_violationCount_4 h7
  have h2 := az_bipush (x := (nI 6)) C dX11_violationCount_2 (by decide +kernel) h4
  have h1 := az_iconst (x := (nI 0)) C dX11_violationCount_1 (by decide +kernel) h2
  have h0 := az_iload_n C 1 rfl dX11_violationCount_0 h1
  exact h0) l hlt
theorem dX11_violation_0 : decode cX11_violation 0 = .ok (.aload_n 0, 1) := by decide +kernel
theorem dX11_violation_1 : decode cX11_violation 1 = .ok (.invokevirtual 136, 3) := by decide +kernel
theorem dX11_violation_4 : decode cX11_violation 4 = .ok (.iload_n 1, 1) := by decide +kernel
theorem dX11_violation_5 : decode cX11_violation 5 = .ok (.ifCond .lt 14, 3) := by decide +kernel
theorem dX11_violation_8 : decode cX11_violation 8 = .ok (.iload_n 1, 1) := by decide +kernel
theorem dX11_violation_9 : decode cX11_violation 9 = .ok (.aload_n 0, 1) := by decide +kernel
theorem dX11_violation_10 : decode cX11_violation 10 = .ok (.getfield 36, 3) := by decide +kernel
theorem dX11_violation_13 : decode cX11_violation 13 = .ok (.getfield 273, 3) := by decide +kernel
theorem dX11_violation_16 : decode cX11_violation 16 = .ok (.if_icmp .lt 11, 3) := by decide +kernel
theorem dX11_violation_19 : decode cX11_violation 19 = .ok (.new 228, 3) := by decide +kernel
theorem dX11_violation_22 : decode cX11_violation 22 = .ok (.dup, 1) := by decide +kernel
theorem dX11_violation_23 : decode cX11_violation 23 = .ok (.invokespecial 230, 3) := by decide +kernel
theorem dX11_violation_26 : decode cX11_violation 26 = .ok (.athrow, 1) := by decide +kernel
theorem dX11_violation_27 : decode cX11_violation 27 = .ok (.iload_n 2, 1) := by decide +kernel
theorem dX11_violation_28 : decode cX11_violation 28 = .ok (.iconst 0, 1) := by decide +kernel
theorem dX11_violation_29 : decode cX11_violation 29 = .ok (.iconst 2, 1) := by decide +kernel
theorem dX11_violation_30 : decode cX11_violation 30 = .ok (.invokestatic 68, 3) := by decide +kernel
theorem dX11_violation_33 : decode cX11_violation 33 = .ok (.ifCond .ne 11, 3) := by decide +kernel
theorem dX11_violation_36 : decode cX11_violation 36 = .ok (.new 72, 3) := by decide +kernel
theorem dX11_violation_39 : decode cX11_violation 39 = .ok (.dup, 1) := by decide +kernel
theorem dX11_violation_40 : decode cX11_violation 40 = .ok (.invokespecial 74, 3) := by decide +kernel
theorem dX11_violation_43 : decode cX11_violation 43 = .ok (.athrow, 1) := by decide +kernel
theorem dX11_violation_44 : decode cX11_violation 44 = .ok (.iload_n 2, 1) := by decide +kernel
theorem dX11_violation_45 : decode cX11_violation 45 = .ok (.lookupswitch 47 #[(0, 27), (1, 37)], 27) := by decide +kernel
theorem dX11_violation_72 : decode cX11_violation 72 = .ok (.aload_n 0, 1) := by decide +kernel
theorem dX11_violation_73 : decode cX11_violation 73 = .ok (.getfield 36, 3) := by decide +kernel
theorem dX11_violation_76 : decode cX11_violation 76 = .ok (.getfield 279, 3) := by decide +kernel
theorem dX11_violation_79 : decode cX11_violation 79 = .ok (.iload_n 1, 1) := by decide +kernel
theorem dX11_violation_80 : decode cX11_violation 80 = .ok (.iaload, 1) := by decide +kernel
theorem dX11_violation_81 : decode cX11_violation 81 = .ok (.ireturn, 1) := by decide +kernel
theorem dX11_violation_82 : decode cX11_violation 82 = .ok (.aload_n 0, 1) := by decide +kernel
theorem dX11_violation_83 : decode cX11_violation 83 = .ok (.getfield 36, 3) := by decide +kernel
theorem dX11_violation_86 : decode cX11_violation 86 = .ok (.getfield 282, 3) := by decide +kernel
theorem dX11_violation_89 : decode cX11_violation 89 = .ok (.iload_n 1, 1) := by decide +kernel
theorem dX11_violation_90 : decode cX11_violation 90 = .ok (.iaload, 1) := by decide +kernel
theorem dX11_violation_91 : decode cX11_violation 91 = .ok (.ireturn, 1) := by decide +kernel
theorem dX11_violation_92 : decode cX11_violation 92 = .ok (.aload_n 0, 1) := by decide +kernel
theorem dX11_violation_93 : decode cX11_violation 93 = .ok (.getfield 36, 3) := by decide +kernel
theorem dX11_violation_96 : decode cX11_violation 96 = .ok (.getfield 285, 3) := by decide +kernel
theorem dX11_violation_99 : decode cX11_violation 99 = .ok (.iload_n 1, 1) := by decide +kernel
theorem dX11_violation_100 : decode cX11_violation 100 = .ok (.iaload, 1) := by decide +kernel
theorem dX11_violation_101 : decode cX11_violation 101 = .ok (.ireturn, 1) := by decide +kernel
def LX11_violation_19 (Q : Option Value → az_M → Prop) (Xs : String → az_M → Prop) : az_T := (s_thr "java/util/NoSuchElementException" Xs)
theorem okLX11_violation_19 {X : az_X} {Q : Option Value → az_M → Prop} {Xs : String → az_M → Prop} (C : az_C X cX11_violation 3 RX11 (az_ts yX11_violation cX11_violation 3 (some .int)) ({ frames := 7, cells := 1, slots := 6, locals := 252 } : Room) (some .int) Q) (CX : az_CX X ({ frames := 7, cells := 1, slots := 6, locals := 252 } : Room) Q Xs) : az_ok X 19 (LX11_violation_19 Q Xs) := by
  have h19 := az_throw (cls := "java/util/NoSuchElementException") (names := ["java/lang/RuntimeException", "java/lang/Exception"]) C CX (by decide +kernel) (by decide +kernel) thkRX11_228 thi_NoSuchElementException thaRX11_230 thgRX11_230 dX11_violation_19 dX11_violation_22 dX11_violation_23 dX11_violation_26 ⟨by decide, by decide, by decide, by decide⟩
  exact h19
def PX11_violation (Q : Option Value → az_M → Prop) (Xs : String → az_M → Prop) : az_T := (s_la 0 (s_cv 0 12 FX11_refresh (s_li 1 (s_if c_lt (s_kp [false, false, false] (LX11_violation_19 Q Xs)) (s_li 1 (s_la 0 (s_gr 12 4 (s_gi 11 4 (s_if2 d_lt (s_li 2 (s_ic (nI 0) (s_ic (nI 2) (s_cs 3 FX11_within (s_if c_ne (s_li 2 (s_sw 0 [(s_la 0 (s_gr 12 4 (s_gr 11 0 (s_li 1 (s_al 20 (s_ri Q)))))), (s_la 0 (s_gr 12 4 (s_gr 11 1 (s_li 1 (s_al 20 (s_ri Q))))))] (s_la 0 (s_gr 12 4 (s_gr 11 2 (s_li 1 (s_al 20 (s_ri Q)))))))) (s_thr "java/lang/IllegalArgumentException" Xs)))))) (s_kp [false, false, false] (LX11_violation_19 Q Xs)))))))))))
def FX11_violation : az_FX := az_funX [true, false, false] 3 PX11_violation
theorem okX11_violation (l : Launch) (hlt : l.stackTraces = false) : az_metX l yX11_violation cX11_violation 3 (some .int) ({ frames := 7, cells := 1, slots := 6, locals := 252 } : Room) FX11_violation := az_metX_of (own := RX11) (by decide +kernel) rfl (by decide) (fun X Q Xs C CX => by
  have h101 := az_ireturn C rfl dX11_violation_101
  have h100 := az_iald C dX11_violation_100 h101
  have h99 := az_iload_n C 1 rfl dX11_violation_99 h100
  have h96 := az_getR (T := TX10) (N := 5) (j := 2) C gwRX10 rfl (by decide) (by decide) iIRX10_2 mFRX11_285 rfl dX11_violation_96 h99
  have h93 := az_getR (T := TX11) (N := 10) (j := 4) C gwRX11 rfl (by decide) (by decide) iIRX11_4 mFRX11_36 rfl dX11_violation_93 h96
  have h92 := az_aload_n C 0 rfl dX11_violation_92 h93
  have h81 := az_ireturn C rfl dX11_violation_81
  have h80 := az_iald C dX11_violation_80 h81
  have h79 := az_iload_n C 1 rfl dX11_violation_79 h80
  have h76 := az_getR (T := TX10) (N := 5) (j := 0) C gwRX10 rfl (by decide) (by decide) iIRX10_0 mFRX11_279 rfl dX11_violation_76 h79
  have h73 := az_getR (T := TX11) (N := 10) (j := 4) C gwRX11 rfl (by decide) (by decide) iIRX11_4 mFRX11_36 rfl dX11_violation_73 h76
  have h72 := az_aload_n C 0 rfl dX11_violation_72 h73
  have h91 := az_ireturn C rfl dX11_violation_91
  have h90 := az_iald C dX11_violation_90 h91
  have h89 := az_iload_n C 1 rfl dX11_violation_89 h90
  have h86 := az_getR (T := TX10) (N := 5) (j := 1) C gwRX10 rfl (by decide) (by decide) iIRX10_1 mFRX11_282 rfl dX11_violation_86 h89
  have h83 := az_getR (T := TX11) (N := 10) (j := 4) C gwRX11 rfl (by decide) (by decide) iIRX11_4 mFRX11_36 rfl dX11_violation_83 h86
  have h82 := az_aload_n C 0 rfl dX11_violation_82 h83
  have h45 := az_lk2 (td := 92) (t0 := 72) (t1 := 82) C dX11_violation_45 (by decide) (by decide) (by decide) h92 h72 h82
  have h44 := az_iload_n C 2 rfl dX11_violation_44 h45
  have h36 := az_throw (cls := "java/lang/IllegalArgumentException") (names := ["java/lang/RuntimeException", "java/lang/Exception"]) C CX (by decide +kernel) (by decide +kernel) thkRX11_72 thi_IllegalArgumentException thaRX11_74 thgRX11_74 dX11_violation_36 dX11_violation_39 dX11_violation_40 dX11_violation_43 ⟨by decide, by decide, by decide, by decide⟩
  have h33 := az_if_ne (tgt := 44) C dX11_violation_33 (by decide) h44 h36
  have h30 := az_callS C okX11_within knX11_within stX11_within mLRX11_68 ⟨rfl, rfl, by decide, by decide⟩ dX11_violation_30 h33
  have h29 := az_iconst (x := (nI 2)) C dX11_violation_29 (by decide +kernel) h30
  have h28 := az_iconst (x := (nI 0)) C dX11_violation_28 (by decide +kernel) h29
  have h27 := az_iload_n C 2 rfl dX11_violation_27 h28
  have h16 := az_icmp_lt (tgt := 27) C dX11_violation_16 (by decide) h27 (az_keep [false, false, false] (okLX11_violation_19 C CX))
  have h13 := az_getI (T := TX10) (N := 5) (j := 4) C gwRX10 rfl (by decide) (by decide) iIRX10_4 mFRX11_273 rfl dX11_violation_13 h16
  have h10 := az_getR (T := TX11) (N := 10) (j := 4) C gwRX11 rfl (by decide) (by decide) iIRX11_4 mFRX11_36 rfl dX11_violation_10 h13
  have h9 := az_aload_n C 0 rfl dX11_violation_9 h10
  have h8 := az_iload_n C 1 rfl dX11_violation_8 h9
  have h5 := az_if_lt (tgt := 19) C dX11_violation_5 (by decide) (az_keep [false, false, false] (okLX11_violation_19 C CX)) h8
  have h4 := az_iload_n C 1 rfl dX11_violation_4 h5
  have h1 := az_callV (ci := 12) C okX11_refresh knX11_refresh imX11_refresh seX11_refresh mLRX11_136 rfl (by decide) ⟨rfl, rfl, by decide, by decide⟩ dX11_violation_1 h4
  have h0 := az_aload_n C 0 rfl dX11_violation_0 h1
  exact h0) l hlt
theorem dX11_meanCost_0 : decode cX11_meanCost 0 = .ok (.aload_n 0, 1) := by decide +kernel
theorem dX11_meanCost_1 : decode cX11_meanCost 1 = .ok (.invokevirtual 136, 3) := by decide +kernel
theorem dX11_meanCost_4 : decode cX11_meanCost 4 = .ok (.aload_n 0, 1) := by decide +kernel
theorem dX11_meanCost_5 : decode cX11_meanCost 5 = .ok (.iconst 4, 1) := by decide +kernel
theorem dX11_meanCost_6 : decode cX11_meanCost 6 = .ok (.invokevirtual 270, 3) := by decide +kernel
theorem dX11_meanCost_9 : decode cX11_meanCost 9 = .ok (.aload_n 0, 1) := by decide +kernel
theorem dX11_meanCost_10 : decode cX11_meanCost 10 = .ok (.iconst 5, 1) := by decide +kernel
theorem dX11_meanCost_11 : decode cX11_meanCost 11 = .ok (.invokevirtual 270, 3) := by decide +kernel
theorem dX11_meanCost_14 : decode cX11_meanCost 14 = .ok (.isub, 1) := by decide +kernel
theorem dX11_meanCost_15 : decode cX11_meanCost 15 = .ok (.istore_n 1, 1) := by decide +kernel
theorem dX11_meanCost_16 : decode cX11_meanCost 16 = .ok (.iload_n 1, 1) := by decide +kernel
theorem dX11_meanCost_17 : decode cX11_meanCost 17 = .ok (.ifCond .ne 11, 3) := by decide +kernel
theorem dX11_meanCost_20 : decode cX11_meanCost 20 = .ok (.new 287, 3) := by decide +kernel
theorem dX11_meanCost_23 : decode cX11_meanCost 23 = .ok (.dup, 1) := by decide +kernel
theorem dX11_meanCost_24 : decode cX11_meanCost 24 = .ok (.invokespecial 289, 3) := by decide +kernel
theorem dX11_meanCost_27 : decode cX11_meanCost 27 = .ok (.athrow, 1) := by decide +kernel
theorem dX11_meanCost_28 : decode cX11_meanCost 28 = .ok (.aload_n 0, 1) := by decide +kernel
theorem dX11_meanCost_29 : decode cX11_meanCost 29 = .ok (.iconst 0, 1) := by decide +kernel
theorem dX11_meanCost_30 : decode cX11_meanCost 30 = .ok (.invokevirtual 270, 3) := by decide +kernel
theorem dX11_meanCost_33 : decode cX11_meanCost 33 = .ok (.i2d, 1) := by decide +kernel
theorem dX11_meanCost_34 : decode cX11_meanCost 34 = .ok (.iload_n 1, 1) := by decide +kernel
theorem dX11_meanCost_35 : decode cX11_meanCost 35 = .ok (.i2d, 1) := by decide +kernel
theorem dX11_meanCost_36 : decode cX11_meanCost 36 = .ok (.ddiv, 1) := by decide +kernel
theorem dX11_meanCost_37 : decode cX11_meanCost 37 = .ok (.dreturn, 1) := by decide +kernel
def PX11_meanCost (Q : Option Value → az_M → Prop) (Xs : String → az_M → Prop) : az_T := (s_la 0 (s_cv 0 12 FX11_refresh (s_la 0 (s_ic (nI 4) (s_cv 1 12 FX11_sumOf (s_la 0 (s_ic (nI 5) (s_cv 1 12 FX11_sumOf (s_bin f_sub (s_si 1 (s_li 1 (s_if c_ne (s_la 0 (s_ic (nI 0) (s_cv 1 12 FX11_sumOf (s_i2d (s_li 1 (s_i2d (s_ddiv (s_rd Q)))))))) (s_thr "java/lang/ArithmeticException" Xs)))))))))))))
def FX11_meanCost : az_FX := az_funX [true] 2 PX11_meanCost
theorem okX11_meanCost (l : Launch) (hlt : l.stackTraces = false) : az_metX l yX11_meanCost cX11_meanCost 2 (some .double) ({ frames := 7, cells := 1, slots := 6, locals := 252 } : Room) FX11_meanCost := az_metX_of (own := RX11) (by decide +kernel) rfl (by decide) (fun X Q Xs C CX => by
  have h37 := az_dreturn C rfl dX11_meanCost_37
  have h36 := az_ddiv C dX11_meanCost_36 h37
  have h35 := az_i2d C dX11_meanCost_35 h36
  have h34 := az_iload_n C 1 rfl dX11_meanCost_34 h35
  have h33 := az_i2d C dX11_meanCost_33 h34
  have h30 := az_callV (ci := 12) C okX11_sumOf knX11_sumOf imX11_sumOf seX11_sumOf mLRX11_270 rfl (by decide) ⟨rfl, rfl, by decide, by decide⟩ dX11_meanCost_30 h33
  have h29 := az_iconst (x := (nI 0)) C dX11_meanCost_29 (by decide +kernel) h30
  have h28 := az_aload_n C 0 rfl dX11_meanCost_28 h29
  have h20 := az_throw (cls := "java/lang/ArithmeticException") (names := ["java/lang/RuntimeException", "java/lang/Exception"]) C CX (by decide +kernel) (by decide +kernel) thkRX11_287 thi_ArithmeticException thaRX11_289 thgRX11_289 dX11_meanCost_20 dX11_meanCost_23 dX11_meanCost_24 dX11_meanCost_27 ⟨by decide, by decide, by decide, by decide⟩
  have h17 := az_if_ne (tgt := 28) C dX11_meanCost_17 (by decide) h28 h20
  have h16 := az_iload_n C 1 rfl dX11_meanCost_16 h17
  have h15 := az_istore_n C 1 rfl (by decide) dX11_meanCost_15 h16
  have h14 := az_isub C dX11_meanCost_14 h15
  have h11 := az_callV (ci := 12) C okX11_sumOf knX11_sumOf imX11_sumOf seX11_sumOf mLRX11_270 rfl (by decide) ⟨rfl, rfl, by decide, by decide⟩ dX11_meanCost_11 h14
  have h10 := az_iconst (x := (nI 5)) C dX11_meanCost_10 (by decide +kernel) h11
  have h9 := az_aload_n C 0 rfl dX11_meanCost_9 h10
  have h6 := az_callV (ci := 12) C okX11_sumOf knX11_sumOf imX11_sumOf seX11_sumOf mLRX11_270 rfl (by decide) ⟨rfl, rfl, by decide, by decide⟩ dX11_meanCost_6 h9
  have h5 := az_iconst (x := (nI 4)) C dX11_meanCost_5 (by decide +kernel) h6
  have h4 := az_aload_n C 0 rfl dX11_meanCost_4 h5
  have h1 := az_callV (ci := 12) C okX11_refresh knX11_refresh imX11_refresh seX11_refresh mLRX11_136 rfl (by decide) ⟨rfl, rfl, by decide, by decide⟩ dX11_meanCost_1 h4
  have h0 := az_aload_n C 0 rfl dX11_meanCost_0 h1
  exact h0) l hlt
theorem dX11_load_0 : decode cX11_load 0 = .ok (.aload_n 0, 1) := by decide +kernel
theorem dX11_load_1 : decode cX11_load 1 = .ok (.iload_n 1, 1) := by decide +kernel
theorem dX11_load_2 : decode cX11_load 2 = .ok (.invokevirtual 126, 3) := by decide +kernel
theorem dX11_load_5 : decode cX11_load 5 = .ok (.ifCond .ne 11, 3) := by decide +kernel
theorem dX11_load_8 : decode cX11_load 8 = .ok (.new 93, 3) := by decide +kernel
theorem dX11_load_11 : decode cX11_load 11 = .ok (.dup, 1) := by decide +kernel
theorem dX11_load_12 : decode cX11_load 12 = .ok (.invokespecial 95, 3) := by decide +kernel
theorem dX11_load_15 : decode cX11_load 15 = .ok (.athrow, 1) := by decide +kernel
theorem dX11_load_16 : decode cX11_load 16 = .ok (.aload_n 0, 1) := by decide +kernel
theorem dX11_load_17 : decode cX11_load 17 = .ok (.invokevirtual 136, 3) := by decide +kernel
theorem dX11_load_20 : decode cX11_load 20 = .ok (.aload_n 0, 1) := by decide +kernel
theorem dX11_load_21 : decode cX11_load 21 = .ok (.getfield 29, 3) := by decide +kernel
theorem dX11_load_24 : decode cX11_load 24 = .ok (.getfield 139, 3) := by decide +kernel
theorem dX11_load_27 : decode cX11_load 27 = .ok (.iload_n 1, 1) := by decide +kernel
theorem dX11_load_28 : decode cX11_load 28 = .ok (.aload_n 0, 1) := by decide +kernel
theorem dX11_load_29 : decode cX11_load 29 = .ok (.getfield 10, 3) := by decide +kernel
theorem dX11_load_32 : decode cX11_load 32 = .ok (.getfield 143, 3) := by decide +kernel
theorem dX11_load_35 : decode cX11_load 35 = .ok (.invokevirtual 146, 3) := by decide +kernel
theorem dX11_load_38 : decode cX11_load 38 = .ok (.invokestatic 151, 3) := by decide +kernel
theorem dX11_load_41 : decode cX11_load 41 = .ok (.istore_n 2, 1) := by decide +kernel
theorem dX11_load_42 : decode cX11_load 42 = .ok (.aload_n 0, 1) := by decide +kernel
theorem dX11_load_43 : decode cX11_load 43 = .ok (.getfield 10, 3) := by decide +kernel
theorem dX11_load_46 : decode cX11_load 46 = .ok (.getfield 129, 3) := by decide +kernel
theorem dX11_load_49 : decode cX11_load 49 = .ok (.iload_n 1, 1) := by decide +kernel
theorem dX11_load_50 : decode cX11_load 50 = .ok (.aaload, 1) := by decide +kernel
theorem dX11_load_51 : decode cX11_load 51 = .ok (.bipush 10, 2) := by decide +kernel
theorem dX11_load_53 : decode cX11_load 53 = .ok (.iaload, 1) := by decide +kernel
theorem dX11_load_54 : decode cX11_load 54 = .ok (.iload_n 2, 1) := by decide +kernel
theorem dX11_load_55 : decode cX11_load 55 = .ok (.imul, 1) := by decide +kernel
theorem dX11_load_56 : decode cX11_load 56 = .ok (.istore_n 3, 1) := by decide +kernel
theorem dX11_load_57 : decode cX11_load 57 = .ok (.iload_n 3, 1) := by decide +kernel
theorem dX11_load_58 : decode cX11_load 58 = .ok (.ifCond .ne 11, 3) := by decide +kernel
theorem dX11_load_61 : decode cX11_load 61 = .ok (.new 287, 3) := by decide +kernel
theorem dX11_load_64 : decode cX11_load 64 = .ok (.dup, 1) := by decide +kernel
theorem dX11_load_65 : decode cX11_load 65 = .ok (.invokespecial 289, 3) := by decide +kernel
theorem dX11_load_68 : decode cX11_load 68 = .ok (.athrow, 1) := by decide +kernel
theorem dX11_load_69 : decode cX11_load 69 = .ok (.iconst 0, 1) := by decide +kernel
theorem dX11_load_70 : decode cX11_load 70 = .ok (.istore 4, 2) := by decide +kernel
theorem dX11_load_72 : decode cX11_load 72 = .ok (.iconst 0, 1) := by decide +kernel
theorem dX11_load_73 : decode cX11_load 73 = .ok (.istore 5, 2) := by decide +kernel
theorem dX11_load_75 : decode cX11_load 75 = .ok (.iload 5, 2) := by decide +kernel
theorem dX11_load_77 : decode cX11_load 77 = .ok (.aload_n 0, 1) := by decide +kernel
theorem dX11_load_78 : decode cX11_load 78 = .ok (.getfield 10, 3) := by decide +kernel
theorem dX11_load_81 : decode cX11_load 81 = .ok (.getfield 143, 3) := by decide +kernel
theorem dX11_load_84 : decode cX11_load 84 = .ok (.if_icmp .ge 26, 3) := by decide +kernel
theorem dX11_load_87 : decode cX11_load 87 = .ok (.iload 4, 2) := by decide +kernel
theorem dX11_load_89 : decode cX11_load 89 = .ok (.aload_n 0, 1) := by decide +kernel
theorem dX11_load_90 : decode cX11_load 90 = .ok (.getfield 29, 3) := by decide +kernel
theorem dX11_load_93 : decode cX11_load 93 = .ok (.getfield 231, 3) := by decide +kernel
theorem dX11_load_96 : decode cX11_load 96 = .ok (.iload_n 1, 1) := by decide +kernel
theorem dX11_load_97 : decode cX11_load 97 = .ok (.aaload, 1) := by decide +kernel
theorem dX11_load_98 : decode cX11_load 98 = .ok (.iload 5, 2) := by decide +kernel
theorem dX11_load_100 : decode cX11_load 100 = .ok (.iaload, 1) := by decide +kernel
theorem dX11_load_101 : decode cX11_load 101 = .ok (.iadd, 1) := by decide +kernel
theorem dX11_load_102 : decode cX11_load 102 = .ok (.istore 4, 2) := by decide +kernel
theorem dX11_load_104 : decode cX11_load 104 = .ok (.iinc 5 1, 3) := by decide +kernel
theorem dX11_load_107 : decode cX11_load 107 = .ok (.goto (-32), 3) := by decide +kernel
theorem dX11_load_110 : decode cX11_load 110 = .ok (.iload 4, 2) := by decide +kernel
theorem dX11_load_112 : decode cX11_load 112 = .ok (.i2f, 1) := by decide +kernel
theorem dX11_load_113 : decode cX11_load 113 = .ok (.iload_n 3, 1) := by decide +kernel
theorem dX11_load_114 : decode cX11_load 114 = .ok (.i2f, 1) := by decide +kernel
theorem dX11_load_115 : decode cX11_load 115 = .ok (.fdiv, 1) := by decide +kernel
theorem dX11_load_116 : decode cX11_load 116 = .ok (.freturn, 1) := by decide +kernel
def BX11_load_75 (Q : Option Value → az_M → Prop) (Xs : String → az_M → Prop) (Z75 : az_T) : az_T := (s_li 5 (s_la 0 (s_gr 12 0 (s_gi 9 0 (s_if2 d_ge (s_li 4 (s_i2f (s_li 3 (s_i2f (s_fdiv (s_rf Q)))))) (s_li 4 (s_la 0 (s_gr 12 3 (s_gr 6 3 (s_li 1 (s_aa 25 (s_li 5 (s_al 20 (s_bin f_add (s_si 4 (s_inc 5 (nI 1) (s_kp [true, true, false, true, true, true] Z75)))))))))))))))))
theorem okBX11_load_75 {X : az_X} {Q : Option Value → az_M → Prop} {Xs : String → az_M → Prop} (C : az_C X cX11_load 6 RX11 (az_ts yX11_load cX11_load 6 (some .float)) ({ frames := 7, cells := 1, slots := 6, locals := 252 } : Room) (some .float) Q) (CX : az_CX X ({ frames := 7, cells := 1, slots := 6, locals := 252 } : Room) Q Xs) {Z75 : az_T} (hZ75 : az_ok X 75 Z75) : az_ok X 75 (BX11_load_75 Q Xs Z75) := by
  have h116 := az_freturn C rfl dX11_load_116
  have h115 := az_fdiv C dX11_load_115 h116
  have h114 := az_i2f C dX11_load_114 h115
  have h113 := az_iload_n C 3 rfl dX11_load_113 h114
  have h112 := az_i2f C dX11_load_112 h113
  have h110 := az_iload C dX11_load_110 h112
  have h107 := az_goto (tgt := 75) C dX11_load_107 (by decide) (az_keep [true, true, false, true, true, true] hZ75)
  have h104 := az_iinc (v := (nI 1)) C (by decide) (by decide +kernel) dX11_load_104 h107
  have h102 := az_istore C (by decide) dX11_load_102 h104
  have h101 := az_iadd C dX11_load_101 h102
  have h100 := az_iald C dX11_load_100 h101
  have h98 := az_iload C dX11_load_98 h100
  have h97 := az_aald2 C dX11_load_97 h98
  have h96 := az_iload_n C 1 rfl dX11_load_96 h97
  have h93 := az_getR (T := TX4) (N := 10) (j := 3) C gwRX4 rfl (by decide) (by decide) iIRX4_3 mFRX11_231 rfl dX11_load_93 h96
  have h90 := az_getR (T := TX11) (N := 10) (j := 3) C gwRX11 rfl (by decide) (by decide) iIRX11_3 mFRX11_29 rfl dX11_load_90 h93
  have h89 := az_aload_n C 0 rfl dX11_load_89 h90
  have h87 := az_iload C dX11_load_87 h89
  have h84 := az_icmp_ge (tgt := 110) C dX11_load_84 (by decide) h110 h87
  have h81 := az_getI (T := TX8) (N := 11) (j := 0) C gwRX8 rfl (by decide) (by decide) iIRX8_0 mFRX11_143 rfl dX11_load_81 h84
  have h78 := az_getR (T := TX11) (N := 10) (j := 0) C gwRX11 rfl (by decide) (by decide) iIRX11_0 mFRX11_10 rfl dX11_load_78 h81
  have h77 := az_aload_n C 0 rfl dX11_load_77 h78
  have h75 := az_iload C dX11_load_75 h77
  exact h75
def LX11_load_75 (Q : Option Value → az_M → Prop) (Xs : String → az_M → Prop) : az_T := s_lp (fun Z => BX11_load_75 Q Xs Z)
theorem okLX11_load_75 {X : az_X} {Q : Option Value → az_M → Prop} {Xs : String → az_M → Prop} (C : az_C X cX11_load 6 RX11 (az_ts yX11_load cX11_load 6 (some .float)) ({ frames := 7, cells := 1, slots := 6, locals := 252 } : Room) (some .float) Q) (CX : az_CX X ({ frames := 7, cells := 1, slots := 6, locals := 252 } : Room) Q Xs) : az_ok X 75 (LX11_load_75 Q Xs) := az_loop (F := fun Z => BX11_load_75 Q Xs Z) (fun _ hZ => okBX11_load_75 C CX hZ)
def PX11_load (Q : Option Value → az_M → Prop) (Xs : String → az_M → Prop) : az_T := (s_la 0 (s_li 1 (s_cv 1 12 FX11_isUnit (s_if c_ne (s_la 0 (s_cv 0 12 FX11_refresh (s_la 0 (s_gr 12 3 (s_gr 6 1 (s_li 1 (s_la 0 (s_gr 12 0 (s_gi 9 0 (s_cv 2 10 FX9_hoursRun (s_cs 1 FJ6_bitCount_0f7a4 (s_si 2 (s_la 0 (s_gr 12 0 (s_gr 9 5 (s_li 1 (s_aa 25 (s_ic (nI 10) (s_al 20 (s_li 2 (s_bin f_mul (s_si 3 (s_li 3 (s_if c_ne (s_ic (nI 0) (s_si 4 (s_ic (nI 0) (s_si 5 (s_kp [true, true, false, true, true, true] (LX11_load_75 Q Xs)))))) (s_thr "java/lang/ArithmeticException" Xs))))))))))))))))))))))))) (s_thr "java/lang/IndexOutOfBoundsException" Xs)))))
def FX11_load : az_FX := az_funX [true, false] 6 PX11_load
theorem okX11_load (l : Launch) (hlt : l.stackTraces = false) : az_metX l yX11_load cX11_load 6 (some .float) ({ frames := 7, cells := 1, slots := 6, locals := 252 } : Room) FX11_load := az_metX_of (own := RX11) (by decide +kernel) rfl (by decide) (fun X Q Xs C CX => by
  have h73 := az_istore C (by decide) dX11_load_73 (az_keep [true, true, false, true, true, true] (okLX11_load_75 C CX))
  have h72 := az_iconst (x := (nI 0)) C dX11_load_72 (by decide +kernel) h73
  have h70 := az_istore C (by decide) dX11_load_70 h72
  have h69 := az_iconst (x := (nI 0)) C dX11_load_69 (by decide +kernel) h70
  have h61 := az_throw (cls := "java/lang/ArithmeticException") (names := ["java/lang/RuntimeException", "java/lang/Exception"]) C CX (by decide +kernel) (by decide +kernel) thkRX11_287 thi_ArithmeticException thaRX11_289 thgRX11_289 dX11_load_61 dX11_load_64 dX11_load_65 dX11_load_68 ⟨by decide, by decide, by decide, by decide⟩
  have h58 := az_if_ne (tgt := 69) C dX11_load_58 (by decide) h69 h61
  have h57 := az_iload_n C 3 rfl dX11_load_57 h58
  have h56 := az_istore_n C 3 rfl (by decide) dX11_load_56 h57
  have h55 := az_imul C dX11_load_55 h56
  have h54 := az_iload_n C 2 rfl dX11_load_54 h55
  have h53 := az_iald C dX11_load_53 h54
  have h51 := az_bipush (x := (nI 10)) C dX11_load_51 (by decide +kernel) h53
  have h50 := az_aald2 C dX11_load_50 h51
  have h49 := az_iload_n C 1 rfl dX11_load_49 h50
  have h46 := az_getR (T := TX8) (N := 11) (j := 5) C gwRX8 rfl (by decide) (by decide) iIRX8_5 mFRX11_129 rfl dX11_load_46 h49
  have h43 := az_getR (T := TX11) (N := 10) (j := 0) C gwRX11 rfl (by decide) (by decide) iIRX11_0 mFRX11_10 rfl dX11_load_43 h46
  have h42 := az_aload_n C 0 rfl dX11_load_42 h43
  have h41 := az_istore_n C 2 rfl (by decide) dX11_load_41 h42
  have h38 := az_callS C okJ6_bitCount_0f7a4 knJ6_bitCount_0f7a4 stJ6_bitCount_0f7a4 mLRX11_151 ⟨rfl, rfl, by decide, by decide⟩ dX11_load_38 h41
  have h35 := az_callVN (ci := 10) C okX9_hoursRun knX9_hoursRun imX9_hoursRun seX9_hoursRun mNRX11_146 rfl (by decide) ⟨rfl, rfl, by decide, by decide⟩ dX11_load_35 h38
  have h32 := az_getI (T := TX8) (N := 11) (j := 0) C gwRX8 rfl (by decide) (by decide) iIRX8_0 mFRX11_143 rfl dX11_load_32 h35
  have h29 := az_getR (T := TX11) (N := 10) (j := 0) C gwRX11 rfl (by decide) (by decide) iIRX11_0 mFRX11_10 rfl dX11_load_29 h32
  have h28 := az_aload_n C 0 rfl dX11_load_28 h29
  have h27 := az_iload_n C 1 rfl dX11_load_27 h28
  have h24 := az_getR (T := TX4) (N := 10) (j := 1) C gwRX4 rfl (by decide) (by decide) iIRX4_1 mFRX11_139 rfl dX11_load_24 h27
  have h21 := az_getR (T := TX11) (N := 10) (j := 3) C gwRX11 rfl (by decide) (by decide) iIRX11_3 mFRX11_29 rfl dX11_load_21 h24
  have h20 := az_aload_n C 0 rfl dX11_load_20 h21
  have h17 := az_callV (ci := 12) C okX11_refresh knX11_refresh imX11_refresh seX11_refresh mLRX11_136 rfl (by decide) ⟨rfl, rfl, by decide, by decide⟩ dX11_load_17 h20
  have h16 := az_aload_n C 0 rfl dX11_load_16 h17
  have h8 := az_throw (cls := "java/lang/IndexOutOfBoundsException") (names := ["java/lang/RuntimeException", "java/lang/Exception"]) C CX (by decide +kernel) (by decide +kernel) thkRX11_93 thi_IndexOutOfBoundsException thaRX11_95 thgRX11_95 dX11_load_8 dX11_load_11 dX11_load_12 dX11_load_15 ⟨by decide, by decide, by decide, by decide⟩
  have h5 := az_if_ne (tgt := 16) C dX11_load_5 (by decide) h16 h8
  have h2 := az_callV (ci := 12) C okX11_isUnit knX11_isUnit imX11_isUnit seX11_isUnit mLRX11_126 rfl (by decide) ⟨rfl, rfl, by decide, by decide⟩ dX11_load_2 h5
  have h1 := az_iload_n C 1 rfl dX11_load_1 h2
  have h0 := az_aload_n C 0 rfl dX11_load_0 h1
  exact h0) l hlt
theorem dX11_undo_0 : decode cX11_undo 0 = .ok (.aload_n 0, 1) := by decide +kernel
theorem dX11_undo_1 : decode cX11_undo 1 = .ok (.getfield 22, 3) := by decide +kernel
theorem dX11_undo_4 : decode cX11_undo 4 = .ok (.getfield 296, 3) := by decide +kernel
theorem dX11_undo_7 : decode cX11_undo 7 = .ok (.ifCond .ne 11, 3) := by decide +kernel
theorem dX11_undo_10 : decode cX11_undo 10 = .ok (.new 119, 3) := by decide +kernel
theorem dX11_undo_13 : decode cX11_undo 13 = .ok (.dup, 1) := by decide +kernel
theorem dX11_undo_14 : decode cX11_undo 14 = .ok (.invokespecial 121, 3) := by decide +kernel
theorem dX11_undo_17 : decode cX11_undo 17 = .ok (.athrow, 1) := by decide +kernel
theorem dX11_undo_18 : decode cX11_undo 18 = .ok (.aload_n 0, 1) := by decide +kernel
theorem dX11_undo_19 : decode cX11_undo 19 = .ok (.getfield 22, 3) := by decide +kernel
theorem dX11_undo_22 : decode cX11_undo 22 = .ok (.aload_n 0, 1) := by decide +kernel
theorem dX11_undo_23 : decode cX11_undo 23 = .ok (.getfield 10, 3) := by decide +kernel
theorem dX11_undo_26 : decode cX11_undo 26 = .ok (.invokevirtual 297, 3) := by decide +kernel
theorem dX11_undo_29 : decode cX11_undo 29 = .ok (.aload_n 0, 1) := by decide +kernel
theorem dX11_undo_30 : decode cX11_undo 30 = .ok (.iconst 1, 1) := by decide +kernel
theorem dX11_undo_31 : decode cX11_undo 31 = .ok (.putfield 65, 3) := by decide +kernel
theorem dX11_undo_34 : decode cX11_undo 34 = .ok (.aload_n 0, 1) := by decide +kernel
theorem dX11_undo_35 : decode cX11_undo 35 = .ok (.getfield 22, 3) := by decide +kernel
theorem dX11_undo_38 : decode cX11_undo 38 = .ok (.getfield 296, 3) := by decide +kernel
theorem dX11_undo_41 : decode cX11_undo 41 = .ok (.ireturn, 1) := by decide +kernel
def PX11_undo (Q : Option Value → az_M → Prop) (Xs : String → az_M → Prop) : az_T := (s_la 0 (s_gr 12 2 (s_gi 4 2 (s_if c_ne (s_la 0 (s_gr 12 2 (s_la 0 (s_gr 12 0 (s_cv 1 4 FX2_takeBack (s_la 0 (s_ic (nI 1) (s_pz 12 9 (s_la 0 (s_gr 12 2 (s_gi 4 2 (s_ri Q)))))))))))) (s_thr "java/lang/IllegalStateException" Xs)))))
def FX11_undo : az_FX := az_funX [true] 1 PX11_undo
theorem okX11_undo (l : Launch) (hlt : l.stackTraces = false) : az_metX l yX11_undo cX11_undo 1 (some .int) ({ frames := 7, cells := 1, slots := 6, locals := 143 } : Room) FX11_undo := az_metX_of (own := RX11) (by decide +kernel) rfl (by decide) (fun X Q Xs C CX => by
  have h41 := az_ireturn C rfl dX11_undo_41
  have h38 := az_getI (T := TX2) (N := 3) (j := 2) C gwRX2 rfl (by decide) (by decide) iIRX2_2 mFRX11_296 rfl dX11_undo_38 h41
  have h35 := az_getR (T := TX11) (N := 10) (j := 2) C gwRX11 rfl (by decide) (by decide) iIRX11_2 mFRX11_22 rfl dX11_undo_35 h38
  have h34 := az_aload_n C 0 rfl dX11_undo_34 h35
  have h31 := az_putZ (T := TX11) (N := 10) (j := 9) C gwRX11 rfl (by decide) (by decide) tyX11 tyX11_ok nmX11 iIRX11_9 (by decide +kernel) rfl mFRX11_65 rfl dX11_undo_31 h34
  have h30 := az_iconst (x := (nI 1)) C dX11_undo_30 (by decide +kernel) h31
  have h29 := az_aload_n C 0 rfl dX11_undo_29 h30
  have h26 := az_callVN (ci := 4) C okX2_takeBack knX2_takeBack imX2_takeBack seX2_takeBack mNRX11_297 rfl (by decide) ⟨rfl, rfl, by decide, by decide⟩ dX11_undo_26 h29
  have h23 := az_getR (T := TX11) (N := 10) (j := 0) C gwRX11 rfl (by decide) (by decide) iIRX11_0 mFRX11_10 rfl dX11_undo_23 h26
  have h22 := az_aload_n C 0 rfl dX11_undo_22 h23
  have h19 := az_getR (T := TX11) (N := 10) (j := 2) C gwRX11 rfl (by decide) (by decide) iIRX11_2 mFRX11_22 rfl dX11_undo_19 h22
  have h18 := az_aload_n C 0 rfl dX11_undo_18 h19
  have h10 := az_throw (cls := "java/lang/IllegalStateException") (names := ["java/lang/RuntimeException", "java/lang/Exception"]) C CX (by decide +kernel) (by decide +kernel) thkRX11_119 thi_IllegalStateException thaRX11_121 thgRX11_121 dX11_undo_10 dX11_undo_13 dX11_undo_14 dX11_undo_17 ⟨by decide, by decide, by decide, by decide⟩
  have h7 := az_if_ne (tgt := 18) C dX11_undo_7 (by decide) h18 h10
  have h4 := az_getI (T := TX2) (N := 3) (j := 2) C gwRX2 rfl (by decide) (by decide) iIRX2_2 mFRX11_296 rfl dX11_undo_4 h7
  have h1 := az_getR (T := TX11) (N := 10) (j := 2) C gwRX11 rfl (by decide) (by decide) iIRX11_2 mFRX11_22 rfl dX11_undo_1 h4
  have h0 := az_aload_n C 0 rfl dX11_undo_0 h1
  exact h0) l hlt
theorem dX11_restore_0 : decode cX11_restore 0 = .ok (.aload_n 0, 1) := by decide +kernel
theorem dX11_restore_1 : decode cX11_restore 1 = .ok (.getfield 61, 3) := by decide +kernel
theorem dX11_restore_4 : decode cX11_restore 4 = .ok (.ifCond .ne 11, 3) := by decide +kernel
theorem dX11_restore_7 : decode cX11_restore 7 = .ok (.new 119, 3) := by decide +kernel
theorem dX11_restore_10 : decode cX11_restore 10 = .ok (.dup, 1) := by decide +kernel
theorem dX11_restore_11 : decode cX11_restore 11 = .ok (.invokespecial 121, 3) := by decide +kernel
theorem dX11_restore_14 : decode cX11_restore 14 = .ok (.athrow, 1) := by decide +kernel
theorem dX11_restore_15 : decode cX11_restore 15 = .ok (.aload_n 0, 1) := by decide +kernel
theorem dX11_restore_16 : decode cX11_restore 16 = .ok (.getfield 10, 3) := by decide +kernel
theorem dX11_restore_19 : decode cX11_restore 19 = .ok (.aload_n 0, 1) := by decide +kernel
theorem dX11_restore_20 : decode cX11_restore 20 = .ok (.getfield 16, 3) := by decide +kernel
theorem dX11_restore_23 : decode cX11_restore 23 = .ok (.invokevirtual 300, 3) := by decide +kernel
theorem dX11_restore_26 : decode cX11_restore 26 = .ok (.aload_n 0, 1) := by decide +kernel
theorem dX11_restore_27 : decode cX11_restore 27 = .ok (.getfield 22, 3) := by decide +kernel
theorem dX11_restore_30 : decode cX11_restore 30 = .ok (.invokevirtual 83, 3) := by decide +kernel
theorem dX11_restore_33 : decode cX11_restore 33 = .ok (.aload_n 0, 1) := by decide +kernel
theorem dX11_restore_34 : decode cX11_restore 34 = .ok (.iconst 1, 1) := by decide +kernel
theorem dX11_restore_35 : decode cX11_restore 35 = .ok (.putfield 65, 3) := by decide +kernel
theorem dX11_restore_38 : decode cX11_restore 38 = .ok (.aload_n 0, 1) := by decide +kernel
theorem dX11_restore_39 : decode cX11_restore 39 = .ok (.getfield 10, 3) := by decide +kernel
theorem dX11_restore_42 : decode cX11_restore 42 = .ok (.getfield 75, 3) := by decide +kernel
theorem dX11_restore_45 : decode cX11_restore 45 = .ok (.ireturn, 1) := by decide +kernel
def PX11_restore (Q : Option Value → az_M → Prop) (Xs : String → az_M → Prop) : az_T := (s_la 0 (s_gi 12 8 (s_if c_ne (s_la 0 (s_gr 12 0 (s_la 0 (s_gr 12 1 (s_cv 1 9 FX8_copyFrom (s_la 0 (s_gr 12 2 (s_cv 0 4 FX2_forget (s_la 0 (s_ic (nI 1) (s_pz 12 9 (s_la 0 (s_gr 12 0 (s_gi 9 3 (s_ri Q))))))))))))))) (s_thr "java/lang/IllegalStateException" Xs))))
def FX11_restore : az_FX := az_funX [true] 1 PX11_restore
theorem okX11_restore (l : Launch) (hlt : l.stackTraces = false) : az_metX l yX11_restore cX11_restore 1 (some .int) ({ frames := 7, cells := 1, slots := 6, locals := 122 } : Room) FX11_restore := az_metX_of (own := RX11) (by decide +kernel) rfl (by decide) (fun X Q Xs C CX => by
  have h45 := az_ireturn C rfl dX11_restore_45
  have h42 := az_getI (T := TX8) (N := 11) (j := 3) C gwRX8 rfl (by decide) (by decide) iIRX8_3 mFRX11_75 rfl dX11_restore_42 h45
  have h39 := az_getR (T := TX11) (N := 10) (j := 0) C gwRX11 rfl (by decide) (by decide) iIRX11_0 mFRX11_10 rfl dX11_restore_39 h42
  have h38 := az_aload_n C 0 rfl dX11_restore_38 h39
  have h35 := az_putZ (T := TX11) (N := 10) (j := 9) C gwRX11 rfl (by decide) (by decide) tyX11 tyX11_ok nmX11 iIRX11_9 (by decide +kernel) rfl mFRX11_65 rfl dX11_restore_35 h38
  have h34 := az_iconst (x := (nI 1)) C dX11_restore_34 (by decide +kernel) h35
  have h33 := az_aload_n C 0 rfl dX11_restore_33 h34
  have h30 := az_callVN (ci := 4) C okX2_forget knX2_forget imX2_forget seX2_forget mNRX11_83 rfl (by decide) ⟨rfl, rfl, by decide, by decide⟩ dX11_restore_30 h33
  have h27 := az_getR (T := TX11) (N := 10) (j := 2) C gwRX11 rfl (by decide) (by decide) iIRX11_2 mFRX11_22 rfl dX11_restore_27 h30
  have h26 := az_aload_n C 0 rfl dX11_restore_26 h27
  have h23 := az_callVN (ci := 9) C okX8_copyFrom knX8_copyFrom imX8_copyFrom seX8_copyFrom mNRX11_300 rfl (by decide) ⟨rfl, rfl, by decide, by decide⟩ dX11_restore_23 h26
  have h20 := az_getR (T := TX11) (N := 10) (j := 1) C gwRX11 rfl (by decide) (by decide) iIRX11_1 mFRX11_16 rfl dX11_restore_20 h23
  have h19 := az_aload_n C 0 rfl dX11_restore_19 h20
  have h16 := az_getR (T := TX11) (N := 10) (j := 0) C gwRX11 rfl (by decide) (by decide) iIRX11_0 mFRX11_10 rfl dX11_restore_16 h19
  have h15 := az_aload_n C 0 rfl dX11_restore_15 h16
  have h7 := az_throw (cls := "java/lang/IllegalStateException") (names := ["java/lang/RuntimeException", "java/lang/Exception"]) C CX (by decide +kernel) (by decide +kernel) thkRX11_119 thi_IllegalStateException thaRX11_121 thgRX11_121 dX11_restore_7 dX11_restore_10 dX11_restore_11 dX11_restore_14 ⟨by decide, by decide, by decide, by decide⟩
  have h4 := az_if_ne (tgt := 15) C dX11_restore_4 (by decide) h15 h7
  have h1 := az_getI (T := TX11) (N := 10) (j := 8) C gwRX11 rfl (by decide) (by decide) iIRX11_8 mFRX11_61 rfl dX11_restore_1 h4
  have h0 := az_aload_n C 0 rfl dX11_restore_0 h1
  exact h0) l hlt
