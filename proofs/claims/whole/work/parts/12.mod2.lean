/-! by program (wip/whole/run_gen.py): decode rows, predicates and contracts of 41 methods -/
theorem dX12_removeOutage_0 : decode cX12_removeOutage 0 = .ok (.aload_n 0, 1) := by decide +kernel
theorem dX12_removeOutage_1 : decode cX12_removeOutage 1 = .ok (.aload_n 0, 1) := by decide +kernel
theorem dX12_removeOutage_2 : decode cX12_removeOutage 2 = .ok (.iload_n 1, 1) := by decide +kernel
theorem dX12_removeOutage_3 : decode cX12_removeOutage 3 = .ok (.invokevirtual 144, 3) := by decide +kernel
theorem dX12_removeOutage_6 : decode cX12_removeOutage 6 = .ok (.ifCond .eq 7, 3) := by decide +kernel
theorem dX12_removeOutage_9 : decode cX12_removeOutage 9 = .ok (.iconst 0, 1) := by decide +kernel
theorem dX12_removeOutage_10 : decode cX12_removeOutage 10 = .ok (.goto 4, 3) := by decide +kernel
theorem dX12_removeOutage_13 : decode cX12_removeOutage 13 = .ok (.iconst 1, 1) := by decide +kernel
theorem dX12_removeOutage_14 : decode cX12_removeOutage 14 = .ok (.putfield 89, 3) := by decide +kernel
theorem dX12_removeOutage_17 : decode cX12_removeOutage 17 = .ok (.aload_n 0, 1) := by decide +kernel
theorem dX12_removeOutage_18 : decode cX12_removeOutage 18 = .ok (.getfield 89, 3) := by decide +kernel
theorem dX12_removeOutage_21 : decode cX12_removeOutage 21 = .ok (.ifCond .le 5, 3) := by decide +kernel
theorem dX12_removeOutage_24 : decode cX12_removeOutage 24 = .ok (.iconst 0, 1) := by decide +kernel
theorem dX12_removeOutage_25 : decode cX12_removeOutage 25 = .ok (.ireturn, 1) := by decide +kernel
theorem dX12_removeOutage_26 : decode cX12_removeOutage 26 = .ok (.aload_n 0, 1) := by decide +kernel
theorem dX12_removeOutage_27 : decode cX12_removeOutage 27 = .ok (.invokevirtual 120, 3) := by decide +kernel
theorem dX12_removeOutage_30 : decode cX12_removeOutage 30 = .ok (.aload_n 0, 1) := by decide +kernel
theorem dX12_removeOutage_31 : decode cX12_removeOutage 31 = .ok (.getfield 9, 3) := by decide +kernel
theorem dX12_removeOutage_34 : decode cX12_removeOutage 34 = .ok (.iconst 3, 1) := by decide +kernel
theorem dX12_removeOutage_35 : decode cX12_removeOutage 35 = .ok (.dup2, 1) := by decide +kernel
theorem dX12_removeOutage_36 : decode cX12_removeOutage 36 = .ok (.iaload, 1) := by decide +kernel
theorem dX12_removeOutage_37 : decode cX12_removeOutage 37 = .ok (.iconst 1, 1) := by decide +kernel
theorem dX12_removeOutage_38 : decode cX12_removeOutage 38 = .ok (.isub, 1) := by decide +kernel
theorem dX12_removeOutage_39 : decode cX12_removeOutage 39 = .ok (.iastore, 1) := by decide +kernel
theorem dX12_removeOutage_40 : decode cX12_removeOutage 40 = .ok (.aload_n 0, 1) := by decide +kernel
theorem dX12_removeOutage_41 : decode cX12_removeOutage 41 = .ok (.getfield 9, 3) := by decide +kernel
theorem dX12_removeOutage_44 : decode cX12_removeOutage 44 = .ok (.sipush 133, 3) := by decide +kernel
theorem dX12_removeOutage_47 : decode cX12_removeOutage 47 = .ok (.iconst 3, 1) := by decide +kernel
theorem dX12_removeOutage_48 : decode cX12_removeOutage 48 = .ok (.iload_n 1, 1) := by decide +kernel
theorem dX12_removeOutage_49 : decode cX12_removeOutage 49 = .ok (.imul, 1) := by decide +kernel
theorem dX12_removeOutage_50 : decode cX12_removeOutage 50 = .ok (.iadd, 1) := by decide +kernel
theorem dX12_removeOutage_51 : decode cX12_removeOutage 51 = .ok (.iconst 3, 1) := by decide +kernel
theorem dX12_removeOutage_52 : decode cX12_removeOutage 52 = .ok (.iadd, 1) := by decide +kernel
theorem dX12_removeOutage_53 : decode cX12_removeOutage 53 = .ok (.aload_n 0, 1) := by decide +kernel
theorem dX12_removeOutage_54 : decode cX12_removeOutage 54 = .ok (.getfield 9, 3) := by decide +kernel
theorem dX12_removeOutage_57 : decode cX12_removeOutage 57 = .ok (.sipush 133, 3) := by decide +kernel
theorem dX12_removeOutage_60 : decode cX12_removeOutage 60 = .ok (.iconst 3, 1) := by decide +kernel
theorem dX12_removeOutage_61 : decode cX12_removeOutage 61 = .ok (.iload_n 1, 1) := by decide +kernel
theorem dX12_removeOutage_62 : decode cX12_removeOutage 62 = .ok (.imul, 1) := by decide +kernel
theorem dX12_removeOutage_63 : decode cX12_removeOutage 63 = .ok (.iadd, 1) := by decide +kernel
theorem dX12_removeOutage_64 : decode cX12_removeOutage 64 = .ok (.iconst 3, 1) := by decide +kernel
theorem dX12_removeOutage_65 : decode cX12_removeOutage 65 = .ok (.aload_n 0, 1) := by decide +kernel
theorem dX12_removeOutage_66 : decode cX12_removeOutage 66 = .ok (.getfield 9, 3) := by decide +kernel
theorem dX12_removeOutage_69 : decode cX12_removeOutage 69 = .ok (.iconst 3, 1) := by decide +kernel
theorem dX12_removeOutage_70 : decode cX12_removeOutage 70 = .ok (.iaload, 1) := by decide +kernel
theorem dX12_removeOutage_71 : decode cX12_removeOutage 71 = .ok (.iload_n 1, 1) := by decide +kernel
theorem dX12_removeOutage_72 : decode cX12_removeOutage 72 = .ok (.isub, 1) := by decide +kernel
theorem dX12_removeOutage_73 : decode cX12_removeOutage 73 = .ok (.imul, 1) := by decide +kernel
theorem dX12_removeOutage_74 : decode cX12_removeOutage 74 = .ok (.invokestatic 103, 3) := by decide +kernel
theorem dX12_removeOutage_77 : decode cX12_removeOutage 77 = .ok (.aload_n 0, 1) := by decide +kernel
theorem dX12_removeOutage_78 : decode cX12_removeOutage 78 = .ok (.getfield 9, 3) := by decide +kernel
theorem dX12_removeOutage_81 : decode cX12_removeOutage 81 = .ok (.iconst 3, 1) := by decide +kernel
theorem dX12_removeOutage_82 : decode cX12_removeOutage 82 = .ok (.iaload, 1) := by decide +kernel
theorem dX12_removeOutage_83 : decode cX12_removeOutage 83 = .ok (.ireturn, 1) := by decide +kernel
def LX12_removeOutage_14 (Q : Option Value → az_M → Prop) : az_T := (s_pi 13 5 (s_la 0 (s_gi 13 5 (s_if c_le (s_la 0 (s_cv 0 13 FX12_change (s_la 0 (s_gr 13 0 (s_ic (nI 3) (s_dup2 (s_al 20 (s_ic (nI 1) (s_bin f_sub (s_as (s_la 0 (s_gr 13 0 (s_ic (nI 133) (s_ic (nI 3) (s_li 1 (s_bin f_mul (s_bin f_add (s_ic (nI 3) (s_bin f_add (s_la 0 (s_gr 13 0 (s_ic (nI 133) (s_ic (nI 3) (s_li 1 (s_bin f_mul (s_bin f_add (s_ic (nI 3) (s_la 0 (s_gr 13 0 (s_ic (nI 3) (s_al 20 (s_li 1 (s_bin f_sub (s_bin f_mul (s_cpy (s_la 0 (s_gr 13 0 (s_ic (nI 3) (s_al 20 (s_ri Q)))))))))))))))))))))))))))))))))))))))) (s_ic (nI 0) (s_ri Q))))))
theorem okLX12_removeOutage_14 {X : az_X} {Q : Option Value → az_M → Prop} (C : az_C X cX12_removeOutage 2 RX12 (az_ts yX12_removeOutage cX12_removeOutage 2 (some .int)) ({ frames := 3, cells := 0, slots := 0, locals := 143 } : Room) (some .int) Q) : az_ok X 14 (LX12_removeOutage_14 Q) := by
  have h83 := az_ireturn C rfl dX12_removeOutage_83
  have h82 := az_iald C dX12_removeOutage_82 h83
  have h81 := az_iconst (x := (nI 3)) C dX12_removeOutage_81 (by decide +kernel) h82
  have h78 := az_getR (T := TX12) (N := 33) (j := 0) C gwRX12 rfl (by decide) (by decide) iIRX12_0 mFRX12_9 rfl dX12_removeOutage_78 h81
  have h77 := az_aload_n C 0 rfl dX12_removeOutage_77 h78
  have h74 := az_copy C mLRX12_103 cp_nat cp_st cp_ini (by decide) (by decide +kernel) dX12_removeOutage_74 h77
  have h73 := az_imul C dX12_removeOutage_73 h74
  have h72 := az_isub C dX12_removeOutage_72 h73
  have h71 := az_iload_n C 1 rfl dX12_removeOutage_71 h72
  have h70 := az_iald C dX12_removeOutage_70 h71
  have h69 := az_iconst (x := (nI 3)) C dX12_removeOutage_69 (by decide +kernel) h70
  have h66 := az_getR (T := TX12) (N := 33) (j := 0) C gwRX12 rfl (by decide) (by decide) iIRX12_0 mFRX12_9 rfl dX12_removeOutage_66 h69
  have h65 := az_aload_n C 0 rfl dX12_removeOutage_65 h66
  have h64 := az_iconst (x := (nI 3)) C dX12_removeOutage_64 (by decide +kernel) h65
  have h63 := az_iadd C dX12_removeOutage_63 h64
  have h62 := az_imul C dX12_removeOutage_62 h63
  have h61 := az_iload_n C 1 rfl dX12_removeOutage_61 h62
  have h60 := az_iconst (x := (nI 3)) C dX12_removeOutage_60 (by decide +kernel) h61
  have h57 := az_sipush (x := (nI 133)) C dX12_removeOutage_57 (by decide +kernel) h60
  have h54 := az_getR (T := TX12) (N := 33) (j := 0) C gwRX12 rfl (by decide) (by decide) iIRX12_0 mFRX12_9 rfl dX12_removeOutage_54 h57
  have h53 := az_aload_n C 0 rfl dX12_removeOutage_53 h54
  have h52 := az_iadd C dX12_removeOutage_52 h53
  have h51 := az_iconst (x := (nI 3)) C dX12_removeOutage_51 (by decide +kernel) h52
  have h50 := az_iadd C dX12_removeOutage_50 h51
  have h49 := az_imul C dX12_removeOutage_49 h50
  have h48 := az_iload_n C 1 rfl dX12_removeOutage_48 h49
  have h47 := az_iconst (x := (nI 3)) C dX12_removeOutage_47 (by decide +kernel) h48
  have h44 := az_sipush (x := (nI 133)) C dX12_removeOutage_44 (by decide +kernel) h47
  have h41 := az_getR (T := TX12) (N := 33) (j := 0) C gwRX12 rfl (by decide) (by decide) iIRX12_0 mFRX12_9 rfl dX12_removeOutage_41 h44
  have h40 := az_aload_n C 0 rfl dX12_removeOutage_40 h41
  have h39 := az_iast C dX12_removeOutage_39 h40
  have h38 := az_isub C dX12_removeOutage_38 h39
  have h37 := az_iconst (x := (nI 1)) C dX12_removeOutage_37 (by decide +kernel) h38
  have h36 := az_iald C dX12_removeOutage_36 h37
  have h35 := az_dup2 C dX12_removeOutage_35 h36
  have h34 := az_iconst (x := (nI 3)) C dX12_removeOutage_34 (by decide +kernel) h35
  have h31 := az_getR (T := TX12) (N := 33) (j := 0) C gwRX12 rfl (by decide) (by decide) iIRX12_0 mFRX12_9 rfl dX12_removeOutage_31 h34
  have h30 := az_aload_n C 0 rfl dX12_removeOutage_30 h31
  have h27 := az_callV (ci := 13) C okX12_change knX12_change imX12_change seX12_change mLRX12_120 rfl (by decide) ⟨rfl, rfl, by decide, by decide⟩ dX12_removeOutage_27 h30
  have h26 := az_aload_n C 0 rfl dX12_removeOutage_26 h27
  have h25 := az_ireturn C rfl dX12_removeOutage_25
  have h24 := az_iconst (x := (nI 0)) C dX12_removeOutage_24 (by decide +kernel) h25
  have h21 := az_if_le (tgt := 26) C dX12_removeOutage_21 (by decide) h26 h24
  have h18 := az_getI (T := TX12) (N := 33) (j := 5) C gwRX12 rfl (by decide) (by decide) iIRX12_5 mFRX12_89 rfl dX12_removeOutage_18 h21
  have h17 := az_aload_n C 0 rfl dX12_removeOutage_17 h18
  have h14 := az_putI (T := TX12) (N := 33) (j := 5) C gwRX12 rfl (by decide) (by decide) tyX12 tyX12_ok nmX12 iIRX12_5 (by decide +kernel) rfl mFRX12_89 rfl dX12_removeOutage_14 h17
  exact h14
def PX12_removeOutage (Q : Option Value → az_M → Prop) : az_T := (s_la 0 (s_la 0 (s_li 1 (s_cv 1 13 FX12_isOutage (s_if c_eq (s_ic (nI 1) (s_kp [true, true] (LX12_removeOutage_14 Q))) (s_ic (nI 0) (s_kp [true, true] (LX12_removeOutage_14 Q))))))))
def FX12_removeOutage : az_F := az_fun [true, false] 2 PX12_removeOutage
theorem okX12_removeOutage (l : Launch) : az_met l yX12_removeOutage cX12_removeOutage 2 (some .int) ({ frames := 3, cells := 0, slots := 0, locals := 143 } : Room) FX12_removeOutage := az_met_of (own := RX12) (by decide +kernel) rfl (by decide) (fun X Q C => by
  have h13 := az_iconst (x := (nI 1)) C dX12_removeOutage_13 (by decide +kernel) (az_keep [true, true] (okLX12_removeOutage_14 C))
  have h10 := az_goto (tgt := 14) C dX12_removeOutage_10 (by decide) (az_keep [true, true] (okLX12_removeOutage_14 C))
  have h9 := az_iconst (x := (nI 0)) C dX12_removeOutage_9 (by decide +kernel) h10
  have h6 := az_if_eq (tgt := 13) C dX12_removeOutage_6 (by decide) h13 h9
  have h3 := az_callV (ci := 13) C okX12_isOutage knX12_isOutage imX12_isOutage seX12_isOutage mLRX12_144 rfl (by decide) ⟨rfl, rfl, by decide, by decide⟩ dX12_removeOutage_3 h6
  have h2 := az_iload_n C 1 rfl dX12_removeOutage_2 h3
  have h1 := az_aload_n C 0 rfl dX12_removeOutage_1 h2
  have h0 := az_aload_n C 0 rfl dX12_removeOutage_0 h1
  exact h0) l
theorem dX12_setPolicy_0 : decode cX12_setPolicy 0 = .ok (.aload_n 0, 1) := by decide +kernel
theorem dX12_setPolicy_1 : decode cX12_setPolicy 1 = .ok (.iload_n 1, 1) := by decide +kernel
theorem dX12_setPolicy_2 : decode cX12_setPolicy 2 = .ok (.iconst 0, 1) := by decide +kernel
theorem dX12_setPolicy_3 : decode cX12_setPolicy 3 = .ok (.iconst 2, 1) := by decide +kernel
theorem dX12_setPolicy_4 : decode cX12_setPolicy 4 = .ok (.invokestatic 92, 3) := by decide +kernel
theorem dX12_setPolicy_7 : decode cX12_setPolicy 7 = .ok (.ifCond .eq 7, 3) := by decide +kernel
theorem dX12_setPolicy_10 : decode cX12_setPolicy 10 = .ok (.iconst 0, 1) := by decide +kernel
theorem dX12_setPolicy_11 : decode cX12_setPolicy 11 = .ok (.goto 4, 3) := by decide +kernel
theorem dX12_setPolicy_14 : decode cX12_setPolicy 14 = .ok (.iconst 1, 1) := by decide +kernel
theorem dX12_setPolicy_15 : decode cX12_setPolicy 15 = .ok (.putfield 89, 3) := by decide +kernel
theorem dX12_setPolicy_18 : decode cX12_setPolicy 18 = .ok (.aload_n 0, 1) := by decide +kernel
theorem dX12_setPolicy_19 : decode cX12_setPolicy 19 = .ok (.getfield 89, 3) := by decide +kernel
theorem dX12_setPolicy_22 : decode cX12_setPolicy 22 = .ok (.ifCond .le 5, 3) := by decide +kernel
theorem dX12_setPolicy_25 : decode cX12_setPolicy 25 = .ok (.iconst 0, 1) := by decide +kernel
theorem dX12_setPolicy_26 : decode cX12_setPolicy 26 = .ok (.ireturn, 1) := by decide +kernel
theorem dX12_setPolicy_27 : decode cX12_setPolicy 27 = .ok (.aload_n 0, 1) := by decide +kernel
theorem dX12_setPolicy_28 : decode cX12_setPolicy 28 = .ok (.invokevirtual 120, 3) := by decide +kernel
theorem dX12_setPolicy_31 : decode cX12_setPolicy 31 = .ok (.aload_n 0, 1) := by decide +kernel
theorem dX12_setPolicy_32 : decode cX12_setPolicy 32 = .ok (.getfield 9, 3) := by decide +kernel
theorem dX12_setPolicy_35 : decode cX12_setPolicy 35 = .ok (.iconst 4, 1) := by decide +kernel
theorem dX12_setPolicy_36 : decode cX12_setPolicy 36 = .ok (.iaload, 1) := by decide +kernel
theorem dX12_setPolicy_37 : decode cX12_setPolicy 37 = .ok (.istore_n 2, 1) := by decide +kernel
theorem dX12_setPolicy_38 : decode cX12_setPolicy 38 = .ok (.aload_n 0, 1) := by decide +kernel
theorem dX12_setPolicy_39 : decode cX12_setPolicy 39 = .ok (.getfield 9, 3) := by decide +kernel
theorem dX12_setPolicy_42 : decode cX12_setPolicy 42 = .ok (.iconst 4, 1) := by decide +kernel
theorem dX12_setPolicy_43 : decode cX12_setPolicy 43 = .ok (.iload_n 1, 1) := by decide +kernel
theorem dX12_setPolicy_44 : decode cX12_setPolicy 44 = .ok (.iastore, 1) := by decide +kernel
theorem dX12_setPolicy_45 : decode cX12_setPolicy 45 = .ok (.iload_n 2, 1) := by decide +kernel
theorem dX12_setPolicy_46 : decode cX12_setPolicy 46 = .ok (.ireturn, 1) := by decide +kernel
def LX12_setPolicy_15 (Q : Option Value → az_M → Prop) : az_T := (s_pi 13 5 (s_la 0 (s_gi 13 5 (s_if c_le (s_la 0 (s_cv 0 13 FX12_change (s_la 0 (s_gr 13 0 (s_ic (nI 4) (s_al 20 (s_si 2 (s_la 0 (s_gr 13 0 (s_ic (nI 4) (s_li 1 (s_as (s_li 2 (s_ri Q)))))))))))))) (s_ic (nI 0) (s_ri Q))))))
theorem okLX12_setPolicy_15 {X : az_X} {Q : Option Value → az_M → Prop} (C : az_C X cX12_setPolicy 3 RX12 (az_ts yX12_setPolicy cX12_setPolicy 3 (some .int)) ({ frames := 2, cells := 0, slots := 0, locals := 122 } : Room) (some .int) Q) : az_ok X 15 (LX12_setPolicy_15 Q) := by
  have h46 := az_ireturn C rfl dX12_setPolicy_46
  have h45 := az_iload_n C 2 rfl dX12_setPolicy_45 h46
  have h44 := az_iast C dX12_setPolicy_44 h45
  have h43 := az_iload_n C 1 rfl dX12_setPolicy_43 h44
  have h42 := az_iconst (x := (nI 4)) C dX12_setPolicy_42 (by decide +kernel) h43
  have h39 := az_getR (T := TX12) (N := 33) (j := 0) C gwRX12 rfl (by decide) (by decide) iIRX12_0 mFRX12_9 rfl dX12_setPolicy_39 h42
  have h38 := az_aload_n C 0 rfl dX12_setPolicy_38 h39
  have h37 := az_istore_n C 2 rfl (by decide) dX12_setPolicy_37 h38
  have h36 := az_iald C dX12_setPolicy_36 h37
  have h35 := az_iconst (x := (nI 4)) C dX12_setPolicy_35 (by decide +kernel) h36
  have h32 := az_getR (T := TX12) (N := 33) (j := 0) C gwRX12 rfl (by decide) (by decide) iIRX12_0 mFRX12_9 rfl dX12_setPolicy_32 h35
  have h31 := az_aload_n C 0 rfl dX12_setPolicy_31 h32
  have h28 := az_callV (ci := 13) C okX12_change knX12_change imX12_change seX12_change mLRX12_120 rfl (by decide) ⟨rfl, rfl, by decide, by decide⟩ dX12_setPolicy_28 h31
  have h27 := az_aload_n C 0 rfl dX12_setPolicy_27 h28
  have h26 := az_ireturn C rfl dX12_setPolicy_26
  have h25 := az_iconst (x := (nI 0)) C dX12_setPolicy_25 (by decide +kernel) h26
  have h22 := az_if_le (tgt := 27) C dX12_setPolicy_22 (by decide) h27 h25
  have h19 := az_getI (T := TX12) (N := 33) (j := 5) C gwRX12 rfl (by decide) (by decide) iIRX12_5 mFRX12_89 rfl dX12_setPolicy_19 h22
  have h18 := az_aload_n C 0 rfl dX12_setPolicy_18 h19
  have h15 := az_putI (T := TX12) (N := 33) (j := 5) C gwRX12 rfl (by decide) (by decide) tyX12 tyX12_ok nmX12 iIRX12_5 (by decide +kernel) rfl mFRX12_89 rfl dX12_setPolicy_15 h18
  exact h15
def PX12_setPolicy (Q : Option Value → az_M → Prop) : az_T := (s_la 0 (s_li 1 (s_ic (nI 0) (s_ic (nI 2) (s_cs 3 FX12_in (s_if c_eq (s_ic (nI 1) (s_kp [true, true, false] (LX12_setPolicy_15 Q))) (s_ic (nI 0) (s_kp [true, true, false] (LX12_setPolicy_15 Q)))))))))
def FX12_setPolicy : az_F := az_fun [true, false] 3 PX12_setPolicy
theorem okX12_setPolicy (l : Launch) : az_met l yX12_setPolicy cX12_setPolicy 3 (some .int) ({ frames := 2, cells := 0, slots := 0, locals := 122 } : Room) FX12_setPolicy := az_met_of (own := RX12) (by decide +kernel) rfl (by decide) (fun X Q C => by
  have h14 := az_iconst (x := (nI 1)) C dX12_setPolicy_14 (by decide +kernel) (az_keep [true, true, false] (okLX12_setPolicy_15 C))
  have h11 := az_goto (tgt := 15) C dX12_setPolicy_11 (by decide) (az_keep [true, true, false] (okLX12_setPolicy_15 C))
  have h10 := az_iconst (x := (nI 0)) C dX12_setPolicy_10 (by decide +kernel) h11
  have h7 := az_if_eq (tgt := 14) C dX12_setPolicy_7 (by decide) h14 h10
  have h4 := az_callS C okX12_in knX12_in stX12_in mLRX12_92 ⟨rfl, rfl, by decide, by decide⟩ dX12_setPolicy_4 h7
  have h3 := az_iconst (x := (nI 2)) C dX12_setPolicy_3 (by decide +kernel) h4
  have h2 := az_iconst (x := (nI 0)) C dX12_setPolicy_2 (by decide +kernel) h3
  have h1 := az_iload_n C 1 rfl dX12_setPolicy_1 h2
  have h0 := az_aload_n C 0 rfl dX12_setPolicy_0 h1
  exact h0) l
theorem dX12_outage_0 : decode cX12_outage 0 = .ok (.aload_n 0, 1) := by decide +kernel
theorem dX12_outage_1 : decode cX12_outage 1 = .ok (.aload_n 0, 1) := by decide +kernel
theorem dX12_outage_2 : decode cX12_outage 2 = .ok (.iload_n 1, 1) := by decide +kernel
theorem dX12_outage_3 : decode cX12_outage 3 = .ok (.invokevirtual 144, 3) := by decide +kernel
theorem dX12_outage_6 : decode cX12_outage 6 = .ok (.ifCond .ne 7, 3) := by decide +kernel
theorem dX12_outage_9 : decode cX12_outage 9 = .ok (.iconst 1, 1) := by decide +kernel
theorem dX12_outage_10 : decode cX12_outage 10 = .ok (.goto 17, 3) := by decide +kernel
theorem dX12_outage_13 : decode cX12_outage 13 = .ok (.iload_n 2, 1) := by decide +kernel
theorem dX12_outage_14 : decode cX12_outage 14 = .ok (.iconst 0, 1) := by decide +kernel
theorem dX12_outage_15 : decode cX12_outage 15 = .ok (.iconst 4, 1) := by decide +kernel
theorem dX12_outage_16 : decode cX12_outage 16 = .ok (.invokestatic 92, 3) := by decide +kernel
theorem dX12_outage_19 : decode cX12_outage 19 = .ok (.ifCond .ne 7, 3) := by decide +kernel
theorem dX12_outage_22 : decode cX12_outage 22 = .ok (.iconst 2, 1) := by decide +kernel
theorem dX12_outage_23 : decode cX12_outage 23 = .ok (.goto 4, 3) := by decide +kernel
theorem dX12_outage_26 : decode cX12_outage 26 = .ok (.iconst 0, 1) := by decide +kernel
theorem dX12_outage_27 : decode cX12_outage 27 = .ok (.putfield 89, 3) := by decide +kernel
theorem dX12_outage_30 : decode cX12_outage 30 = .ok (.aload_n 0, 1) := by decide +kernel
theorem dX12_outage_31 : decode cX12_outage 31 = .ok (.getfield 89, 3) := by decide +kernel
theorem dX12_outage_34 : decode cX12_outage 34 = .ok (.ifCond .le 5, 3) := by decide +kernel
theorem dX12_outage_37 : decode cX12_outage 37 = .ok (.iconst 0, 1) := by decide +kernel
theorem dX12_outage_38 : decode cX12_outage 38 = .ok (.ireturn, 1) := by decide +kernel
theorem dX12_outage_39 : decode cX12_outage 39 = .ok (.aload_n 0, 1) := by decide +kernel
theorem dX12_outage_40 : decode cX12_outage 40 = .ok (.invokevirtual 154, 3) := by decide +kernel
theorem dX12_outage_43 : decode cX12_outage 43 = .ok (.iload_n 2, 1) := by decide +kernel
theorem dX12_outage_44 : decode cX12_outage 44 = .ok (.iconst 3, 1) := by decide +kernel
theorem dX12_outage_45 : decode cX12_outage 45 = .ok (.if_icmp .ge 20, 3) := by decide +kernel
theorem dX12_outage_48 : decode cX12_outage 48 = .ok (.aload_n 0, 1) := by decide +kernel
theorem dX12_outage_49 : decode cX12_outage 49 = .ok (.getfield 9, 3) := by decide +kernel
theorem dX12_outage_52 : decode cX12_outage 52 = .ok (.sipush 133, 3) := by decide +kernel
theorem dX12_outage_55 : decode cX12_outage 55 = .ok (.iconst 3, 1) := by decide +kernel
theorem dX12_outage_56 : decode cX12_outage 56 = .ok (.iload_n 1, 1) := by decide +kernel
theorem dX12_outage_57 : decode cX12_outage 57 = .ok (.imul, 1) := by decide +kernel
theorem dX12_outage_58 : decode cX12_outage 58 = .ok (.iadd, 1) := by decide +kernel
theorem dX12_outage_59 : decode cX12_outage 59 = .ok (.iload_n 2, 1) := by decide +kernel
theorem dX12_outage_60 : decode cX12_outage 60 = .ok (.iadd, 1) := by decide +kernel
theorem dX12_outage_61 : decode cX12_outage 61 = .ok (.iaload, 1) := by decide +kernel
theorem dX12_outage_62 : decode cX12_outage 62 = .ok (.goto 22, 3) := by decide +kernel
theorem dX12_outage_65 : decode cX12_outage 65 = .ok (.iload_n 2, 1) := by decide +kernel
theorem dX12_outage_66 : decode cX12_outage 66 = .ok (.iconst 3, 1) := by decide +kernel
theorem dX12_outage_67 : decode cX12_outage 67 = .ok (.if_icmp .ne 12, 3) := by decide +kernel
theorem dX12_outage_70 : decode cX12_outage 70 = .ok (.aload_n 0, 1) := by decide +kernel
theorem dX12_outage_71 : decode cX12_outage 71 = .ok (.getfield 19, 3) := by decide +kernel
theorem dX12_outage_74 : decode cX12_outage 74 = .ok (.iload_n 1, 1) := by decide +kernel
theorem dX12_outage_75 : decode cX12_outage 75 = .ok (.iaload, 1) := by decide +kernel
theorem dX12_outage_76 : decode cX12_outage 76 = .ok (.goto 8, 3) := by decide +kernel
theorem dX12_outage_79 : decode cX12_outage 79 = .ok (.aload_n 0, 1) := by decide +kernel
theorem dX12_outage_80 : decode cX12_outage 80 = .ok (.iload_n 1, 1) := by decide +kernel
theorem dX12_outage_81 : decode cX12_outage 81 = .ok (.invokevirtual 151, 3) := by decide +kernel
theorem dX12_outage_84 : decode cX12_outage 84 = .ok (.ireturn, 1) := by decide +kernel
def LX12_outage_84 (Q : Option Value → az_M → Prop) : az_T := (s_ri Q)
theorem okLX12_outage_84 {X : az_X} {Q : Option Value → az_M → Prop} (C : az_C X cX12_outage 3 RX12 (az_ts yX12_outage cX12_outage 3 (some .int)) ({ frames := 5, cells := 0, slots := 0, locals := 190 } : Room) (some .int) Q) : az_ok X 84 (LX12_outage_84 Q) := by
  have h84 := az_ireturn C rfl dX12_outage_84
  exact h84
def LX12_outage_27 (Q : Option Value → az_M → Prop) : az_T := (s_pi 13 5 (s_la 0 (s_gi 13 5 (s_if c_le (s_la 0 (s_cv 0 13 FX12_repair (s_li 2 (s_ic (nI 3) (s_if2 d_ge (s_li 2 (s_ic (nI 3) (s_if2 d_ne (s_la 0 (s_li 1 (s_cv 1 13 FX12_endOf (s_kp [false, false, false] (LX12_outage_84 Q))))) (s_la 0 (s_gr 13 6 (s_li 1 (s_al 20 (s_kp [false, false, false] (LX12_outage_84 Q))))))))) (s_la 0 (s_gr 13 0 (s_ic (nI 133) (s_ic (nI 3) (s_li 1 (s_bin f_mul (s_bin f_add (s_li 2 (s_bin f_add (s_al 20 (s_kp [false, false, false] (LX12_outage_84 Q))))))))))))))))) (s_ic (nI 0) (s_ri Q))))))
theorem okLX12_outage_27 {X : az_X} {Q : Option Value → az_M → Prop} (C : az_C X cX12_outage 3 RX12 (az_ts yX12_outage cX12_outage 3 (some .int)) ({ frames := 5, cells := 0, slots := 0, locals := 190 } : Room) (some .int) Q) : az_ok X 27 (LX12_outage_27 Q) := by
  have h81 := az_callV (ci := 13) C okX12_endOf knX12_endOf imX12_endOf seX12_endOf mLRX12_151 rfl (by decide) ⟨rfl, rfl, by decide, by decide⟩ dX12_outage_81 (az_keep [false, false, false] (okLX12_outage_84 C))
  have h80 := az_iload_n C 1 rfl dX12_outage_80 h81
  have h79 := az_aload_n C 0 rfl dX12_outage_79 h80
  have h76 := az_goto (tgt := 84) C dX12_outage_76 (by decide) (az_keep [false, false, false] (okLX12_outage_84 C))
  have h75 := az_iald C dX12_outage_75 h76
  have h74 := az_iload_n C 1 rfl dX12_outage_74 h75
  have h71 := az_getR (T := TX12) (N := 33) (j := 6) C gwRX12 rfl (by decide) (by decide) iIRX12_6 mFRX12_19 rfl dX12_outage_71 h74
  have h70 := az_aload_n C 0 rfl dX12_outage_70 h71
  have h67 := az_icmp_ne (tgt := 79) C dX12_outage_67 (by decide) h79 h70
  have h66 := az_iconst (x := (nI 3)) C dX12_outage_66 (by decide +kernel) h67
  have h65 := az_iload_n C 2 rfl dX12_outage_65 h66
  have h62 := az_goto (tgt := 84) C dX12_outage_62 (by decide) (az_keep [false, false, false] (okLX12_outage_84 C))
  have h61 := az_iald C dX12_outage_61 h62
  have h60 := az_iadd C dX12_outage_60 h61
  have h59 := az_iload_n C 2 rfl dX12_outage_59 h60
  have h58 := az_iadd C dX12_outage_58 h59
  have h57 := az_imul C dX12_outage_57 h58
  have h56 := az_iload_n C 1 rfl dX12_outage_56 h57
  have h55 := az_iconst (x := (nI 3)) C dX12_outage_55 (by decide +kernel) h56
  have h52 := az_sipush (x := (nI 133)) C dX12_outage_52 (by decide +kernel) h55
  have h49 := az_getR (T := TX12) (N := 33) (j := 0) C gwRX12 rfl (by decide) (by decide) iIRX12_0 mFRX12_9 rfl dX12_outage_49 h52
  have h48 := az_aload_n C 0 rfl dX12_outage_48 h49
  have h45 := az_icmp_ge (tgt := 65) C dX12_outage_45 (by decide) h65 h48
  have h44 := az_iconst (x := (nI 3)) C dX12_outage_44 (by decide +kernel) h45
  have h43 := az_iload_n C 2 rfl dX12_outage_43 h44
  have h40 := az_callV (ci := 13) C okX12_repair knX12_repair imX12_repair seX12_repair mLRX12_154 rfl (by decide) ⟨rfl, rfl, by decide, by decide⟩ dX12_outage_40 h43
  have h39 := az_aload_n C 0 rfl dX12_outage_39 h40
  have h38 := az_ireturn C rfl dX12_outage_38
  have h37 := az_iconst (x := (nI 0)) C dX12_outage_37 (by decide +kernel) h38
  have h34 := az_if_le (tgt := 39) C dX12_outage_34 (by decide) h39 h37
  have h31 := az_getI (T := TX12) (N := 33) (j := 5) C gwRX12 rfl (by decide) (by decide) iIRX12_5 mFRX12_89 rfl dX12_outage_31 h34
  have h30 := az_aload_n C 0 rfl dX12_outage_30 h31
  have h27 := az_putI (T := TX12) (N := 33) (j := 5) C gwRX12 rfl (by decide) (by decide) tyX12 tyX12_ok nmX12 iIRX12_5 (by decide +kernel) rfl mFRX12_89 rfl dX12_outage_27 h30
  exact h27
def PX12_outage (Q : Option Value → az_M → Prop) : az_T := (s_la 0 (s_la 0 (s_li 1 (s_cv 1 13 FX12_isOutage (s_if c_ne (s_li 2 (s_ic (nI 0) (s_ic (nI 4) (s_cs 3 FX12_in (s_if c_ne (s_ic (nI 0) (s_kp [true, true, true] (LX12_outage_27 Q))) (s_ic (nI 2) (s_kp [true, true, true] (LX12_outage_27 Q)))))))) (s_ic (nI 1) (s_kp [true, true, true] (LX12_outage_27 Q))))))))
def FX12_outage : az_F := az_fun [true, false, false] 3 PX12_outage
theorem okX12_outage (l : Launch) : az_met l yX12_outage cX12_outage 3 (some .int) ({ frames := 5, cells := 0, slots := 0, locals := 190 } : Room) FX12_outage := az_met_of (own := RX12) (by decide +kernel) rfl (by decide) (fun X Q C => by
  have h26 := az_iconst (x := (nI 0)) C dX12_outage_26 (by decide +kernel) (az_keep [true, true, true] (okLX12_outage_27 C))
  have h23 := az_goto (tgt := 27) C dX12_outage_23 (by decide) (az_keep [true, true, true] (okLX12_outage_27 C))
  have h22 := az_iconst (x := (nI 2)) C dX12_outage_22 (by decide +kernel) h23
  have h19 := az_if_ne (tgt := 26) C dX12_outage_19 (by decide) h26 h22
  have h16 := az_callS C okX12_in knX12_in stX12_in mLRX12_92 ⟨rfl, rfl, by decide, by decide⟩ dX12_outage_16 h19
  have h15 := az_iconst (x := (nI 4)) C dX12_outage_15 (by decide +kernel) h16
  have h14 := az_iconst (x := (nI 0)) C dX12_outage_14 (by decide +kernel) h15
  have h13 := az_iload_n C 2 rfl dX12_outage_13 h14
  have h10 := az_goto (tgt := 27) C dX12_outage_10 (by decide) (az_keep [true, true, true] (okLX12_outage_27 C))
  have h9 := az_iconst (x := (nI 1)) C dX12_outage_9 (by decide +kernel) h10
  have h6 := az_if_ne (tgt := 13) C dX12_outage_6 (by decide) h13 h9
  have h3 := az_callV (ci := 13) C okX12_isOutage knX12_isOutage imX12_isOutage seX12_isOutage mLRX12_144 rfl (by decide) ⟨rfl, rfl, by decide, by decide⟩ dX12_outage_3 h6
  have h2 := az_iload_n C 1 rfl dX12_outage_2 h3
  have h1 := az_aload_n C 0 rfl dX12_outage_1 h2
  have h0 := az_aload_n C 0 rfl dX12_outage_0 h1
  exact h0) l
theorem dX12_outputCost_0 : decode cX12_outputCost 0 = .ok (.iconst 0, 1) := by decide +kernel
theorem dX12_outputCost_1 : decode cX12_outputCost 1 = .ok (.istore_n 2, 1) := by decide +kernel
theorem dX12_outputCost_2 : decode cX12_outputCost 2 = .ok (.iconst 0, 1) := by decide +kernel
theorem dX12_outputCost_3 : decode cX12_outputCost 3 = .ok (.istore_n 3, 1) := by decide +kernel
theorem dX12_outputCost_4 : decode cX12_outputCost 4 = .ok (.iload_n 3, 1) := by decide +kernel
theorem dX12_outputCost_5 : decode cX12_outputCost 5 = .ok (.aload_n 0, 1) := by decide +kernel
theorem dX12_outputCost_6 : decode cX12_outputCost 6 = .ok (.getfield 9, 3) := by decide +kernel
theorem dX12_outputCost_9 : decode cX12_outputCost 9 = .ok (.iconst 2, 1) := by decide +kernel
theorem dX12_outputCost_10 : decode cX12_outputCost 10 = .ok (.iaload, 1) := by decide +kernel
theorem dX12_outputCost_11 : decode cX12_outputCost 11 = .ok (.if_icmp .ge 31, 3) := by decide +kernel
theorem dX12_outputCost_14 : decode cX12_outputCost 14 = .ok (.iload_n 2, 1) := by decide +kernel
theorem dX12_outputCost_15 : decode cX12_outputCost 15 = .ok (.aload_n 0, 1) := by decide +kernel
theorem dX12_outputCost_16 : decode cX12_outputCost 16 = .ok (.getfield 41, 3) := by decide +kernel
theorem dX12_outputCost_19 : decode cX12_outputCost 19 = .ok (.bipush 6, 2) := by decide +kernel
theorem dX12_outputCost_21 : decode cX12_outputCost 21 = .ok (.iload_n 1, 1) := by decide +kernel
theorem dX12_outputCost_22 : decode cX12_outputCost 22 = .ok (.imul, 1) := by decide +kernel
theorem dX12_outputCost_23 : decode cX12_outputCost 23 = .ok (.iload_n 3, 1) := by decide +kernel
theorem dX12_outputCost_24 : decode cX12_outputCost 24 = .ok (.iadd, 1) := by decide +kernel
theorem dX12_outputCost_25 : decode cX12_outputCost 25 = .ok (.iaload, 1) := by decide +kernel
theorem dX12_outputCost_26 : decode cX12_outputCost 26 = .ok (.aload_n 0, 1) := by decide +kernel
theorem dX12_outputCost_27 : decode cX12_outputCost 27 = .ok (.iload_n 3, 1) := by decide +kernel
theorem dX12_outputCost_28 : decode cX12_outputCost 28 = .ok (.bipush 12, 2) := by decide +kernel
theorem dX12_outputCost_30 : decode cX12_outputCost 30 = .ok (.invokevirtual 128, 3) := by decide +kernel
theorem dX12_outputCost_33 : decode cX12_outputCost 33 = .ok (.imul, 1) := by decide +kernel
theorem dX12_outputCost_34 : decode cX12_outputCost 34 = .ok (.iadd, 1) := by decide +kernel
theorem dX12_outputCost_35 : decode cX12_outputCost 35 = .ok (.istore_n 2, 1) := by decide +kernel
theorem dX12_outputCost_36 : decode cX12_outputCost 36 = .ok (.iinc 3 1, 3) := by decide +kernel
theorem dX12_outputCost_39 : decode cX12_outputCost 39 = .ok (.goto (-35), 3) := by decide +kernel
theorem dX12_outputCost_42 : decode cX12_outputCost 42 = .ok (.iload_n 2, 1) := by decide +kernel
theorem dX12_outputCost_43 : decode cX12_outputCost 43 = .ok (.ireturn, 1) := by decide +kernel
def BX12_outputCost_4 (Q : Option Value → az_M → Prop) (Z4 : az_T) : az_T := (s_li 3 (s_la 0 (s_gr 13 0 (s_ic (nI 2) (s_al 20 (s_if2 d_ge (s_li 2 (s_ri Q)) (s_li 2 (s_la 0 (s_gr 13 14 (s_ic (nI 6) (s_li 1 (s_bin f_mul (s_li 3 (s_bin f_add (s_al 20 (s_la 0 (s_li 3 (s_ic (nI 12) (s_cv 2 13 FX12_of (s_bin f_mul (s_bin f_add (s_si 2 (s_inc 3 (nI 1) (s_kp [true, true, true, true] Z4))))))))))))))))))))))))
theorem okBX12_outputCost_4 {X : az_X} {Q : Option Value → az_M → Prop} (C : az_C X cX12_outputCost 4 RX12 (az_ts yX12_outputCost cX12_outputCost 4 (some .int)) ({ frames := 3, cells := 0, slots := 0, locals := 143 } : Room) (some .int) Q) {Z4 : az_T} (hZ4 : az_ok X 4 Z4) : az_ok X 4 (BX12_outputCost_4 Q Z4) := by
  have h43 := az_ireturn C rfl dX12_outputCost_43
  have h42 := az_iload_n C 2 rfl dX12_outputCost_42 h43
  have h39 := az_goto (tgt := 4) C dX12_outputCost_39 (by decide) (az_keep [true, true, true, true] hZ4)
  have h36 := az_iinc (v := (nI 1)) C (by decide) (by decide +kernel) dX12_outputCost_36 h39
  have h35 := az_istore_n C 2 rfl (by decide) dX12_outputCost_35 h36
  have h34 := az_iadd C dX12_outputCost_34 h35
  have h33 := az_imul C dX12_outputCost_33 h34
  have h30 := az_callV (ci := 13) C okX12_of knX12_of imX12_of seX12_of mLRX12_128 rfl (by decide) ⟨rfl, rfl, by decide, by decide⟩ dX12_outputCost_30 h33
  have h28 := az_bipush (x := (nI 12)) C dX12_outputCost_28 (by decide +kernel) h30
  have h27 := az_iload_n C 3 rfl dX12_outputCost_27 h28
  have h26 := az_aload_n C 0 rfl dX12_outputCost_26 h27
  have h25 := az_iald C dX12_outputCost_25 h26
  have h24 := az_iadd C dX12_outputCost_24 h25
  have h23 := az_iload_n C 3 rfl dX12_outputCost_23 h24
  have h22 := az_imul C dX12_outputCost_22 h23
  have h21 := az_iload_n C 1 rfl dX12_outputCost_21 h22
  have h19 := az_bipush (x := (nI 6)) C dX12_outputCost_19 (by decide +kernel) h21
  have h16 := az_getR (T := TX12) (N := 33) (j := 14) C gwRX12 rfl (by decide) (by decide) iIRX12_14 mFRX12_41 rfl dX12_outputCost_16 h19
  have h15 := az_aload_n C 0 rfl dX12_outputCost_15 h16
  have h14 := az_iload_n C 2 rfl dX12_outputCost_14 h15
  have h11 := az_icmp_ge (tgt := 42) C dX12_outputCost_11 (by decide) h42 h14
  have h10 := az_iald C dX12_outputCost_10 h11
  have h9 := az_iconst (x := (nI 2)) C dX12_outputCost_9 (by decide +kernel) h10
  have h6 := az_getR (T := TX12) (N := 33) (j := 0) C gwRX12 rfl (by decide) (by decide) iIRX12_0 mFRX12_9 rfl dX12_outputCost_6 h9
  have h5 := az_aload_n C 0 rfl dX12_outputCost_5 h6
  have h4 := az_iload_n C 3 rfl dX12_outputCost_4 h5
  exact h4
def LX12_outputCost_4 (Q : Option Value → az_M → Prop) : az_T := s_lp (fun Z => BX12_outputCost_4 Q Z)
theorem okLX12_outputCost_4 {X : az_X} {Q : Option Value → az_M → Prop} (C : az_C X cX12_outputCost 4 RX12 (az_ts yX12_outputCost cX12_outputCost 4 (some .int)) ({ frames := 3, cells := 0, slots := 0, locals := 143 } : Room) (some .int) Q) : az_ok X 4 (LX12_outputCost_4 Q) := az_loop (F := fun Z => BX12_outputCost_4 Q Z) (fun _ hZ => okBX12_outputCost_4 C hZ)
def PX12_outputCost (Q : Option Value → az_M → Prop) : az_T := (s_ic (nI 0) (s_si 2 (s_ic (nI 0) (s_si 3 (s_kp [true, true, true, true] (LX12_outputCost_4 Q))))))
def FX12_outputCost : az_F := az_fun [true, false] 4 PX12_outputCost
theorem okX12_outputCost (l : Launch) : az_met l yX12_outputCost cX12_outputCost 4 (some .int) ({ frames := 3, cells := 0, slots := 0, locals := 143 } : Room) FX12_outputCost := az_met_of (own := RX12) (by decide +kernel) rfl (by decide) (fun X Q C => by
  have h3 := az_istore_n C 3 rfl (by decide) dX12_outputCost_3 (az_keep [true, true, true, true] (okLX12_outputCost_4 C))
  have h2 := az_iconst (x := (nI 0)) C dX12_outputCost_2 (by decide +kernel) h3
  have h1 := az_istore_n C 2 rfl (by decide) dX12_outputCost_1 h2
  have h0 := az_iconst (x := (nI 0)) C dX12_outputCost_0 (by decide +kernel) h1
  exact h0) l
theorem dX12_runningCost_0 : decode cX12_runningCost 0 = .ok (.iconst 0, 1) := by decide +kernel
theorem dX12_runningCost_1 : decode cX12_runningCost 1 = .ok (.istore_n 2, 1) := by decide +kernel
theorem dX12_runningCost_2 : decode cX12_runningCost 2 = .ok (.iconst 0, 1) := by decide +kernel
theorem dX12_runningCost_3 : decode cX12_runningCost 3 = .ok (.istore_n 3, 1) := by decide +kernel
theorem dX12_runningCost_4 : decode cX12_runningCost 4 = .ok (.iload_n 3, 1) := by decide +kernel
theorem dX12_runningCost_5 : decode cX12_runningCost 5 = .ok (.aload_n 0, 1) := by decide +kernel
theorem dX12_runningCost_6 : decode cX12_runningCost 6 = .ok (.getfield 9, 3) := by decide +kernel
theorem dX12_runningCost_9 : decode cX12_runningCost 9 = .ok (.iconst 2, 1) := by decide +kernel
theorem dX12_runningCost_10 : decode cX12_runningCost 10 = .ok (.iaload, 1) := by decide +kernel
theorem dX12_runningCost_11 : decode cX12_runningCost 11 = .ok (.if_icmp .ge 36, 3) := by decide +kernel
theorem dX12_runningCost_14 : decode cX12_runningCost 14 = .ok (.iload_n 2, 1) := by decide +kernel
theorem dX12_runningCost_15 : decode cX12_runningCost 15 = .ok (.aload_n 0, 1) := by decide +kernel
theorem dX12_runningCost_16 : decode cX12_runningCost 16 = .ok (.getfield 22, 3) := by decide +kernel
theorem dX12_runningCost_19 : decode cX12_runningCost 19 = .ok (.bipush 6, 2) := by decide +kernel
theorem dX12_runningCost_21 : decode cX12_runningCost 21 = .ok (.iload_n 1, 1) := by decide +kernel
theorem dX12_runningCost_22 : decode cX12_runningCost 22 = .ok (.imul, 1) := by decide +kernel
theorem dX12_runningCost_23 : decode cX12_runningCost 23 = .ok (.iload_n 3, 1) := by decide +kernel
theorem dX12_runningCost_24 : decode cX12_runningCost 24 = .ok (.iadd, 1) := by decide +kernel
theorem dX12_runningCost_25 : decode cX12_runningCost 25 = .ok (.baload, 1) := by decide +kernel
theorem dX12_runningCost_26 : decode cX12_runningCost 26 = .ok (.ifCond .eq 12, 3) := by decide +kernel
theorem dX12_runningCost_29 : decode cX12_runningCost 29 = .ok (.aload_n 0, 1) := by decide +kernel
theorem dX12_runningCost_30 : decode cX12_runningCost 30 = .ok (.iload_n 3, 1) := by decide +kernel
theorem dX12_runningCost_31 : decode cX12_runningCost 31 = .ok (.iconst 0, 1) := by decide +kernel
theorem dX12_runningCost_32 : decode cX12_runningCost 32 = .ok (.invokevirtual 128, 3) := by decide +kernel
theorem dX12_runningCost_35 : decode cX12_runningCost 35 = .ok (.goto 4, 3) := by decide +kernel
theorem dX12_runningCost_38 : decode cX12_runningCost 38 = .ok (.iconst 0, 1) := by decide +kernel
theorem dX12_runningCost_39 : decode cX12_runningCost 39 = .ok (.iadd, 1) := by decide +kernel
theorem dX12_runningCost_40 : decode cX12_runningCost 40 = .ok (.istore_n 2, 1) := by decide +kernel
theorem dX12_runningCost_41 : decode cX12_runningCost 41 = .ok (.iinc 3 1, 3) := by decide +kernel
theorem dX12_runningCost_44 : decode cX12_runningCost 44 = .ok (.goto (-40), 3) := by decide +kernel
theorem dX12_runningCost_47 : decode cX12_runningCost 47 = .ok (.iload_n 2, 1) := by decide +kernel
theorem dX12_runningCost_48 : decode cX12_runningCost 48 = .ok (.ireturn, 1) := by decide +kernel
def LX12_runningCost_39 (Q : Option Value → az_M → Prop) (Z4 : az_T) : az_T := (s_bin f_add (s_si 2 (s_inc 3 (nI 1) (s_kp [true, true, true, true] Z4))))
theorem okLX12_runningCost_39 {X : az_X} {Q : Option Value → az_M → Prop} (C : az_C X cX12_runningCost 4 RX12 (az_ts yX12_runningCost cX12_runningCost 4 (some .int)) ({ frames := 3, cells := 0, slots := 0, locals := 143 } : Room) (some .int) Q) {Z4 : az_T} (hZ4 : az_ok X 4 Z4) : az_ok X 39 (LX12_runningCost_39 Q Z4) := by
  have h44 := az_goto (tgt := 4) C dX12_runningCost_44 (by decide) (az_keep [true, true, true, true] hZ4)
  have h41 := az_iinc (v := (nI 1)) C (by decide) (by decide +kernel) dX12_runningCost_41 h44
  have h40 := az_istore_n C 2 rfl (by decide) dX12_runningCost_40 h41
  have h39 := az_iadd C dX12_runningCost_39 h40
  exact h39
def BX12_runningCost_4 (Q : Option Value → az_M → Prop) (Z4 : az_T) : az_T := (s_li 3 (s_la 0 (s_gr 13 0 (s_ic (nI 2) (s_al 20 (s_if2 d_ge (s_li 2 (s_ri Q)) (s_li 2 (s_la 0 (s_gr 13 8 (s_ic (nI 6) (s_li 1 (s_bin f_mul (s_li 3 (s_bin f_add (s_al 21 (s_if c_eq (s_ic (nI 0) (s_kp [true, true, false, true] (LX12_runningCost_39 Q Z4))) (s_la 0 (s_li 3 (s_ic (nI 0) (s_cv 2 13 FX12_of (s_kp [true, true, false, true] (LX12_runningCost_39 Q Z4))))))))))))))))))))))
theorem okBX12_runningCost_4 {X : az_X} {Q : Option Value → az_M → Prop} (C : az_C X cX12_runningCost 4 RX12 (az_ts yX12_runningCost cX12_runningCost 4 (some .int)) ({ frames := 3, cells := 0, slots := 0, locals := 143 } : Room) (some .int) Q) {Z4 : az_T} (hZ4 : az_ok X 4 Z4) : az_ok X 4 (BX12_runningCost_4 Q Z4) := by
  have h48 := az_ireturn C rfl dX12_runningCost_48
  have h47 := az_iload_n C 2 rfl dX12_runningCost_47 h48
  have h38 := az_iconst (x := (nI 0)) C dX12_runningCost_38 (by decide +kernel) (az_keep [true, true, false, true] (okLX12_runningCost_39 C hZ4))
  have h35 := az_goto (tgt := 39) C dX12_runningCost_35 (by decide) (az_keep [true, true, false, true] (okLX12_runningCost_39 C hZ4))
  have h32 := az_callV (ci := 13) C okX12_of knX12_of imX12_of seX12_of mLRX12_128 rfl (by decide) ⟨rfl, rfl, by decide, by decide⟩ dX12_runningCost_32 h35
  have h31 := az_iconst (x := (nI 0)) C dX12_runningCost_31 (by decide +kernel) h32
  have h30 := az_iload_n C 3 rfl dX12_runningCost_30 h31
  have h29 := az_aload_n C 0 rfl dX12_runningCost_29 h30
  have h26 := az_if_eq (tgt := 38) C dX12_runningCost_26 (by decide) h38 h29
  have h25 := az_zald C dX12_runningCost_25 h26
  have h24 := az_iadd C dX12_runningCost_24 h25
  have h23 := az_iload_n C 3 rfl dX12_runningCost_23 h24
  have h22 := az_imul C dX12_runningCost_22 h23
  have h21 := az_iload_n C 1 rfl dX12_runningCost_21 h22
  have h19 := az_bipush (x := (nI 6)) C dX12_runningCost_19 (by decide +kernel) h21
  have h16 := az_getR (T := TX12) (N := 33) (j := 8) C gwRX12 rfl (by decide) (by decide) iIRX12_8 mFRX12_22 rfl dX12_runningCost_16 h19
  have h15 := az_aload_n C 0 rfl dX12_runningCost_15 h16
  have h14 := az_iload_n C 2 rfl dX12_runningCost_14 h15
  have h11 := az_icmp_ge (tgt := 47) C dX12_runningCost_11 (by decide) h47 h14
  have h10 := az_iald C dX12_runningCost_10 h11
  have h9 := az_iconst (x := (nI 2)) C dX12_runningCost_9 (by decide +kernel) h10
  have h6 := az_getR (T := TX12) (N := 33) (j := 0) C gwRX12 rfl (by decide) (by decide) iIRX12_0 mFRX12_9 rfl dX12_runningCost_6 h9
  have h5 := az_aload_n C 0 rfl dX12_runningCost_5 h6
  have h4 := az_iload_n C 3 rfl dX12_runningCost_4 h5
  exact h4
def LX12_runningCost_4 (Q : Option Value → az_M → Prop) : az_T := s_lp (fun Z => BX12_runningCost_4 Q Z)
theorem okLX12_runningCost_4 {X : az_X} {Q : Option Value → az_M → Prop} (C : az_C X cX12_runningCost 4 RX12 (az_ts yX12_runningCost cX12_runningCost 4 (some .int)) ({ frames := 3, cells := 0, slots := 0, locals := 143 } : Room) (some .int) Q) : az_ok X 4 (LX12_runningCost_4 Q) := az_loop (F := fun Z => BX12_runningCost_4 Q Z) (fun _ hZ => okBX12_runningCost_4 C hZ)
def PX12_runningCost (Q : Option Value → az_M → Prop) : az_T := (s_ic (nI 0) (s_si 2 (s_ic (nI 0) (s_si 3 (s_kp [true, true, true, true] (LX12_runningCost_4 Q))))))
def FX12_runningCost : az_F := az_fun [true, false] 4 PX12_runningCost
theorem okX12_runningCost (l : Launch) : az_met l yX12_runningCost cX12_runningCost 4 (some .int) ({ frames := 3, cells := 0, slots := 0, locals := 143 } : Room) FX12_runningCost := az_met_of (own := RX12) (by decide +kernel) rfl (by decide) (fun X Q C => by
  have h3 := az_istore_n C 3 rfl (by decide) dX12_runningCost_3 (az_keep [true, true, true, true] (okLX12_runningCost_4 C))
  have h2 := az_iconst (x := (nI 0)) C dX12_runningCost_2 (by decide +kernel) h3
  have h1 := az_istore_n C 2 rfl (by decide) dX12_runningCost_1 h2
  have h0 := az_iconst (x := (nI 0)) C dX12_runningCost_0 (by decide +kernel) h1
  exact h0) l
theorem dX12_startCost_0 : decode cX12_startCost 0 = .ok (.aload_n 0, 1) := by decide +kernel
theorem dX12_startCost_1 : decode cX12_startCost 1 = .ok (.aload_n 0, 1) := by decide +kernel
theorem dX12_startCost_2 : decode cX12_startCost 2 = .ok (.getfield 47, 3) := by decide +kernel
theorem dX12_startCost_5 : decode cX12_startCost 5 = .ok (.iload_n 1, 1) := by decide +kernel
theorem dX12_startCost_6 : decode cX12_startCost 6 = .ok (.bipush 6, 2) := by decide +kernel
theorem dX12_startCost_8 : decode cX12_startCost 8 = .ok (.aload_n 0, 1) := by decide +kernel
theorem dX12_startCost_9 : decode cX12_startCost 9 = .ok (.getfield 9, 3) := by decide +kernel
theorem dX12_startCost_12 : decode cX12_startCost 12 = .ok (.iconst 2, 1) := by decide +kernel
theorem dX12_startCost_13 : decode cX12_startCost 13 = .ok (.iaload, 1) := by decide +kernel
theorem dX12_startCost_14 : decode cX12_startCost 14 = .ok (.invokevirtual 189, 3) := by decide +kernel
theorem dX12_startCost_17 : decode cX12_startCost 17 = .ok (.ireturn, 1) := by decide +kernel
def PX12_startCost (Q : Option Value → az_M → Prop) : az_T := (s_la 0 (s_la 0 (s_gr 13 16 (s_li 1 (s_ic (nI 6) (s_la 0 (s_gr 13 0 (s_ic (nI 2) (s_al 20 (s_cv 4 13 FX12_sum (s_ri Q)))))))))))
def FX12_startCost : az_F := az_fun [true, false] 2 PX12_startCost
theorem okX12_startCost (l : Launch) : az_met l yX12_startCost cX12_startCost 2 (some .int) ({ frames := 2, cells := 0, slots := 0, locals := 126 } : Room) FX12_startCost := az_met_of (own := RX12) (by decide +kernel) rfl (by decide) (fun X Q C => by
  have h17 := az_ireturn C rfl dX12_startCost_17
  have h14 := az_callV (ci := 13) C okX12_sum knX12_sum imX12_sum seX12_sum mLRX12_189 rfl (by decide) ⟨rfl, rfl, by decide, by decide⟩ dX12_startCost_14 h17
  have h13 := az_iald C dX12_startCost_13 h14
  have h12 := az_iconst (x := (nI 2)) C dX12_startCost_12 (by decide +kernel) h13
  have h9 := az_getR (T := TX12) (N := 33) (j := 0) C gwRX12 rfl (by decide) (by decide) iIRX12_0 mFRX12_9 rfl dX12_startCost_9 h12
  have h8 := az_aload_n C 0 rfl dX12_startCost_8 h9
  have h6 := az_bipush (x := (nI 6)) C dX12_startCost_6 (by decide +kernel) h8
  have h5 := az_iload_n C 1 rfl dX12_startCost_5 h6
  have h2 := az_getR (T := TX12) (N := 33) (j := 16) C gwRX12 rfl (by decide) (by decide) iIRX12_16 mFRX12_47 rfl dX12_startCost_2 h5
  have h1 := az_aload_n C 0 rfl dX12_startCost_1 h2
  have h0 := az_aload_n C 0 rfl dX12_startCost_0 h1
  exact h0) l
theorem dX12_costOf_0 : decode cX12_costOf 0 = .ok (.aload_n 0, 1) := by decide +kernel
theorem dX12_costOf_1 : decode cX12_costOf 1 = .ok (.iload_n 1, 1) := by decide +kernel
theorem dX12_costOf_2 : decode cX12_costOf 2 = .ok (.invokevirtual 193, 3) := by decide +kernel
theorem dX12_costOf_5 : decode cX12_costOf 5 = .ok (.aload_n 0, 1) := by decide +kernel
theorem dX12_costOf_6 : decode cX12_costOf 6 = .ok (.iload_n 1, 1) := by decide +kernel
theorem dX12_costOf_7 : decode cX12_costOf 7 = .ok (.invokevirtual 196, 3) := by decide +kernel
theorem dX12_costOf_10 : decode cX12_costOf 10 = .ok (.iadd, 1) := by decide +kernel
theorem dX12_costOf_11 : decode cX12_costOf 11 = .ok (.aload_n 0, 1) := by decide +kernel
theorem dX12_costOf_12 : decode cX12_costOf 12 = .ok (.iload_n 1, 1) := by decide +kernel
theorem dX12_costOf_13 : decode cX12_costOf 13 = .ok (.invokevirtual 199, 3) := by decide +kernel
theorem dX12_costOf_16 : decode cX12_costOf 16 = .ok (.iadd, 1) := by decide +kernel
theorem dX12_costOf_17 : decode cX12_costOf 17 = .ok (.ireturn, 1) := by decide +kernel
def PX12_costOf (Q : Option Value → az_M → Prop) : az_T := (s_la 0 (s_li 1 (s_cv 1 13 FX12_outputCost (s_la 0 (s_li 1 (s_cv 1 13 FX12_runningCost (s_bin f_add (s_la 0 (s_li 1 (s_cv 1 13 FX12_startCost (s_bin f_add (s_ri Q))))))))))))
def FX12_costOf : az_F := az_fun [true, false] 2 PX12_costOf
theorem okX12_costOf (l : Launch) : az_met l yX12_costOf cX12_costOf 2 (some .int) ({ frames := 4, cells := 0, slots := 0, locals := 166 } : Room) FX12_costOf := az_met_of (own := RX12) (by decide +kernel) rfl (by decide) (fun X Q C => by
  have h17 := az_ireturn C rfl dX12_costOf_17
  have h16 := az_iadd C dX12_costOf_16 h17
  have h13 := az_callV (ci := 13) C okX12_startCost knX12_startCost imX12_startCost seX12_startCost mLRX12_199 rfl (by decide) ⟨rfl, rfl, by decide, by decide⟩ dX12_costOf_13 h16
  have h12 := az_iload_n C 1 rfl dX12_costOf_12 h13
  have h11 := az_aload_n C 0 rfl dX12_costOf_11 h12
  have h10 := az_iadd C dX12_costOf_10 h11
  have h7 := az_callV (ci := 13) C okX12_runningCost knX12_runningCost imX12_runningCost seX12_runningCost mLRX12_196 rfl (by decide) ⟨rfl, rfl, by decide, by decide⟩ dX12_costOf_7 h10
  have h6 := az_iload_n C 1 rfl dX12_costOf_6 h7
  have h5 := az_aload_n C 0 rfl dX12_costOf_5 h6
  have h2 := az_callV (ci := 13) C okX12_outputCost knX12_outputCost imX12_outputCost seX12_outputCost mLRX12_193 rfl (by decide) ⟨rfl, rfl, by decide, by decide⟩ dX12_costOf_2 h5
  have h1 := az_iload_n C 1 rfl dX12_costOf_1 h2
  have h0 := az_aload_n C 0 rfl dX12_costOf_0 h1
  exact h0) l
theorem dX12_penaltyOf_0 : decode cX12_penaltyOf 0 = .ok (.sipush 1000, 3) := by decide +kernel
theorem dX12_penaltyOf_3 : decode cX12_penaltyOf 3 = .ok (.aload_n 0, 1) := by decide +kernel
theorem dX12_penaltyOf_4 : decode cX12_penaltyOf 4 = .ok (.iload_n 1, 1) := by decide +kernel
theorem dX12_penaltyOf_5 : decode cX12_penaltyOf 5 = .ok (.invokevirtual 202, 3) := by decide +kernel
theorem dX12_penaltyOf_8 : decode cX12_penaltyOf 8 = .ok (.imul, 1) := by decide +kernel
theorem dX12_penaltyOf_9 : decode cX12_penaltyOf 9 = .ok (.sipush 200, 3) := by decide +kernel
theorem dX12_penaltyOf_12 : decode cX12_penaltyOf 12 = .ok (.iconst 0, 1) := by decide +kernel
theorem dX12_penaltyOf_13 : decode cX12_penaltyOf 13 = .ok (.aload_n 0, 1) := by decide +kernel
theorem dX12_penaltyOf_14 : decode cX12_penaltyOf 14 = .ok (.getfield 9, 3) := by decide +kernel
theorem dX12_penaltyOf_17 : decode cX12_penaltyOf 17 = .ok (.bipush 101, 2) := by decide +kernel
theorem dX12_penaltyOf_19 : decode cX12_penaltyOf 19 = .ok (.iload_n 1, 1) := by decide +kernel
theorem dX12_penaltyOf_20 : decode cX12_penaltyOf 20 = .ok (.iadd, 1) := by decide +kernel
theorem dX12_penaltyOf_21 : decode cX12_penaltyOf 21 = .ok (.iaload, 1) := by decide +kernel
theorem dX12_penaltyOf_22 : decode cX12_penaltyOf 22 = .ok (.aload_n 0, 1) := by decide +kernel
theorem dX12_penaltyOf_23 : decode cX12_penaltyOf 23 = .ok (.iload_n 1, 1) := by decide +kernel
theorem dX12_penaltyOf_24 : decode cX12_penaltyOf 24 = .ok (.invokevirtual 205, 3) := by decide +kernel
theorem dX12_penaltyOf_27 : decode cX12_penaltyOf 27 = .ok (.isub, 1) := by decide +kernel
theorem dX12_penaltyOf_28 : decode cX12_penaltyOf 28 = .ok (.invokestatic 123, 3) := by decide +kernel
theorem dX12_penaltyOf_31 : decode cX12_penaltyOf 31 = .ok (.imul, 1) := by decide +kernel
theorem dX12_penaltyOf_32 : decode cX12_penaltyOf 32 = .ok (.iadd, 1) := by decide +kernel
theorem dX12_penaltyOf_33 : decode cX12_penaltyOf 33 = .ok (.ireturn, 1) := by decide +kernel
def PX12_penaltyOf (Q : Option Value → az_M → Prop) : az_T := (s_ic (nI 1000) (s_la 0 (s_li 1 (s_cv 1 13 FX12_shedIn (s_bin f_mul (s_ic (nI 200) (s_ic (nI 0) (s_la 0 (s_gr 13 0 (s_ic (nI 101) (s_li 1 (s_bin f_add (s_al 20 (s_la 0 (s_li 1 (s_cv 1 13 FX12_reserveOf (s_bin f_sub (s_mx (s_bin f_mul (s_bin f_add (s_ri Q)))))))))))))))))))))
def FX12_penaltyOf : az_F := az_fun [true, false] 2 PX12_penaltyOf
theorem okX12_penaltyOf (l : Launch) : az_met l yX12_penaltyOf cX12_penaltyOf 2 (some .int) ({ frames := 3, cells := 0, slots := 0, locals := 147 } : Room) FX12_penaltyOf := az_met_of (own := RX12) (by decide +kernel) rfl (by decide) (fun X Q C => by
  have h33 := az_ireturn C rfl dX12_penaltyOf_33
  have h32 := az_iadd C dX12_penaltyOf_32 h33
  have h31 := az_imul C dX12_penaltyOf_31 h32
  have h28 := az_mmax C mLRX12_123 mx_st_max mx_ini mx_co_max (by decide) (by decide) dX12_penaltyOf_28 h31
  have h27 := az_isub C dX12_penaltyOf_27 h28
  have h24 := az_callV (ci := 13) C okX12_reserveOf knX12_reserveOf imX12_reserveOf seX12_reserveOf mLRX12_205 rfl (by decide) ⟨rfl, rfl, by decide, by decide⟩ dX12_penaltyOf_24 h27
  have h23 := az_iload_n C 1 rfl dX12_penaltyOf_23 h24
  have h22 := az_aload_n C 0 rfl dX12_penaltyOf_22 h23
  have h21 := az_iald C dX12_penaltyOf_21 h22
  have h20 := az_iadd C dX12_penaltyOf_20 h21
  have h19 := az_iload_n C 1 rfl dX12_penaltyOf_19 h20
  have h17 := az_bipush (x := (nI 101)) C dX12_penaltyOf_17 (by decide +kernel) h19
  have h14 := az_getR (T := TX12) (N := 33) (j := 0) C gwRX12 rfl (by decide) (by decide) iIRX12_0 mFRX12_9 rfl dX12_penaltyOf_14 h17
  have h13 := az_aload_n C 0 rfl dX12_penaltyOf_13 h14
  have h12 := az_iconst (x := (nI 0)) C dX12_penaltyOf_12 (by decide +kernel) h13
  have h9 := az_sipush (x := (nI 200)) C dX12_penaltyOf_9 (by decide +kernel) h12
  have h8 := az_imul C dX12_penaltyOf_8 h9
  have h5 := az_callV (ci := 13) C okX12_shedIn knX12_shedIn imX12_shedIn seX12_shedIn mLRX12_202 rfl (by decide) ⟨rfl, rfl, by decide, by decide⟩ dX12_penaltyOf_5 h8
  have h4 := az_iload_n C 1 rfl dX12_penaltyOf_4 h5
  have h3 := az_aload_n C 0 rfl dX12_penaltyOf_3 h4
  have h0 := az_sipush (x := (nI 1000)) C dX12_penaltyOf_0 (by decide +kernel) h3
  exact h0) l
theorem dX12_demandIn_0 : decode cX12_demandIn 0 = .ok (.iconst 0, 1) := by decide +kernel
theorem dX12_demandIn_1 : decode cX12_demandIn 1 = .ok (.istore_n 2, 1) := by decide +kernel
theorem dX12_demandIn_2 : decode cX12_demandIn 2 = .ok (.iconst 0, 1) := by decide +kernel
theorem dX12_demandIn_3 : decode cX12_demandIn 3 = .ok (.istore_n 3, 1) := by decide +kernel
theorem dX12_demandIn_4 : decode cX12_demandIn 4 = .ok (.iload_n 3, 1) := by decide +kernel
theorem dX12_demandIn_5 : decode cX12_demandIn 5 = .ok (.aload_n 0, 1) := by decide +kernel
theorem dX12_demandIn_6 : decode cX12_demandIn 6 = .ok (.getfield 9, 3) := by decide +kernel
theorem dX12_demandIn_9 : decode cX12_demandIn 9 = .ok (.iconst 1, 1) := by decide +kernel
theorem dX12_demandIn_10 : decode cX12_demandIn 10 = .ok (.iaload, 1) := by decide +kernel
theorem dX12_demandIn_11 : decode cX12_demandIn 11 = .ok (.if_icmp .ge 25, 3) := by decide +kernel
theorem dX12_demandIn_14 : decode cX12_demandIn 14 = .ok (.iload_n 2, 1) := by decide +kernel
theorem dX12_demandIn_15 : decode cX12_demandIn 15 = .ok (.aload_n 0, 1) := by decide +kernel
theorem dX12_demandIn_16 : decode cX12_demandIn 16 = .ok (.getfield 9, 3) := by decide +kernel
theorem dX12_demandIn_19 : decode cX12_demandIn 19 = .ok (.iconst 5, 1) := by decide +kernel
theorem dX12_demandIn_20 : decode cX12_demandIn 20 = .ok (.bipush 24, 2) := by decide +kernel
theorem dX12_demandIn_22 : decode cX12_demandIn 22 = .ok (.iload_n 3, 1) := by decide +kernel
theorem dX12_demandIn_23 : decode cX12_demandIn 23 = .ok (.imul, 1) := by decide +kernel
theorem dX12_demandIn_24 : decode cX12_demandIn 24 = .ok (.iadd, 1) := by decide +kernel
theorem dX12_demandIn_25 : decode cX12_demandIn 25 = .ok (.iload_n 1, 1) := by decide +kernel
theorem dX12_demandIn_26 : decode cX12_demandIn 26 = .ok (.iadd, 1) := by decide +kernel
theorem dX12_demandIn_27 : decode cX12_demandIn 27 = .ok (.iaload, 1) := by decide +kernel
theorem dX12_demandIn_28 : decode cX12_demandIn 28 = .ok (.iadd, 1) := by decide +kernel
theorem dX12_demandIn_29 : decode cX12_demandIn 29 = .ok (.istore_n 2, 1) := by decide +kernel
theorem dX12_demandIn_30 : decode cX12_demandIn 30 = .ok (.iinc 3 1, 3) := by decide +kernel
theorem dX12_demandIn_33 : decode cX12_demandIn 33 = .ok (.goto (-29), 3) := by decide +kernel
theorem dX12_demandIn_36 : decode cX12_demandIn 36 = .ok (.iload_n 2, 1) := by decide +kernel
theorem dX12_demandIn_37 : decode cX12_demandIn 37 = .ok (.ireturn, 1) := by decide +kernel
def BX12_demandIn_4 (Q : Option Value → az_M → Prop) (Z4 : az_T) : az_T := (s_li 3 (s_la 0 (s_gr 13 0 (s_ic (nI 1) (s_al 20 (s_if2 d_ge (s_li 2 (s_ri Q)) (s_li 2 (s_la 0 (s_gr 13 0 (s_ic (nI 5) (s_ic (nI 24) (s_li 3 (s_bin f_mul (s_bin f_add (s_li 1 (s_bin f_add (s_al 20 (s_bin f_add (s_si 2 (s_inc 3 (nI 1) (s_kp [true, true, true, true] Z4)))))))))))))))))))))
theorem okBX12_demandIn_4 {X : az_X} {Q : Option Value → az_M → Prop} (C : az_C X cX12_demandIn 4 RX12 (az_ts yX12_demandIn cX12_demandIn 4 (some .int)) ({ frames := 1, cells := 0, slots := 0, locals := 100 } : Room) (some .int) Q) {Z4 : az_T} (hZ4 : az_ok X 4 Z4) : az_ok X 4 (BX12_demandIn_4 Q Z4) := by
  have h37 := az_ireturn C rfl dX12_demandIn_37
  have h36 := az_iload_n C 2 rfl dX12_demandIn_36 h37
  have h33 := az_goto (tgt := 4) C dX12_demandIn_33 (by decide) (az_keep [true, true, true, true] hZ4)
  have h30 := az_iinc (v := (nI 1)) C (by decide) (by decide +kernel) dX12_demandIn_30 h33
  have h29 := az_istore_n C 2 rfl (by decide) dX12_demandIn_29 h30
  have h28 := az_iadd C dX12_demandIn_28 h29
  have h27 := az_iald C dX12_demandIn_27 h28
  have h26 := az_iadd C dX12_demandIn_26 h27
  have h25 := az_iload_n C 1 rfl dX12_demandIn_25 h26
  have h24 := az_iadd C dX12_demandIn_24 h25
  have h23 := az_imul C dX12_demandIn_23 h24
  have h22 := az_iload_n C 3 rfl dX12_demandIn_22 h23
  have h20 := az_bipush (x := (nI 24)) C dX12_demandIn_20 (by decide +kernel) h22
  have h19 := az_iconst (x := (nI 5)) C dX12_demandIn_19 (by decide +kernel) h20
  have h16 := az_getR (T := TX12) (N := 33) (j := 0) C gwRX12 rfl (by decide) (by decide) iIRX12_0 mFRX12_9 rfl dX12_demandIn_16 h19
  have h15 := az_aload_n C 0 rfl dX12_demandIn_15 h16
  have h14 := az_iload_n C 2 rfl dX12_demandIn_14 h15
  have h11 := az_icmp_ge (tgt := 36) C dX12_demandIn_11 (by decide) h36 h14
  have h10 := az_iald C dX12_demandIn_10 h11
  have h9 := az_iconst (x := (nI 1)) C dX12_demandIn_9 (by decide +kernel) h10
  have h6 := az_getR (T := TX12) (N := 33) (j := 0) C gwRX12 rfl (by decide) (by decide) iIRX12_0 mFRX12_9 rfl dX12_demandIn_6 h9
  have h5 := az_aload_n C 0 rfl dX12_demandIn_5 h6
  have h4 := az_iload_n C 3 rfl dX12_demandIn_4 h5
  exact h4
def LX12_demandIn_4 (Q : Option Value → az_M → Prop) : az_T := s_lp (fun Z => BX12_demandIn_4 Q Z)
theorem okLX12_demandIn_4 {X : az_X} {Q : Option Value → az_M → Prop} (C : az_C X cX12_demandIn 4 RX12 (az_ts yX12_demandIn cX12_demandIn 4 (some .int)) ({ frames := 1, cells := 0, slots := 0, locals := 100 } : Room) (some .int) Q) : az_ok X 4 (LX12_demandIn_4 Q) := az_loop (F := fun Z => BX12_demandIn_4 Q Z) (fun _ hZ => okBX12_demandIn_4 C hZ)
def PX12_demandIn (Q : Option Value → az_M → Prop) : az_T := (s_ic (nI 0) (s_si 2 (s_ic (nI 0) (s_si 3 (s_kp [true, true, true, true] (LX12_demandIn_4 Q))))))
def FX12_demandIn : az_F := az_fun [true, false] 4 PX12_demandIn
theorem okX12_demandIn (l : Launch) : az_met l yX12_demandIn cX12_demandIn 4 (some .int) ({ frames := 1, cells := 0, slots := 0, locals := 100 } : Room) FX12_demandIn := az_met_of (own := RX12) (by decide +kernel) rfl (by decide) (fun X Q C => by
  have h3 := az_istore_n C 3 rfl (by decide) dX12_demandIn_3 (az_keep [true, true, true, true] (okLX12_demandIn_4 C))
  have h2 := az_iconst (x := (nI 0)) C dX12_demandIn_2 (by decide +kernel) h3
  have h1 := az_istore_n C 2 rfl (by decide) dX12_demandIn_1 h2
  have h0 := az_iconst (x := (nI 0)) C dX12_demandIn_0 (by decide +kernel) h1
  exact h0) l
theorem dX12_startsIn_0 : decode cX12_startsIn 0 = .ok (.iconst 0, 1) := by decide +kernel
theorem dX12_startsIn_1 : decode cX12_startsIn 1 = .ok (.istore_n 2, 1) := by decide +kernel
theorem dX12_startsIn_2 : decode cX12_startsIn 2 = .ok (.iconst 0, 1) := by decide +kernel
theorem dX12_startsIn_3 : decode cX12_startsIn 3 = .ok (.istore_n 3, 1) := by decide +kernel
theorem dX12_startsIn_4 : decode cX12_startsIn 4 = .ok (.iload_n 3, 1) := by decide +kernel
theorem dX12_startsIn_5 : decode cX12_startsIn 5 = .ok (.aload_n 0, 1) := by decide +kernel
theorem dX12_startsIn_6 : decode cX12_startsIn 6 = .ok (.getfield 9, 3) := by decide +kernel
theorem dX12_startsIn_9 : decode cX12_startsIn 9 = .ok (.iconst 2, 1) := by decide +kernel
theorem dX12_startsIn_10 : decode cX12_startsIn 10 = .ok (.iaload, 1) := by decide +kernel
theorem dX12_startsIn_11 : decode cX12_startsIn 11 = .ok (.if_icmp .ge 40, 3) := by decide +kernel
theorem dX12_startsIn_14 : decode cX12_startsIn 14 = .ok (.iload_n 2, 1) := by decide +kernel
theorem dX12_startsIn_15 : decode cX12_startsIn 15 = .ok (.aload_n 0, 1) := by decide +kernel
theorem dX12_startsIn_16 : decode cX12_startsIn 16 = .ok (.getfield 22, 3) := by decide +kernel
theorem dX12_startsIn_19 : decode cX12_startsIn 19 = .ok (.bipush 6, 2) := by decide +kernel
theorem dX12_startsIn_21 : decode cX12_startsIn 21 = .ok (.iload_n 1, 1) := by decide +kernel
theorem dX12_startsIn_22 : decode cX12_startsIn 22 = .ok (.imul, 1) := by decide +kernel
theorem dX12_startsIn_23 : decode cX12_startsIn 23 = .ok (.iload_n 3, 1) := by decide +kernel
theorem dX12_startsIn_24 : decode cX12_startsIn 24 = .ok (.iadd, 1) := by decide +kernel
theorem dX12_startsIn_25 : decode cX12_startsIn 25 = .ok (.baload, 1) := by decide +kernel
theorem dX12_startsIn_26 : decode cX12_startsIn 26 = .ok (.ifCond .eq 16, 3) := by decide +kernel
theorem dX12_startsIn_29 : decode cX12_startsIn 29 = .ok (.aload_n 0, 1) := by decide +kernel
theorem dX12_startsIn_30 : decode cX12_startsIn 30 = .ok (.iload_n 3, 1) := by decide +kernel
theorem dX12_startsIn_31 : decode cX12_startsIn 31 = .ok (.iload_n 1, 1) := by decide +kernel
theorem dX12_startsIn_32 : decode cX12_startsIn 32 = .ok (.invokevirtual 157, 3) := by decide +kernel
theorem dX12_startsIn_35 : decode cX12_startsIn 35 = .ok (.ifCond .ne 7, 3) := by decide +kernel
theorem dX12_startsIn_38 : decode cX12_startsIn 38 = .ok (.iconst 1, 1) := by decide +kernel
theorem dX12_startsIn_39 : decode cX12_startsIn 39 = .ok (.goto 4, 3) := by decide +kernel
theorem dX12_startsIn_42 : decode cX12_startsIn 42 = .ok (.iconst 0, 1) := by decide +kernel
theorem dX12_startsIn_43 : decode cX12_startsIn 43 = .ok (.iadd, 1) := by decide +kernel
theorem dX12_startsIn_44 : decode cX12_startsIn 44 = .ok (.istore_n 2, 1) := by decide +kernel
theorem dX12_startsIn_45 : decode cX12_startsIn 45 = .ok (.iinc 3 1, 3) := by decide +kernel
theorem dX12_startsIn_48 : decode cX12_startsIn 48 = .ok (.goto (-44), 3) := by decide +kernel
theorem dX12_startsIn_51 : decode cX12_startsIn 51 = .ok (.iload_n 2, 1) := by decide +kernel
theorem dX12_startsIn_52 : decode cX12_startsIn 52 = .ok (.ireturn, 1) := by decide +kernel
def LX12_startsIn_43 (Q : Option Value → az_M → Prop) (Z4 : az_T) : az_T := (s_bin f_add (s_si 2 (s_inc 3 (nI 1) (s_kp [true, true, true, true] Z4))))
theorem okLX12_startsIn_43 {X : az_X} {Q : Option Value → az_M → Prop} (C : az_C X cX12_startsIn 4 RX12 (az_ts yX12_startsIn cX12_startsIn 4 (some .int)) ({ frames := 4, cells := 0, slots := 0, locals := 165 } : Room) (some .int) Q) {Z4 : az_T} (hZ4 : az_ok X 4 Z4) : az_ok X 43 (LX12_startsIn_43 Q Z4) := by
  have h48 := az_goto (tgt := 4) C dX12_startsIn_48 (by decide) (az_keep [true, true, true, true] hZ4)
  have h45 := az_iinc (v := (nI 1)) C (by decide) (by decide +kernel) dX12_startsIn_45 h48
  have h44 := az_istore_n C 2 rfl (by decide) dX12_startsIn_44 h45
  have h43 := az_iadd C dX12_startsIn_43 h44
  exact h43
def LX12_startsIn_42 (Q : Option Value → az_M → Prop) (Z4 : az_T) : az_T := (s_ic (nI 0) (s_kp [true, true, false, true] (LX12_startsIn_43 Q Z4)))
theorem okLX12_startsIn_42 {X : az_X} {Q : Option Value → az_M → Prop} (C : az_C X cX12_startsIn 4 RX12 (az_ts yX12_startsIn cX12_startsIn 4 (some .int)) ({ frames := 4, cells := 0, slots := 0, locals := 165 } : Room) (some .int) Q) {Z4 : az_T} (hZ4 : az_ok X 4 Z4) : az_ok X 42 (LX12_startsIn_42 Q Z4) := by
  have h42 := az_iconst (x := (nI 0)) C dX12_startsIn_42 (by decide +kernel) (az_keep [true, true, false, true] (okLX12_startsIn_43 C hZ4))
  exact h42
def BX12_startsIn_4 (Q : Option Value → az_M → Prop) (Z4 : az_T) : az_T := (s_li 3 (s_la 0 (s_gr 13 0 (s_ic (nI 2) (s_al 20 (s_if2 d_ge (s_li 2 (s_ri Q)) (s_li 2 (s_la 0 (s_gr 13 8 (s_ic (nI 6) (s_li 1 (s_bin f_mul (s_li 3 (s_bin f_add (s_al 21 (s_if c_eq (s_kp [true, true, false, true] (LX12_startsIn_42 Q Z4)) (s_la 0 (s_li 3 (s_li 1 (s_cv 2 13 FX12_ranBefore (s_if c_ne (s_kp [true, true, false, true] (LX12_startsIn_42 Q Z4)) (s_ic (nI 1) (s_kp [true, true, false, true] (LX12_startsIn_43 Q Z4))))))))))))))))))))))))
theorem okBX12_startsIn_4 {X : az_X} {Q : Option Value → az_M → Prop} (C : az_C X cX12_startsIn 4 RX12 (az_ts yX12_startsIn cX12_startsIn 4 (some .int)) ({ frames := 4, cells := 0, slots := 0, locals := 165 } : Room) (some .int) Q) {Z4 : az_T} (hZ4 : az_ok X 4 Z4) : az_ok X 4 (BX12_startsIn_4 Q Z4) := by
  have h52 := az_ireturn C rfl dX12_startsIn_52
  have h51 := az_iload_n C 2 rfl dX12_startsIn_51 h52
  have h39 := az_goto (tgt := 43) C dX12_startsIn_39 (by decide) (az_keep [true, true, false, true] (okLX12_startsIn_43 C hZ4))
  have h38 := az_iconst (x := (nI 1)) C dX12_startsIn_38 (by decide +kernel) h39
  have h35 := az_if_ne (tgt := 42) C dX12_startsIn_35 (by decide) (az_keep [true, true, false, true] (okLX12_startsIn_42 C hZ4)) h38
  have h32 := az_callV (ci := 13) C okX12_ranBefore knX12_ranBefore imX12_ranBefore seX12_ranBefore mLRX12_157 rfl (by decide) ⟨rfl, rfl, by decide, by decide⟩ dX12_startsIn_32 h35
  have h31 := az_iload_n C 1 rfl dX12_startsIn_31 h32
  have h30 := az_iload_n C 3 rfl dX12_startsIn_30 h31
  have h29 := az_aload_n C 0 rfl dX12_startsIn_29 h30
  have h26 := az_if_eq (tgt := 42) C dX12_startsIn_26 (by decide) (az_keep [true, true, false, true] (okLX12_startsIn_42 C hZ4)) h29
  have h25 := az_zald C dX12_startsIn_25 h26
  have h24 := az_iadd C dX12_startsIn_24 h25
  have h23 := az_iload_n C 3 rfl dX12_startsIn_23 h24
  have h22 := az_imul C dX12_startsIn_22 h23
  have h21 := az_iload_n C 1 rfl dX12_startsIn_21 h22
  have h19 := az_bipush (x := (nI 6)) C dX12_startsIn_19 (by decide +kernel) h21
  have h16 := az_getR (T := TX12) (N := 33) (j := 8) C gwRX12 rfl (by decide) (by decide) iIRX12_8 mFRX12_22 rfl dX12_startsIn_16 h19
  have h15 := az_aload_n C 0 rfl dX12_startsIn_15 h16
  have h14 := az_iload_n C 2 rfl dX12_startsIn_14 h15
  have h11 := az_icmp_ge (tgt := 51) C dX12_startsIn_11 (by decide) h51 h14
  have h10 := az_iald C dX12_startsIn_10 h11
  have h9 := az_iconst (x := (nI 2)) C dX12_startsIn_9 (by decide +kernel) h10
  have h6 := az_getR (T := TX12) (N := 33) (j := 0) C gwRX12 rfl (by decide) (by decide) iIRX12_0 mFRX12_9 rfl dX12_startsIn_6 h9
  have h5 := az_aload_n C 0 rfl dX12_startsIn_5 h6
  have h4 := az_iload_n C 3 rfl dX12_startsIn_4 h5
  exact h4
def LX12_startsIn_4 (Q : Option Value → az_M → Prop) : az_T := s_lp (fun Z => BX12_startsIn_4 Q Z)
theorem okLX12_startsIn_4 {X : az_X} {Q : Option Value → az_M → Prop} (C : az_C X cX12_startsIn 4 RX12 (az_ts yX12_startsIn cX12_startsIn 4 (some .int)) ({ frames := 4, cells := 0, slots := 0, locals := 165 } : Room) (some .int) Q) : az_ok X 4 (LX12_startsIn_4 Q) := az_loop (F := fun Z => BX12_startsIn_4 Q Z) (fun _ hZ => okBX12_startsIn_4 C hZ)
def PX12_startsIn (Q : Option Value → az_M → Prop) : az_T := (s_ic (nI 0) (s_si 2 (s_ic (nI 0) (s_si 3 (s_kp [true, true, true, true] (LX12_startsIn_4 Q))))))
def FX12_startsIn : az_F := az_fun [true, false] 4 PX12_startsIn
theorem okX12_startsIn (l : Launch) : az_met l yX12_startsIn cX12_startsIn 4 (some .int) ({ frames := 4, cells := 0, slots := 0, locals := 165 } : Room) FX12_startsIn := az_met_of (own := RX12) (by decide +kernel) rfl (by decide) (fun X Q C => by
  have h3 := az_istore_n C 3 rfl (by decide) dX12_startsIn_3 (az_keep [true, true, true, true] (okLX12_startsIn_4 C))
  have h2 := az_iconst (x := (nI 0)) C dX12_startsIn_2 (by decide +kernel) h3
  have h1 := az_istore_n C 2 rfl (by decide) dX12_startsIn_1 h2
  have h0 := az_iconst (x := (nI 0)) C dX12_startsIn_0 (by decide +kernel) h1
  exact h0) l
theorem dX12_violationsOf_0 : decode cX12_violationsOf 0 = .ok (.iconst 0, 1) := by decide +kernel
theorem dX12_violationsOf_1 : decode cX12_violationsOf 1 = .ok (.istore_n 2, 1) := by decide +kernel
theorem dX12_violationsOf_2 : decode cX12_violationsOf 2 = .ok (.iconst 0, 1) := by decide +kernel
theorem dX12_violationsOf_3 : decode cX12_violationsOf 3 = .ok (.istore_n 3, 1) := by decide +kernel
theorem dX12_violationsOf_4 : decode cX12_violationsOf 4 = .ok (.iload_n 3, 1) := by decide +kernel
theorem dX12_violationsOf_5 : decode cX12_violationsOf 5 = .ok (.aload_n 0, 1) := by decide +kernel
theorem dX12_violationsOf_6 : decode cX12_violationsOf 6 = .ok (.getfield 208, 3) := by decide +kernel
theorem dX12_violationsOf_9 : decode cX12_violationsOf 9 = .ok (.if_icmp .ge 35, 3) := by decide +kernel
theorem dX12_violationsOf_12 : decode cX12_violationsOf 12 = .ok (.iload_n 2, 1) := by decide +kernel
theorem dX12_violationsOf_13 : decode cX12_violationsOf 13 = .ok (.iload_n 1, 1) := by decide +kernel
theorem dX12_violationsOf_14 : decode cX12_violationsOf 14 = .ok (.ifCond .eq 17, 3) := by decide +kernel
theorem dX12_violationsOf_17 : decode cX12_violationsOf 17 = .ok (.aload_n 0, 1) := by decide +kernel
theorem dX12_violationsOf_18 : decode cX12_violationsOf 18 = .ok (.getfield 65, 3) := by decide +kernel
theorem dX12_violationsOf_21 : decode cX12_violationsOf 21 = .ok (.iconst 3, 1) := by decide +kernel
theorem dX12_violationsOf_22 : decode cX12_violationsOf 22 = .ok (.iload_n 3, 1) := by decide +kernel
theorem dX12_violationsOf_23 : decode cX12_violationsOf 23 = .ok (.imul, 1) := by decide +kernel
theorem dX12_violationsOf_24 : decode cX12_violationsOf 24 = .ok (.iconst 1, 1) := by decide +kernel
theorem dX12_violationsOf_25 : decode cX12_violationsOf 25 = .ok (.iadd, 1) := by decide +kernel
theorem dX12_violationsOf_26 : decode cX12_violationsOf 26 = .ok (.iaload, 1) := by decide +kernel
theorem dX12_violationsOf_27 : decode cX12_violationsOf 27 = .ok (.iload_n 1, 1) := by decide +kernel
theorem dX12_violationsOf_28 : decode cX12_violationsOf 28 = .ok (.if_icmp .ne 7, 3) := by decide +kernel
theorem dX12_violationsOf_31 : decode cX12_violationsOf 31 = .ok (.iconst 1, 1) := by decide +kernel
theorem dX12_violationsOf_32 : decode cX12_violationsOf 32 = .ok (.goto 4, 3) := by decide +kernel
theorem dX12_violationsOf_35 : decode cX12_violationsOf 35 = .ok (.iconst 0, 1) := by decide +kernel
theorem dX12_violationsOf_36 : decode cX12_violationsOf 36 = .ok (.iadd, 1) := by decide +kernel
theorem dX12_violationsOf_37 : decode cX12_violationsOf 37 = .ok (.istore_n 2, 1) := by decide +kernel
theorem dX12_violationsOf_38 : decode cX12_violationsOf 38 = .ok (.iinc 3 1, 3) := by decide +kernel
theorem dX12_violationsOf_41 : decode cX12_violationsOf 41 = .ok (.goto (-37), 3) := by decide +kernel
theorem dX12_violationsOf_44 : decode cX12_violationsOf 44 = .ok (.iload_n 2, 1) := by decide +kernel
theorem dX12_violationsOf_45 : decode cX12_violationsOf 45 = .ok (.ireturn, 1) := by decide +kernel
def LX12_violationsOf_36 (Q : Option Value → az_M → Prop) (Z4 : az_T) : az_T := (s_bin f_add (s_si 2 (s_inc 3 (nI 1) (s_kp [true, true, true, true] Z4))))
theorem okLX12_violationsOf_36 {X : az_X} {Q : Option Value → az_M → Prop} (C : az_C X cX12_violationsOf 4 RX12 (az_ts yX12_violationsOf cX12_violationsOf 4 (some .int)) ({ frames := 1, cells := 0, slots := 0, locals := 100 } : Room) (some .int) Q) {Z4 : az_T} (hZ4 : az_ok X 4 Z4) : az_ok X 36 (LX12_violationsOf_36 Q Z4) := by
  have h41 := az_goto (tgt := 4) C dX12_violationsOf_41 (by decide) (az_keep [true, true, true, true] hZ4)
  have h38 := az_iinc (v := (nI 1)) C (by decide) (by decide +kernel) dX12_violationsOf_38 h41
  have h37 := az_istore_n C 2 rfl (by decide) dX12_violationsOf_37 h38
  have h36 := az_iadd C dX12_violationsOf_36 h37
  exact h36
def LX12_violationsOf_31 (Q : Option Value → az_M → Prop) (Z4 : az_T) : az_T := (s_ic (nI 1) (s_kp [true, true, false, true] (LX12_violationsOf_36 Q Z4)))
theorem okLX12_violationsOf_31 {X : az_X} {Q : Option Value → az_M → Prop} (C : az_C X cX12_violationsOf 4 RX12 (az_ts yX12_violationsOf cX12_violationsOf 4 (some .int)) ({ frames := 1, cells := 0, slots := 0, locals := 100 } : Room) (some .int) Q) {Z4 : az_T} (hZ4 : az_ok X 4 Z4) : az_ok X 31 (LX12_violationsOf_31 Q Z4) := by
  have h32 := az_goto (tgt := 36) C dX12_violationsOf_32 (by decide) (az_keep [true, true, false, true] (okLX12_violationsOf_36 C hZ4))
  have h31 := az_iconst (x := (nI 1)) C dX12_violationsOf_31 (by decide +kernel) h32
  exact h31
def BX12_violationsOf_4 (Q : Option Value → az_M → Prop) (Z4 : az_T) : az_T := (s_li 3 (s_la 0 (s_gi 13 23 (s_if2 d_ge (s_li 2 (s_ri Q)) (s_li 2 (s_li 1 (s_if c_eq (s_kp [true, true, false, true] (LX12_violationsOf_31 Q Z4)) (s_la 0 (s_gr 13 22 (s_ic (nI 3) (s_li 3 (s_bin f_mul (s_ic (nI 1) (s_bin f_add (s_al 20 (s_li 1 (s_if2 d_ne (s_ic (nI 0) (s_kp [true, true, false, true] (LX12_violationsOf_36 Q Z4))) (s_kp [true, true, false, true] (LX12_violationsOf_31 Q Z4)))))))))))))))))))
theorem okBX12_violationsOf_4 {X : az_X} {Q : Option Value → az_M → Prop} (C : az_C X cX12_violationsOf 4 RX12 (az_ts yX12_violationsOf cX12_violationsOf 4 (some .int)) ({ frames := 1, cells := 0, slots := 0, locals := 100 } : Room) (some .int) Q) {Z4 : az_T} (hZ4 : az_ok X 4 Z4) : az_ok X 4 (BX12_violationsOf_4 Q Z4) := by
  have h45 := az_ireturn C rfl dX12_violationsOf_45
  have h44 := az_iload_n C 2 rfl dX12_violationsOf_44 h45
  have h35 := az_iconst (x := (nI 0)) C dX12_violationsOf_35 (by decide +kernel) (az_keep [true, true, false, true] (okLX12_violationsOf_36 C hZ4))
  have h28 := az_icmp_ne (tgt := 35) C dX12_violationsOf_28 (by decide) h35 (az_keep [true, true, false, true] (okLX12_violationsOf_31 C hZ4))
  have h27 := az_iload_n C 1 rfl dX12_violationsOf_27 h28
  have h26 := az_iald C dX12_violationsOf_26 h27
  have h25 := az_iadd C dX12_violationsOf_25 h26
  have h24 := az_iconst (x := (nI 1)) C dX12_violationsOf_24 (by decide +kernel) h25
  have h23 := az_imul C dX12_violationsOf_23 h24
  have h22 := az_iload_n C 3 rfl dX12_violationsOf_22 h23
  have h21 := az_iconst (x := (nI 3)) C dX12_violationsOf_21 (by decide +kernel) h22
  have h18 := az_getR (T := TX12) (N := 33) (j := 22) C gwRX12 rfl (by decide) (by decide) iIRX12_22 mFRX12_65 rfl dX12_violationsOf_18 h21
  have h17 := az_aload_n C 0 rfl dX12_violationsOf_17 h18
  have h14 := az_if_eq (tgt := 31) C dX12_violationsOf_14 (by decide) (az_keep [true, true, false, true] (okLX12_violationsOf_31 C hZ4)) h17
  have h13 := az_iload_n C 1 rfl dX12_violationsOf_13 h14
  have h12 := az_iload_n C 2 rfl dX12_violationsOf_12 h13
  have h9 := az_icmp_ge (tgt := 44) C dX12_violationsOf_9 (by decide) h44 h12
  have h6 := az_getI (T := TX12) (N := 33) (j := 23) C gwRX12 rfl (by decide) (by decide) iIRX12_23 mFRX12_208 rfl dX12_violationsOf_6 h9
  have h5 := az_aload_n C 0 rfl dX12_violationsOf_5 h6
  have h4 := az_iload_n C 3 rfl dX12_violationsOf_4 h5
  exact h4
def LX12_violationsOf_4 (Q : Option Value → az_M → Prop) : az_T := s_lp (fun Z => BX12_violationsOf_4 Q Z)
theorem okLX12_violationsOf_4 {X : az_X} {Q : Option Value → az_M → Prop} (C : az_C X cX12_violationsOf 4 RX12 (az_ts yX12_violationsOf cX12_violationsOf 4 (some .int)) ({ frames := 1, cells := 0, slots := 0, locals := 100 } : Room) (some .int) Q) : az_ok X 4 (LX12_violationsOf_4 Q) := az_loop (F := fun Z => BX12_violationsOf_4 Q Z) (fun _ hZ => okBX12_violationsOf_4 C hZ)
def PX12_violationsOf (Q : Option Value → az_M → Prop) : az_T := (s_ic (nI 0) (s_si 2 (s_ic (nI 0) (s_si 3 (s_kp [true, true, true, true] (LX12_violationsOf_4 Q))))))
def FX12_violationsOf : az_F := az_fun [true, false] 4 PX12_violationsOf
theorem okX12_violationsOf (l : Launch) : az_met l yX12_violationsOf cX12_violationsOf 4 (some .int) ({ frames := 1, cells := 0, slots := 0, locals := 100 } : Room) FX12_violationsOf := az_met_of (own := RX12) (by decide +kernel) rfl (by decide) (fun X Q C => by
  have h3 := az_istore_n C 3 rfl (by decide) dX12_violationsOf_3 (az_keep [true, true, true, true] (okLX12_violationsOf_4 C))
  have h2 := az_iconst (x := (nI 0)) C dX12_violationsOf_2 (by decide +kernel) h3
  have h1 := az_istore_n C 2 rfl (by decide) dX12_violationsOf_1 h2
  have h0 := az_iconst (x := (nI 0)) C dX12_violationsOf_0 (by decide +kernel) h1
  exact h0) l
theorem dX12_violationCount_0 : decode cX12_violationCount 0 = .ok (.aload_n 0, 1) := by decide +kernel
theorem dX12_violationCount_1 : decode cX12_violationCount 1 = .ok (.iload_n 1, 1) := by decide +kernel
theorem dX12_violationCount_2 : decode cX12_violationCount 2 = .ok (.iconst 0, 1) := by decide +kernel
theorem dX12_violationCount_3 : decode cX12_violationCount 3 = .ok (.bipush 6, 2) := by decide +kernel
theorem dX12_violationCount_5 : decode cX12_violationCount 5 = .ok (.invokestatic 92, 3) := by decide +kernel
theorem dX12_violationCount_8 : decode cX12_violationCount 8 = .ok (.ifCond .eq 7, 3) := by decide +kernel
theorem dX12_violationCount_11 : decode cX12_violationCount 11 = .ok (.iconst 0, 1) := by decide +kernel
theorem dX12_violationCount_12 : decode cX12_violationCount 12 = .ok (.goto 4, 3) := by decide +kernel
theorem dX12_violationCount_15 : decode cX12_violationCount 15 = .ok (.iconst 1, 1) := by decide +kernel
theorem dX12_violationCount_16 : decode cX12_violationCount 16 = .ok (.putfield 89, 3) := by decide +kernel
theorem dX12_violationCount_19 : decode cX12_violationCount 19 = .ok (.aload_n 0, 1) := by decide +kernel
theorem dX12_violationCount_20 : decode cX12_violationCount 20 = .ok (.getfield 89, 3) := by decide +kernel
theorem dX12_violationCount_23 : decode cX12_violationCount 23 = .ok (.ifCond .le 5, 3) := by decide +kernel
theorem dX12_violationCount_26 : decode cX12_violationCount 26 = .ok (.iconst 0, 1) := by decide +kernel
theorem dX12_violationCount_27 : decode cX12_violationCount 27 = .ok (.ireturn, 1) := by decide +kernel
theorem dX12_violationCount_28 : decode cX12_violationCount 28 = .ok (.aload_n 0, 1) := by decide +kernel
theorem dX12_violationCount_29 : decode cX12_violationCount 29 = .ok (.invokevirtual 137, 3) := by decide +kernel
theorem dX12_violationCount_32 : decode cX12_violationCount 32 = .ok (.aload_n 0, 1) := by decide +kernel
theorem dX12_violationCount_33 : decode cX12_violationCount 33 = .ok (.iload_n 1, 1) := by decide +kernel
theorem dX12_violationCount_34 : decode cX12_violationCount 34 = .ok (.invokevirtual 218, 3) := by decide +kernel
theorem dX12_violationCount_37 : decode cX12_violationCount 37 = .ok (.ireturn, 1) := by decide +kernel
def LX12_violationCount_16 (Q : Option Value → az_M → Prop) : az_T := (s_pi 13 5 (s_la 0 (s_gi 13 5 (s_if c_le (s_la 0 (s_cv 0 13 FX12_know (s_la 0 (s_li 1 (s_cv 1 13 FX12_violationsOf (s_ri Q)))))) (s_ic (nI 0) (s_ri Q))))))
theorem okLX12_violationCount_16 {X : az_X} {Q : Option Value → az_M → Prop} (C : az_C X cX12_violationCount 2 RX12 (az_ts yX12_violationCount cX12_violationCount 2 (some .int)) ({ frames := 8, cells := 0, slots := 0, locals := 257 } : Room) (some .int) Q) : az_ok X 16 (LX12_violationCount_16 Q) := by
  have h37 := az_ireturn C rfl dX12_violationCount_37
  have h34 := az_callV (ci := 13) C okX12_violationsOf knX12_violationsOf imX12_violationsOf seX12_violationsOf mLRX12_218 rfl (by decide) ⟨rfl, rfl, by decide, by decide⟩ dX12_violationCount_34 h37
  have h33 := az_iload_n C 1 rfl dX12_violationCount_33 h34
  have h32 := az_aload_n C 0 rfl dX12_violationCount_32 h33
  have h29 := az_callV (ci := 13) C okX12_know knX12_know imX12_know seX12_know mLRX12_137 rfl (by decide) ⟨rfl, rfl, by decide, by decide⟩ dX12_violationCount_29 h32
  have h28 := az_aload_n C 0 rfl dX12_violationCount_28 h29
  have h27 := az_ireturn C rfl dX12_violationCount_27
  have h26 := az_iconst (x := (nI 0)) C dX12_violationCount_26 (by decide +kernel) h27
  have h23 := az_if_le (tgt := 28) C dX12_violationCount_23 (by decide) h28 h26
  have h20 := az_getI (T := TX12) (N := 33) (j := 5) C gwRX12 rfl (by decide) (by decide) iIRX12_5 mFRX12_89 rfl dX12_violationCount_20 h23
  have h19 := az_aload_n C 0 rfl dX12_violationCount_19 h20
  have h16 := az_putI (T := TX12) (N := 33) (j := 5) C gwRX12 rfl (by decide) (by decide) tyX12 tyX12_ok nmX12 iIRX12_5 (by decide +kernel) rfl mFRX12_89 rfl dX12_violationCount_16 h19
  exact h16
def PX12_violationCount (Q : Option Value → az_M → Prop) : az_T := (s_la 0 (s_li 1 (s_ic (nI 0) (s_ic (nI 6) (s_cs 3 FX12_in (s_if c_eq (s_ic (nI 1) (s_kp [true, true] (LX12_violationCount_16 Q))) (s_ic (nI 0) (s_kp [true, true] (LX12_violationCount_16 Q)))))))))
def FX12_violationCount : az_F := az_fun [true, false] 2 PX12_violationCount
theorem okX12_violationCount (l : Launch) : az_met l yX12_violationCount cX12_violationCount 2 (some .int) ({ frames := 8, cells := 0, slots := 0, locals := 257 } : Room) FX12_violationCount := az_met_of (own := RX12) (by decide +kernel) rfl (by decide) (fun X Q C => by
  have h15 := az_iconst (x := (nI 1)) C dX12_violationCount_15 (by decide +kernel) (az_keep [true, true] (okLX12_violationCount_16 C))
  have h12 := az_goto (tgt := 16) C dX12_violationCount_12 (by decide) (az_keep [true, true] (okLX12_violationCount_16 C))
  have h11 := az_iconst (x := (nI 0)) C dX12_violationCount_11 (by decide +kernel) h12
  have h8 := az_if_eq (tgt := 15) C dX12_violationCount_8 (by decide) h15 h11
  have h5 := az_callS C okX12_in knX12_in stX12_in mLRX12_92 ⟨rfl, rfl, by decide, by decide⟩ dX12_violationCount_5 h8
  have h3 := az_bipush (x := (nI 6)) C dX12_violationCount_3 (by decide +kernel) h5
  have h2 := az_iconst (x := (nI 0)) C dX12_violationCount_2 (by decide +kernel) h3
  have h1 := az_iload_n C 1 rfl dX12_violationCount_1 h2
  have h0 := az_aload_n C 0 rfl dX12_violationCount_0 h1
  exact h0) l
theorem dX12_violation_0 : decode cX12_violation 0 = .ok (.aload_n 0, 1) := by decide +kernel
theorem dX12_violation_1 : decode cX12_violation 1 = .ok (.invokevirtual 137, 3) := by decide +kernel
theorem dX12_violation_4 : decode cX12_violation 4 = .ok (.aload_n 0, 1) := by decide +kernel
theorem dX12_violation_5 : decode cX12_violation 5 = .ok (.iload_n 1, 1) := by decide +kernel
theorem dX12_violation_6 : decode cX12_violation 6 = .ok (.iconst 0, 1) := by decide +kernel
theorem dX12_violation_7 : decode cX12_violation 7 = .ok (.aload_n 0, 1) := by decide +kernel
theorem dX12_violation_8 : decode cX12_violation 8 = .ok (.getfield 208, 3) := by decide +kernel
theorem dX12_violation_11 : decode cX12_violation 11 = .ok (.iconst 1, 1) := by decide +kernel
theorem dX12_violation_12 : decode cX12_violation 12 = .ok (.isub, 1) := by decide +kernel
theorem dX12_violation_13 : decode cX12_violation 13 = .ok (.invokestatic 92, 3) := by decide +kernel
theorem dX12_violation_16 : decode cX12_violation 16 = .ok (.ifCond .ne 7, 3) := by decide +kernel
theorem dX12_violation_19 : decode cX12_violation 19 = .ok (.iconst 1, 1) := by decide +kernel
theorem dX12_violation_20 : decode cX12_violation 20 = .ok (.goto 17, 3) := by decide +kernel
theorem dX12_violation_23 : decode cX12_violation 23 = .ok (.iload_n 2, 1) := by decide +kernel
theorem dX12_violation_24 : decode cX12_violation 24 = .ok (.iconst 0, 1) := by decide +kernel
theorem dX12_violation_25 : decode cX12_violation 25 = .ok (.iconst 2, 1) := by decide +kernel
theorem dX12_violation_26 : decode cX12_violation 26 = .ok (.invokestatic 92, 3) := by decide +kernel
theorem dX12_violation_29 : decode cX12_violation 29 = .ok (.ifCond .ne 7, 3) := by decide +kernel
theorem dX12_violation_32 : decode cX12_violation 32 = .ok (.iconst 2, 1) := by decide +kernel
theorem dX12_violation_33 : decode cX12_violation 33 = .ok (.goto 4, 3) := by decide +kernel
theorem dX12_violation_36 : decode cX12_violation 36 = .ok (.iconst 0, 1) := by decide +kernel
theorem dX12_violation_37 : decode cX12_violation 37 = .ok (.putfield 89, 3) := by decide +kernel
theorem dX12_violation_40 : decode cX12_violation 40 = .ok (.aload_n 0, 1) := by decide +kernel
theorem dX12_violation_41 : decode cX12_violation 41 = .ok (.getfield 89, 3) := by decide +kernel
theorem dX12_violation_44 : decode cX12_violation 44 = .ok (.ifCond .le 7, 3) := by decide +kernel
theorem dX12_violation_47 : decode cX12_violation 47 = .ok (.iconst 0, 1) := by decide +kernel
theorem dX12_violation_48 : decode cX12_violation 48 = .ok (.goto 13, 3) := by decide +kernel
theorem dX12_violation_51 : decode cX12_violation 51 = .ok (.aload_n 0, 1) := by decide +kernel
theorem dX12_violation_52 : decode cX12_violation 52 = .ok (.getfield 65, 3) := by decide +kernel
theorem dX12_violation_55 : decode cX12_violation 55 = .ok (.iconst 3, 1) := by decide +kernel
theorem dX12_violation_56 : decode cX12_violation 56 = .ok (.iload_n 1, 1) := by decide +kernel
theorem dX12_violation_57 : decode cX12_violation 57 = .ok (.imul, 1) := by decide +kernel
theorem dX12_violation_58 : decode cX12_violation 58 = .ok (.iload_n 2, 1) := by decide +kernel
theorem dX12_violation_59 : decode cX12_violation 59 = .ok (.iadd, 1) := by decide +kernel
theorem dX12_violation_60 : decode cX12_violation 60 = .ok (.iaload, 1) := by decide +kernel
theorem dX12_violation_61 : decode cX12_violation 61 = .ok (.ireturn, 1) := by decide +kernel
def LX12_violation_61 (Q : Option Value → az_M → Prop) : az_T := (s_ri Q)
theorem okLX12_violation_61 {X : az_X} {Q : Option Value → az_M → Prop} (C : az_C X cX12_violation 3 RX12 (az_ts yX12_violation cX12_violation 3 (some .int)) ({ frames := 8, cells := 0, slots := 0, locals := 257 } : Room) (some .int) Q) : az_ok X 61 (LX12_violation_61 Q) := by
  have h61 := az_ireturn C rfl dX12_violation_61
  exact h61
def LX12_violation_37 (Q : Option Value → az_M → Prop) : az_T := (s_pi 13 5 (s_la 0 (s_gi 13 5 (s_if c_le (s_la 0 (s_gr 13 22 (s_ic (nI 3) (s_li 1 (s_bin f_mul (s_li 2 (s_bin f_add (s_al 20 (s_kp [false, false, false] (LX12_violation_61 Q)))))))))) (s_ic (nI 0) (s_kp [false, false, false] (LX12_violation_61 Q)))))))
theorem okLX12_violation_37 {X : az_X} {Q : Option Value → az_M → Prop} (C : az_C X cX12_violation 3 RX12 (az_ts yX12_violation cX12_violation 3 (some .int)) ({ frames := 8, cells := 0, slots := 0, locals := 257 } : Room) (some .int) Q) : az_ok X 37 (LX12_violation_37 Q) := by
  have h60 := az_iald C dX12_violation_60 (az_keep [false, false, false] (okLX12_violation_61 C))
  have h59 := az_iadd C dX12_violation_59 h60
  have h58 := az_iload_n C 2 rfl dX12_violation_58 h59
  have h57 := az_imul C dX12_violation_57 h58
  have h56 := az_iload_n C 1 rfl dX12_violation_56 h57
  have h55 := az_iconst (x := (nI 3)) C dX12_violation_55 (by decide +kernel) h56
  have h52 := az_getR (T := TX12) (N := 33) (j := 22) C gwRX12 rfl (by decide) (by decide) iIRX12_22 mFRX12_65 rfl dX12_violation_52 h55
  have h51 := az_aload_n C 0 rfl dX12_violation_51 h52
  have h48 := az_goto (tgt := 61) C dX12_violation_48 (by decide) (az_keep [false, false, false] (okLX12_violation_61 C))
  have h47 := az_iconst (x := (nI 0)) C dX12_violation_47 (by decide +kernel) h48
  have h44 := az_if_le (tgt := 51) C dX12_violation_44 (by decide) h51 h47
  have h41 := az_getI (T := TX12) (N := 33) (j := 5) C gwRX12 rfl (by decide) (by decide) iIRX12_5 mFRX12_89 rfl dX12_violation_41 h44
  have h40 := az_aload_n C 0 rfl dX12_violation_40 h41
  have h37 := az_putI (T := TX12) (N := 33) (j := 5) C gwRX12 rfl (by decide) (by decide) tyX12 tyX12_ok nmX12 iIRX12_5 (by decide +kernel) rfl mFRX12_89 rfl dX12_violation_37 h40
  exact h37
def PX12_violation (Q : Option Value → az_M → Prop) : az_T := (s_la 0 (s_cv 0 13 FX12_know (s_la 0 (s_li 1 (s_ic (nI 0) (s_la 0 (s_gi 13 23 (s_ic (nI 1) (s_bin f_sub (s_cs 3 FX12_in (s_if c_ne (s_li 2 (s_ic (nI 0) (s_ic (nI 2) (s_cs 3 FX12_in (s_if c_ne (s_ic (nI 0) (s_kp [true, true, true] (LX12_violation_37 Q))) (s_ic (nI 2) (s_kp [true, true, true] (LX12_violation_37 Q)))))))) (s_ic (nI 1) (s_kp [true, true, true] (LX12_violation_37 Q))))))))))))))
def FX12_violation : az_F := az_fun [true, false, false] 3 PX12_violation
theorem okX12_violation (l : Launch) : az_met l yX12_violation cX12_violation 3 (some .int) ({ frames := 8, cells := 0, slots := 0, locals := 257 } : Room) FX12_violation := az_met_of (own := RX12) (by decide +kernel) rfl (by decide) (fun X Q C => by
  have h36 := az_iconst (x := (nI 0)) C dX12_violation_36 (by decide +kernel) (az_keep [true, true, true] (okLX12_violation_37 C))
  have h33 := az_goto (tgt := 37) C dX12_violation_33 (by decide) (az_keep [true, true, true] (okLX12_violation_37 C))
  have h32 := az_iconst (x := (nI 2)) C dX12_violation_32 (by decide +kernel) h33
  have h29 := az_if_ne (tgt := 36) C dX12_violation_29 (by decide) h36 h32
  have h26 := az_callS C okX12_in knX12_in stX12_in mLRX12_92 ⟨rfl, rfl, by decide, by decide⟩ dX12_violation_26 h29
  have h25 := az_iconst (x := (nI 2)) C dX12_violation_25 (by decide +kernel) h26
  have h24 := az_iconst (x := (nI 0)) C dX12_violation_24 (by decide +kernel) h25
  have h23 := az_iload_n C 2 rfl dX12_violation_23 h24
  have h20 := az_goto (tgt := 37) C dX12_violation_20 (by decide) (az_keep [true, true, true] (okLX12_violation_37 C))
  have h19 := az_iconst (x := (nI 1)) C dX12_violation_19 (by decide +kernel) h20
  have h16 := az_if_ne (tgt := 23) C dX12_violation_16 (by decide) h23 h19
  have h13 := az_callS C okX12_in knX12_in stX12_in mLRX12_92 ⟨rfl, rfl, by decide, by decide⟩ dX12_violation_13 h16
  have h12 := az_isub C dX12_violation_12 h13
  have h11 := az_iconst (x := (nI 1)) C dX12_violation_11 (by decide +kernel) h12
  have h8 := az_getI (T := TX12) (N := 33) (j := 23) C gwRX12 rfl (by decide) (by decide) iIRX12_23 mFRX12_208 rfl dX12_violation_8 h11
  have h7 := az_aload_n C 0 rfl dX12_violation_7 h8
  have h6 := az_iconst (x := (nI 0)) C dX12_violation_6 (by decide +kernel) h7
  have h5 := az_iload_n C 1 rfl dX12_violation_5 h6
  have h4 := az_aload_n C 0 rfl dX12_violation_4 h5
  have h1 := az_callV (ci := 13) C okX12_know knX12_know imX12_know seX12_know mLRX12_137 rfl (by decide) ⟨rfl, rfl, by decide, by decide⟩ dX12_violation_1 h4
  have h0 := az_aload_n C 0 rfl dX12_violation_0 h1
  exact h0) l
theorem dX12_isCheaper_0 : decode cX12_isCheaper 0 = .ok (.aload_n 0, 1) := by decide +kernel
theorem dX12_isCheaper_1 : decode cX12_isCheaper 1 = .ok (.iload_n 1, 1) := by decide +kernel
theorem dX12_isCheaper_2 : decode cX12_isCheaper 2 = .ok (.bipush 12, 2) := by decide +kernel
theorem dX12_isCheaper_4 : decode cX12_isCheaper 4 = .ok (.invokevirtual 128, 3) := by decide +kernel
theorem dX12_isCheaper_7 : decode cX12_isCheaper 7 = .ok (.aload_n 0, 1) := by decide +kernel
theorem dX12_isCheaper_8 : decode cX12_isCheaper 8 = .ok (.iload_n 1, 1) := by decide +kernel
theorem dX12_isCheaper_9 : decode cX12_isCheaper 9 = .ok (.bipush 10, 2) := by decide +kernel
theorem dX12_isCheaper_11 : decode cX12_isCheaper 11 = .ok (.invokevirtual 128, 3) := by decide +kernel
theorem dX12_isCheaper_14 : decode cX12_isCheaper 14 = .ok (.imul, 1) := by decide +kernel
theorem dX12_isCheaper_15 : decode cX12_isCheaper 15 = .ok (.aload_n 0, 1) := by decide +kernel
theorem dX12_isCheaper_16 : decode cX12_isCheaper 16 = .ok (.iload_n 1, 1) := by decide +kernel
theorem dX12_isCheaper_17 : decode cX12_isCheaper 17 = .ok (.iconst 0, 1) := by decide +kernel
theorem dX12_isCheaper_18 : decode cX12_isCheaper 18 = .ok (.invokevirtual 128, 3) := by decide +kernel
theorem dX12_isCheaper_21 : decode cX12_isCheaper 21 = .ok (.iadd, 1) := by decide +kernel
theorem dX12_isCheaper_22 : decode cX12_isCheaper 22 = .ok (.istore_n 3, 1) := by decide +kernel
theorem dX12_isCheaper_23 : decode cX12_isCheaper 23 = .ok (.aload_n 0, 1) := by decide +kernel
theorem dX12_isCheaper_24 : decode cX12_isCheaper 24 = .ok (.iload_n 2, 1) := by decide +kernel
theorem dX12_isCheaper_25 : decode cX12_isCheaper 25 = .ok (.bipush 12, 2) := by decide +kernel
theorem dX12_isCheaper_27 : decode cX12_isCheaper 27 = .ok (.invokevirtual 128, 3) := by decide +kernel
theorem dX12_isCheaper_30 : decode cX12_isCheaper 30 = .ok (.aload_n 0, 1) := by decide +kernel
theorem dX12_isCheaper_31 : decode cX12_isCheaper 31 = .ok (.iload_n 2, 1) := by decide +kernel
theorem dX12_isCheaper_32 : decode cX12_isCheaper 32 = .ok (.bipush 10, 2) := by decide +kernel
theorem dX12_isCheaper_34 : decode cX12_isCheaper 34 = .ok (.invokevirtual 128, 3) := by decide +kernel
theorem dX12_isCheaper_37 : decode cX12_isCheaper 37 = .ok (.imul, 1) := by decide +kernel
theorem dX12_isCheaper_38 : decode cX12_isCheaper 38 = .ok (.aload_n 0, 1) := by decide +kernel
theorem dX12_isCheaper_39 : decode cX12_isCheaper 39 = .ok (.iload_n 2, 1) := by decide +kernel
theorem dX12_isCheaper_40 : decode cX12_isCheaper 40 = .ok (.iconst 0, 1) := by decide +kernel
theorem dX12_isCheaper_41 : decode cX12_isCheaper 41 = .ok (.invokevirtual 128, 3) := by decide +kernel
theorem dX12_isCheaper_44 : decode cX12_isCheaper 44 = .ok (.iadd, 1) := by decide +kernel
theorem dX12_isCheaper_45 : decode cX12_isCheaper 45 = .ok (.istore 4, 2) := by decide +kernel
theorem dX12_isCheaper_47 : decode cX12_isCheaper 47 = .ok (.iload_n 3, 1) := by decide +kernel
theorem dX12_isCheaper_48 : decode cX12_isCheaper 48 = .ok (.aload_n 0, 1) := by decide +kernel
theorem dX12_isCheaper_49 : decode cX12_isCheaper 49 = .ok (.iload_n 2, 1) := by decide +kernel
theorem dX12_isCheaper_50 : decode cX12_isCheaper 50 = .ok (.bipush 10, 2) := by decide +kernel
theorem dX12_isCheaper_52 : decode cX12_isCheaper 52 = .ok (.invokevirtual 128, 3) := by decide +kernel
theorem dX12_isCheaper_55 : decode cX12_isCheaper 55 = .ok (.imul, 1) := by decide +kernel
theorem dX12_isCheaper_56 : decode cX12_isCheaper 56 = .ok (.iload 4, 2) := by decide +kernel
theorem dX12_isCheaper_58 : decode cX12_isCheaper 58 = .ok (.aload_n 0, 1) := by decide +kernel
theorem dX12_isCheaper_59 : decode cX12_isCheaper 59 = .ok (.iload_n 1, 1) := by decide +kernel
theorem dX12_isCheaper_60 : decode cX12_isCheaper 60 = .ok (.bipush 10, 2) := by decide +kernel
theorem dX12_isCheaper_62 : decode cX12_isCheaper 62 = .ok (.invokevirtual 128, 3) := by decide +kernel
theorem dX12_isCheaper_65 : decode cX12_isCheaper 65 = .ok (.imul, 1) := by decide +kernel
theorem dX12_isCheaper_66 : decode cX12_isCheaper 66 = .ok (.if_icmp .ge 7, 3) := by decide +kernel
theorem dX12_isCheaper_69 : decode cX12_isCheaper 69 = .ok (.iconst 1, 1) := by decide +kernel
theorem dX12_isCheaper_70 : decode cX12_isCheaper 70 = .ok (.goto 4, 3) := by decide +kernel
theorem dX12_isCheaper_73 : decode cX12_isCheaper 73 = .ok (.iconst 0, 1) := by decide +kernel
theorem dX12_isCheaper_74 : decode cX12_isCheaper 74 = .ok (.ireturn, 1) := by decide +kernel
def LX12_isCheaper_74 (Q : Option Value → az_M → Prop) : az_T := (s_rz Q)
theorem okLX12_isCheaper_74 {X : az_X} {Q : Option Value → az_M → Prop} (C : az_C X cX12_isCheaper 5 RX12 (az_ts yX12_isCheaper cX12_isCheaper 5 (some .boolean)) ({ frames := 3, cells := 0, slots := 0, locals := 143 } : Room) (some .boolean) Q) : az_ok X 74 (LX12_isCheaper_74 Q) := by
  have h74 := az_zreturn C rfl dX12_isCheaper_74
  exact h74
def PX12_isCheaper (Q : Option Value → az_M → Prop) : az_T := (s_la 0 (s_li 1 (s_ic (nI 12) (s_cv 2 13 FX12_of (s_la 0 (s_li 1 (s_ic (nI 10) (s_cv 2 13 FX12_of (s_bin f_mul (s_la 0 (s_li 1 (s_ic (nI 0) (s_cv 2 13 FX12_of (s_bin f_add (s_si 3 (s_la 0 (s_li 2 (s_ic (nI 12) (s_cv 2 13 FX12_of (s_la 0 (s_li 2 (s_ic (nI 10) (s_cv 2 13 FX12_of (s_bin f_mul (s_la 0 (s_li 2 (s_ic (nI 0) (s_cv 2 13 FX12_of (s_bin f_add (s_si 4 (s_li 3 (s_la 0 (s_li 2 (s_ic (nI 10) (s_cv 2 13 FX12_of (s_bin f_mul (s_li 4 (s_la 0 (s_li 1 (s_ic (nI 10) (s_cv 2 13 FX12_of (s_bin f_mul (s_if2 d_ge (s_ic (nI 0) (s_kp [false, false, false, false, false] (LX12_isCheaper_74 Q))) (s_ic (nI 1) (s_kp [false, false, false, false, false] (LX12_isCheaper_74 Q))))))))))))))))))))))))))))))))))))))))))))))
def FX12_isCheaper : az_F := az_fun [true, false, false] 5 PX12_isCheaper
theorem okX12_isCheaper (l : Launch) : az_met l yX12_isCheaper cX12_isCheaper 5 (some .boolean) ({ frames := 3, cells := 0, slots := 0, locals := 143 } : Room) FX12_isCheaper := az_met_of (own := RX12) (by decide +kernel) rfl (by decide) (fun X Q C => by
  have h73 := az_iconst (x := (nI 0)) C dX12_isCheaper_73 (by decide +kernel) (az_keep [false, false, false, false, false] (okLX12_isCheaper_74 C))
  have h70 := az_goto (tgt := 74) C dX12_isCheaper_70 (by decide) (az_keep [false, false, false, false, false] (okLX12_isCheaper_74 C))
  have h69 := az_iconst (x := (nI 1)) C dX12_isCheaper_69 (by decide +kernel) h70
  have h66 := az_icmp_ge (tgt := 73) C dX12_isCheaper_66 (by decide) h73 h69
  have h65 := az_imul C dX12_isCheaper_65 h66
  have h62 := az_callV (ci := 13) C okX12_of knX12_of imX12_of seX12_of mLRX12_128 rfl (by decide) ⟨rfl, rfl, by decide, by decide⟩ dX12_isCheaper_62 h65
  have h60 := az_bipush (x := (nI 10)) C dX12_isCheaper_60 (by decide +kernel) h62
  have h59 := az_iload_n C 1 rfl dX12_isCheaper_59 h60
  have h58 := az_aload_n C 0 rfl dX12_isCheaper_58 h59
  have h56 := az_iload C dX12_isCheaper_56 h58
  have h55 := az_imul C dX12_isCheaper_55 h56
  have h52 := az_callV (ci := 13) C okX12_of knX12_of imX12_of seX12_of mLRX12_128 rfl (by decide) ⟨rfl, rfl, by decide, by decide⟩ dX12_isCheaper_52 h55
  have h50 := az_bipush (x := (nI 10)) C dX12_isCheaper_50 (by decide +kernel) h52
  have h49 := az_iload_n C 2 rfl dX12_isCheaper_49 h50
  have h48 := az_aload_n C 0 rfl dX12_isCheaper_48 h49
  have h47 := az_iload_n C 3 rfl dX12_isCheaper_47 h48
  have h45 := az_istore C (by decide) dX12_isCheaper_45 h47
  have h44 := az_iadd C dX12_isCheaper_44 h45
  have h41 := az_callV (ci := 13) C okX12_of knX12_of imX12_of seX12_of mLRX12_128 rfl (by decide) ⟨rfl, rfl, by decide, by decide⟩ dX12_isCheaper_41 h44
  have h40 := az_iconst (x := (nI 0)) C dX12_isCheaper_40 (by decide +kernel) h41
  have h39 := az_iload_n C 2 rfl dX12_isCheaper_39 h40
  have h38 := az_aload_n C 0 rfl dX12_isCheaper_38 h39
  have h37 := az_imul C dX12_isCheaper_37 h38
  have h34 := az_callV (ci := 13) C okX12_of knX12_of imX12_of seX12_of mLRX12_128 rfl (by decide) ⟨rfl, rfl, by decide, by decide⟩ dX12_isCheaper_34 h37
  have h32 := az_bipush (x := (nI 10)) C dX12_isCheaper_32 (by decide +kernel) h34
  have h31 := az_iload_n C 2 rfl dX12_isCheaper_31 h32
  have h30 := az_aload_n C 0 rfl dX12_isCheaper_30 h31
  have h27 := az_callV (ci := 13) C okX12_of knX12_of imX12_of seX12_of mLRX12_128 rfl (by decide) ⟨rfl, rfl, by decide, by decide⟩ dX12_isCheaper_27 h30
  have h25 := az_bipush (x := (nI 12)) C dX12_isCheaper_25 (by decide +kernel) h27
  have h24 := az_iload_n C 2 rfl dX12_isCheaper_24 h25
  have h23 := az_aload_n C 0 rfl dX12_isCheaper_23 h24
  have h22 := az_istore_n C 3 rfl (by decide) dX12_isCheaper_22 h23
  have h21 := az_iadd C dX12_isCheaper_21 h22
  have h18 := az_callV (ci := 13) C okX12_of knX12_of imX12_of seX12_of mLRX12_128 rfl (by decide) ⟨rfl, rfl, by decide, by decide⟩ dX12_isCheaper_18 h21
  have h17 := az_iconst (x := (nI 0)) C dX12_isCheaper_17 (by decide +kernel) h18
  have h16 := az_iload_n C 1 rfl dX12_isCheaper_16 h17
  have h15 := az_aload_n C 0 rfl dX12_isCheaper_15 h16
  have h14 := az_imul C dX12_isCheaper_14 h15
  have h11 := az_callV (ci := 13) C okX12_of knX12_of imX12_of seX12_of mLRX12_128 rfl (by decide) ⟨rfl, rfl, by decide, by decide⟩ dX12_isCheaper_11 h14
  have h9 := az_bipush (x := (nI 10)) C dX12_isCheaper_9 (by decide +kernel) h11
  have h8 := az_iload_n C 1 rfl dX12_isCheaper_8 h9
  have h7 := az_aload_n C 0 rfl dX12_isCheaper_7 h8
  have h4 := az_callV (ci := 13) C okX12_of knX12_of imX12_of seX12_of mLRX12_128 rfl (by decide) ⟨rfl, rfl, by decide, by decide⟩ dX12_isCheaper_4 h7
  have h2 := az_bipush (x := (nI 12)) C dX12_isCheaper_2 (by decide +kernel) h4
  have h1 := az_iload_n C 1 rfl dX12_isCheaper_1 h2
  have h0 := az_aload_n C 0 rfl dX12_isCheaper_0 h1
  exact h0) l
theorem dX12_plan_0 : decode cX12_plan 0 = .ok (.aload_n 0, 1) := by decide +kernel
theorem dX12_plan_1 : decode cX12_plan 1 = .ok (.getfield 9, 3) := by decide +kernel
theorem dX12_plan_4 : decode cX12_plan 4 = .ok (.iload_n 1, 1) := by decide +kernel
theorem dX12_plan_5 : decode cX12_plan 5 = .ok (.bipush 13, 2) := by decide +kernel
theorem dX12_plan_7 : decode cX12_plan 7 = .ok (.invokestatic 96, 3) := by decide +kernel
theorem dX12_plan_10 : decode cX12_plan 10 = .ok (.dup2, 1) := by decide +kernel
theorem dX12_plan_11 : decode cX12_plan 11 = .ok (.iaload, 1) := by decide +kernel
theorem dX12_plan_12 : decode cX12_plan 12 = .ok (.iconst 1, 1) := by decide +kernel
theorem dX12_plan_13 : decode cX12_plan 13 = .ok (.iload_n 2, 1) := by decide +kernel
theorem dX12_plan_14 : decode cX12_plan 14 = .ok (.ishl, 1) := by decide +kernel
theorem dX12_plan_15 : decode cX12_plan 15 = .ok (.ior, 1) := by decide +kernel
theorem dX12_plan_16 : decode cX12_plan 16 = .ok (.iastore, 1) := by decide +kernel
theorem dX12_plan_17 : decode cX12_plan 17 = .ok (.aload_n 0, 1) := by decide +kernel
theorem dX12_plan_18 : decode cX12_plan 18 = .ok (.getfield 22, 3) := by decide +kernel
theorem dX12_plan_21 : decode cX12_plan 21 = .ok (.bipush 6, 2) := by decide +kernel
theorem dX12_plan_23 : decode cX12_plan 23 = .ok (.iload_n 2, 1) := by decide +kernel
theorem dX12_plan_24 : decode cX12_plan 24 = .ok (.imul, 1) := by decide +kernel
theorem dX12_plan_25 : decode cX12_plan 25 = .ok (.iload_n 1, 1) := by decide +kernel
theorem dX12_plan_26 : decode cX12_plan 26 = .ok (.iadd, 1) := by decide +kernel
theorem dX12_plan_27 : decode cX12_plan 27 = .ok (.iconst 1, 1) := by decide +kernel
theorem dX12_plan_28 : decode cX12_plan 28 = .ok (.bastore, 1) := by decide +kernel
theorem dX12_plan_29 : decode cX12_plan 29 = .ok (.return_, 1) := by decide +kernel
def PX12_plan (Q : Option Value → az_M → Prop) : az_T := (s_la 0 (s_gr 13 0 (s_li 1 (s_ic (nI 13) (s_cs 2 FX12_at (s_dup2 (s_al 20 (s_ic (nI 1) (s_li 2 (s_bin f_shl (s_bin f_or (s_as (s_la 0 (s_gr 13 8 (s_ic (nI 6) (s_li 2 (s_bin f_mul (s_li 1 (s_bin f_add (s_ic (nI 1) (s_az (s_rv Q))))))))))))))))))))))
def FX12_plan : az_F := az_fun [true, false, false] 3 PX12_plan
theorem okX12_plan (l : Launch) : az_met l yX12_plan cX12_plan 3 none ({ frames := 2, cells := 0, slots := 0, locals := 121 } : Room) FX12_plan := az_met_of (own := RX12) (by decide +kernel) rfl (by decide) (fun X Q C => by
  have h29 := az_vreturn C rfl dX12_plan_29
  have h28 := az_zast C dX12_plan_28 h29
  have h27 := az_iconst (x := (nI 1)) C dX12_plan_27 (by decide +kernel) h28
  have h26 := az_iadd C dX12_plan_26 h27
  have h25 := az_iload_n C 1 rfl dX12_plan_25 h26
  have h24 := az_imul C dX12_plan_24 h25
  have h23 := az_iload_n C 2 rfl dX12_plan_23 h24
  have h21 := az_bipush (x := (nI 6)) C dX12_plan_21 (by decide +kernel) h23
  have h18 := az_getR (T := TX12) (N := 33) (j := 8) C gwRX12 rfl (by decide) (by decide) iIRX12_8 mFRX12_22 rfl dX12_plan_18 h21
  have h17 := az_aload_n C 0 rfl dX12_plan_17 h18
  have h16 := az_iast C dX12_plan_16 h17
  have h15 := az_ior C dX12_plan_15 h16
  have h14 := az_ishl C dX12_plan_14 h15
  have h13 := az_iload_n C 2 rfl dX12_plan_13 h14
  have h12 := az_iconst (x := (nI 1)) C dX12_plan_12 (by decide +kernel) h13
  have h11 := az_iald C dX12_plan_11 h12
  have h10 := az_dup2 C dX12_plan_10 h11
  have h7 := az_callS C okX12_at knX12_at stX12_at mLRX12_96 ⟨rfl, rfl, by decide, by decide⟩ dX12_plan_7 h10
  have h5 := az_bipush (x := (nI 13)) C dX12_plan_5 (by decide +kernel) h7
  have h4 := az_iload_n C 1 rfl dX12_plan_4 h5
  have h1 := az_getR (T := TX12) (N := 33) (j := 0) C gwRX12 rfl (by decide) (by decide) iIRX12_0 mFRX12_9 rfl dX12_plan_1 h4
  have h0 := az_aload_n C 0 rfl dX12_plan_0 h1
  exact h0) l
theorem dX12_planHour_0 : decode cX12_planHour 0 = .ok (.aload_n 0, 1) := by decide +kernel
theorem dX12_planHour_1 : decode cX12_planHour 1 = .ok (.iload_n 1, 1) := by decide +kernel
theorem dX12_planHour_2 : decode cX12_planHour 2 = .ok (.invokevirtual 221, 3) := by decide +kernel
theorem dX12_planHour_5 : decode cX12_planHour 5 = .ok (.aload_n 0, 1) := by decide +kernel
theorem dX12_planHour_6 : decode cX12_planHour 6 = .ok (.getfield 9, 3) := by decide +kernel
theorem dX12_planHour_9 : decode cX12_planHour 9 = .ok (.bipush 101, 2) := by decide +kernel
theorem dX12_planHour_11 : decode cX12_planHour 11 = .ok (.iload_n 1, 1) := by decide +kernel
theorem dX12_planHour_12 : decode cX12_planHour 12 = .ok (.iadd, 1) := by decide +kernel
theorem dX12_planHour_13 : decode cX12_planHour 13 = .ok (.iaload, 1) := by decide +kernel
theorem dX12_planHour_14 : decode cX12_planHour 14 = .ok (.iadd, 1) := by decide +kernel
theorem dX12_planHour_15 : decode cX12_planHour 15 = .ok (.istore_n 2, 1) := by decide +kernel
theorem dX12_planHour_16 : decode cX12_planHour 16 = .ok (.iconst 0, 1) := by decide +kernel
theorem dX12_planHour_17 : decode cX12_planHour 17 = .ok (.istore_n 3, 1) := by decide +kernel
theorem dX12_planHour_18 : decode cX12_planHour 18 = .ok (.iconst 0, 1) := by decide +kernel
theorem dX12_planHour_19 : decode cX12_planHour 19 = .ok (.istore 4, 2) := by decide +kernel
theorem dX12_planHour_21 : decode cX12_planHour 21 = .ok (.iload 4, 2) := by decide +kernel
theorem dX12_planHour_23 : decode cX12_planHour 23 = .ok (.aload_n 0, 1) := by decide +kernel
theorem dX12_planHour_24 : decode cX12_planHour 24 = .ok (.getfield 9, 3) := by decide +kernel
theorem dX12_planHour_27 : decode cX12_planHour 27 = .ok (.iconst 2, 1) := by decide +kernel
theorem dX12_planHour_28 : decode cX12_planHour 28 = .ok (.iaload, 1) := by decide +kernel
theorem dX12_planHour_29 : decode cX12_planHour 29 = .ok (.if_icmp .ge 161, 3) := by decide +kernel
theorem dX12_planHour_32 : decode cX12_planHour 32 = .ok (.bipush 6, 2) := by decide +kernel
theorem dX12_planHour_34 : decode cX12_planHour 34 = .ok (.iload_n 1, 1) := by decide +kernel
theorem dX12_planHour_35 : decode cX12_planHour 35 = .ok (.imul, 1) := by decide +kernel
theorem dX12_planHour_36 : decode cX12_planHour 36 = .ok (.iload 4, 2) := by decide +kernel
theorem dX12_planHour_38 : decode cX12_planHour 38 = .ok (.iadd, 1) := by decide +kernel
theorem dX12_planHour_39 : decode cX12_planHour 39 = .ok (.istore 5, 2) := by decide +kernel
theorem dX12_planHour_41 : decode cX12_planHour 41 = .ok (.aload_n 0, 1) := by decide +kernel
theorem dX12_planHour_42 : decode cX12_planHour 42 = .ok (.getfield 26, 3) := by decide +kernel
theorem dX12_planHour_45 : decode cX12_planHour 45 = .ok (.iload 5, 2) := by decide +kernel
theorem dX12_planHour_47 : decode cX12_planHour 47 = .ok (.aload_n 0, 1) := by decide +kernel
theorem dX12_planHour_48 : decode cX12_planHour 48 = .ok (.iload 4, 2) := by decide +kernel
theorem dX12_planHour_50 : decode cX12_planHour 50 = .ok (.iload_n 1, 1) := by decide +kernel
theorem dX12_planHour_51 : decode cX12_planHour 51 = .ok (.invokevirtual 173, 3) := by decide +kernel
theorem dX12_planHour_54 : decode cX12_planHour 54 = .ok (.bastore, 1) := by decide +kernel
theorem dX12_planHour_55 : decode cX12_planHour 55 = .ok (.aload_n 0, 1) := by decide +kernel
theorem dX12_planHour_56 : decode cX12_planHour 56 = .ok (.getfield 22, 3) := by decide +kernel
theorem dX12_planHour_59 : decode cX12_planHour 59 = .ok (.iload 5, 2) := by decide +kernel
theorem dX12_planHour_61 : decode cX12_planHour 61 = .ok (.iconst 0, 1) := by decide +kernel
theorem dX12_planHour_62 : decode cX12_planHour 62 = .ok (.bastore, 1) := by decide +kernel
theorem dX12_planHour_63 : decode cX12_planHour 63 = .ok (.aload_n 0, 1) := by decide +kernel
theorem dX12_planHour_64 : decode cX12_planHour 64 = .ok (.iload 4, 2) := by decide +kernel
theorem dX12_planHour_66 : decode cX12_planHour 66 = .ok (.iload_n 1, 1) := by decide +kernel
theorem dX12_planHour_67 : decode cX12_planHour 67 = .ok (.invokevirtual 176, 3) := by decide +kernel
theorem dX12_planHour_70 : decode cX12_planHour 70 = .ok (.aload_n 0, 1) := by decide +kernel
theorem dX12_planHour_71 : decode cX12_planHour 71 = .ok (.getfield 26, 3) := by decide +kernel
theorem dX12_planHour_74 : decode cX12_planHour 74 = .ok (.iload 5, 2) := by decide +kernel
theorem dX12_planHour_76 : decode cX12_planHour 76 = .ok (.baload, 1) := by decide +kernel
theorem dX12_planHour_77 : decode cX12_planHour 77 = .ok (.ifCond .eq 48, 3) := by decide +kernel
theorem dX12_planHour_80 : decode cX12_planHour 80 = .ok (.aload_n 0, 1) := by decide +kernel
theorem dX12_planHour_81 : decode cX12_planHour 81 = .ok (.iload 4, 2) := by decide +kernel
theorem dX12_planHour_83 : decode cX12_planHour 83 = .ok (.iload_n 1, 1) := by decide +kernel
theorem dX12_planHour_84 : decode cX12_planHour 84 = .ok (.invokevirtual 157, 3) := by decide +kernel
theorem dX12_planHour_87 : decode cX12_planHour 87 = .ok (.ifCond .eq 38, 3) := by decide +kernel
theorem dX12_planHour_90 : decode cX12_planHour 90 = .ok (.aload_n 0, 1) := by decide +kernel
theorem dX12_planHour_91 : decode cX12_planHour 91 = .ok (.getfield 29, 3) := by decide +kernel
theorem dX12_planHour_94 : decode cX12_planHour 94 = .ok (.iload 5, 2) := by decide +kernel
theorem dX12_planHour_96 : decode cX12_planHour 96 = .ok (.iaload, 1) := by decide +kernel
theorem dX12_planHour_97 : decode cX12_planHour 97 = .ok (.aload_n 0, 1) := by decide +kernel
theorem dX12_planHour_98 : decode cX12_planHour 98 = .ok (.iload 4, 2) := by decide +kernel
theorem dX12_planHour_100 : decode cX12_planHour 100 = .ok (.iconst 4, 1) := by decide +kernel
theorem dX12_planHour_101 : decode cX12_planHour 101 = .ok (.invokevirtual 128, 3) := by decide +kernel
theorem dX12_planHour_104 : decode cX12_planHour 104 = .ok (.if_icmp .ge 21, 3) := by decide +kernel
theorem dX12_planHour_107 : decode cX12_planHour 107 = .ok (.aload_n 0, 1) := by decide +kernel
theorem dX12_planHour_108 : decode cX12_planHour 108 = .ok (.iload 4, 2) := by decide +kernel
theorem dX12_planHour_110 : decode cX12_planHour 110 = .ok (.iload_n 1, 1) := by decide +kernel
theorem dX12_planHour_111 : decode cX12_planHour 111 = .ok (.invokevirtual 224, 3) := by decide +kernel
theorem dX12_planHour_114 : decode cX12_planHour 114 = .ok (.iload_n 3, 1) := by decide +kernel
theorem dX12_planHour_115 : decode cX12_planHour 115 = .ok (.aload_n 0, 1) := by decide +kernel
theorem dX12_planHour_116 : decode cX12_planHour 116 = .ok (.iload 4, 2) := by decide +kernel
theorem dX12_planHour_118 : decode cX12_planHour 118 = .ok (.bipush 10, 2) := by decide +kernel
theorem dX12_planHour_120 : decode cX12_planHour 120 = .ok (.invokevirtual 128, 3) := by decide +kernel
theorem dX12_planHour_123 : decode cX12_planHour 123 = .ok (.iadd, 1) := by decide +kernel
theorem dX12_planHour_124 : decode cX12_planHour 124 = .ok (.istore_n 3, 1) := by decide +kernel
theorem dX12_planHour_125 : decode cX12_planHour 125 = .ok (.aload_n 0, 1) := by decide +kernel
theorem dX12_planHour_126 : decode cX12_planHour 126 = .ok (.getfield 62, 3) := by decide +kernel
theorem dX12_planHour_129 : decode cX12_planHour 129 = .ok (.iload 4, 2) := by decide +kernel
theorem dX12_planHour_131 : decode cX12_planHour 131 = .ok (.aload_n 0, 1) := by decide +kernel
theorem dX12_planHour_132 : decode cX12_planHour 132 = .ok (.getfield 22, 3) := by decide +kernel
theorem dX12_planHour_135 : decode cX12_planHour 135 = .ok (.iload 5, 2) := by decide +kernel
theorem dX12_planHour_137 : decode cX12_planHour 137 = .ok (.baload, 1) := by decide +kernel
theorem dX12_planHour_138 : decode cX12_planHour 138 = .ok (.ifCond .ne 40, 3) := by decide +kernel
theorem dX12_planHour_141 : decode cX12_planHour 141 = .ok (.aload_n 0, 1) := by decide +kernel
theorem dX12_planHour_142 : decode cX12_planHour 142 = .ok (.getfield 26, 3) := by decide +kernel
theorem dX12_planHour_145 : decode cX12_planHour 145 = .ok (.iload 5, 2) := by decide +kernel
theorem dX12_planHour_147 : decode cX12_planHour 147 = .ok (.baload, 1) := by decide +kernel
theorem dX12_planHour_148 : decode cX12_planHour 148 = .ok (.ifCond .eq 30, 3) := by decide +kernel
theorem dX12_planHour_151 : decode cX12_planHour 151 = .ok (.aload_n 0, 1) := by decide +kernel
theorem dX12_planHour_152 : decode cX12_planHour 152 = .ok (.iload 4, 2) := by decide +kernel
theorem dX12_planHour_154 : decode cX12_planHour 154 = .ok (.iload_n 1, 1) := by decide +kernel
theorem dX12_planHour_155 : decode cX12_planHour 155 = .ok (.invokevirtual 157, 3) := by decide +kernel
theorem dX12_planHour_158 : decode cX12_planHour 158 = .ok (.ifCond .ne 24, 3) := by decide +kernel
theorem dX12_planHour_161 : decode cX12_planHour 161 = .ok (.aload_n 0, 1) := by decide +kernel
theorem dX12_planHour_162 : decode cX12_planHour 162 = .ok (.getfield 32, 3) := by decide +kernel
theorem dX12_planHour_165 : decode cX12_planHour 165 = .ok (.iload 5, 2) := by decide +kernel
theorem dX12_planHour_167 : decode cX12_planHour 167 = .ok (.iaload, 1) := by decide +kernel
theorem dX12_planHour_168 : decode cX12_planHour 168 = .ok (.aload_n 0, 1) := by decide +kernel
theorem dX12_planHour_169 : decode cX12_planHour 169 = .ok (.iload 4, 2) := by decide +kernel
theorem dX12_planHour_171 : decode cX12_planHour 171 = .ok (.iconst 5, 1) := by decide +kernel
theorem dX12_planHour_172 : decode cX12_planHour 172 = .ok (.invokevirtual 128, 3) := by decide +kernel
theorem dX12_planHour_175 : decode cX12_planHour 175 = .ok (.if_icmp .ge 7, 3) := by decide +kernel
theorem dX12_planHour_178 : decode cX12_planHour 178 = .ok (.iconst 1, 1) := by decide +kernel
theorem dX12_planHour_179 : decode cX12_planHour 179 = .ok (.goto 4, 3) := by decide +kernel
theorem dX12_planHour_182 : decode cX12_planHour 182 = .ok (.iconst 0, 1) := by decide +kernel
theorem dX12_planHour_183 : decode cX12_planHour 183 = .ok (.bastore, 1) := by decide +kernel
theorem dX12_planHour_184 : decode cX12_planHour 184 = .ok (.iinc 4 1, 3) := by decide +kernel
theorem dX12_planHour_187 : decode cX12_planHour 187 = .ok (.goto (-166), 3) := by decide +kernel
theorem dX12_planHour_190 : decode cX12_planHour 190 = .ok (.iconst 0, 1) := by decide +kernel
theorem dX12_planHour_191 : decode cX12_planHour 191 = .ok (.istore 4, 2) := by decide +kernel
theorem dX12_planHour_193 : decode cX12_planHour 193 = .ok (.iload 4, 2) := by decide +kernel
theorem dX12_planHour_195 : decode cX12_planHour 195 = .ok (.aload_n 0, 1) := by decide +kernel
theorem dX12_planHour_196 : decode cX12_planHour 196 = .ok (.getfield 9, 3) := by decide +kernel
theorem dX12_planHour_199 : decode cX12_planHour 199 = .ok (.iconst 2, 1) := by decide +kernel
theorem dX12_planHour_200 : decode cX12_planHour 200 = .ok (.iaload, 1) := by decide +kernel
theorem dX12_planHour_201 : decode cX12_planHour 201 = .ok (.if_icmp .ge 103, 3) := by decide +kernel
theorem dX12_planHour_204 : decode cX12_planHour 204 = .ok (.iconst (-1), 1) := by decide +kernel
theorem dX12_planHour_205 : decode cX12_planHour 205 = .ok (.istore 5, 2) := by decide +kernel
theorem dX12_planHour_207 : decode cX12_planHour 207 = .ok (.iconst 0, 1) := by decide +kernel
theorem dX12_planHour_208 : decode cX12_planHour 208 = .ok (.istore 6, 2) := by decide +kernel
theorem dX12_planHour_210 : decode cX12_planHour 210 = .ok (.iload 6, 2) := by decide +kernel
theorem dX12_planHour_212 : decode cX12_planHour 212 = .ok (.aload_n 0, 1) := by decide +kernel
theorem dX12_planHour_213 : decode cX12_planHour 213 = .ok (.getfield 9, 3) := by decide +kernel
theorem dX12_planHour_216 : decode cX12_planHour 216 = .ok (.iconst 2, 1) := by decide +kernel
theorem dX12_planHour_217 : decode cX12_planHour 217 = .ok (.iaload, 1) := by decide +kernel
theorem dX12_planHour_218 : decode cX12_planHour 218 = .ok (.if_icmp .ge 44, 3) := by decide +kernel
theorem dX12_planHour_221 : decode cX12_planHour 221 = .ok (.aload_n 0, 1) := by decide +kernel
theorem dX12_planHour_222 : decode cX12_planHour 222 = .ok (.getfield 62, 3) := by decide +kernel
theorem dX12_planHour_225 : decode cX12_planHour 225 = .ok (.iload 6, 2) := by decide +kernel
theorem dX12_planHour_227 : decode cX12_planHour 227 = .ok (.baload, 1) := by decide +kernel
theorem dX12_planHour_228 : decode cX12_planHour 228 = .ok (.ifCond .ne 24, 3) := by decide +kernel
theorem dX12_planHour_231 : decode cX12_planHour 231 = .ok (.iload 5, 2) := by decide +kernel
theorem dX12_planHour_233 : decode cX12_planHour 233 = .ok (.ifCond .lt 14, 3) := by decide +kernel
theorem dX12_planHour_236 : decode cX12_planHour 236 = .ok (.aload_n 0, 1) := by decide +kernel
theorem dX12_planHour_237 : decode cX12_planHour 237 = .ok (.iload 6, 2) := by decide +kernel
theorem dX12_planHour_239 : decode cX12_planHour 239 = .ok (.iload 5, 2) := by decide +kernel
theorem dX12_planHour_241 : decode cX12_planHour 241 = .ok (.invokevirtual 227, 3) := by decide +kernel
theorem dX12_planHour_244 : decode cX12_planHour 244 = .ok (.ifCond .eq 8, 3) := by decide +kernel
theorem dX12_planHour_247 : decode cX12_planHour 247 = .ok (.iload 6, 2) := by decide +kernel
theorem dX12_planHour_249 : decode cX12_planHour 249 = .ok (.goto 5, 3) := by decide +kernel
theorem dX12_planHour_252 : decode cX12_planHour 252 = .ok (.iload 5, 2) := by decide +kernel
theorem dX12_planHour_254 : decode cX12_planHour 254 = .ok (.istore 5, 2) := by decide +kernel
theorem dX12_planHour_256 : decode cX12_planHour 256 = .ok (.iinc 6 1, 3) := by decide +kernel
theorem dX12_planHour_259 : decode cX12_planHour 259 = .ok (.goto (-49), 3) := by decide +kernel
theorem dX12_planHour_262 : decode cX12_planHour 262 = .ok (.iload 5, 2) := by decide +kernel
theorem dX12_planHour_264 : decode cX12_planHour 264 = .ok (.ifCond .lt 34, 3) := by decide +kernel
theorem dX12_planHour_267 : decode cX12_planHour 267 = .ok (.aload_n 0, 1) := by decide +kernel
theorem dX12_planHour_268 : decode cX12_planHour 268 = .ok (.getfield 62, 3) := by decide +kernel
theorem dX12_planHour_271 : decode cX12_planHour 271 = .ok (.iload 5, 2) := by decide +kernel
theorem dX12_planHour_273 : decode cX12_planHour 273 = .ok (.iconst 1, 1) := by decide +kernel
theorem dX12_planHour_274 : decode cX12_planHour 274 = .ok (.bastore, 1) := by decide +kernel
theorem dX12_planHour_275 : decode cX12_planHour 275 = .ok (.iload_n 3, 1) := by decide +kernel
theorem dX12_planHour_276 : decode cX12_planHour 276 = .ok (.iload_n 2, 1) := by decide +kernel
theorem dX12_planHour_277 : decode cX12_planHour 277 = .ok (.if_icmp .ge 21, 3) := by decide +kernel
theorem dX12_planHour_280 : decode cX12_planHour 280 = .ok (.aload_n 0, 1) := by decide +kernel
theorem dX12_planHour_281 : decode cX12_planHour 281 = .ok (.iload 5, 2) := by decide +kernel
theorem dX12_planHour_283 : decode cX12_planHour 283 = .ok (.iload_n 1, 1) := by decide +kernel
theorem dX12_planHour_284 : decode cX12_planHour 284 = .ok (.invokevirtual 224, 3) := by decide +kernel
theorem dX12_planHour_287 : decode cX12_planHour 287 = .ok (.iload_n 3, 1) := by decide +kernel
theorem dX12_planHour_288 : decode cX12_planHour 288 = .ok (.aload_n 0, 1) := by decide +kernel
theorem dX12_planHour_289 : decode cX12_planHour 289 = .ok (.iload 5, 2) := by decide +kernel
theorem dX12_planHour_291 : decode cX12_planHour 291 = .ok (.bipush 10, 2) := by decide +kernel
theorem dX12_planHour_293 : decode cX12_planHour 293 = .ok (.invokevirtual 128, 3) := by decide +kernel
theorem dX12_planHour_296 : decode cX12_planHour 296 = .ok (.iadd, 1) := by decide +kernel
theorem dX12_planHour_297 : decode cX12_planHour 297 = .ok (.istore_n 3, 1) := by decide +kernel
theorem dX12_planHour_298 : decode cX12_planHour 298 = .ok (.iinc 4 1, 3) := by decide +kernel
theorem dX12_planHour_301 : decode cX12_planHour 301 = .ok (.goto (-108), 3) := by decide +kernel
theorem dX12_planHour_304 : decode cX12_planHour 304 = .ok (.return_, 1) := by decide +kernel
def LX12_planHour_298 (Q : Option Value → az_M → Prop) (Z193 : az_T) : az_T := (s_inc 4 (nI 1) (s_kp [true, true, true, true, true, false, false] Z193))
theorem okLX12_planHour_298 {X : az_X} {Q : Option Value → az_M → Prop} (C : az_C X cX12_planHour 7 RX12 (az_ts yX12_planHour cX12_planHour 7 none) ({ frames := 4, cells := 0, slots := 0, locals := 167 } : Room) none Q) {Z193 : az_T} (hZ193 : az_ok X 193 Z193) : az_ok X 298 (LX12_planHour_298 Q Z193) := by
  have h301 := az_goto (tgt := 193) C dX12_planHour_301 (by decide) (az_keep [true, true, true, true, true, false, false] hZ193)
  have h298 := az_iinc (v := (nI 1)) C (by decide) (by decide +kernel) dX12_planHour_298 h301
  exact h298
def LX12_planHour_254 (Q : Option Value → az_M → Prop) (Z193 : az_T) (Z210 : az_T) : az_T := (s_si 5 (s_inc 6 (nI 1) (s_kp [true, true, true, true, true, true, true] Z210)))
theorem okLX12_planHour_254 {X : az_X} {Q : Option Value → az_M → Prop} (C : az_C X cX12_planHour 7 RX12 (az_ts yX12_planHour cX12_planHour 7 none) ({ frames := 4, cells := 0, slots := 0, locals := 167 } : Room) none Q) {Z193 : az_T} (hZ193 : az_ok X 193 Z193) {Z210 : az_T} (hZ210 : az_ok X 210 Z210) : az_ok X 254 (LX12_planHour_254 Q Z193 Z210) := by
  have h259 := az_goto (tgt := 210) C dX12_planHour_259 (by decide) (az_keep [true, true, true, true, true, true, true] hZ210)
  have h256 := az_iinc (v := (nI 1)) C (by decide) (by decide +kernel) dX12_planHour_256 h259
  have h254 := az_istore C (by decide) dX12_planHour_254 h256
  exact h254
def LX12_planHour_252 (Q : Option Value → az_M → Prop) (Z193 : az_T) (Z210 : az_T) : az_T := (s_li 5 (s_kp [true, true, true, true, true, false, true] (LX12_planHour_254 Q Z193 Z210)))
theorem okLX12_planHour_252 {X : az_X} {Q : Option Value → az_M → Prop} (C : az_C X cX12_planHour 7 RX12 (az_ts yX12_planHour cX12_planHour 7 none) ({ frames := 4, cells := 0, slots := 0, locals := 167 } : Room) none Q) {Z193 : az_T} (hZ193 : az_ok X 193 Z193) {Z210 : az_T} (hZ210 : az_ok X 210 Z210) : az_ok X 252 (LX12_planHour_252 Q Z193 Z210) := by
  have h252 := az_iload C dX12_planHour_252 (az_keep [true, true, true, true, true, false, true] (okLX12_planHour_254 C hZ193 hZ210))
  exact h252
def LX12_planHour_247 (Q : Option Value → az_M → Prop) (Z193 : az_T) (Z210 : az_T) : az_T := (s_li 6 (s_kp [true, true, true, true, true, false, true] (LX12_planHour_254 Q Z193 Z210)))
theorem okLX12_planHour_247 {X : az_X} {Q : Option Value → az_M → Prop} (C : az_C X cX12_planHour 7 RX12 (az_ts yX12_planHour cX12_planHour 7 none) ({ frames := 4, cells := 0, slots := 0, locals := 167 } : Room) none Q) {Z193 : az_T} (hZ193 : az_ok X 193 Z193) {Z210 : az_T} (hZ210 : az_ok X 210 Z210) : az_ok X 247 (LX12_planHour_247 Q Z193 Z210) := by
  have h249 := az_goto (tgt := 254) C dX12_planHour_249 (by decide) (az_keep [true, true, true, true, true, false, true] (okLX12_planHour_254 C hZ193 hZ210))
  have h247 := az_iload C dX12_planHour_247 h249
  exact h247
def BX12_planHour_210 (Q : Option Value → az_M → Prop) (Z193 : az_T) (Z210 : az_T) : az_T := (s_li 6 (s_la 0 (s_gr 13 0 (s_ic (nI 2) (s_al 20 (s_if2 d_ge (s_li 5 (s_if c_lt (s_kp [true, true, true, true, true, false, false] (LX12_planHour_298 Q Z193)) (s_la 0 (s_gr 13 21 (s_li 5 (s_ic (nI 1) (s_az (s_li 3 (s_li 2 (s_if2 d_ge (s_kp [true, true, true, true, true, false, false] (LX12_planHour_298 Q Z193)) (s_la 0 (s_li 5 (s_li 1 (s_cv 2 13 FX12_plan (s_li 3 (s_la 0 (s_li 5 (s_ic (nI 10) (s_cv 2 13 FX12_of (s_bin f_add (s_si 3 (s_kp [true, true, true, true, true, false, false] (LX12_planHour_298 Q Z193))))))))))))))))))))))) (s_la 0 (s_gr 13 21 (s_li 6 (s_al 21 (s_if c_ne (s_kp [true, true, true, true, true, true, true] (LX12_planHour_252 Q Z193 Z210)) (s_li 5 (s_if c_lt (s_kp [true, true, true, true, true, false, true] (LX12_planHour_247 Q Z193 Z210)) (s_la 0 (s_li 6 (s_li 5 (s_cv 2 13 FX12_isCheaper (s_if c_eq (s_kp [true, true, true, true, true, true, true] (LX12_planHour_252 Q Z193 Z210)) (s_kp [true, true, true, true, true, false, true] (LX12_planHour_247 Q Z193 Z210))))))))))))))))))))
theorem okBX12_planHour_210 {X : az_X} {Q : Option Value → az_M → Prop} (C : az_C X cX12_planHour 7 RX12 (az_ts yX12_planHour cX12_planHour 7 none) ({ frames := 4, cells := 0, slots := 0, locals := 167 } : Room) none Q) {Z193 : az_T} (hZ193 : az_ok X 193 Z193) {Z210 : az_T} (hZ210 : az_ok X 210 Z210) : az_ok X 210 (BX12_planHour_210 Q Z193 Z210) := by
  have h297 := az_istore_n C 3 rfl (by decide) dX12_planHour_297 (az_keep [true, true, true, true, true, false, false] (okLX12_planHour_298 C hZ193))
  have h296 := az_iadd C dX12_planHour_296 h297
  have h293 := az_callV (ci := 13) C okX12_of knX12_of imX12_of seX12_of mLRX12_128 rfl (by decide) ⟨rfl, rfl, by decide, by decide⟩ dX12_planHour_293 h296
  have h291 := az_bipush (x := (nI 10)) C dX12_planHour_291 (by decide +kernel) h293
  have h289 := az_iload C dX12_planHour_289 h291
  have h288 := az_aload_n C 0 rfl dX12_planHour_288 h289
  have h287 := az_iload_n C 3 rfl dX12_planHour_287 h288
  have h284 := az_callV (ci := 13) C okX12_plan knX12_plan imX12_plan seX12_plan mLRX12_224 rfl (by decide) ⟨rfl, rfl, by decide, by decide⟩ dX12_planHour_284 h287
  have h283 := az_iload_n C 1 rfl dX12_planHour_283 h284
  have h281 := az_iload C dX12_planHour_281 h283
  have h280 := az_aload_n C 0 rfl dX12_planHour_280 h281
  have h277 := az_icmp_ge (tgt := 298) C dX12_planHour_277 (by decide) (az_keep [true, true, true, true, true, false, false] (okLX12_planHour_298 C hZ193)) h280
  have h276 := az_iload_n C 2 rfl dX12_planHour_276 h277
  have h275 := az_iload_n C 3 rfl dX12_planHour_275 h276
  have h274 := az_zast C dX12_planHour_274 h275
  have h273 := az_iconst (x := (nI 1)) C dX12_planHour_273 (by decide +kernel) h274
  have h271 := az_iload C dX12_planHour_271 h273
  have h268 := az_getR (T := TX12) (N := 33) (j := 21) C gwRX12 rfl (by decide) (by decide) iIRX12_21 mFRX12_62 rfl dX12_planHour_268 h271
  have h267 := az_aload_n C 0 rfl dX12_planHour_267 h268
  have h264 := az_if_lt (tgt := 298) C dX12_planHour_264 (by decide) (az_keep [true, true, true, true, true, false, false] (okLX12_planHour_298 C hZ193)) h267
  have h262 := az_iload C dX12_planHour_262 h264
  have h244 := az_if_eq (tgt := 252) C dX12_planHour_244 (by decide) (az_keep [true, true, true, true, true, true, true] (okLX12_planHour_252 C hZ193 hZ210)) (az_keep [true, true, true, true, true, false, true] (okLX12_planHour_247 C hZ193 hZ210))
  have h241 := az_callV (ci := 13) C okX12_isCheaper knX12_isCheaper imX12_isCheaper seX12_isCheaper mLRX12_227 rfl (by decide) ⟨rfl, rfl, by decide, by decide⟩ dX12_planHour_241 h244
  have h239 := az_iload C dX12_planHour_239 h241
  have h237 := az_iload C dX12_planHour_237 h239
  have h236 := az_aload_n C 0 rfl dX12_planHour_236 h237
  have h233 := az_if_lt (tgt := 247) C dX12_planHour_233 (by decide) (az_keep [true, true, true, true, true, false, true] (okLX12_planHour_247 C hZ193 hZ210)) h236
  have h231 := az_iload C dX12_planHour_231 h233
  have h228 := az_if_ne (tgt := 252) C dX12_planHour_228 (by decide) (az_keep [true, true, true, true, true, true, true] (okLX12_planHour_252 C hZ193 hZ210)) h231
  have h227 := az_zald C dX12_planHour_227 h228
  have h225 := az_iload C dX12_planHour_225 h227
  have h222 := az_getR (T := TX12) (N := 33) (j := 21) C gwRX12 rfl (by decide) (by decide) iIRX12_21 mFRX12_62 rfl dX12_planHour_222 h225
  have h221 := az_aload_n C 0 rfl dX12_planHour_221 h222
  have h218 := az_icmp_ge (tgt := 262) C dX12_planHour_218 (by decide) h262 h221
  have h217 := az_iald C dX12_planHour_217 h218
  have h216 := az_iconst (x := (nI 2)) C dX12_planHour_216 (by decide +kernel) h217
  have h213 := az_getR (T := TX12) (N := 33) (j := 0) C gwRX12 rfl (by decide) (by decide) iIRX12_0 mFRX12_9 rfl dX12_planHour_213 h216
  have h212 := az_aload_n C 0 rfl dX12_planHour_212 h213
  have h210 := az_iload C dX12_planHour_210 h212
  exact h210
def LX12_planHour_210 (Q : Option Value → az_M → Prop) (Z193 : az_T) : az_T := s_lp (fun Z => BX12_planHour_210 Q Z193 Z)
theorem okLX12_planHour_210 {X : az_X} {Q : Option Value → az_M → Prop} (C : az_C X cX12_planHour 7 RX12 (az_ts yX12_planHour cX12_planHour 7 none) ({ frames := 4, cells := 0, slots := 0, locals := 167 } : Room) none Q) {Z193 : az_T} (hZ193 : az_ok X 193 Z193) : az_ok X 210 (LX12_planHour_210 Q Z193) := az_loop (F := fun Z => BX12_planHour_210 Q Z193 Z) (fun _ hZ => okBX12_planHour_210 C hZ193 hZ)
def BX12_planHour_193 (Q : Option Value → az_M → Prop) (Z193 : az_T) : az_T := (s_li 4 (s_la 0 (s_gr 13 0 (s_ic (nI 2) (s_al 20 (s_if2 d_ge (s_rv Q) (s_ic (-1) (s_si 5 (s_ic (nI 0) (s_si 6 (s_kp [true, true, true, true, true, true, true] (LX12_planHour_210 Q Z193))))))))))))
theorem okBX12_planHour_193 {X : az_X} {Q : Option Value → az_M → Prop} (C : az_C X cX12_planHour 7 RX12 (az_ts yX12_planHour cX12_planHour 7 none) ({ frames := 4, cells := 0, slots := 0, locals := 167 } : Room) none Q) {Z193 : az_T} (hZ193 : az_ok X 193 Z193) : az_ok X 193 (BX12_planHour_193 Q Z193) := by
  have h304 := az_vreturn C rfl dX12_planHour_304
  have h208 := az_istore C (by decide) dX12_planHour_208 (az_keep [true, true, true, true, true, true, true] (okLX12_planHour_210 C hZ193))
  have h207 := az_iconst (x := (nI 0)) C dX12_planHour_207 (by decide +kernel) h208
  have h205 := az_istore C (by decide) dX12_planHour_205 h207
  have h204 := az_iconst (x := (-1)) C dX12_planHour_204 (by decide +kernel) h205
  have h201 := az_icmp_ge (tgt := 304) C dX12_planHour_201 (by decide) h304 h204
  have h200 := az_iald C dX12_planHour_200 h201
  have h199 := az_iconst (x := (nI 2)) C dX12_planHour_199 (by decide +kernel) h200
  have h196 := az_getR (T := TX12) (N := 33) (j := 0) C gwRX12 rfl (by decide) (by decide) iIRX12_0 mFRX12_9 rfl dX12_planHour_196 h199
  have h195 := az_aload_n C 0 rfl dX12_planHour_195 h196
  have h193 := az_iload C dX12_planHour_193 h195
  exact h193
def LX12_planHour_193 (Q : Option Value → az_M → Prop) : az_T := s_lp (fun Z => BX12_planHour_193 Q Z)
theorem okLX12_planHour_193 {X : az_X} {Q : Option Value → az_M → Prop} (C : az_C X cX12_planHour 7 RX12 (az_ts yX12_planHour cX12_planHour 7 none) ({ frames := 4, cells := 0, slots := 0, locals := 167 } : Room) none Q) : az_ok X 193 (LX12_planHour_193 Q) := az_loop (F := fun Z => BX12_planHour_193 Q Z) (fun _ hZ => okBX12_planHour_193 C hZ)
def LX12_planHour_183 (Q : Option Value → az_M → Prop) (Z21 : az_T) : az_T := (s_az (s_inc 4 (nI 1) (s_kp [true, true, true, true, true, false, false] Z21)))
theorem okLX12_planHour_183 {X : az_X} {Q : Option Value → az_M → Prop} (C : az_C X cX12_planHour 7 RX12 (az_ts yX12_planHour cX12_planHour 7 none) ({ frames := 4, cells := 0, slots := 0, locals := 167 } : Room) none Q) {Z21 : az_T} (hZ21 : az_ok X 21 Z21) : az_ok X 183 (LX12_planHour_183 Q Z21) := by
  have h187 := az_goto (tgt := 21) C dX12_planHour_187 (by decide) (az_keep [true, true, true, true, true, false, false] hZ21)
  have h184 := az_iinc (v := (nI 1)) C (by decide) (by decide +kernel) dX12_planHour_184 h187
  have h183 := az_zast C dX12_planHour_183 h184
  exact h183
def LX12_planHour_178 (Q : Option Value → az_M → Prop) (Z21 : az_T) : az_T := (s_ic (nI 1) (s_kp [true, true, true, true, true, false, false] (LX12_planHour_183 Q Z21)))
theorem okLX12_planHour_178 {X : az_X} {Q : Option Value → az_M → Prop} (C : az_C X cX12_planHour 7 RX12 (az_ts yX12_planHour cX12_planHour 7 none) ({ frames := 4, cells := 0, slots := 0, locals := 167 } : Room) none Q) {Z21 : az_T} (hZ21 : az_ok X 21 Z21) : az_ok X 178 (LX12_planHour_178 Q Z21) := by
  have h179 := az_goto (tgt := 183) C dX12_planHour_179 (by decide) (az_keep [true, true, true, true, true, false, false] (okLX12_planHour_183 C hZ21))
  have h178 := az_iconst (x := (nI 1)) C dX12_planHour_178 (by decide +kernel) h179
  exact h178
def LX12_planHour_182 (Q : Option Value → az_M → Prop) (Z21 : az_T) : az_T := (s_ic (nI 0) (s_kp [true, true, true, true, true, false, false] (LX12_planHour_183 Q Z21)))
theorem okLX12_planHour_182 {X : az_X} {Q : Option Value → az_M → Prop} (C : az_C X cX12_planHour 7 RX12 (az_ts yX12_planHour cX12_planHour 7 none) ({ frames := 4, cells := 0, slots := 0, locals := 167 } : Room) none Q) {Z21 : az_T} (hZ21 : az_ok X 21 Z21) : az_ok X 182 (LX12_planHour_182 Q Z21) := by
  have h182 := az_iconst (x := (nI 0)) C dX12_planHour_182 (by decide +kernel) (az_keep [true, true, true, true, true, false, false] (okLX12_planHour_183 C hZ21))
  exact h182
def LX12_planHour_125 (Q : Option Value → az_M → Prop) (Z21 : az_T) : az_T := (s_la 0 (s_gr 13 21 (s_li 4 (s_la 0 (s_gr 13 8 (s_li 5 (s_al 21 (s_if c_ne (s_kp [true, true, true, true, true, false, false] (LX12_planHour_178 Q Z21)) (s_la 0 (s_gr 13 9 (s_li 5 (s_al 21 (s_if c_eq (s_kp [true, true, true, true, true, false, false] (LX12_planHour_178 Q Z21)) (s_la 0 (s_li 4 (s_li 1 (s_cv 2 13 FX12_ranBefore (s_if c_ne (s_kp [true, true, true, true, true, false, false] (LX12_planHour_182 Q Z21)) (s_la 0 (s_gr 13 11 (s_li 5 (s_al 20 (s_la 0 (s_li 4 (s_ic (nI 5) (s_cv 2 13 FX12_of (s_if2 d_ge (s_kp [true, true, true, true, true, false, false] (LX12_planHour_182 Q Z21)) (s_kp [true, true, true, true, true, false, false] (LX12_planHour_178 Q Z21)))))))))))))))))))))))))))))
theorem okLX12_planHour_125 {X : az_X} {Q : Option Value → az_M → Prop} (C : az_C X cX12_planHour 7 RX12 (az_ts yX12_planHour cX12_planHour 7 none) ({ frames := 4, cells := 0, slots := 0, locals := 167 } : Room) none Q) {Z21 : az_T} (hZ21 : az_ok X 21 Z21) : az_ok X 125 (LX12_planHour_125 Q Z21) := by
  have h175 := az_icmp_ge (tgt := 182) C dX12_planHour_175 (by decide) (az_keep [true, true, true, true, true, false, false] (okLX12_planHour_182 C hZ21)) (az_keep [true, true, true, true, true, false, false] (okLX12_planHour_178 C hZ21))
  have h172 := az_callV (ci := 13) C okX12_of knX12_of imX12_of seX12_of mLRX12_128 rfl (by decide) ⟨rfl, rfl, by decide, by decide⟩ dX12_planHour_172 h175
  have h171 := az_iconst (x := (nI 5)) C dX12_planHour_171 (by decide +kernel) h172
  have h169 := az_iload C dX12_planHour_169 h171
  have h168 := az_aload_n C 0 rfl dX12_planHour_168 h169
  have h167 := az_iald C dX12_planHour_167 h168
  have h165 := az_iload C dX12_planHour_165 h167
  have h162 := az_getR (T := TX12) (N := 33) (j := 11) C gwRX12 rfl (by decide) (by decide) iIRX12_11 mFRX12_32 rfl dX12_planHour_162 h165
  have h161 := az_aload_n C 0 rfl dX12_planHour_161 h162
  have h158 := az_if_ne (tgt := 182) C dX12_planHour_158 (by decide) (az_keep [true, true, true, true, true, false, false] (okLX12_planHour_182 C hZ21)) h161
  have h155 := az_callV (ci := 13) C okX12_ranBefore knX12_ranBefore imX12_ranBefore seX12_ranBefore mLRX12_157 rfl (by decide) ⟨rfl, rfl, by decide, by decide⟩ dX12_planHour_155 h158
  have h154 := az_iload_n C 1 rfl dX12_planHour_154 h155
  have h152 := az_iload C dX12_planHour_152 h154
  have h151 := az_aload_n C 0 rfl dX12_planHour_151 h152
  have h148 := az_if_eq (tgt := 178) C dX12_planHour_148 (by decide) (az_keep [true, true, true, true, true, false, false] (okLX12_planHour_178 C hZ21)) h151
  have h147 := az_zald C dX12_planHour_147 h148
  have h145 := az_iload C dX12_planHour_145 h147
  have h142 := az_getR (T := TX12) (N := 33) (j := 9) C gwRX12 rfl (by decide) (by decide) iIRX12_9 mFRX12_26 rfl dX12_planHour_142 h145
  have h141 := az_aload_n C 0 rfl dX12_planHour_141 h142
  have h138 := az_if_ne (tgt := 178) C dX12_planHour_138 (by decide) (az_keep [true, true, true, true, true, false, false] (okLX12_planHour_178 C hZ21)) h141
  have h137 := az_zald C dX12_planHour_137 h138
  have h135 := az_iload C dX12_planHour_135 h137
  have h132 := az_getR (T := TX12) (N := 33) (j := 8) C gwRX12 rfl (by decide) (by decide) iIRX12_8 mFRX12_22 rfl dX12_planHour_132 h135
  have h131 := az_aload_n C 0 rfl dX12_planHour_131 h132
  have h129 := az_iload C dX12_planHour_129 h131
  have h126 := az_getR (T := TX12) (N := 33) (j := 21) C gwRX12 rfl (by decide) (by decide) iIRX12_21 mFRX12_62 rfl dX12_planHour_126 h129
  have h125 := az_aload_n C 0 rfl dX12_planHour_125 h126
  exact h125
def BX12_planHour_21 (Q : Option Value → az_M → Prop) (Z21 : az_T) : az_T := (s_li 4 (s_la 0 (s_gr 13 0 (s_ic (nI 2) (s_al 20 (s_if2 d_ge (s_ic (nI 0) (s_si 4 (s_kp [true, true, true, true, true, false, false] (LX12_planHour_193 Q)))) (s_ic (nI 6) (s_li 1 (s_bin f_mul (s_li 4 (s_bin f_add (s_si 5 (s_la 0 (s_gr 13 9 (s_li 5 (s_la 0 (s_li 4 (s_li 1 (s_cv 2 13 FX12_isAvailable (s_az (s_la 0 (s_gr 13 8 (s_li 5 (s_ic (nI 0) (s_az (s_la 0 (s_li 4 (s_li 1 (s_cv 2 13 FX12_lookBack (s_la 0 (s_gr 13 9 (s_li 5 (s_al 21 (s_if c_eq (s_kp [true, true, true, true, true, true, false] (LX12_planHour_125 Q Z21)) (s_la 0 (s_li 4 (s_li 1 (s_cv 2 13 FX12_ranBefore (s_if c_eq (s_kp [true, true, true, true, true, true, false] (LX12_planHour_125 Q Z21)) (s_la 0 (s_gr 13 10 (s_li 5 (s_al 20 (s_la 0 (s_li 4 (s_ic (nI 4) (s_cv 2 13 FX12_of (s_if2 d_ge (s_kp [true, true, true, true, true, true, false] (LX12_planHour_125 Q Z21)) (s_la 0 (s_li 4 (s_li 1 (s_cv 2 13 FX12_plan (s_li 3 (s_la 0 (s_li 4 (s_ic (nI 10) (s_cv 2 13 FX12_of (s_bin f_add (s_si 3 (s_kp [true, true, true, true, true, true, false] (LX12_planHour_125 Q Z21)))))))))))))))))))))))))))))))))))))))))))))))))))))))))))))
theorem okBX12_planHour_21 {X : az_X} {Q : Option Value → az_M → Prop} (C : az_C X cX12_planHour 7 RX12 (az_ts yX12_planHour cX12_planHour 7 none) ({ frames := 4, cells := 0, slots := 0, locals := 167 } : Room) none Q) {Z21 : az_T} (hZ21 : az_ok X 21 Z21) : az_ok X 21 (BX12_planHour_21 Q Z21) := by
  have h191 := az_istore C (by decide) dX12_planHour_191 (az_keep [true, true, true, true, true, false, false] (okLX12_planHour_193 C))
  have h190 := az_iconst (x := (nI 0)) C dX12_planHour_190 (by decide +kernel) h191
  have h124 := az_istore_n C 3 rfl (by decide) dX12_planHour_124 (az_keep [true, true, true, true, true, true, false] (okLX12_planHour_125 C hZ21))
  have h123 := az_iadd C dX12_planHour_123 h124
  have h120 := az_callV (ci := 13) C okX12_of knX12_of imX12_of seX12_of mLRX12_128 rfl (by decide) ⟨rfl, rfl, by decide, by decide⟩ dX12_planHour_120 h123
  have h118 := az_bipush (x := (nI 10)) C dX12_planHour_118 (by decide +kernel) h120
  have h116 := az_iload C dX12_planHour_116 h118
  have h115 := az_aload_n C 0 rfl dX12_planHour_115 h116
  have h114 := az_iload_n C 3 rfl dX12_planHour_114 h115
  have h111 := az_callV (ci := 13) C okX12_plan knX12_plan imX12_plan seX12_plan mLRX12_224 rfl (by decide) ⟨rfl, rfl, by decide, by decide⟩ dX12_planHour_111 h114
  have h110 := az_iload_n C 1 rfl dX12_planHour_110 h111
  have h108 := az_iload C dX12_planHour_108 h110
  have h107 := az_aload_n C 0 rfl dX12_planHour_107 h108
  have h104 := az_icmp_ge (tgt := 125) C dX12_planHour_104 (by decide) (az_keep [true, true, true, true, true, true, false] (okLX12_planHour_125 C hZ21)) h107
  have h101 := az_callV (ci := 13) C okX12_of knX12_of imX12_of seX12_of mLRX12_128 rfl (by decide) ⟨rfl, rfl, by decide, by decide⟩ dX12_planHour_101 h104
  have h100 := az_iconst (x := (nI 4)) C dX12_planHour_100 (by decide +kernel) h101
  have h98 := az_iload C dX12_planHour_98 h100
  have h97 := az_aload_n C 0 rfl dX12_planHour_97 h98
  have h96 := az_iald C dX12_planHour_96 h97
  have h94 := az_iload C dX12_planHour_94 h96
  have h91 := az_getR (T := TX12) (N := 33) (j := 10) C gwRX12 rfl (by decide) (by decide) iIRX12_10 mFRX12_29 rfl dX12_planHour_91 h94
  have h90 := az_aload_n C 0 rfl dX12_planHour_90 h91
  have h87 := az_if_eq (tgt := 125) C dX12_planHour_87 (by decide) (az_keep [true, true, true, true, true, true, false] (okLX12_planHour_125 C hZ21)) h90
  have h84 := az_callV (ci := 13) C okX12_ranBefore knX12_ranBefore imX12_ranBefore seX12_ranBefore mLRX12_157 rfl (by decide) ⟨rfl, rfl, by decide, by decide⟩ dX12_planHour_84 h87
  have h83 := az_iload_n C 1 rfl dX12_planHour_83 h84
  have h81 := az_iload C dX12_planHour_81 h83
  have h80 := az_aload_n C 0 rfl dX12_planHour_80 h81
  have h77 := az_if_eq (tgt := 125) C dX12_planHour_77 (by decide) (az_keep [true, true, true, true, true, true, false] (okLX12_planHour_125 C hZ21)) h80
  have h76 := az_zald C dX12_planHour_76 h77
  have h74 := az_iload C dX12_planHour_74 h76
  have h71 := az_getR (T := TX12) (N := 33) (j := 9) C gwRX12 rfl (by decide) (by decide) iIRX12_9 mFRX12_26 rfl dX12_planHour_71 h74
  have h70 := az_aload_n C 0 rfl dX12_planHour_70 h71
  have h67 := az_callV (ci := 13) C okX12_lookBack knX12_lookBack imX12_lookBack seX12_lookBack mLRX12_176 rfl (by decide) ⟨rfl, rfl, by decide, by decide⟩ dX12_planHour_67 h70
  have h66 := az_iload_n C 1 rfl dX12_planHour_66 h67
  have h64 := az_iload C dX12_planHour_64 h66
  have h63 := az_aload_n C 0 rfl dX12_planHour_63 h64
  have h62 := az_zast C dX12_planHour_62 h63
  have h61 := az_iconst (x := (nI 0)) C dX12_planHour_61 (by decide +kernel) h62
  have h59 := az_iload C dX12_planHour_59 h61
  have h56 := az_getR (T := TX12) (N := 33) (j := 8) C gwRX12 rfl (by decide) (by decide) iIRX12_8 mFRX12_22 rfl dX12_planHour_56 h59
  have h55 := az_aload_n C 0 rfl dX12_planHour_55 h56
  have h54 := az_zast C dX12_planHour_54 h55
  have h51 := az_callV (ci := 13) C okX12_isAvailable knX12_isAvailable imX12_isAvailable seX12_isAvailable mLRX12_173 rfl (by decide) ⟨rfl, rfl, by decide, by decide⟩ dX12_planHour_51 h54
  have h50 := az_iload_n C 1 rfl dX12_planHour_50 h51
  have h48 := az_iload C dX12_planHour_48 h50
  have h47 := az_aload_n C 0 rfl dX12_planHour_47 h48
  have h45 := az_iload C dX12_planHour_45 h47
  have h42 := az_getR (T := TX12) (N := 33) (j := 9) C gwRX12 rfl (by decide) (by decide) iIRX12_9 mFRX12_26 rfl dX12_planHour_42 h45
  have h41 := az_aload_n C 0 rfl dX12_planHour_41 h42
  have h39 := az_istore C (by decide) dX12_planHour_39 h41
  have h38 := az_iadd C dX12_planHour_38 h39
  have h36 := az_iload C dX12_planHour_36 h38
  have h35 := az_imul C dX12_planHour_35 h36
  have h34 := az_iload_n C 1 rfl dX12_planHour_34 h35
  have h32 := az_bipush (x := (nI 6)) C dX12_planHour_32 (by decide +kernel) h34
  have h29 := az_icmp_ge (tgt := 190) C dX12_planHour_29 (by decide) h190 h32
  have h28 := az_iald C dX12_planHour_28 h29
  have h27 := az_iconst (x := (nI 2)) C dX12_planHour_27 (by decide +kernel) h28
  have h24 := az_getR (T := TX12) (N := 33) (j := 0) C gwRX12 rfl (by decide) (by decide) iIRX12_0 mFRX12_9 rfl dX12_planHour_24 h27
  have h23 := az_aload_n C 0 rfl dX12_planHour_23 h24
  have h21 := az_iload C dX12_planHour_21 h23
  exact h21
def LX12_planHour_21 (Q : Option Value → az_M → Prop) : az_T := s_lp (fun Z => BX12_planHour_21 Q Z)
theorem okLX12_planHour_21 {X : az_X} {Q : Option Value → az_M → Prop} (C : az_C X cX12_planHour 7 RX12 (az_ts yX12_planHour cX12_planHour 7 none) ({ frames := 4, cells := 0, slots := 0, locals := 167 } : Room) none Q) : az_ok X 21 (LX12_planHour_21 Q) := az_loop (F := fun Z => BX12_planHour_21 Q Z) (fun _ hZ => okBX12_planHour_21 C hZ)
def PX12_planHour (Q : Option Value → az_M → Prop) : az_T := (s_la 0 (s_li 1 (s_cv 1 13 FX12_demandIn (s_la 0 (s_gr 13 0 (s_ic (nI 101) (s_li 1 (s_bin f_add (s_al 20 (s_bin f_add (s_si 2 (s_ic (nI 0) (s_si 3 (s_ic (nI 0) (s_si 4 (s_kp [true, true, true, true, true, false, false] (LX12_planHour_21 Q)))))))))))))))))
def FX12_planHour : az_F := az_fun [true, false] 7 PX12_planHour
theorem okX12_planHour (l : Launch) : az_met l yX12_planHour cX12_planHour 7 none ({ frames := 4, cells := 0, slots := 0, locals := 167 } : Room) FX12_planHour := az_met_of (own := RX12) (by decide +kernel) rfl (by decide) (fun X Q C => by
  have h19 := az_istore C (by decide) dX12_planHour_19 (az_keep [true, true, true, true, true, false, false] (okLX12_planHour_21 C))
  have h18 := az_iconst (x := (nI 0)) C dX12_planHour_18 (by decide +kernel) h19
  have h17 := az_istore_n C 3 rfl (by decide) dX12_planHour_17 h18
  have h16 := az_iconst (x := (nI 0)) C dX12_planHour_16 (by decide +kernel) h17
  have h15 := az_istore_n C 2 rfl (by decide) dX12_planHour_15 h16
  have h14 := az_iadd C dX12_planHour_14 h15
  have h13 := az_iald C dX12_planHour_13 h14
  have h12 := az_iadd C dX12_planHour_12 h13
  have h11 := az_iload_n C 1 rfl dX12_planHour_11 h12
  have h9 := az_bipush (x := (nI 101)) C dX12_planHour_9 (by decide +kernel) h11
  have h6 := az_getR (T := TX12) (N := 33) (j := 0) C gwRX12 rfl (by decide) (by decide) iIRX12_0 mFRX12_9 rfl dX12_planHour_6 h9
  have h5 := az_aload_n C 0 rfl dX12_planHour_5 h6
  have h2 := az_callV (ci := 13) C okX12_demandIn knX12_demandIn imX12_demandIn seX12_demandIn mLRX12_221 rfl (by decide) ⟨rfl, rfl, by decide, by decide⟩ dX12_planHour_2 h5
  have h1 := az_iload_n C 1 rfl dX12_planHour_1 h2
  have h0 := az_aload_n C 0 rfl dX12_planHour_0 h1
  exact h0) l
theorem dX12_planByMerit_0 : decode cX12_planByMerit 0 = .ok (.aload_n 0, 1) := by decide +kernel
theorem dX12_planByMerit_1 : decode cX12_planByMerit 1 = .ok (.iconst 0, 1) := by decide +kernel
theorem dX12_planByMerit_2 : decode cX12_planByMerit 2 = .ok (.putfield 89, 3) := by decide +kernel
theorem dX12_planByMerit_5 : decode cX12_planByMerit 5 = .ok (.aload_n 0, 1) := by decide +kernel
theorem dX12_planByMerit_6 : decode cX12_planByMerit 6 = .ok (.invokevirtual 120, 3) := by decide +kernel
theorem dX12_planByMerit_9 : decode cX12_planByMerit 9 = .ok (.aload_n 0, 1) := by decide +kernel
theorem dX12_planByMerit_10 : decode cX12_planByMerit 10 = .ok (.invokevirtual 154, 3) := by decide +kernel
theorem dX12_planByMerit_13 : decode cX12_planByMerit 13 = .ok (.iconst 0, 1) := by decide +kernel
theorem dX12_planByMerit_14 : decode cX12_planByMerit 14 = .ok (.istore_n 1, 1) := by decide +kernel
theorem dX12_planByMerit_15 : decode cX12_planByMerit 15 = .ok (.iload_n 1, 1) := by decide +kernel
theorem dX12_planByMerit_16 : decode cX12_planByMerit 16 = .ok (.aload_n 0, 1) := by decide +kernel
theorem dX12_planByMerit_17 : decode cX12_planByMerit 17 = .ok (.getfield 9, 3) := by decide +kernel
theorem dX12_planByMerit_20 : decode cX12_planByMerit 20 = .ok (.iconst 2, 1) := by decide +kernel
theorem dX12_planByMerit_21 : decode cX12_planByMerit 21 = .ok (.iaload, 1) := by decide +kernel
theorem dX12_planByMerit_22 : decode cX12_planByMerit 22 = .ok (.if_icmp .ge 34, 3) := by decide +kernel
theorem dX12_planByMerit_25 : decode cX12_planByMerit 25 = .ok (.aload_n 0, 1) := by decide +kernel
theorem dX12_planByMerit_26 : decode cX12_planByMerit 26 = .ok (.getfield 68, 3) := by decide +kernel
theorem dX12_planByMerit_29 : decode cX12_planByMerit 29 = .ok (.iload_n 1, 1) := by decide +kernel
theorem dX12_planByMerit_30 : decode cX12_planByMerit 30 = .ok (.aload_n 0, 1) := by decide +kernel
theorem dX12_planByMerit_31 : decode cX12_planByMerit 31 = .ok (.iload_n 1, 1) := by decide +kernel
theorem dX12_planByMerit_32 : decode cX12_planByMerit 32 = .ok (.bipush 13, 2) := by decide +kernel
theorem dX12_planByMerit_34 : decode cX12_planByMerit 34 = .ok (.invokevirtual 128, 3) := by decide +kernel
theorem dX12_planByMerit_37 : decode cX12_planByMerit 37 = .ok (.iastore, 1) := by decide +kernel
theorem dX12_planByMerit_38 : decode cX12_planByMerit 38 = .ok (.aload_n 0, 1) := by decide +kernel
theorem dX12_planByMerit_39 : decode cX12_planByMerit 39 = .ok (.getfield 9, 3) := by decide +kernel
theorem dX12_planByMerit_42 : decode cX12_planByMerit 42 = .ok (.iload_n 1, 1) := by decide +kernel
theorem dX12_planByMerit_43 : decode cX12_planByMerit 43 = .ok (.bipush 13, 2) := by decide +kernel
theorem dX12_planByMerit_45 : decode cX12_planByMerit 45 = .ok (.invokestatic 96, 3) := by decide +kernel
theorem dX12_planByMerit_48 : decode cX12_planByMerit 48 = .ok (.iconst 0, 1) := by decide +kernel
theorem dX12_planByMerit_49 : decode cX12_planByMerit 49 = .ok (.iastore, 1) := by decide +kernel
theorem dX12_planByMerit_50 : decode cX12_planByMerit 50 = .ok (.iinc 1 1, 3) := by decide +kernel
theorem dX12_planByMerit_53 : decode cX12_planByMerit 53 = .ok (.goto (-38), 3) := by decide +kernel
theorem dX12_planByMerit_56 : decode cX12_planByMerit 56 = .ok (.iconst 0, 1) := by decide +kernel
theorem dX12_planByMerit_57 : decode cX12_planByMerit 57 = .ok (.istore_n 1, 1) := by decide +kernel
theorem dX12_planByMerit_58 : decode cX12_planByMerit 58 = .ok (.iload_n 1, 1) := by decide +kernel
theorem dX12_planByMerit_59 : decode cX12_planByMerit 59 = .ok (.aload_n 0, 1) := by decide +kernel
theorem dX12_planByMerit_60 : decode cX12_planByMerit 60 = .ok (.getfield 9, 3) := by decide +kernel
theorem dX12_planByMerit_63 : decode cX12_planByMerit 63 = .ok (.iconst 0, 1) := by decide +kernel
theorem dX12_planByMerit_64 : decode cX12_planByMerit 64 = .ok (.iaload, 1) := by decide +kernel
theorem dX12_planByMerit_65 : decode cX12_planByMerit 65 = .ok (.if_icmp .ge 14, 3) := by decide +kernel
theorem dX12_planByMerit_68 : decode cX12_planByMerit 68 = .ok (.aload_n 0, 1) := by decide +kernel
theorem dX12_planByMerit_69 : decode cX12_planByMerit 69 = .ok (.iload_n 1, 1) := by decide +kernel
theorem dX12_planByMerit_70 : decode cX12_planByMerit 70 = .ok (.invokevirtual 230, 3) := by decide +kernel
theorem dX12_planByMerit_73 : decode cX12_planByMerit 73 = .ok (.iinc 1 1, 3) := by decide +kernel
theorem dX12_planByMerit_76 : decode cX12_planByMerit 76 = .ok (.goto (-18), 3) := by decide +kernel
theorem dX12_planByMerit_79 : decode cX12_planByMerit 79 = .ok (.iconst 0, 1) := by decide +kernel
theorem dX12_planByMerit_80 : decode cX12_planByMerit 80 = .ok (.istore_n 1, 1) := by decide +kernel
theorem dX12_planByMerit_81 : decode cX12_planByMerit 81 = .ok (.iconst 0, 1) := by decide +kernel
theorem dX12_planByMerit_82 : decode cX12_planByMerit 82 = .ok (.istore_n 2, 1) := by decide +kernel
theorem dX12_planByMerit_83 : decode cX12_planByMerit 83 = .ok (.iload_n 2, 1) := by decide +kernel
theorem dX12_planByMerit_84 : decode cX12_planByMerit 84 = .ok (.aload_n 0, 1) := by decide +kernel
theorem dX12_planByMerit_85 : decode cX12_planByMerit 85 = .ok (.getfield 9, 3) := by decide +kernel
theorem dX12_planByMerit_88 : decode cX12_planByMerit 88 = .ok (.iconst 2, 1) := by decide +kernel
theorem dX12_planByMerit_89 : decode cX12_planByMerit 89 = .ok (.iaload, 1) := by decide +kernel
theorem dX12_planByMerit_90 : decode cX12_planByMerit 90 = .ok (.if_icmp .ge 59, 3) := by decide +kernel
theorem dX12_planByMerit_93 : decode cX12_planByMerit 93 = .ok (.iconst 0, 1) := by decide +kernel
theorem dX12_planByMerit_94 : decode cX12_planByMerit 94 = .ok (.istore_n 3, 1) := by decide +kernel
theorem dX12_planByMerit_95 : decode cX12_planByMerit 95 = .ok (.iload_n 3, 1) := by decide +kernel
theorem dX12_planByMerit_96 : decode cX12_planByMerit 96 = .ok (.aload_n 0, 1) := by decide +kernel
theorem dX12_planByMerit_97 : decode cX12_planByMerit 97 = .ok (.getfield 9, 3) := by decide +kernel
theorem dX12_planByMerit_100 : decode cX12_planByMerit 100 = .ok (.iconst 0, 1) := by decide +kernel
theorem dX12_planByMerit_101 : decode cX12_planByMerit 101 = .ok (.iaload, 1) := by decide +kernel
theorem dX12_planByMerit_102 : decode cX12_planByMerit 102 = .ok (.if_icmp .ge 41, 3) := by decide +kernel
theorem dX12_planByMerit_105 : decode cX12_planByMerit 105 = .ok (.iload_n 1, 1) := by decide +kernel
theorem dX12_planByMerit_106 : decode cX12_planByMerit 106 = .ok (.aload_n 0, 1) := by decide +kernel
theorem dX12_planByMerit_107 : decode cX12_planByMerit 107 = .ok (.getfield 68, 3) := by decide +kernel
theorem dX12_planByMerit_110 : decode cX12_planByMerit 110 = .ok (.iload_n 2, 1) := by decide +kernel
theorem dX12_planByMerit_111 : decode cX12_planByMerit 111 = .ok (.iaload, 1) := by decide +kernel
theorem dX12_planByMerit_112 : decode cX12_planByMerit 112 = .ok (.iload_n 3, 1) := by decide +kernel
theorem dX12_planByMerit_113 : decode cX12_planByMerit 113 = .ok (.ishr, 1) := by decide +kernel
theorem dX12_planByMerit_114 : decode cX12_planByMerit 114 = .ok (.iconst 1, 1) := by decide +kernel
theorem dX12_planByMerit_115 : decode cX12_planByMerit 115 = .ok (.iand, 1) := by decide +kernel
theorem dX12_planByMerit_116 : decode cX12_planByMerit 116 = .ok (.aload_n 0, 1) := by decide +kernel
theorem dX12_planByMerit_117 : decode cX12_planByMerit 117 = .ok (.iload_n 2, 1) := by decide +kernel
theorem dX12_planByMerit_118 : decode cX12_planByMerit 118 = .ok (.bipush 13, 2) := by decide +kernel
theorem dX12_planByMerit_120 : decode cX12_planByMerit 120 = .ok (.invokevirtual 128, 3) := by decide +kernel
theorem dX12_planByMerit_123 : decode cX12_planByMerit 123 = .ok (.iload_n 3, 1) := by decide +kernel
theorem dX12_planByMerit_124 : decode cX12_planByMerit 124 = .ok (.ishr, 1) := by decide +kernel
theorem dX12_planByMerit_125 : decode cX12_planByMerit 125 = .ok (.iconst 1, 1) := by decide +kernel
theorem dX12_planByMerit_126 : decode cX12_planByMerit 126 = .ok (.iand, 1) := by decide +kernel
theorem dX12_planByMerit_127 : decode cX12_planByMerit 127 = .ok (.if_icmp .eq 7, 3) := by decide +kernel
theorem dX12_planByMerit_130 : decode cX12_planByMerit 130 = .ok (.iconst 1, 1) := by decide +kernel
theorem dX12_planByMerit_131 : decode cX12_planByMerit 131 = .ok (.goto 4, 3) := by decide +kernel
theorem dX12_planByMerit_134 : decode cX12_planByMerit 134 = .ok (.iconst 0, 1) := by decide +kernel
theorem dX12_planByMerit_135 : decode cX12_planByMerit 135 = .ok (.iadd, 1) := by decide +kernel
theorem dX12_planByMerit_136 : decode cX12_planByMerit 136 = .ok (.istore_n 1, 1) := by decide +kernel
theorem dX12_planByMerit_137 : decode cX12_planByMerit 137 = .ok (.iinc 3 1, 3) := by decide +kernel
theorem dX12_planByMerit_140 : decode cX12_planByMerit 140 = .ok (.goto (-45), 3) := by decide +kernel
theorem dX12_planByMerit_143 : decode cX12_planByMerit 143 = .ok (.iinc 2 1, 3) := by decide +kernel
theorem dX12_planByMerit_146 : decode cX12_planByMerit 146 = .ok (.goto (-63), 3) := by decide +kernel
theorem dX12_planByMerit_149 : decode cX12_planByMerit 149 = .ok (.iload_n 1, 1) := by decide +kernel
theorem dX12_planByMerit_150 : decode cX12_planByMerit 150 = .ok (.ireturn, 1) := by decide +kernel
def LX12_planByMerit_135 (Q : Option Value → az_M → Prop) (Z83 : az_T) (Z95 : az_T) : az_T := (s_bin f_add (s_si 1 (s_inc 3 (nI 1) (s_kp [true, true, true, true] Z95))))
theorem okLX12_planByMerit_135 {X : az_X} {Q : Option Value → az_M → Prop} (C : az_C X cX12_planByMerit 4 RX12 (az_ts yX12_planByMerit cX12_planByMerit 4 (some .int)) ({ frames := 5, cells := 0, slots := 0, locals := 193 } : Room) (some .int) Q) {Z83 : az_T} (hZ83 : az_ok X 83 Z83) {Z95 : az_T} (hZ95 : az_ok X 95 Z95) : az_ok X 135 (LX12_planByMerit_135 Q Z83 Z95) := by
  have h140 := az_goto (tgt := 95) C dX12_planByMerit_140 (by decide) (az_keep [true, true, true, true] hZ95)
  have h137 := az_iinc (v := (nI 1)) C (by decide) (by decide +kernel) dX12_planByMerit_137 h140
  have h136 := az_istore_n C 1 rfl (by decide) dX12_planByMerit_136 h137
  have h135 := az_iadd C dX12_planByMerit_135 h136
  exact h135
def BX12_planByMerit_95 (Q : Option Value → az_M → Prop) (Z83 : az_T) (Z95 : az_T) : az_T := (s_li 3 (s_la 0 (s_gr 13 0 (s_ic (nI 0) (s_al 20 (s_if2 d_ge (s_inc 2 (nI 1) (s_kp [true, true, true, false] Z83)) (s_li 1 (s_la 0 (s_gr 13 24 (s_li 2 (s_al 20 (s_li 3 (s_bin f_shr (s_ic (nI 1) (s_bin f_and (s_la 0 (s_li 2 (s_ic (nI 13) (s_cv 2 13 FX12_of (s_li 3 (s_bin f_shr (s_ic (nI 1) (s_bin f_and (s_if2 d_eq (s_ic (nI 0) (s_kp [true, false, true, true] (LX12_planByMerit_135 Q Z83 Z95))) (s_ic (nI 1) (s_kp [true, false, true, true] (LX12_planByMerit_135 Q Z83 Z95)))))))))))))))))))))))))))
theorem okBX12_planByMerit_95 {X : az_X} {Q : Option Value → az_M → Prop} (C : az_C X cX12_planByMerit 4 RX12 (az_ts yX12_planByMerit cX12_planByMerit 4 (some .int)) ({ frames := 5, cells := 0, slots := 0, locals := 193 } : Room) (some .int) Q) {Z83 : az_T} (hZ83 : az_ok X 83 Z83) {Z95 : az_T} (hZ95 : az_ok X 95 Z95) : az_ok X 95 (BX12_planByMerit_95 Q Z83 Z95) := by
  have h146 := az_goto (tgt := 83) C dX12_planByMerit_146 (by decide) (az_keep [true, true, true, false] hZ83)
  have h143 := az_iinc (v := (nI 1)) C (by decide) (by decide +kernel) dX12_planByMerit_143 h146
  have h134 := az_iconst (x := (nI 0)) C dX12_planByMerit_134 (by decide +kernel) (az_keep [true, false, true, true] (okLX12_planByMerit_135 C hZ83 hZ95))
  have h131 := az_goto (tgt := 135) C dX12_planByMerit_131 (by decide) (az_keep [true, false, true, true] (okLX12_planByMerit_135 C hZ83 hZ95))
  have h130 := az_iconst (x := (nI 1)) C dX12_planByMerit_130 (by decide +kernel) h131
  have h127 := az_icmp_eq (tgt := 134) C dX12_planByMerit_127 (by decide) h134 h130
  have h126 := az_iand C dX12_planByMerit_126 h127
  have h125 := az_iconst (x := (nI 1)) C dX12_planByMerit_125 (by decide +kernel) h126
  have h124 := az_ishr C dX12_planByMerit_124 h125
  have h123 := az_iload_n C 3 rfl dX12_planByMerit_123 h124
  have h120 := az_callV (ci := 13) C okX12_of knX12_of imX12_of seX12_of mLRX12_128 rfl (by decide) ⟨rfl, rfl, by decide, by decide⟩ dX12_planByMerit_120 h123
  have h118 := az_bipush (x := (nI 13)) C dX12_planByMerit_118 (by decide +kernel) h120
  have h117 := az_iload_n C 2 rfl dX12_planByMerit_117 h118
  have h116 := az_aload_n C 0 rfl dX12_planByMerit_116 h117
  have h115 := az_iand C dX12_planByMerit_115 h116
  have h114 := az_iconst (x := (nI 1)) C dX12_planByMerit_114 (by decide +kernel) h115
  have h113 := az_ishr C dX12_planByMerit_113 h114
  have h112 := az_iload_n C 3 rfl dX12_planByMerit_112 h113
  have h111 := az_iald C dX12_planByMerit_111 h112
  have h110 := az_iload_n C 2 rfl dX12_planByMerit_110 h111
  have h107 := az_getR (T := TX12) (N := 33) (j := 24) C gwRX12 rfl (by decide) (by decide) iIRX12_24 mFRX12_68 rfl dX12_planByMerit_107 h110
  have h106 := az_aload_n C 0 rfl dX12_planByMerit_106 h107
  have h105 := az_iload_n C 1 rfl dX12_planByMerit_105 h106
  have h102 := az_icmp_ge (tgt := 143) C dX12_planByMerit_102 (by decide) h143 h105
  have h101 := az_iald C dX12_planByMerit_101 h102
  have h100 := az_iconst (x := (nI 0)) C dX12_planByMerit_100 (by decide +kernel) h101
  have h97 := az_getR (T := TX12) (N := 33) (j := 0) C gwRX12 rfl (by decide) (by decide) iIRX12_0 mFRX12_9 rfl dX12_planByMerit_97 h100
  have h96 := az_aload_n C 0 rfl dX12_planByMerit_96 h97
  have h95 := az_iload_n C 3 rfl dX12_planByMerit_95 h96
  exact h95
def LX12_planByMerit_95 (Q : Option Value → az_M → Prop) (Z83 : az_T) : az_T := s_lp (fun Z => BX12_planByMerit_95 Q Z83 Z)
theorem okLX12_planByMerit_95 {X : az_X} {Q : Option Value → az_M → Prop} (C : az_C X cX12_planByMerit 4 RX12 (az_ts yX12_planByMerit cX12_planByMerit 4 (some .int)) ({ frames := 5, cells := 0, slots := 0, locals := 193 } : Room) (some .int) Q) {Z83 : az_T} (hZ83 : az_ok X 83 Z83) : az_ok X 95 (LX12_planByMerit_95 Q Z83) := az_loop (F := fun Z => BX12_planByMerit_95 Q Z83 Z) (fun _ hZ => okBX12_planByMerit_95 C hZ83 hZ)
def BX12_planByMerit_83 (Q : Option Value → az_M → Prop) (Z83 : az_T) : az_T := (s_li 2 (s_la 0 (s_gr 13 0 (s_ic (nI 2) (s_al 20 (s_if2 d_ge (s_li 1 (s_ri Q)) (s_ic (nI 0) (s_si 3 (s_kp [true, true, true, true] (LX12_planByMerit_95 Q Z83))))))))))
theorem okBX12_planByMerit_83 {X : az_X} {Q : Option Value → az_M → Prop} (C : az_C X cX12_planByMerit 4 RX12 (az_ts yX12_planByMerit cX12_planByMerit 4 (some .int)) ({ frames := 5, cells := 0, slots := 0, locals := 193 } : Room) (some .int) Q) {Z83 : az_T} (hZ83 : az_ok X 83 Z83) : az_ok X 83 (BX12_planByMerit_83 Q Z83) := by
  have h150 := az_ireturn C rfl dX12_planByMerit_150
  have h149 := az_iload_n C 1 rfl dX12_planByMerit_149 h150
  have h94 := az_istore_n C 3 rfl (by decide) dX12_planByMerit_94 (az_keep [true, true, true, true] (okLX12_planByMerit_95 C hZ83))
  have h93 := az_iconst (x := (nI 0)) C dX12_planByMerit_93 (by decide +kernel) h94
  have h90 := az_icmp_ge (tgt := 149) C dX12_planByMerit_90 (by decide) h149 h93
  have h89 := az_iald C dX12_planByMerit_89 h90
  have h88 := az_iconst (x := (nI 2)) C dX12_planByMerit_88 (by decide +kernel) h89
  have h85 := az_getR (T := TX12) (N := 33) (j := 0) C gwRX12 rfl (by decide) (by decide) iIRX12_0 mFRX12_9 rfl dX12_planByMerit_85 h88
  have h84 := az_aload_n C 0 rfl dX12_planByMerit_84 h85
  have h83 := az_iload_n C 2 rfl dX12_planByMerit_83 h84
  exact h83
def LX12_planByMerit_83 (Q : Option Value → az_M → Prop) : az_T := s_lp (fun Z => BX12_planByMerit_83 Q Z)
theorem okLX12_planByMerit_83 {X : az_X} {Q : Option Value → az_M → Prop} (C : az_C X cX12_planByMerit 4 RX12 (az_ts yX12_planByMerit cX12_planByMerit 4 (some .int)) ({ frames := 5, cells := 0, slots := 0, locals := 193 } : Room) (some .int) Q) : az_ok X 83 (LX12_planByMerit_83 Q) := az_loop (F := fun Z => BX12_planByMerit_83 Q Z) (fun _ hZ => okBX12_planByMerit_83 C hZ)
def BX12_planByMerit_58 (Q : Option Value → az_M → Prop) (Z58 : az_T) : az_T := (s_li 1 (s_la 0 (s_gr 13 0 (s_ic (nI 0) (s_al 20 (s_if2 d_ge (s_ic (nI 0) (s_si 1 (s_ic (nI 0) (s_si 2 (s_kp [true, true, true, false] (LX12_planByMerit_83 Q)))))) (s_la 0 (s_li 1 (s_cv 1 13 FX12_planHour (s_inc 1 (nI 1) (s_kp [true, true, false, false] Z58)))))))))))
theorem okBX12_planByMerit_58 {X : az_X} {Q : Option Value → az_M → Prop} (C : az_C X cX12_planByMerit 4 RX12 (az_ts yX12_planByMerit cX12_planByMerit 4 (some .int)) ({ frames := 5, cells := 0, slots := 0, locals := 193 } : Room) (some .int) Q) {Z58 : az_T} (hZ58 : az_ok X 58 Z58) : az_ok X 58 (BX12_planByMerit_58 Q Z58) := by
  have h82 := az_istore_n C 2 rfl (by decide) dX12_planByMerit_82 (az_keep [true, true, true, false] (okLX12_planByMerit_83 C))
  have h81 := az_iconst (x := (nI 0)) C dX12_planByMerit_81 (by decide +kernel) h82
  have h80 := az_istore_n C 1 rfl (by decide) dX12_planByMerit_80 h81
  have h79 := az_iconst (x := (nI 0)) C dX12_planByMerit_79 (by decide +kernel) h80
  have h76 := az_goto (tgt := 58) C dX12_planByMerit_76 (by decide) (az_keep [true, true, false, false] hZ58)
  have h73 := az_iinc (v := (nI 1)) C (by decide) (by decide +kernel) dX12_planByMerit_73 h76
  have h70 := az_callV (ci := 13) C okX12_planHour knX12_planHour imX12_planHour seX12_planHour mLRX12_230 rfl (by decide) ⟨rfl, rfl, by decide, by decide⟩ dX12_planByMerit_70 h73
  have h69 := az_iload_n C 1 rfl dX12_planByMerit_69 h70
  have h68 := az_aload_n C 0 rfl dX12_planByMerit_68 h69
  have h65 := az_icmp_ge (tgt := 79) C dX12_planByMerit_65 (by decide) h79 h68
  have h64 := az_iald C dX12_planByMerit_64 h65
  have h63 := az_iconst (x := (nI 0)) C dX12_planByMerit_63 (by decide +kernel) h64
  have h60 := az_getR (T := TX12) (N := 33) (j := 0) C gwRX12 rfl (by decide) (by decide) iIRX12_0 mFRX12_9 rfl dX12_planByMerit_60 h63
  have h59 := az_aload_n C 0 rfl dX12_planByMerit_59 h60
  have h58 := az_iload_n C 1 rfl dX12_planByMerit_58 h59
  exact h58
def LX12_planByMerit_58 (Q : Option Value → az_M → Prop) : az_T := s_lp (fun Z => BX12_planByMerit_58 Q Z)
theorem okLX12_planByMerit_58 {X : az_X} {Q : Option Value → az_M → Prop} (C : az_C X cX12_planByMerit 4 RX12 (az_ts yX12_planByMerit cX12_planByMerit 4 (some .int)) ({ frames := 5, cells := 0, slots := 0, locals := 193 } : Room) (some .int) Q) : az_ok X 58 (LX12_planByMerit_58 Q) := az_loop (F := fun Z => BX12_planByMerit_58 Q Z) (fun _ hZ => okBX12_planByMerit_58 C hZ)
def BX12_planByMerit_15 (Q : Option Value → az_M → Prop) (Z15 : az_T) : az_T := (s_li 1 (s_la 0 (s_gr 13 0 (s_ic (nI 2) (s_al 20 (s_if2 d_ge (s_ic (nI 0) (s_si 1 (s_kp [true, true, false, false] (LX12_planByMerit_58 Q)))) (s_la 0 (s_gr 13 24 (s_li 1 (s_la 0 (s_li 1 (s_ic (nI 13) (s_cv 2 13 FX12_of (s_as (s_la 0 (s_gr 13 0 (s_li 1 (s_ic (nI 13) (s_cs 2 FX12_at (s_ic (nI 0) (s_as (s_inc 1 (nI 1) (s_kp [true, true, false, false] Z15)))))))))))))))))))))))
theorem okBX12_planByMerit_15 {X : az_X} {Q : Option Value → az_M → Prop} (C : az_C X cX12_planByMerit 4 RX12 (az_ts yX12_planByMerit cX12_planByMerit 4 (some .int)) ({ frames := 5, cells := 0, slots := 0, locals := 193 } : Room) (some .int) Q) {Z15 : az_T} (hZ15 : az_ok X 15 Z15) : az_ok X 15 (BX12_planByMerit_15 Q Z15) := by
  have h57 := az_istore_n C 1 rfl (by decide) dX12_planByMerit_57 (az_keep [true, true, false, false] (okLX12_planByMerit_58 C))
  have h56 := az_iconst (x := (nI 0)) C dX12_planByMerit_56 (by decide +kernel) h57
  have h53 := az_goto (tgt := 15) C dX12_planByMerit_53 (by decide) (az_keep [true, true, false, false] hZ15)
  have h50 := az_iinc (v := (nI 1)) C (by decide) (by decide +kernel) dX12_planByMerit_50 h53
  have h49 := az_iast C dX12_planByMerit_49 h50
  have h48 := az_iconst (x := (nI 0)) C dX12_planByMerit_48 (by decide +kernel) h49
  have h45 := az_callS C okX12_at knX12_at stX12_at mLRX12_96 ⟨rfl, rfl, by decide, by decide⟩ dX12_planByMerit_45 h48
  have h43 := az_bipush (x := (nI 13)) C dX12_planByMerit_43 (by decide +kernel) h45
  have h42 := az_iload_n C 1 rfl dX12_planByMerit_42 h43
  have h39 := az_getR (T := TX12) (N := 33) (j := 0) C gwRX12 rfl (by decide) (by decide) iIRX12_0 mFRX12_9 rfl dX12_planByMerit_39 h42
  have h38 := az_aload_n C 0 rfl dX12_planByMerit_38 h39
  have h37 := az_iast C dX12_planByMerit_37 h38
  have h34 := az_callV (ci := 13) C okX12_of knX12_of imX12_of seX12_of mLRX12_128 rfl (by decide) ⟨rfl, rfl, by decide, by decide⟩ dX12_planByMerit_34 h37
  have h32 := az_bipush (x := (nI 13)) C dX12_planByMerit_32 (by decide +kernel) h34
  have h31 := az_iload_n C 1 rfl dX12_planByMerit_31 h32
  have h30 := az_aload_n C 0 rfl dX12_planByMerit_30 h31
  have h29 := az_iload_n C 1 rfl dX12_planByMerit_29 h30
  have h26 := az_getR (T := TX12) (N := 33) (j := 24) C gwRX12 rfl (by decide) (by decide) iIRX12_24 mFRX12_68 rfl dX12_planByMerit_26 h29
  have h25 := az_aload_n C 0 rfl dX12_planByMerit_25 h26
  have h22 := az_icmp_ge (tgt := 56) C dX12_planByMerit_22 (by decide) h56 h25
  have h21 := az_iald C dX12_planByMerit_21 h22
  have h20 := az_iconst (x := (nI 2)) C dX12_planByMerit_20 (by decide +kernel) h21
  have h17 := az_getR (T := TX12) (N := 33) (j := 0) C gwRX12 rfl (by decide) (by decide) iIRX12_0 mFRX12_9 rfl dX12_planByMerit_17 h20
  have h16 := az_aload_n C 0 rfl dX12_planByMerit_16 h17
  have h15 := az_iload_n C 1 rfl dX12_planByMerit_15 h16
  exact h15
def LX12_planByMerit_15 (Q : Option Value → az_M → Prop) : az_T := s_lp (fun Z => BX12_planByMerit_15 Q Z)
theorem okLX12_planByMerit_15 {X : az_X} {Q : Option Value → az_M → Prop} (C : az_C X cX12_planByMerit 4 RX12 (az_ts yX12_planByMerit cX12_planByMerit 4 (some .int)) ({ frames := 5, cells := 0, slots := 0, locals := 193 } : Room) (some .int) Q) : az_ok X 15 (LX12_planByMerit_15 Q) := az_loop (F := fun Z => BX12_planByMerit_15 Q Z) (fun _ hZ => okBX12_planByMerit_15 C hZ)
def PX12_planByMerit (Q : Option Value → az_M → Prop) : az_T := (s_la 0 (s_ic (nI 0) (s_pi 13 5 (s_la 0 (s_cv 0 13 FX12_change (s_la 0 (s_cv 0 13 FX12_repair (s_ic (nI 0) (s_si 1 (s_kp [true, true, false, false] (LX12_planByMerit_15 Q)))))))))))
def FX12_planByMerit : az_F := az_fun [true] 4 PX12_planByMerit
theorem okX12_planByMerit (l : Launch) : az_met l yX12_planByMerit cX12_planByMerit 4 (some .int) ({ frames := 5, cells := 0, slots := 0, locals := 193 } : Room) FX12_planByMerit := az_met_of (own := RX12) (by decide +kernel) rfl (by decide) (fun X Q C => by
  have h14 := az_istore_n C 1 rfl (by decide) dX12_planByMerit_14 (az_keep [true, true, false, false] (okLX12_planByMerit_15 C))
  have h13 := az_iconst (x := (nI 0)) C dX12_planByMerit_13 (by decide +kernel) h14
  have h10 := az_callV (ci := 13) C okX12_repair knX12_repair imX12_repair seX12_repair mLRX12_154 rfl (by decide) ⟨rfl, rfl, by decide, by decide⟩ dX12_planByMerit_10 h13
  have h9 := az_aload_n C 0 rfl dX12_planByMerit_9 h10
  have h6 := az_callV (ci := 13) C okX12_change knX12_change imX12_change seX12_change mLRX12_120 rfl (by decide) ⟨rfl, rfl, by decide, by decide⟩ dX12_planByMerit_6 h9
  have h5 := az_aload_n C 0 rfl dX12_planByMerit_5 h6
  have h2 := az_putI (T := TX12) (N := 33) (j := 5) C gwRX12 rfl (by decide) (by decide) tyX12 tyX12_ok nmX12 iIRX12_5 (by decide +kernel) rfl mFRX12_89 rfl dX12_planByMerit_2 h5
  have h1 := az_iconst (x := (nI 0)) C dX12_planByMerit_1 (by decide +kernel) h2
  have h0 := az_aload_n C 0 rfl dX12_planByMerit_0 h1
  exact h0) l
theorem dX12_takePlans_0 : decode cX12_takePlans 0 = .ok (.aload_n 0, 1) := by decide +kernel
theorem dX12_takePlans_1 : decode cX12_takePlans 1 = .ok (.getfield 9, 3) := by decide +kernel
theorem dX12_takePlans_4 : decode cX12_takePlans 4 = .ok (.iconst 0, 1) := by decide +kernel
theorem dX12_takePlans_5 : decode cX12_takePlans 5 = .ok (.iaload, 1) := by decide +kernel
theorem dX12_takePlans_6 : decode cX12_takePlans 6 = .ok (.istore_n 2, 1) := by decide +kernel
theorem dX12_takePlans_7 : decode cX12_takePlans 7 = .ok (.iconst 0, 1) := by decide +kernel
theorem dX12_takePlans_8 : decode cX12_takePlans 8 = .ok (.istore_n 3, 1) := by decide +kernel
theorem dX12_takePlans_9 : decode cX12_takePlans 9 = .ok (.iload_n 3, 1) := by decide +kernel
theorem dX12_takePlans_10 : decode cX12_takePlans 10 = .ok (.aload_n 0, 1) := by decide +kernel
theorem dX12_takePlans_11 : decode cX12_takePlans 11 = .ok (.getfield 9, 3) := by decide +kernel
theorem dX12_takePlans_14 : decode cX12_takePlans 14 = .ok (.iconst 2, 1) := by decide +kernel
theorem dX12_takePlans_15 : decode cX12_takePlans 15 = .ok (.iaload, 1) := by decide +kernel
theorem dX12_takePlans_16 : decode cX12_takePlans 16 = .ok (.if_icmp .ge 31, 3) := by decide +kernel
theorem dX12_takePlans_19 : decode cX12_takePlans 19 = .ok (.aload_n 0, 1) := by decide +kernel
theorem dX12_takePlans_20 : decode cX12_takePlans 20 = .ok (.getfield 9, 3) := by decide +kernel
theorem dX12_takePlans_23 : decode cX12_takePlans 23 = .ok (.iload_n 3, 1) := by decide +kernel
theorem dX12_takePlans_24 : decode cX12_takePlans 24 = .ok (.bipush 13, 2) := by decide +kernel
theorem dX12_takePlans_26 : decode cX12_takePlans 26 = .ok (.invokestatic 96, 3) := by decide +kernel
theorem dX12_takePlans_29 : decode cX12_takePlans 29 = .ok (.iload_n 1, 1) := by decide +kernel
theorem dX12_takePlans_30 : decode cX12_takePlans 30 = .ok (.iload_n 3, 1) := by decide +kernel
theorem dX12_takePlans_31 : decode cX12_takePlans 31 = .ok (.iload_n 2, 1) := by decide +kernel
theorem dX12_takePlans_32 : decode cX12_takePlans 32 = .ok (.imul, 1) := by decide +kernel
theorem dX12_takePlans_33 : decode cX12_takePlans 33 = .ok (.ishr, 1) := by decide +kernel
theorem dX12_takePlans_34 : decode cX12_takePlans 34 = .ok (.iconst 1, 1) := by decide +kernel
theorem dX12_takePlans_35 : decode cX12_takePlans 35 = .ok (.iload_n 2, 1) := by decide +kernel
theorem dX12_takePlans_36 : decode cX12_takePlans 36 = .ok (.ishl, 1) := by decide +kernel
theorem dX12_takePlans_37 : decode cX12_takePlans 37 = .ok (.iconst 1, 1) := by decide +kernel
theorem dX12_takePlans_38 : decode cX12_takePlans 38 = .ok (.isub, 1) := by decide +kernel
theorem dX12_takePlans_39 : decode cX12_takePlans 39 = .ok (.iand, 1) := by decide +kernel
theorem dX12_takePlans_40 : decode cX12_takePlans 40 = .ok (.iastore, 1) := by decide +kernel
theorem dX12_takePlans_41 : decode cX12_takePlans 41 = .ok (.iinc 3 1, 3) := by decide +kernel
theorem dX12_takePlans_44 : decode cX12_takePlans 44 = .ok (.goto (-35), 3) := by decide +kernel
theorem dX12_takePlans_47 : decode cX12_takePlans 47 = .ok (.return_, 1) := by decide +kernel
def BX12_takePlans_9 (Q : Option Value → az_M → Prop) (Z9 : az_T) : az_T := (s_li 3 (s_la 0 (s_gr 13 0 (s_ic (nI 2) (s_al 20 (s_if2 d_ge (s_rv Q) (s_la 0 (s_gr 13 0 (s_li 3 (s_ic (nI 13) (s_cs 2 FX12_at (s_li 1 (s_li 3 (s_li 2 (s_bin f_mul (s_bin f_shr (s_ic (nI 1) (s_li 2 (s_bin f_shl (s_ic (nI 1) (s_bin f_sub (s_bin f_and (s_as (s_inc 3 (nI 1) (s_kp [true, true, true, true] Z9)))))))))))))))))))))))))
theorem okBX12_takePlans_9 {X : az_X} {Q : Option Value → az_M → Prop} (C : az_C X cX12_takePlans 4 RX12 (az_ts yX12_takePlans cX12_takePlans 4 none) ({ frames := 2, cells := 0, slots := 0, locals := 121 } : Room) none Q) {Z9 : az_T} (hZ9 : az_ok X 9 Z9) : az_ok X 9 (BX12_takePlans_9 Q Z9) := by
  have h47 := az_vreturn C rfl dX12_takePlans_47
  have h44 := az_goto (tgt := 9) C dX12_takePlans_44 (by decide) (az_keep [true, true, true, true] hZ9)
  have h41 := az_iinc (v := (nI 1)) C (by decide) (by decide +kernel) dX12_takePlans_41 h44
  have h40 := az_iast C dX12_takePlans_40 h41
  have h39 := az_iand C dX12_takePlans_39 h40
  have h38 := az_isub C dX12_takePlans_38 h39
  have h37 := az_iconst (x := (nI 1)) C dX12_takePlans_37 (by decide +kernel) h38
  have h36 := az_ishl C dX12_takePlans_36 h37
  have h35 := az_iload_n C 2 rfl dX12_takePlans_35 h36
  have h34 := az_iconst (x := (nI 1)) C dX12_takePlans_34 (by decide +kernel) h35
  have h33 := az_ishr C dX12_takePlans_33 h34
  have h32 := az_imul C dX12_takePlans_32 h33
  have h31 := az_iload_n C 2 rfl dX12_takePlans_31 h32
  have h30 := az_iload_n C 3 rfl dX12_takePlans_30 h31
  have h29 := az_iload_n C 1 rfl dX12_takePlans_29 h30
  have h26 := az_callS C okX12_at knX12_at stX12_at mLRX12_96 ⟨rfl, rfl, by decide, by decide⟩ dX12_takePlans_26 h29
  have h24 := az_bipush (x := (nI 13)) C dX12_takePlans_24 (by decide +kernel) h26
  have h23 := az_iload_n C 3 rfl dX12_takePlans_23 h24
  have h20 := az_getR (T := TX12) (N := 33) (j := 0) C gwRX12 rfl (by decide) (by decide) iIRX12_0 mFRX12_9 rfl dX12_takePlans_20 h23
  have h19 := az_aload_n C 0 rfl dX12_takePlans_19 h20
  have h16 := az_icmp_ge (tgt := 47) C dX12_takePlans_16 (by decide) h47 h19
  have h15 := az_iald C dX12_takePlans_15 h16
  have h14 := az_iconst (x := (nI 2)) C dX12_takePlans_14 (by decide +kernel) h15
  have h11 := az_getR (T := TX12) (N := 33) (j := 0) C gwRX12 rfl (by decide) (by decide) iIRX12_0 mFRX12_9 rfl dX12_takePlans_11 h14
  have h10 := az_aload_n C 0 rfl dX12_takePlans_10 h11
  have h9 := az_iload_n C 3 rfl dX12_takePlans_9 h10
  exact h9
def LX12_takePlans_9 (Q : Option Value → az_M → Prop) : az_T := s_lp (fun Z => BX12_takePlans_9 Q Z)
theorem okLX12_takePlans_9 {X : az_X} {Q : Option Value → az_M → Prop} (C : az_C X cX12_takePlans 4 RX12 (az_ts yX12_takePlans cX12_takePlans 4 none) ({ frames := 2, cells := 0, slots := 0, locals := 121 } : Room) none Q) : az_ok X 9 (LX12_takePlans_9 Q) := az_loop (F := fun Z => BX12_takePlans_9 Q Z) (fun _ hZ => okBX12_takePlans_9 C hZ)
def PX12_takePlans (Q : Option Value → az_M → Prop) : az_T := (s_la 0 (s_gr 13 0 (s_ic (nI 0) (s_al 20 (s_si 2 (s_ic (nI 0) (s_si 3 (s_kp [true, true, true, true] (LX12_takePlans_9 Q)))))))))
def FX12_takePlans : az_F := az_fun [true, false] 4 PX12_takePlans
theorem okX12_takePlans (l : Launch) : az_met l yX12_takePlans cX12_takePlans 4 none ({ frames := 2, cells := 0, slots := 0, locals := 121 } : Room) FX12_takePlans := az_met_of (own := RX12) (by decide +kernel) rfl (by decide) (fun X Q C => by
  have h8 := az_istore_n C 3 rfl (by decide) dX12_takePlans_8 (az_keep [true, true, true, true] (okLX12_takePlans_9 C))
  have h7 := az_iconst (x := (nI 0)) C dX12_takePlans_7 (by decide +kernel) h8
  have h6 := az_istore_n C 2 rfl (by decide) dX12_takePlans_6 h7
  have h5 := az_iald C dX12_takePlans_5 h6
  have h4 := az_iconst (x := (nI 0)) C dX12_takePlans_4 (by decide +kernel) h5
  have h1 := az_getR (T := TX12) (N := 33) (j := 0) C gwRX12 rfl (by decide) (by decide) iIRX12_0 mFRX12_9 rfl dX12_takePlans_1 h4
  have h0 := az_aload_n C 0 rfl dX12_takePlans_0 h1
  exact h0) l
theorem dX12_allCosts_0 : decode cX12_allCosts 0 = .ok (.iconst 0, 1) := by decide +kernel
theorem dX12_allCosts_1 : decode cX12_allCosts 1 = .ok (.istore_n 1, 1) := by decide +kernel
theorem dX12_allCosts_2 : decode cX12_allCosts 2 = .ok (.iconst 0, 1) := by decide +kernel
theorem dX12_allCosts_3 : decode cX12_allCosts 3 = .ok (.istore_n 2, 1) := by decide +kernel
theorem dX12_allCosts_4 : decode cX12_allCosts 4 = .ok (.iload_n 2, 1) := by decide +kernel
theorem dX12_allCosts_5 : decode cX12_allCosts 5 = .ok (.aload_n 0, 1) := by decide +kernel
theorem dX12_allCosts_6 : decode cX12_allCosts 6 = .ok (.getfield 9, 3) := by decide +kernel
theorem dX12_allCosts_9 : decode cX12_allCosts 9 = .ok (.iconst 0, 1) := by decide +kernel
theorem dX12_allCosts_10 : decode cX12_allCosts 10 = .ok (.iaload, 1) := by decide +kernel
theorem dX12_allCosts_11 : decode cX12_allCosts 11 = .ok (.if_icmp .ge 23, 3) := by decide +kernel
theorem dX12_allCosts_14 : decode cX12_allCosts 14 = .ok (.iload_n 1, 1) := by decide +kernel
theorem dX12_allCosts_15 : decode cX12_allCosts 15 = .ok (.aload_n 0, 1) := by decide +kernel
theorem dX12_allCosts_16 : decode cX12_allCosts 16 = .ok (.iload_n 2, 1) := by decide +kernel
theorem dX12_allCosts_17 : decode cX12_allCosts 17 = .ok (.invokevirtual 233, 3) := by decide +kernel
theorem dX12_allCosts_20 : decode cX12_allCosts 20 = .ok (.aload_n 0, 1) := by decide +kernel
theorem dX12_allCosts_21 : decode cX12_allCosts 21 = .ok (.iload_n 2, 1) := by decide +kernel
theorem dX12_allCosts_22 : decode cX12_allCosts 22 = .ok (.invokevirtual 236, 3) := by decide +kernel
theorem dX12_allCosts_25 : decode cX12_allCosts 25 = .ok (.iadd, 1) := by decide +kernel
theorem dX12_allCosts_26 : decode cX12_allCosts 26 = .ok (.iadd, 1) := by decide +kernel
theorem dX12_allCosts_27 : decode cX12_allCosts 27 = .ok (.istore_n 1, 1) := by decide +kernel
theorem dX12_allCosts_28 : decode cX12_allCosts 28 = .ok (.iinc 2 1, 3) := by decide +kernel
theorem dX12_allCosts_31 : decode cX12_allCosts 31 = .ok (.goto (-27), 3) := by decide +kernel
theorem dX12_allCosts_34 : decode cX12_allCosts 34 = .ok (.iload_n 1, 1) := by decide +kernel
theorem dX12_allCosts_35 : decode cX12_allCosts 35 = .ok (.ireturn, 1) := by decide +kernel
def BX12_allCosts_4 (Q : Option Value → az_M → Prop) (Z4 : az_T) : az_T := (s_li 2 (s_la 0 (s_gr 13 0 (s_ic (nI 0) (s_al 20 (s_if2 d_ge (s_li 1 (s_ri Q)) (s_li 1 (s_la 0 (s_li 2 (s_cv 1 13 FX12_costOf (s_la 0 (s_li 2 (s_cv 1 13 FX12_penaltyOf (s_bin f_add (s_bin f_add (s_si 1 (s_inc 2 (nI 1) (s_kp [true, true, true] Z4))))))))))))))))))
theorem okBX12_allCosts_4 {X : az_X} {Q : Option Value → az_M → Prop} (C : az_C X cX12_allCosts 3 RX12 (az_ts yX12_allCosts cX12_allCosts 3 (some .int)) ({ frames := 5, cells := 0, slots := 0, locals := 187 } : Room) (some .int) Q) {Z4 : az_T} (hZ4 : az_ok X 4 Z4) : az_ok X 4 (BX12_allCosts_4 Q Z4) := by
  have h35 := az_ireturn C rfl dX12_allCosts_35
  have h34 := az_iload_n C 1 rfl dX12_allCosts_34 h35
  have h31 := az_goto (tgt := 4) C dX12_allCosts_31 (by decide) (az_keep [true, true, true] hZ4)
  have h28 := az_iinc (v := (nI 1)) C (by decide) (by decide +kernel) dX12_allCosts_28 h31
  have h27 := az_istore_n C 1 rfl (by decide) dX12_allCosts_27 h28
  have h26 := az_iadd C dX12_allCosts_26 h27
  have h25 := az_iadd C dX12_allCosts_25 h26
  have h22 := az_callV (ci := 13) C okX12_penaltyOf knX12_penaltyOf imX12_penaltyOf seX12_penaltyOf mLRX12_236 rfl (by decide) ⟨rfl, rfl, by decide, by decide⟩ dX12_allCosts_22 h25
  have h21 := az_iload_n C 2 rfl dX12_allCosts_21 h22
  have h20 := az_aload_n C 0 rfl dX12_allCosts_20 h21
  have h17 := az_callV (ci := 13) C okX12_costOf knX12_costOf imX12_costOf seX12_costOf mLRX12_233 rfl (by decide) ⟨rfl, rfl, by decide, by decide⟩ dX12_allCosts_17 h20
  have h16 := az_iload_n C 2 rfl dX12_allCosts_16 h17
  have h15 := az_aload_n C 0 rfl dX12_allCosts_15 h16
  have h14 := az_iload_n C 1 rfl dX12_allCosts_14 h15
  have h11 := az_icmp_ge (tgt := 34) C dX12_allCosts_11 (by decide) h34 h14
  have h10 := az_iald C dX12_allCosts_10 h11
  have h9 := az_iconst (x := (nI 0)) C dX12_allCosts_9 (by decide +kernel) h10
  have h6 := az_getR (T := TX12) (N := 33) (j := 0) C gwRX12 rfl (by decide) (by decide) iIRX12_0 mFRX12_9 rfl dX12_allCosts_6 h9
  have h5 := az_aload_n C 0 rfl dX12_allCosts_5 h6
  have h4 := az_iload_n C 2 rfl dX12_allCosts_4 h5
  exact h4
def LX12_allCosts_4 (Q : Option Value → az_M → Prop) : az_T := s_lp (fun Z => BX12_allCosts_4 Q Z)
theorem okLX12_allCosts_4 {X : az_X} {Q : Option Value → az_M → Prop} (C : az_C X cX12_allCosts 3 RX12 (az_ts yX12_allCosts cX12_allCosts 3 (some .int)) ({ frames := 5, cells := 0, slots := 0, locals := 187 } : Room) (some .int) Q) : az_ok X 4 (LX12_allCosts_4 Q) := az_loop (F := fun Z => BX12_allCosts_4 Q Z) (fun _ hZ => okBX12_allCosts_4 C hZ)
def PX12_allCosts (Q : Option Value → az_M → Prop) : az_T := (s_ic (nI 0) (s_si 1 (s_ic (nI 0) (s_si 2 (s_kp [true, true, true] (LX12_allCosts_4 Q))))))
def FX12_allCosts : az_F := az_fun [true] 3 PX12_allCosts
theorem okX12_allCosts (l : Launch) : az_met l yX12_allCosts cX12_allCosts 3 (some .int) ({ frames := 5, cells := 0, slots := 0, locals := 187 } : Room) FX12_allCosts := az_met_of (own := RX12) (by decide +kernel) rfl (by decide) (fun X Q C => by
  have h3 := az_istore_n C 2 rfl (by decide) dX12_allCosts_3 (az_keep [true, true, true] (okLX12_allCosts_4 C))
  have h2 := az_iconst (x := (nI 0)) C dX12_allCosts_2 (by decide +kernel) h3
  have h1 := az_istore_n C 1 rfl (by decide) dX12_allCosts_1 h2
  have h0 := az_iconst (x := (nI 0)) C dX12_allCosts_0 (by decide +kernel) h1
  exact h0) l
theorem dX12_search_0 : decode cX12_search 0 = .ok (.aload_n 0, 1) := by decide +kernel
theorem dX12_search_1 : decode cX12_search 1 = .ok (.getfield 9, 3) := by decide +kernel
theorem dX12_search_4 : decode cX12_search 4 = .ok (.iconst 2, 1) := by decide +kernel
theorem dX12_search_5 : decode cX12_search 5 = .ok (.iaload, 1) := by decide +kernel
theorem dX12_search_6 : decode cX12_search 6 = .ok (.aload_n 0, 1) := by decide +kernel
theorem dX12_search_7 : decode cX12_search 7 = .ok (.getfield 9, 3) := by decide +kernel
theorem dX12_search_10 : decode cX12_search 10 = .ok (.iconst 0, 1) := by decide +kernel
theorem dX12_search_11 : decode cX12_search 11 = .ok (.iaload, 1) := by decide +kernel
theorem dX12_search_12 : decode cX12_search 12 = .ok (.imul, 1) := by decide +kernel
theorem dX12_search_13 : decode cX12_search 13 = .ok (.istore_n 1, 1) := by decide +kernel
theorem dX12_search_14 : decode cX12_search 14 = .ok (.aload_n 0, 1) := by decide +kernel
theorem dX12_search_15 : decode cX12_search 15 = .ok (.iload_n 1, 1) := by decide +kernel
theorem dX12_search_16 : decode cX12_search 16 = .ok (.bipush 10, 2) := by decide +kernel
theorem dX12_search_18 : decode cX12_search 18 = .ok (.if_icmp .le 7, 3) := by decide +kernel
theorem dX12_search_21 : decode cX12_search 21 = .ok (.iconst 1, 1) := by decide +kernel
theorem dX12_search_22 : decode cX12_search 22 = .ok (.goto 4, 3) := by decide +kernel
theorem dX12_search_25 : decode cX12_search 25 = .ok (.iconst 0, 1) := by decide +kernel
theorem dX12_search_26 : decode cX12_search 26 = .ok (.putfield 89, 3) := by decide +kernel
theorem dX12_search_29 : decode cX12_search 29 = .ok (.aload_n 0, 1) := by decide +kernel
theorem dX12_search_30 : decode cX12_search 30 = .ok (.getfield 89, 3) := by decide +kernel
theorem dX12_search_33 : decode cX12_search 33 = .ok (.ifCond .le 5, 3) := by decide +kernel
theorem dX12_search_36 : decode cX12_search 36 = .ok (.iconst 0, 1) := by decide +kernel
theorem dX12_search_37 : decode cX12_search 37 = .ok (.ireturn, 1) := by decide +kernel
theorem dX12_search_38 : decode cX12_search 38 = .ok (.iconst 0, 1) := by decide +kernel
theorem dX12_search_39 : decode cX12_search 39 = .ok (.istore_n 2, 1) := by decide +kernel
theorem dX12_search_40 : decode cX12_search 40 = .ok (.iload_n 2, 1) := by decide +kernel
theorem dX12_search_41 : decode cX12_search 41 = .ok (.aload_n 0, 1) := by decide +kernel
theorem dX12_search_42 : decode cX12_search 42 = .ok (.getfield 9, 3) := by decide +kernel
theorem dX12_search_45 : decode cX12_search 45 = .ok (.iconst 2, 1) := by decide +kernel
theorem dX12_search_46 : decode cX12_search 46 = .ok (.iaload, 1) := by decide +kernel
theorem dX12_search_47 : decode cX12_search 47 = .ok (.if_icmp .ge 22, 3) := by decide +kernel
theorem dX12_search_50 : decode cX12_search 50 = .ok (.aload_n 0, 1) := by decide +kernel
theorem dX12_search_51 : decode cX12_search 51 = .ok (.getfield 68, 3) := by decide +kernel
theorem dX12_search_54 : decode cX12_search 54 = .ok (.iload_n 2, 1) := by decide +kernel
theorem dX12_search_55 : decode cX12_search 55 = .ok (.aload_n 0, 1) := by decide +kernel
theorem dX12_search_56 : decode cX12_search 56 = .ok (.iload_n 2, 1) := by decide +kernel
theorem dX12_search_57 : decode cX12_search 57 = .ok (.bipush 13, 2) := by decide +kernel
theorem dX12_search_59 : decode cX12_search 59 = .ok (.invokevirtual 128, 3) := by decide +kernel
theorem dX12_search_62 : decode cX12_search 62 = .ok (.iastore, 1) := by decide +kernel
theorem dX12_search_63 : decode cX12_search 63 = .ok (.iinc 2 1, 3) := by decide +kernel
theorem dX12_search_66 : decode cX12_search 66 = .ok (.goto (-26), 3) := by decide +kernel
theorem dX12_search_69 : decode cX12_search 69 = .ok (.iconst (-1), 1) := by decide +kernel
theorem dX12_search_70 : decode cX12_search 70 = .ok (.istore_n 2, 1) := by decide +kernel
theorem dX12_search_71 : decode cX12_search 71 = .ok (.iconst 0, 1) := by decide +kernel
theorem dX12_search_72 : decode cX12_search 72 = .ok (.istore_n 3, 1) := by decide +kernel
theorem dX12_search_73 : decode cX12_search 73 = .ok (.iconst 0, 1) := by decide +kernel
theorem dX12_search_74 : decode cX12_search 74 = .ok (.istore 4, 2) := by decide +kernel
theorem dX12_search_76 : decode cX12_search 76 = .ok (.iload 4, 2) := by decide +kernel
theorem dX12_search_78 : decode cX12_search 78 = .ok (.iconst 1, 1) := by decide +kernel
theorem dX12_search_79 : decode cX12_search 79 = .ok (.iload_n 1, 1) := by decide +kernel
theorem dX12_search_80 : decode cX12_search 80 = .ok (.ishl, 1) := by decide +kernel
theorem dX12_search_81 : decode cX12_search 81 = .ok (.if_icmp .ge 71, 3) := by decide +kernel
theorem dX12_search_84 : decode cX12_search 84 = .ok (.aload_n 0, 1) := by decide +kernel
theorem dX12_search_85 : decode cX12_search 85 = .ok (.iload 4, 2) := by decide +kernel
theorem dX12_search_87 : decode cX12_search 87 = .ok (.invokevirtual 239, 3) := by decide +kernel
theorem dX12_search_90 : decode cX12_search 90 = .ok (.aload_n 0, 1) := by decide +kernel
theorem dX12_search_91 : decode cX12_search 91 = .ok (.invokevirtual 186, 3) := by decide +kernel
theorem dX12_search_94 : decode cX12_search 94 = .ok (.aload_n 0, 1) := by decide +kernel
theorem dX12_search_95 : decode cX12_search 95 = .ok (.iconst 1, 1) := by decide +kernel
theorem dX12_search_96 : decode cX12_search 96 = .ok (.invokevirtual 218, 3) := by decide +kernel
theorem dX12_search_99 : decode cX12_search 99 = .ok (.aload_n 0, 1) := by decide +kernel
theorem dX12_search_100 : decode cX12_search 100 = .ok (.iconst 2, 1) := by decide +kernel
theorem dX12_search_101 : decode cX12_search 101 = .ok (.invokevirtual 218, 3) := by decide +kernel
theorem dX12_search_104 : decode cX12_search 104 = .ok (.iadd, 1) := by decide +kernel
theorem dX12_search_105 : decode cX12_search 105 = .ok (.aload_n 0, 1) := by decide +kernel
theorem dX12_search_106 : decode cX12_search 106 = .ok (.iconst 3, 1) := by decide +kernel
theorem dX12_search_107 : decode cX12_search 107 = .ok (.invokevirtual 218, 3) := by decide +kernel
theorem dX12_search_110 : decode cX12_search 110 = .ok (.iadd, 1) := by decide +kernel
theorem dX12_search_111 : decode cX12_search 111 = .ok (.ifCond .ne 7, 3) := by decide +kernel
theorem dX12_search_114 : decode cX12_search 114 = .ok (.iconst 1, 1) := by decide +kernel
theorem dX12_search_115 : decode cX12_search 115 = .ok (.goto 4, 3) := by decide +kernel
theorem dX12_search_118 : decode cX12_search 118 = .ok (.iconst 0, 1) := by decide +kernel
theorem dX12_search_119 : decode cX12_search 119 = .ok (.istore 5, 2) := by decide +kernel
theorem dX12_search_121 : decode cX12_search 121 = .ok (.iload 5, 2) := by decide +kernel
theorem dX12_search_123 : decode cX12_search 123 = .ok (.ifCond .eq 23, 3) := by decide +kernel
theorem dX12_search_126 : decode cX12_search 126 = .ok (.iload_n 2, 1) := by decide +kernel
theorem dX12_search_127 : decode cX12_search 127 = .ok (.ifCond .lt 11, 3) := by decide +kernel
theorem dX12_search_130 : decode cX12_search 130 = .ok (.aload_n 0, 1) := by decide +kernel
theorem dX12_search_131 : decode cX12_search 131 = .ok (.invokevirtual 242, 3) := by decide +kernel
theorem dX12_search_134 : decode cX12_search 134 = .ok (.iload_n 3, 1) := by decide +kernel
theorem dX12_search_135 : decode cX12_search 135 = .ok (.if_icmp .ge 11, 3) := by decide +kernel
theorem dX12_search_138 : decode cX12_search 138 = .ok (.iload 4, 2) := by decide +kernel
theorem dX12_search_140 : decode cX12_search 140 = .ok (.istore_n 2, 1) := by decide +kernel
theorem dX12_search_141 : decode cX12_search 141 = .ok (.aload_n 0, 1) := by decide +kernel
theorem dX12_search_142 : decode cX12_search 142 = .ok (.invokevirtual 242, 3) := by decide +kernel
theorem dX12_search_145 : decode cX12_search 145 = .ok (.istore_n 3, 1) := by decide +kernel
theorem dX12_search_146 : decode cX12_search 146 = .ok (.iinc 4 1, 3) := by decide +kernel
theorem dX12_search_149 : decode cX12_search 149 = .ok (.goto (-73), 3) := by decide +kernel
theorem dX12_search_152 : decode cX12_search 152 = .ok (.aload_n 0, 1) := by decide +kernel
theorem dX12_search_153 : decode cX12_search 153 = .ok (.iconst 0, 1) := by decide +kernel
theorem dX12_search_154 : decode cX12_search 154 = .ok (.putfield 109, 3) := by decide +kernel
theorem dX12_search_157 : decode cX12_search 157 = .ok (.iconst 0, 1) := by decide +kernel
theorem dX12_search_158 : decode cX12_search 158 = .ok (.istore 4, 2) := by decide +kernel
theorem dX12_search_160 : decode cX12_search 160 = .ok (.iload 4, 2) := by decide +kernel
theorem dX12_search_162 : decode cX12_search 162 = .ok (.aload_n 0, 1) := by decide +kernel
theorem dX12_search_163 : decode cX12_search 163 = .ok (.getfield 9, 3) := by decide +kernel
theorem dX12_search_166 : decode cX12_search 166 = .ok (.iconst 2, 1) := by decide +kernel
theorem dX12_search_167 : decode cX12_search 167 = .ok (.iaload, 1) := by decide +kernel
theorem dX12_search_168 : decode cX12_search 168 = .ok (.if_icmp .ge 28, 3) := by decide +kernel
theorem dX12_search_171 : decode cX12_search 171 = .ok (.aload_n 0, 1) := by decide +kernel
theorem dX12_search_172 : decode cX12_search 172 = .ok (.getfield 9, 3) := by decide +kernel
theorem dX12_search_175 : decode cX12_search 175 = .ok (.iload 4, 2) := by decide +kernel
theorem dX12_search_177 : decode cX12_search 177 = .ok (.bipush 13, 2) := by decide +kernel
theorem dX12_search_179 : decode cX12_search 179 = .ok (.invokestatic 96, 3) := by decide +kernel
theorem dX12_search_182 : decode cX12_search 182 = .ok (.aload_n 0, 1) := by decide +kernel
theorem dX12_search_183 : decode cX12_search 183 = .ok (.getfield 68, 3) := by decide +kernel
theorem dX12_search_186 : decode cX12_search 186 = .ok (.iload 4, 2) := by decide +kernel
theorem dX12_search_188 : decode cX12_search 188 = .ok (.iaload, 1) := by decide +kernel
theorem dX12_search_189 : decode cX12_search 189 = .ok (.iastore, 1) := by decide +kernel
theorem dX12_search_190 : decode cX12_search 190 = .ok (.iinc 4 1, 3) := by decide +kernel
theorem dX12_search_193 : decode cX12_search 193 = .ok (.goto (-33), 3) := by decide +kernel
theorem dX12_search_196 : decode cX12_search 196 = .ok (.aload_n 0, 1) := by decide +kernel
theorem dX12_search_197 : decode cX12_search 197 = .ok (.iload_n 2, 1) := by decide +kernel
theorem dX12_search_198 : decode cX12_search 198 = .ok (.ifCond .ge 7, 3) := by decide +kernel
theorem dX12_search_201 : decode cX12_search 201 = .ok (.iconst 2, 1) := by decide +kernel
theorem dX12_search_202 : decode cX12_search 202 = .ok (.goto 4, 3) := by decide +kernel
theorem dX12_search_205 : decode cX12_search 205 = .ok (.iconst 0, 1) := by decide +kernel
theorem dX12_search_206 : decode cX12_search 206 = .ok (.putfield 89, 3) := by decide +kernel
theorem dX12_search_209 : decode cX12_search 209 = .ok (.aload_n 0, 1) := by decide +kernel
theorem dX12_search_210 : decode cX12_search 210 = .ok (.getfield 89, 3) := by decide +kernel
theorem dX12_search_213 : decode cX12_search 213 = .ok (.ifCond .le 5, 3) := by decide +kernel
theorem dX12_search_216 : decode cX12_search 216 = .ok (.iconst 0, 1) := by decide +kernel
theorem dX12_search_217 : decode cX12_search 217 = .ok (.ireturn, 1) := by decide +kernel
theorem dX12_search_218 : decode cX12_search 218 = .ok (.aload_n 0, 1) := by decide +kernel
theorem dX12_search_219 : decode cX12_search 219 = .ok (.invokevirtual 120, 3) := by decide +kernel
theorem dX12_search_222 : decode cX12_search 222 = .ok (.aload_n 0, 1) := by decide +kernel
theorem dX12_search_223 : decode cX12_search 223 = .ok (.iload_n 2, 1) := by decide +kernel
theorem dX12_search_224 : decode cX12_search 224 = .ok (.invokevirtual 239, 3) := by decide +kernel
theorem dX12_search_227 : decode cX12_search 227 = .ok (.iload_n 3, 1) := by decide +kernel
theorem dX12_search_228 : decode cX12_search 228 = .ok (.ireturn, 1) := by decide +kernel
def LX12_search_206 (Q : Option Value → az_M → Prop) : az_T := (s_pi 13 5 (s_la 0 (s_gi 13 5 (s_if c_le (s_la 0 (s_cv 0 13 FX12_change (s_la 0 (s_li 2 (s_cv 1 13 FX12_takePlans (s_li 3 (s_ri Q))))))) (s_ic (nI 0) (s_ri Q))))))
theorem okLX12_search_206 {X : az_X} {Q : Option Value → az_M → Prop} (C : az_C X cX12_search 6 RX12 (az_ts yX12_search cX12_search 6 (some .int)) ({ frames := 7, cells := 0, slots := 0, locals := 237 } : Room) (some .int) Q) : az_ok X 206 (LX12_search_206 Q) := by
  have h228 := az_ireturn C rfl dX12_search_228
  have h227 := az_iload_n C 3 rfl dX12_search_227 h228
  have h224 := az_callV (ci := 13) C okX12_takePlans knX12_takePlans imX12_takePlans seX12_takePlans mLRX12_239 rfl (by decide) ⟨rfl, rfl, by decide, by decide⟩ dX12_search_224 h227
  have h223 := az_iload_n C 2 rfl dX12_search_223 h224
  have h222 := az_aload_n C 0 rfl dX12_search_222 h223
  have h219 := az_callV (ci := 13) C okX12_change knX12_change imX12_change seX12_change mLRX12_120 rfl (by decide) ⟨rfl, rfl, by decide, by decide⟩ dX12_search_219 h222
  have h218 := az_aload_n C 0 rfl dX12_search_218 h219
  have h217 := az_ireturn C rfl dX12_search_217
  have h216 := az_iconst (x := (nI 0)) C dX12_search_216 (by decide +kernel) h217
  have h213 := az_if_le (tgt := 218) C dX12_search_213 (by decide) h218 h216
  have h210 := az_getI (T := TX12) (N := 33) (j := 5) C gwRX12 rfl (by decide) (by decide) iIRX12_5 mFRX12_89 rfl dX12_search_210 h213
  have h209 := az_aload_n C 0 rfl dX12_search_209 h210
  have h206 := az_putI (T := TX12) (N := 33) (j := 5) C gwRX12 rfl (by decide) (by decide) tyX12 tyX12_ok nmX12 iIRX12_5 (by decide +kernel) rfl mFRX12_89 rfl dX12_search_206 h209
  exact h206
def BX12_search_160 (Q : Option Value → az_M → Prop) (Z160 : az_T) : az_T := (s_li 4 (s_la 0 (s_gr 13 0 (s_ic (nI 2) (s_al 20 (s_if2 d_ge (s_la 0 (s_li 2 (s_if c_ge (s_ic (nI 0) (s_kp [true, false, true, true, false, false] (LX12_search_206 Q))) (s_ic (nI 2) (s_kp [true, false, true, true, false, false] (LX12_search_206 Q)))))) (s_la 0 (s_gr 13 0 (s_li 4 (s_ic (nI 13) (s_cs 2 FX12_at (s_la 0 (s_gr 13 24 (s_li 4 (s_al 20 (s_as (s_inc 4 (nI 1) (s_kp [true, false, true, true, true, false] Z160))))))))))))))))))
theorem okBX12_search_160 {X : az_X} {Q : Option Value → az_M → Prop} (C : az_C X cX12_search 6 RX12 (az_ts yX12_search cX12_search 6 (some .int)) ({ frames := 7, cells := 0, slots := 0, locals := 237 } : Room) (some .int) Q) {Z160 : az_T} (hZ160 : az_ok X 160 Z160) : az_ok X 160 (BX12_search_160 Q Z160) := by
  have h205 := az_iconst (x := (nI 0)) C dX12_search_205 (by decide +kernel) (az_keep [true, false, true, true, false, false] (okLX12_search_206 C))
  have h202 := az_goto (tgt := 206) C dX12_search_202 (by decide) (az_keep [true, false, true, true, false, false] (okLX12_search_206 C))
  have h201 := az_iconst (x := (nI 2)) C dX12_search_201 (by decide +kernel) h202
  have h198 := az_if_ge (tgt := 205) C dX12_search_198 (by decide) h205 h201
  have h197 := az_iload_n C 2 rfl dX12_search_197 h198
  have h196 := az_aload_n C 0 rfl dX12_search_196 h197
  have h193 := az_goto (tgt := 160) C dX12_search_193 (by decide) (az_keep [true, false, true, true, true, false] hZ160)
  have h190 := az_iinc (v := (nI 1)) C (by decide) (by decide +kernel) dX12_search_190 h193
  have h189 := az_iast C dX12_search_189 h190
  have h188 := az_iald C dX12_search_188 h189
  have h186 := az_iload C dX12_search_186 h188
  have h183 := az_getR (T := TX12) (N := 33) (j := 24) C gwRX12 rfl (by decide) (by decide) iIRX12_24 mFRX12_68 rfl dX12_search_183 h186
  have h182 := az_aload_n C 0 rfl dX12_search_182 h183
  have h179 := az_callS C okX12_at knX12_at stX12_at mLRX12_96 ⟨rfl, rfl, by decide, by decide⟩ dX12_search_179 h182
  have h177 := az_bipush (x := (nI 13)) C dX12_search_177 (by decide +kernel) h179
  have h175 := az_iload C dX12_search_175 h177
  have h172 := az_getR (T := TX12) (N := 33) (j := 0) C gwRX12 rfl (by decide) (by decide) iIRX12_0 mFRX12_9 rfl dX12_search_172 h175
  have h171 := az_aload_n C 0 rfl dX12_search_171 h172
  have h168 := az_icmp_ge (tgt := 196) C dX12_search_168 (by decide) h196 h171
  have h167 := az_iald C dX12_search_167 h168
  have h166 := az_iconst (x := (nI 2)) C dX12_search_166 (by decide +kernel) h167
  have h163 := az_getR (T := TX12) (N := 33) (j := 0) C gwRX12 rfl (by decide) (by decide) iIRX12_0 mFRX12_9 rfl dX12_search_163 h166
  have h162 := az_aload_n C 0 rfl dX12_search_162 h163
  have h160 := az_iload C dX12_search_160 h162
  exact h160
def LX12_search_160 (Q : Option Value → az_M → Prop) : az_T := s_lp (fun Z => BX12_search_160 Q Z)
theorem okLX12_search_160 {X : az_X} {Q : Option Value → az_M → Prop} (C : az_C X cX12_search 6 RX12 (az_ts yX12_search cX12_search 6 (some .int)) ({ frames := 7, cells := 0, slots := 0, locals := 237 } : Room) (some .int) Q) : az_ok X 160 (LX12_search_160 Q) := az_loop (F := fun Z => BX12_search_160 Q Z) (fun _ hZ => okBX12_search_160 C hZ)
def LX12_search_146 (Q : Option Value → az_M → Prop) (Z76 : az_T) : az_T := (s_inc 4 (nI 1) (s_kp [true, true, true, true, true, false] Z76))
theorem okLX12_search_146 {X : az_X} {Q : Option Value → az_M → Prop} (C : az_C X cX12_search 6 RX12 (az_ts yX12_search cX12_search 6 (some .int)) ({ frames := 7, cells := 0, slots := 0, locals := 237 } : Room) (some .int) Q) {Z76 : az_T} (hZ76 : az_ok X 76 Z76) : az_ok X 146 (LX12_search_146 Q Z76) := by
  have h149 := az_goto (tgt := 76) C dX12_search_149 (by decide) (az_keep [true, true, true, true, true, false] hZ76)
  have h146 := az_iinc (v := (nI 1)) C (by decide) (by decide +kernel) dX12_search_146 h149
  exact h146
def LX12_search_138 (Q : Option Value → az_M → Prop) (Z76 : az_T) : az_T := (s_li 4 (s_si 2 (s_la 0 (s_cv 0 13 FX12_allCosts (s_si 3 (s_kp [true, true, true, true, true, false] (LX12_search_146 Q Z76)))))))
theorem okLX12_search_138 {X : az_X} {Q : Option Value → az_M → Prop} (C : az_C X cX12_search 6 RX12 (az_ts yX12_search cX12_search 6 (some .int)) ({ frames := 7, cells := 0, slots := 0, locals := 237 } : Room) (some .int) Q) {Z76 : az_T} (hZ76 : az_ok X 76 Z76) : az_ok X 138 (LX12_search_138 Q Z76) := by
  have h145 := az_istore_n C 3 rfl (by decide) dX12_search_145 (az_keep [true, true, true, true, true, false] (okLX12_search_146 C hZ76))
  have h142 := az_callV (ci := 13) C okX12_allCosts knX12_allCosts imX12_allCosts seX12_allCosts mLRX12_242 rfl (by decide) ⟨rfl, rfl, by decide, by decide⟩ dX12_search_142 h145
  have h141 := az_aload_n C 0 rfl dX12_search_141 h142
  have h140 := az_istore_n C 2 rfl (by decide) dX12_search_140 h141
  have h138 := az_iload C dX12_search_138 h140
  exact h138
def LX12_search_119 (Q : Option Value → az_M → Prop) (Z76 : az_T) : az_T := (s_si 5 (s_li 5 (s_if c_eq (s_kp [true, true, true, true, true, false] (LX12_search_146 Q Z76)) (s_li 2 (s_if c_lt (s_kp [true, true, false, false, true, false] (LX12_search_138 Q Z76)) (s_la 0 (s_cv 0 13 FX12_allCosts (s_li 3 (s_if2 d_ge (s_kp [true, true, true, true, true, false] (LX12_search_146 Q Z76)) (s_kp [true, true, false, false, true, false] (LX12_search_138 Q Z76)))))))))))
theorem okLX12_search_119 {X : az_X} {Q : Option Value → az_M → Prop} (C : az_C X cX12_search 6 RX12 (az_ts yX12_search cX12_search 6 (some .int)) ({ frames := 7, cells := 0, slots := 0, locals := 237 } : Room) (some .int) Q) {Z76 : az_T} (hZ76 : az_ok X 76 Z76) : az_ok X 119 (LX12_search_119 Q Z76) := by
  have h135 := az_icmp_ge (tgt := 146) C dX12_search_135 (by decide) (az_keep [true, true, true, true, true, false] (okLX12_search_146 C hZ76)) (az_keep [true, true, false, false, true, false] (okLX12_search_138 C hZ76))
  have h134 := az_iload_n C 3 rfl dX12_search_134 h135
  have h131 := az_callV (ci := 13) C okX12_allCosts knX12_allCosts imX12_allCosts seX12_allCosts mLRX12_242 rfl (by decide) ⟨rfl, rfl, by decide, by decide⟩ dX12_search_131 h134
  have h130 := az_aload_n C 0 rfl dX12_search_130 h131
  have h127 := az_if_lt (tgt := 138) C dX12_search_127 (by decide) (az_keep [true, true, false, false, true, false] (okLX12_search_138 C hZ76)) h130
  have h126 := az_iload_n C 2 rfl dX12_search_126 h127
  have h123 := az_if_eq (tgt := 146) C dX12_search_123 (by decide) (az_keep [true, true, true, true, true, false] (okLX12_search_146 C hZ76)) h126
  have h121 := az_iload C dX12_search_121 h123
  have h119 := az_istore C (by decide) dX12_search_119 h121
  exact h119
def BX12_search_76 (Q : Option Value → az_M → Prop) (Z76 : az_T) : az_T := (s_li 4 (s_ic (nI 1) (s_li 1 (s_bin f_shl (s_if2 d_ge (s_la 0 (s_ic (nI 0) (s_pz 13 7 (s_ic (nI 0) (s_si 4 (s_kp [true, false, true, true, true, false] (LX12_search_160 Q))))))) (s_la 0 (s_li 4 (s_cv 1 13 FX12_takePlans (s_la 0 (s_cv 0 13 FX12_workOut (s_la 0 (s_ic (nI 1) (s_cv 1 13 FX12_violationsOf (s_la 0 (s_ic (nI 2) (s_cv 1 13 FX12_violationsOf (s_bin f_add (s_la 0 (s_ic (nI 3) (s_cv 1 13 FX12_violationsOf (s_bin f_add (s_if c_ne (s_ic (nI 0) (s_kp [true, true, true, true, true, false] (LX12_search_119 Q Z76))) (s_ic (nI 1) (s_kp [true, true, true, true, true, false] (LX12_search_119 Q Z76)))))))))))))))))))))))))
theorem okBX12_search_76 {X : az_X} {Q : Option Value → az_M → Prop} (C : az_C X cX12_search 6 RX12 (az_ts yX12_search cX12_search 6 (some .int)) ({ frames := 7, cells := 0, slots := 0, locals := 237 } : Room) (some .int) Q) {Z76 : az_T} (hZ76 : az_ok X 76 Z76) : az_ok X 76 (BX12_search_76 Q Z76) := by
  have h158 := az_istore C (by decide) dX12_search_158 (az_keep [true, false, true, true, true, false] (okLX12_search_160 C))
  have h157 := az_iconst (x := (nI 0)) C dX12_search_157 (by decide +kernel) h158
  have h154 := az_putZ (T := TX12) (N := 33) (j := 7) C gwRX12 rfl (by decide) (by decide) tyX12 tyX12_ok nmX12 iIRX12_7 (by decide +kernel) rfl mFRX12_109 rfl dX12_search_154 h157
  have h153 := az_iconst (x := (nI 0)) C dX12_search_153 (by decide +kernel) h154
  have h152 := az_aload_n C 0 rfl dX12_search_152 h153
  have h118 := az_iconst (x := (nI 0)) C dX12_search_118 (by decide +kernel) (az_keep [true, true, true, true, true, false] (okLX12_search_119 C hZ76))
  have h115 := az_goto (tgt := 119) C dX12_search_115 (by decide) (az_keep [true, true, true, true, true, false] (okLX12_search_119 C hZ76))
  have h114 := az_iconst (x := (nI 1)) C dX12_search_114 (by decide +kernel) h115
  have h111 := az_if_ne (tgt := 118) C dX12_search_111 (by decide) h118 h114
  have h110 := az_iadd C dX12_search_110 h111
  have h107 := az_callV (ci := 13) C okX12_violationsOf knX12_violationsOf imX12_violationsOf seX12_violationsOf mLRX12_218 rfl (by decide) ⟨rfl, rfl, by decide, by decide⟩ dX12_search_107 h110
  have h106 := az_iconst (x := (nI 3)) C dX12_search_106 (by decide +kernel) h107
  have h105 := az_aload_n C 0 rfl dX12_search_105 h106
  have h104 := az_iadd C dX12_search_104 h105
  have h101 := az_callV (ci := 13) C okX12_violationsOf knX12_violationsOf imX12_violationsOf seX12_violationsOf mLRX12_218 rfl (by decide) ⟨rfl, rfl, by decide, by decide⟩ dX12_search_101 h104
  have h100 := az_iconst (x := (nI 2)) C dX12_search_100 (by decide +kernel) h101
  have h99 := az_aload_n C 0 rfl dX12_search_99 h100
  have h96 := az_callV (ci := 13) C okX12_violationsOf knX12_violationsOf imX12_violationsOf seX12_violationsOf mLRX12_218 rfl (by decide) ⟨rfl, rfl, by decide, by decide⟩ dX12_search_96 h99
  have h95 := az_iconst (x := (nI 1)) C dX12_search_95 (by decide +kernel) h96
  have h94 := az_aload_n C 0 rfl dX12_search_94 h95
  have h91 := az_callV (ci := 13) C okX12_workOut knX12_workOut imX12_workOut seX12_workOut mLRX12_186 rfl (by decide) ⟨rfl, rfl, by decide, by decide⟩ dX12_search_91 h94
  have h90 := az_aload_n C 0 rfl dX12_search_90 h91
  have h87 := az_callV (ci := 13) C okX12_takePlans knX12_takePlans imX12_takePlans seX12_takePlans mLRX12_239 rfl (by decide) ⟨rfl, rfl, by decide, by decide⟩ dX12_search_87 h90
  have h85 := az_iload C dX12_search_85 h87
  have h84 := az_aload_n C 0 rfl dX12_search_84 h85
  have h81 := az_icmp_ge (tgt := 152) C dX12_search_81 (by decide) h152 h84
  have h80 := az_ishl C dX12_search_80 h81
  have h79 := az_iload_n C 1 rfl dX12_search_79 h80
  have h78 := az_iconst (x := (nI 1)) C dX12_search_78 (by decide +kernel) h79
  have h76 := az_iload C dX12_search_76 h78
  exact h76
def LX12_search_76 (Q : Option Value → az_M → Prop) : az_T := s_lp (fun Z => BX12_search_76 Q Z)
theorem okLX12_search_76 {X : az_X} {Q : Option Value → az_M → Prop} (C : az_C X cX12_search 6 RX12 (az_ts yX12_search cX12_search 6 (some .int)) ({ frames := 7, cells := 0, slots := 0, locals := 237 } : Room) (some .int) Q) : az_ok X 76 (LX12_search_76 Q) := az_loop (F := fun Z => BX12_search_76 Q Z) (fun _ hZ => okBX12_search_76 C hZ)
def BX12_search_40 (Q : Option Value → az_M → Prop) (Z40 : az_T) : az_T := (s_li 2 (s_la 0 (s_gr 13 0 (s_ic (nI 2) (s_al 20 (s_if2 d_ge (s_ic (-1) (s_si 2 (s_ic (nI 0) (s_si 3 (s_ic (nI 0) (s_si 4 (s_kp [true, true, true, true, true, false] (LX12_search_76 Q)))))))) (s_la 0 (s_gr 13 24 (s_li 2 (s_la 0 (s_li 2 (s_ic (nI 13) (s_cv 2 13 FX12_of (s_as (s_inc 2 (nI 1) (s_kp [true, true, true, false, false, false] Z40))))))))))))))))
theorem okBX12_search_40 {X : az_X} {Q : Option Value → az_M → Prop} (C : az_C X cX12_search 6 RX12 (az_ts yX12_search cX12_search 6 (some .int)) ({ frames := 7, cells := 0, slots := 0, locals := 237 } : Room) (some .int) Q) {Z40 : az_T} (hZ40 : az_ok X 40 Z40) : az_ok X 40 (BX12_search_40 Q Z40) := by
  have h74 := az_istore C (by decide) dX12_search_74 (az_keep [true, true, true, true, true, false] (okLX12_search_76 C))
  have h73 := az_iconst (x := (nI 0)) C dX12_search_73 (by decide +kernel) h74
  have h72 := az_istore_n C 3 rfl (by decide) dX12_search_72 h73
  have h71 := az_iconst (x := (nI 0)) C dX12_search_71 (by decide +kernel) h72
  have h70 := az_istore_n C 2 rfl (by decide) dX12_search_70 h71
  have h69 := az_iconst (x := (-1)) C dX12_search_69 (by decide +kernel) h70
  have h66 := az_goto (tgt := 40) C dX12_search_66 (by decide) (az_keep [true, true, true, false, false, false] hZ40)
  have h63 := az_iinc (v := (nI 1)) C (by decide) (by decide +kernel) dX12_search_63 h66
  have h62 := az_iast C dX12_search_62 h63
  have h59 := az_callV (ci := 13) C okX12_of knX12_of imX12_of seX12_of mLRX12_128 rfl (by decide) ⟨rfl, rfl, by decide, by decide⟩ dX12_search_59 h62
  have h57 := az_bipush (x := (nI 13)) C dX12_search_57 (by decide +kernel) h59
  have h56 := az_iload_n C 2 rfl dX12_search_56 h57
  have h55 := az_aload_n C 0 rfl dX12_search_55 h56
  have h54 := az_iload_n C 2 rfl dX12_search_54 h55
  have h51 := az_getR (T := TX12) (N := 33) (j := 24) C gwRX12 rfl (by decide) (by decide) iIRX12_24 mFRX12_68 rfl dX12_search_51 h54
  have h50 := az_aload_n C 0 rfl dX12_search_50 h51
  have h47 := az_icmp_ge (tgt := 69) C dX12_search_47 (by decide) h69 h50
  have h46 := az_iald C dX12_search_46 h47
  have h45 := az_iconst (x := (nI 2)) C dX12_search_45 (by decide +kernel) h46
  have h42 := az_getR (T := TX12) (N := 33) (j := 0) C gwRX12 rfl (by decide) (by decide) iIRX12_0 mFRX12_9 rfl dX12_search_42 h45
  have h41 := az_aload_n C 0 rfl dX12_search_41 h42
  have h40 := az_iload_n C 2 rfl dX12_search_40 h41
  exact h40
def LX12_search_40 (Q : Option Value → az_M → Prop) : az_T := s_lp (fun Z => BX12_search_40 Q Z)
theorem okLX12_search_40 {X : az_X} {Q : Option Value → az_M → Prop} (C : az_C X cX12_search 6 RX12 (az_ts yX12_search cX12_search 6 (some .int)) ({ frames := 7, cells := 0, slots := 0, locals := 237 } : Room) (some .int) Q) : az_ok X 40 (LX12_search_40 Q) := az_loop (F := fun Z => BX12_search_40 Q Z) (fun _ hZ => okBX12_search_40 C hZ)
def LX12_search_26 (Q : Option Value → az_M → Prop) : az_T := (s_pi 13 5 (s_la 0 (s_gi 13 5 (s_if c_le (s_ic (nI 0) (s_si 2 (s_kp [true, true, true, false, false, false] (LX12_search_40 Q)))) (s_ic (nI 0) (s_ri Q))))))
theorem okLX12_search_26 {X : az_X} {Q : Option Value → az_M → Prop} (C : az_C X cX12_search 6 RX12 (az_ts yX12_search cX12_search 6 (some .int)) ({ frames := 7, cells := 0, slots := 0, locals := 237 } : Room) (some .int) Q) : az_ok X 26 (LX12_search_26 Q) := by
  have h39 := az_istore_n C 2 rfl (by decide) dX12_search_39 (az_keep [true, true, true, false, false, false] (okLX12_search_40 C))
  have h38 := az_iconst (x := (nI 0)) C dX12_search_38 (by decide +kernel) h39
  have h37 := az_ireturn C rfl dX12_search_37
  have h36 := az_iconst (x := (nI 0)) C dX12_search_36 (by decide +kernel) h37
  have h33 := az_if_le (tgt := 38) C dX12_search_33 (by decide) h38 h36
  have h30 := az_getI (T := TX12) (N := 33) (j := 5) C gwRX12 rfl (by decide) (by decide) iIRX12_5 mFRX12_89 rfl dX12_search_30 h33
  have h29 := az_aload_n C 0 rfl dX12_search_29 h30
  have h26 := az_putI (T := TX12) (N := 33) (j := 5) C gwRX12 rfl (by decide) (by decide) tyX12 tyX12_ok nmX12 iIRX12_5 (by decide +kernel) rfl mFRX12_89 rfl dX12_search_26 h29
  exact h26
def PX12_search (Q : Option Value → az_M → Prop) : az_T := (s_la 0 (s_gr 13 0 (s_ic (nI 2) (s_al 20 (s_la 0 (s_gr 13 0 (s_ic (nI 0) (s_al 20 (s_bin f_mul (s_si 1 (s_la 0 (s_li 1 (s_ic (nI 10) (s_if2 d_le (s_ic (nI 0) (s_kp [true, true, false, false, false, false] (LX12_search_26 Q))) (s_ic (nI 1) (s_kp [true, true, false, false, false, false] (LX12_search_26 Q)))))))))))))))))
def FX12_search : az_F := az_fun [true] 6 PX12_search
theorem okX12_search (l : Launch) : az_met l yX12_search cX12_search 6 (some .int) ({ frames := 7, cells := 0, slots := 0, locals := 237 } : Room) FX12_search := az_met_of (own := RX12) (by decide +kernel) rfl (by decide) (fun X Q C => by
  have h25 := az_iconst (x := (nI 0)) C dX12_search_25 (by decide +kernel) (az_keep [true, true, false, false, false, false] (okLX12_search_26 C))
  have h22 := az_goto (tgt := 26) C dX12_search_22 (by decide) (az_keep [true, true, false, false, false, false] (okLX12_search_26 C))
  have h21 := az_iconst (x := (nI 1)) C dX12_search_21 (by decide +kernel) h22
  have h18 := az_icmp_le (tgt := 25) C dX12_search_18 (by decide) h25 h21
  have h16 := az_bipush (x := (nI 10)) C dX12_search_16 (by decide +kernel) h18
  have h15 := az_iload_n C 1 rfl dX12_search_15 h16
  have h14 := az_aload_n C 0 rfl dX12_search_14 h15
  have h13 := az_istore_n C 1 rfl (by decide) dX12_search_13 h14
  have h12 := az_imul C dX12_search_12 h13
  have h11 := az_iald C dX12_search_11 h12
  have h10 := az_iconst (x := (nI 0)) C dX12_search_10 (by decide +kernel) h11
  have h7 := az_getR (T := TX12) (N := 33) (j := 0) C gwRX12 rfl (by decide) (by decide) iIRX12_0 mFRX12_9 rfl dX12_search_7 h10
  have h6 := az_aload_n C 0 rfl dX12_search_6 h7
  have h5 := az_iald C dX12_search_5 h6
  have h4 := az_iconst (x := (nI 2)) C dX12_search_4 (by decide +kernel) h5
  have h1 := az_getR (T := TX12) (N := 33) (j := 0) C gwRX12 rfl (by decide) (by decide) iIRX12_0 mFRX12_9 rfl dX12_search_1 h4
  have h0 := az_aload_n C 0 rfl dX12_search_0 h1
  exact h0) l
theorem dX12_append_0 : decode cX12_append 0 = .ok (.aload_n 0, 1) := by decide +kernel
theorem dX12_append_1 : decode cX12_append 1 = .ok (.iload_n 1, 1) := by decide +kernel
theorem dX12_append_2 : decode cX12_append 2 = .ok (.bipush 32, 2) := by decide +kernel
theorem dX12_append_4 : decode cX12_append 4 = .ok (.bipush 126, 2) := by decide +kernel
theorem dX12_append_6 : decode cX12_append 6 = .ok (.invokestatic 92, 3) := by decide +kernel
theorem dX12_append_9 : decode cX12_append 9 = .ok (.ifCond .ne 7, 3) := by decide +kernel
theorem dX12_append_12 : decode cX12_append 12 = .ok (.iconst 1, 1) := by decide +kernel
theorem dX12_append_13 : decode cX12_append 13 = .ok (.goto 17, 3) := by decide +kernel
theorem dX12_append_16 : decode cX12_append 16 = .ok (.aload_n 0, 1) := by decide +kernel
theorem dX12_append_17 : decode cX12_append 17 = .ok (.getfield 246, 3) := by decide +kernel
theorem dX12_append_20 : decode cX12_append 20 = .ok (.bipush 100, 2) := by decide +kernel
theorem dX12_append_22 : decode cX12_append 22 = .ok (.if_icmp .ne 7, 3) := by decide +kernel
theorem dX12_append_25 : decode cX12_append 25 = .ok (.iconst 2, 1) := by decide +kernel
theorem dX12_append_26 : decode cX12_append 26 = .ok (.goto 4, 3) := by decide +kernel
theorem dX12_append_29 : decode cX12_append 29 = .ok (.iconst 0, 1) := by decide +kernel
theorem dX12_append_30 : decode cX12_append 30 = .ok (.putfield 89, 3) := by decide +kernel
theorem dX12_append_33 : decode cX12_append 33 = .ok (.aload_n 0, 1) := by decide +kernel
theorem dX12_append_34 : decode cX12_append 34 = .ok (.getfield 89, 3) := by decide +kernel
theorem dX12_append_37 : decode cX12_append 37 = .ok (.ifCond .le 5, 3) := by decide +kernel
theorem dX12_append_40 : decode cX12_append 40 = .ok (.iconst 0, 1) := by decide +kernel
theorem dX12_append_41 : decode cX12_append 41 = .ok (.ireturn, 1) := by decide +kernel
theorem dX12_append_42 : decode cX12_append 42 = .ok (.aload_n 0, 1) := by decide +kernel
theorem dX12_append_43 : decode cX12_append 43 = .ok (.getfield 71, 3) := by decide +kernel
theorem dX12_append_46 : decode cX12_append 46 = .ok (.aload_n 0, 1) := by decide +kernel
theorem dX12_append_47 : decode cX12_append 47 = .ok (.getfield 246, 3) := by decide +kernel
theorem dX12_append_50 : decode cX12_append 50 = .ok (.iload_n 1, 1) := by decide +kernel
theorem dX12_append_51 : decode cX12_append 51 = .ok (.castore, 1) := by decide +kernel
theorem dX12_append_52 : decode cX12_append 52 = .ok (.aload_n 0, 1) := by decide +kernel
theorem dX12_append_53 : decode cX12_append 53 = .ok (.dup, 1) := by decide +kernel
theorem dX12_append_54 : decode cX12_append 54 = .ok (.getfield 246, 3) := by decide +kernel
theorem dX12_append_57 : decode cX12_append 57 = .ok (.iconst 1, 1) := by decide +kernel
theorem dX12_append_58 : decode cX12_append 58 = .ok (.iadd, 1) := by decide +kernel
theorem dX12_append_59 : decode cX12_append 59 = .ok (.putfield 246, 3) := by decide +kernel
theorem dX12_append_62 : decode cX12_append 62 = .ok (.aload_n 0, 1) := by decide +kernel
theorem dX12_append_63 : decode cX12_append 63 = .ok (.getfield 246, 3) := by decide +kernel
theorem dX12_append_66 : decode cX12_append 66 = .ok (.ireturn, 1) := by decide +kernel
def LX12_append_30 (Q : Option Value → az_M → Prop) : az_T := (s_pi 13 5 (s_la 0 (s_gi 13 5 (s_if c_le (s_la 0 (s_gr 13 25 (s_la 0 (s_gi 13 26 (s_li 1 (s_ac (s_la 0 (s_dup (s_gi 13 26 (s_ic (nI 1) (s_bin f_add (s_pi 13 26 (s_la 0 (s_gi 13 26 (s_ri Q))))))))))))))) (s_ic (nI 0) (s_ri Q))))))
theorem okLX12_append_30 {X : az_X} {Q : Option Value → az_M → Prop} (C : az_C X cX12_append 2 RX12 (az_ts yX12_append cX12_append 2 (some .int)) ({ frames := 2, cells := 0, slots := 0, locals := 122 } : Room) (some .int) Q) : az_ok X 30 (LX12_append_30 Q) := by
  have h66 := az_ireturn C rfl dX12_append_66
  have h63 := az_getI (T := TX12) (N := 33) (j := 26) C gwRX12 rfl (by decide) (by decide) iIRX12_26 mFRX12_246 rfl dX12_append_63 h66
  have h62 := az_aload_n C 0 rfl dX12_append_62 h63
  have h59 := az_putI (T := TX12) (N := 33) (j := 26) C gwRX12 rfl (by decide) (by decide) tyX12 tyX12_ok nmX12 iIRX12_26 (by decide +kernel) rfl mFRX12_246 rfl dX12_append_59 h62
  have h58 := az_iadd C dX12_append_58 h59
  have h57 := az_iconst (x := (nI 1)) C dX12_append_57 (by decide +kernel) h58
  have h54 := az_getI (T := TX12) (N := 33) (j := 26) C gwRX12 rfl (by decide) (by decide) iIRX12_26 mFRX12_246 rfl dX12_append_54 h57
  have h53 := az_dup C dX12_append_53 h54
  have h52 := az_aload_n C 0 rfl dX12_append_52 h53
  have h51 := az_cast C dX12_append_51 h52
  have h50 := az_iload_n C 1 rfl dX12_append_50 h51
  have h47 := az_getI (T := TX12) (N := 33) (j := 26) C gwRX12 rfl (by decide) (by decide) iIRX12_26 mFRX12_246 rfl dX12_append_47 h50
  have h46 := az_aload_n C 0 rfl dX12_append_46 h47
  have h43 := az_getR (T := TX12) (N := 33) (j := 25) C gwRX12 rfl (by decide) (by decide) iIRX12_25 mFRX12_71 rfl dX12_append_43 h46
  have h42 := az_aload_n C 0 rfl dX12_append_42 h43
  have h41 := az_ireturn C rfl dX12_append_41
  have h40 := az_iconst (x := (nI 0)) C dX12_append_40 (by decide +kernel) h41
  have h37 := az_if_le (tgt := 42) C dX12_append_37 (by decide) h42 h40
  have h34 := az_getI (T := TX12) (N := 33) (j := 5) C gwRX12 rfl (by decide) (by decide) iIRX12_5 mFRX12_89 rfl dX12_append_34 h37
  have h33 := az_aload_n C 0 rfl dX12_append_33 h34
  have h30 := az_putI (T := TX12) (N := 33) (j := 5) C gwRX12 rfl (by decide) (by decide) tyX12 tyX12_ok nmX12 iIRX12_5 (by decide +kernel) rfl mFRX12_89 rfl dX12_append_30 h33
  exact h30
def PX12_append (Q : Option Value → az_M → Prop) : az_T := (s_la 0 (s_li 1 (s_ic (nI 32) (s_ic (nI 126) (s_cs 3 FX12_in (s_if c_ne (s_la 0 (s_gi 13 26 (s_ic (nI 100) (s_if2 d_ne (s_ic (nI 0) (s_kp [true, true] (LX12_append_30 Q))) (s_ic (nI 2) (s_kp [true, true] (LX12_append_30 Q))))))) (s_ic (nI 1) (s_kp [true, true] (LX12_append_30 Q)))))))))
def FX12_append : az_F := az_fun [true, false] 2 PX12_append
theorem okX12_append (l : Launch) : az_met l yX12_append cX12_append 2 (some .int) ({ frames := 2, cells := 0, slots := 0, locals := 122 } : Room) FX12_append := az_met_of (own := RX12) (by decide +kernel) rfl (by decide) (fun X Q C => by
  have h29 := az_iconst (x := (nI 0)) C dX12_append_29 (by decide +kernel) (az_keep [true, true] (okLX12_append_30 C))
  have h26 := az_goto (tgt := 30) C dX12_append_26 (by decide) (az_keep [true, true] (okLX12_append_30 C))
  have h25 := az_iconst (x := (nI 2)) C dX12_append_25 (by decide +kernel) h26
  have h22 := az_icmp_ne (tgt := 29) C dX12_append_22 (by decide) h29 h25
  have h20 := az_bipush (x := (nI 100)) C dX12_append_20 (by decide +kernel) h22
  have h17 := az_getI (T := TX12) (N := 33) (j := 26) C gwRX12 rfl (by decide) (by decide) iIRX12_26 mFRX12_246 rfl dX12_append_17 h20
  have h16 := az_aload_n C 0 rfl dX12_append_16 h17
  have h13 := az_goto (tgt := 30) C dX12_append_13 (by decide) (az_keep [true, true] (okLX12_append_30 C))
  have h12 := az_iconst (x := (nI 1)) C dX12_append_12 (by decide +kernel) h13
  have h9 := az_if_ne (tgt := 16) C dX12_append_9 (by decide) h16 h12
  have h6 := az_callS C okX12_in knX12_in stX12_in mLRX12_92 ⟨rfl, rfl, by decide, by decide⟩ dX12_append_6 h9
  have h4 := az_bipush (x := (nI 126)) C dX12_append_4 (by decide +kernel) h6
  have h2 := az_bipush (x := (nI 32)) C dX12_append_2 (by decide +kernel) h4
  have h1 := az_iload_n C 1 rfl dX12_append_1 h2
  have h0 := az_aload_n C 0 rfl dX12_append_0 h1
  exact h0) l
theorem dX12_takes_0 : decode cX12_takes 0 = .ok (.aload_n 0, 1) := by decide +kernel
theorem dX12_takes_1 : decode cX12_takes 1 = .ok (.aload_n 0, 1) := by decide +kernel
theorem dX12_takes_2 : decode cX12_takes 2 = .ok (.getfield 249, 3) := by decide +kernel
theorem dX12_takes_5 : decode cX12_takes 5 = .ok (.ifCond .ne 31, 3) := by decide +kernel
theorem dX12_takes_8 : decode cX12_takes 8 = .ok (.aload_n 0, 1) := by decide +kernel
theorem dX12_takes_9 : decode cX12_takes 9 = .ok (.getfield 252, 3) := by decide +kernel
theorem dX12_takes_12 : decode cX12_takes 12 = .ok (.aload_n 0, 1) := by decide +kernel
theorem dX12_takes_13 : decode cX12_takes 13 = .ok (.getfield 246, 3) := by decide +kernel
theorem dX12_takes_16 : decode cX12_takes 16 = .ok (.if_icmp .eq 20, 3) := by decide +kernel
theorem dX12_takes_19 : decode cX12_takes 19 = .ok (.aload_n 0, 1) := by decide +kernel
theorem dX12_takes_20 : decode cX12_takes 20 = .ok (.getfield 71, 3) := by decide +kernel
theorem dX12_takes_23 : decode cX12_takes 23 = .ok (.aload_n 0, 1) := by decide +kernel
theorem dX12_takes_24 : decode cX12_takes 24 = .ok (.getfield 252, 3) := by decide +kernel
theorem dX12_takes_27 : decode cX12_takes 27 = .ok (.caload, 1) := by decide +kernel
theorem dX12_takes_28 : decode cX12_takes 28 = .ok (.iload_n 1, 1) := by decide +kernel
theorem dX12_takes_29 : decode cX12_takes 29 = .ok (.iload_n 2, 1) := by decide +kernel
theorem dX12_takes_30 : decode cX12_takes 30 = .ok (.invokestatic 92, 3) := by decide +kernel
theorem dX12_takes_33 : decode cX12_takes 33 = .ok (.ifCond .ne 7, 3) := by decide +kernel
theorem dX12_takes_36 : decode cX12_takes 36 = .ok (.iconst 1, 1) := by decide +kernel
theorem dX12_takes_37 : decode cX12_takes 37 = .ok (.goto 4, 3) := by decide +kernel
theorem dX12_takes_40 : decode cX12_takes 40 = .ok (.iconst 0, 1) := by decide +kernel
theorem dX12_takes_41 : decode cX12_takes 41 = .ok (.putfield 249, 3) := by decide +kernel
theorem dX12_takes_44 : decode cX12_takes 44 = .ok (.aload_n 0, 1) := by decide +kernel
theorem dX12_takes_45 : decode cX12_takes 45 = .ok (.getfield 249, 3) := by decide +kernel
theorem dX12_takes_48 : decode cX12_takes 48 = .ok (.ifCond .eq 5, 3) := by decide +kernel
theorem dX12_takes_51 : decode cX12_takes 51 = .ok (.iconst 0, 1) := by decide +kernel
theorem dX12_takes_52 : decode cX12_takes 52 = .ok (.ireturn, 1) := by decide +kernel
theorem dX12_takes_53 : decode cX12_takes 53 = .ok (.aload_n 0, 1) := by decide +kernel
theorem dX12_takes_54 : decode cX12_takes 54 = .ok (.dup, 1) := by decide +kernel
theorem dX12_takes_55 : decode cX12_takes 55 = .ok (.getfield 252, 3) := by decide +kernel
theorem dX12_takes_58 : decode cX12_takes 58 = .ok (.iconst 1, 1) := by decide +kernel
theorem dX12_takes_59 : decode cX12_takes 59 = .ok (.iadd, 1) := by decide +kernel
theorem dX12_takes_60 : decode cX12_takes 60 = .ok (.putfield 252, 3) := by decide +kernel
theorem dX12_takes_63 : decode cX12_takes 63 = .ok (.aload_n 0, 1) := by decide +kernel
theorem dX12_takes_64 : decode cX12_takes 64 = .ok (.getfield 71, 3) := by decide +kernel
theorem dX12_takes_67 : decode cX12_takes 67 = .ok (.aload_n 0, 1) := by decide +kernel
theorem dX12_takes_68 : decode cX12_takes 68 = .ok (.getfield 252, 3) := by decide +kernel
theorem dX12_takes_71 : decode cX12_takes 71 = .ok (.iconst 1, 1) := by decide +kernel
theorem dX12_takes_72 : decode cX12_takes 72 = .ok (.isub, 1) := by decide +kernel
theorem dX12_takes_73 : decode cX12_takes 73 = .ok (.caload, 1) := by decide +kernel
theorem dX12_takes_74 : decode cX12_takes 74 = .ok (.iload_n 1, 1) := by decide +kernel
theorem dX12_takes_75 : decode cX12_takes 75 = .ok (.isub, 1) := by decide +kernel
theorem dX12_takes_76 : decode cX12_takes 76 = .ok (.ireturn, 1) := by decide +kernel
def LX12_takes_41 (Q : Option Value → az_M → Prop) : az_T := (s_pz 13 28 (s_la 0 (s_gi 13 28 (s_if c_eq (s_la 0 (s_dup (s_gi 13 27 (s_ic (nI 1) (s_bin f_add (s_pi 13 27 (s_la 0 (s_gr 13 25 (s_la 0 (s_gi 13 27 (s_ic (nI 1) (s_bin f_sub (s_al 22 (s_li 1 (s_bin f_sub (s_ri Q)))))))))))))))) (s_ic (nI 0) (s_ri Q))))))
theorem okLX12_takes_41 {X : az_X} {Q : Option Value → az_M → Prop} (C : az_C X cX12_takes 3 RX12 (az_ts yX12_takes cX12_takes 3 (some .int)) ({ frames := 2, cells := 0, slots := 0, locals := 122 } : Room) (some .int) Q) : az_ok X 41 (LX12_takes_41 Q) := by
  have h76 := az_ireturn C rfl dX12_takes_76
  have h75 := az_isub C dX12_takes_75 h76
  have h74 := az_iload_n C 1 rfl dX12_takes_74 h75
  have h73 := az_cald C dX12_takes_73 h74
  have h72 := az_isub C dX12_takes_72 h73
  have h71 := az_iconst (x := (nI 1)) C dX12_takes_71 (by decide +kernel) h72
  have h68 := az_getI (T := TX12) (N := 33) (j := 27) C gwRX12 rfl (by decide) (by decide) iIRX12_27 mFRX12_252 rfl dX12_takes_68 h71
  have h67 := az_aload_n C 0 rfl dX12_takes_67 h68
  have h64 := az_getR (T := TX12) (N := 33) (j := 25) C gwRX12 rfl (by decide) (by decide) iIRX12_25 mFRX12_71 rfl dX12_takes_64 h67
  have h63 := az_aload_n C 0 rfl dX12_takes_63 h64
  have h60 := az_putI (T := TX12) (N := 33) (j := 27) C gwRX12 rfl (by decide) (by decide) tyX12 tyX12_ok nmX12 iIRX12_27 (by decide +kernel) rfl mFRX12_252 rfl dX12_takes_60 h63
  have h59 := az_iadd C dX12_takes_59 h60
  have h58 := az_iconst (x := (nI 1)) C dX12_takes_58 (by decide +kernel) h59
  have h55 := az_getI (T := TX12) (N := 33) (j := 27) C gwRX12 rfl (by decide) (by decide) iIRX12_27 mFRX12_252 rfl dX12_takes_55 h58
  have h54 := az_dup C dX12_takes_54 h55
  have h53 := az_aload_n C 0 rfl dX12_takes_53 h54
  have h52 := az_ireturn C rfl dX12_takes_52
  have h51 := az_iconst (x := (nI 0)) C dX12_takes_51 (by decide +kernel) h52
  have h48 := az_if_eq (tgt := 53) C dX12_takes_48 (by decide) h53 h51
  have h45 := az_getI (T := TX12) (N := 33) (j := 28) C gwRX12 rfl (by decide) (by decide) iIRX12_28 mFRX12_249 rfl dX12_takes_45 h48
  have h44 := az_aload_n C 0 rfl dX12_takes_44 h45
  have h41 := az_putZ (T := TX12) (N := 33) (j := 28) C gwRX12 rfl (by decide) (by decide) tyX12 tyX12_ok nmX12 iIRX12_28 (by decide +kernel) rfl mFRX12_249 rfl dX12_takes_41 h44
  exact h41
def LX12_takes_36 (Q : Option Value → az_M → Prop) : az_T := (s_ic (nI 1) (s_kp [true, true, false] (LX12_takes_41 Q)))
theorem okLX12_takes_36 {X : az_X} {Q : Option Value → az_M → Prop} (C : az_C X cX12_takes 3 RX12 (az_ts yX12_takes cX12_takes 3 (some .int)) ({ frames := 2, cells := 0, slots := 0, locals := 122 } : Room) (some .int) Q) : az_ok X 36 (LX12_takes_36 Q) := by
  have h37 := az_goto (tgt := 41) C dX12_takes_37 (by decide) (az_keep [true, true, false] (okLX12_takes_41 C))
  have h36 := az_iconst (x := (nI 1)) C dX12_takes_36 (by decide +kernel) h37
  exact h36
def PX12_takes (Q : Option Value → az_M → Prop) : az_T := (s_la 0 (s_la 0 (s_gi 13 28 (s_if c_ne (s_kp [true, true, false] (LX12_takes_36 Q)) (s_la 0 (s_gi 13 27 (s_la 0 (s_gi 13 26 (s_if2 d_eq (s_kp [true, true, false] (LX12_takes_36 Q)) (s_la 0 (s_gr 13 25 (s_la 0 (s_gi 13 27 (s_al 22 (s_li 1 (s_li 2 (s_cs 3 FX12_in (s_if c_ne (s_ic (nI 0) (s_kp [true, true, false] (LX12_takes_41 Q))) (s_kp [true, true, false] (LX12_takes_36 Q))))))))))))))))))))
def FX12_takes : az_F := az_fun [true, false, false] 3 PX12_takes
theorem okX12_takes (l : Launch) : az_met l yX12_takes cX12_takes 3 (some .int) ({ frames := 2, cells := 0, slots := 0, locals := 122 } : Room) FX12_takes := az_met_of (own := RX12) (by decide +kernel) rfl (by decide) (fun X Q C => by
  have h40 := az_iconst (x := (nI 0)) C dX12_takes_40 (by decide +kernel) (az_keep [true, true, false] (okLX12_takes_41 C))
  have h33 := az_if_ne (tgt := 40) C dX12_takes_33 (by decide) h40 (az_keep [true, true, false] (okLX12_takes_36 C))
  have h30 := az_callS C okX12_in knX12_in stX12_in mLRX12_92 ⟨rfl, rfl, by decide, by decide⟩ dX12_takes_30 h33
  have h29 := az_iload_n C 2 rfl dX12_takes_29 h30
  have h28 := az_iload_n C 1 rfl dX12_takes_28 h29
  have h27 := az_cald C dX12_takes_27 h28
  have h24 := az_getI (T := TX12) (N := 33) (j := 27) C gwRX12 rfl (by decide) (by decide) iIRX12_27 mFRX12_252 rfl dX12_takes_24 h27
  have h23 := az_aload_n C 0 rfl dX12_takes_23 h24
  have h20 := az_getR (T := TX12) (N := 33) (j := 25) C gwRX12 rfl (by decide) (by decide) iIRX12_25 mFRX12_71 rfl dX12_takes_20 h23
  have h19 := az_aload_n C 0 rfl dX12_takes_19 h20
  have h16 := az_icmp_eq (tgt := 36) C dX12_takes_16 (by decide) (az_keep [true, true, false] (okLX12_takes_36 C)) h19
  have h13 := az_getI (T := TX12) (N := 33) (j := 26) C gwRX12 rfl (by decide) (by decide) iIRX12_26 mFRX12_246 rfl dX12_takes_13 h16
  have h12 := az_aload_n C 0 rfl dX12_takes_12 h13
  have h9 := az_getI (T := TX12) (N := 33) (j := 27) C gwRX12 rfl (by decide) (by decide) iIRX12_27 mFRX12_252 rfl dX12_takes_9 h12
  have h8 := az_aload_n C 0 rfl dX12_takes_8 h9
  have h5 := az_if_ne (tgt := 36) C dX12_takes_5 (by decide) (az_keep [true, true, false] (okLX12_takes_36 C)) h8
  have h2 := az_getI (T := TX12) (N := 33) (j := 28) C gwRX12 rfl (by decide) (by decide) iIRX12_28 mFRX12_249 rfl dX12_takes_2 h5
  have h1 := az_aload_n C 0 rfl dX12_takes_1 h2
  have h0 := az_aload_n C 0 rfl dX12_takes_0 h1
  exact h0) l
theorem dX12_readRow_0 : decode cX12_readRow 0 = .ok (.aload_n 0, 1) := by decide +kernel
theorem dX12_readRow_1 : decode cX12_readRow 1 = .ok (.getfield 79, 3) := by decide +kernel
theorem dX12_readRow_4 : decode cX12_readRow 4 = .ok (.aload_n 0, 1) := by decide +kernel
theorem dX12_readRow_5 : decode cX12_readRow 5 = .ok (.getfield 255, 3) := by decide +kernel
theorem dX12_readRow_8 : decode cX12_readRow 8 = .ok (.aload_n 0, 1) := by decide +kernel
theorem dX12_readRow_9 : decode cX12_readRow 9 = .ok (.bipush 48, 2) := by decide +kernel
theorem dX12_readRow_11 : decode cX12_readRow 11 = .ok (.bipush 53, 2) := by decide +kernel
theorem dX12_readRow_13 : decode cX12_readRow 13 = .ok (.invokevirtual 258, 3) := by decide +kernel
theorem dX12_readRow_16 : decode cX12_readRow 16 = .ok (.iastore, 1) := by decide +kernel
theorem dX12_readRow_17 : decode cX12_readRow 17 = .ok (.aload_n 0, 1) := by decide +kernel
theorem dX12_readRow_18 : decode cX12_readRow 18 = .ok (.bipush 61, 2) := by decide +kernel
theorem dX12_readRow_20 : decode cX12_readRow 20 = .ok (.bipush 61, 2) := by decide +kernel
theorem dX12_readRow_22 : decode cX12_readRow 22 = .ok (.invokevirtual 258, 3) := by decide +kernel
theorem dX12_readRow_25 : decode cX12_readRow 25 = .ok (.istore_n 1, 1) := by decide +kernel
theorem dX12_readRow_26 : decode cX12_readRow 26 = .ok (.aload_n 0, 1) := by decide +kernel
theorem dX12_readRow_27 : decode cX12_readRow 27 = .ok (.getfield 82, 3) := by decide +kernel
theorem dX12_readRow_30 : decode cX12_readRow 30 = .ok (.aload_n 0, 1) := by decide +kernel
theorem dX12_readRow_31 : decode cX12_readRow 31 = .ok (.getfield 255, 3) := by decide +kernel
theorem dX12_readRow_34 : decode cX12_readRow 34 = .ok (.iconst 0, 1) := by decide +kernel
theorem dX12_readRow_35 : decode cX12_readRow 35 = .ok (.iastore, 1) := by decide +kernel
theorem dX12_readRow_36 : decode cX12_readRow 36 = .ok (.iconst 0, 1) := by decide +kernel
theorem dX12_readRow_37 : decode cX12_readRow 37 = .ok (.istore_n 2, 1) := by decide +kernel
theorem dX12_readRow_38 : decode cX12_readRow 38 = .ok (.iload_n 2, 1) := by decide +kernel
theorem dX12_readRow_39 : decode cX12_readRow 39 = .ok (.aload_n 0, 1) := by decide +kernel
theorem dX12_readRow_40 : decode cX12_readRow 40 = .ok (.getfield 9, 3) := by decide +kernel
theorem dX12_readRow_43 : decode cX12_readRow 43 = .ok (.iconst 0, 1) := by decide +kernel
theorem dX12_readRow_44 : decode cX12_readRow 44 = .ok (.iaload, 1) := by decide +kernel
theorem dX12_readRow_45 : decode cX12_readRow 45 = .ok (.if_icmp .ge 31, 3) := by decide +kernel
theorem dX12_readRow_48 : decode cX12_readRow 48 = .ok (.aload_n 0, 1) := by decide +kernel
theorem dX12_readRow_49 : decode cX12_readRow 49 = .ok (.getfield 82, 3) := by decide +kernel
theorem dX12_readRow_52 : decode cX12_readRow 52 = .ok (.aload_n 0, 1) := by decide +kernel
theorem dX12_readRow_53 : decode cX12_readRow 53 = .ok (.getfield 255, 3) := by decide +kernel
theorem dX12_readRow_56 : decode cX12_readRow 56 = .ok (.dup2, 1) := by decide +kernel
theorem dX12_readRow_57 : decode cX12_readRow 57 = .ok (.iaload, 1) := by decide +kernel
theorem dX12_readRow_58 : decode cX12_readRow 58 = .ok (.aload_n 0, 1) := by decide +kernel
theorem dX12_readRow_59 : decode cX12_readRow 59 = .ok (.bipush 48, 2) := by decide +kernel
theorem dX12_readRow_61 : decode cX12_readRow 61 = .ok (.bipush 49, 2) := by decide +kernel
theorem dX12_readRow_63 : decode cX12_readRow 63 = .ok (.invokevirtual 258, 3) := by decide +kernel
theorem dX12_readRow_66 : decode cX12_readRow 66 = .ok (.iload_n 2, 1) := by decide +kernel
theorem dX12_readRow_67 : decode cX12_readRow 67 = .ok (.ishl, 1) := by decide +kernel
theorem dX12_readRow_68 : decode cX12_readRow 68 = .ok (.ior, 1) := by decide +kernel
theorem dX12_readRow_69 : decode cX12_readRow 69 = .ok (.iastore, 1) := by decide +kernel
theorem dX12_readRow_70 : decode cX12_readRow 70 = .ok (.iinc 2 1, 3) := by decide +kernel
theorem dX12_readRow_73 : decode cX12_readRow 73 = .ok (.goto (-35), 3) := by decide +kernel
theorem dX12_readRow_76 : decode cX12_readRow 76 = .ok (.aload_n 0, 1) := by decide +kernel
theorem dX12_readRow_77 : decode cX12_readRow 77 = .ok (.dup, 1) := by decide +kernel
theorem dX12_readRow_78 : decode cX12_readRow 78 = .ok (.getfield 255, 3) := by decide +kernel
theorem dX12_readRow_81 : decode cX12_readRow 81 = .ok (.iconst 1, 1) := by decide +kernel
theorem dX12_readRow_82 : decode cX12_readRow 82 = .ok (.iadd, 1) := by decide +kernel
theorem dX12_readRow_83 : decode cX12_readRow 83 = .ok (.putfield 255, 3) := by decide +kernel
theorem dX12_readRow_86 : decode cX12_readRow 86 = .ok (.return_, 1) := by decide +kernel
def BX12_readRow_38 (Q : Option Value → az_M → Prop) (Z38 : az_T) : az_T := (s_li 2 (s_la 0 (s_gr 13 0 (s_ic (nI 0) (s_al 20 (s_if2 d_ge (s_la 0 (s_dup (s_gi 13 32 (s_ic (nI 1) (s_bin f_add (s_pi 13 32 (s_rv Q))))))) (s_la 0 (s_gr 13 31 (s_la 0 (s_gi 13 32 (s_dup2 (s_al 20 (s_la 0 (s_ic (nI 48) (s_ic (nI 49) (s_cv 2 13 FX12_takes (s_li 2 (s_bin f_shl (s_bin f_or (s_as (s_inc 2 (nI 1) (s_kp [true, false, true] Z38))))))))))))))))))))))
theorem okBX12_readRow_38 {X : az_X} {Q : Option Value → az_M → Prop} (C : az_C X cX12_readRow 3 RX12 (az_ts yX12_readRow cX12_readRow 3 none) ({ frames := 3, cells := 0, slots := 0, locals := 144 } : Room) none Q) {Z38 : az_T} (hZ38 : az_ok X 38 Z38) : az_ok X 38 (BX12_readRow_38 Q Z38) := by
  have h86 := az_vreturn C rfl dX12_readRow_86
  have h83 := az_putI (T := TX12) (N := 33) (j := 32) C gwRX12 rfl (by decide) (by decide) tyX12 tyX12_ok nmX12 iIRX12_32 (by decide +kernel) rfl mFRX12_255 rfl dX12_readRow_83 h86
  have h82 := az_iadd C dX12_readRow_82 h83
  have h81 := az_iconst (x := (nI 1)) C dX12_readRow_81 (by decide +kernel) h82
  have h78 := az_getI (T := TX12) (N := 33) (j := 32) C gwRX12 rfl (by decide) (by decide) iIRX12_32 mFRX12_255 rfl dX12_readRow_78 h81
  have h77 := az_dup C dX12_readRow_77 h78
  have h76 := az_aload_n C 0 rfl dX12_readRow_76 h77
  have h73 := az_goto (tgt := 38) C dX12_readRow_73 (by decide) (az_keep [true, false, true] hZ38)
  have h70 := az_iinc (v := (nI 1)) C (by decide) (by decide +kernel) dX12_readRow_70 h73
  have h69 := az_iast C dX12_readRow_69 h70
  have h68 := az_ior C dX12_readRow_68 h69
  have h67 := az_ishl C dX12_readRow_67 h68
  have h66 := az_iload_n C 2 rfl dX12_readRow_66 h67
  have h63 := az_callV (ci := 13) C okX12_takes knX12_takes imX12_takes seX12_takes mLRX12_258 rfl (by decide) ⟨rfl, rfl, by decide, by decide⟩ dX12_readRow_63 h66
  have h61 := az_bipush (x := (nI 49)) C dX12_readRow_61 (by decide +kernel) h63
  have h59 := az_bipush (x := (nI 48)) C dX12_readRow_59 (by decide +kernel) h61
  have h58 := az_aload_n C 0 rfl dX12_readRow_58 h59
  have h57 := az_iald C dX12_readRow_57 h58
  have h56 := az_dup2 C dX12_readRow_56 h57
  have h53 := az_getI (T := TX12) (N := 33) (j := 32) C gwRX12 rfl (by decide) (by decide) iIRX12_32 mFRX12_255 rfl dX12_readRow_53 h56
  have h52 := az_aload_n C 0 rfl dX12_readRow_52 h53
  have h49 := az_getR (T := TX12) (N := 33) (j := 31) C gwRX12 rfl (by decide) (by decide) iIRX12_31 mFRX12_82 rfl dX12_readRow_49 h52
  have h48 := az_aload_n C 0 rfl dX12_readRow_48 h49
  have h45 := az_icmp_ge (tgt := 76) C dX12_readRow_45 (by decide) h76 h48
  have h44 := az_iald C dX12_readRow_44 h45
  have h43 := az_iconst (x := (nI 0)) C dX12_readRow_43 (by decide +kernel) h44
  have h40 := az_getR (T := TX12) (N := 33) (j := 0) C gwRX12 rfl (by decide) (by decide) iIRX12_0 mFRX12_9 rfl dX12_readRow_40 h43
  have h39 := az_aload_n C 0 rfl dX12_readRow_39 h40
  have h38 := az_iload_n C 2 rfl dX12_readRow_38 h39
  exact h38
def LX12_readRow_38 (Q : Option Value → az_M → Prop) : az_T := s_lp (fun Z => BX12_readRow_38 Q Z)
theorem okLX12_readRow_38 {X : az_X} {Q : Option Value → az_M → Prop} (C : az_C X cX12_readRow 3 RX12 (az_ts yX12_readRow cX12_readRow 3 none) ({ frames := 3, cells := 0, slots := 0, locals := 144 } : Room) none Q) : az_ok X 38 (LX12_readRow_38 Q) := az_loop (F := fun Z => BX12_readRow_38 Q Z) (fun _ hZ => okBX12_readRow_38 C hZ)
def PX12_readRow (Q : Option Value → az_M → Prop) : az_T := (s_la 0 (s_gr 13 30 (s_la 0 (s_gi 13 32 (s_la 0 (s_ic (nI 48) (s_ic (nI 53) (s_cv 2 13 FX12_takes (s_as (s_la 0 (s_ic (nI 61) (s_ic (nI 61) (s_cv 2 13 FX12_takes (s_si 1 (s_la 0 (s_gr 13 31 (s_la 0 (s_gi 13 32 (s_ic (nI 0) (s_as (s_ic (nI 0) (s_si 2 (s_kp [true, false, true] (LX12_readRow_38 Q))))))))))))))))))))))))
def FX12_readRow : az_F := az_fun [true] 3 PX12_readRow
theorem okX12_readRow (l : Launch) : az_met l yX12_readRow cX12_readRow 3 none ({ frames := 3, cells := 0, slots := 0, locals := 144 } : Room) FX12_readRow := az_met_of (own := RX12) (by decide +kernel) rfl (by decide) (fun X Q C => by
  have h37 := az_istore_n C 2 rfl (by decide) dX12_readRow_37 (az_keep [true, false, true] (okLX12_readRow_38 C))
  have h36 := az_iconst (x := (nI 0)) C dX12_readRow_36 (by decide +kernel) h37
  have h35 := az_iast C dX12_readRow_35 h36
  have h34 := az_iconst (x := (nI 0)) C dX12_readRow_34 (by decide +kernel) h35
  have h31 := az_getI (T := TX12) (N := 33) (j := 32) C gwRX12 rfl (by decide) (by decide) iIRX12_32 mFRX12_255 rfl dX12_readRow_31 h34
  have h30 := az_aload_n C 0 rfl dX12_readRow_30 h31
  have h27 := az_getR (T := TX12) (N := 33) (j := 31) C gwRX12 rfl (by decide) (by decide) iIRX12_31 mFRX12_82 rfl dX12_readRow_27 h30
  have h26 := az_aload_n C 0 rfl dX12_readRow_26 h27
  have h25 := az_istore_n C 1 rfl (by decide) dX12_readRow_25 h26
  have h22 := az_callV (ci := 13) C okX12_takes knX12_takes imX12_takes seX12_takes mLRX12_258 rfl (by decide) ⟨rfl, rfl, by decide, by decide⟩ dX12_readRow_22 h25
  have h20 := az_bipush (x := (nI 61)) C dX12_readRow_20 (by decide +kernel) h22
  have h18 := az_bipush (x := (nI 61)) C dX12_readRow_18 (by decide +kernel) h20
  have h17 := az_aload_n C 0 rfl dX12_readRow_17 h18
  have h16 := az_iast C dX12_readRow_16 h17
  have h13 := az_callV (ci := 13) C okX12_takes knX12_takes imX12_takes seX12_takes mLRX12_258 rfl (by decide) ⟨rfl, rfl, by decide, by decide⟩ dX12_readRow_13 h16
  have h11 := az_bipush (x := (nI 53)) C dX12_readRow_11 (by decide +kernel) h13
  have h9 := az_bipush (x := (nI 48)) C dX12_readRow_9 (by decide +kernel) h11
  have h8 := az_aload_n C 0 rfl dX12_readRow_8 h9
  have h5 := az_getI (T := TX12) (N := 33) (j := 32) C gwRX12 rfl (by decide) (by decide) iIRX12_32 mFRX12_255 rfl dX12_readRow_5 h8
  have h4 := az_aload_n C 0 rfl dX12_readRow_4 h5
  have h1 := az_getR (T := TX12) (N := 33) (j := 30) C gwRX12 rfl (by decide) (by decide) iIRX12_30 mFRX12_79 rfl dX12_readRow_1 h4
  have h0 := az_aload_n C 0 rfl dX12_readRow_0 h1
  exact h0) l
theorem dX12_readPlan_0 : decode cX12_readPlan 0 = .ok (.aload_n 0, 1) := by decide +kernel
theorem dX12_readPlan_1 : decode cX12_readPlan 1 = .ok (.iconst 0, 1) := by decide +kernel
theorem dX12_readPlan_2 : decode cX12_readPlan 2 = .ok (.putfield 252, 3) := by decide +kernel
theorem dX12_readPlan_5 : decode cX12_readPlan 5 = .ok (.aload_n 0, 1) := by decide +kernel
theorem dX12_readPlan_6 : decode cX12_readPlan 6 = .ok (.iconst 0, 1) := by decide +kernel
theorem dX12_readPlan_7 : decode cX12_readPlan 7 = .ok (.putfield 249, 3) := by decide +kernel
theorem dX12_readPlan_10 : decode cX12_readPlan 10 = .ok (.aload_n 0, 1) := by decide +kernel
theorem dX12_readPlan_11 : decode cX12_readPlan 11 = .ok (.iconst 0, 1) := by decide +kernel
theorem dX12_readPlan_12 : decode cX12_readPlan 12 = .ok (.putfield 255, 3) := by decide +kernel
theorem dX12_readPlan_15 : decode cX12_readPlan 15 = .ok (.aload_n 0, 1) := by decide +kernel
theorem dX12_readPlan_16 : decode cX12_readPlan 16 = .ok (.invokevirtual 261, 3) := by decide +kernel
theorem dX12_readPlan_19 : decode cX12_readPlan 19 = .ok (.aload_n 0, 1) := by decide +kernel
theorem dX12_readPlan_20 : decode cX12_readPlan 20 = .ok (.getfield 249, 3) := by decide +kernel
theorem dX12_readPlan_23 : decode cX12_readPlan 23 = .ok (.ifCond .ne 37, 3) := by decide +kernel
theorem dX12_readPlan_26 : decode cX12_readPlan 26 = .ok (.aload_n 0, 1) := by decide +kernel
theorem dX12_readPlan_27 : decode cX12_readPlan 27 = .ok (.getfield 252, 3) := by decide +kernel
theorem dX12_readPlan_30 : decode cX12_readPlan 30 = .ok (.aload_n 0, 1) := by decide +kernel
theorem dX12_readPlan_31 : decode cX12_readPlan 31 = .ok (.getfield 246, 3) := by decide +kernel
theorem dX12_readPlan_34 : decode cX12_readPlan 34 = .ok (.if_icmp .ge 26, 3) := by decide +kernel
theorem dX12_readPlan_37 : decode cX12_readPlan 37 = .ok (.aload_n 0, 1) := by decide +kernel
theorem dX12_readPlan_38 : decode cX12_readPlan 38 = .ok (.bipush 59, 2) := by decide +kernel
theorem dX12_readPlan_40 : decode cX12_readPlan 40 = .ok (.bipush 59, 2) := by decide +kernel
theorem dX12_readPlan_42 : decode cX12_readPlan 42 = .ok (.invokevirtual 258, 3) := by decide +kernel
theorem dX12_readPlan_45 : decode cX12_readPlan 45 = .ok (.istore_n 1, 1) := by decide +kernel
theorem dX12_readPlan_46 : decode cX12_readPlan 46 = .ok (.aload_n 0, 1) := by decide +kernel
theorem dX12_readPlan_47 : decode cX12_readPlan 47 = .ok (.getfield 249, 3) := by decide +kernel
theorem dX12_readPlan_50 : decode cX12_readPlan 50 = .ok (.ifCond .ne 7, 3) := by decide +kernel
theorem dX12_readPlan_53 : decode cX12_readPlan 53 = .ok (.aload_n 0, 1) := by decide +kernel
theorem dX12_readPlan_54 : decode cX12_readPlan 54 = .ok (.invokevirtual 261, 3) := by decide +kernel
theorem dX12_readPlan_57 : decode cX12_readPlan 57 = .ok (.goto (-38), 3) := by decide +kernel
theorem dX12_readPlan_60 : decode cX12_readPlan 60 = .ok (.aload_n 0, 1) := by decide +kernel
theorem dX12_readPlan_61 : decode cX12_readPlan 61 = .ok (.iconst 0, 1) := by decide +kernel
theorem dX12_readPlan_62 : decode cX12_readPlan 62 = .ok (.putfield 246, 3) := by decide +kernel
theorem dX12_readPlan_65 : decode cX12_readPlan 65 = .ok (.aload_n 0, 1) := by decide +kernel
theorem dX12_readPlan_66 : decode cX12_readPlan 66 = .ok (.aload_n 0, 1) := by decide +kernel
theorem dX12_readPlan_67 : decode cX12_readPlan 67 = .ok (.getfield 249, 3) := by decide +kernel
theorem dX12_readPlan_70 : decode cX12_readPlan 70 = .ok (.ifCond .eq 7, 3) := by decide +kernel
theorem dX12_readPlan_73 : decode cX12_readPlan 73 = .ok (.iconst 1, 1) := by decide +kernel
theorem dX12_readPlan_74 : decode cX12_readPlan 74 = .ok (.goto 4, 3) := by decide +kernel
theorem dX12_readPlan_77 : decode cX12_readPlan 77 = .ok (.iconst 0, 1) := by decide +kernel
theorem dX12_readPlan_78 : decode cX12_readPlan 78 = .ok (.putfield 89, 3) := by decide +kernel
theorem dX12_readPlan_81 : decode cX12_readPlan 81 = .ok (.aload_n 0, 1) := by decide +kernel
theorem dX12_readPlan_82 : decode cX12_readPlan 82 = .ok (.aload_n 0, 1) := by decide +kernel
theorem dX12_readPlan_83 : decode cX12_readPlan 83 = .ok (.getfield 249, 3) := by decide +kernel
theorem dX12_readPlan_86 : decode cX12_readPlan 86 = .ok (.ifCond .eq 10, 3) := by decide +kernel
theorem dX12_readPlan_89 : decode cX12_readPlan 89 = .ok (.aload_n 0, 1) := by decide +kernel
theorem dX12_readPlan_90 : decode cX12_readPlan 90 = .ok (.getfield 252, 3) := by decide +kernel
theorem dX12_readPlan_93 : decode cX12_readPlan 93 = .ok (.goto 7, 3) := by decide +kernel
theorem dX12_readPlan_96 : decode cX12_readPlan 96 = .ok (.aload_n 0, 1) := by decide +kernel
theorem dX12_readPlan_97 : decode cX12_readPlan 97 = .ok (.getfield 75, 3) := by decide +kernel
theorem dX12_readPlan_100 : decode cX12_readPlan 100 = .ok (.putfield 75, 3) := by decide +kernel
theorem dX12_readPlan_103 : decode cX12_readPlan 103 = .ok (.iconst 0, 1) := by decide +kernel
theorem dX12_readPlan_104 : decode cX12_readPlan 104 = .ok (.istore_n 1, 1) := by decide +kernel
theorem dX12_readPlan_105 : decode cX12_readPlan 105 = .ok (.iload_n 1, 1) := by decide +kernel
theorem dX12_readPlan_106 : decode cX12_readPlan 106 = .ok (.aload_n 0, 1) := by decide +kernel
theorem dX12_readPlan_107 : decode cX12_readPlan 107 = .ok (.getfield 255, 3) := by decide +kernel
theorem dX12_readPlan_110 : decode cX12_readPlan 110 = .ok (.if_icmp .ge 38, 3) := by decide +kernel
theorem dX12_readPlan_113 : decode cX12_readPlan 113 = .ok (.aload_n 0, 1) := by decide +kernel
theorem dX12_readPlan_114 : decode cX12_readPlan 114 = .ok (.getfield 89, 3) := by decide +kernel
theorem dX12_readPlan_117 : decode cX12_readPlan 117 = .ok (.ifCond .ne 31, 3) := by decide +kernel
theorem dX12_readPlan_120 : decode cX12_readPlan 120 = .ok (.aload_n 0, 1) := by decide +kernel
theorem dX12_readPlan_121 : decode cX12_readPlan 121 = .ok (.aload_n 0, 1) := by decide +kernel
theorem dX12_readPlan_122 : decode cX12_readPlan 122 = .ok (.aload_n 0, 1) := by decide +kernel
theorem dX12_readPlan_123 : decode cX12_readPlan 123 = .ok (.getfield 79, 3) := by decide +kernel
theorem dX12_readPlan_126 : decode cX12_readPlan 126 = .ok (.iload_n 1, 1) := by decide +kernel
theorem dX12_readPlan_127 : decode cX12_readPlan 127 = .ok (.iaload, 1) := by decide +kernel
theorem dX12_readPlan_128 : decode cX12_readPlan 128 = .ok (.invokevirtual 131, 3) := by decide +kernel
theorem dX12_readPlan_131 : decode cX12_readPlan 131 = .ok (.ifCond .eq 7, 3) := by decide +kernel
theorem dX12_readPlan_134 : decode cX12_readPlan 134 = .ok (.iconst 0, 1) := by decide +kernel
theorem dX12_readPlan_135 : decode cX12_readPlan 135 = .ok (.goto 4, 3) := by decide +kernel
theorem dX12_readPlan_138 : decode cX12_readPlan 138 = .ok (.iconst 2, 1) := by decide +kernel
theorem dX12_readPlan_139 : decode cX12_readPlan 139 = .ok (.putfield 89, 3) := by decide +kernel
theorem dX12_readPlan_142 : decode cX12_readPlan 142 = .ok (.iinc 1 1, 3) := by decide +kernel
theorem dX12_readPlan_145 : decode cX12_readPlan 145 = .ok (.goto (-40), 3) := by decide +kernel
theorem dX12_readPlan_148 : decode cX12_readPlan 148 = .ok (.aload_n 0, 1) := by decide +kernel
theorem dX12_readPlan_149 : decode cX12_readPlan 149 = .ok (.getfield 89, 3) := by decide +kernel
theorem dX12_readPlan_152 : decode cX12_readPlan 152 = .ok (.ifCond .le 5, 3) := by decide +kernel
theorem dX12_readPlan_155 : decode cX12_readPlan 155 = .ok (.iconst 0, 1) := by decide +kernel
theorem dX12_readPlan_156 : decode cX12_readPlan 156 = .ok (.ireturn, 1) := by decide +kernel
theorem dX12_readPlan_157 : decode cX12_readPlan 157 = .ok (.aload_n 0, 1) := by decide +kernel
theorem dX12_readPlan_158 : decode cX12_readPlan 158 = .ok (.invokevirtual 120, 3) := by decide +kernel
theorem dX12_readPlan_161 : decode cX12_readPlan 161 = .ok (.iconst 0, 1) := by decide +kernel
theorem dX12_readPlan_162 : decode cX12_readPlan 162 = .ok (.istore_n 1, 1) := by decide +kernel
theorem dX12_readPlan_163 : decode cX12_readPlan 163 = .ok (.iload_n 1, 1) := by decide +kernel
theorem dX12_readPlan_164 : decode cX12_readPlan 164 = .ok (.aload_n 0, 1) := by decide +kernel
theorem dX12_readPlan_165 : decode cX12_readPlan 165 = .ok (.getfield 255, 3) := by decide +kernel
theorem dX12_readPlan_168 : decode cX12_readPlan 168 = .ok (.if_icmp .ge 31, 3) := by decide +kernel
theorem dX12_readPlan_171 : decode cX12_readPlan 171 = .ok (.aload_n 0, 1) := by decide +kernel
theorem dX12_readPlan_172 : decode cX12_readPlan 172 = .ok (.getfield 9, 3) := by decide +kernel
theorem dX12_readPlan_175 : decode cX12_readPlan 175 = .ok (.aload_n 0, 1) := by decide +kernel
theorem dX12_readPlan_176 : decode cX12_readPlan 176 = .ok (.getfield 79, 3) := by decide +kernel
theorem dX12_readPlan_179 : decode cX12_readPlan 179 = .ok (.iload_n 1, 1) := by decide +kernel
theorem dX12_readPlan_180 : decode cX12_readPlan 180 = .ok (.iaload, 1) := by decide +kernel
theorem dX12_readPlan_181 : decode cX12_readPlan 181 = .ok (.bipush 13, 2) := by decide +kernel
theorem dX12_readPlan_183 : decode cX12_readPlan 183 = .ok (.invokestatic 96, 3) := by decide +kernel
theorem dX12_readPlan_186 : decode cX12_readPlan 186 = .ok (.aload_n 0, 1) := by decide +kernel
theorem dX12_readPlan_187 : decode cX12_readPlan 187 = .ok (.getfield 82, 3) := by decide +kernel
theorem dX12_readPlan_190 : decode cX12_readPlan 190 = .ok (.iload_n 1, 1) := by decide +kernel
theorem dX12_readPlan_191 : decode cX12_readPlan 191 = .ok (.iaload, 1) := by decide +kernel
theorem dX12_readPlan_192 : decode cX12_readPlan 192 = .ok (.iastore, 1) := by decide +kernel
theorem dX12_readPlan_193 : decode cX12_readPlan 193 = .ok (.iinc 1 1, 3) := by decide +kernel
theorem dX12_readPlan_196 : decode cX12_readPlan 196 = .ok (.goto (-33), 3) := by decide +kernel
theorem dX12_readPlan_199 : decode cX12_readPlan 199 = .ok (.aload_n 0, 1) := by decide +kernel
theorem dX12_readPlan_200 : decode cX12_readPlan 200 = .ok (.getfield 255, 3) := by decide +kernel
theorem dX12_readPlan_203 : decode cX12_readPlan 203 = .ok (.ireturn, 1) := by decide +kernel
def BX12_readPlan_163 (Q : Option Value → az_M → Prop) (Z163 : az_T) : az_T := (s_li 1 (s_la 0 (s_gi 13 32 (s_if2 d_ge (s_la 0 (s_gi 13 32 (s_ri Q))) (s_la 0 (s_gr 13 0 (s_la 0 (s_gr 13 30 (s_li 1 (s_al 20 (s_ic (nI 13) (s_cs 2 FX12_at (s_la 0 (s_gr 13 31 (s_li 1 (s_al 20 (s_as (s_inc 1 (nI 1) (s_kp [true, true] Z163)))))))))))))))))))
theorem okBX12_readPlan_163 {X : az_X} {Q : Option Value → az_M → Prop} (C : az_C X cX12_readPlan 2 RX12 (az_ts yX12_readPlan cX12_readPlan 2 (some .int)) ({ frames := 4, cells := 0, slots := 0, locals := 166 } : Room) (some .int) Q) {Z163 : az_T} (hZ163 : az_ok X 163 Z163) : az_ok X 163 (BX12_readPlan_163 Q Z163) := by
  have h203 := az_ireturn C rfl dX12_readPlan_203
  have h200 := az_getI (T := TX12) (N := 33) (j := 32) C gwRX12 rfl (by decide) (by decide) iIRX12_32 mFRX12_255 rfl dX12_readPlan_200 h203
  have h199 := az_aload_n C 0 rfl dX12_readPlan_199 h200
  have h196 := az_goto (tgt := 163) C dX12_readPlan_196 (by decide) (az_keep [true, true] hZ163)
  have h193 := az_iinc (v := (nI 1)) C (by decide) (by decide +kernel) dX12_readPlan_193 h196
  have h192 := az_iast C dX12_readPlan_192 h193
  have h191 := az_iald C dX12_readPlan_191 h192
  have h190 := az_iload_n C 1 rfl dX12_readPlan_190 h191
  have h187 := az_getR (T := TX12) (N := 33) (j := 31) C gwRX12 rfl (by decide) (by decide) iIRX12_31 mFRX12_82 rfl dX12_readPlan_187 h190
  have h186 := az_aload_n C 0 rfl dX12_readPlan_186 h187
  have h183 := az_callS C okX12_at knX12_at stX12_at mLRX12_96 ⟨rfl, rfl, by decide, by decide⟩ dX12_readPlan_183 h186
  have h181 := az_bipush (x := (nI 13)) C dX12_readPlan_181 (by decide +kernel) h183
  have h180 := az_iald C dX12_readPlan_180 h181
  have h179 := az_iload_n C 1 rfl dX12_readPlan_179 h180
  have h176 := az_getR (T := TX12) (N := 33) (j := 30) C gwRX12 rfl (by decide) (by decide) iIRX12_30 mFRX12_79 rfl dX12_readPlan_176 h179
  have h175 := az_aload_n C 0 rfl dX12_readPlan_175 h176
  have h172 := az_getR (T := TX12) (N := 33) (j := 0) C gwRX12 rfl (by decide) (by decide) iIRX12_0 mFRX12_9 rfl dX12_readPlan_172 h175
  have h171 := az_aload_n C 0 rfl dX12_readPlan_171 h172
  have h168 := az_icmp_ge (tgt := 199) C dX12_readPlan_168 (by decide) h199 h171
  have h165 := az_getI (T := TX12) (N := 33) (j := 32) C gwRX12 rfl (by decide) (by decide) iIRX12_32 mFRX12_255 rfl dX12_readPlan_165 h168
  have h164 := az_aload_n C 0 rfl dX12_readPlan_164 h165
  have h163 := az_iload_n C 1 rfl dX12_readPlan_163 h164
  exact h163
def LX12_readPlan_163 (Q : Option Value → az_M → Prop) : az_T := s_lp (fun Z => BX12_readPlan_163 Q Z)
theorem okLX12_readPlan_163 {X : az_X} {Q : Option Value → az_M → Prop} (C : az_C X cX12_readPlan 2 RX12 (az_ts yX12_readPlan cX12_readPlan 2 (some .int)) ({ frames := 4, cells := 0, slots := 0, locals := 166 } : Room) (some .int) Q) : az_ok X 163 (LX12_readPlan_163 Q) := az_loop (F := fun Z => BX12_readPlan_163 Q Z) (fun _ hZ => okBX12_readPlan_163 C hZ)
def LX12_readPlan_148 (Q : Option Value → az_M → Prop) : az_T := (s_la 0 (s_gi 13 5 (s_if c_le (s_la 0 (s_cv 0 13 FX12_change (s_ic (nI 0) (s_si 1 (s_kp [true, true] (LX12_readPlan_163 Q)))))) (s_ic (nI 0) (s_ri Q)))))
theorem okLX12_readPlan_148 {X : az_X} {Q : Option Value → az_M → Prop} (C : az_C X cX12_readPlan 2 RX12 (az_ts yX12_readPlan cX12_readPlan 2 (some .int)) ({ frames := 4, cells := 0, slots := 0, locals := 166 } : Room) (some .int) Q) : az_ok X 148 (LX12_readPlan_148 Q) := by
  have h162 := az_istore_n C 1 rfl (by decide) dX12_readPlan_162 (az_keep [true, true] (okLX12_readPlan_163 C))
  have h161 := az_iconst (x := (nI 0)) C dX12_readPlan_161 (by decide +kernel) h162
  have h158 := az_callV (ci := 13) C okX12_change knX12_change imX12_change seX12_change mLRX12_120 rfl (by decide) ⟨rfl, rfl, by decide, by decide⟩ dX12_readPlan_158 h161
  have h157 := az_aload_n C 0 rfl dX12_readPlan_157 h158
  have h156 := az_ireturn C rfl dX12_readPlan_156
  have h155 := az_iconst (x := (nI 0)) C dX12_readPlan_155 (by decide +kernel) h156
  have h152 := az_if_le (tgt := 157) C dX12_readPlan_152 (by decide) h157 h155
  have h149 := az_getI (T := TX12) (N := 33) (j := 5) C gwRX12 rfl (by decide) (by decide) iIRX12_5 mFRX12_89 rfl dX12_readPlan_149 h152
  have h148 := az_aload_n C 0 rfl dX12_readPlan_148 h149
  exact h148
def LX12_readPlan_139 (Q : Option Value → az_M → Prop) (Z105 : az_T) : az_T := (s_pi 13 5 (s_inc 1 (nI 1) (s_kp [true, true] Z105)))
theorem okLX12_readPlan_139 {X : az_X} {Q : Option Value → az_M → Prop} (C : az_C X cX12_readPlan 2 RX12 (az_ts yX12_readPlan cX12_readPlan 2 (some .int)) ({ frames := 4, cells := 0, slots := 0, locals := 166 } : Room) (some .int) Q) {Z105 : az_T} (hZ105 : az_ok X 105 Z105) : az_ok X 139 (LX12_readPlan_139 Q Z105) := by
  have h145 := az_goto (tgt := 105) C dX12_readPlan_145 (by decide) (az_keep [true, true] hZ105)
  have h142 := az_iinc (v := (nI 1)) C (by decide) (by decide +kernel) dX12_readPlan_142 h145
  have h139 := az_putI (T := TX12) (N := 33) (j := 5) C gwRX12 rfl (by decide) (by decide) tyX12 tyX12_ok nmX12 iIRX12_5 (by decide +kernel) rfl mFRX12_89 rfl dX12_readPlan_139 h142
  exact h139
def BX12_readPlan_105 (Q : Option Value → az_M → Prop) (Z105 : az_T) : az_T := (s_li 1 (s_la 0 (s_gi 13 32 (s_if2 d_ge (s_kp [true, false] (LX12_readPlan_148 Q)) (s_la 0 (s_gi 13 5 (s_if c_ne (s_kp [true, false] (LX12_readPlan_148 Q)) (s_la 0 (s_la 0 (s_la 0 (s_gr 13 30 (s_li 1 (s_al 20 (s_cv 1 13 FX12_isUnit (s_if c_eq (s_ic (nI 2) (s_kp [true, true] (LX12_readPlan_139 Q Z105))) (s_ic (nI 0) (s_kp [true, true] (LX12_readPlan_139 Q Z105))))))))))))))))))
theorem okBX12_readPlan_105 {X : az_X} {Q : Option Value → az_M → Prop} (C : az_C X cX12_readPlan 2 RX12 (az_ts yX12_readPlan cX12_readPlan 2 (some .int)) ({ frames := 4, cells := 0, slots := 0, locals := 166 } : Room) (some .int) Q) {Z105 : az_T} (hZ105 : az_ok X 105 Z105) : az_ok X 105 (BX12_readPlan_105 Q Z105) := by
  have h138 := az_iconst (x := (nI 2)) C dX12_readPlan_138 (by decide +kernel) (az_keep [true, true] (okLX12_readPlan_139 C hZ105))
  have h135 := az_goto (tgt := 139) C dX12_readPlan_135 (by decide) (az_keep [true, true] (okLX12_readPlan_139 C hZ105))
  have h134 := az_iconst (x := (nI 0)) C dX12_readPlan_134 (by decide +kernel) h135
  have h131 := az_if_eq (tgt := 138) C dX12_readPlan_131 (by decide) h138 h134
  have h128 := az_callV (ci := 13) C okX12_isUnit knX12_isUnit imX12_isUnit seX12_isUnit mLRX12_131 rfl (by decide) ⟨rfl, rfl, by decide, by decide⟩ dX12_readPlan_128 h131
  have h127 := az_iald C dX12_readPlan_127 h128
  have h126 := az_iload_n C 1 rfl dX12_readPlan_126 h127
  have h123 := az_getR (T := TX12) (N := 33) (j := 30) C gwRX12 rfl (by decide) (by decide) iIRX12_30 mFRX12_79 rfl dX12_readPlan_123 h126
  have h122 := az_aload_n C 0 rfl dX12_readPlan_122 h123
  have h121 := az_aload_n C 0 rfl dX12_readPlan_121 h122
  have h120 := az_aload_n C 0 rfl dX12_readPlan_120 h121
  have h117 := az_if_ne (tgt := 148) C dX12_readPlan_117 (by decide) (az_keep [true, false] (okLX12_readPlan_148 C)) h120
  have h114 := az_getI (T := TX12) (N := 33) (j := 5) C gwRX12 rfl (by decide) (by decide) iIRX12_5 mFRX12_89 rfl dX12_readPlan_114 h117
  have h113 := az_aload_n C 0 rfl dX12_readPlan_113 h114
  have h110 := az_icmp_ge (tgt := 148) C dX12_readPlan_110 (by decide) (az_keep [true, false] (okLX12_readPlan_148 C)) h113
  have h107 := az_getI (T := TX12) (N := 33) (j := 32) C gwRX12 rfl (by decide) (by decide) iIRX12_32 mFRX12_255 rfl dX12_readPlan_107 h110
  have h106 := az_aload_n C 0 rfl dX12_readPlan_106 h107
  have h105 := az_iload_n C 1 rfl dX12_readPlan_105 h106
  exact h105
def LX12_readPlan_105 (Q : Option Value → az_M → Prop) : az_T := s_lp (fun Z => BX12_readPlan_105 Q Z)
theorem okLX12_readPlan_105 {X : az_X} {Q : Option Value → az_M → Prop} (C : az_C X cX12_readPlan 2 RX12 (az_ts yX12_readPlan cX12_readPlan 2 (some .int)) ({ frames := 4, cells := 0, slots := 0, locals := 166 } : Room) (some .int) Q) : az_ok X 105 (LX12_readPlan_105 Q) := az_loop (F := fun Z => BX12_readPlan_105 Q Z) (fun _ hZ => okBX12_readPlan_105 C hZ)
def LX12_readPlan_100 (Q : Option Value → az_M → Prop) : az_T := (s_pi 13 29 (s_ic (nI 0) (s_si 1 (s_kp [true, true] (LX12_readPlan_105 Q)))))
theorem okLX12_readPlan_100 {X : az_X} {Q : Option Value → az_M → Prop} (C : az_C X cX12_readPlan 2 RX12 (az_ts yX12_readPlan cX12_readPlan 2 (some .int)) ({ frames := 4, cells := 0, slots := 0, locals := 166 } : Room) (some .int) Q) : az_ok X 100 (LX12_readPlan_100 Q) := by
  have h104 := az_istore_n C 1 rfl (by decide) dX12_readPlan_104 (az_keep [true, true] (okLX12_readPlan_105 C))
  have h103 := az_iconst (x := (nI 0)) C dX12_readPlan_103 (by decide +kernel) h104
  have h100 := az_putI (T := TX12) (N := 33) (j := 29) C gwRX12 rfl (by decide) (by decide) tyX12 tyX12_ok nmX12 iIRX12_29 (by decide +kernel) rfl mFRX12_75 rfl dX12_readPlan_100 h103
  exact h100
def LX12_readPlan_78 (Q : Option Value → az_M → Prop) : az_T := (s_pi 13 5 (s_la 0 (s_la 0 (s_gi 13 28 (s_if c_eq (s_la 0 (s_gi 13 29 (s_kp [true, false] (LX12_readPlan_100 Q)))) (s_la 0 (s_gi 13 27 (s_kp [true, false] (LX12_readPlan_100 Q)))))))))
theorem okLX12_readPlan_78 {X : az_X} {Q : Option Value → az_M → Prop} (C : az_C X cX12_readPlan 2 RX12 (az_ts yX12_readPlan cX12_readPlan 2 (some .int)) ({ frames := 4, cells := 0, slots := 0, locals := 166 } : Room) (some .int) Q) : az_ok X 78 (LX12_readPlan_78 Q) := by
  have h97 := az_getI (T := TX12) (N := 33) (j := 29) C gwRX12 rfl (by decide) (by decide) iIRX12_29 mFRX12_75 rfl dX12_readPlan_97 (az_keep [true, false] (okLX12_readPlan_100 C))
  have h96 := az_aload_n C 0 rfl dX12_readPlan_96 h97
  have h93 := az_goto (tgt := 100) C dX12_readPlan_93 (by decide) (az_keep [true, false] (okLX12_readPlan_100 C))
  have h90 := az_getI (T := TX12) (N := 33) (j := 27) C gwRX12 rfl (by decide) (by decide) iIRX12_27 mFRX12_252 rfl dX12_readPlan_90 h93
  have h89 := az_aload_n C 0 rfl dX12_readPlan_89 h90
  have h86 := az_if_eq (tgt := 96) C dX12_readPlan_86 (by decide) h96 h89
  have h83 := az_getI (T := TX12) (N := 33) (j := 28) C gwRX12 rfl (by decide) (by decide) iIRX12_28 mFRX12_249 rfl dX12_readPlan_83 h86
  have h82 := az_aload_n C 0 rfl dX12_readPlan_82 h83
  have h81 := az_aload_n C 0 rfl dX12_readPlan_81 h82
  have h78 := az_putI (T := TX12) (N := 33) (j := 5) C gwRX12 rfl (by decide) (by decide) tyX12 tyX12_ok nmX12 iIRX12_5 (by decide +kernel) rfl mFRX12_89 rfl dX12_readPlan_78 h81
  exact h78
def LX12_readPlan_60 (Q : Option Value → az_M → Prop) : az_T := (s_la 0 (s_ic (nI 0) (s_pi 13 26 (s_la 0 (s_la 0 (s_gi 13 28 (s_if c_eq (s_ic (nI 0) (s_kp [true, false] (LX12_readPlan_78 Q))) (s_ic (nI 1) (s_kp [true, false] (LX12_readPlan_78 Q))))))))))
theorem okLX12_readPlan_60 {X : az_X} {Q : Option Value → az_M → Prop} (C : az_C X cX12_readPlan 2 RX12 (az_ts yX12_readPlan cX12_readPlan 2 (some .int)) ({ frames := 4, cells := 0, slots := 0, locals := 166 } : Room) (some .int) Q) : az_ok X 60 (LX12_readPlan_60 Q) := by
  have h77 := az_iconst (x := (nI 0)) C dX12_readPlan_77 (by decide +kernel) (az_keep [true, false] (okLX12_readPlan_78 C))
  have h74 := az_goto (tgt := 78) C dX12_readPlan_74 (by decide) (az_keep [true, false] (okLX12_readPlan_78 C))
  have h73 := az_iconst (x := (nI 1)) C dX12_readPlan_73 (by decide +kernel) h74
  have h70 := az_if_eq (tgt := 77) C dX12_readPlan_70 (by decide) h77 h73
  have h67 := az_getI (T := TX12) (N := 33) (j := 28) C gwRX12 rfl (by decide) (by decide) iIRX12_28 mFRX12_249 rfl dX12_readPlan_67 h70
  have h66 := az_aload_n C 0 rfl dX12_readPlan_66 h67
  have h65 := az_aload_n C 0 rfl dX12_readPlan_65 h66
  have h62 := az_putI (T := TX12) (N := 33) (j := 26) C gwRX12 rfl (by decide) (by decide) tyX12 tyX12_ok nmX12 iIRX12_26 (by decide +kernel) rfl mFRX12_246 rfl dX12_readPlan_62 h65
  have h61 := az_iconst (x := (nI 0)) C dX12_readPlan_61 (by decide +kernel) h62
  have h60 := az_aload_n C 0 rfl dX12_readPlan_60 h61
  exact h60
def LX12_readPlan_57 (Q : Option Value → az_M → Prop) (Z19 : az_T) : az_T := (s_kp [true, false] Z19)
theorem okLX12_readPlan_57 {X : az_X} {Q : Option Value → az_M → Prop} (C : az_C X cX12_readPlan 2 RX12 (az_ts yX12_readPlan cX12_readPlan 2 (some .int)) ({ frames := 4, cells := 0, slots := 0, locals := 166 } : Room) (some .int) Q) {Z19 : az_T} (hZ19 : az_ok X 19 Z19) : az_ok X 57 (LX12_readPlan_57 Q Z19) := by
  have h57 := az_goto (tgt := 19) C dX12_readPlan_57 (by decide) (az_keep [true, false] hZ19)
  exact h57
def BX12_readPlan_19 (Q : Option Value → az_M → Prop) (Z19 : az_T) : az_T := (s_la 0 (s_gi 13 28 (s_if c_ne (s_kp [true, false] (LX12_readPlan_60 Q)) (s_la 0 (s_gi 13 27 (s_la 0 (s_gi 13 26 (s_if2 d_ge (s_kp [true, false] (LX12_readPlan_60 Q)) (s_la 0 (s_ic (nI 59) (s_ic (nI 59) (s_cv 2 13 FX12_takes (s_si 1 (s_la 0 (s_gi 13 28 (s_if c_ne (s_kp [true, false] (LX12_readPlan_57 Q Z19)) (s_la 0 (s_cv 0 13 FX12_readRow (s_kp [true, false] (LX12_readPlan_57 Q Z19))))))))))))))))))))
theorem okBX12_readPlan_19 {X : az_X} {Q : Option Value → az_M → Prop} (C : az_C X cX12_readPlan 2 RX12 (az_ts yX12_readPlan cX12_readPlan 2 (some .int)) ({ frames := 4, cells := 0, slots := 0, locals := 166 } : Room) (some .int) Q) {Z19 : az_T} (hZ19 : az_ok X 19 Z19) : az_ok X 19 (BX12_readPlan_19 Q Z19) := by
  have h54 := az_callV (ci := 13) C okX12_readRow knX12_readRow imX12_readRow seX12_readRow mLRX12_261 rfl (by decide) ⟨rfl, rfl, by decide, by decide⟩ dX12_readPlan_54 (az_keep [true, false] (okLX12_readPlan_57 C hZ19))
  have h53 := az_aload_n C 0 rfl dX12_readPlan_53 h54
  have h50 := az_if_ne (tgt := 57) C dX12_readPlan_50 (by decide) (az_keep [true, false] (okLX12_readPlan_57 C hZ19)) h53
  have h47 := az_getI (T := TX12) (N := 33) (j := 28) C gwRX12 rfl (by decide) (by decide) iIRX12_28 mFRX12_249 rfl dX12_readPlan_47 h50
  have h46 := az_aload_n C 0 rfl dX12_readPlan_46 h47
  have h45 := az_istore_n C 1 rfl (by decide) dX12_readPlan_45 h46
  have h42 := az_callV (ci := 13) C okX12_takes knX12_takes imX12_takes seX12_takes mLRX12_258 rfl (by decide) ⟨rfl, rfl, by decide, by decide⟩ dX12_readPlan_42 h45
  have h40 := az_bipush (x := (nI 59)) C dX12_readPlan_40 (by decide +kernel) h42
  have h38 := az_bipush (x := (nI 59)) C dX12_readPlan_38 (by decide +kernel) h40
  have h37 := az_aload_n C 0 rfl dX12_readPlan_37 h38
  have h34 := az_icmp_ge (tgt := 60) C dX12_readPlan_34 (by decide) (az_keep [true, false] (okLX12_readPlan_60 C)) h37
  have h31 := az_getI (T := TX12) (N := 33) (j := 26) C gwRX12 rfl (by decide) (by decide) iIRX12_26 mFRX12_246 rfl dX12_readPlan_31 h34
  have h30 := az_aload_n C 0 rfl dX12_readPlan_30 h31
  have h27 := az_getI (T := TX12) (N := 33) (j := 27) C gwRX12 rfl (by decide) (by decide) iIRX12_27 mFRX12_252 rfl dX12_readPlan_27 h30
  have h26 := az_aload_n C 0 rfl dX12_readPlan_26 h27
  have h23 := az_if_ne (tgt := 60) C dX12_readPlan_23 (by decide) (az_keep [true, false] (okLX12_readPlan_60 C)) h26
  have h20 := az_getI (T := TX12) (N := 33) (j := 28) C gwRX12 rfl (by decide) (by decide) iIRX12_28 mFRX12_249 rfl dX12_readPlan_20 h23
  have h19 := az_aload_n C 0 rfl dX12_readPlan_19 h20
  exact h19
def LX12_readPlan_19 (Q : Option Value → az_M → Prop) : az_T := s_lp (fun Z => BX12_readPlan_19 Q Z)
theorem okLX12_readPlan_19 {X : az_X} {Q : Option Value → az_M → Prop} (C : az_C X cX12_readPlan 2 RX12 (az_ts yX12_readPlan cX12_readPlan 2 (some .int)) ({ frames := 4, cells := 0, slots := 0, locals := 166 } : Room) (some .int) Q) : az_ok X 19 (LX12_readPlan_19 Q) := az_loop (F := fun Z => BX12_readPlan_19 Q Z) (fun _ hZ => okBX12_readPlan_19 C hZ)
def PX12_readPlan (Q : Option Value → az_M → Prop) : az_T := (s_la 0 (s_ic (nI 0) (s_pi 13 27 (s_la 0 (s_ic (nI 0) (s_pz 13 28 (s_la 0 (s_ic (nI 0) (s_pi 13 32 (s_la 0 (s_cv 0 13 FX12_readRow (s_kp [true, false] (LX12_readPlan_19 Q)))))))))))))
def FX12_readPlan : az_F := az_fun [true] 2 PX12_readPlan
theorem okX12_readPlan (l : Launch) : az_met l yX12_readPlan cX12_readPlan 2 (some .int) ({ frames := 4, cells := 0, slots := 0, locals := 166 } : Room) FX12_readPlan := az_met_of (own := RX12) (by decide +kernel) rfl (by decide) (fun X Q C => by
  have h16 := az_callV (ci := 13) C okX12_readRow knX12_readRow imX12_readRow seX12_readRow mLRX12_261 rfl (by decide) ⟨rfl, rfl, by decide, by decide⟩ dX12_readPlan_16 (az_keep [true, false] (okLX12_readPlan_19 C))
  have h15 := az_aload_n C 0 rfl dX12_readPlan_15 h16
  have h12 := az_putI (T := TX12) (N := 33) (j := 32) C gwRX12 rfl (by decide) (by decide) tyX12 tyX12_ok nmX12 iIRX12_32 (by decide +kernel) rfl mFRX12_255 rfl dX12_readPlan_12 h15
  have h11 := az_iconst (x := (nI 0)) C dX12_readPlan_11 (by decide +kernel) h12
  have h10 := az_aload_n C 0 rfl dX12_readPlan_10 h11
  have h7 := az_putZ (T := TX12) (N := 33) (j := 28) C gwRX12 rfl (by decide) (by decide) tyX12 tyX12_ok nmX12 iIRX12_28 (by decide +kernel) rfl mFRX12_249 rfl dX12_readPlan_7 h10
  have h6 := az_iconst (x := (nI 0)) C dX12_readPlan_6 (by decide +kernel) h7
  have h5 := az_aload_n C 0 rfl dX12_readPlan_5 h6
  have h2 := az_putI (T := TX12) (N := 33) (j := 27) C gwRX12 rfl (by decide) (by decide) tyX12 tyX12_ok nmX12 iIRX12_27 (by decide +kernel) rfl mFRX12_252 rfl dX12_readPlan_2 h5
  have h1 := az_iconst (x := (nI 0)) C dX12_readPlan_1 (by decide +kernel) h2
  have h0 := az_aload_n C 0 rfl dX12_readPlan_0 h1
  exact h0) l
theorem dX12_errorPosition_0 : decode cX12_errorPosition 0 = .ok (.aload_n 0, 1) := by decide +kernel
theorem dX12_errorPosition_1 : decode cX12_errorPosition 1 = .ok (.aload_n 0, 1) := by decide +kernel
theorem dX12_errorPosition_2 : decode cX12_errorPosition 2 = .ok (.getfield 75, 3) := by decide +kernel
theorem dX12_errorPosition_5 : decode cX12_errorPosition 5 = .ok (.ifCond .ge 7, 3) := by decide +kernel
theorem dX12_errorPosition_8 : decode cX12_errorPosition 8 = .ok (.iconst 1, 1) := by decide +kernel
theorem dX12_errorPosition_9 : decode cX12_errorPosition 9 = .ok (.goto 4, 3) := by decide +kernel
theorem dX12_errorPosition_12 : decode cX12_errorPosition 12 = .ok (.iconst 0, 1) := by decide +kernel
theorem dX12_errorPosition_13 : decode cX12_errorPosition 13 = .ok (.putfield 89, 3) := by decide +kernel
theorem dX12_errorPosition_16 : decode cX12_errorPosition 16 = .ok (.aload_n 0, 1) := by decide +kernel
theorem dX12_errorPosition_17 : decode cX12_errorPosition 17 = .ok (.getfield 89, 3) := by decide +kernel
theorem dX12_errorPosition_20 : decode cX12_errorPosition 20 = .ok (.ifCond .le 7, 3) := by decide +kernel
theorem dX12_errorPosition_23 : decode cX12_errorPosition 23 = .ok (.iconst 0, 1) := by decide +kernel
theorem dX12_errorPosition_24 : decode cX12_errorPosition 24 = .ok (.goto 7, 3) := by decide +kernel
theorem dX12_errorPosition_27 : decode cX12_errorPosition 27 = .ok (.aload_n 0, 1) := by decide +kernel
theorem dX12_errorPosition_28 : decode cX12_errorPosition 28 = .ok (.getfield 75, 3) := by decide +kernel
theorem dX12_errorPosition_31 : decode cX12_errorPosition 31 = .ok (.ireturn, 1) := by decide +kernel
def LX12_errorPosition_31 (Q : Option Value → az_M → Prop) : az_T := (s_ri Q)
theorem okLX12_errorPosition_31 {X : az_X} {Q : Option Value → az_M → Prop} (C : az_C X cX12_errorPosition 1 RX12 (az_ts yX12_errorPosition cX12_errorPosition 1 (some .int)) ({ frames := 1, cells := 0, slots := 0, locals := 100 } : Room) (some .int) Q) : az_ok X 31 (LX12_errorPosition_31 Q) := by
  have h31 := az_ireturn C rfl dX12_errorPosition_31
  exact h31
def LX12_errorPosition_13 (Q : Option Value → az_M → Prop) : az_T := (s_pi 13 5 (s_la 0 (s_gi 13 5 (s_if c_le (s_la 0 (s_gi 13 29 (s_kp [false] (LX12_errorPosition_31 Q)))) (s_ic (nI 0) (s_kp [false] (LX12_errorPosition_31 Q)))))))
theorem okLX12_errorPosition_13 {X : az_X} {Q : Option Value → az_M → Prop} (C : az_C X cX12_errorPosition 1 RX12 (az_ts yX12_errorPosition cX12_errorPosition 1 (some .int)) ({ frames := 1, cells := 0, slots := 0, locals := 100 } : Room) (some .int) Q) : az_ok X 13 (LX12_errorPosition_13 Q) := by
  have h28 := az_getI (T := TX12) (N := 33) (j := 29) C gwRX12 rfl (by decide) (by decide) iIRX12_29 mFRX12_75 rfl dX12_errorPosition_28 (az_keep [false] (okLX12_errorPosition_31 C))
  have h27 := az_aload_n C 0 rfl dX12_errorPosition_27 h28
  have h24 := az_goto (tgt := 31) C dX12_errorPosition_24 (by decide) (az_keep [false] (okLX12_errorPosition_31 C))
  have h23 := az_iconst (x := (nI 0)) C dX12_errorPosition_23 (by decide +kernel) h24
  have h20 := az_if_le (tgt := 27) C dX12_errorPosition_20 (by decide) h27 h23
  have h17 := az_getI (T := TX12) (N := 33) (j := 5) C gwRX12 rfl (by decide) (by decide) iIRX12_5 mFRX12_89 rfl dX12_errorPosition_17 h20
  have h16 := az_aload_n C 0 rfl dX12_errorPosition_16 h17
  have h13 := az_putI (T := TX12) (N := 33) (j := 5) C gwRX12 rfl (by decide) (by decide) tyX12 tyX12_ok nmX12 iIRX12_5 (by decide +kernel) rfl mFRX12_89 rfl dX12_errorPosition_13 h16
  exact h13
def PX12_errorPosition (Q : Option Value → az_M → Prop) : az_T := (s_la 0 (s_la 0 (s_gi 13 29 (s_if c_ge (s_ic (nI 0) (s_kp [true] (LX12_errorPosition_13 Q))) (s_ic (nI 1) (s_kp [true] (LX12_errorPosition_13 Q)))))))
def FX12_errorPosition : az_F := az_fun [true] 1 PX12_errorPosition
theorem okX12_errorPosition (l : Launch) : az_met l yX12_errorPosition cX12_errorPosition 1 (some .int) ({ frames := 1, cells := 0, slots := 0, locals := 100 } : Room) FX12_errorPosition := az_met_of (own := RX12) (by decide +kernel) rfl (by decide) (fun X Q C => by
  have h12 := az_iconst (x := (nI 0)) C dX12_errorPosition_12 (by decide +kernel) (az_keep [true] (okLX12_errorPosition_13 C))
  have h9 := az_goto (tgt := 13) C dX12_errorPosition_9 (by decide) (az_keep [true] (okLX12_errorPosition_13 C))
  have h8 := az_iconst (x := (nI 1)) C dX12_errorPosition_8 (by decide +kernel) h9
  have h5 := az_if_ge (tgt := 12) C dX12_errorPosition_5 (by decide) h12 h8
  have h2 := az_getI (T := TX12) (N := 33) (j := 29) C gwRX12 rfl (by decide) (by decide) iIRX12_29 mFRX12_75 rfl dX12_errorPosition_2 h5
  have h1 := az_aload_n C 0 rfl dX12_errorPosition_1 h2
  have h0 := az_aload_n C 0 rfl dX12_errorPosition_0 h1
  exact h0) l
theorem dX12_output_0 : decode cX12_output 0 = .ok (.aload_n 0, 1) := by decide +kernel
theorem dX12_output_1 : decode cX12_output 1 = .ok (.aload_n 0, 1) := by decide +kernel
theorem dX12_output_2 : decode cX12_output 2 = .ok (.iload_n 1, 1) := by decide +kernel
theorem dX12_output_3 : decode cX12_output 3 = .ok (.invokevirtual 131, 3) := by decide +kernel
theorem dX12_output_6 : decode cX12_output 6 = .ok (.ifCond .eq 11, 3) := by decide +kernel
theorem dX12_output_9 : decode cX12_output 9 = .ok (.aload_n 0, 1) := by decide +kernel
theorem dX12_output_10 : decode cX12_output 10 = .ok (.iload_n 2, 1) := by decide +kernel
theorem dX12_output_11 : decode cX12_output 11 = .ok (.invokevirtual 117, 3) := by decide +kernel
theorem dX12_output_14 : decode cX12_output 14 = .ok (.ifCond .ne 7, 3) := by decide +kernel
theorem dX12_output_17 : decode cX12_output 17 = .ok (.iconst 1, 1) := by decide +kernel
theorem dX12_output_18 : decode cX12_output 18 = .ok (.goto 18, 3) := by decide +kernel
theorem dX12_output_21 : decode cX12_output 21 = .ok (.iload_n 3, 1) := by decide +kernel
theorem dX12_output_22 : decode cX12_output 22 = .ok (.iconst 0, 1) := by decide +kernel
theorem dX12_output_23 : decode cX12_output 23 = .ok (.bipush 6, 2) := by decide +kernel
theorem dX12_output_25 : decode cX12_output 25 = .ok (.invokestatic 92, 3) := by decide +kernel
theorem dX12_output_28 : decode cX12_output 28 = .ok (.ifCond .ne 7, 3) := by decide +kernel
theorem dX12_output_31 : decode cX12_output 31 = .ok (.iconst 2, 1) := by decide +kernel
theorem dX12_output_32 : decode cX12_output 32 = .ok (.goto 4, 3) := by decide +kernel
theorem dX12_output_35 : decode cX12_output 35 = .ok (.iconst 0, 1) := by decide +kernel
theorem dX12_output_36 : decode cX12_output 36 = .ok (.putfield 89, 3) := by decide +kernel
theorem dX12_output_39 : decode cX12_output 39 = .ok (.aload_n 0, 1) := by decide +kernel
theorem dX12_output_40 : decode cX12_output 40 = .ok (.getfield 89, 3) := by decide +kernel
theorem dX12_output_43 : decode cX12_output 43 = .ok (.ifCond .le 5, 3) := by decide +kernel
theorem dX12_output_46 : decode cX12_output 46 = .ok (.iconst 0, 1) := by decide +kernel
theorem dX12_output_47 : decode cX12_output 47 = .ok (.ireturn, 1) := by decide +kernel
theorem dX12_output_48 : decode cX12_output 48 = .ok (.aload_n 0, 1) := by decide +kernel
theorem dX12_output_49 : decode cX12_output 49 = .ok (.invokevirtual 137, 3) := by decide +kernel
theorem dX12_output_52 : decode cX12_output 52 = .ok (.bipush 6, 2) := by decide +kernel
theorem dX12_output_54 : decode cX12_output 54 = .ok (.iload_n 2, 1) := by decide +kernel
theorem dX12_output_55 : decode cX12_output 55 = .ok (.imul, 1) := by decide +kernel
theorem dX12_output_56 : decode cX12_output 56 = .ok (.iload_n 1, 1) := by decide +kernel
theorem dX12_output_57 : decode cX12_output 57 = .ok (.iadd, 1) := by decide +kernel
theorem dX12_output_58 : decode cX12_output 58 = .ok (.istore 4, 2) := by decide +kernel
theorem dX12_output_60 : decode cX12_output 60 = .ok (.iload_n 3, 1) := by decide +kernel
theorem dX12_output_61 : decode cX12_output 61 = .ok (.tableswitch 87 0 5 #[39, 47, 55, 63, 71, 79], 39) := by decide +kernel
theorem dX12_output_100 : decode cX12_output 100 = .ok (.aload_n 0, 1) := by decide +kernel
theorem dX12_output_101 : decode cX12_output 101 = .ok (.getfield 41, 3) := by decide +kernel
theorem dX12_output_104 : decode cX12_output 104 = .ok (.iload 4, 2) := by decide +kernel
theorem dX12_output_106 : decode cX12_output 106 = .ok (.iaload, 1) := by decide +kernel
theorem dX12_output_107 : decode cX12_output 107 = .ok (.ireturn, 1) := by decide +kernel
theorem dX12_output_108 : decode cX12_output 108 = .ok (.aload_n 0, 1) := by decide +kernel
theorem dX12_output_109 : decode cX12_output 109 = .ok (.getfield 35, 3) := by decide +kernel
theorem dX12_output_112 : decode cX12_output 112 = .ok (.iload 4, 2) := by decide +kernel
theorem dX12_output_114 : decode cX12_output 114 = .ok (.iaload, 1) := by decide +kernel
theorem dX12_output_115 : decode cX12_output 115 = .ok (.ireturn, 1) := by decide +kernel
theorem dX12_output_116 : decode cX12_output 116 = .ok (.aload_n 0, 1) := by decide +kernel
theorem dX12_output_117 : decode cX12_output 117 = .ok (.getfield 38, 3) := by decide +kernel
theorem dX12_output_120 : decode cX12_output 120 = .ok (.iload 4, 2) := by decide +kernel
theorem dX12_output_122 : decode cX12_output 122 = .ok (.iaload, 1) := by decide +kernel
theorem dX12_output_123 : decode cX12_output 123 = .ok (.ireturn, 1) := by decide +kernel
theorem dX12_output_124 : decode cX12_output 124 = .ok (.aload_n 0, 1) := by decide +kernel
theorem dX12_output_125 : decode cX12_output 125 = .ok (.getfield 44, 3) := by decide +kernel
theorem dX12_output_128 : decode cX12_output 128 = .ok (.iload 4, 2) := by decide +kernel
theorem dX12_output_130 : decode cX12_output 130 = .ok (.iaload, 1) := by decide +kernel
theorem dX12_output_131 : decode cX12_output 131 = .ok (.ireturn, 1) := by decide +kernel
theorem dX12_output_132 : decode cX12_output 132 = .ok (.aload_n 0, 1) := by decide +kernel
theorem dX12_output_133 : decode cX12_output 133 = .ok (.getfield 47, 3) := by decide +kernel
theorem dX12_output_136 : decode cX12_output 136 = .ok (.iload 4, 2) := by decide +kernel
theorem dX12_output_138 : decode cX12_output 138 = .ok (.iaload, 1) := by decide +kernel
theorem dX12_output_139 : decode cX12_output 139 = .ok (.ireturn, 1) := by decide +kernel
theorem dX12_output_140 : decode cX12_output 140 = .ok (.aload_n 0, 1) := by decide +kernel
theorem dX12_output_141 : decode cX12_output 141 = .ok (.getfield 29, 3) := by decide +kernel
theorem dX12_output_144 : decode cX12_output 144 = .ok (.iload 4, 2) := by decide +kernel
theorem dX12_output_146 : decode cX12_output 146 = .ok (.iaload, 1) := by decide +kernel
theorem dX12_output_147 : decode cX12_output 147 = .ok (.ireturn, 1) := by decide +kernel
theorem dX12_output_148 : decode cX12_output 148 = .ok (.aload_n 0, 1) := by decide +kernel
theorem dX12_output_149 : decode cX12_output 149 = .ok (.getfield 32, 3) := by decide +kernel
theorem dX12_output_152 : decode cX12_output 152 = .ok (.iload 4, 2) := by decide +kernel
theorem dX12_output_154 : decode cX12_output 154 = .ok (.iaload, 1) := by decide +kernel
theorem dX12_output_155 : decode cX12_output 155 = .ok (.ireturn, 1) := by decide +kernel
def LX12_output_36 (Q : Option Value → az_M → Prop) : az_T := (s_pi 13 5 (s_la 0 (s_gi 13 5 (s_if c_le (s_la 0 (s_cv 0 13 FX12_know (s_ic (nI 6) (s_li 2 (s_bin f_mul (s_li 1 (s_bin f_add (s_si 4 (s_li 3 (s_sw 0 [(s_la 0 (s_gr 13 14 (s_li 4 (s_al 20 (s_ri Q))))), (s_la 0 (s_gr 13 12 (s_li 4 (s_al 20 (s_ri Q))))), (s_la 0 (s_gr 13 13 (s_li 4 (s_al 20 (s_ri Q))))), (s_la 0 (s_gr 13 15 (s_li 4 (s_al 20 (s_ri Q))))), (s_la 0 (s_gr 13 16 (s_li 4 (s_al 20 (s_ri Q))))), (s_la 0 (s_gr 13 10 (s_li 4 (s_al 20 (s_ri Q)))))] (s_la 0 (s_gr 13 11 (s_li 4 (s_al 20 (s_ri Q))))))))))))))) (s_ic (nI 0) (s_ri Q))))))
theorem okLX12_output_36 {X : az_X} {Q : Option Value → az_M → Prop} (C : az_C X cX12_output 5 RX12 (az_ts yX12_output cX12_output 5 (some .int)) ({ frames := 8, cells := 0, slots := 0, locals := 257 } : Room) (some .int) Q) : az_ok X 36 (LX12_output_36 Q) := by
  have h107 := az_ireturn C rfl dX12_output_107
  have h106 := az_iald C dX12_output_106 h107
  have h104 := az_iload C dX12_output_104 h106
  have h101 := az_getR (T := TX12) (N := 33) (j := 14) C gwRX12 rfl (by decide) (by decide) iIRX12_14 mFRX12_41 rfl dX12_output_101 h104
  have h100 := az_aload_n C 0 rfl dX12_output_100 h101
  have h115 := az_ireturn C rfl dX12_output_115
  have h114 := az_iald C dX12_output_114 h115
  have h112 := az_iload C dX12_output_112 h114
  have h109 := az_getR (T := TX12) (N := 33) (j := 12) C gwRX12 rfl (by decide) (by decide) iIRX12_12 mFRX12_35 rfl dX12_output_109 h112
  have h108 := az_aload_n C 0 rfl dX12_output_108 h109
  have h123 := az_ireturn C rfl dX12_output_123
  have h122 := az_iald C dX12_output_122 h123
  have h120 := az_iload C dX12_output_120 h122
  have h117 := az_getR (T := TX12) (N := 33) (j := 13) C gwRX12 rfl (by decide) (by decide) iIRX12_13 mFRX12_38 rfl dX12_output_117 h120
  have h116 := az_aload_n C 0 rfl dX12_output_116 h117
  have h131 := az_ireturn C rfl dX12_output_131
  have h130 := az_iald C dX12_output_130 h131
  have h128 := az_iload C dX12_output_128 h130
  have h125 := az_getR (T := TX12) (N := 33) (j := 15) C gwRX12 rfl (by decide) (by decide) iIRX12_15 mFRX12_44 rfl dX12_output_125 h128
  have h124 := az_aload_n C 0 rfl dX12_output_124 h125
  have h139 := az_ireturn C rfl dX12_output_139
  have h138 := az_iald C dX12_output_138 h139
  have h136 := az_iload C dX12_output_136 h138
  have h133 := az_getR (T := TX12) (N := 33) (j := 16) C gwRX12 rfl (by decide) (by decide) iIRX12_16 mFRX12_47 rfl dX12_output_133 h136
  have h132 := az_aload_n C 0 rfl dX12_output_132 h133
  have h147 := az_ireturn C rfl dX12_output_147
  have h146 := az_iald C dX12_output_146 h147
  have h144 := az_iload C dX12_output_144 h146
  have h141 := az_getR (T := TX12) (N := 33) (j := 10) C gwRX12 rfl (by decide) (by decide) iIRX12_10 mFRX12_29 rfl dX12_output_141 h144
  have h140 := az_aload_n C 0 rfl dX12_output_140 h141
  have h155 := az_ireturn C rfl dX12_output_155
  have h154 := az_iald C dX12_output_154 h155
  have h152 := az_iload C dX12_output_152 h154
  have h149 := az_getR (T := TX12) (N := 33) (j := 11) C gwRX12 rfl (by decide) (by decide) iIRX12_11 mFRX12_32 rfl dX12_output_149 h152
  have h148 := az_aload_n C 0 rfl dX12_output_148 h149
  have h61 := az_tsw (td := 148) (tgts := [100, 108, 116, 124, 132, 140]) (lo := 0) C dX12_output_61 (by decide) (by decide +kernel) (by decide) h148 (az_all_cons h100 (az_all_cons h108 (az_all_cons h116 (az_all_cons h124 (az_all_cons h132 (az_all_cons h140 az_all_nil))))))
  have h60 := az_iload_n C 3 rfl dX12_output_60 h61
  have h58 := az_istore C (by decide) dX12_output_58 h60
  have h57 := az_iadd C dX12_output_57 h58
  have h56 := az_iload_n C 1 rfl dX12_output_56 h57
  have h55 := az_imul C dX12_output_55 h56
  have h54 := az_iload_n C 2 rfl dX12_output_54 h55
  have h52 := az_bipush (x := (nI 6)) C dX12_output_52 (by decide +kernel) h54
  have h49 := az_callV (ci := 13) C okX12_know knX12_know imX12_know seX12_know mLRX12_137 rfl (by decide) ⟨rfl, rfl, by decide, by decide⟩ dX12_output_49 h52
  have h48 := az_aload_n C 0 rfl dX12_output_48 h49
  have h47 := az_ireturn C rfl dX12_output_47
  have h46 := az_iconst (x := (nI 0)) C dX12_output_46 (by decide +kernel) h47
  have h43 := az_if_le (tgt := 48) C dX12_output_43 (by decide) h48 h46
  have h40 := az_getI (T := TX12) (N := 33) (j := 5) C gwRX12 rfl (by decide) (by decide) iIRX12_5 mFRX12_89 rfl dX12_output_40 h43
  have h39 := az_aload_n C 0 rfl dX12_output_39 h40
  have h36 := az_putI (T := TX12) (N := 33) (j := 5) C gwRX12 rfl (by decide) (by decide) tyX12 tyX12_ok nmX12 iIRX12_5 (by decide +kernel) rfl mFRX12_89 rfl dX12_output_36 h39
  exact h36
def LX12_output_17 (Q : Option Value → az_M → Prop) : az_T := (s_ic (nI 1) (s_kp [true, true, true, true, false] (LX12_output_36 Q)))
theorem okLX12_output_17 {X : az_X} {Q : Option Value → az_M → Prop} (C : az_C X cX12_output 5 RX12 (az_ts yX12_output cX12_output 5 (some .int)) ({ frames := 8, cells := 0, slots := 0, locals := 257 } : Room) (some .int) Q) : az_ok X 17 (LX12_output_17 Q) := by
  have h18 := az_goto (tgt := 36) C dX12_output_18 (by decide) (az_keep [true, true, true, true, false] (okLX12_output_36 C))
  have h17 := az_iconst (x := (nI 1)) C dX12_output_17 (by decide +kernel) h18
  exact h17
def PX12_output (Q : Option Value → az_M → Prop) : az_T := (s_la 0 (s_la 0 (s_li 1 (s_cv 1 13 FX12_isUnit (s_if c_eq (s_kp [true, true, true, true, false] (LX12_output_17 Q)) (s_la 0 (s_li 2 (s_cv 1 13 FX12_isHour (s_if c_ne (s_li 3 (s_ic (nI 0) (s_ic (nI 6) (s_cs 3 FX12_in (s_if c_ne (s_ic (nI 0) (s_kp [true, true, true, true, false] (LX12_output_36 Q))) (s_ic (nI 2) (s_kp [true, true, true, true, false] (LX12_output_36 Q)))))))) (s_kp [true, true, true, true, false] (LX12_output_17 Q)))))))))))
def FX12_output : az_F := az_fun [true, false, false, false] 5 PX12_output
theorem okX12_output (l : Launch) : az_met l yX12_output cX12_output 5 (some .int) ({ frames := 8, cells := 0, slots := 0, locals := 257 } : Room) FX12_output := az_met_of (own := RX12) (by decide +kernel) rfl (by decide) (fun X Q C => by
  have h35 := az_iconst (x := (nI 0)) C dX12_output_35 (by decide +kernel) (az_keep [true, true, true, true, false] (okLX12_output_36 C))
  have h32 := az_goto (tgt := 36) C dX12_output_32 (by decide) (az_keep [true, true, true, true, false] (okLX12_output_36 C))
  have h31 := az_iconst (x := (nI 2)) C dX12_output_31 (by decide +kernel) h32
  have h28 := az_if_ne (tgt := 35) C dX12_output_28 (by decide) h35 h31
  have h25 := az_callS C okX12_in knX12_in stX12_in mLRX12_92 ⟨rfl, rfl, by decide, by decide⟩ dX12_output_25 h28
  have h23 := az_bipush (x := (nI 6)) C dX12_output_23 (by decide +kernel) h25
  have h22 := az_iconst (x := (nI 0)) C dX12_output_22 (by decide +kernel) h23
  have h21 := az_iload_n C 3 rfl dX12_output_21 h22
  have h14 := az_if_ne (tgt := 21) C dX12_output_14 (by decide) h21 (az_keep [true, true, true, true, false] (okLX12_output_17 C))
  have h11 := az_callV (ci := 13) C okX12_isHour knX12_isHour imX12_isHour seX12_isHour mLRX12_117 rfl (by decide) ⟨rfl, rfl, by decide, by decide⟩ dX12_output_11 h14
  have h10 := az_iload_n C 2 rfl dX12_output_10 h11
  have h9 := az_aload_n C 0 rfl dX12_output_9 h10
  have h6 := az_if_eq (tgt := 17) C dX12_output_6 (by decide) (az_keep [true, true, true, true, false] (okLX12_output_17 C)) h9
  have h3 := az_callV (ci := 13) C okX12_isUnit knX12_isUnit imX12_isUnit seX12_isUnit mLRX12_131 rfl (by decide) ⟨rfl, rfl, by decide, by decide⟩ dX12_output_3 h6
  have h2 := az_iload_n C 1 rfl dX12_output_2 h3
  have h1 := az_aload_n C 0 rfl dX12_output_1 h2
  have h0 := az_aload_n C 0 rfl dX12_output_0 h1
  exact h0) l
theorem dX12_delivered_0 : decode cX12_delivered 0 = .ok (.aload_n 0, 1) := by decide +kernel
theorem dX12_delivered_1 : decode cX12_delivered 1 = .ok (.aload_n 0, 1) := by decide +kernel
theorem dX12_delivered_2 : decode cX12_delivered 2 = .ok (.iload_n 1, 1) := by decide +kernel
theorem dX12_delivered_3 : decode cX12_delivered 3 = .ok (.invokevirtual 131, 3) := by decide +kernel
theorem dX12_delivered_6 : decode cX12_delivered 6 = .ok (.ifCond .eq 23, 3) := by decide +kernel
theorem dX12_delivered_9 : decode cX12_delivered 9 = .ok (.aload_n 0, 1) := by decide +kernel
theorem dX12_delivered_10 : decode cX12_delivered 10 = .ok (.iload_n 2, 1) := by decide +kernel
theorem dX12_delivered_11 : decode cX12_delivered 11 = .ok (.invokevirtual 113, 3) := by decide +kernel
theorem dX12_delivered_14 : decode cX12_delivered 14 = .ok (.ifCond .eq 15, 3) := by decide +kernel
theorem dX12_delivered_17 : decode cX12_delivered 17 = .ok (.aload_n 0, 1) := by decide +kernel
theorem dX12_delivered_18 : decode cX12_delivered 18 = .ok (.iload_n 3, 1) := by decide +kernel
theorem dX12_delivered_19 : decode cX12_delivered 19 = .ok (.invokevirtual 117, 3) := by decide +kernel
theorem dX12_delivered_22 : decode cX12_delivered 22 = .ok (.ifCond .eq 7, 3) := by decide +kernel
theorem dX12_delivered_25 : decode cX12_delivered 25 = .ok (.iconst 0, 1) := by decide +kernel
theorem dX12_delivered_26 : decode cX12_delivered 26 = .ok (.goto 4, 3) := by decide +kernel
theorem dX12_delivered_29 : decode cX12_delivered 29 = .ok (.iconst 1, 1) := by decide +kernel
theorem dX12_delivered_30 : decode cX12_delivered 30 = .ok (.putfield 89, 3) := by decide +kernel
theorem dX12_delivered_33 : decode cX12_delivered 33 = .ok (.aload_n 0, 1) := by decide +kernel
theorem dX12_delivered_34 : decode cX12_delivered 34 = .ok (.getfield 89, 3) := by decide +kernel
theorem dX12_delivered_37 : decode cX12_delivered 37 = .ok (.ifCond .le 5, 3) := by decide +kernel
theorem dX12_delivered_40 : decode cX12_delivered 40 = .ok (.iconst 0, 1) := by decide +kernel
theorem dX12_delivered_41 : decode cX12_delivered 41 = .ok (.ireturn, 1) := by decide +kernel
theorem dX12_delivered_42 : decode cX12_delivered 42 = .ok (.aload_n 0, 1) := by decide +kernel
theorem dX12_delivered_43 : decode cX12_delivered 43 = .ok (.invokevirtual 137, 3) := by decide +kernel
theorem dX12_delivered_46 : decode cX12_delivered 46 = .ok (.aload_n 0, 1) := by decide +kernel
theorem dX12_delivered_47 : decode cX12_delivered 47 = .ok (.getfield 50, 3) := by decide +kernel
theorem dX12_delivered_50 : decode cX12_delivered 50 = .ok (.iconst 4, 1) := by decide +kernel
theorem dX12_delivered_51 : decode cX12_delivered 51 = .ok (.bipush 6, 2) := by decide +kernel
theorem dX12_delivered_53 : decode cX12_delivered 53 = .ok (.iload_n 3, 1) := by decide +kernel
theorem dX12_delivered_54 : decode cX12_delivered 54 = .ok (.imul, 1) := by decide +kernel
theorem dX12_delivered_55 : decode cX12_delivered 55 = .ok (.iload_n 1, 1) := by decide +kernel
theorem dX12_delivered_56 : decode cX12_delivered 56 = .ok (.iadd, 1) := by decide +kernel
theorem dX12_delivered_57 : decode cX12_delivered 57 = .ok (.imul, 1) := by decide +kernel
theorem dX12_delivered_58 : decode cX12_delivered 58 = .ok (.iload_n 2, 1) := by decide +kernel
theorem dX12_delivered_59 : decode cX12_delivered 59 = .ok (.iadd, 1) := by decide +kernel
theorem dX12_delivered_60 : decode cX12_delivered 60 = .ok (.iaload, 1) := by decide +kernel
theorem dX12_delivered_61 : decode cX12_delivered 61 = .ok (.ireturn, 1) := by decide +kernel
def LX12_delivered_30 (Q : Option Value → az_M → Prop) : az_T := (s_pi 13 5 (s_la 0 (s_gi 13 5 (s_if c_le (s_la 0 (s_cv 0 13 FX12_know (s_la 0 (s_gr 13 17 (s_ic (nI 4) (s_ic (nI 6) (s_li 3 (s_bin f_mul (s_li 1 (s_bin f_add (s_bin f_mul (s_li 2 (s_bin f_add (s_al 20 (s_ri Q))))))))))))))) (s_ic (nI 0) (s_ri Q))))))
theorem okLX12_delivered_30 {X : az_X} {Q : Option Value → az_M → Prop} (C : az_C X cX12_delivered 4 RX12 (az_ts yX12_delivered cX12_delivered 4 (some .int)) ({ frames := 8, cells := 0, slots := 0, locals := 257 } : Room) (some .int) Q) : az_ok X 30 (LX12_delivered_30 Q) := by
  have h61 := az_ireturn C rfl dX12_delivered_61
  have h60 := az_iald C dX12_delivered_60 h61
  have h59 := az_iadd C dX12_delivered_59 h60
  have h58 := az_iload_n C 2 rfl dX12_delivered_58 h59
  have h57 := az_imul C dX12_delivered_57 h58
  have h56 := az_iadd C dX12_delivered_56 h57
  have h55 := az_iload_n C 1 rfl dX12_delivered_55 h56
  have h54 := az_imul C dX12_delivered_54 h55
  have h53 := az_iload_n C 3 rfl dX12_delivered_53 h54
  have h51 := az_bipush (x := (nI 6)) C dX12_delivered_51 (by decide +kernel) h53
  have h50 := az_iconst (x := (nI 4)) C dX12_delivered_50 (by decide +kernel) h51
  have h47 := az_getR (T := TX12) (N := 33) (j := 17) C gwRX12 rfl (by decide) (by decide) iIRX12_17 mFRX12_50 rfl dX12_delivered_47 h50
  have h46 := az_aload_n C 0 rfl dX12_delivered_46 h47
  have h43 := az_callV (ci := 13) C okX12_know knX12_know imX12_know seX12_know mLRX12_137 rfl (by decide) ⟨rfl, rfl, by decide, by decide⟩ dX12_delivered_43 h46
  have h42 := az_aload_n C 0 rfl dX12_delivered_42 h43
  have h41 := az_ireturn C rfl dX12_delivered_41
  have h40 := az_iconst (x := (nI 0)) C dX12_delivered_40 (by decide +kernel) h41
  have h37 := az_if_le (tgt := 42) C dX12_delivered_37 (by decide) h42 h40
  have h34 := az_getI (T := TX12) (N := 33) (j := 5) C gwRX12 rfl (by decide) (by decide) iIRX12_5 mFRX12_89 rfl dX12_delivered_34 h37
  have h33 := az_aload_n C 0 rfl dX12_delivered_33 h34
  have h30 := az_putI (T := TX12) (N := 33) (j := 5) C gwRX12 rfl (by decide) (by decide) tyX12 tyX12_ok nmX12 iIRX12_5 (by decide +kernel) rfl mFRX12_89 rfl dX12_delivered_30 h33
  exact h30
def LX12_delivered_29 (Q : Option Value → az_M → Prop) : az_T := (s_ic (nI 1) (s_kp [true, true, true, true] (LX12_delivered_30 Q)))
theorem okLX12_delivered_29 {X : az_X} {Q : Option Value → az_M → Prop} (C : az_C X cX12_delivered 4 RX12 (az_ts yX12_delivered cX12_delivered 4 (some .int)) ({ frames := 8, cells := 0, slots := 0, locals := 257 } : Room) (some .int) Q) : az_ok X 29 (LX12_delivered_29 Q) := by
  have h29 := az_iconst (x := (nI 1)) C dX12_delivered_29 (by decide +kernel) (az_keep [true, true, true, true] (okLX12_delivered_30 C))
  exact h29
def PX12_delivered (Q : Option Value → az_M → Prop) : az_T := (s_la 0 (s_la 0 (s_li 1 (s_cv 1 13 FX12_isUnit (s_if c_eq (s_kp [true, true, true, true] (LX12_delivered_29 Q)) (s_la 0 (s_li 2 (s_cv 1 13 FX12_isBus (s_if c_eq (s_kp [true, true, true, true] (LX12_delivered_29 Q)) (s_la 0 (s_li 3 (s_cv 1 13 FX12_isHour (s_if c_eq (s_kp [true, true, true, true] (LX12_delivered_29 Q)) (s_ic (nI 0) (s_kp [true, true, true, true] (LX12_delivered_30 Q))))))))))))))))
def FX12_delivered : az_F := az_fun [true, false, false, false] 4 PX12_delivered
theorem okX12_delivered (l : Launch) : az_met l yX12_delivered cX12_delivered 4 (some .int) ({ frames := 8, cells := 0, slots := 0, locals := 257 } : Room) FX12_delivered := az_met_of (own := RX12) (by decide +kernel) rfl (by decide) (fun X Q C => by
  have h26 := az_goto (tgt := 30) C dX12_delivered_26 (by decide) (az_keep [true, true, true, true] (okLX12_delivered_30 C))
  have h25 := az_iconst (x := (nI 0)) C dX12_delivered_25 (by decide +kernel) h26
  have h22 := az_if_eq (tgt := 29) C dX12_delivered_22 (by decide) (az_keep [true, true, true, true] (okLX12_delivered_29 C)) h25
  have h19 := az_callV (ci := 13) C okX12_isHour knX12_isHour imX12_isHour seX12_isHour mLRX12_117 rfl (by decide) ⟨rfl, rfl, by decide, by decide⟩ dX12_delivered_19 h22
  have h18 := az_iload_n C 3 rfl dX12_delivered_18 h19
  have h17 := az_aload_n C 0 rfl dX12_delivered_17 h18
  have h14 := az_if_eq (tgt := 29) C dX12_delivered_14 (by decide) (az_keep [true, true, true, true] (okLX12_delivered_29 C)) h17
  have h11 := az_callV (ci := 13) C okX12_isBus knX12_isBus imX12_isBus seX12_isBus mLRX12_113 rfl (by decide) ⟨rfl, rfl, by decide, by decide⟩ dX12_delivered_11 h14
  have h10 := az_iload_n C 2 rfl dX12_delivered_10 h11
  have h9 := az_aload_n C 0 rfl dX12_delivered_9 h10
  have h6 := az_if_eq (tgt := 29) C dX12_delivered_6 (by decide) (az_keep [true, true, true, true] (okLX12_delivered_29 C)) h9
  have h3 := az_callV (ci := 13) C okX12_isUnit knX12_isUnit imX12_isUnit seX12_isUnit mLRX12_131 rfl (by decide) ⟨rfl, rfl, by decide, by decide⟩ dX12_delivered_3 h6
  have h2 := az_iload_n C 1 rfl dX12_delivered_2 h3
  have h1 := az_aload_n C 0 rfl dX12_delivered_1 h2
  have h0 := az_aload_n C 0 rfl dX12_delivered_0 h1
  exact h0) l
theorem dX12_bus_0 : decode cX12_bus 0 = .ok (.aload_n 0, 1) := by decide +kernel
theorem dX12_bus_1 : decode cX12_bus 1 = .ok (.aload_n 0, 1) := by decide +kernel
theorem dX12_bus_2 : decode cX12_bus 2 = .ok (.iload_n 1, 1) := by decide +kernel
theorem dX12_bus_3 : decode cX12_bus 3 = .ok (.invokevirtual 113, 3) := by decide +kernel
theorem dX12_bus_6 : decode cX12_bus 6 = .ok (.ifCond .eq 11, 3) := by decide +kernel
theorem dX12_bus_9 : decode cX12_bus 9 = .ok (.aload_n 0, 1) := by decide +kernel
theorem dX12_bus_10 : decode cX12_bus 10 = .ok (.iload_n 2, 1) := by decide +kernel
theorem dX12_bus_11 : decode cX12_bus 11 = .ok (.invokevirtual 117, 3) := by decide +kernel
theorem dX12_bus_14 : decode cX12_bus 14 = .ok (.ifCond .ne 7, 3) := by decide +kernel
theorem dX12_bus_17 : decode cX12_bus 17 = .ok (.iconst 1, 1) := by decide +kernel
theorem dX12_bus_18 : decode cX12_bus 18 = .ok (.goto 17, 3) := by decide +kernel
theorem dX12_bus_21 : decode cX12_bus 21 = .ok (.iload_n 3, 1) := by decide +kernel
theorem dX12_bus_22 : decode cX12_bus 22 = .ok (.iconst 0, 1) := by decide +kernel
theorem dX12_bus_23 : decode cX12_bus 23 = .ok (.iconst 4, 1) := by decide +kernel
theorem dX12_bus_24 : decode cX12_bus 24 = .ok (.invokestatic 92, 3) := by decide +kernel
theorem dX12_bus_27 : decode cX12_bus 27 = .ok (.ifCond .ne 7, 3) := by decide +kernel
theorem dX12_bus_30 : decode cX12_bus 30 = .ok (.iconst 2, 1) := by decide +kernel
theorem dX12_bus_31 : decode cX12_bus 31 = .ok (.goto 4, 3) := by decide +kernel
theorem dX12_bus_34 : decode cX12_bus 34 = .ok (.iconst 0, 1) := by decide +kernel
theorem dX12_bus_35 : decode cX12_bus 35 = .ok (.putfield 89, 3) := by decide +kernel
theorem dX12_bus_38 : decode cX12_bus 38 = .ok (.aload_n 0, 1) := by decide +kernel
theorem dX12_bus_39 : decode cX12_bus 39 = .ok (.getfield 89, 3) := by decide +kernel
theorem dX12_bus_42 : decode cX12_bus 42 = .ok (.ifCond .le 5, 3) := by decide +kernel
theorem dX12_bus_45 : decode cX12_bus 45 = .ok (.iconst 0, 1) := by decide +kernel
theorem dX12_bus_46 : decode cX12_bus 46 = .ok (.ireturn, 1) := by decide +kernel
theorem dX12_bus_47 : decode cX12_bus 47 = .ok (.aload_n 0, 1) := by decide +kernel
theorem dX12_bus_48 : decode cX12_bus 48 = .ok (.invokevirtual 137, 3) := by decide +kernel
theorem dX12_bus_51 : decode cX12_bus 51 = .ok (.iload_n 3, 1) := by decide +kernel
theorem dX12_bus_52 : decode cX12_bus 52 = .ok (.tableswitch 78 0 3 #[32, 46, 57, 68], 32) := by decide +kernel
theorem dX12_bus_84 : decode cX12_bus 84 = .ok (.aload_n 0, 1) := by decide +kernel
theorem dX12_bus_85 : decode cX12_bus 85 = .ok (.getfield 9, 3) := by decide +kernel
theorem dX12_bus_88 : decode cX12_bus 88 = .ok (.iconst 5, 1) := by decide +kernel
theorem dX12_bus_89 : decode cX12_bus 89 = .ok (.bipush 24, 2) := by decide +kernel
theorem dX12_bus_91 : decode cX12_bus 91 = .ok (.iload_n 1, 1) := by decide +kernel
theorem dX12_bus_92 : decode cX12_bus 92 = .ok (.imul, 1) := by decide +kernel
theorem dX12_bus_93 : decode cX12_bus 93 = .ok (.iadd, 1) := by decide +kernel
theorem dX12_bus_94 : decode cX12_bus 94 = .ok (.iload_n 2, 1) := by decide +kernel
theorem dX12_bus_95 : decode cX12_bus 95 = .ok (.iadd, 1) := by decide +kernel
theorem dX12_bus_96 : decode cX12_bus 96 = .ok (.iaload, 1) := by decide +kernel
theorem dX12_bus_97 : decode cX12_bus 97 = .ok (.ireturn, 1) := by decide +kernel
theorem dX12_bus_98 : decode cX12_bus 98 = .ok (.aload_n 0, 1) := by decide +kernel
theorem dX12_bus_99 : decode cX12_bus 99 = .ok (.getfield 53, 3) := by decide +kernel
theorem dX12_bus_102 : decode cX12_bus 102 = .ok (.iconst 4, 1) := by decide +kernel
theorem dX12_bus_103 : decode cX12_bus 103 = .ok (.iload_n 2, 1) := by decide +kernel
theorem dX12_bus_104 : decode cX12_bus 104 = .ok (.imul, 1) := by decide +kernel
theorem dX12_bus_105 : decode cX12_bus 105 = .ok (.iload_n 1, 1) := by decide +kernel
theorem dX12_bus_106 : decode cX12_bus 106 = .ok (.iadd, 1) := by decide +kernel
theorem dX12_bus_107 : decode cX12_bus 107 = .ok (.iaload, 1) := by decide +kernel
theorem dX12_bus_108 : decode cX12_bus 108 = .ok (.ireturn, 1) := by decide +kernel
theorem dX12_bus_109 : decode cX12_bus 109 = .ok (.aload_n 0, 1) := by decide +kernel
theorem dX12_bus_110 : decode cX12_bus 110 = .ok (.getfield 56, 3) := by decide +kernel
theorem dX12_bus_113 : decode cX12_bus 113 = .ok (.iconst 4, 1) := by decide +kernel
theorem dX12_bus_114 : decode cX12_bus 114 = .ok (.iload_n 2, 1) := by decide +kernel
theorem dX12_bus_115 : decode cX12_bus 115 = .ok (.imul, 1) := by decide +kernel
theorem dX12_bus_116 : decode cX12_bus 116 = .ok (.iload_n 1, 1) := by decide +kernel
theorem dX12_bus_117 : decode cX12_bus 117 = .ok (.iadd, 1) := by decide +kernel
theorem dX12_bus_118 : decode cX12_bus 118 = .ok (.iaload, 1) := by decide +kernel
theorem dX12_bus_119 : decode cX12_bus 119 = .ok (.ireturn, 1) := by decide +kernel
theorem dX12_bus_120 : decode cX12_bus 120 = .ok (.aload_n 0, 1) := by decide +kernel
theorem dX12_bus_121 : decode cX12_bus 121 = .ok (.getfield 9, 3) := by decide +kernel
theorem dX12_bus_124 : decode cX12_bus 124 = .ok (.bipush 125, 2) := by decide +kernel
theorem dX12_bus_126 : decode cX12_bus 126 = .ok (.iload_n 1, 1) := by decide +kernel
theorem dX12_bus_127 : decode cX12_bus 127 = .ok (.iadd, 1) := by decide +kernel
theorem dX12_bus_128 : decode cX12_bus 128 = .ok (.iaload, 1) := by decide +kernel
theorem dX12_bus_129 : decode cX12_bus 129 = .ok (.ireturn, 1) := by decide +kernel
theorem dX12_bus_130 : decode cX12_bus 130 = .ok (.aload_n 0, 1) := by decide +kernel
theorem dX12_bus_131 : decode cX12_bus 131 = .ok (.getfield 9, 3) := by decide +kernel
theorem dX12_bus_134 : decode cX12_bus 134 = .ok (.sipush 129, 3) := by decide +kernel
theorem dX12_bus_137 : decode cX12_bus 137 = .ok (.iload_n 1, 1) := by decide +kernel
theorem dX12_bus_138 : decode cX12_bus 138 = .ok (.iadd, 1) := by decide +kernel
theorem dX12_bus_139 : decode cX12_bus 139 = .ok (.iaload, 1) := by decide +kernel
theorem dX12_bus_140 : decode cX12_bus 140 = .ok (.ireturn, 1) := by decide +kernel
def LX12_bus_35 (Q : Option Value → az_M → Prop) : az_T := (s_pi 13 5 (s_la 0 (s_gi 13 5 (s_if c_le (s_la 0 (s_cv 0 13 FX12_know (s_li 3 (s_sw 0 [(s_la 0 (s_gr 13 0 (s_ic (nI 5) (s_ic (nI 24) (s_li 1 (s_bin f_mul (s_bin f_add (s_li 2 (s_bin f_add (s_al 20 (s_ri Q))))))))))), (s_la 0 (s_gr 13 18 (s_ic (nI 4) (s_li 2 (s_bin f_mul (s_li 1 (s_bin f_add (s_al 20 (s_ri Q))))))))), (s_la 0 (s_gr 13 19 (s_ic (nI 4) (s_li 2 (s_bin f_mul (s_li 1 (s_bin f_add (s_al 20 (s_ri Q))))))))), (s_la 0 (s_gr 13 0 (s_ic (nI 125) (s_li 1 (s_bin f_add (s_al 20 (s_ri Q)))))))] (s_la 0 (s_gr 13 0 (s_ic (nI 129) (s_li 1 (s_bin f_add (s_al 20 (s_ri Q))))))))))) (s_ic (nI 0) (s_ri Q))))))
theorem okLX12_bus_35 {X : az_X} {Q : Option Value → az_M → Prop} (C : az_C X cX12_bus 4 RX12 (az_ts yX12_bus cX12_bus 4 (some .int)) ({ frames := 8, cells := 0, slots := 0, locals := 257 } : Room) (some .int) Q) : az_ok X 35 (LX12_bus_35 Q) := by
  have h97 := az_ireturn C rfl dX12_bus_97
  have h96 := az_iald C dX12_bus_96 h97
  have h95 := az_iadd C dX12_bus_95 h96
  have h94 := az_iload_n C 2 rfl dX12_bus_94 h95
  have h93 := az_iadd C dX12_bus_93 h94
  have h92 := az_imul C dX12_bus_92 h93
  have h91 := az_iload_n C 1 rfl dX12_bus_91 h92
  have h89 := az_bipush (x := (nI 24)) C dX12_bus_89 (by decide +kernel) h91
  have h88 := az_iconst (x := (nI 5)) C dX12_bus_88 (by decide +kernel) h89
  have h85 := az_getR (T := TX12) (N := 33) (j := 0) C gwRX12 rfl (by decide) (by decide) iIRX12_0 mFRX12_9 rfl dX12_bus_85 h88
  have h84 := az_aload_n C 0 rfl dX12_bus_84 h85
  have h108 := az_ireturn C rfl dX12_bus_108
  have h107 := az_iald C dX12_bus_107 h108
  have h106 := az_iadd C dX12_bus_106 h107
  have h105 := az_iload_n C 1 rfl dX12_bus_105 h106
  have h104 := az_imul C dX12_bus_104 h105
  have h103 := az_iload_n C 2 rfl dX12_bus_103 h104
  have h102 := az_iconst (x := (nI 4)) C dX12_bus_102 (by decide +kernel) h103
  have h99 := az_getR (T := TX12) (N := 33) (j := 18) C gwRX12 rfl (by decide) (by decide) iIRX12_18 mFRX12_53 rfl dX12_bus_99 h102
  have h98 := az_aload_n C 0 rfl dX12_bus_98 h99
  have h119 := az_ireturn C rfl dX12_bus_119
  have h118 := az_iald C dX12_bus_118 h119
  have h117 := az_iadd C dX12_bus_117 h118
  have h116 := az_iload_n C 1 rfl dX12_bus_116 h117
  have h115 := az_imul C dX12_bus_115 h116
  have h114 := az_iload_n C 2 rfl dX12_bus_114 h115
  have h113 := az_iconst (x := (nI 4)) C dX12_bus_113 (by decide +kernel) h114
  have h110 := az_getR (T := TX12) (N := 33) (j := 19) C gwRX12 rfl (by decide) (by decide) iIRX12_19 mFRX12_56 rfl dX12_bus_110 h113
  have h109 := az_aload_n C 0 rfl dX12_bus_109 h110
  have h129 := az_ireturn C rfl dX12_bus_129
  have h128 := az_iald C dX12_bus_128 h129
  have h127 := az_iadd C dX12_bus_127 h128
  have h126 := az_iload_n C 1 rfl dX12_bus_126 h127
  have h124 := az_bipush (x := (nI 125)) C dX12_bus_124 (by decide +kernel) h126
  have h121 := az_getR (T := TX12) (N := 33) (j := 0) C gwRX12 rfl (by decide) (by decide) iIRX12_0 mFRX12_9 rfl dX12_bus_121 h124
  have h120 := az_aload_n C 0 rfl dX12_bus_120 h121
  have h140 := az_ireturn C rfl dX12_bus_140
  have h139 := az_iald C dX12_bus_139 h140
  have h138 := az_iadd C dX12_bus_138 h139
  have h137 := az_iload_n C 1 rfl dX12_bus_137 h138
  have h134 := az_sipush (x := (nI 129)) C dX12_bus_134 (by decide +kernel) h137
  have h131 := az_getR (T := TX12) (N := 33) (j := 0) C gwRX12 rfl (by decide) (by decide) iIRX12_0 mFRX12_9 rfl dX12_bus_131 h134
  have h130 := az_aload_n C 0 rfl dX12_bus_130 h131
  have h52 := az_tsw (td := 130) (tgts := [84, 98, 109, 120]) (lo := 0) C dX12_bus_52 (by decide) (by decide +kernel) (by decide) h130 (az_all_cons h84 (az_all_cons h98 (az_all_cons h109 (az_all_cons h120 az_all_nil))))
  have h51 := az_iload_n C 3 rfl dX12_bus_51 h52
  have h48 := az_callV (ci := 13) C okX12_know knX12_know imX12_know seX12_know mLRX12_137 rfl (by decide) ⟨rfl, rfl, by decide, by decide⟩ dX12_bus_48 h51
  have h47 := az_aload_n C 0 rfl dX12_bus_47 h48
  have h46 := az_ireturn C rfl dX12_bus_46
  have h45 := az_iconst (x := (nI 0)) C dX12_bus_45 (by decide +kernel) h46
  have h42 := az_if_le (tgt := 47) C dX12_bus_42 (by decide) h47 h45
  have h39 := az_getI (T := TX12) (N := 33) (j := 5) C gwRX12 rfl (by decide) (by decide) iIRX12_5 mFRX12_89 rfl dX12_bus_39 h42
  have h38 := az_aload_n C 0 rfl dX12_bus_38 h39
  have h35 := az_putI (T := TX12) (N := 33) (j := 5) C gwRX12 rfl (by decide) (by decide) tyX12 tyX12_ok nmX12 iIRX12_5 (by decide +kernel) rfl mFRX12_89 rfl dX12_bus_35 h38
  exact h35
def LX12_bus_17 (Q : Option Value → az_M → Prop) : az_T := (s_ic (nI 1) (s_kp [true, true, true, true] (LX12_bus_35 Q)))
theorem okLX12_bus_17 {X : az_X} {Q : Option Value → az_M → Prop} (C : az_C X cX12_bus 4 RX12 (az_ts yX12_bus cX12_bus 4 (some .int)) ({ frames := 8, cells := 0, slots := 0, locals := 257 } : Room) (some .int) Q) : az_ok X 17 (LX12_bus_17 Q) := by
  have h18 := az_goto (tgt := 35) C dX12_bus_18 (by decide) (az_keep [true, true, true, true] (okLX12_bus_35 C))
  have h17 := az_iconst (x := (nI 1)) C dX12_bus_17 (by decide +kernel) h18
  exact h17
def PX12_bus (Q : Option Value → az_M → Prop) : az_T := (s_la 0 (s_la 0 (s_li 1 (s_cv 1 13 FX12_isBus (s_if c_eq (s_kp [true, true, true, true] (LX12_bus_17 Q)) (s_la 0 (s_li 2 (s_cv 1 13 FX12_isHour (s_if c_ne (s_li 3 (s_ic (nI 0) (s_ic (nI 4) (s_cs 3 FX12_in (s_if c_ne (s_ic (nI 0) (s_kp [true, true, true, true] (LX12_bus_35 Q))) (s_ic (nI 2) (s_kp [true, true, true, true] (LX12_bus_35 Q)))))))) (s_kp [true, true, true, true] (LX12_bus_17 Q)))))))))))
def FX12_bus : az_F := az_fun [true, false, false, false] 4 PX12_bus
theorem okX12_bus (l : Launch) : az_met l yX12_bus cX12_bus 4 (some .int) ({ frames := 8, cells := 0, slots := 0, locals := 257 } : Room) FX12_bus := az_met_of (own := RX12) (by decide +kernel) rfl (by decide) (fun X Q C => by
  have h34 := az_iconst (x := (nI 0)) C dX12_bus_34 (by decide +kernel) (az_keep [true, true, true, true] (okLX12_bus_35 C))
  have h31 := az_goto (tgt := 35) C dX12_bus_31 (by decide) (az_keep [true, true, true, true] (okLX12_bus_35 C))
  have h30 := az_iconst (x := (nI 2)) C dX12_bus_30 (by decide +kernel) h31
  have h27 := az_if_ne (tgt := 34) C dX12_bus_27 (by decide) h34 h30
  have h24 := az_callS C okX12_in knX12_in stX12_in mLRX12_92 ⟨rfl, rfl, by decide, by decide⟩ dX12_bus_24 h27
  have h23 := az_iconst (x := (nI 4)) C dX12_bus_23 (by decide +kernel) h24
  have h22 := az_iconst (x := (nI 0)) C dX12_bus_22 (by decide +kernel) h23
  have h21 := az_iload_n C 3 rfl dX12_bus_21 h22
  have h14 := az_if_ne (tgt := 21) C dX12_bus_14 (by decide) h21 (az_keep [true, true, true, true] (okLX12_bus_17 C))
  have h11 := az_callV (ci := 13) C okX12_isHour knX12_isHour imX12_isHour seX12_isHour mLRX12_117 rfl (by decide) ⟨rfl, rfl, by decide, by decide⟩ dX12_bus_11 h14
  have h10 := az_iload_n C 2 rfl dX12_bus_10 h11
  have h9 := az_aload_n C 0 rfl dX12_bus_9 h10
  have h6 := az_if_eq (tgt := 17) C dX12_bus_6 (by decide) (az_keep [true, true, true, true] (okLX12_bus_17 C)) h9
  have h3 := az_callV (ci := 13) C okX12_isBus knX12_isBus imX12_isBus seX12_isBus mLRX12_113 rfl (by decide) ⟨rfl, rfl, by decide, by decide⟩ dX12_bus_3 h6
  have h2 := az_iload_n C 1 rfl dX12_bus_2 h3
  have h1 := az_aload_n C 0 rfl dX12_bus_1 h2
  have h0 := az_aload_n C 0 rfl dX12_bus_0 h1
  exact h0) l
theorem dX12_runningIn_0 : decode cX12_runningIn 0 = .ok (.iconst 0, 1) := by decide +kernel
theorem dX12_runningIn_1 : decode cX12_runningIn 1 = .ok (.istore_n 2, 1) := by decide +kernel
theorem dX12_runningIn_2 : decode cX12_runningIn 2 = .ok (.iconst 0, 1) := by decide +kernel
theorem dX12_runningIn_3 : decode cX12_runningIn 3 = .ok (.istore_n 3, 1) := by decide +kernel
theorem dX12_runningIn_4 : decode cX12_runningIn 4 = .ok (.iload_n 3, 1) := by decide +kernel
theorem dX12_runningIn_5 : decode cX12_runningIn 5 = .ok (.aload_n 0, 1) := by decide +kernel
theorem dX12_runningIn_6 : decode cX12_runningIn 6 = .ok (.getfield 9, 3) := by decide +kernel
theorem dX12_runningIn_9 : decode cX12_runningIn 9 = .ok (.iconst 2, 1) := by decide +kernel
theorem dX12_runningIn_10 : decode cX12_runningIn 10 = .ok (.iaload, 1) := by decide +kernel
theorem dX12_runningIn_11 : decode cX12_runningIn 11 = .ok (.if_icmp .ge 33, 3) := by decide +kernel
theorem dX12_runningIn_14 : decode cX12_runningIn 14 = .ok (.iload_n 2, 1) := by decide +kernel
theorem dX12_runningIn_15 : decode cX12_runningIn 15 = .ok (.aload_n 0, 1) := by decide +kernel
theorem dX12_runningIn_16 : decode cX12_runningIn 16 = .ok (.getfield 22, 3) := by decide +kernel
theorem dX12_runningIn_19 : decode cX12_runningIn 19 = .ok (.bipush 6, 2) := by decide +kernel
theorem dX12_runningIn_21 : decode cX12_runningIn 21 = .ok (.iload_n 1, 1) := by decide +kernel
theorem dX12_runningIn_22 : decode cX12_runningIn 22 = .ok (.imul, 1) := by decide +kernel
theorem dX12_runningIn_23 : decode cX12_runningIn 23 = .ok (.iload_n 3, 1) := by decide +kernel
theorem dX12_runningIn_24 : decode cX12_runningIn 24 = .ok (.iadd, 1) := by decide +kernel
theorem dX12_runningIn_25 : decode cX12_runningIn 25 = .ok (.baload, 1) := by decide +kernel
theorem dX12_runningIn_26 : decode cX12_runningIn 26 = .ok (.ifCond .eq 9, 3) := by decide +kernel
theorem dX12_runningIn_29 : decode cX12_runningIn 29 = .ok (.iconst 1, 1) := by decide +kernel
theorem dX12_runningIn_30 : decode cX12_runningIn 30 = .ok (.iload_n 3, 1) := by decide +kernel
theorem dX12_runningIn_31 : decode cX12_runningIn 31 = .ok (.ishl, 1) := by decide +kernel
theorem dX12_runningIn_32 : decode cX12_runningIn 32 = .ok (.goto 4, 3) := by decide +kernel
theorem dX12_runningIn_35 : decode cX12_runningIn 35 = .ok (.iconst 0, 1) := by decide +kernel
theorem dX12_runningIn_36 : decode cX12_runningIn 36 = .ok (.ior, 1) := by decide +kernel
theorem dX12_runningIn_37 : decode cX12_runningIn 37 = .ok (.istore_n 2, 1) := by decide +kernel
theorem dX12_runningIn_38 : decode cX12_runningIn 38 = .ok (.iinc 3 1, 3) := by decide +kernel
theorem dX12_runningIn_41 : decode cX12_runningIn 41 = .ok (.goto (-37), 3) := by decide +kernel
theorem dX12_runningIn_44 : decode cX12_runningIn 44 = .ok (.iload_n 2, 1) := by decide +kernel
theorem dX12_runningIn_45 : decode cX12_runningIn 45 = .ok (.ireturn, 1) := by decide +kernel
def LX12_runningIn_36 (Q : Option Value → az_M → Prop) (Z4 : az_T) : az_T := (s_bin f_or (s_si 2 (s_inc 3 (nI 1) (s_kp [true, true, true, true] Z4))))
theorem okLX12_runningIn_36 {X : az_X} {Q : Option Value → az_M → Prop} (C : az_C X cX12_runningIn 4 RX12 (az_ts yX12_runningIn cX12_runningIn 4 (some .int)) ({ frames := 1, cells := 0, slots := 0, locals := 100 } : Room) (some .int) Q) {Z4 : az_T} (hZ4 : az_ok X 4 Z4) : az_ok X 36 (LX12_runningIn_36 Q Z4) := by
  have h41 := az_goto (tgt := 4) C dX12_runningIn_41 (by decide) (az_keep [true, true, true, true] hZ4)
  have h38 := az_iinc (v := (nI 1)) C (by decide) (by decide +kernel) dX12_runningIn_38 h41
  have h37 := az_istore_n C 2 rfl (by decide) dX12_runningIn_37 h38
  have h36 := az_ior C dX12_runningIn_36 h37
  exact h36
def BX12_runningIn_4 (Q : Option Value → az_M → Prop) (Z4 : az_T) : az_T := (s_li 3 (s_la 0 (s_gr 13 0 (s_ic (nI 2) (s_al 20 (s_if2 d_ge (s_li 2 (s_ri Q)) (s_li 2 (s_la 0 (s_gr 13 8 (s_ic (nI 6) (s_li 1 (s_bin f_mul (s_li 3 (s_bin f_add (s_al 21 (s_if c_eq (s_ic (nI 0) (s_kp [true, true, false, true] (LX12_runningIn_36 Q Z4))) (s_ic (nI 1) (s_li 3 (s_bin f_shl (s_kp [true, true, false, true] (LX12_runningIn_36 Q Z4)))))))))))))))))))))
theorem okBX12_runningIn_4 {X : az_X} {Q : Option Value → az_M → Prop} (C : az_C X cX12_runningIn 4 RX12 (az_ts yX12_runningIn cX12_runningIn 4 (some .int)) ({ frames := 1, cells := 0, slots := 0, locals := 100 } : Room) (some .int) Q) {Z4 : az_T} (hZ4 : az_ok X 4 Z4) : az_ok X 4 (BX12_runningIn_4 Q Z4) := by
  have h45 := az_ireturn C rfl dX12_runningIn_45
  have h44 := az_iload_n C 2 rfl dX12_runningIn_44 h45
  have h35 := az_iconst (x := (nI 0)) C dX12_runningIn_35 (by decide +kernel) (az_keep [true, true, false, true] (okLX12_runningIn_36 C hZ4))
  have h32 := az_goto (tgt := 36) C dX12_runningIn_32 (by decide) (az_keep [true, true, false, true] (okLX12_runningIn_36 C hZ4))
  have h31 := az_ishl C dX12_runningIn_31 h32
  have h30 := az_iload_n C 3 rfl dX12_runningIn_30 h31
  have h29 := az_iconst (x := (nI 1)) C dX12_runningIn_29 (by decide +kernel) h30
  have h26 := az_if_eq (tgt := 35) C dX12_runningIn_26 (by decide) h35 h29
  have h25 := az_zald C dX12_runningIn_25 h26
  have h24 := az_iadd C dX12_runningIn_24 h25
  have h23 := az_iload_n C 3 rfl dX12_runningIn_23 h24
  have h22 := az_imul C dX12_runningIn_22 h23
  have h21 := az_iload_n C 1 rfl dX12_runningIn_21 h22
  have h19 := az_bipush (x := (nI 6)) C dX12_runningIn_19 (by decide +kernel) h21
  have h16 := az_getR (T := TX12) (N := 33) (j := 8) C gwRX12 rfl (by decide) (by decide) iIRX12_8 mFRX12_22 rfl dX12_runningIn_16 h19
  have h15 := az_aload_n C 0 rfl dX12_runningIn_15 h16
  have h14 := az_iload_n C 2 rfl dX12_runningIn_14 h15
  have h11 := az_icmp_ge (tgt := 44) C dX12_runningIn_11 (by decide) h44 h14
  have h10 := az_iald C dX12_runningIn_10 h11
  have h9 := az_iconst (x := (nI 2)) C dX12_runningIn_9 (by decide +kernel) h10
  have h6 := az_getR (T := TX12) (N := 33) (j := 0) C gwRX12 rfl (by decide) (by decide) iIRX12_0 mFRX12_9 rfl dX12_runningIn_6 h9
  have h5 := az_aload_n C 0 rfl dX12_runningIn_5 h6
  have h4 := az_iload_n C 3 rfl dX12_runningIn_4 h5
  exact h4
def LX12_runningIn_4 (Q : Option Value → az_M → Prop) : az_T := s_lp (fun Z => BX12_runningIn_4 Q Z)
theorem okLX12_runningIn_4 {X : az_X} {Q : Option Value → az_M → Prop} (C : az_C X cX12_runningIn 4 RX12 (az_ts yX12_runningIn cX12_runningIn 4 (some .int)) ({ frames := 1, cells := 0, slots := 0, locals := 100 } : Room) (some .int) Q) : az_ok X 4 (LX12_runningIn_4 Q) := az_loop (F := fun Z => BX12_runningIn_4 Q Z) (fun _ hZ => okBX12_runningIn_4 C hZ)
def PX12_runningIn (Q : Option Value → az_M → Prop) : az_T := (s_ic (nI 0) (s_si 2 (s_ic (nI 0) (s_si 3 (s_kp [true, true, true, true] (LX12_runningIn_4 Q))))))
def FX12_runningIn : az_F := az_fun [true, false] 4 PX12_runningIn
theorem okX12_runningIn (l : Launch) : az_met l yX12_runningIn cX12_runningIn 4 (some .int) ({ frames := 1, cells := 0, slots := 0, locals := 100 } : Room) FX12_runningIn := az_met_of (own := RX12) (by decide +kernel) rfl (by decide) (fun X Q C => by
  have h3 := az_istore_n C 3 rfl (by decide) dX12_runningIn_3 (az_keep [true, true, true, true] (okLX12_runningIn_4 C))
  have h2 := az_iconst (x := (nI 0)) C dX12_runningIn_2 (by decide +kernel) h3
  have h1 := az_istore_n C 2 rfl (by decide) dX12_runningIn_1 h2
  have h0 := az_iconst (x := (nI 0)) C dX12_runningIn_0 (by decide +kernel) h1
  exact h0) l
theorem dX12_hour_0 : decode cX12_hour 0 = .ok (.aload_n 0, 1) := by decide +kernel
theorem dX12_hour_1 : decode cX12_hour 1 = .ok (.aload_n 0, 1) := by decide +kernel
theorem dX12_hour_2 : decode cX12_hour 2 = .ok (.iload_n 1, 1) := by decide +kernel
theorem dX12_hour_3 : decode cX12_hour 3 = .ok (.invokevirtual 117, 3) := by decide +kernel
theorem dX12_hour_6 : decode cX12_hour 6 = .ok (.ifCond .ne 7, 3) := by decide +kernel
theorem dX12_hour_9 : decode cX12_hour 9 = .ok (.iconst 1, 1) := by decide +kernel
theorem dX12_hour_10 : decode cX12_hour 10 = .ok (.goto 18, 3) := by decide +kernel
theorem dX12_hour_13 : decode cX12_hour 13 = .ok (.iload_n 2, 1) := by decide +kernel
theorem dX12_hour_14 : decode cX12_hour 14 = .ok (.iconst 0, 1) := by decide +kernel
theorem dX12_hour_15 : decode cX12_hour 15 = .ok (.bipush 7, 2) := by decide +kernel
theorem dX12_hour_17 : decode cX12_hour 17 = .ok (.invokestatic 92, 3) := by decide +kernel
theorem dX12_hour_20 : decode cX12_hour 20 = .ok (.ifCond .ne 7, 3) := by decide +kernel
theorem dX12_hour_23 : decode cX12_hour 23 = .ok (.iconst 2, 1) := by decide +kernel
theorem dX12_hour_24 : decode cX12_hour 24 = .ok (.goto 4, 3) := by decide +kernel
theorem dX12_hour_27 : decode cX12_hour 27 = .ok (.iconst 0, 1) := by decide +kernel
theorem dX12_hour_28 : decode cX12_hour 28 = .ok (.putfield 89, 3) := by decide +kernel
theorem dX12_hour_31 : decode cX12_hour 31 = .ok (.aload_n 0, 1) := by decide +kernel
theorem dX12_hour_32 : decode cX12_hour 32 = .ok (.getfield 89, 3) := by decide +kernel
theorem dX12_hour_35 : decode cX12_hour 35 = .ok (.ifCond .le 5, 3) := by decide +kernel
theorem dX12_hour_38 : decode cX12_hour 38 = .ok (.iconst 0, 1) := by decide +kernel
theorem dX12_hour_39 : decode cX12_hour 39 = .ok (.ireturn, 1) := by decide +kernel
theorem dX12_hour_40 : decode cX12_hour 40 = .ok (.aload_n 0, 1) := by decide +kernel
theorem dX12_hour_41 : decode cX12_hour 41 = .ok (.invokevirtual 137, 3) := by decide +kernel
theorem dX12_hour_44 : decode cX12_hour 44 = .ok (.iload_n 2, 1) := by decide +kernel
theorem dX12_hour_45 : decode cX12_hour 45 = .ok (.tableswitch 113 0 6 #[43, 49, 55, 61, 71, 89, 107], 43) := by decide +kernel
theorem dX12_hour_88 : decode cX12_hour 88 = .ok (.aload_n 0, 1) := by decide +kernel
theorem dX12_hour_89 : decode cX12_hour 89 = .ok (.iload_n 1, 1) := by decide +kernel
theorem dX12_hour_90 : decode cX12_hour 90 = .ok (.invokevirtual 233, 3) := by decide +kernel
theorem dX12_hour_93 : decode cX12_hour 93 = .ok (.ireturn, 1) := by decide +kernel
theorem dX12_hour_94 : decode cX12_hour 94 = .ok (.aload_n 0, 1) := by decide +kernel
theorem dX12_hour_95 : decode cX12_hour 95 = .ok (.iload_n 1, 1) := by decide +kernel
theorem dX12_hour_96 : decode cX12_hour 96 = .ok (.invokevirtual 236, 3) := by decide +kernel
theorem dX12_hour_99 : decode cX12_hour 99 = .ok (.ireturn, 1) := by decide +kernel
theorem dX12_hour_100 : decode cX12_hour 100 = .ok (.aload_n 0, 1) := by decide +kernel
theorem dX12_hour_101 : decode cX12_hour 101 = .ok (.iload_n 1, 1) := by decide +kernel
theorem dX12_hour_102 : decode cX12_hour 102 = .ok (.invokevirtual 205, 3) := by decide +kernel
theorem dX12_hour_105 : decode cX12_hour 105 = .ok (.ireturn, 1) := by decide +kernel
theorem dX12_hour_106 : decode cX12_hour 106 = .ok (.aload_n 0, 1) := by decide +kernel
theorem dX12_hour_107 : decode cX12_hour 107 = .ok (.getfield 9, 3) := by decide +kernel
theorem dX12_hour_110 : decode cX12_hour 110 = .ok (.bipush 101, 2) := by decide +kernel
theorem dX12_hour_112 : decode cX12_hour 112 = .ok (.iload_n 1, 1) := by decide +kernel
theorem dX12_hour_113 : decode cX12_hour 113 = .ok (.iadd, 1) := by decide +kernel
theorem dX12_hour_114 : decode cX12_hour 114 = .ok (.iaload, 1) := by decide +kernel
theorem dX12_hour_115 : decode cX12_hour 115 = .ok (.ireturn, 1) := by decide +kernel
theorem dX12_hour_116 : decode cX12_hour 116 = .ok (.aload_n 0, 1) := by decide +kernel
theorem dX12_hour_117 : decode cX12_hour 117 = .ok (.aload_n 0, 1) := by decide +kernel
theorem dX12_hour_118 : decode cX12_hour 118 = .ok (.getfield 41, 3) := by decide +kernel
theorem dX12_hour_121 : decode cX12_hour 121 = .ok (.iload_n 1, 1) := by decide +kernel
theorem dX12_hour_122 : decode cX12_hour 122 = .ok (.bipush 6, 2) := by decide +kernel
theorem dX12_hour_124 : decode cX12_hour 124 = .ok (.aload_n 0, 1) := by decide +kernel
theorem dX12_hour_125 : decode cX12_hour 125 = .ok (.getfield 9, 3) := by decide +kernel
theorem dX12_hour_128 : decode cX12_hour 128 = .ok (.iconst 2, 1) := by decide +kernel
theorem dX12_hour_129 : decode cX12_hour 129 = .ok (.iaload, 1) := by decide +kernel
theorem dX12_hour_130 : decode cX12_hour 130 = .ok (.invokevirtual 189, 3) := by decide +kernel
theorem dX12_hour_133 : decode cX12_hour 133 = .ok (.ireturn, 1) := by decide +kernel
theorem dX12_hour_134 : decode cX12_hour 134 = .ok (.aload_n 0, 1) := by decide +kernel
theorem dX12_hour_135 : decode cX12_hour 135 = .ok (.aload_n 0, 1) := by decide +kernel
theorem dX12_hour_136 : decode cX12_hour 136 = .ok (.getfield 44, 3) := by decide +kernel
theorem dX12_hour_139 : decode cX12_hour 139 = .ok (.iload_n 1, 1) := by decide +kernel
theorem dX12_hour_140 : decode cX12_hour 140 = .ok (.bipush 6, 2) := by decide +kernel
theorem dX12_hour_142 : decode cX12_hour 142 = .ok (.aload_n 0, 1) := by decide +kernel
theorem dX12_hour_143 : decode cX12_hour 143 = .ok (.getfield 9, 3) := by decide +kernel
theorem dX12_hour_146 : decode cX12_hour 146 = .ok (.iconst 2, 1) := by decide +kernel
theorem dX12_hour_147 : decode cX12_hour 147 = .ok (.iaload, 1) := by decide +kernel
theorem dX12_hour_148 : decode cX12_hour 148 = .ok (.invokevirtual 189, 3) := by decide +kernel
theorem dX12_hour_151 : decode cX12_hour 151 = .ok (.ireturn, 1) := by decide +kernel
theorem dX12_hour_152 : decode cX12_hour 152 = .ok (.aload_n 0, 1) := by decide +kernel
theorem dX12_hour_153 : decode cX12_hour 153 = .ok (.iload_n 1, 1) := by decide +kernel
theorem dX12_hour_154 : decode cX12_hour 154 = .ok (.invokevirtual 202, 3) := by decide +kernel
theorem dX12_hour_157 : decode cX12_hour 157 = .ok (.ireturn, 1) := by decide +kernel
theorem dX12_hour_158 : decode cX12_hour 158 = .ok (.aload_n 0, 1) := by decide +kernel
theorem dX12_hour_159 : decode cX12_hour 159 = .ok (.iload_n 1, 1) := by decide +kernel
theorem dX12_hour_160 : decode cX12_hour 160 = .ok (.invokevirtual 264, 3) := by decide +kernel
theorem dX12_hour_163 : decode cX12_hour 163 = .ok (.ireturn, 1) := by decide +kernel
def LX12_hour_28 (Q : Option Value → az_M → Prop) : az_T := (s_pi 13 5 (s_la 0 (s_gi 13 5 (s_if c_le (s_la 0 (s_cv 0 13 FX12_know (s_li 2 (s_sw 0 [(s_la 0 (s_li 1 (s_cv 1 13 FX12_costOf (s_ri Q)))), (s_la 0 (s_li 1 (s_cv 1 13 FX12_penaltyOf (s_ri Q)))), (s_la 0 (s_li 1 (s_cv 1 13 FX12_reserveOf (s_ri Q)))), (s_la 0 (s_gr 13 0 (s_ic (nI 101) (s_li 1 (s_bin f_add (s_al 20 (s_ri Q))))))), (s_la 0 (s_la 0 (s_gr 13 14 (s_li 1 (s_ic (nI 6) (s_la 0 (s_gr 13 0 (s_ic (nI 2) (s_al 20 (s_cv 4 13 FX12_sum (s_ri Q))))))))))), (s_la 0 (s_la 0 (s_gr 13 15 (s_li 1 (s_ic (nI 6) (s_la 0 (s_gr 13 0 (s_ic (nI 2) (s_al 20 (s_cv 4 13 FX12_sum (s_ri Q))))))))))), (s_la 0 (s_li 1 (s_cv 1 13 FX12_shedIn (s_ri Q))))] (s_la 0 (s_li 1 (s_cv 1 13 FX12_runningIn (s_ri Q)))))))) (s_ic (nI 0) (s_ri Q))))))
theorem okLX12_hour_28 {X : az_X} {Q : Option Value → az_M → Prop} (C : az_C X cX12_hour 3 RX12 (az_ts yX12_hour cX12_hour 3 (some .int)) ({ frames := 8, cells := 0, slots := 0, locals := 257 } : Room) (some .int) Q) : az_ok X 28 (LX12_hour_28 Q) := by
  have h93 := az_ireturn C rfl dX12_hour_93
  have h90 := az_callV (ci := 13) C okX12_costOf knX12_costOf imX12_costOf seX12_costOf mLRX12_233 rfl (by decide) ⟨rfl, rfl, by decide, by decide⟩ dX12_hour_90 h93
  have h89 := az_iload_n C 1 rfl dX12_hour_89 h90
  have h88 := az_aload_n C 0 rfl dX12_hour_88 h89
  have h99 := az_ireturn C rfl dX12_hour_99
  have h96 := az_callV (ci := 13) C okX12_penaltyOf knX12_penaltyOf imX12_penaltyOf seX12_penaltyOf mLRX12_236 rfl (by decide) ⟨rfl, rfl, by decide, by decide⟩ dX12_hour_96 h99
  have h95 := az_iload_n C 1 rfl dX12_hour_95 h96
  have h94 := az_aload_n C 0 rfl dX12_hour_94 h95
  have h105 := az_ireturn C rfl dX12_hour_105
  have h102 := az_callV (ci := 13) C okX12_reserveOf knX12_reserveOf imX12_reserveOf seX12_reserveOf mLRX12_205 rfl (by decide) ⟨rfl, rfl, by decide, by decide⟩ dX12_hour_102 h105
  have h101 := az_iload_n C 1 rfl dX12_hour_101 h102
  have h100 := az_aload_n C 0 rfl dX12_hour_100 h101
  have h115 := az_ireturn C rfl dX12_hour_115
  have h114 := az_iald C dX12_hour_114 h115
  have h113 := az_iadd C dX12_hour_113 h114
  have h112 := az_iload_n C 1 rfl dX12_hour_112 h113
  have h110 := az_bipush (x := (nI 101)) C dX12_hour_110 (by decide +kernel) h112
  have h107 := az_getR (T := TX12) (N := 33) (j := 0) C gwRX12 rfl (by decide) (by decide) iIRX12_0 mFRX12_9 rfl dX12_hour_107 h110
  have h106 := az_aload_n C 0 rfl dX12_hour_106 h107
  have h133 := az_ireturn C rfl dX12_hour_133
  have h130 := az_callV (ci := 13) C okX12_sum knX12_sum imX12_sum seX12_sum mLRX12_189 rfl (by decide) ⟨rfl, rfl, by decide, by decide⟩ dX12_hour_130 h133
  have h129 := az_iald C dX12_hour_129 h130
  have h128 := az_iconst (x := (nI 2)) C dX12_hour_128 (by decide +kernel) h129
  have h125 := az_getR (T := TX12) (N := 33) (j := 0) C gwRX12 rfl (by decide) (by decide) iIRX12_0 mFRX12_9 rfl dX12_hour_125 h128
  have h124 := az_aload_n C 0 rfl dX12_hour_124 h125
  have h122 := az_bipush (x := (nI 6)) C dX12_hour_122 (by decide +kernel) h124
  have h121 := az_iload_n C 1 rfl dX12_hour_121 h122
  have h118 := az_getR (T := TX12) (N := 33) (j := 14) C gwRX12 rfl (by decide) (by decide) iIRX12_14 mFRX12_41 rfl dX12_hour_118 h121
  have h117 := az_aload_n C 0 rfl dX12_hour_117 h118
  have h116 := az_aload_n C 0 rfl dX12_hour_116 h117
  have h151 := az_ireturn C rfl dX12_hour_151
  have h148 := az_callV (ci := 13) C okX12_sum knX12_sum imX12_sum seX12_sum mLRX12_189 rfl (by decide) ⟨rfl, rfl, by decide, by decide⟩ dX12_hour_148 h151
  have h147 := az_iald C dX12_hour_147 h148
  have h146 := az_iconst (x := (nI 2)) C dX12_hour_146 (by decide +kernel) h147
  have h143 := az_getR (T := TX12) (N := 33) (j := 0) C gwRX12 rfl (by decide) (by decide) iIRX12_0 mFRX12_9 rfl dX12_hour_143 h146
  have h142 := az_aload_n C 0 rfl dX12_hour_142 h143
  have h140 := az_bipush (x := (nI 6)) C dX12_hour_140 (by decide +kernel) h142
  have h139 := az_iload_n C 1 rfl dX12_hour_139 h140
  have h136 := az_getR (T := TX12) (N := 33) (j := 15) C gwRX12 rfl (by decide) (by decide) iIRX12_15 mFRX12_44 rfl dX12_hour_136 h139
  have h135 := az_aload_n C 0 rfl dX12_hour_135 h136
  have h134 := az_aload_n C 0 rfl dX12_hour_134 h135
  have h157 := az_ireturn C rfl dX12_hour_157
  have h154 := az_callV (ci := 13) C okX12_shedIn knX12_shedIn imX12_shedIn seX12_shedIn mLRX12_202 rfl (by decide) ⟨rfl, rfl, by decide, by decide⟩ dX12_hour_154 h157
  have h153 := az_iload_n C 1 rfl dX12_hour_153 h154
  have h152 := az_aload_n C 0 rfl dX12_hour_152 h153
  have h163 := az_ireturn C rfl dX12_hour_163
  have h160 := az_callV (ci := 13) C okX12_runningIn knX12_runningIn imX12_runningIn seX12_runningIn mLRX12_264 rfl (by decide) ⟨rfl, rfl, by decide, by decide⟩ dX12_hour_160 h163
  have h159 := az_iload_n C 1 rfl dX12_hour_159 h160
  have h158 := az_aload_n C 0 rfl dX12_hour_158 h159
  have h45 := az_tsw (td := 158) (tgts := [88, 94, 100, 106, 116, 134, 152]) (lo := 0) C dX12_hour_45 (by decide) (by decide +kernel) (by decide) h158 (az_all_cons h88 (az_all_cons h94 (az_all_cons h100 (az_all_cons h106 (az_all_cons h116 (az_all_cons h134 (az_all_cons h152 az_all_nil)))))))
  have h44 := az_iload_n C 2 rfl dX12_hour_44 h45
  have h41 := az_callV (ci := 13) C okX12_know knX12_know imX12_know seX12_know mLRX12_137 rfl (by decide) ⟨rfl, rfl, by decide, by decide⟩ dX12_hour_41 h44
  have h40 := az_aload_n C 0 rfl dX12_hour_40 h41
  have h39 := az_ireturn C rfl dX12_hour_39
  have h38 := az_iconst (x := (nI 0)) C dX12_hour_38 (by decide +kernel) h39
  have h35 := az_if_le (tgt := 40) C dX12_hour_35 (by decide) h40 h38
  have h32 := az_getI (T := TX12) (N := 33) (j := 5) C gwRX12 rfl (by decide) (by decide) iIRX12_5 mFRX12_89 rfl dX12_hour_32 h35
  have h31 := az_aload_n C 0 rfl dX12_hour_31 h32
  have h28 := az_putI (T := TX12) (N := 33) (j := 5) C gwRX12 rfl (by decide) (by decide) tyX12 tyX12_ok nmX12 iIRX12_5 (by decide +kernel) rfl mFRX12_89 rfl dX12_hour_28 h31
  exact h28
def PX12_hour (Q : Option Value → az_M → Prop) : az_T := (s_la 0 (s_la 0 (s_li 1 (s_cv 1 13 FX12_isHour (s_if c_ne (s_li 2 (s_ic (nI 0) (s_ic (nI 7) (s_cs 3 FX12_in (s_if c_ne (s_ic (nI 0) (s_kp [true, true, true] (LX12_hour_28 Q))) (s_ic (nI 2) (s_kp [true, true, true] (LX12_hour_28 Q)))))))) (s_ic (nI 1) (s_kp [true, true, true] (LX12_hour_28 Q))))))))
def FX12_hour : az_F := az_fun [true, false, false] 3 PX12_hour
theorem okX12_hour (l : Launch) : az_met l yX12_hour cX12_hour 3 (some .int) ({ frames := 8, cells := 0, slots := 0, locals := 257 } : Room) FX12_hour := az_met_of (own := RX12) (by decide +kernel) rfl (by decide) (fun X Q C => by
  have h27 := az_iconst (x := (nI 0)) C dX12_hour_27 (by decide +kernel) (az_keep [true, true, true] (okLX12_hour_28 C))
  have h24 := az_goto (tgt := 28) C dX12_hour_24 (by decide) (az_keep [true, true, true] (okLX12_hour_28 C))
  have h23 := az_iconst (x := (nI 2)) C dX12_hour_23 (by decide +kernel) h24
  have h20 := az_if_ne (tgt := 27) C dX12_hour_20 (by decide) h27 h23
  have h17 := az_callS C okX12_in knX12_in stX12_in mLRX12_92 ⟨rfl, rfl, by decide, by decide⟩ dX12_hour_17 h20
  have h15 := az_bipush (x := (nI 7)) C dX12_hour_15 (by decide +kernel) h17
  have h14 := az_iconst (x := (nI 0)) C dX12_hour_14 (by decide +kernel) h15
  have h13 := az_iload_n C 2 rfl dX12_hour_13 h14
  have h10 := az_goto (tgt := 28) C dX12_hour_10 (by decide) (az_keep [true, true, true] (okLX12_hour_28 C))
  have h9 := az_iconst (x := (nI 1)) C dX12_hour_9 (by decide +kernel) h10
  have h6 := az_if_ne (tgt := 13) C dX12_hour_6 (by decide) h13 h9
  have h3 := az_callV (ci := 13) C okX12_isHour knX12_isHour imX12_isHour seX12_isHour mLRX12_117 rfl (by decide) ⟨rfl, rfl, by decide, by decide⟩ dX12_hour_3 h6
  have h2 := az_iload_n C 1 rfl dX12_hour_2 h3
  have h1 := az_aload_n C 0 rfl dX12_hour_1 h2
  have h0 := az_aload_n C 0 rfl dX12_hour_0 h1
  exact h0) l
theorem dX12_partOf_0 : decode cX12_partOf 0 = .ok (.iload_n 2, 1) := by decide +kernel
theorem dX12_partOf_1 : decode cX12_partOf 1 = .ok (.tableswitch 97 0 6 #[43, 49, 55, 61, 67, 73, 91], 43) := by decide +kernel
theorem dX12_partOf_44 : decode cX12_partOf 44 = .ok (.aload_n 0, 1) := by decide +kernel
theorem dX12_partOf_45 : decode cX12_partOf 45 = .ok (.iload_n 1, 1) := by decide +kernel
theorem dX12_partOf_46 : decode cX12_partOf 46 = .ok (.invokevirtual 233, 3) := by decide +kernel
theorem dX12_partOf_49 : decode cX12_partOf 49 = .ok (.ireturn, 1) := by decide +kernel
theorem dX12_partOf_50 : decode cX12_partOf 50 = .ok (.aload_n 0, 1) := by decide +kernel
theorem dX12_partOf_51 : decode cX12_partOf 51 = .ok (.iload_n 1, 1) := by decide +kernel
theorem dX12_partOf_52 : decode cX12_partOf 52 = .ok (.invokevirtual 236, 3) := by decide +kernel
theorem dX12_partOf_55 : decode cX12_partOf 55 = .ok (.ireturn, 1) := by decide +kernel
theorem dX12_partOf_56 : decode cX12_partOf 56 = .ok (.aload_n 0, 1) := by decide +kernel
theorem dX12_partOf_57 : decode cX12_partOf 57 = .ok (.iload_n 1, 1) := by decide +kernel
theorem dX12_partOf_58 : decode cX12_partOf 58 = .ok (.invokevirtual 193, 3) := by decide +kernel
theorem dX12_partOf_61 : decode cX12_partOf 61 = .ok (.ireturn, 1) := by decide +kernel
theorem dX12_partOf_62 : decode cX12_partOf 62 = .ok (.aload_n 0, 1) := by decide +kernel
theorem dX12_partOf_63 : decode cX12_partOf 63 = .ok (.iload_n 1, 1) := by decide +kernel
theorem dX12_partOf_64 : decode cX12_partOf 64 = .ok (.invokevirtual 196, 3) := by decide +kernel
theorem dX12_partOf_67 : decode cX12_partOf 67 = .ok (.ireturn, 1) := by decide +kernel
theorem dX12_partOf_68 : decode cX12_partOf 68 = .ok (.aload_n 0, 1) := by decide +kernel
theorem dX12_partOf_69 : decode cX12_partOf 69 = .ok (.iload_n 1, 1) := by decide +kernel
theorem dX12_partOf_70 : decode cX12_partOf 70 = .ok (.invokevirtual 199, 3) := by decide +kernel
theorem dX12_partOf_73 : decode cX12_partOf 73 = .ok (.ireturn, 1) := by decide +kernel
theorem dX12_partOf_74 : decode cX12_partOf 74 = .ok (.aload_n 0, 1) := by decide +kernel
theorem dX12_partOf_75 : decode cX12_partOf 75 = .ok (.aload_n 0, 1) := by decide +kernel
theorem dX12_partOf_76 : decode cX12_partOf 76 = .ok (.getfield 41, 3) := by decide +kernel
theorem dX12_partOf_79 : decode cX12_partOf 79 = .ok (.iload_n 1, 1) := by decide +kernel
theorem dX12_partOf_80 : decode cX12_partOf 80 = .ok (.bipush 6, 2) := by decide +kernel
theorem dX12_partOf_82 : decode cX12_partOf 82 = .ok (.aload_n 0, 1) := by decide +kernel
theorem dX12_partOf_83 : decode cX12_partOf 83 = .ok (.getfield 9, 3) := by decide +kernel
theorem dX12_partOf_86 : decode cX12_partOf 86 = .ok (.iconst 2, 1) := by decide +kernel
theorem dX12_partOf_87 : decode cX12_partOf 87 = .ok (.iaload, 1) := by decide +kernel
theorem dX12_partOf_88 : decode cX12_partOf 88 = .ok (.invokevirtual 189, 3) := by decide +kernel
theorem dX12_partOf_91 : decode cX12_partOf 91 = .ok (.ireturn, 1) := by decide +kernel
theorem dX12_partOf_92 : decode cX12_partOf 92 = .ok (.aload_n 0, 1) := by decide +kernel
theorem dX12_partOf_93 : decode cX12_partOf 93 = .ok (.iload_n 1, 1) := by decide +kernel
theorem dX12_partOf_94 : decode cX12_partOf 94 = .ok (.invokevirtual 221, 3) := by decide +kernel
theorem dX12_partOf_97 : decode cX12_partOf 97 = .ok (.ireturn, 1) := by decide +kernel
theorem dX12_partOf_98 : decode cX12_partOf 98 = .ok (.aload_n 0, 1) := by decide +kernel
theorem dX12_partOf_99 : decode cX12_partOf 99 = .ok (.iload_n 1, 1) := by decide +kernel
theorem dX12_partOf_100 : decode cX12_partOf 100 = .ok (.invokevirtual 267, 3) := by decide +kernel
theorem dX12_partOf_103 : decode cX12_partOf 103 = .ok (.ireturn, 1) := by decide +kernel
def PX12_partOf (Q : Option Value → az_M → Prop) : az_T := (s_li 2 (s_sw 0 [(s_la 0 (s_li 1 (s_cv 1 13 FX12_costOf (s_ri Q)))), (s_la 0 (s_li 1 (s_cv 1 13 FX12_penaltyOf (s_ri Q)))), (s_la 0 (s_li 1 (s_cv 1 13 FX12_outputCost (s_ri Q)))), (s_la 0 (s_li 1 (s_cv 1 13 FX12_runningCost (s_ri Q)))), (s_la 0 (s_li 1 (s_cv 1 13 FX12_startCost (s_ri Q)))), (s_la 0 (s_la 0 (s_gr 13 14 (s_li 1 (s_ic (nI 6) (s_la 0 (s_gr 13 0 (s_ic (nI 2) (s_al 20 (s_cv 4 13 FX12_sum (s_ri Q))))))))))), (s_la 0 (s_li 1 (s_cv 1 13 FX12_demandIn (s_ri Q))))] (s_la 0 (s_li 1 (s_cv 1 13 FX12_startsIn (s_ri Q))))))
def FX12_partOf : az_F := az_fun [true, false, false] 3 PX12_partOf
theorem okX12_partOf (l : Launch) : az_met l yX12_partOf cX12_partOf 3 (some .int) ({ frames := 5, cells := 0, slots := 0, locals := 188 } : Room) FX12_partOf := az_met_of (own := RX12) (by decide +kernel) rfl (by decide) (fun X Q C => by
  have h49 := az_ireturn C rfl dX12_partOf_49
  have h46 := az_callV (ci := 13) C okX12_costOf knX12_costOf imX12_costOf seX12_costOf mLRX12_233 rfl (by decide) ⟨rfl, rfl, by decide, by decide⟩ dX12_partOf_46 h49
  have h45 := az_iload_n C 1 rfl dX12_partOf_45 h46
  have h44 := az_aload_n C 0 rfl dX12_partOf_44 h45
  have h55 := az_ireturn C rfl dX12_partOf_55
  have h52 := az_callV (ci := 13) C okX12_penaltyOf knX12_penaltyOf imX12_penaltyOf seX12_penaltyOf mLRX12_236 rfl (by decide) ⟨rfl, rfl, by decide, by decide⟩ dX12_partOf_52 h55
  have h51 := az_iload_n C 1 rfl dX12_partOf_51 h52
  have h50 := az_aload_n C 0 rfl dX12_partOf_50 h51
  have h61 := az_ireturn C rfl dX12_partOf_61
  have h58 := az_callV (ci := 13) C okX12_outputCost knX12_outputCost imX12_outputCost seX12_outputCost mLRX12_193 rfl (by decide) ⟨rfl, rfl, by decide, by decide⟩ dX12_partOf_58 h61
  have h57 := az_iload_n C 1 rfl dX12_partOf_57 h58
  have h56 := az_aload_n C 0 rfl dX12_partOf_56 h57
  have h67 := az_ireturn C rfl dX12_partOf_67
  have h64 := az_callV (ci := 13) C okX12_runningCost knX12_runningCost imX12_runningCost seX12_runningCost mLRX12_196 rfl (by decide) ⟨rfl, rfl, by decide, by decide⟩ dX12_partOf_64 h67
  have h63 := az_iload_n C 1 rfl dX12_partOf_63 h64
  have h62 := az_aload_n C 0 rfl dX12_partOf_62 h63
  have h73 := az_ireturn C rfl dX12_partOf_73
  have h70 := az_callV (ci := 13) C okX12_startCost knX12_startCost imX12_startCost seX12_startCost mLRX12_199 rfl (by decide) ⟨rfl, rfl, by decide, by decide⟩ dX12_partOf_70 h73
  have h69 := az_iload_n C 1 rfl dX12_partOf_69 h70
  have h68 := az_aload_n C 0 rfl dX12_partOf_68 h69
  have h91 := az_ireturn C rfl dX12_partOf_91
  have h88 := az_callV (ci := 13) C okX12_sum knX12_sum imX12_sum seX12_sum mLRX12_189 rfl (by decide) ⟨rfl, rfl, by decide, by decide⟩ dX12_partOf_88 h91
  have h87 := az_iald C dX12_partOf_87 h88
  have h86 := az_iconst (x := (nI 2)) C dX12_partOf_86 (by decide +kernel) h87
  have h83 := az_getR (T := TX12) (N := 33) (j := 0) C gwRX12 rfl (by decide) (by decide) iIRX12_0 mFRX12_9 rfl dX12_partOf_83 h86
  have h82 := az_aload_n C 0 rfl dX12_partOf_82 h83
  have h80 := az_bipush (x := (nI 6)) C dX12_partOf_80 (by decide +kernel) h82
  have h79 := az_iload_n C 1 rfl dX12_partOf_79 h80
  have h76 := az_getR (T := TX12) (N := 33) (j := 14) C gwRX12 rfl (by decide) (by decide) iIRX12_14 mFRX12_41 rfl dX12_partOf_76 h79
  have h75 := az_aload_n C 0 rfl dX12_partOf_75 h76
  have h74 := az_aload_n C 0 rfl dX12_partOf_74 h75
  have h97 := az_ireturn C rfl dX12_partOf_97
  have h94 := az_callV (ci := 13) C okX12_demandIn knX12_demandIn imX12_demandIn seX12_demandIn mLRX12_221 rfl (by decide) ⟨rfl, rfl, by decide, by decide⟩ dX12_partOf_94 h97
  have h93 := az_iload_n C 1 rfl dX12_partOf_93 h94
  have h92 := az_aload_n C 0 rfl dX12_partOf_92 h93
  have h103 := az_ireturn C rfl dX12_partOf_103
  have h100 := az_callV (ci := 13) C okX12_startsIn knX12_startsIn imX12_startsIn seX12_startsIn mLRX12_267 rfl (by decide) ⟨rfl, rfl, by decide, by decide⟩ dX12_partOf_100 h103
  have h99 := az_iload_n C 1 rfl dX12_partOf_99 h100
  have h98 := az_aload_n C 0 rfl dX12_partOf_98 h99
  have h1 := az_tsw (td := 98) (tgts := [44, 50, 56, 62, 68, 74, 92]) (lo := 0) C dX12_partOf_1 (by decide) (by decide +kernel) (by decide) h98 (az_all_cons h44 (az_all_cons h50 (az_all_cons h56 (az_all_cons h62 (az_all_cons h68 (az_all_cons h74 (az_all_cons h92 az_all_nil)))))))
  have h0 := az_iload_n C 2 rfl dX12_partOf_0 h1
  exact h0) l
theorem dX12_totalOf_0 : decode cX12_totalOf 0 = .ok (.iconst 0, 1) := by decide +kernel
theorem dX12_totalOf_1 : decode cX12_totalOf 1 = .ok (.istore_n 2, 1) := by decide +kernel
theorem dX12_totalOf_2 : decode cX12_totalOf 2 = .ok (.iconst 0, 1) := by decide +kernel
theorem dX12_totalOf_3 : decode cX12_totalOf 3 = .ok (.istore_n 3, 1) := by decide +kernel
theorem dX12_totalOf_4 : decode cX12_totalOf 4 = .ok (.iload_n 3, 1) := by decide +kernel
theorem dX12_totalOf_5 : decode cX12_totalOf 5 = .ok (.aload_n 0, 1) := by decide +kernel
theorem dX12_totalOf_6 : decode cX12_totalOf 6 = .ok (.getfield 9, 3) := by decide +kernel
theorem dX12_totalOf_9 : decode cX12_totalOf 9 = .ok (.iconst 0, 1) := by decide +kernel
theorem dX12_totalOf_10 : decode cX12_totalOf 10 = .ok (.iaload, 1) := by decide +kernel
theorem dX12_totalOf_11 : decode cX12_totalOf 11 = .ok (.if_icmp .ge 18, 3) := by decide +kernel
theorem dX12_totalOf_14 : decode cX12_totalOf 14 = .ok (.iload_n 2, 1) := by decide +kernel
theorem dX12_totalOf_15 : decode cX12_totalOf 15 = .ok (.aload_n 0, 1) := by decide +kernel
theorem dX12_totalOf_16 : decode cX12_totalOf 16 = .ok (.iload_n 3, 1) := by decide +kernel
theorem dX12_totalOf_17 : decode cX12_totalOf 17 = .ok (.iload_n 1, 1) := by decide +kernel
theorem dX12_totalOf_18 : decode cX12_totalOf 18 = .ok (.invokevirtual 270, 3) := by decide +kernel
theorem dX12_totalOf_21 : decode cX12_totalOf 21 = .ok (.iadd, 1) := by decide +kernel
theorem dX12_totalOf_22 : decode cX12_totalOf 22 = .ok (.istore_n 2, 1) := by decide +kernel
theorem dX12_totalOf_23 : decode cX12_totalOf 23 = .ok (.iinc 3 1, 3) := by decide +kernel
theorem dX12_totalOf_26 : decode cX12_totalOf 26 = .ok (.goto (-22), 3) := by decide +kernel
theorem dX12_totalOf_29 : decode cX12_totalOf 29 = .ok (.iload_n 2, 1) := by decide +kernel
theorem dX12_totalOf_30 : decode cX12_totalOf 30 = .ok (.ireturn, 1) := by decide +kernel
def BX12_totalOf_4 (Q : Option Value → az_M → Prop) (Z4 : az_T) : az_T := (s_li 3 (s_la 0 (s_gr 13 0 (s_ic (nI 0) (s_al 20 (s_if2 d_ge (s_li 2 (s_ri Q)) (s_li 2 (s_la 0 (s_li 3 (s_li 1 (s_cv 2 13 FX12_partOf (s_bin f_add (s_si 2 (s_inc 3 (nI 1) (s_kp [true, true, true, true] Z4)))))))))))))))
theorem okBX12_totalOf_4 {X : az_X} {Q : Option Value → az_M → Prop} (C : az_C X cX12_totalOf 4 RX12 (az_ts yX12_totalOf cX12_totalOf 4 (some .int)) ({ frames := 6, cells := 0, slots := 0, locals := 210 } : Room) (some .int) Q) {Z4 : az_T} (hZ4 : az_ok X 4 Z4) : az_ok X 4 (BX12_totalOf_4 Q Z4) := by
  have h30 := az_ireturn C rfl dX12_totalOf_30
  have h29 := az_iload_n C 2 rfl dX12_totalOf_29 h30
  have h26 := az_goto (tgt := 4) C dX12_totalOf_26 (by decide) (az_keep [true, true, true, true] hZ4)
  have h23 := az_iinc (v := (nI 1)) C (by decide) (by decide +kernel) dX12_totalOf_23 h26
  have h22 := az_istore_n C 2 rfl (by decide) dX12_totalOf_22 h23
  have h21 := az_iadd C dX12_totalOf_21 h22
  have h18 := az_callV (ci := 13) C okX12_partOf knX12_partOf imX12_partOf seX12_partOf mLRX12_270 rfl (by decide) ⟨rfl, rfl, by decide, by decide⟩ dX12_totalOf_18 h21
  have h17 := az_iload_n C 1 rfl dX12_totalOf_17 h18
  have h16 := az_iload_n C 3 rfl dX12_totalOf_16 h17
  have h15 := az_aload_n C 0 rfl dX12_totalOf_15 h16
  have h14 := az_iload_n C 2 rfl dX12_totalOf_14 h15
  have h11 := az_icmp_ge (tgt := 29) C dX12_totalOf_11 (by decide) h29 h14
  have h10 := az_iald C dX12_totalOf_10 h11
  have h9 := az_iconst (x := (nI 0)) C dX12_totalOf_9 (by decide +kernel) h10
  have h6 := az_getR (T := TX12) (N := 33) (j := 0) C gwRX12 rfl (by decide) (by decide) iIRX12_0 mFRX12_9 rfl dX12_totalOf_6 h9
  have h5 := az_aload_n C 0 rfl dX12_totalOf_5 h6
  have h4 := az_iload_n C 3 rfl dX12_totalOf_4 h5
  exact h4
def LX12_totalOf_4 (Q : Option Value → az_M → Prop) : az_T := s_lp (fun Z => BX12_totalOf_4 Q Z)
theorem okLX12_totalOf_4 {X : az_X} {Q : Option Value → az_M → Prop} (C : az_C X cX12_totalOf 4 RX12 (az_ts yX12_totalOf cX12_totalOf 4 (some .int)) ({ frames := 6, cells := 0, slots := 0, locals := 210 } : Room) (some .int) Q) : az_ok X 4 (LX12_totalOf_4 Q) := az_loop (F := fun Z => BX12_totalOf_4 Q Z) (fun _ hZ => okBX12_totalOf_4 C hZ)
def PX12_totalOf (Q : Option Value → az_M → Prop) : az_T := (s_ic (nI 0) (s_si 2 (s_ic (nI 0) (s_si 3 (s_kp [true, true, true, true] (LX12_totalOf_4 Q))))))
def FX12_totalOf : az_F := az_fun [true, false] 4 PX12_totalOf
theorem okX12_totalOf (l : Launch) : az_met l yX12_totalOf cX12_totalOf 4 (some .int) ({ frames := 6, cells := 0, slots := 0, locals := 210 } : Room) FX12_totalOf := az_met_of (own := RX12) (by decide +kernel) rfl (by decide) (fun X Q C => by
  have h3 := az_istore_n C 3 rfl (by decide) dX12_totalOf_3 (az_keep [true, true, true, true] (okLX12_totalOf_4 C))
  have h2 := az_iconst (x := (nI 0)) C dX12_totalOf_2 (by decide +kernel) h3
  have h1 := az_istore_n C 2 rfl (by decide) dX12_totalOf_1 h2
  have h0 := az_iconst (x := (nI 0)) C dX12_totalOf_0 (by decide +kernel) h1
  exact h0) l
theorem dX12_total_0 : decode cX12_total 0 = .ok (.aload_n 0, 1) := by decide +kernel
theorem dX12_total_1 : decode cX12_total 1 = .ok (.iload_n 1, 1) := by decide +kernel
theorem dX12_total_2 : decode cX12_total 2 = .ok (.iconst 0, 1) := by decide +kernel
theorem dX12_total_3 : decode cX12_total 3 = .ok (.bipush 7, 2) := by decide +kernel
theorem dX12_total_5 : decode cX12_total 5 = .ok (.invokestatic 92, 3) := by decide +kernel
theorem dX12_total_8 : decode cX12_total 8 = .ok (.ifCond .eq 7, 3) := by decide +kernel
theorem dX12_total_11 : decode cX12_total 11 = .ok (.iconst 0, 1) := by decide +kernel
theorem dX12_total_12 : decode cX12_total 12 = .ok (.goto 4, 3) := by decide +kernel
theorem dX12_total_15 : decode cX12_total 15 = .ok (.iconst 1, 1) := by decide +kernel
theorem dX12_total_16 : decode cX12_total 16 = .ok (.putfield 89, 3) := by decide +kernel
theorem dX12_total_19 : decode cX12_total 19 = .ok (.aload_n 0, 1) := by decide +kernel
theorem dX12_total_20 : decode cX12_total 20 = .ok (.getfield 89, 3) := by decide +kernel
theorem dX12_total_23 : decode cX12_total 23 = .ok (.ifCond .le 5, 3) := by decide +kernel
theorem dX12_total_26 : decode cX12_total 26 = .ok (.iconst 0, 1) := by decide +kernel
theorem dX12_total_27 : decode cX12_total 27 = .ok (.ireturn, 1) := by decide +kernel
theorem dX12_total_28 : decode cX12_total 28 = .ok (.aload_n 0, 1) := by decide +kernel
theorem dX12_total_29 : decode cX12_total 29 = .ok (.invokevirtual 137, 3) := by decide +kernel
theorem dX12_total_32 : decode cX12_total 32 = .ok (.aload_n 0, 1) := by decide +kernel
theorem dX12_total_33 : decode cX12_total 33 = .ok (.iload_n 1, 1) := by decide +kernel
theorem dX12_total_34 : decode cX12_total 34 = .ok (.invokevirtual 273, 3) := by decide +kernel
theorem dX12_total_37 : decode cX12_total 37 = .ok (.ireturn, 1) := by decide +kernel
def LX12_total_16 (Q : Option Value → az_M → Prop) : az_T := (s_pi 13 5 (s_la 0 (s_gi 13 5 (s_if c_le (s_la 0 (s_cv 0 13 FX12_know (s_la 0 (s_li 1 (s_cv 1 13 FX12_totalOf (s_ri Q)))))) (s_ic (nI 0) (s_ri Q))))))
theorem okLX12_total_16 {X : az_X} {Q : Option Value → az_M → Prop} (C : az_C X cX12_total 2 RX12 (az_ts yX12_total cX12_total 2 (some .int)) ({ frames := 8, cells := 0, slots := 0, locals := 257 } : Room) (some .int) Q) : az_ok X 16 (LX12_total_16 Q) := by
  have h37 := az_ireturn C rfl dX12_total_37
  have h34 := az_callV (ci := 13) C okX12_totalOf knX12_totalOf imX12_totalOf seX12_totalOf mLRX12_273 rfl (by decide) ⟨rfl, rfl, by decide, by decide⟩ dX12_total_34 h37
  have h33 := az_iload_n C 1 rfl dX12_total_33 h34
  have h32 := az_aload_n C 0 rfl dX12_total_32 h33
  have h29 := az_callV (ci := 13) C okX12_know knX12_know imX12_know seX12_know mLRX12_137 rfl (by decide) ⟨rfl, rfl, by decide, by decide⟩ dX12_total_29 h32
  have h28 := az_aload_n C 0 rfl dX12_total_28 h29
  have h27 := az_ireturn C rfl dX12_total_27
  have h26 := az_iconst (x := (nI 0)) C dX12_total_26 (by decide +kernel) h27
  have h23 := az_if_le (tgt := 28) C dX12_total_23 (by decide) h28 h26
  have h20 := az_getI (T := TX12) (N := 33) (j := 5) C gwRX12 rfl (by decide) (by decide) iIRX12_5 mFRX12_89 rfl dX12_total_20 h23
  have h19 := az_aload_n C 0 rfl dX12_total_19 h20
  have h16 := az_putI (T := TX12) (N := 33) (j := 5) C gwRX12 rfl (by decide) (by decide) tyX12 tyX12_ok nmX12 iIRX12_5 (by decide +kernel) rfl mFRX12_89 rfl dX12_total_16 h19
  exact h16
def PX12_total (Q : Option Value → az_M → Prop) : az_T := (s_la 0 (s_li 1 (s_ic (nI 0) (s_ic (nI 7) (s_cs 3 FX12_in (s_if c_eq (s_ic (nI 1) (s_kp [true, true] (LX12_total_16 Q))) (s_ic (nI 0) (s_kp [true, true] (LX12_total_16 Q)))))))))
def FX12_total : az_F := az_fun [true, false] 2 PX12_total
theorem okX12_total (l : Launch) : az_met l yX12_total cX12_total 2 (some .int) ({ frames := 8, cells := 0, slots := 0, locals := 257 } : Room) FX12_total := az_met_of (own := RX12) (by decide +kernel) rfl (by decide) (fun X Q C => by
  have h15 := az_iconst (x := (nI 1)) C dX12_total_15 (by decide +kernel) (az_keep [true, true] (okLX12_total_16 C))
  have h12 := az_goto (tgt := 16) C dX12_total_12 (by decide) (az_keep [true, true] (okLX12_total_16 C))
  have h11 := az_iconst (x := (nI 0)) C dX12_total_11 (by decide +kernel) h12
  have h8 := az_if_eq (tgt := 15) C dX12_total_8 (by decide) h15 h11
  have h5 := az_callS C okX12_in knX12_in stX12_in mLRX12_92 ⟨rfl, rfl, by decide, by decide⟩ dX12_total_5 h8
  have h3 := az_bipush (x := (nI 7)) C dX12_total_3 (by decide +kernel) h5
  have h2 := az_iconst (x := (nI 0)) C dX12_total_2 (by decide +kernel) h3
  have h1 := az_iload_n C 1 rfl dX12_total_1 h2
  have h0 := az_aload_n C 0 rfl dX12_total_0 h1
  exact h0) l
theorem dX12_allGiven_0 : decode cX12_allGiven 0 = .ok (.aload_n 0, 1) := by decide +kernel
theorem dX12_allGiven_1 : decode cX12_allGiven 1 = .ok (.aload_n 0, 1) := by decide +kernel
theorem dX12_allGiven_2 : decode cX12_allGiven 2 = .ok (.getfield 50, 3) := by decide +kernel
theorem dX12_allGiven_5 : decode cX12_allGiven 5 = .ok (.bipush 6, 2) := by decide +kernel
theorem dX12_allGiven_7 : decode cX12_allGiven 7 = .ok (.iload_n 2, 1) := by decide +kernel
theorem dX12_allGiven_8 : decode cX12_allGiven 8 = .ok (.imul, 1) := by decide +kernel
theorem dX12_allGiven_9 : decode cX12_allGiven 9 = .ok (.iload_n 1, 1) := by decide +kernel
theorem dX12_allGiven_10 : decode cX12_allGiven 10 = .ok (.iadd, 1) := by decide +kernel
theorem dX12_allGiven_11 : decode cX12_allGiven 11 = .ok (.iconst 4, 1) := by decide +kernel
theorem dX12_allGiven_12 : decode cX12_allGiven 12 = .ok (.aload_n 0, 1) := by decide +kernel
theorem dX12_allGiven_13 : decode cX12_allGiven 13 = .ok (.getfield 9, 3) := by decide +kernel
theorem dX12_allGiven_16 : decode cX12_allGiven 16 = .ok (.iconst 1, 1) := by decide +kernel
theorem dX12_allGiven_17 : decode cX12_allGiven 17 = .ok (.iaload, 1) := by decide +kernel
theorem dX12_allGiven_18 : decode cX12_allGiven 18 = .ok (.invokevirtual 189, 3) := by decide +kernel
theorem dX12_allGiven_21 : decode cX12_allGiven 21 = .ok (.ireturn, 1) := by decide +kernel
def PX12_allGiven (Q : Option Value → az_M → Prop) : az_T := (s_la 0 (s_la 0 (s_gr 13 17 (s_ic (nI 6) (s_li 2 (s_bin f_mul (s_li 1 (s_bin f_add (s_ic (nI 4) (s_la 0 (s_gr 13 0 (s_ic (nI 1) (s_al 20 (s_cv 4 13 FX12_sum (s_ri Q)))))))))))))))
def FX12_allGiven : az_F := az_fun [true, false, false] 3 PX12_allGiven
theorem okX12_allGiven (l : Launch) : az_met l yX12_allGiven cX12_allGiven 3 (some .int) ({ frames := 2, cells := 0, slots := 0, locals := 126 } : Room) FX12_allGiven := az_met_of (own := RX12) (by decide +kernel) rfl (by decide) (fun X Q C => by
  have h21 := az_ireturn C rfl dX12_allGiven_21
  have h18 := az_callV (ci := 13) C okX12_sum knX12_sum imX12_sum seX12_sum mLRX12_189 rfl (by decide) ⟨rfl, rfl, by decide, by decide⟩ dX12_allGiven_18 h21
  have h17 := az_iald C dX12_allGiven_17 h18
  have h16 := az_iconst (x := (nI 1)) C dX12_allGiven_16 (by decide +kernel) h17
  have h13 := az_getR (T := TX12) (N := 33) (j := 0) C gwRX12 rfl (by decide) (by decide) iIRX12_0 mFRX12_9 rfl dX12_allGiven_13 h16
  have h12 := az_aload_n C 0 rfl dX12_allGiven_12 h13
  have h11 := az_iconst (x := (nI 4)) C dX12_allGiven_11 (by decide +kernel) h12
  have h10 := az_iadd C dX12_allGiven_10 h11
  have h9 := az_iload_n C 1 rfl dX12_allGiven_9 h10
  have h8 := az_imul C dX12_allGiven_8 h9
  have h7 := az_iload_n C 2 rfl dX12_allGiven_7 h8
  have h5 := az_bipush (x := (nI 6)) C dX12_allGiven_5 (by decide +kernel) h7
  have h2 := az_getR (T := TX12) (N := 33) (j := 17) C gwRX12 rfl (by decide) (by decide) iIRX12_17 mFRX12_50 rfl dX12_allGiven_2 h5
  have h1 := az_aload_n C 0 rfl dX12_allGiven_1 h2
  have h0 := az_aload_n C 0 rfl dX12_allGiven_0 h1
  exact h0) l
theorem dX12_isBehind_0 : decode cX12_isBehind 0 = .ok (.iload_n 1, 1) := by decide +kernel
theorem dX12_isBehind_1 : decode cX12_isBehind 1 = .ok (.istore_n 3, 1) := by decide +kernel
theorem dX12_isBehind_2 : decode cX12_isBehind 2 = .ok (.iload_n 3, 1) := by decide +kernel
theorem dX12_isBehind_3 : decode cX12_isBehind 3 = .ok (.iload_n 2, 1) := by decide +kernel
theorem dX12_isBehind_4 : decode cX12_isBehind 4 = .ok (.if_icmp .le 16, 3) := by decide +kernel
theorem dX12_isBehind_7 : decode cX12_isBehind 7 = .ok (.aload_n 0, 1) := by decide +kernel
theorem dX12_isBehind_8 : decode cX12_isBehind 8 = .ok (.getfield 9, 3) := by decide +kernel
theorem dX12_isBehind_11 : decode cX12_isBehind 11 = .ok (.bipush 125, 2) := by decide +kernel
theorem dX12_isBehind_13 : decode cX12_isBehind 13 = .ok (.iload_n 3, 1) := by decide +kernel
theorem dX12_isBehind_14 : decode cX12_isBehind 14 = .ok (.iadd, 1) := by decide +kernel
theorem dX12_isBehind_15 : decode cX12_isBehind 15 = .ok (.iaload, 1) := by decide +kernel
theorem dX12_isBehind_16 : decode cX12_isBehind 16 = .ok (.istore_n 3, 1) := by decide +kernel
theorem dX12_isBehind_17 : decode cX12_isBehind 17 = .ok (.goto (-15), 3) := by decide +kernel
theorem dX12_isBehind_20 : decode cX12_isBehind 20 = .ok (.iload_n 3, 1) := by decide +kernel
theorem dX12_isBehind_21 : decode cX12_isBehind 21 = .ok (.iload_n 2, 1) := by decide +kernel
theorem dX12_isBehind_22 : decode cX12_isBehind 22 = .ok (.if_icmp .ne 7, 3) := by decide +kernel
theorem dX12_isBehind_25 : decode cX12_isBehind 25 = .ok (.iconst 1, 1) := by decide +kernel
theorem dX12_isBehind_26 : decode cX12_isBehind 26 = .ok (.goto 4, 3) := by decide +kernel
theorem dX12_isBehind_29 : decode cX12_isBehind 29 = .ok (.iconst 0, 1) := by decide +kernel
theorem dX12_isBehind_30 : decode cX12_isBehind 30 = .ok (.ireturn, 1) := by decide +kernel
def LX12_isBehind_30 (Q : Option Value → az_M → Prop) : az_T := (s_rz Q)
theorem okLX12_isBehind_30 {X : az_X} {Q : Option Value → az_M → Prop} (C : az_C X cX12_isBehind 4 RX12 (az_ts yX12_isBehind cX12_isBehind 4 (some .boolean)) ({ frames := 1, cells := 0, slots := 0, locals := 100 } : Room) (some .boolean) Q) : az_ok X 30 (LX12_isBehind_30 Q) := by
  have h30 := az_zreturn C rfl dX12_isBehind_30
  exact h30
def BX12_isBehind_2 (Q : Option Value → az_M → Prop) (Z2 : az_T) : az_T := (s_li 3 (s_li 2 (s_if2 d_le (s_li 3 (s_li 2 (s_if2 d_ne (s_ic (nI 0) (s_kp [false, false, false, false] (LX12_isBehind_30 Q))) (s_ic (nI 1) (s_kp [false, false, false, false] (LX12_isBehind_30 Q)))))) (s_la 0 (s_gr 13 0 (s_ic (nI 125) (s_li 3 (s_bin f_add (s_al 20 (s_si 3 (s_kp [true, false, true, true] Z2)))))))))))
theorem okBX12_isBehind_2 {X : az_X} {Q : Option Value → az_M → Prop} (C : az_C X cX12_isBehind 4 RX12 (az_ts yX12_isBehind cX12_isBehind 4 (some .boolean)) ({ frames := 1, cells := 0, slots := 0, locals := 100 } : Room) (some .boolean) Q) {Z2 : az_T} (hZ2 : az_ok X 2 Z2) : az_ok X 2 (BX12_isBehind_2 Q Z2) := by
  have h29 := az_iconst (x := (nI 0)) C dX12_isBehind_29 (by decide +kernel) (az_keep [false, false, false, false] (okLX12_isBehind_30 C))
  have h26 := az_goto (tgt := 30) C dX12_isBehind_26 (by decide) (az_keep [false, false, false, false] (okLX12_isBehind_30 C))
  have h25 := az_iconst (x := (nI 1)) C dX12_isBehind_25 (by decide +kernel) h26
  have h22 := az_icmp_ne (tgt := 29) C dX12_isBehind_22 (by decide) h29 h25
  have h21 := az_iload_n C 2 rfl dX12_isBehind_21 h22
  have h20 := az_iload_n C 3 rfl dX12_isBehind_20 h21
  have h17 := az_goto (tgt := 2) C dX12_isBehind_17 (by decide) (az_keep [true, false, true, true] hZ2)
  have h16 := az_istore_n C 3 rfl (by decide) dX12_isBehind_16 h17
  have h15 := az_iald C dX12_isBehind_15 h16
  have h14 := az_iadd C dX12_isBehind_14 h15
  have h13 := az_iload_n C 3 rfl dX12_isBehind_13 h14
  have h11 := az_bipush (x := (nI 125)) C dX12_isBehind_11 (by decide +kernel) h13
  have h8 := az_getR (T := TX12) (N := 33) (j := 0) C gwRX12 rfl (by decide) (by decide) iIRX12_0 mFRX12_9 rfl dX12_isBehind_8 h11
  have h7 := az_aload_n C 0 rfl dX12_isBehind_7 h8
  have h4 := az_icmp_le (tgt := 20) C dX12_isBehind_4 (by decide) h20 h7
  have h3 := az_iload_n C 2 rfl dX12_isBehind_3 h4
  have h2 := az_iload_n C 3 rfl dX12_isBehind_2 h3
  exact h2
def LX12_isBehind_2 (Q : Option Value → az_M → Prop) : az_T := s_lp (fun Z => BX12_isBehind_2 Q Z)
theorem okLX12_isBehind_2 {X : az_X} {Q : Option Value → az_M → Prop} (C : az_C X cX12_isBehind 4 RX12 (az_ts yX12_isBehind cX12_isBehind 4 (some .boolean)) ({ frames := 1, cells := 0, slots := 0, locals := 100 } : Room) (some .boolean) Q) : az_ok X 2 (LX12_isBehind_2 Q) := az_loop (F := fun Z => BX12_isBehind_2 Q Z) (fun _ hZ => okBX12_isBehind_2 C hZ)
def PX12_isBehind (Q : Option Value → az_M → Prop) : az_T := (s_li 1 (s_si 3 (s_kp [true, false, true, true] (LX12_isBehind_2 Q))))
def FX12_isBehind : az_F := az_fun [true, false, false] 4 PX12_isBehind
theorem okX12_isBehind (l : Launch) : az_met l yX12_isBehind cX12_isBehind 4 (some .boolean) ({ frames := 1, cells := 0, slots := 0, locals := 100 } : Room) FX12_isBehind := az_met_of (own := RX12) (by decide +kernel) rfl (by decide) (fun X Q C => by
  have h1 := az_istore_n C 3 rfl (by decide) dX12_isBehind_1 (az_keep [true, false, true, true] (okLX12_isBehind_2 C))
  have h0 := az_iload_n C 1 rfl dX12_isBehind_0 h1
  exact h0) l
theorem dX12_crossing_0 : decode cX12_crossing 0 = .ok (.iconst 0, 1) := by decide +kernel
theorem dX12_crossing_1 : decode cX12_crossing 1 = .ok (.istore_n 3, 1) := by decide +kernel
theorem dX12_crossing_2 : decode cX12_crossing 2 = .ok (.iconst 0, 1) := by decide +kernel
theorem dX12_crossing_3 : decode cX12_crossing 3 = .ok (.istore 4, 2) := by decide +kernel
theorem dX12_crossing_5 : decode cX12_crossing 5 = .ok (.iload 4, 2) := by decide +kernel
theorem dX12_crossing_7 : decode cX12_crossing 7 = .ok (.aload_n 0, 1) := by decide +kernel
theorem dX12_crossing_8 : decode cX12_crossing 8 = .ok (.getfield 9, 3) := by decide +kernel
theorem dX12_crossing_11 : decode cX12_crossing 11 = .ok (.iconst 2, 1) := by decide +kernel
theorem dX12_crossing_12 : decode cX12_crossing 12 = .ok (.iaload, 1) := by decide +kernel
theorem dX12_crossing_13 : decode cX12_crossing 13 = .ok (.if_icmp .ge 91, 3) := by decide +kernel
theorem dX12_crossing_16 : decode cX12_crossing 16 = .ok (.aload_n 0, 1) := by decide +kernel
theorem dX12_crossing_17 : decode cX12_crossing 17 = .ok (.aload_n 0, 1) := by decide +kernel
theorem dX12_crossing_18 : decode cX12_crossing 18 = .ok (.iload 4, 2) := by decide +kernel
theorem dX12_crossing_20 : decode cX12_crossing 20 = .ok (.bipush 8, 2) := by decide +kernel
theorem dX12_crossing_22 : decode cX12_crossing 22 = .ok (.invokevirtual 128, 3) := by decide +kernel
theorem dX12_crossing_25 : decode cX12_crossing 25 = .ok (.iload_n 1, 1) := by decide +kernel
theorem dX12_crossing_26 : decode cX12_crossing 26 = .ok (.invokevirtual 279, 3) := by decide +kernel
theorem dX12_crossing_29 : decode cX12_crossing 29 = .ok (.ifCond .eq 7, 3) := by decide +kernel
theorem dX12_crossing_32 : decode cX12_crossing 32 = .ok (.iconst 1, 1) := by decide +kernel
theorem dX12_crossing_33 : decode cX12_crossing 33 = .ok (.goto 4, 3) := by decide +kernel
theorem dX12_crossing_36 : decode cX12_crossing 36 = .ok (.iconst 0, 1) := by decide +kernel
theorem dX12_crossing_37 : decode cX12_crossing 37 = .ok (.istore 5, 2) := by decide +kernel
theorem dX12_crossing_39 : decode cX12_crossing 39 = .ok (.iconst 0, 1) := by decide +kernel
theorem dX12_crossing_40 : decode cX12_crossing 40 = .ok (.istore 6, 2) := by decide +kernel
theorem dX12_crossing_42 : decode cX12_crossing 42 = .ok (.iload 6, 2) := by decide +kernel
theorem dX12_crossing_44 : decode cX12_crossing 44 = .ok (.aload_n 0, 1) := by decide +kernel
theorem dX12_crossing_45 : decode cX12_crossing 45 = .ok (.getfield 9, 3) := by decide +kernel
theorem dX12_crossing_48 : decode cX12_crossing 48 = .ok (.iconst 1, 1) := by decide +kernel
theorem dX12_crossing_49 : decode cX12_crossing 49 = .ok (.iaload, 1) := by decide +kernel
theorem dX12_crossing_50 : decode cX12_crossing 50 = .ok (.if_icmp .ge 48, 3) := by decide +kernel
theorem dX12_crossing_53 : decode cX12_crossing 53 = .ok (.iload_n 3, 1) := by decide +kernel
theorem dX12_crossing_54 : decode cX12_crossing 54 = .ok (.iload 5, 2) := by decide +kernel
theorem dX12_crossing_56 : decode cX12_crossing 56 = .ok (.aload_n 0, 1) := by decide +kernel
theorem dX12_crossing_57 : decode cX12_crossing 57 = .ok (.iload 6, 2) := by decide +kernel
theorem dX12_crossing_59 : decode cX12_crossing 59 = .ok (.iload_n 1, 1) := by decide +kernel
theorem dX12_crossing_60 : decode cX12_crossing 60 = .ok (.invokevirtual 279, 3) := by decide +kernel
theorem dX12_crossing_63 : decode cX12_crossing 63 = .ok (.ifCond .eq 7, 3) := by decide +kernel
theorem dX12_crossing_66 : decode cX12_crossing 66 = .ok (.iconst 1, 1) := by decide +kernel
theorem dX12_crossing_67 : decode cX12_crossing 67 = .ok (.goto 4, 3) := by decide +kernel
theorem dX12_crossing_70 : decode cX12_crossing 70 = .ok (.iconst 0, 1) := by decide +kernel
theorem dX12_crossing_71 : decode cX12_crossing 71 = .ok (.isub, 1) := by decide +kernel
theorem dX12_crossing_72 : decode cX12_crossing 72 = .ok (.aload_n 0, 1) := by decide +kernel
theorem dX12_crossing_73 : decode cX12_crossing 73 = .ok (.getfield 50, 3) := by decide +kernel
theorem dX12_crossing_76 : decode cX12_crossing 76 = .ok (.iconst 4, 1) := by decide +kernel
theorem dX12_crossing_77 : decode cX12_crossing 77 = .ok (.bipush 6, 2) := by decide +kernel
theorem dX12_crossing_79 : decode cX12_crossing 79 = .ok (.iload_n 2, 1) := by decide +kernel
theorem dX12_crossing_80 : decode cX12_crossing 80 = .ok (.imul, 1) := by decide +kernel
theorem dX12_crossing_81 : decode cX12_crossing 81 = .ok (.iload 4, 2) := by decide +kernel
theorem dX12_crossing_83 : decode cX12_crossing 83 = .ok (.iadd, 1) := by decide +kernel
theorem dX12_crossing_84 : decode cX12_crossing 84 = .ok (.imul, 1) := by decide +kernel
theorem dX12_crossing_85 : decode cX12_crossing 85 = .ok (.iload 6, 2) := by decide +kernel
theorem dX12_crossing_87 : decode cX12_crossing 87 = .ok (.iadd, 1) := by decide +kernel
theorem dX12_crossing_88 : decode cX12_crossing 88 = .ok (.iaload, 1) := by decide +kernel
theorem dX12_crossing_89 : decode cX12_crossing 89 = .ok (.imul, 1) := by decide +kernel
theorem dX12_crossing_90 : decode cX12_crossing 90 = .ok (.iadd, 1) := by decide +kernel
theorem dX12_crossing_91 : decode cX12_crossing 91 = .ok (.istore_n 3, 1) := by decide +kernel
theorem dX12_crossing_92 : decode cX12_crossing 92 = .ok (.iinc 6 1, 3) := by decide +kernel
theorem dX12_crossing_95 : decode cX12_crossing 95 = .ok (.goto (-53), 3) := by decide +kernel
theorem dX12_crossing_98 : decode cX12_crossing 98 = .ok (.iinc 4 1, 3) := by decide +kernel
theorem dX12_crossing_101 : decode cX12_crossing 101 = .ok (.goto (-96), 3) := by decide +kernel
theorem dX12_crossing_104 : decode cX12_crossing 104 = .ok (.iload_n 3, 1) := by decide +kernel
theorem dX12_crossing_105 : decode cX12_crossing 105 = .ok (.ireturn, 1) := by decide +kernel
def LX12_crossing_71 (Q : Option Value → az_M → Prop) (Z5 : az_T) (Z42 : az_T) : az_T := (s_bin f_sub (s_la 0 (s_gr 13 17 (s_ic (nI 4) (s_ic (nI 6) (s_li 2 (s_bin f_mul (s_li 4 (s_bin f_add (s_bin f_mul (s_li 6 (s_bin f_add (s_al 20 (s_bin f_mul (s_bin f_add (s_si 3 (s_inc 6 (nI 1) (s_kp [true, true, true, true, true, true, true] Z42))))))))))))))))))
theorem okLX12_crossing_71 {X : az_X} {Q : Option Value → az_M → Prop} (C : az_C X cX12_crossing 7 RX12 (az_ts yX12_crossing cX12_crossing 7 (some .int)) ({ frames := 3, cells := 0, slots := 0, locals := 143 } : Room) (some .int) Q) {Z5 : az_T} (hZ5 : az_ok X 5 Z5) {Z42 : az_T} (hZ42 : az_ok X 42 Z42) : az_ok X 71 (LX12_crossing_71 Q Z5 Z42) := by
  have h95 := az_goto (tgt := 42) C dX12_crossing_95 (by decide) (az_keep [true, true, true, true, true, true, true] hZ42)
  have h92 := az_iinc (v := (nI 1)) C (by decide) (by decide +kernel) dX12_crossing_92 h95
  have h91 := az_istore_n C 3 rfl (by decide) dX12_crossing_91 h92
  have h90 := az_iadd C dX12_crossing_90 h91
  have h89 := az_imul C dX12_crossing_89 h90
  have h88 := az_iald C dX12_crossing_88 h89
  have h87 := az_iadd C dX12_crossing_87 h88
  have h85 := az_iload C dX12_crossing_85 h87
  have h84 := az_imul C dX12_crossing_84 h85
  have h83 := az_iadd C dX12_crossing_83 h84
  have h81 := az_iload C dX12_crossing_81 h83
  have h80 := az_imul C dX12_crossing_80 h81
  have h79 := az_iload_n C 2 rfl dX12_crossing_79 h80
  have h77 := az_bipush (x := (nI 6)) C dX12_crossing_77 (by decide +kernel) h79
  have h76 := az_iconst (x := (nI 4)) C dX12_crossing_76 (by decide +kernel) h77
  have h73 := az_getR (T := TX12) (N := 33) (j := 17) C gwRX12 rfl (by decide) (by decide) iIRX12_17 mFRX12_50 rfl dX12_crossing_73 h76
  have h72 := az_aload_n C 0 rfl dX12_crossing_72 h73
  have h71 := az_isub C dX12_crossing_71 h72
  exact h71
def BX12_crossing_42 (Q : Option Value → az_M → Prop) (Z5 : az_T) (Z42 : az_T) : az_T := (s_li 6 (s_la 0 (s_gr 13 0 (s_ic (nI 1) (s_al 20 (s_if2 d_ge (s_inc 4 (nI 1) (s_kp [true, true, true, true, true, false, false] Z5)) (s_li 3 (s_li 5 (s_la 0 (s_li 6 (s_li 1 (s_cv 2 13 FX12_isBehind (s_if c_eq (s_ic (nI 0) (s_kp [true, true, true, false, true, true, true] (LX12_crossing_71 Q Z5 Z42))) (s_ic (nI 1) (s_kp [true, true, true, false, true, true, true] (LX12_crossing_71 Q Z5 Z42))))))))))))))))
theorem okBX12_crossing_42 {X : az_X} {Q : Option Value → az_M → Prop} (C : az_C X cX12_crossing 7 RX12 (az_ts yX12_crossing cX12_crossing 7 (some .int)) ({ frames := 3, cells := 0, slots := 0, locals := 143 } : Room) (some .int) Q) {Z5 : az_T} (hZ5 : az_ok X 5 Z5) {Z42 : az_T} (hZ42 : az_ok X 42 Z42) : az_ok X 42 (BX12_crossing_42 Q Z5 Z42) := by
  have h101 := az_goto (tgt := 5) C dX12_crossing_101 (by decide) (az_keep [true, true, true, true, true, false, false] hZ5)
  have h98 := az_iinc (v := (nI 1)) C (by decide) (by decide +kernel) dX12_crossing_98 h101
  have h70 := az_iconst (x := (nI 0)) C dX12_crossing_70 (by decide +kernel) (az_keep [true, true, true, false, true, true, true] (okLX12_crossing_71 C hZ5 hZ42))
  have h67 := az_goto (tgt := 71) C dX12_crossing_67 (by decide) (az_keep [true, true, true, false, true, true, true] (okLX12_crossing_71 C hZ5 hZ42))
  have h66 := az_iconst (x := (nI 1)) C dX12_crossing_66 (by decide +kernel) h67
  have h63 := az_if_eq (tgt := 70) C dX12_crossing_63 (by decide) h70 h66
  have h60 := az_callV (ci := 13) C okX12_isBehind knX12_isBehind imX12_isBehind seX12_isBehind mLRX12_279 rfl (by decide) ⟨rfl, rfl, by decide, by decide⟩ dX12_crossing_60 h63
  have h59 := az_iload_n C 1 rfl dX12_crossing_59 h60
  have h57 := az_iload C dX12_crossing_57 h59
  have h56 := az_aload_n C 0 rfl dX12_crossing_56 h57
  have h54 := az_iload C dX12_crossing_54 h56
  have h53 := az_iload_n C 3 rfl dX12_crossing_53 h54
  have h50 := az_icmp_ge (tgt := 98) C dX12_crossing_50 (by decide) h98 h53
  have h49 := az_iald C dX12_crossing_49 h50
  have h48 := az_iconst (x := (nI 1)) C dX12_crossing_48 (by decide +kernel) h49
  have h45 := az_getR (T := TX12) (N := 33) (j := 0) C gwRX12 rfl (by decide) (by decide) iIRX12_0 mFRX12_9 rfl dX12_crossing_45 h48
  have h44 := az_aload_n C 0 rfl dX12_crossing_44 h45
  have h42 := az_iload C dX12_crossing_42 h44
  exact h42
def LX12_crossing_42 (Q : Option Value → az_M → Prop) (Z5 : az_T) : az_T := s_lp (fun Z => BX12_crossing_42 Q Z5 Z)
theorem okLX12_crossing_42 {X : az_X} {Q : Option Value → az_M → Prop} (C : az_C X cX12_crossing 7 RX12 (az_ts yX12_crossing cX12_crossing 7 (some .int)) ({ frames := 3, cells := 0, slots := 0, locals := 143 } : Room) (some .int) Q) {Z5 : az_T} (hZ5 : az_ok X 5 Z5) : az_ok X 42 (LX12_crossing_42 Q Z5) := az_loop (F := fun Z => BX12_crossing_42 Q Z5 Z) (fun _ hZ => okBX12_crossing_42 C hZ5 hZ)
def LX12_crossing_37 (Q : Option Value → az_M → Prop) (Z5 : az_T) : az_T := (s_si 5 (s_ic (nI 0) (s_si 6 (s_kp [true, true, true, true, true, true, true] (LX12_crossing_42 Q Z5)))))
theorem okLX12_crossing_37 {X : az_X} {Q : Option Value → az_M → Prop} (C : az_C X cX12_crossing 7 RX12 (az_ts yX12_crossing cX12_crossing 7 (some .int)) ({ frames := 3, cells := 0, slots := 0, locals := 143 } : Room) (some .int) Q) {Z5 : az_T} (hZ5 : az_ok X 5 Z5) : az_ok X 37 (LX12_crossing_37 Q Z5) := by
  have h40 := az_istore C (by decide) dX12_crossing_40 (az_keep [true, true, true, true, true, true, true] (okLX12_crossing_42 C hZ5))
  have h39 := az_iconst (x := (nI 0)) C dX12_crossing_39 (by decide +kernel) h40
  have h37 := az_istore C (by decide) dX12_crossing_37 h39
  exact h37
def BX12_crossing_5 (Q : Option Value → az_M → Prop) (Z5 : az_T) : az_T := (s_li 4 (s_la 0 (s_gr 13 0 (s_ic (nI 2) (s_al 20 (s_if2 d_ge (s_li 3 (s_ri Q)) (s_la 0 (s_la 0 (s_li 4 (s_ic (nI 8) (s_cv 2 13 FX12_of (s_li 1 (s_cv 2 13 FX12_isBehind (s_if c_eq (s_ic (nI 0) (s_kp [true, true, true, true, true, false, false] (LX12_crossing_37 Q Z5))) (s_ic (nI 1) (s_kp [true, true, true, true, true, false, false] (LX12_crossing_37 Q Z5)))))))))))))))))
theorem okBX12_crossing_5 {X : az_X} {Q : Option Value → az_M → Prop} (C : az_C X cX12_crossing 7 RX12 (az_ts yX12_crossing cX12_crossing 7 (some .int)) ({ frames := 3, cells := 0, slots := 0, locals := 143 } : Room) (some .int) Q) {Z5 : az_T} (hZ5 : az_ok X 5 Z5) : az_ok X 5 (BX12_crossing_5 Q Z5) := by
  have h105 := az_ireturn C rfl dX12_crossing_105
  have h104 := az_iload_n C 3 rfl dX12_crossing_104 h105
  have h36 := az_iconst (x := (nI 0)) C dX12_crossing_36 (by decide +kernel) (az_keep [true, true, true, true, true, false, false] (okLX12_crossing_37 C hZ5))
  have h33 := az_goto (tgt := 37) C dX12_crossing_33 (by decide) (az_keep [true, true, true, true, true, false, false] (okLX12_crossing_37 C hZ5))
  have h32 := az_iconst (x := (nI 1)) C dX12_crossing_32 (by decide +kernel) h33
  have h29 := az_if_eq (tgt := 36) C dX12_crossing_29 (by decide) h36 h32
  have h26 := az_callV (ci := 13) C okX12_isBehind knX12_isBehind imX12_isBehind seX12_isBehind mLRX12_279 rfl (by decide) ⟨rfl, rfl, by decide, by decide⟩ dX12_crossing_26 h29
  have h25 := az_iload_n C 1 rfl dX12_crossing_25 h26
  have h22 := az_callV (ci := 13) C okX12_of knX12_of imX12_of seX12_of mLRX12_128 rfl (by decide) ⟨rfl, rfl, by decide, by decide⟩ dX12_crossing_22 h25
  have h20 := az_bipush (x := (nI 8)) C dX12_crossing_20 (by decide +kernel) h22
  have h18 := az_iload C dX12_crossing_18 h20
  have h17 := az_aload_n C 0 rfl dX12_crossing_17 h18
  have h16 := az_aload_n C 0 rfl dX12_crossing_16 h17
  have h13 := az_icmp_ge (tgt := 104) C dX12_crossing_13 (by decide) h104 h16
  have h12 := az_iald C dX12_crossing_12 h13
  have h11 := az_iconst (x := (nI 2)) C dX12_crossing_11 (by decide +kernel) h12
  have h8 := az_getR (T := TX12) (N := 33) (j := 0) C gwRX12 rfl (by decide) (by decide) iIRX12_0 mFRX12_9 rfl dX12_crossing_8 h11
  have h7 := az_aload_n C 0 rfl dX12_crossing_7 h8
  have h5 := az_iload C dX12_crossing_5 h7
  exact h5
def LX12_crossing_5 (Q : Option Value → az_M → Prop) : az_T := s_lp (fun Z => BX12_crossing_5 Q Z)
theorem okLX12_crossing_5 {X : az_X} {Q : Option Value → az_M → Prop} (C : az_C X cX12_crossing 7 RX12 (az_ts yX12_crossing cX12_crossing 7 (some .int)) ({ frames := 3, cells := 0, slots := 0, locals := 143 } : Room) (some .int) Q) : az_ok X 5 (LX12_crossing_5 Q) := az_loop (F := fun Z => BX12_crossing_5 Q Z) (fun _ hZ => okBX12_crossing_5 C hZ)
def PX12_crossing (Q : Option Value → az_M → Prop) : az_T := (s_ic (nI 0) (s_si 3 (s_ic (nI 0) (s_si 4 (s_kp [true, true, true, true, true, false, false] (LX12_crossing_5 Q))))))
def FX12_crossing : az_F := az_fun [true, false, false] 7 PX12_crossing
theorem okX12_crossing (l : Launch) : az_met l yX12_crossing cX12_crossing 7 (some .int) ({ frames := 3, cells := 0, slots := 0, locals := 143 } : Room) FX12_crossing := az_met_of (own := RX12) (by decide +kernel) rfl (by decide) (fun X Q C => by
  have h3 := az_istore C (by decide) dX12_crossing_3 (az_keep [true, true, true, true, true, false, false] (okLX12_crossing_5 C))
  have h2 := az_iconst (x := (nI 0)) C dX12_crossing_2 (by decide +kernel) h3
  have h1 := az_istore_n C 3 rfl (by decide) dX12_crossing_1 h2
  have h0 := az_iconst (x := (nI 0)) C dX12_crossing_0 (by decide +kernel) h1
  exact h0) l
theorem dX12_agrees_0 : decode cX12_agrees 0 = .ok (.iconst 1, 1) := by decide +kernel
theorem dX12_agrees_1 : decode cX12_agrees 1 = .ok (.istore_n 2, 1) := by decide +kernel
theorem dX12_agrees_2 : decode cX12_agrees 2 = .ok (.iconst 1, 1) := by decide +kernel
theorem dX12_agrees_3 : decode cX12_agrees 3 = .ok (.istore_n 3, 1) := by decide +kernel
theorem dX12_agrees_4 : decode cX12_agrees 4 = .ok (.iload_n 3, 1) := by decide +kernel
theorem dX12_agrees_5 : decode cX12_agrees 5 = .ok (.aload_n 0, 1) := by decide +kernel
theorem dX12_agrees_6 : decode cX12_agrees 6 = .ok (.getfield 9, 3) := by decide +kernel
theorem dX12_agrees_9 : decode cX12_agrees 9 = .ok (.iconst 1, 1) := by decide +kernel
theorem dX12_agrees_10 : decode cX12_agrees 10 = .ok (.iaload, 1) := by decide +kernel
theorem dX12_agrees_11 : decode cX12_agrees 11 = .ok (.if_icmp .ge 38, 3) := by decide +kernel
theorem dX12_agrees_14 : decode cX12_agrees 14 = .ok (.iload_n 2, 1) := by decide +kernel
theorem dX12_agrees_15 : decode cX12_agrees 15 = .ok (.ifCond .eq 26, 3) := by decide +kernel
theorem dX12_agrees_18 : decode cX12_agrees 18 = .ok (.aload_n 0, 1) := by decide +kernel
theorem dX12_agrees_19 : decode cX12_agrees 19 = .ok (.iload_n 3, 1) := by decide +kernel
theorem dX12_agrees_20 : decode cX12_agrees 20 = .ok (.iload_n 1, 1) := by decide +kernel
theorem dX12_agrees_21 : decode cX12_agrees 21 = .ok (.invokevirtual 282, 3) := by decide +kernel
theorem dX12_agrees_24 : decode cX12_agrees 24 = .ok (.aload_n 0, 1) := by decide +kernel
theorem dX12_agrees_25 : decode cX12_agrees 25 = .ok (.getfield 56, 3) := by decide +kernel
theorem dX12_agrees_28 : decode cX12_agrees 28 = .ok (.iconst 4, 1) := by decide +kernel
theorem dX12_agrees_29 : decode cX12_agrees 29 = .ok (.iload_n 1, 1) := by decide +kernel
theorem dX12_agrees_30 : decode cX12_agrees 30 = .ok (.imul, 1) := by decide +kernel
theorem dX12_agrees_31 : decode cX12_agrees 31 = .ok (.iload_n 3, 1) := by decide +kernel
theorem dX12_agrees_32 : decode cX12_agrees 32 = .ok (.iadd, 1) := by decide +kernel
theorem dX12_agrees_33 : decode cX12_agrees 33 = .ok (.iaload, 1) := by decide +kernel
theorem dX12_agrees_34 : decode cX12_agrees 34 = .ok (.if_icmp .ne 7, 3) := by decide +kernel
theorem dX12_agrees_37 : decode cX12_agrees 37 = .ok (.iconst 1, 1) := by decide +kernel
theorem dX12_agrees_38 : decode cX12_agrees 38 = .ok (.goto 4, 3) := by decide +kernel
theorem dX12_agrees_41 : decode cX12_agrees 41 = .ok (.iconst 0, 1) := by decide +kernel
theorem dX12_agrees_42 : decode cX12_agrees 42 = .ok (.istore_n 2, 1) := by decide +kernel
theorem dX12_agrees_43 : decode cX12_agrees 43 = .ok (.iinc 3 1, 3) := by decide +kernel
theorem dX12_agrees_46 : decode cX12_agrees 46 = .ok (.goto (-42), 3) := by decide +kernel
theorem dX12_agrees_49 : decode cX12_agrees 49 = .ok (.aload_n 0, 1) := by decide +kernel
theorem dX12_agrees_50 : decode cX12_agrees 50 = .ok (.iload_n 1, 1) := by decide +kernel
theorem dX12_agrees_51 : decode cX12_agrees 51 = .ok (.invokevirtual 196, 3) := by decide +kernel
theorem dX12_agrees_54 : decode cX12_agrees 54 = .ok (.aload_n 0, 1) := by decide +kernel
theorem dX12_agrees_55 : decode cX12_agrees 55 = .ok (.iload_n 1, 1) := by decide +kernel
theorem dX12_agrees_56 : decode cX12_agrees 56 = .ok (.invokevirtual 199, 3) := by decide +kernel
theorem dX12_agrees_59 : decode cX12_agrees 59 = .ok (.iadd, 1) := by decide +kernel
theorem dX12_agrees_60 : decode cX12_agrees 60 = .ok (.istore_n 3, 1) := by decide +kernel
theorem dX12_agrees_61 : decode cX12_agrees 61 = .ok (.iconst 0, 1) := by decide +kernel
theorem dX12_agrees_62 : decode cX12_agrees 62 = .ok (.istore 4, 2) := by decide +kernel
theorem dX12_agrees_64 : decode cX12_agrees 64 = .ok (.iload 4, 2) := by decide +kernel
theorem dX12_agrees_66 : decode cX12_agrees 66 = .ok (.aload_n 0, 1) := by decide +kernel
theorem dX12_agrees_67 : decode cX12_agrees 67 = .ok (.getfield 9, 3) := by decide +kernel
theorem dX12_agrees_70 : decode cX12_agrees 70 = .ok (.iconst 2, 1) := by decide +kernel
theorem dX12_agrees_71 : decode cX12_agrees 71 = .ok (.iaload, 1) := by decide +kernel
theorem dX12_agrees_72 : decode cX12_agrees 72 = .ok (.if_icmp .ge 41, 3) := by decide +kernel
theorem dX12_agrees_75 : decode cX12_agrees 75 = .ok (.iload_n 3, 1) := by decide +kernel
theorem dX12_agrees_76 : decode cX12_agrees 76 = .ok (.aload_n 0, 1) := by decide +kernel
theorem dX12_agrees_77 : decode cX12_agrees 77 = .ok (.iload 4, 2) := by decide +kernel
theorem dX12_agrees_79 : decode cX12_agrees 79 = .ok (.iload_n 1, 1) := by decide +kernel
theorem dX12_agrees_80 : decode cX12_agrees 80 = .ok (.invokevirtual 276, 3) := by decide +kernel
theorem dX12_agrees_83 : decode cX12_agrees 83 = .ok (.aload_n 0, 1) := by decide +kernel
theorem dX12_agrees_84 : decode cX12_agrees 84 = .ok (.getfield 44, 3) := by decide +kernel
theorem dX12_agrees_87 : decode cX12_agrees 87 = .ok (.bipush 6, 2) := by decide +kernel
theorem dX12_agrees_89 : decode cX12_agrees 89 = .ok (.iload_n 1, 1) := by decide +kernel
theorem dX12_agrees_90 : decode cX12_agrees 90 = .ok (.imul, 1) := by decide +kernel
theorem dX12_agrees_91 : decode cX12_agrees 91 = .ok (.iload 4, 2) := by decide +kernel
theorem dX12_agrees_93 : decode cX12_agrees 93 = .ok (.iadd, 1) := by decide +kernel
theorem dX12_agrees_94 : decode cX12_agrees 94 = .ok (.iaload, 1) := by decide +kernel
theorem dX12_agrees_95 : decode cX12_agrees 95 = .ok (.iadd, 1) := by decide +kernel
theorem dX12_agrees_96 : decode cX12_agrees 96 = .ok (.aload_n 0, 1) := by decide +kernel
theorem dX12_agrees_97 : decode cX12_agrees 97 = .ok (.iload 4, 2) := by decide +kernel
theorem dX12_agrees_99 : decode cX12_agrees 99 = .ok (.bipush 12, 2) := by decide +kernel
theorem dX12_agrees_101 : decode cX12_agrees 101 = .ok (.invokevirtual 128, 3) := by decide +kernel
theorem dX12_agrees_104 : decode cX12_agrees 104 = .ok (.imul, 1) := by decide +kernel
theorem dX12_agrees_105 : decode cX12_agrees 105 = .ok (.iadd, 1) := by decide +kernel
theorem dX12_agrees_106 : decode cX12_agrees 106 = .ok (.istore_n 3, 1) := by decide +kernel
theorem dX12_agrees_107 : decode cX12_agrees 107 = .ok (.iinc 4 1, 3) := by decide +kernel
theorem dX12_agrees_110 : decode cX12_agrees 110 = .ok (.goto (-46), 3) := by decide +kernel
theorem dX12_agrees_113 : decode cX12_agrees 113 = .ok (.iconst 0, 1) := by decide +kernel
theorem dX12_agrees_114 : decode cX12_agrees 114 = .ok (.istore 4, 2) := by decide +kernel
theorem dX12_agrees_116 : decode cX12_agrees 116 = .ok (.iload 4, 2) := by decide +kernel
theorem dX12_agrees_118 : decode cX12_agrees 118 = .ok (.aload_n 0, 1) := by decide +kernel
theorem dX12_agrees_119 : decode cX12_agrees 119 = .ok (.getfield 9, 3) := by decide +kernel
theorem dX12_agrees_122 : decode cX12_agrees 122 = .ok (.iconst 1, 1) := by decide +kernel
theorem dX12_agrees_123 : decode cX12_agrees 123 = .ok (.iaload, 1) := by decide +kernel
theorem dX12_agrees_124 : decode cX12_agrees 124 = .ok (.if_icmp .ge 93, 3) := by decide +kernel
theorem dX12_agrees_127 : decode cX12_agrees 127 = .ok (.aload_n 0, 1) := by decide +kernel
theorem dX12_agrees_128 : decode cX12_agrees 128 = .ok (.getfield 53, 3) := by decide +kernel
theorem dX12_agrees_131 : decode cX12_agrees 131 = .ok (.iconst 4, 1) := by decide +kernel
theorem dX12_agrees_132 : decode cX12_agrees 132 = .ok (.iload_n 1, 1) := by decide +kernel
theorem dX12_agrees_133 : decode cX12_agrees 133 = .ok (.imul, 1) := by decide +kernel
theorem dX12_agrees_134 : decode cX12_agrees 134 = .ok (.iload 4, 2) := by decide +kernel
theorem dX12_agrees_136 : decode cX12_agrees 136 = .ok (.iadd, 1) := by decide +kernel
theorem dX12_agrees_137 : decode cX12_agrees 137 = .ok (.iaload, 1) := by decide +kernel
theorem dX12_agrees_138 : decode cX12_agrees 138 = .ok (.istore 5, 2) := by decide +kernel
theorem dX12_agrees_140 : decode cX12_agrees 140 = .ok (.iconst 0, 1) := by decide +kernel
theorem dX12_agrees_141 : decode cX12_agrees 141 = .ok (.istore 6, 2) := by decide +kernel
theorem dX12_agrees_143 : decode cX12_agrees 143 = .ok (.iload 6, 2) := by decide +kernel
theorem dX12_agrees_145 : decode cX12_agrees 145 = .ok (.aload_n 0, 1) := by decide +kernel
theorem dX12_agrees_146 : decode cX12_agrees 146 = .ok (.getfield 9, 3) := by decide +kernel
theorem dX12_agrees_149 : decode cX12_agrees 149 = .ok (.iconst 2, 1) := by decide +kernel
theorem dX12_agrees_150 : decode cX12_agrees 150 = .ok (.iaload, 1) := by decide +kernel
theorem dX12_agrees_151 : decode cX12_agrees 151 = .ok (.if_icmp .ge 31, 3) := by decide +kernel
theorem dX12_agrees_154 : decode cX12_agrees 154 = .ok (.iload 5, 2) := by decide +kernel
theorem dX12_agrees_156 : decode cX12_agrees 156 = .ok (.aload_n 0, 1) := by decide +kernel
theorem dX12_agrees_157 : decode cX12_agrees 157 = .ok (.getfield 50, 3) := by decide +kernel
theorem dX12_agrees_160 : decode cX12_agrees 160 = .ok (.iconst 4, 1) := by decide +kernel
theorem dX12_agrees_161 : decode cX12_agrees 161 = .ok (.bipush 6, 2) := by decide +kernel
theorem dX12_agrees_163 : decode cX12_agrees 163 = .ok (.iload_n 1, 1) := by decide +kernel
theorem dX12_agrees_164 : decode cX12_agrees 164 = .ok (.imul, 1) := by decide +kernel
theorem dX12_agrees_165 : decode cX12_agrees 165 = .ok (.iload 6, 2) := by decide +kernel
theorem dX12_agrees_167 : decode cX12_agrees 167 = .ok (.iadd, 1) := by decide +kernel
theorem dX12_agrees_168 : decode cX12_agrees 168 = .ok (.imul, 1) := by decide +kernel
theorem dX12_agrees_169 : decode cX12_agrees 169 = .ok (.iload 4, 2) := by decide +kernel
theorem dX12_agrees_171 : decode cX12_agrees 171 = .ok (.iadd, 1) := by decide +kernel
theorem dX12_agrees_172 : decode cX12_agrees 172 = .ok (.iaload, 1) := by decide +kernel
theorem dX12_agrees_173 : decode cX12_agrees 173 = .ok (.iadd, 1) := by decide +kernel
theorem dX12_agrees_174 : decode cX12_agrees 174 = .ok (.istore 5, 2) := by decide +kernel
theorem dX12_agrees_176 : decode cX12_agrees 176 = .ok (.iinc 6 1, 3) := by decide +kernel
theorem dX12_agrees_179 : decode cX12_agrees 179 = .ok (.goto (-36), 3) := by decide +kernel
theorem dX12_agrees_182 : decode cX12_agrees 182 = .ok (.iload_n 2, 1) := by decide +kernel
theorem dX12_agrees_183 : decode cX12_agrees 183 = .ok (.ifCond .eq 26, 3) := by decide +kernel
theorem dX12_agrees_186 : decode cX12_agrees 186 = .ok (.iload 5, 2) := by decide +kernel
theorem dX12_agrees_188 : decode cX12_agrees 188 = .ok (.aload_n 0, 1) := by decide +kernel
theorem dX12_agrees_189 : decode cX12_agrees 189 = .ok (.getfield 9, 3) := by decide +kernel
theorem dX12_agrees_192 : decode cX12_agrees 192 = .ok (.iconst 5, 1) := by decide +kernel
theorem dX12_agrees_193 : decode cX12_agrees 193 = .ok (.bipush 24, 2) := by decide +kernel
theorem dX12_agrees_195 : decode cX12_agrees 195 = .ok (.iload 4, 2) := by decide +kernel
theorem dX12_agrees_197 : decode cX12_agrees 197 = .ok (.imul, 1) := by decide +kernel
theorem dX12_agrees_198 : decode cX12_agrees 198 = .ok (.iadd, 1) := by decide +kernel
theorem dX12_agrees_199 : decode cX12_agrees 199 = .ok (.iload_n 1, 1) := by decide +kernel
theorem dX12_agrees_200 : decode cX12_agrees 200 = .ok (.iadd, 1) := by decide +kernel
theorem dX12_agrees_201 : decode cX12_agrees 201 = .ok (.iaload, 1) := by decide +kernel
theorem dX12_agrees_202 : decode cX12_agrees 202 = .ok (.if_icmp .ne 7, 3) := by decide +kernel
theorem dX12_agrees_205 : decode cX12_agrees 205 = .ok (.iconst 1, 1) := by decide +kernel
theorem dX12_agrees_206 : decode cX12_agrees 206 = .ok (.goto 4, 3) := by decide +kernel
theorem dX12_agrees_209 : decode cX12_agrees 209 = .ok (.iconst 0, 1) := by decide +kernel
theorem dX12_agrees_210 : decode cX12_agrees 210 = .ok (.istore_n 2, 1) := by decide +kernel
theorem dX12_agrees_211 : decode cX12_agrees 211 = .ok (.iinc 4 1, 3) := by decide +kernel
theorem dX12_agrees_214 : decode cX12_agrees 214 = .ok (.goto (-98), 3) := by decide +kernel
theorem dX12_agrees_217 : decode cX12_agrees 217 = .ok (.iload_n 2, 1) := by decide +kernel
theorem dX12_agrees_218 : decode cX12_agrees 218 = .ok (.ifCond .eq 16, 3) := by decide +kernel
theorem dX12_agrees_221 : decode cX12_agrees 221 = .ok (.iload_n 3, 1) := by decide +kernel
theorem dX12_agrees_222 : decode cX12_agrees 222 = .ok (.aload_n 0, 1) := by decide +kernel
theorem dX12_agrees_223 : decode cX12_agrees 223 = .ok (.iload_n 1, 1) := by decide +kernel
theorem dX12_agrees_224 : decode cX12_agrees 224 = .ok (.invokevirtual 233, 3) := by decide +kernel
theorem dX12_agrees_227 : decode cX12_agrees 227 = .ok (.if_icmp .ne 7, 3) := by decide +kernel
theorem dX12_agrees_230 : decode cX12_agrees 230 = .ok (.iconst 1, 1) := by decide +kernel
theorem dX12_agrees_231 : decode cX12_agrees 231 = .ok (.goto 4, 3) := by decide +kernel
theorem dX12_agrees_234 : decode cX12_agrees 234 = .ok (.iconst 0, 1) := by decide +kernel
theorem dX12_agrees_235 : decode cX12_agrees 235 = .ok (.ireturn, 1) := by decide +kernel
def LX12_agrees_235 (Q : Option Value → az_M → Prop) : az_T := (s_rz Q)
theorem okLX12_agrees_235 {X : az_X} {Q : Option Value → az_M → Prop} (C : az_C X cX12_agrees 7 RX12 (az_ts yX12_agrees cX12_agrees 7 (some .boolean)) ({ frames := 5, cells := 0, slots := 0, locals := 187 } : Room) (some .boolean) Q) : az_ok X 235 (LX12_agrees_235 Q) := by
  have h235 := az_zreturn C rfl dX12_agrees_235
  exact h235
def LX12_agrees_234 (Q : Option Value → az_M → Prop) : az_T := (s_ic (nI 0) (s_kp [false, false, false, false, false, false, false] (LX12_agrees_235 Q)))
theorem okLX12_agrees_234 {X : az_X} {Q : Option Value → az_M → Prop} (C : az_C X cX12_agrees 7 RX12 (az_ts yX12_agrees cX12_agrees 7 (some .boolean)) ({ frames := 5, cells := 0, slots := 0, locals := 187 } : Room) (some .boolean) Q) : az_ok X 234 (LX12_agrees_234 Q) := by
  have h234 := az_iconst (x := (nI 0)) C dX12_agrees_234 (by decide +kernel) (az_keep [false, false, false, false, false, false, false] (okLX12_agrees_235 C))
  exact h234
def LX12_agrees_210 (Q : Option Value → az_M → Prop) (Z116 : az_T) : az_T := (s_si 2 (s_inc 4 (nI 1) (s_kp [true, true, true, true, true, false, false] Z116)))
theorem okLX12_agrees_210 {X : az_X} {Q : Option Value → az_M → Prop} (C : az_C X cX12_agrees 7 RX12 (az_ts yX12_agrees cX12_agrees 7 (some .boolean)) ({ frames := 5, cells := 0, slots := 0, locals := 187 } : Room) (some .boolean) Q) {Z116 : az_T} (hZ116 : az_ok X 116 Z116) : az_ok X 210 (LX12_agrees_210 Q Z116) := by
  have h214 := az_goto (tgt := 116) C dX12_agrees_214 (by decide) (az_keep [true, true, true, true, true, false, false] hZ116)
  have h211 := az_iinc (v := (nI 1)) C (by decide) (by decide +kernel) dX12_agrees_211 h214
  have h210 := az_istore_n C 2 rfl (by decide) dX12_agrees_210 h211
  exact h210
def LX12_agrees_209 (Q : Option Value → az_M → Prop) (Z116 : az_T) : az_T := (s_ic (nI 0) (s_kp [true, true, false, true, true, false, false] (LX12_agrees_210 Q Z116)))
theorem okLX12_agrees_209 {X : az_X} {Q : Option Value → az_M → Prop} (C : az_C X cX12_agrees 7 RX12 (az_ts yX12_agrees cX12_agrees 7 (some .boolean)) ({ frames := 5, cells := 0, slots := 0, locals := 187 } : Room) (some .boolean) Q) {Z116 : az_T} (hZ116 : az_ok X 116 Z116) : az_ok X 209 (LX12_agrees_209 Q Z116) := by
  have h209 := az_iconst (x := (nI 0)) C dX12_agrees_209 (by decide +kernel) (az_keep [true, true, false, true, true, false, false] (okLX12_agrees_210 C hZ116))
  exact h209
def BX12_agrees_143 (Q : Option Value → az_M → Prop) (Z116 : az_T) (Z143 : az_T) : az_T := (s_li 6 (s_la 0 (s_gr 13 0 (s_ic (nI 2) (s_al 20 (s_if2 d_ge (s_li 2 (s_if c_eq (s_kp [true, true, false, true, true, false, false] (LX12_agrees_209 Q Z116)) (s_li 5 (s_la 0 (s_gr 13 0 (s_ic (nI 5) (s_ic (nI 24) (s_li 4 (s_bin f_mul (s_bin f_add (s_li 1 (s_bin f_add (s_al 20 (s_if2 d_ne (s_kp [true, true, false, true, true, false, false] (LX12_agrees_209 Q Z116)) (s_ic (nI 1) (s_kp [true, true, false, true, true, false, false] (LX12_agrees_210 Q Z116))))))))))))))))) (s_li 5 (s_la 0 (s_gr 13 17 (s_ic (nI 4) (s_ic (nI 6) (s_li 1 (s_bin f_mul (s_li 6 (s_bin f_add (s_bin f_mul (s_li 4 (s_bin f_add (s_al 20 (s_bin f_add (s_si 5 (s_inc 6 (nI 1) (s_kp [true, true, true, true, true, true, true] Z143)))))))))))))))))))))))
theorem okBX12_agrees_143 {X : az_X} {Q : Option Value → az_M → Prop} (C : az_C X cX12_agrees 7 RX12 (az_ts yX12_agrees cX12_agrees 7 (some .boolean)) ({ frames := 5, cells := 0, slots := 0, locals := 187 } : Room) (some .boolean) Q) {Z116 : az_T} (hZ116 : az_ok X 116 Z116) {Z143 : az_T} (hZ143 : az_ok X 143 Z143) : az_ok X 143 (BX12_agrees_143 Q Z116 Z143) := by
  have h206 := az_goto (tgt := 210) C dX12_agrees_206 (by decide) (az_keep [true, true, false, true, true, false, false] (okLX12_agrees_210 C hZ116))
  have h205 := az_iconst (x := (nI 1)) C dX12_agrees_205 (by decide +kernel) h206
  have h202 := az_icmp_ne (tgt := 209) C dX12_agrees_202 (by decide) (az_keep [true, true, false, true, true, false, false] (okLX12_agrees_209 C hZ116)) h205
  have h201 := az_iald C dX12_agrees_201 h202
  have h200 := az_iadd C dX12_agrees_200 h201
  have h199 := az_iload_n C 1 rfl dX12_agrees_199 h200
  have h198 := az_iadd C dX12_agrees_198 h199
  have h197 := az_imul C dX12_agrees_197 h198
  have h195 := az_iload C dX12_agrees_195 h197
  have h193 := az_bipush (x := (nI 24)) C dX12_agrees_193 (by decide +kernel) h195
  have h192 := az_iconst (x := (nI 5)) C dX12_agrees_192 (by decide +kernel) h193
  have h189 := az_getR (T := TX12) (N := 33) (j := 0) C gwRX12 rfl (by decide) (by decide) iIRX12_0 mFRX12_9 rfl dX12_agrees_189 h192
  have h188 := az_aload_n C 0 rfl dX12_agrees_188 h189
  have h186 := az_iload C dX12_agrees_186 h188
  have h183 := az_if_eq (tgt := 209) C dX12_agrees_183 (by decide) (az_keep [true, true, false, true, true, false, false] (okLX12_agrees_209 C hZ116)) h186
  have h182 := az_iload_n C 2 rfl dX12_agrees_182 h183
  have h179 := az_goto (tgt := 143) C dX12_agrees_179 (by decide) (az_keep [true, true, true, true, true, true, true] hZ143)
  have h176 := az_iinc (v := (nI 1)) C (by decide) (by decide +kernel) dX12_agrees_176 h179
  have h174 := az_istore C (by decide) dX12_agrees_174 h176
  have h173 := az_iadd C dX12_agrees_173 h174
  have h172 := az_iald C dX12_agrees_172 h173
  have h171 := az_iadd C dX12_agrees_171 h172
  have h169 := az_iload C dX12_agrees_169 h171
  have h168 := az_imul C dX12_agrees_168 h169
  have h167 := az_iadd C dX12_agrees_167 h168
  have h165 := az_iload C dX12_agrees_165 h167
  have h164 := az_imul C dX12_agrees_164 h165
  have h163 := az_iload_n C 1 rfl dX12_agrees_163 h164
  have h161 := az_bipush (x := (nI 6)) C dX12_agrees_161 (by decide +kernel) h163
  have h160 := az_iconst (x := (nI 4)) C dX12_agrees_160 (by decide +kernel) h161
  have h157 := az_getR (T := TX12) (N := 33) (j := 17) C gwRX12 rfl (by decide) (by decide) iIRX12_17 mFRX12_50 rfl dX12_agrees_157 h160
  have h156 := az_aload_n C 0 rfl dX12_agrees_156 h157
  have h154 := az_iload C dX12_agrees_154 h156
  have h151 := az_icmp_ge (tgt := 182) C dX12_agrees_151 (by decide) h182 h154
  have h150 := az_iald C dX12_agrees_150 h151
  have h149 := az_iconst (x := (nI 2)) C dX12_agrees_149 (by decide +kernel) h150
  have h146 := az_getR (T := TX12) (N := 33) (j := 0) C gwRX12 rfl (by decide) (by decide) iIRX12_0 mFRX12_9 rfl dX12_agrees_146 h149
  have h145 := az_aload_n C 0 rfl dX12_agrees_145 h146
  have h143 := az_iload C dX12_agrees_143 h145
  exact h143
def LX12_agrees_143 (Q : Option Value → az_M → Prop) (Z116 : az_T) : az_T := s_lp (fun Z => BX12_agrees_143 Q Z116 Z)
theorem okLX12_agrees_143 {X : az_X} {Q : Option Value → az_M → Prop} (C : az_C X cX12_agrees 7 RX12 (az_ts yX12_agrees cX12_agrees 7 (some .boolean)) ({ frames := 5, cells := 0, slots := 0, locals := 187 } : Room) (some .boolean) Q) {Z116 : az_T} (hZ116 : az_ok X 116 Z116) : az_ok X 143 (LX12_agrees_143 Q Z116) := az_loop (F := fun Z => BX12_agrees_143 Q Z116 Z) (fun _ hZ => okBX12_agrees_143 C hZ116 hZ)
def BX12_agrees_116 (Q : Option Value → az_M → Prop) (Z116 : az_T) : az_T := (s_li 4 (s_la 0 (s_gr 13 0 (s_ic (nI 1) (s_al 20 (s_if2 d_ge (s_li 2 (s_if c_eq (s_kp [false, false, false, false, false, false, false] (LX12_agrees_234 Q)) (s_li 3 (s_la 0 (s_li 1 (s_cv 1 13 FX12_costOf (s_if2 d_ne (s_kp [false, false, false, false, false, false, false] (LX12_agrees_234 Q)) (s_ic (nI 1) (s_kp [false, false, false, false, false, false, false] (LX12_agrees_235 Q)))))))))) (s_la 0 (s_gr 13 18 (s_ic (nI 4) (s_li 1 (s_bin f_mul (s_li 4 (s_bin f_add (s_al 20 (s_si 5 (s_ic (nI 0) (s_si 6 (s_kp [true, true, true, true, true, true, true] (LX12_agrees_143 Q Z116)))))))))))))))))))
theorem okBX12_agrees_116 {X : az_X} {Q : Option Value → az_M → Prop} (C : az_C X cX12_agrees 7 RX12 (az_ts yX12_agrees cX12_agrees 7 (some .boolean)) ({ frames := 5, cells := 0, slots := 0, locals := 187 } : Room) (some .boolean) Q) {Z116 : az_T} (hZ116 : az_ok X 116 Z116) : az_ok X 116 (BX12_agrees_116 Q Z116) := by
  have h231 := az_goto (tgt := 235) C dX12_agrees_231 (by decide) (az_keep [false, false, false, false, false, false, false] (okLX12_agrees_235 C))
  have h230 := az_iconst (x := (nI 1)) C dX12_agrees_230 (by decide +kernel) h231
  have h227 := az_icmp_ne (tgt := 234) C dX12_agrees_227 (by decide) (az_keep [false, false, false, false, false, false, false] (okLX12_agrees_234 C)) h230
  have h224 := az_callV (ci := 13) C okX12_costOf knX12_costOf imX12_costOf seX12_costOf mLRX12_233 rfl (by decide) ⟨rfl, rfl, by decide, by decide⟩ dX12_agrees_224 h227
  have h223 := az_iload_n C 1 rfl dX12_agrees_223 h224
  have h222 := az_aload_n C 0 rfl dX12_agrees_222 h223
  have h221 := az_iload_n C 3 rfl dX12_agrees_221 h222
  have h218 := az_if_eq (tgt := 234) C dX12_agrees_218 (by decide) (az_keep [false, false, false, false, false, false, false] (okLX12_agrees_234 C)) h221
  have h217 := az_iload_n C 2 rfl dX12_agrees_217 h218
  have h141 := az_istore C (by decide) dX12_agrees_141 (az_keep [true, true, true, true, true, true, true] (okLX12_agrees_143 C hZ116))
  have h140 := az_iconst (x := (nI 0)) C dX12_agrees_140 (by decide +kernel) h141
  have h138 := az_istore C (by decide) dX12_agrees_138 h140
  have h137 := az_iald C dX12_agrees_137 h138
  have h136 := az_iadd C dX12_agrees_136 h137
  have h134 := az_iload C dX12_agrees_134 h136
  have h133 := az_imul C dX12_agrees_133 h134
  have h132 := az_iload_n C 1 rfl dX12_agrees_132 h133
  have h131 := az_iconst (x := (nI 4)) C dX12_agrees_131 (by decide +kernel) h132
  have h128 := az_getR (T := TX12) (N := 33) (j := 18) C gwRX12 rfl (by decide) (by decide) iIRX12_18 mFRX12_53 rfl dX12_agrees_128 h131
  have h127 := az_aload_n C 0 rfl dX12_agrees_127 h128
  have h124 := az_icmp_ge (tgt := 217) C dX12_agrees_124 (by decide) h217 h127
  have h123 := az_iald C dX12_agrees_123 h124
  have h122 := az_iconst (x := (nI 1)) C dX12_agrees_122 (by decide +kernel) h123
  have h119 := az_getR (T := TX12) (N := 33) (j := 0) C gwRX12 rfl (by decide) (by decide) iIRX12_0 mFRX12_9 rfl dX12_agrees_119 h122
  have h118 := az_aload_n C 0 rfl dX12_agrees_118 h119
  have h116 := az_iload C dX12_agrees_116 h118
  exact h116
def LX12_agrees_116 (Q : Option Value → az_M → Prop) : az_T := s_lp (fun Z => BX12_agrees_116 Q Z)
theorem okLX12_agrees_116 {X : az_X} {Q : Option Value → az_M → Prop} (C : az_C X cX12_agrees 7 RX12 (az_ts yX12_agrees cX12_agrees 7 (some .boolean)) ({ frames := 5, cells := 0, slots := 0, locals := 187 } : Room) (some .boolean) Q) : az_ok X 116 (LX12_agrees_116 Q) := az_loop (F := fun Z => BX12_agrees_116 Q Z) (fun _ hZ => okBX12_agrees_116 C hZ)
def BX12_agrees_64 (Q : Option Value → az_M → Prop) (Z64 : az_T) : az_T := (s_li 4 (s_la 0 (s_gr 13 0 (s_ic (nI 2) (s_al 20 (s_if2 d_ge (s_ic (nI 0) (s_si 4 (s_kp [true, true, true, true, true, false, false] (LX12_agrees_116 Q)))) (s_li 3 (s_la 0 (s_li 4 (s_li 1 (s_cv 2 13 FX12_allGiven (s_la 0 (s_gr 13 15 (s_ic (nI 6) (s_li 1 (s_bin f_mul (s_li 4 (s_bin f_add (s_al 20 (s_bin f_add (s_la 0 (s_li 4 (s_ic (nI 12) (s_cv 2 13 FX12_of (s_bin f_mul (s_bin f_add (s_si 3 (s_inc 4 (nI 1) (s_kp [true, true, true, true, true, false, false] Z64)))))))))))))))))))))))))))))
theorem okBX12_agrees_64 {X : az_X} {Q : Option Value → az_M → Prop} (C : az_C X cX12_agrees 7 RX12 (az_ts yX12_agrees cX12_agrees 7 (some .boolean)) ({ frames := 5, cells := 0, slots := 0, locals := 187 } : Room) (some .boolean) Q) {Z64 : az_T} (hZ64 : az_ok X 64 Z64) : az_ok X 64 (BX12_agrees_64 Q Z64) := by
  have h114 := az_istore C (by decide) dX12_agrees_114 (az_keep [true, true, true, true, true, false, false] (okLX12_agrees_116 C))
  have h113 := az_iconst (x := (nI 0)) C dX12_agrees_113 (by decide +kernel) h114
  have h110 := az_goto (tgt := 64) C dX12_agrees_110 (by decide) (az_keep [true, true, true, true, true, false, false] hZ64)
  have h107 := az_iinc (v := (nI 1)) C (by decide) (by decide +kernel) dX12_agrees_107 h110
  have h106 := az_istore_n C 3 rfl (by decide) dX12_agrees_106 h107
  have h105 := az_iadd C dX12_agrees_105 h106
  have h104 := az_imul C dX12_agrees_104 h105
  have h101 := az_callV (ci := 13) C okX12_of knX12_of imX12_of seX12_of mLRX12_128 rfl (by decide) ⟨rfl, rfl, by decide, by decide⟩ dX12_agrees_101 h104
  have h99 := az_bipush (x := (nI 12)) C dX12_agrees_99 (by decide +kernel) h101
  have h97 := az_iload C dX12_agrees_97 h99
  have h96 := az_aload_n C 0 rfl dX12_agrees_96 h97
  have h95 := az_iadd C dX12_agrees_95 h96
  have h94 := az_iald C dX12_agrees_94 h95
  have h93 := az_iadd C dX12_agrees_93 h94
  have h91 := az_iload C dX12_agrees_91 h93
  have h90 := az_imul C dX12_agrees_90 h91
  have h89 := az_iload_n C 1 rfl dX12_agrees_89 h90
  have h87 := az_bipush (x := (nI 6)) C dX12_agrees_87 (by decide +kernel) h89
  have h84 := az_getR (T := TX12) (N := 33) (j := 15) C gwRX12 rfl (by decide) (by decide) iIRX12_15 mFRX12_44 rfl dX12_agrees_84 h87
  have h83 := az_aload_n C 0 rfl dX12_agrees_83 h84
  have h80 := az_callV (ci := 13) C okX12_allGiven knX12_allGiven imX12_allGiven seX12_allGiven mLRX12_276 rfl (by decide) ⟨rfl, rfl, by decide, by decide⟩ dX12_agrees_80 h83
  have h79 := az_iload_n C 1 rfl dX12_agrees_79 h80
  have h77 := az_iload C dX12_agrees_77 h79
  have h76 := az_aload_n C 0 rfl dX12_agrees_76 h77
  have h75 := az_iload_n C 3 rfl dX12_agrees_75 h76
  have h72 := az_icmp_ge (tgt := 113) C dX12_agrees_72 (by decide) h113 h75
  have h71 := az_iald C dX12_agrees_71 h72
  have h70 := az_iconst (x := (nI 2)) C dX12_agrees_70 (by decide +kernel) h71
  have h67 := az_getR (T := TX12) (N := 33) (j := 0) C gwRX12 rfl (by decide) (by decide) iIRX12_0 mFRX12_9 rfl dX12_agrees_67 h70
  have h66 := az_aload_n C 0 rfl dX12_agrees_66 h67
  have h64 := az_iload C dX12_agrees_64 h66
  exact h64
def LX12_agrees_64 (Q : Option Value → az_M → Prop) : az_T := s_lp (fun Z => BX12_agrees_64 Q Z)
theorem okLX12_agrees_64 {X : az_X} {Q : Option Value → az_M → Prop} (C : az_C X cX12_agrees 7 RX12 (az_ts yX12_agrees cX12_agrees 7 (some .boolean)) ({ frames := 5, cells := 0, slots := 0, locals := 187 } : Room) (some .boolean) Q) : az_ok X 64 (LX12_agrees_64 Q) := az_loop (F := fun Z => BX12_agrees_64 Q Z) (fun _ hZ => okBX12_agrees_64 C hZ)
def LX12_agrees_42 (Q : Option Value → az_M → Prop) (Z4 : az_T) : az_T := (s_si 2 (s_inc 3 (nI 1) (s_kp [true, true, true, true, false, false, false] Z4)))
theorem okLX12_agrees_42 {X : az_X} {Q : Option Value → az_M → Prop} (C : az_C X cX12_agrees 7 RX12 (az_ts yX12_agrees cX12_agrees 7 (some .boolean)) ({ frames := 5, cells := 0, slots := 0, locals := 187 } : Room) (some .boolean) Q) {Z4 : az_T} (hZ4 : az_ok X 4 Z4) : az_ok X 42 (LX12_agrees_42 Q Z4) := by
  have h46 := az_goto (tgt := 4) C dX12_agrees_46 (by decide) (az_keep [true, true, true, true, false, false, false] hZ4)
  have h43 := az_iinc (v := (nI 1)) C (by decide) (by decide +kernel) dX12_agrees_43 h46
  have h42 := az_istore_n C 2 rfl (by decide) dX12_agrees_42 h43
  exact h42
def LX12_agrees_41 (Q : Option Value → az_M → Prop) (Z4 : az_T) : az_T := (s_ic (nI 0) (s_kp [true, true, false, true, false, false, false] (LX12_agrees_42 Q Z4)))
theorem okLX12_agrees_41 {X : az_X} {Q : Option Value → az_M → Prop} (C : az_C X cX12_agrees 7 RX12 (az_ts yX12_agrees cX12_agrees 7 (some .boolean)) ({ frames := 5, cells := 0, slots := 0, locals := 187 } : Room) (some .boolean) Q) {Z4 : az_T} (hZ4 : az_ok X 4 Z4) : az_ok X 41 (LX12_agrees_41 Q Z4) := by
  have h41 := az_iconst (x := (nI 0)) C dX12_agrees_41 (by decide +kernel) (az_keep [true, true, false, true, false, false, false] (okLX12_agrees_42 C hZ4))
  exact h41
def BX12_agrees_4 (Q : Option Value → az_M → Prop) (Z4 : az_T) : az_T := (s_li 3 (s_la 0 (s_gr 13 0 (s_ic (nI 1) (s_al 20 (s_if2 d_ge (s_la 0 (s_li 1 (s_cv 1 13 FX12_runningCost (s_la 0 (s_li 1 (s_cv 1 13 FX12_startCost (s_bin f_add (s_si 3 (s_ic (nI 0) (s_si 4 (s_kp [true, true, true, true, true, false, false] (LX12_agrees_64 Q)))))))))))) (s_li 2 (s_if c_eq (s_kp [true, true, false, true, false, false, false] (LX12_agrees_41 Q Z4)) (s_la 0 (s_li 3 (s_li 1 (s_cv 2 13 FX12_crossing (s_la 0 (s_gr 13 19 (s_ic (nI 4) (s_li 1 (s_bin f_mul (s_li 3 (s_bin f_add (s_al 20 (s_if2 d_ne (s_kp [true, true, false, true, false, false, false] (LX12_agrees_41 Q Z4)) (s_ic (nI 1) (s_kp [true, true, false, true, false, false, false] (LX12_agrees_42 Q Z4))))))))))))))))))))))))
theorem okBX12_agrees_4 {X : az_X} {Q : Option Value → az_M → Prop} (C : az_C X cX12_agrees 7 RX12 (az_ts yX12_agrees cX12_agrees 7 (some .boolean)) ({ frames := 5, cells := 0, slots := 0, locals := 187 } : Room) (some .boolean) Q) {Z4 : az_T} (hZ4 : az_ok X 4 Z4) : az_ok X 4 (BX12_agrees_4 Q Z4) := by
  have h62 := az_istore C (by decide) dX12_agrees_62 (az_keep [true, true, true, true, true, false, false] (okLX12_agrees_64 C))
  have h61 := az_iconst (x := (nI 0)) C dX12_agrees_61 (by decide +kernel) h62
  have h60 := az_istore_n C 3 rfl (by decide) dX12_agrees_60 h61
  have h59 := az_iadd C dX12_agrees_59 h60
  have h56 := az_callV (ci := 13) C okX12_startCost knX12_startCost imX12_startCost seX12_startCost mLRX12_199 rfl (by decide) ⟨rfl, rfl, by decide, by decide⟩ dX12_agrees_56 h59
  have h55 := az_iload_n C 1 rfl dX12_agrees_55 h56
  have h54 := az_aload_n C 0 rfl dX12_agrees_54 h55
  have h51 := az_callV (ci := 13) C okX12_runningCost knX12_runningCost imX12_runningCost seX12_runningCost mLRX12_196 rfl (by decide) ⟨rfl, rfl, by decide, by decide⟩ dX12_agrees_51 h54
  have h50 := az_iload_n C 1 rfl dX12_agrees_50 h51
  have h49 := az_aload_n C 0 rfl dX12_agrees_49 h50
  have h38 := az_goto (tgt := 42) C dX12_agrees_38 (by decide) (az_keep [true, true, false, true, false, false, false] (okLX12_agrees_42 C hZ4))
  have h37 := az_iconst (x := (nI 1)) C dX12_agrees_37 (by decide +kernel) h38
  have h34 := az_icmp_ne (tgt := 41) C dX12_agrees_34 (by decide) (az_keep [true, true, false, true, false, false, false] (okLX12_agrees_41 C hZ4)) h37
  have h33 := az_iald C dX12_agrees_33 h34
  have h32 := az_iadd C dX12_agrees_32 h33
  have h31 := az_iload_n C 3 rfl dX12_agrees_31 h32
  have h30 := az_imul C dX12_agrees_30 h31
  have h29 := az_iload_n C 1 rfl dX12_agrees_29 h30
  have h28 := az_iconst (x := (nI 4)) C dX12_agrees_28 (by decide +kernel) h29
  have h25 := az_getR (T := TX12) (N := 33) (j := 19) C gwRX12 rfl (by decide) (by decide) iIRX12_19 mFRX12_56 rfl dX12_agrees_25 h28
  have h24 := az_aload_n C 0 rfl dX12_agrees_24 h25
  have h21 := az_callV (ci := 13) C okX12_crossing knX12_crossing imX12_crossing seX12_crossing mLRX12_282 rfl (by decide) ⟨rfl, rfl, by decide, by decide⟩ dX12_agrees_21 h24
  have h20 := az_iload_n C 1 rfl dX12_agrees_20 h21
  have h19 := az_iload_n C 3 rfl dX12_agrees_19 h20
  have h18 := az_aload_n C 0 rfl dX12_agrees_18 h19
  have h15 := az_if_eq (tgt := 41) C dX12_agrees_15 (by decide) (az_keep [true, true, false, true, false, false, false] (okLX12_agrees_41 C hZ4)) h18
  have h14 := az_iload_n C 2 rfl dX12_agrees_14 h15
  have h11 := az_icmp_ge (tgt := 49) C dX12_agrees_11 (by decide) h49 h14
  have h10 := az_iald C dX12_agrees_10 h11
  have h9 := az_iconst (x := (nI 1)) C dX12_agrees_9 (by decide +kernel) h10
  have h6 := az_getR (T := TX12) (N := 33) (j := 0) C gwRX12 rfl (by decide) (by decide) iIRX12_0 mFRX12_9 rfl dX12_agrees_6 h9
  have h5 := az_aload_n C 0 rfl dX12_agrees_5 h6
  have h4 := az_iload_n C 3 rfl dX12_agrees_4 h5
  exact h4
def LX12_agrees_4 (Q : Option Value → az_M → Prop) : az_T := s_lp (fun Z => BX12_agrees_4 Q Z)
theorem okLX12_agrees_4 {X : az_X} {Q : Option Value → az_M → Prop} (C : az_C X cX12_agrees 7 RX12 (az_ts yX12_agrees cX12_agrees 7 (some .boolean)) ({ frames := 5, cells := 0, slots := 0, locals := 187 } : Room) (some .boolean) Q) : az_ok X 4 (LX12_agrees_4 Q) := az_loop (F := fun Z => BX12_agrees_4 Q Z) (fun _ hZ => okBX12_agrees_4 C hZ)
def PX12_agrees (Q : Option Value → az_M → Prop) : az_T := (s_ic (nI 1) (s_si 2 (s_ic (nI 1) (s_si 3 (s_kp [true, true, true, true, false, false, false] (LX12_agrees_4 Q))))))
def FX12_agrees : az_F := az_fun [true, false] 7 PX12_agrees
theorem okX12_agrees (l : Launch) : az_met l yX12_agrees cX12_agrees 7 (some .boolean) ({ frames := 5, cells := 0, slots := 0, locals := 187 } : Room) FX12_agrees := az_met_of (own := RX12) (by decide +kernel) rfl (by decide) (fun X Q C => by
  have h3 := az_istore_n C 3 rfl (by decide) dX12_agrees_3 (az_keep [true, true, true, true, false, false, false] (okLX12_agrees_4 C))
  have h2 := az_iconst (x := (nI 1)) C dX12_agrees_2 (by decide +kernel) h3
  have h1 := az_istore_n C 2 rfl (by decide) dX12_agrees_1 h2
  have h0 := az_iconst (x := (nI 1)) C dX12_agrees_0 (by decide +kernel) h1
  exact h0) l
theorem dX12_isConsistent_0 : decode cX12_isConsistent 0 = .ok (.aload_n 0, 1) := by decide +kernel
theorem dX12_isConsistent_1 : decode cX12_isConsistent 1 = .ok (.iconst 0, 1) := by decide +kernel
theorem dX12_isConsistent_2 : decode cX12_isConsistent 2 = .ok (.putfield 89, 3) := by decide +kernel
theorem dX12_isConsistent_5 : decode cX12_isConsistent 5 = .ok (.aload_n 0, 1) := by decide +kernel
theorem dX12_isConsistent_6 : decode cX12_isConsistent 6 = .ok (.invokevirtual 137, 3) := by decide +kernel
theorem dX12_isConsistent_9 : decode cX12_isConsistent 9 = .ok (.iconst 1, 1) := by decide +kernel
theorem dX12_isConsistent_10 : decode cX12_isConsistent 10 = .ok (.istore_n 1, 1) := by decide +kernel
theorem dX12_isConsistent_11 : decode cX12_isConsistent 11 = .ok (.iconst 0, 1) := by decide +kernel
theorem dX12_isConsistent_12 : decode cX12_isConsistent 12 = .ok (.istore_n 2, 1) := by decide +kernel
theorem dX12_isConsistent_13 : decode cX12_isConsistent 13 = .ok (.iload_n 2, 1) := by decide +kernel
theorem dX12_isConsistent_14 : decode cX12_isConsistent 14 = .ok (.aload_n 0, 1) := by decide +kernel
theorem dX12_isConsistent_15 : decode cX12_isConsistent 15 = .ok (.getfield 9, 3) := by decide +kernel
theorem dX12_isConsistent_18 : decode cX12_isConsistent 18 = .ok (.iconst 0, 1) := by decide +kernel
theorem dX12_isConsistent_19 : decode cX12_isConsistent 19 = .ok (.iaload, 1) := by decide +kernel
theorem dX12_isConsistent_20 : decode cX12_isConsistent 20 = .ok (.if_icmp .ge 27, 3) := by decide +kernel
theorem dX12_isConsistent_23 : decode cX12_isConsistent 23 = .ok (.iload_n 1, 1) := by decide +kernel
theorem dX12_isConsistent_24 : decode cX12_isConsistent 24 = .ok (.ifCond .eq 15, 3) := by decide +kernel
theorem dX12_isConsistent_27 : decode cX12_isConsistent 27 = .ok (.aload_n 0, 1) := by decide +kernel
theorem dX12_isConsistent_28 : decode cX12_isConsistent 28 = .ok (.iload_n 2, 1) := by decide +kernel
theorem dX12_isConsistent_29 : decode cX12_isConsistent 29 = .ok (.invokevirtual 285, 3) := by decide +kernel
theorem dX12_isConsistent_32 : decode cX12_isConsistent 32 = .ok (.ifCond .eq 7, 3) := by decide +kernel
theorem dX12_isConsistent_35 : decode cX12_isConsistent 35 = .ok (.iconst 1, 1) := by decide +kernel
theorem dX12_isConsistent_36 : decode cX12_isConsistent 36 = .ok (.goto 4, 3) := by decide +kernel
theorem dX12_isConsistent_39 : decode cX12_isConsistent 39 = .ok (.iconst 0, 1) := by decide +kernel
theorem dX12_isConsistent_40 : decode cX12_isConsistent 40 = .ok (.istore_n 1, 1) := by decide +kernel
theorem dX12_isConsistent_41 : decode cX12_isConsistent 41 = .ok (.iinc 2 1, 3) := by decide +kernel
theorem dX12_isConsistent_44 : decode cX12_isConsistent 44 = .ok (.goto (-31), 3) := by decide +kernel
theorem dX12_isConsistent_47 : decode cX12_isConsistent 47 = .ok (.iload_n 1, 1) := by decide +kernel
theorem dX12_isConsistent_48 : decode cX12_isConsistent 48 = .ok (.ireturn, 1) := by decide +kernel
def LX12_isConsistent_40 (Q : Option Value → az_M → Prop) (Z13 : az_T) : az_T := (s_si 1 (s_inc 2 (nI 1) (s_kp [true, true, true] Z13)))
theorem okLX12_isConsistent_40 {X : az_X} {Q : Option Value → az_M → Prop} (C : az_C X cX12_isConsistent 3 RX12 (az_ts yX12_isConsistent cX12_isConsistent 3 (some .boolean)) ({ frames := 8, cells := 0, slots := 0, locals := 257 } : Room) (some .boolean) Q) {Z13 : az_T} (hZ13 : az_ok X 13 Z13) : az_ok X 40 (LX12_isConsistent_40 Q Z13) := by
  have h44 := az_goto (tgt := 13) C dX12_isConsistent_44 (by decide) (az_keep [true, true, true] hZ13)
  have h41 := az_iinc (v := (nI 1)) C (by decide) (by decide +kernel) dX12_isConsistent_41 h44
  have h40 := az_istore_n C 1 rfl (by decide) dX12_isConsistent_40 h41
  exact h40
def LX12_isConsistent_39 (Q : Option Value → az_M → Prop) (Z13 : az_T) : az_T := (s_ic (nI 0) (s_kp [true, false, true] (LX12_isConsistent_40 Q Z13)))
theorem okLX12_isConsistent_39 {X : az_X} {Q : Option Value → az_M → Prop} (C : az_C X cX12_isConsistent 3 RX12 (az_ts yX12_isConsistent cX12_isConsistent 3 (some .boolean)) ({ frames := 8, cells := 0, slots := 0, locals := 257 } : Room) (some .boolean) Q) {Z13 : az_T} (hZ13 : az_ok X 13 Z13) : az_ok X 39 (LX12_isConsistent_39 Q Z13) := by
  have h39 := az_iconst (x := (nI 0)) C dX12_isConsistent_39 (by decide +kernel) (az_keep [true, false, true] (okLX12_isConsistent_40 C hZ13))
  exact h39
def BX12_isConsistent_13 (Q : Option Value → az_M → Prop) (Z13 : az_T) : az_T := (s_li 2 (s_la 0 (s_gr 13 0 (s_ic (nI 0) (s_al 20 (s_if2 d_ge (s_li 1 (s_rz Q)) (s_li 1 (s_if c_eq (s_kp [true, false, true] (LX12_isConsistent_39 Q Z13)) (s_la 0 (s_li 2 (s_cv 1 13 FX12_agrees (s_if c_eq (s_kp [true, false, true] (LX12_isConsistent_39 Q Z13)) (s_ic (nI 1) (s_kp [true, false, true] (LX12_isConsistent_40 Q Z13)))))))))))))))
theorem okBX12_isConsistent_13 {X : az_X} {Q : Option Value → az_M → Prop} (C : az_C X cX12_isConsistent 3 RX12 (az_ts yX12_isConsistent cX12_isConsistent 3 (some .boolean)) ({ frames := 8, cells := 0, slots := 0, locals := 257 } : Room) (some .boolean) Q) {Z13 : az_T} (hZ13 : az_ok X 13 Z13) : az_ok X 13 (BX12_isConsistent_13 Q Z13) := by
  have h48 := az_zreturn C rfl dX12_isConsistent_48
  have h47 := az_iload_n C 1 rfl dX12_isConsistent_47 h48
  have h36 := az_goto (tgt := 40) C dX12_isConsistent_36 (by decide) (az_keep [true, false, true] (okLX12_isConsistent_40 C hZ13))
  have h35 := az_iconst (x := (nI 1)) C dX12_isConsistent_35 (by decide +kernel) h36
  have h32 := az_if_eq (tgt := 39) C dX12_isConsistent_32 (by decide) (az_keep [true, false, true] (okLX12_isConsistent_39 C hZ13)) h35
  have h29 := az_callV (ci := 13) C okX12_agrees knX12_agrees imX12_agrees seX12_agrees mLRX12_285 rfl (by decide) ⟨rfl, rfl, by decide, by decide⟩ dX12_isConsistent_29 h32
  have h28 := az_iload_n C 2 rfl dX12_isConsistent_28 h29
  have h27 := az_aload_n C 0 rfl dX12_isConsistent_27 h28
  have h24 := az_if_eq (tgt := 39) C dX12_isConsistent_24 (by decide) (az_keep [true, false, true] (okLX12_isConsistent_39 C hZ13)) h27
  have h23 := az_iload_n C 1 rfl dX12_isConsistent_23 h24
  have h20 := az_icmp_ge (tgt := 47) C dX12_isConsistent_20 (by decide) h47 h23
  have h19 := az_iald C dX12_isConsistent_19 h20
  have h18 := az_iconst (x := (nI 0)) C dX12_isConsistent_18 (by decide +kernel) h19
  have h15 := az_getR (T := TX12) (N := 33) (j := 0) C gwRX12 rfl (by decide) (by decide) iIRX12_0 mFRX12_9 rfl dX12_isConsistent_15 h18
  have h14 := az_aload_n C 0 rfl dX12_isConsistent_14 h15
  have h13 := az_iload_n C 2 rfl dX12_isConsistent_13 h14
  exact h13
def LX12_isConsistent_13 (Q : Option Value → az_M → Prop) : az_T := s_lp (fun Z => BX12_isConsistent_13 Q Z)
theorem okLX12_isConsistent_13 {X : az_X} {Q : Option Value → az_M → Prop} (C : az_C X cX12_isConsistent 3 RX12 (az_ts yX12_isConsistent cX12_isConsistent 3 (some .boolean)) ({ frames := 8, cells := 0, slots := 0, locals := 257 } : Room) (some .boolean) Q) : az_ok X 13 (LX12_isConsistent_13 Q) := az_loop (F := fun Z => BX12_isConsistent_13 Q Z) (fun _ hZ => okBX12_isConsistent_13 C hZ)
def PX12_isConsistent (Q : Option Value → az_M → Prop) : az_T := (s_la 0 (s_ic (nI 0) (s_pi 13 5 (s_la 0 (s_cv 0 13 FX12_know (s_ic (nI 1) (s_si 1 (s_ic (nI 0) (s_si 2 (s_kp [true, true, true] (LX12_isConsistent_13 Q)))))))))))
def FX12_isConsistent : az_F := az_fun [true] 3 PX12_isConsistent
theorem okX12_isConsistent (l : Launch) : az_met l yX12_isConsistent cX12_isConsistent 3 (some .boolean) ({ frames := 8, cells := 0, slots := 0, locals := 257 } : Room) FX12_isConsistent := az_met_of (own := RX12) (by decide +kernel) rfl (by decide) (fun X Q C => by
  have h12 := az_istore_n C 2 rfl (by decide) dX12_isConsistent_12 (az_keep [true, true, true] (okLX12_isConsistent_13 C))
  have h11 := az_iconst (x := (nI 0)) C dX12_isConsistent_11 (by decide +kernel) h12
  have h10 := az_istore_n C 1 rfl (by decide) dX12_isConsistent_10 h11
  have h9 := az_iconst (x := (nI 1)) C dX12_isConsistent_9 (by decide +kernel) h10
  have h6 := az_callV (ci := 13) C okX12_know knX12_know imX12_know seX12_know mLRX12_137 rfl (by decide) ⟨rfl, rfl, by decide, by decide⟩ dX12_isConsistent_6 h9
  have h5 := az_aload_n C 0 rfl dX12_isConsistent_5 h6
  have h2 := az_putI (T := TX12) (N := 33) (j := 5) C gwRX12 rfl (by decide) (by decide) tyX12 tyX12_ok nmX12 iIRX12_5 (by decide +kernel) rfl mFRX12_89 rfl dX12_isConsistent_2 h5
  have h1 := az_iconst (x := (nI 0)) C dX12_isConsistent_1 (by decide +kernel) h2
  have h0 := az_aload_n C 0 rfl dX12_isConsistent_0 h1
  exact h0) l
theorem dX12_undo_0 : decode cX12_undo 0 = .ok (.aload_n 0, 1) := by decide +kernel
theorem dX12_undo_1 : decode cX12_undo 1 = .ok (.aload_n 0, 1) := by decide +kernel
theorem dX12_undo_2 : decode cX12_undo 2 = .ok (.getfield 100, 3) := by decide +kernel
theorem dX12_undo_5 : decode cX12_undo 5 = .ok (.ifCond .ne 7, 3) := by decide +kernel
theorem dX12_undo_8 : decode cX12_undo 8 = .ok (.iconst 1, 1) := by decide +kernel
theorem dX12_undo_9 : decode cX12_undo 9 = .ok (.goto 4, 3) := by decide +kernel
theorem dX12_undo_12 : decode cX12_undo 12 = .ok (.iconst 0, 1) := by decide +kernel
theorem dX12_undo_13 : decode cX12_undo 13 = .ok (.putfield 89, 3) := by decide +kernel
theorem dX12_undo_16 : decode cX12_undo 16 = .ok (.aload_n 0, 1) := by decide +kernel
theorem dX12_undo_17 : decode cX12_undo 17 = .ok (.getfield 89, 3) := by decide +kernel
theorem dX12_undo_20 : decode cX12_undo 20 = .ok (.ifCond .le 5, 3) := by decide +kernel
theorem dX12_undo_23 : decode cX12_undo 23 = .ok (.iconst 0, 1) := by decide +kernel
theorem dX12_undo_24 : decode cX12_undo 24 = .ok (.ireturn, 1) := by decide +kernel
theorem dX12_undo_25 : decode cX12_undo 25 = .ok (.aload_n 0, 1) := by decide +kernel
theorem dX12_undo_26 : decode cX12_undo 26 = .ok (.dup, 1) := by decide +kernel
theorem dX12_undo_27 : decode cX12_undo 27 = .ok (.getfield 100, 3) := by decide +kernel
theorem dX12_undo_30 : decode cX12_undo 30 = .ok (.iconst 1, 1) := by decide +kernel
theorem dX12_undo_31 : decode cX12_undo 31 = .ok (.isub, 1) := by decide +kernel
theorem dX12_undo_32 : decode cX12_undo 32 = .ok (.putfield 100, 3) := by decide +kernel
theorem dX12_undo_35 : decode cX12_undo 35 = .ok (.aload_n 0, 1) := by decide +kernel
theorem dX12_undo_36 : decode cX12_undo 36 = .ok (.getfield 16, 3) := by decide +kernel
theorem dX12_undo_39 : decode cX12_undo 39 = .ok (.sipush 235, 3) := by decide +kernel
theorem dX12_undo_42 : decode cX12_undo 42 = .ok (.aload_n 0, 1) := by decide +kernel
theorem dX12_undo_43 : decode cX12_undo 43 = .ok (.getfield 100, 3) := by decide +kernel
theorem dX12_undo_46 : decode cX12_undo 46 = .ok (.imul, 1) := by decide +kernel
theorem dX12_undo_47 : decode cX12_undo 47 = .ok (.aload_n 0, 1) := by decide +kernel
theorem dX12_undo_48 : decode cX12_undo 48 = .ok (.getfield 9, 3) := by decide +kernel
theorem dX12_undo_51 : decode cX12_undo 51 = .ok (.iconst 0, 1) := by decide +kernel
theorem dX12_undo_52 : decode cX12_undo 52 = .ok (.sipush 235, 3) := by decide +kernel
theorem dX12_undo_55 : decode cX12_undo 55 = .ok (.invokestatic 103, 3) := by decide +kernel
theorem dX12_undo_58 : decode cX12_undo 58 = .ok (.aload_n 0, 1) := by decide +kernel
theorem dX12_undo_59 : decode cX12_undo 59 = .ok (.iconst 0, 1) := by decide +kernel
theorem dX12_undo_60 : decode cX12_undo 60 = .ok (.putfield 109, 3) := by decide +kernel
theorem dX12_undo_63 : decode cX12_undo 63 = .ok (.aload_n 0, 1) := by decide +kernel
theorem dX12_undo_64 : decode cX12_undo 64 = .ok (.getfield 100, 3) := by decide +kernel
theorem dX12_undo_67 : decode cX12_undo 67 = .ok (.ireturn, 1) := by decide +kernel
def LX12_undo_13 (Q : Option Value → az_M → Prop) : az_T := (s_pi 13 5 (s_la 0 (s_gi 13 5 (s_if c_le (s_la 0 (s_dup (s_gi 13 4 (s_ic (nI 1) (s_bin f_sub (s_pi 13 4 (s_la 0 (s_gr 13 3 (s_ic (nI 235) (s_la 0 (s_gi 13 4 (s_bin f_mul (s_la 0 (s_gr 13 0 (s_ic (nI 0) (s_ic (nI 235) (s_cpy (s_la 0 (s_ic (nI 0) (s_pz 13 7 (s_la 0 (s_gi 13 4 (s_ri Q))))))))))))))))))))))) (s_ic (nI 0) (s_ri Q))))))
theorem okLX12_undo_13 {X : az_X} {Q : Option Value → az_M → Prop} (C : az_C X cX12_undo 1 RX12 (az_ts yX12_undo cX12_undo 1 (some .int)) ({ frames := 1, cells := 0, slots := 0, locals := 100 } : Room) (some .int) Q) : az_ok X 13 (LX12_undo_13 Q) := by
  have h67 := az_ireturn C rfl dX12_undo_67
  have h64 := az_getI (T := TX12) (N := 33) (j := 4) C gwRX12 rfl (by decide) (by decide) iIRX12_4 mFRX12_100 rfl dX12_undo_64 h67
  have h63 := az_aload_n C 0 rfl dX12_undo_63 h64
  have h60 := az_putZ (T := TX12) (N := 33) (j := 7) C gwRX12 rfl (by decide) (by decide) tyX12 tyX12_ok nmX12 iIRX12_7 (by decide +kernel) rfl mFRX12_109 rfl dX12_undo_60 h63
  have h59 := az_iconst (x := (nI 0)) C dX12_undo_59 (by decide +kernel) h60
  have h58 := az_aload_n C 0 rfl dX12_undo_58 h59
  have h55 := az_copy C mLRX12_103 cp_nat cp_st cp_ini (by decide) (by decide +kernel) dX12_undo_55 h58
  have h52 := az_sipush (x := (nI 235)) C dX12_undo_52 (by decide +kernel) h55
  have h51 := az_iconst (x := (nI 0)) C dX12_undo_51 (by decide +kernel) h52
  have h48 := az_getR (T := TX12) (N := 33) (j := 0) C gwRX12 rfl (by decide) (by decide) iIRX12_0 mFRX12_9 rfl dX12_undo_48 h51
  have h47 := az_aload_n C 0 rfl dX12_undo_47 h48
  have h46 := az_imul C dX12_undo_46 h47
  have h43 := az_getI (T := TX12) (N := 33) (j := 4) C gwRX12 rfl (by decide) (by decide) iIRX12_4 mFRX12_100 rfl dX12_undo_43 h46
  have h42 := az_aload_n C 0 rfl dX12_undo_42 h43
  have h39 := az_sipush (x := (nI 235)) C dX12_undo_39 (by decide +kernel) h42
  have h36 := az_getR (T := TX12) (N := 33) (j := 3) C gwRX12 rfl (by decide) (by decide) iIRX12_3 mFRX12_16 rfl dX12_undo_36 h39
  have h35 := az_aload_n C 0 rfl dX12_undo_35 h36
  have h32 := az_putI (T := TX12) (N := 33) (j := 4) C gwRX12 rfl (by decide) (by decide) tyX12 tyX12_ok nmX12 iIRX12_4 (by decide +kernel) rfl mFRX12_100 rfl dX12_undo_32 h35
  have h31 := az_isub C dX12_undo_31 h32
  have h30 := az_iconst (x := (nI 1)) C dX12_undo_30 (by decide +kernel) h31
  have h27 := az_getI (T := TX12) (N := 33) (j := 4) C gwRX12 rfl (by decide) (by decide) iIRX12_4 mFRX12_100 rfl dX12_undo_27 h30
  have h26 := az_dup C dX12_undo_26 h27
  have h25 := az_aload_n C 0 rfl dX12_undo_25 h26
  have h24 := az_ireturn C rfl dX12_undo_24
  have h23 := az_iconst (x := (nI 0)) C dX12_undo_23 (by decide +kernel) h24
  have h20 := az_if_le (tgt := 25) C dX12_undo_20 (by decide) h25 h23
  have h17 := az_getI (T := TX12) (N := 33) (j := 5) C gwRX12 rfl (by decide) (by decide) iIRX12_5 mFRX12_89 rfl dX12_undo_17 h20
  have h16 := az_aload_n C 0 rfl dX12_undo_16 h17
  have h13 := az_putI (T := TX12) (N := 33) (j := 5) C gwRX12 rfl (by decide) (by decide) tyX12 tyX12_ok nmX12 iIRX12_5 (by decide +kernel) rfl mFRX12_89 rfl dX12_undo_13 h16
  exact h13
def PX12_undo (Q : Option Value → az_M → Prop) : az_T := (s_la 0 (s_la 0 (s_gi 13 4 (s_if c_ne (s_ic (nI 0) (s_kp [true] (LX12_undo_13 Q))) (s_ic (nI 1) (s_kp [true] (LX12_undo_13 Q)))))))
def FX12_undo : az_F := az_fun [true] 1 PX12_undo
theorem okX12_undo (l : Launch) : az_met l yX12_undo cX12_undo 1 (some .int) ({ frames := 1, cells := 0, slots := 0, locals := 100 } : Room) FX12_undo := az_met_of (own := RX12) (by decide +kernel) rfl (by decide) (fun X Q C => by
  have h12 := az_iconst (x := (nI 0)) C dX12_undo_12 (by decide +kernel) (az_keep [true] (okLX12_undo_13 C))
  have h9 := az_goto (tgt := 13) C dX12_undo_9 (by decide) (az_keep [true] (okLX12_undo_13 C))
  have h8 := az_iconst (x := (nI 1)) C dX12_undo_8 (by decide +kernel) h9
  have h5 := az_if_ne (tgt := 12) C dX12_undo_5 (by decide) h12 h8
  have h2 := az_getI (T := TX12) (N := 33) (j := 4) C gwRX12 rfl (by decide) (by decide) iIRX12_4 mFRX12_100 rfl dX12_undo_2 h5
  have h1 := az_aload_n C 0 rfl dX12_undo_1 h2
  have h0 := az_aload_n C 0 rfl dX12_undo_0 h1
  exact h0) l
theorem dX12_snapshot_0 : decode cX12_snapshot 0 = .ok (.aload_n 0, 1) := by decide +kernel
theorem dX12_snapshot_1 : decode cX12_snapshot 1 = .ok (.iconst 0, 1) := by decide +kernel
theorem dX12_snapshot_2 : decode cX12_snapshot 2 = .ok (.putfield 89, 3) := by decide +kernel
theorem dX12_snapshot_5 : decode cX12_snapshot 5 = .ok (.aload_n 0, 1) := by decide +kernel
theorem dX12_snapshot_6 : decode cX12_snapshot 6 = .ok (.getfield 9, 3) := by decide +kernel
theorem dX12_snapshot_9 : decode cX12_snapshot 9 = .ok (.iconst 0, 1) := by decide +kernel
theorem dX12_snapshot_10 : decode cX12_snapshot 10 = .ok (.aload_n 0, 1) := by decide +kernel
theorem dX12_snapshot_11 : decode cX12_snapshot 11 = .ok (.getfield 13, 3) := by decide +kernel
theorem dX12_snapshot_14 : decode cX12_snapshot 14 = .ok (.iconst 0, 1) := by decide +kernel
theorem dX12_snapshot_15 : decode cX12_snapshot 15 = .ok (.sipush 235, 3) := by decide +kernel
theorem dX12_snapshot_18 : decode cX12_snapshot 18 = .ok (.invokestatic 103, 3) := by decide +kernel
theorem dX12_snapshot_21 : decode cX12_snapshot 21 = .ok (.aload_n 0, 1) := by decide +kernel
theorem dX12_snapshot_22 : decode cX12_snapshot 22 = .ok (.iconst 1, 1) := by decide +kernel
theorem dX12_snapshot_23 : decode cX12_snapshot 23 = .ok (.putfield 288, 3) := by decide +kernel
theorem dX12_snapshot_26 : decode cX12_snapshot 26 = .ok (.aload_n 0, 1) := by decide +kernel
theorem dX12_snapshot_27 : decode cX12_snapshot 27 = .ok (.getfield 9, 3) := by decide +kernel
theorem dX12_snapshot_30 : decode cX12_snapshot 30 = .ok (.iconst 2, 1) := by decide +kernel
theorem dX12_snapshot_31 : decode cX12_snapshot 31 = .ok (.iaload, 1) := by decide +kernel
theorem dX12_snapshot_32 : decode cX12_snapshot 32 = .ok (.ireturn, 1) := by decide +kernel
def PX12_snapshot (Q : Option Value → az_M → Prop) : az_T := (s_la 0 (s_ic (nI 0) (s_pi 13 5 (s_la 0 (s_gr 13 0 (s_ic (nI 0) (s_la 0 (s_gr 13 1 (s_ic (nI 0) (s_ic (nI 235) (s_cpy (s_la 0 (s_ic (nI 1) (s_pz 13 2 (s_la 0 (s_gr 13 0 (s_ic (nI 2) (s_al 20 (s_ri Q)))))))))))))))))))
def FX12_snapshot : az_F := az_fun [true] 1 PX12_snapshot
theorem okX12_snapshot (l : Launch) : az_met l yX12_snapshot cX12_snapshot 1 (some .int) ({ frames := 1, cells := 0, slots := 0, locals := 100 } : Room) FX12_snapshot := az_met_of (own := RX12) (by decide +kernel) rfl (by decide) (fun X Q C => by
  have h32 := az_ireturn C rfl dX12_snapshot_32
  have h31 := az_iald C dX12_snapshot_31 h32
  have h30 := az_iconst (x := (nI 2)) C dX12_snapshot_30 (by decide +kernel) h31
  have h27 := az_getR (T := TX12) (N := 33) (j := 0) C gwRX12 rfl (by decide) (by decide) iIRX12_0 mFRX12_9 rfl dX12_snapshot_27 h30
  have h26 := az_aload_n C 0 rfl dX12_snapshot_26 h27
  have h23 := az_putZ (T := TX12) (N := 33) (j := 2) C gwRX12 rfl (by decide) (by decide) tyX12 tyX12_ok nmX12 iIRX12_2 (by decide +kernel) rfl mFRX12_288 rfl dX12_snapshot_23 h26
  have h22 := az_iconst (x := (nI 1)) C dX12_snapshot_22 (by decide +kernel) h23
  have h21 := az_aload_n C 0 rfl dX12_snapshot_21 h22
  have h18 := az_copy C mLRX12_103 cp_nat cp_st cp_ini (by decide) (by decide +kernel) dX12_snapshot_18 h21
  have h15 := az_sipush (x := (nI 235)) C dX12_snapshot_15 (by decide +kernel) h18
  have h14 := az_iconst (x := (nI 0)) C dX12_snapshot_14 (by decide +kernel) h15
  have h11 := az_getR (T := TX12) (N := 33) (j := 1) C gwRX12 rfl (by decide) (by decide) iIRX12_1 mFRX12_13 rfl dX12_snapshot_11 h14
  have h10 := az_aload_n C 0 rfl dX12_snapshot_10 h11
  have h9 := az_iconst (x := (nI 0)) C dX12_snapshot_9 (by decide +kernel) h10
  have h6 := az_getR (T := TX12) (N := 33) (j := 0) C gwRX12 rfl (by decide) (by decide) iIRX12_0 mFRX12_9 rfl dX12_snapshot_6 h9
  have h5 := az_aload_n C 0 rfl dX12_snapshot_5 h6
  have h2 := az_putI (T := TX12) (N := 33) (j := 5) C gwRX12 rfl (by decide) (by decide) tyX12 tyX12_ok nmX12 iIRX12_5 (by decide +kernel) rfl mFRX12_89 rfl dX12_snapshot_2 h5
  have h1 := az_iconst (x := (nI 0)) C dX12_snapshot_1 (by decide +kernel) h2
  have h0 := az_aload_n C 0 rfl dX12_snapshot_0 h1
  exact h0) l
theorem dX12_restore_0 : decode cX12_restore 0 = .ok (.aload_n 0, 1) := by decide +kernel
theorem dX12_restore_1 : decode cX12_restore 1 = .ok (.aload_n 0, 1) := by decide +kernel
theorem dX12_restore_2 : decode cX12_restore 2 = .ok (.getfield 288, 3) := by decide +kernel
theorem dX12_restore_5 : decode cX12_restore 5 = .ok (.ifCond .eq 7, 3) := by decide +kernel
theorem dX12_restore_8 : decode cX12_restore 8 = .ok (.iconst 0, 1) := by decide +kernel
theorem dX12_restore_9 : decode cX12_restore 9 = .ok (.goto 4, 3) := by decide +kernel
theorem dX12_restore_12 : decode cX12_restore 12 = .ok (.iconst 1, 1) := by decide +kernel
theorem dX12_restore_13 : decode cX12_restore 13 = .ok (.putfield 89, 3) := by decide +kernel
theorem dX12_restore_16 : decode cX12_restore 16 = .ok (.aload_n 0, 1) := by decide +kernel
theorem dX12_restore_17 : decode cX12_restore 17 = .ok (.getfield 89, 3) := by decide +kernel
theorem dX12_restore_20 : decode cX12_restore 20 = .ok (.ifCond .le 5, 3) := by decide +kernel
theorem dX12_restore_23 : decode cX12_restore 23 = .ok (.iconst 0, 1) := by decide +kernel
theorem dX12_restore_24 : decode cX12_restore 24 = .ok (.ireturn, 1) := by decide +kernel
theorem dX12_restore_25 : decode cX12_restore 25 = .ok (.aload_n 0, 1) := by decide +kernel
theorem dX12_restore_26 : decode cX12_restore 26 = .ok (.getfield 13, 3) := by decide +kernel
theorem dX12_restore_29 : decode cX12_restore 29 = .ok (.iconst 0, 1) := by decide +kernel
theorem dX12_restore_30 : decode cX12_restore 30 = .ok (.aload_n 0, 1) := by decide +kernel
theorem dX12_restore_31 : decode cX12_restore 31 = .ok (.getfield 9, 3) := by decide +kernel
theorem dX12_restore_34 : decode cX12_restore 34 = .ok (.iconst 0, 1) := by decide +kernel
theorem dX12_restore_35 : decode cX12_restore 35 = .ok (.sipush 235, 3) := by decide +kernel
theorem dX12_restore_38 : decode cX12_restore 38 = .ok (.invokestatic 103, 3) := by decide +kernel
theorem dX12_restore_41 : decode cX12_restore 41 = .ok (.aload_n 0, 1) := by decide +kernel
theorem dX12_restore_42 : decode cX12_restore 42 = .ok (.iconst 0, 1) := by decide +kernel
theorem dX12_restore_43 : decode cX12_restore 43 = .ok (.putfield 100, 3) := by decide +kernel
theorem dX12_restore_46 : decode cX12_restore 46 = .ok (.aload_n 0, 1) := by decide +kernel
theorem dX12_restore_47 : decode cX12_restore 47 = .ok (.iconst 0, 1) := by decide +kernel
theorem dX12_restore_48 : decode cX12_restore 48 = .ok (.putfield 109, 3) := by decide +kernel
theorem dX12_restore_51 : decode cX12_restore 51 = .ok (.aload_n 0, 1) := by decide +kernel
theorem dX12_restore_52 : decode cX12_restore 52 = .ok (.getfield 9, 3) := by decide +kernel
theorem dX12_restore_55 : decode cX12_restore 55 = .ok (.iconst 2, 1) := by decide +kernel
theorem dX12_restore_56 : decode cX12_restore 56 = .ok (.iaload, 1) := by decide +kernel
theorem dX12_restore_57 : decode cX12_restore 57 = .ok (.ireturn, 1) := by decide +kernel
def LX12_restore_13 (Q : Option Value → az_M → Prop) : az_T := (s_pi 13 5 (s_la 0 (s_gi 13 5 (s_if c_le (s_la 0 (s_gr 13 1 (s_ic (nI 0) (s_la 0 (s_gr 13 0 (s_ic (nI 0) (s_ic (nI 235) (s_cpy (s_la 0 (s_ic (nI 0) (s_pi 13 4 (s_la 0 (s_ic (nI 0) (s_pz 13 7 (s_la 0 (s_gr 13 0 (s_ic (nI 2) (s_al 20 (s_ri Q))))))))))))))))))) (s_ic (nI 0) (s_ri Q))))))
theorem okLX12_restore_13 {X : az_X} {Q : Option Value → az_M → Prop} (C : az_C X cX12_restore 1 RX12 (az_ts yX12_restore cX12_restore 1 (some .int)) ({ frames := 1, cells := 0, slots := 0, locals := 100 } : Room) (some .int) Q) : az_ok X 13 (LX12_restore_13 Q) := by
  have h57 := az_ireturn C rfl dX12_restore_57
  have h56 := az_iald C dX12_restore_56 h57
  have h55 := az_iconst (x := (nI 2)) C dX12_restore_55 (by decide +kernel) h56
  have h52 := az_getR (T := TX12) (N := 33) (j := 0) C gwRX12 rfl (by decide) (by decide) iIRX12_0 mFRX12_9 rfl dX12_restore_52 h55
  have h51 := az_aload_n C 0 rfl dX12_restore_51 h52
  have h48 := az_putZ (T := TX12) (N := 33) (j := 7) C gwRX12 rfl (by decide) (by decide) tyX12 tyX12_ok nmX12 iIRX12_7 (by decide +kernel) rfl mFRX12_109 rfl dX12_restore_48 h51
  have h47 := az_iconst (x := (nI 0)) C dX12_restore_47 (by decide +kernel) h48
  have h46 := az_aload_n C 0 rfl dX12_restore_46 h47
  have h43 := az_putI (T := TX12) (N := 33) (j := 4) C gwRX12 rfl (by decide) (by decide) tyX12 tyX12_ok nmX12 iIRX12_4 (by decide +kernel) rfl mFRX12_100 rfl dX12_restore_43 h46
  have h42 := az_iconst (x := (nI 0)) C dX12_restore_42 (by decide +kernel) h43
  have h41 := az_aload_n C 0 rfl dX12_restore_41 h42
  have h38 := az_copy C mLRX12_103 cp_nat cp_st cp_ini (by decide) (by decide +kernel) dX12_restore_38 h41
  have h35 := az_sipush (x := (nI 235)) C dX12_restore_35 (by decide +kernel) h38
  have h34 := az_iconst (x := (nI 0)) C dX12_restore_34 (by decide +kernel) h35
  have h31 := az_getR (T := TX12) (N := 33) (j := 0) C gwRX12 rfl (by decide) (by decide) iIRX12_0 mFRX12_9 rfl dX12_restore_31 h34
  have h30 := az_aload_n C 0 rfl dX12_restore_30 h31
  have h29 := az_iconst (x := (nI 0)) C dX12_restore_29 (by decide +kernel) h30
  have h26 := az_getR (T := TX12) (N := 33) (j := 1) C gwRX12 rfl (by decide) (by decide) iIRX12_1 mFRX12_13 rfl dX12_restore_26 h29
  have h25 := az_aload_n C 0 rfl dX12_restore_25 h26
  have h24 := az_ireturn C rfl dX12_restore_24
  have h23 := az_iconst (x := (nI 0)) C dX12_restore_23 (by decide +kernel) h24
  have h20 := az_if_le (tgt := 25) C dX12_restore_20 (by decide) h25 h23
  have h17 := az_getI (T := TX12) (N := 33) (j := 5) C gwRX12 rfl (by decide) (by decide) iIRX12_5 mFRX12_89 rfl dX12_restore_17 h20
  have h16 := az_aload_n C 0 rfl dX12_restore_16 h17
  have h13 := az_putI (T := TX12) (N := 33) (j := 5) C gwRX12 rfl (by decide) (by decide) tyX12 tyX12_ok nmX12 iIRX12_5 (by decide +kernel) rfl mFRX12_89 rfl dX12_restore_13 h16
  exact h13
def PX12_restore (Q : Option Value → az_M → Prop) : az_T := (s_la 0 (s_la 0 (s_gi 13 2 (s_if c_eq (s_ic (nI 1) (s_kp [true] (LX12_restore_13 Q))) (s_ic (nI 0) (s_kp [true] (LX12_restore_13 Q)))))))
def FX12_restore : az_F := az_fun [true] 1 PX12_restore
theorem okX12_restore (l : Launch) : az_met l yX12_restore cX12_restore 1 (some .int) ({ frames := 1, cells := 0, slots := 0, locals := 100 } : Room) FX12_restore := az_met_of (own := RX12) (by decide +kernel) rfl (by decide) (fun X Q C => by
  have h12 := az_iconst (x := (nI 1)) C dX12_restore_12 (by decide +kernel) (az_keep [true] (okLX12_restore_13 C))
  have h9 := az_goto (tgt := 13) C dX12_restore_9 (by decide) (az_keep [true] (okLX12_restore_13 C))
  have h8 := az_iconst (x := (nI 0)) C dX12_restore_8 (by decide +kernel) h9
  have h5 := az_if_eq (tgt := 12) C dX12_restore_5 (by decide) h12 h8
  have h2 := az_getI (T := TX12) (N := 33) (j := 2) C gwRX12 rfl (by decide) (by decide) iIRX12_2 mFRX12_288 rfl dX12_restore_2 h5
  have h1 := az_aload_n C 0 rfl dX12_restore_1 h2
  have h0 := az_aload_n C 0 rfl dX12_restore_0 h1
  exact h0) l
