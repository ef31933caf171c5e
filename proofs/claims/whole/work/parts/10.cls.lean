/-! by program (wip/whole/run_gen.py): decode rows, predicates and contracts of 68 methods -/
theorem dX0_urgency_0 : decode cX0_urgency 0 = .ok (.aload_n 0, 1) := by decide +kernel
theorem dX0_urgency_1 : decode cX0_urgency 1 = .ok (.getfield 31, 3) := by decide +kernel
theorem dX0_urgency_4 : decode cX0_urgency 4 = .ok (.iload_n 1, 1) := by decide +kernel
theorem dX0_urgency_5 : decode cX0_urgency 5 = .ok (.aaload, 1) := by decide +kernel
theorem dX0_urgency_6 : decode cX0_urgency 6 = .ok (.astore_n 2, 1) := by decide +kernel
theorem dX0_urgency_7 : decode cX0_urgency 7 = .ok (.aload_n 0, 1) := by decide +kernel
theorem dX0_urgency_8 : decode cX0_urgency 8 = .ok (.getfield 42, 3) := by decide +kernel
theorem dX0_urgency_11 : decode cX0_urgency 11 = .ok (.ifCond .ne 7, 3) := by decide +kernel
theorem dX0_urgency_14 : decode cX0_urgency 14 = .ok (.aload_n 2, 1) := by decide +kernel
theorem dX0_urgency_15 : decode cX0_urgency 15 = .ok (.iconst 1, 1) := by decide +kernel
theorem dX0_urgency_16 : decode cX0_urgency 16 = .ok (.iaload, 1) := by decide +kernel
theorem dX0_urgency_17 : decode cX0_urgency 17 = .ok (.ireturn, 1) := by decide +kernel
theorem dX0_urgency_18 : decode cX0_urgency 18 = .ok (.aload_n 0, 1) := by decide +kernel
theorem dX0_urgency_19 : decode cX0_urgency 19 = .ok (.getfield 42, 3) := by decide +kernel
theorem dX0_urgency_22 : decode cX0_urgency 22 = .ok (.iconst 1, 1) := by decide +kernel
theorem dX0_urgency_23 : decode cX0_urgency 23 = .ok (.if_icmp .ne 9, 3) := by decide +kernel
theorem dX0_urgency_26 : decode cX0_urgency 26 = .ok (.aload_n 2, 1) := by decide +kernel
theorem dX0_urgency_27 : decode cX0_urgency 27 = .ok (.iconst 2, 1) := by decide +kernel
theorem dX0_urgency_28 : decode cX0_urgency 28 = .ok (.iaload, 1) := by decide +kernel
theorem dX0_urgency_29 : decode cX0_urgency 29 = .ok (.goto 15, 3) := by decide +kernel
theorem dX0_urgency_32 : decode cX0_urgency 32 = .ok (.aload_n 0, 1) := by decide +kernel
theorem dX0_urgency_33 : decode cX0_urgency 33 = .ok (.getfield 45, 3) := by decide +kernel
theorem dX0_urgency_36 : decode cX0_urgency 36 = .ok (.aload_n 2, 1) := by decide +kernel
theorem dX0_urgency_37 : decode cX0_urgency 37 = .ok (.iconst 0, 1) := by decide +kernel
theorem dX0_urgency_38 : decode cX0_urgency 38 = .ok (.iaload, 1) := by decide +kernel
theorem dX0_urgency_39 : decode cX0_urgency 39 = .ok (.aaload, 1) := by decide +kernel
theorem dX0_urgency_40 : decode cX0_urgency 40 = .ok (.bipush 10, 2) := by decide +kernel
theorem dX0_urgency_42 : decode cX0_urgency 42 = .ok (.iaload, 1) := by decide +kernel
theorem dX0_urgency_43 : decode cX0_urgency 43 = .ok (.ineg, 1) := by decide +kernel
theorem dX0_urgency_44 : decode cX0_urgency 44 = .ok (.ireturn, 1) := by decide +kernel
def LX0_urgency_44 (Q : Option Value → az_M → Prop) : az_T := (s_ri Q)
theorem okLX0_urgency_44 {X : az_X} {Q : Option Value → az_M → Prop} (C : az_C X cX0_urgency 3 RX0 (az_ts yX0_urgency cX0_urgency 3 (some .int)) ({ frames := 1, cells := 0, slots := 0, locals := 100 } : Room) (some .int) Q) : az_ok X 44 (LX0_urgency_44 Q) := by
  have h44 := az_ireturn C rfl dX0_urgency_44
  exact h44
def PX0_urgency (Q : Option Value → az_M → Prop) : az_T := (s_la 0 (s_gr 9 6 (s_li 1 (s_aa 25 (s_sa 2 (s_la 0 (s_gi 9 2 (s_if c_ne (s_la 0 (s_gi 9 2 (s_ic (nI 1) (s_if2 d_ne (s_la 0 (s_gr 9 5 (s_la 2 (s_ic (nI 0) (s_al 20 (s_aa 25 (s_ic (nI 10) (s_al 20 (s_un f_neg (s_kp [false, false, false] (LX0_urgency_44 Q))))))))))) (s_la 2 (s_ic (nI 2) (s_al 20 (s_kp [false, false, false] (LX0_urgency_44 Q))))))))) (s_la 2 (s_ic (nI 1) (s_al 20 (s_ri Q))))))))))))
def FX0_urgency : az_F := az_fun [true, false] 3 PX0_urgency
theorem okX0_urgency (l : Launch) : az_met l yX0_urgency cX0_urgency 3 (some .int) ({ frames := 1, cells := 0, slots := 0, locals := 100 } : Room) FX0_urgency := az_met_of (own := RX0) (by decide +kernel) rfl (by decide) (fun X Q C => by
  have h43 := az_ineg C dX0_urgency_43 (az_keep [false, false, false] (okLX0_urgency_44 C))
  have h42 := az_iald C dX0_urgency_42 h43
  have h40 := az_bipush (x := (nI 10)) C dX0_urgency_40 (by decide +kernel) h42
  have h39 := az_aald2 C dX0_urgency_39 h40
  have h38 := az_iald C dX0_urgency_38 h39
  have h37 := az_iconst (x := (nI 0)) C dX0_urgency_37 (by decide +kernel) h38
  have h36 := az_aload_n C 2 rfl dX0_urgency_36 h37
  have h33 := az_getR (T := TX8) (N := 11) (j := 5) C gwRX8 rfl (by decide) (by decide) iIRX8_5 mFRX0_45 rfl dX0_urgency_33 h36
  have h32 := az_aload_n C 0 rfl dX0_urgency_32 h33
  have h29 := az_goto (tgt := 44) C dX0_urgency_29 (by decide) (az_keep [false, false, false] (okLX0_urgency_44 C))
  have h28 := az_iald C dX0_urgency_28 h29
  have h27 := az_iconst (x := (nI 2)) C dX0_urgency_27 (by decide +kernel) h28
  have h26 := az_aload_n C 2 rfl dX0_urgency_26 h27
  have h23 := az_icmp_ne (tgt := 32) C dX0_urgency_23 (by decide) h32 h26
  have h22 := az_iconst (x := (nI 1)) C dX0_urgency_22 (by decide +kernel) h23
  have h19 := az_getI (T := TX8) (N := 11) (j := 2) C gwRX8 rfl (by decide) (by decide) iIRX8_2 mFRX0_42 rfl dX0_urgency_19 h22
  have h18 := az_aload_n C 0 rfl dX0_urgency_18 h19
  have h17 := az_ireturn C rfl dX0_urgency_17
  have h16 := az_iald C dX0_urgency_16 h17
  have h15 := az_iconst (x := (nI 1)) C dX0_urgency_15 (by decide +kernel) h16
  have h14 := az_aload_n C 2 rfl dX0_urgency_14 h15
  have h11 := az_if_ne (tgt := 18) C dX0_urgency_11 (by decide) h18 h14
  have h8 := az_getI (T := TX8) (N := 11) (j := 2) C gwRX8 rfl (by decide) (by decide) iIRX8_2 mFRX0_42 rfl dX0_urgency_8 h11
  have h7 := az_aload_n C 0 rfl dX0_urgency_7 h8
  have h6 := az_astore_n C 2 rfl (by decide) dX0_urgency_6 h7
  have h5 := az_aald2 C dX0_urgency_5 h6
  have h4 := az_iload_n C 1 rfl dX0_urgency_4 h5
  have h1 := az_getR (T := TX8) (N := 11) (j := 6) C gwRX8 rfl (by decide) (by decide) iIRX8_6 mFRX0_31 rfl dX0_urgency_1 h4
  have h0 := az_aload_n C 0 rfl dX0_urgency_0 h1
  exact h0) l
theorem dX0_nextOne_0 : decode cX0_nextOne 0 = .ok (.iconst (-1), 1) := by decide +kernel
theorem dX0_nextOne_1 : decode cX0_nextOne 1 = .ok (.istore_n 3, 1) := by decide +kernel
theorem dX0_nextOne_2 : decode cX0_nextOne 2 = .ok (.iconst 0, 1) := by decide +kernel
theorem dX0_nextOne_3 : decode cX0_nextOne 3 = .ok (.istore 4, 2) := by decide +kernel
theorem dX0_nextOne_5 : decode cX0_nextOne 5 = .ok (.iload 4, 2) := by decide +kernel
theorem dX0_nextOne_7 : decode cX0_nextOne 7 = .ok (.aload_n 1, 1) := by decide +kernel
theorem dX0_nextOne_8 : decode cX0_nextOne 8 = .ok (.getfield 21, 3) := by decide +kernel
theorem dX0_nextOne_11 : decode cX0_nextOne 11 = .ok (.if_icmp .ge 65, 3) := by decide +kernel
theorem dX0_nextOne_14 : decode cX0_nextOne 14 = .ok (.aload_n 0, 1) := by decide +kernel
theorem dX0_nextOne_15 : decode cX0_nextOne 15 = .ok (.getfield 9, 3) := by decide +kernel
theorem dX0_nextOne_18 : decode cX0_nextOne 18 = .ok (.iload 4, 2) := by decide +kernel
theorem dX0_nextOne_20 : decode cX0_nextOne 20 = .ok (.iaload, 1) := by decide +kernel
theorem dX0_nextOne_21 : decode cX0_nextOne 21 = .ok (.ifCond .ge 20, 3) := by decide +kernel
theorem dX0_nextOne_24 : decode cX0_nextOne 24 = .ok (.aload_n 1, 1) := by decide +kernel
theorem dX0_nextOne_25 : decode cX0_nextOne 25 = .ok (.getfield 31, 3) := by decide +kernel
theorem dX0_nextOne_28 : decode cX0_nextOne 28 = .ok (.iload 4, 2) := by decide +kernel
theorem dX0_nextOne_30 : decode cX0_nextOne 30 = .ok (.aaload, 1) := by decide +kernel
theorem dX0_nextOne_31 : decode cX0_nextOne 31 = .ok (.iconst 1, 1) := by decide +kernel
theorem dX0_nextOne_32 : decode cX0_nextOne 32 = .ok (.iaload, 1) := by decide +kernel
theorem dX0_nextOne_33 : decode cX0_nextOne 33 = .ok (.iload_n 2, 1) := by decide +kernel
theorem dX0_nextOne_34 : decode cX0_nextOne 34 = .ok (.if_icmp .gt 7, 3) := by decide +kernel
theorem dX0_nextOne_37 : decode cX0_nextOne 37 = .ok (.iconst 1, 1) := by decide +kernel
theorem dX0_nextOne_38 : decode cX0_nextOne 38 = .ok (.goto 4, 3) := by decide +kernel
theorem dX0_nextOne_41 : decode cX0_nextOne 41 = .ok (.iconst 0, 1) := by decide +kernel
theorem dX0_nextOne_42 : decode cX0_nextOne 42 = .ok (.istore 5, 2) := by decide +kernel
theorem dX0_nextOne_44 : decode cX0_nextOne 44 = .ok (.iload 5, 2) := by decide +kernel
theorem dX0_nextOne_46 : decode cX0_nextOne 46 = .ok (.ifCond .eq 24, 3) := by decide +kernel
theorem dX0_nextOne_49 : decode cX0_nextOne 49 = .ok (.iload_n 3, 1) := by decide +kernel
theorem dX0_nextOne_50 : decode cX0_nextOne 50 = .ok (.ifCond .lt 17, 3) := by decide +kernel
theorem dX0_nextOne_53 : decode cX0_nextOne 53 = .ok (.aload_n 1, 1) := by decide +kernel
theorem dX0_nextOne_54 : decode cX0_nextOne 54 = .ok (.iload 4, 2) := by decide +kernel
theorem dX0_nextOne_56 : decode cX0_nextOne 56 = .ok (.invokestatic 39, 3) := by decide +kernel
theorem dX0_nextOne_59 : decode cX0_nextOne 59 = .ok (.aload_n 1, 1) := by decide +kernel
theorem dX0_nextOne_60 : decode cX0_nextOne 60 = .ok (.iload_n 3, 1) := by decide +kernel
theorem dX0_nextOne_61 : decode cX0_nextOne 61 = .ok (.invokestatic 39, 3) := by decide +kernel
theorem dX0_nextOne_64 : decode cX0_nextOne 64 = .ok (.if_icmp .ge 6, 3) := by decide +kernel
theorem dX0_nextOne_67 : decode cX0_nextOne 67 = .ok (.iload 4, 2) := by decide +kernel
theorem dX0_nextOne_69 : decode cX0_nextOne 69 = .ok (.istore_n 3, 1) := by decide +kernel
theorem dX0_nextOne_70 : decode cX0_nextOne 70 = .ok (.iinc 4 1, 3) := by decide +kernel
theorem dX0_nextOne_73 : decode cX0_nextOne 73 = .ok (.goto (-68), 3) := by decide +kernel
theorem dX0_nextOne_76 : decode cX0_nextOne 76 = .ok (.iload_n 3, 1) := by decide +kernel
theorem dX0_nextOne_77 : decode cX0_nextOne 77 = .ok (.ireturn, 1) := by decide +kernel
def LX0_nextOne_70 (Q : Option Value → az_M → Prop) (Z5 : az_T) : az_T := (s_inc 4 (nI 1) (s_kp [true, true, true, true, true, false] Z5))
theorem okLX0_nextOne_70 {X : az_X} {Q : Option Value → az_M → Prop} (C : az_C X cX0_nextOne 6 RX0 (az_ts yX0_nextOne cX0_nextOne 6 (some .int)) ({ frames := 2, cells := 0, slots := 0, locals := 122 } : Room) (some .int) Q) {Z5 : az_T} (hZ5 : az_ok X 5 Z5) : az_ok X 70 (LX0_nextOne_70 Q Z5) := by
  have h73 := az_goto (tgt := 5) C dX0_nextOne_73 (by decide) (az_keep [true, true, true, true, true, false] hZ5)
  have h70 := az_iinc (v := (nI 1)) C (by decide) (by decide +kernel) dX0_nextOne_70 h73
  exact h70
def LX0_nextOne_67 (Q : Option Value → az_M → Prop) (Z5 : az_T) : az_T := (s_li 4 (s_si 3 (s_kp [true, true, true, true, true, false] (LX0_nextOne_70 Q Z5))))
theorem okLX0_nextOne_67 {X : az_X} {Q : Option Value → az_M → Prop} (C : az_C X cX0_nextOne 6 RX0 (az_ts yX0_nextOne cX0_nextOne 6 (some .int)) ({ frames := 2, cells := 0, slots := 0, locals := 122 } : Room) (some .int) Q) {Z5 : az_T} (hZ5 : az_ok X 5 Z5) : az_ok X 67 (LX0_nextOne_67 Q Z5) := by
  have h69 := az_istore_n C 3 rfl (by decide) dX0_nextOne_69 (az_keep [true, true, true, true, true, false] (okLX0_nextOne_70 C hZ5))
  have h67 := az_iload C dX0_nextOne_67 h69
  exact h67
def LX0_nextOne_42 (Q : Option Value → az_M → Prop) (Z5 : az_T) : az_T := (s_si 5 (s_li 5 (s_if c_eq (s_kp [true, true, true, true, true, false] (LX0_nextOne_70 Q Z5)) (s_li 3 (s_if c_lt (s_kp [true, true, true, false, true, false] (LX0_nextOne_67 Q Z5)) (s_la 1 (s_li 4 (s_cs 2 FX0_urgency (s_la 1 (s_li 3 (s_cs 2 FX0_urgency (s_if2 d_ge (s_kp [true, true, true, true, true, false] (LX0_nextOne_70 Q Z5)) (s_kp [true, true, true, false, true, false] (LX0_nextOne_67 Q Z5))))))))))))))
theorem okLX0_nextOne_42 {X : az_X} {Q : Option Value → az_M → Prop} (C : az_C X cX0_nextOne 6 RX0 (az_ts yX0_nextOne cX0_nextOne 6 (some .int)) ({ frames := 2, cells := 0, slots := 0, locals := 122 } : Room) (some .int) Q) {Z5 : az_T} (hZ5 : az_ok X 5 Z5) : az_ok X 42 (LX0_nextOne_42 Q Z5) := by
  have h64 := az_icmp_ge (tgt := 70) C dX0_nextOne_64 (by decide) (az_keep [true, true, true, true, true, false] (okLX0_nextOne_70 C hZ5)) (az_keep [true, true, true, false, true, false] (okLX0_nextOne_67 C hZ5))
  have h61 := az_callS C okX0_urgency knX0_urgency stX0_urgency mLRX0_39 ⟨rfl, rfl, by decide, by decide⟩ dX0_nextOne_61 h64
  have h60 := az_iload_n C 3 rfl dX0_nextOne_60 h61
  have h59 := az_aload_n C 1 rfl dX0_nextOne_59 h60
  have h56 := az_callS C okX0_urgency knX0_urgency stX0_urgency mLRX0_39 ⟨rfl, rfl, by decide, by decide⟩ dX0_nextOne_56 h59
  have h54 := az_iload C dX0_nextOne_54 h56
  have h53 := az_aload_n C 1 rfl dX0_nextOne_53 h54
  have h50 := az_if_lt (tgt := 67) C dX0_nextOne_50 (by decide) (az_keep [true, true, true, false, true, false] (okLX0_nextOne_67 C hZ5)) h53
  have h49 := az_iload_n C 3 rfl dX0_nextOne_49 h50
  have h46 := az_if_eq (tgt := 70) C dX0_nextOne_46 (by decide) (az_keep [true, true, true, true, true, false] (okLX0_nextOne_70 C hZ5)) h49
  have h44 := az_iload C dX0_nextOne_44 h46
  have h42 := az_istore C (by decide) dX0_nextOne_42 h44
  exact h42
def LX0_nextOne_41 (Q : Option Value → az_M → Prop) (Z5 : az_T) : az_T := (s_ic (nI 0) (s_kp [true, true, true, true, true, false] (LX0_nextOne_42 Q Z5)))
theorem okLX0_nextOne_41 {X : az_X} {Q : Option Value → az_M → Prop} (C : az_C X cX0_nextOne 6 RX0 (az_ts yX0_nextOne cX0_nextOne 6 (some .int)) ({ frames := 2, cells := 0, slots := 0, locals := 122 } : Room) (some .int) Q) {Z5 : az_T} (hZ5 : az_ok X 5 Z5) : az_ok X 41 (LX0_nextOne_41 Q Z5) := by
  have h41 := az_iconst (x := (nI 0)) C dX0_nextOne_41 (by decide +kernel) (az_keep [true, true, true, true, true, false] (okLX0_nextOne_42 C hZ5))
  exact h41
def BX0_nextOne_5 (Q : Option Value → az_M → Prop) (Z5 : az_T) : az_T := (s_li 4 (s_la 1 (s_gi 9 4 (s_if2 d_ge (s_li 3 (s_ri Q)) (s_la 0 (s_gr 2 0 (s_li 4 (s_al 20 (s_if c_ge (s_kp [true, true, true, true, true, false] (LX0_nextOne_41 Q Z5)) (s_la 1 (s_gr 9 6 (s_li 4 (s_aa 25 (s_ic (nI 1) (s_al 20 (s_li 2 (s_if2 d_gt (s_kp [true, true, true, true, true, false] (LX0_nextOne_41 Q Z5)) (s_ic (nI 1) (s_kp [true, true, true, true, true, false] (LX0_nextOne_42 Q Z5))))))))))))))))))))
theorem okBX0_nextOne_5 {X : az_X} {Q : Option Value → az_M → Prop} (C : az_C X cX0_nextOne 6 RX0 (az_ts yX0_nextOne cX0_nextOne 6 (some .int)) ({ frames := 2, cells := 0, slots := 0, locals := 122 } : Room) (some .int) Q) {Z5 : az_T} (hZ5 : az_ok X 5 Z5) : az_ok X 5 (BX0_nextOne_5 Q Z5) := by
  have h77 := az_ireturn C rfl dX0_nextOne_77
  have h76 := az_iload_n C 3 rfl dX0_nextOne_76 h77
  have h38 := az_goto (tgt := 42) C dX0_nextOne_38 (by decide) (az_keep [true, true, true, true, true, false] (okLX0_nextOne_42 C hZ5))
  have h37 := az_iconst (x := (nI 1)) C dX0_nextOne_37 (by decide +kernel) h38
  have h34 := az_icmp_gt (tgt := 41) C dX0_nextOne_34 (by decide) (az_keep [true, true, true, true, true, false] (okLX0_nextOne_41 C hZ5)) h37
  have h33 := az_iload_n C 2 rfl dX0_nextOne_33 h34
  have h32 := az_iald C dX0_nextOne_32 h33
  have h31 := az_iconst (x := (nI 1)) C dX0_nextOne_31 (by decide +kernel) h32
  have h30 := az_aald2 C dX0_nextOne_30 h31
  have h28 := az_iload C dX0_nextOne_28 h30
  have h25 := az_getR (T := TX8) (N := 11) (j := 6) C gwRX8 rfl (by decide) (by decide) iIRX8_6 mFRX0_31 rfl dX0_nextOne_25 h28
  have h24 := az_aload_n C 1 rfl dX0_nextOne_24 h25
  have h21 := az_if_ge (tgt := 41) C dX0_nextOne_21 (by decide) (az_keep [true, true, true, true, true, false] (okLX0_nextOne_41 C hZ5)) h24
  have h20 := az_iald C dX0_nextOne_20 h21
  have h18 := az_iload C dX0_nextOne_18 h20
  have h15 := az_getR (T := TX0) (N := 3) (j := 0) C gwRX0 rfl (by decide) (by decide) iIRX0_0 mFRX0_9 rfl dX0_nextOne_15 h18
  have h14 := az_aload_n C 0 rfl dX0_nextOne_14 h15
  have h11 := az_icmp_ge (tgt := 76) C dX0_nextOne_11 (by decide) h76 h14
  have h8 := az_getI (T := TX8) (N := 11) (j := 4) C gwRX8 rfl (by decide) (by decide) iIRX8_4 mFRX0_21 rfl dX0_nextOne_8 h11
  have h7 := az_aload_n C 1 rfl dX0_nextOne_7 h8
  have h5 := az_iload C dX0_nextOne_5 h7
  exact h5
def LX0_nextOne_5 (Q : Option Value → az_M → Prop) : az_T := s_lp (fun Z => BX0_nextOne_5 Q Z)
theorem okLX0_nextOne_5 {X : az_X} {Q : Option Value → az_M → Prop} (C : az_C X cX0_nextOne 6 RX0 (az_ts yX0_nextOne cX0_nextOne 6 (some .int)) ({ frames := 2, cells := 0, slots := 0, locals := 122 } : Room) (some .int) Q) : az_ok X 5 (LX0_nextOne_5 Q) := az_loop (F := fun Z => BX0_nextOne_5 Q Z) (fun _ hZ => okBX0_nextOne_5 C hZ)
def PX0_nextOne (Q : Option Value → az_M → Prop) : az_T := (s_ic (-1) (s_si 3 (s_ic (nI 0) (s_si 4 (s_kp [true, true, true, true, true, false] (LX0_nextOne_5 Q))))))
def FX0_nextOne : az_F := az_fun [true, true, false] 6 PX0_nextOne
theorem okX0_nextOne (l : Launch) : az_met l yX0_nextOne cX0_nextOne 6 (some .int) ({ frames := 2, cells := 0, slots := 0, locals := 122 } : Room) FX0_nextOne := az_met_of (own := RX0) (by decide +kernel) rfl (by decide) (fun X Q C => by
  have h3 := az_istore C (by decide) dX0_nextOne_3 (az_keep [true, true, true, true, true, false] (okLX0_nextOne_5 C))
  have h2 := az_iconst (x := (nI 0)) C dX0_nextOne_2 (by decide +kernel) h3
  have h1 := az_istore_n C 3 rfl (by decide) dX0_nextOne_1 h2
  have h0 := az_iconst (x := (-1)) C dX0_nextOne_0 (by decide +kernel) h1
  exact h0) l
theorem dX0_markAway_0 : decode cX0_markAway 0 = .ok (.iconst 0, 1) := by decide +kernel
theorem dX0_markAway_1 : decode cX0_markAway 1 = .ok (.istore_n 2, 1) := by decide +kernel
theorem dX0_markAway_2 : decode cX0_markAway 2 = .ok (.iload_n 2, 1) := by decide +kernel
theorem dX0_markAway_3 : decode cX0_markAway 3 = .ok (.aload_n 1, 1) := by decide +kernel
theorem dX0_markAway_4 : decode cX0_markAway 4 = .ok (.getfield 48, 3) := by decide +kernel
theorem dX0_markAway_7 : decode cX0_markAway 7 = .ok (.if_icmp .ge 73, 3) := by decide +kernel
theorem dX0_markAway_10 : decode cX0_markAway 10 = .ok (.aload_n 0, 1) := by decide +kernel
theorem dX0_markAway_11 : decode cX0_markAway 11 = .ok (.getfield 18, 3) := by decide +kernel
theorem dX0_markAway_14 : decode cX0_markAway 14 = .ok (.iload_n 2, 1) := by decide +kernel
theorem dX0_markAway_15 : decode cX0_markAway 15 = .ok (.iconst 0, 1) := by decide +kernel
theorem dX0_markAway_16 : decode cX0_markAway 16 = .ok (.iastore, 1) := by decide +kernel
theorem dX0_markAway_17 : decode cX0_markAway 17 = .ok (.iconst 0, 1) := by decide +kernel
theorem dX0_markAway_18 : decode cX0_markAway 18 = .ok (.istore_n 3, 1) := by decide +kernel
theorem dX0_markAway_19 : decode cX0_markAway 19 = .ok (.iload_n 3, 1) := by decide +kernel
theorem dX0_markAway_20 : decode cX0_markAway 20 = .ok (.aload_n 1, 1) := by decide +kernel
theorem dX0_markAway_21 : decode cX0_markAway 21 = .ok (.getfield 21, 3) := by decide +kernel
theorem dX0_markAway_24 : decode cX0_markAway 24 = .ok (.if_icmp .ge 50, 3) := by decide +kernel
theorem dX0_markAway_27 : decode cX0_markAway 27 = .ok (.aload_n 1, 1) := by decide +kernel
theorem dX0_markAway_28 : decode cX0_markAway 28 = .ok (.getfield 31, 3) := by decide +kernel
theorem dX0_markAway_31 : decode cX0_markAway 31 = .ok (.iload_n 3, 1) := by decide +kernel
theorem dX0_markAway_32 : decode cX0_markAway 32 = .ok (.aaload, 1) := by decide +kernel
theorem dX0_markAway_33 : decode cX0_markAway 33 = .ok (.iconst 1, 1) := by decide +kernel
theorem dX0_markAway_34 : decode cX0_markAway 34 = .ok (.iaload, 1) := by decide +kernel
theorem dX0_markAway_35 : decode cX0_markAway 35 = .ok (.iload_n 2, 1) := by decide +kernel
theorem dX0_markAway_36 : decode cX0_markAway 36 = .ok (.if_icmp .gt 32, 3) := by decide +kernel
theorem dX0_markAway_39 : decode cX0_markAway 39 = .ok (.iload_n 2, 1) := by decide +kernel
theorem dX0_markAway_40 : decode cX0_markAway 40 = .ok (.aload_n 0, 1) := by decide +kernel
theorem dX0_markAway_41 : decode cX0_markAway 41 = .ok (.getfield 15, 3) := by decide +kernel
theorem dX0_markAway_44 : decode cX0_markAway 44 = .ok (.iload_n 3, 1) := by decide +kernel
theorem dX0_markAway_45 : decode cX0_markAway 45 = .ok (.iaload, 1) := by decide +kernel
theorem dX0_markAway_46 : decode cX0_markAway 46 = .ok (.if_icmp .gt 22, 3) := by decide +kernel
theorem dX0_markAway_49 : decode cX0_markAway 49 = .ok (.aload_n 0, 1) := by decide +kernel
theorem dX0_markAway_50 : decode cX0_markAway 50 = .ok (.getfield 18, 3) := by decide +kernel
theorem dX0_markAway_53 : decode cX0_markAway 53 = .ok (.iload_n 2, 1) := by decide +kernel
theorem dX0_markAway_54 : decode cX0_markAway 54 = .ok (.dup2, 1) := by decide +kernel
theorem dX0_markAway_55 : decode cX0_markAway 55 = .ok (.iaload, 1) := by decide +kernel
theorem dX0_markAway_56 : decode cX0_markAway 56 = .ok (.iconst 1, 1) := by decide +kernel
theorem dX0_markAway_57 : decode cX0_markAway 57 = .ok (.aload_n 1, 1) := by decide +kernel
theorem dX0_markAway_58 : decode cX0_markAway 58 = .ok (.getfield 31, 3) := by decide +kernel
theorem dX0_markAway_61 : decode cX0_markAway 61 = .ok (.iload_n 3, 1) := by decide +kernel
theorem dX0_markAway_62 : decode cX0_markAway 62 = .ok (.aaload, 1) := by decide +kernel
theorem dX0_markAway_63 : decode cX0_markAway 63 = .ok (.iconst 0, 1) := by decide +kernel
theorem dX0_markAway_64 : decode cX0_markAway 64 = .ok (.iaload, 1) := by decide +kernel
theorem dX0_markAway_65 : decode cX0_markAway 65 = .ok (.ishl, 1) := by decide +kernel
theorem dX0_markAway_66 : decode cX0_markAway 66 = .ok (.ior, 1) := by decide +kernel
theorem dX0_markAway_67 : decode cX0_markAway 67 = .ok (.iastore, 1) := by decide +kernel
theorem dX0_markAway_68 : decode cX0_markAway 68 = .ok (.iinc 3 1, 3) := by decide +kernel
theorem dX0_markAway_71 : decode cX0_markAway 71 = .ok (.goto (-52), 3) := by decide +kernel
theorem dX0_markAway_74 : decode cX0_markAway 74 = .ok (.iinc 2 1, 3) := by decide +kernel
theorem dX0_markAway_77 : decode cX0_markAway 77 = .ok (.goto (-75), 3) := by decide +kernel
theorem dX0_markAway_80 : decode cX0_markAway 80 = .ok (.return_, 1) := by decide +kernel
def LX0_markAway_68 (Q : Option Value → az_M → Prop) (Z2 : az_T) (Z19 : az_T) : az_T := (s_inc 3 (nI 1) (s_kp [true, true, true, true] Z19))
theorem okLX0_markAway_68 {X : az_X} {Q : Option Value → az_M → Prop} (C : az_C X cX0_markAway 4 RX0 (az_ts yX0_markAway cX0_markAway 4 none) ({ frames := 1, cells := 0, slots := 0, locals := 100 } : Room) none Q) {Z2 : az_T} (hZ2 : az_ok X 2 Z2) {Z19 : az_T} (hZ19 : az_ok X 19 Z19) : az_ok X 68 (LX0_markAway_68 Q Z2 Z19) := by
  have h71 := az_goto (tgt := 19) C dX0_markAway_71 (by decide) (az_keep [true, true, true, true] hZ19)
  have h68 := az_iinc (v := (nI 1)) C (by decide) (by decide +kernel) dX0_markAway_68 h71
  exact h68
def BX0_markAway_19 (Q : Option Value → az_M → Prop) (Z2 : az_T) (Z19 : az_T) : az_T := (s_li 3 (s_la 1 (s_gi 9 4 (s_if2 d_ge (s_inc 2 (nI 1) (s_kp [true, true, true, false] Z2)) (s_la 1 (s_gr 9 6 (s_li 3 (s_aa 25 (s_ic (nI 1) (s_al 20 (s_li 2 (s_if2 d_gt (s_kp [true, true, true, true] (LX0_markAway_68 Q Z2 Z19)) (s_li 2 (s_la 0 (s_gr 2 1 (s_li 3 (s_al 20 (s_if2 d_gt (s_kp [true, true, true, true] (LX0_markAway_68 Q Z2 Z19)) (s_la 0 (s_gr 2 2 (s_li 2 (s_dup2 (s_al 20 (s_ic (nI 1) (s_la 1 (s_gr 9 6 (s_li 3 (s_aa 25 (s_ic (nI 0) (s_al 20 (s_bin f_shl (s_bin f_or (s_as (s_kp [true, true, true, true] (LX0_markAway_68 Q Z2 Z19)))))))))))))))))))))))))))))))))))
theorem okBX0_markAway_19 {X : az_X} {Q : Option Value → az_M → Prop} (C : az_C X cX0_markAway 4 RX0 (az_ts yX0_markAway cX0_markAway 4 none) ({ frames := 1, cells := 0, slots := 0, locals := 100 } : Room) none Q) {Z2 : az_T} (hZ2 : az_ok X 2 Z2) {Z19 : az_T} (hZ19 : az_ok X 19 Z19) : az_ok X 19 (BX0_markAway_19 Q Z2 Z19) := by
  have h77 := az_goto (tgt := 2) C dX0_markAway_77 (by decide) (az_keep [true, true, true, false] hZ2)
  have h74 := az_iinc (v := (nI 1)) C (by decide) (by decide +kernel) dX0_markAway_74 h77
  have h67 := az_iast C dX0_markAway_67 (az_keep [true, true, true, true] (okLX0_markAway_68 C hZ2 hZ19))
  have h66 := az_ior C dX0_markAway_66 h67
  have h65 := az_ishl C dX0_markAway_65 h66
  have h64 := az_iald C dX0_markAway_64 h65
  have h63 := az_iconst (x := (nI 0)) C dX0_markAway_63 (by decide +kernel) h64
  have h62 := az_aald2 C dX0_markAway_62 h63
  have h61 := az_iload_n C 3 rfl dX0_markAway_61 h62
  have h58 := az_getR (T := TX8) (N := 11) (j := 6) C gwRX8 rfl (by decide) (by decide) iIRX8_6 mFRX0_31 rfl dX0_markAway_58 h61
  have h57 := az_aload_n C 1 rfl dX0_markAway_57 h58
  have h56 := az_iconst (x := (nI 1)) C dX0_markAway_56 (by decide +kernel) h57
  have h55 := az_iald C dX0_markAway_55 h56
  have h54 := az_dup2 C dX0_markAway_54 h55
  have h53 := az_iload_n C 2 rfl dX0_markAway_53 h54
  have h50 := az_getR (T := TX0) (N := 3) (j := 2) C gwRX0 rfl (by decide) (by decide) iIRX0_2 mFRX0_18 rfl dX0_markAway_50 h53
  have h49 := az_aload_n C 0 rfl dX0_markAway_49 h50
  have h46 := az_icmp_gt (tgt := 68) C dX0_markAway_46 (by decide) (az_keep [true, true, true, true] (okLX0_markAway_68 C hZ2 hZ19)) h49
  have h45 := az_iald C dX0_markAway_45 h46
  have h44 := az_iload_n C 3 rfl dX0_markAway_44 h45
  have h41 := az_getR (T := TX0) (N := 3) (j := 1) C gwRX0 rfl (by decide) (by decide) iIRX0_1 mFRX0_15 rfl dX0_markAway_41 h44
  have h40 := az_aload_n C 0 rfl dX0_markAway_40 h41
  have h39 := az_iload_n C 2 rfl dX0_markAway_39 h40
  have h36 := az_icmp_gt (tgt := 68) C dX0_markAway_36 (by decide) (az_keep [true, true, true, true] (okLX0_markAway_68 C hZ2 hZ19)) h39
  have h35 := az_iload_n C 2 rfl dX0_markAway_35 h36
  have h34 := az_iald C dX0_markAway_34 h35
  have h33 := az_iconst (x := (nI 1)) C dX0_markAway_33 (by decide +kernel) h34
  have h32 := az_aald2 C dX0_markAway_32 h33
  have h31 := az_iload_n C 3 rfl dX0_markAway_31 h32
  have h28 := az_getR (T := TX8) (N := 11) (j := 6) C gwRX8 rfl (by decide) (by decide) iIRX8_6 mFRX0_31 rfl dX0_markAway_28 h31
  have h27 := az_aload_n C 1 rfl dX0_markAway_27 h28
  have h24 := az_icmp_ge (tgt := 74) C dX0_markAway_24 (by decide) h74 h27
  have h21 := az_getI (T := TX8) (N := 11) (j := 4) C gwRX8 rfl (by decide) (by decide) iIRX8_4 mFRX0_21 rfl dX0_markAway_21 h24
  have h20 := az_aload_n C 1 rfl dX0_markAway_20 h21
  have h19 := az_iload_n C 3 rfl dX0_markAway_19 h20
  exact h19
def LX0_markAway_19 (Q : Option Value → az_M → Prop) (Z2 : az_T) : az_T := s_lp (fun Z => BX0_markAway_19 Q Z2 Z)
theorem okLX0_markAway_19 {X : az_X} {Q : Option Value → az_M → Prop} (C : az_C X cX0_markAway 4 RX0 (az_ts yX0_markAway cX0_markAway 4 none) ({ frames := 1, cells := 0, slots := 0, locals := 100 } : Room) none Q) {Z2 : az_T} (hZ2 : az_ok X 2 Z2) : az_ok X 19 (LX0_markAway_19 Q Z2) := az_loop (F := fun Z => BX0_markAway_19 Q Z2 Z) (fun _ hZ => okBX0_markAway_19 C hZ2 hZ)
def BX0_markAway_2 (Q : Option Value → az_M → Prop) (Z2 : az_T) : az_T := (s_li 2 (s_la 1 (s_gi 9 0 (s_if2 d_ge (s_rv Q) (s_la 0 (s_gr 2 2 (s_li 2 (s_ic (nI 0) (s_as (s_ic (nI 0) (s_si 3 (s_kp [true, true, true, true] (LX0_markAway_19 Q Z2)))))))))))))
theorem okBX0_markAway_2 {X : az_X} {Q : Option Value → az_M → Prop} (C : az_C X cX0_markAway 4 RX0 (az_ts yX0_markAway cX0_markAway 4 none) ({ frames := 1, cells := 0, slots := 0, locals := 100 } : Room) none Q) {Z2 : az_T} (hZ2 : az_ok X 2 Z2) : az_ok X 2 (BX0_markAway_2 Q Z2) := by
  have h80 := az_vreturn C rfl dX0_markAway_80
  have h18 := az_istore_n C 3 rfl (by decide) dX0_markAway_18 (az_keep [true, true, true, true] (okLX0_markAway_19 C hZ2))
  have h17 := az_iconst (x := (nI 0)) C dX0_markAway_17 (by decide +kernel) h18
  have h16 := az_iast C dX0_markAway_16 h17
  have h15 := az_iconst (x := (nI 0)) C dX0_markAway_15 (by decide +kernel) h16
  have h14 := az_iload_n C 2 rfl dX0_markAway_14 h15
  have h11 := az_getR (T := TX0) (N := 3) (j := 2) C gwRX0 rfl (by decide) (by decide) iIRX0_2 mFRX0_18 rfl dX0_markAway_11 h14
  have h10 := az_aload_n C 0 rfl dX0_markAway_10 h11
  have h7 := az_icmp_ge (tgt := 80) C dX0_markAway_7 (by decide) h80 h10
  have h4 := az_getI (T := TX8) (N := 11) (j := 0) C gwRX8 rfl (by decide) (by decide) iIRX8_0 mFRX0_48 rfl dX0_markAway_4 h7
  have h3 := az_aload_n C 1 rfl dX0_markAway_3 h4
  have h2 := az_iload_n C 2 rfl dX0_markAway_2 h3
  exact h2
def LX0_markAway_2 (Q : Option Value → az_M → Prop) : az_T := s_lp (fun Z => BX0_markAway_2 Q Z)
theorem okLX0_markAway_2 {X : az_X} {Q : Option Value → az_M → Prop} (C : az_C X cX0_markAway 4 RX0 (az_ts yX0_markAway cX0_markAway 4 none) ({ frames := 1, cells := 0, slots := 0, locals := 100 } : Room) none Q) : az_ok X 2 (LX0_markAway_2 Q) := az_loop (F := fun Z => BX0_markAway_2 Q Z) (fun _ hZ => okBX0_markAway_2 C hZ)
def PX0_markAway (Q : Option Value → az_M → Prop) : az_T := (s_ic (nI 0) (s_si 2 (s_kp [true, true, true, false] (LX0_markAway_2 Q))))
def FX0_markAway : az_F := az_fun [true, true] 4 PX0_markAway
theorem okX0_markAway (l : Launch) : az_met l yX0_markAway cX0_markAway 4 none ({ frames := 1, cells := 0, slots := 0, locals := 100 } : Room) FX0_markAway := az_met_of (own := RX0) (by decide +kernel) rfl (by decide) (fun X Q C => by
  have h1 := az_istore_n C 2 rfl (by decide) dX0_markAway_1 (az_keep [true, true, true, false] (okLX0_markAway_2 C))
  have h0 := az_iconst (x := (nI 0)) C dX0_markAway_0 (by decide +kernel) h1
  exact h0) l
theorem dX0_schedule_0 : decode cX0_schedule 0 = .ok (.iconst 0, 1) := by decide +kernel
theorem dX0_schedule_1 : decode cX0_schedule 1 = .ok (.istore_n 2, 1) := by decide +kernel
theorem dX0_schedule_2 : decode cX0_schedule 2 = .ok (.iload_n 2, 1) := by decide +kernel
theorem dX0_schedule_3 : decode cX0_schedule 3 = .ok (.aload_n 1, 1) := by decide +kernel
theorem dX0_schedule_4 : decode cX0_schedule 4 = .ok (.getfield 21, 3) := by decide +kernel
theorem dX0_schedule_7 : decode cX0_schedule 7 = .ok (.if_icmp .ge 16, 3) := by decide +kernel
theorem dX0_schedule_10 : decode cX0_schedule 10 = .ok (.aload_n 0, 1) := by decide +kernel
theorem dX0_schedule_11 : decode cX0_schedule 11 = .ok (.getfield 9, 3) := by decide +kernel
theorem dX0_schedule_14 : decode cX0_schedule 14 = .ok (.iload_n 2, 1) := by decide +kernel
theorem dX0_schedule_15 : decode cX0_schedule 15 = .ok (.iconst (-1), 1) := by decide +kernel
theorem dX0_schedule_16 : decode cX0_schedule 16 = .ok (.iastore, 1) := by decide +kernel
theorem dX0_schedule_17 : decode cX0_schedule 17 = .ok (.iinc 2 1, 3) := by decide +kernel
theorem dX0_schedule_20 : decode cX0_schedule 20 = .ok (.goto (-18), 3) := by decide +kernel
theorem dX0_schedule_23 : decode cX0_schedule 23 = .ok (.iconst 0, 1) := by decide +kernel
theorem dX0_schedule_24 : decode cX0_schedule 24 = .ok (.istore_n 2, 1) := by decide +kernel
theorem dX0_schedule_25 : decode cX0_schedule 25 = .ok (.iconst 0, 1) := by decide +kernel
theorem dX0_schedule_26 : decode cX0_schedule 26 = .ok (.istore_n 3, 1) := by decide +kernel
theorem dX0_schedule_27 : decode cX0_schedule 27 = .ok (.iload_n 3, 1) := by decide +kernel
theorem dX0_schedule_28 : decode cX0_schedule 28 = .ok (.sipush 168, 3) := by decide +kernel
theorem dX0_schedule_31 : decode cX0_schedule 31 = .ok (.if_icmp .ge 61, 3) := by decide +kernel
theorem dX0_schedule_34 : decode cX0_schedule 34 = .ok (.iload_n 3, 1) := by decide +kernel
theorem dX0_schedule_35 : decode cX0_schedule 35 = .ok (.iload_n 2, 1) := by decide +kernel
theorem dX0_schedule_36 : decode cX0_schedule 36 = .ok (.if_icmp .ge 7, 3) := by decide +kernel
theorem dX0_schedule_39 : decode cX0_schedule 39 = .ok (.iconst (-1), 1) := by decide +kernel
theorem dX0_schedule_40 : decode cX0_schedule 40 = .ok (.goto 9, 3) := by decide +kernel
theorem dX0_schedule_43 : decode cX0_schedule 43 = .ok (.aload_n 0, 1) := by decide +kernel
theorem dX0_schedule_44 : decode cX0_schedule 44 = .ok (.aload_n 1, 1) := by decide +kernel
theorem dX0_schedule_45 : decode cX0_schedule 45 = .ok (.iload_n 3, 1) := by decide +kernel
theorem dX0_schedule_46 : decode cX0_schedule 46 = .ok (.invokevirtual 27, 3) := by decide +kernel
theorem dX0_schedule_49 : decode cX0_schedule 49 = .ok (.istore 4, 2) := by decide +kernel
theorem dX0_schedule_51 : decode cX0_schedule 51 = .ok (.iload 4, 2) := by decide +kernel
theorem dX0_schedule_53 : decode cX0_schedule 53 = .ok (.ifCond .lt 33, 3) := by decide +kernel
theorem dX0_schedule_56 : decode cX0_schedule 56 = .ok (.iload_n 3, 1) := by decide +kernel
theorem dX0_schedule_57 : decode cX0_schedule 57 = .ok (.aload_n 1, 1) := by decide +kernel
theorem dX0_schedule_58 : decode cX0_schedule 58 = .ok (.getfield 31, 3) := by decide +kernel
theorem dX0_schedule_61 : decode cX0_schedule 61 = .ok (.iload 4, 2) := by decide +kernel
theorem dX0_schedule_63 : decode cX0_schedule 63 = .ok (.aaload, 1) := by decide +kernel
theorem dX0_schedule_64 : decode cX0_schedule 64 = .ok (.iconst 2, 1) := by decide +kernel
theorem dX0_schedule_65 : decode cX0_schedule 65 = .ok (.iaload, 1) := by decide +kernel
theorem dX0_schedule_66 : decode cX0_schedule 66 = .ok (.iadd, 1) := by decide +kernel
theorem dX0_schedule_67 : decode cX0_schedule 67 = .ok (.istore_n 2, 1) := by decide +kernel
theorem dX0_schedule_68 : decode cX0_schedule 68 = .ok (.aload_n 0, 1) := by decide +kernel
theorem dX0_schedule_69 : decode cX0_schedule 69 = .ok (.getfield 9, 3) := by decide +kernel
theorem dX0_schedule_72 : decode cX0_schedule 72 = .ok (.iload 4, 2) := by decide +kernel
theorem dX0_schedule_74 : decode cX0_schedule 74 = .ok (.iload_n 3, 1) := by decide +kernel
theorem dX0_schedule_75 : decode cX0_schedule 75 = .ok (.iastore, 1) := by decide +kernel
theorem dX0_schedule_76 : decode cX0_schedule 76 = .ok (.aload_n 0, 1) := by decide +kernel
theorem dX0_schedule_77 : decode cX0_schedule 77 = .ok (.getfield 15, 3) := by decide +kernel
theorem dX0_schedule_80 : decode cX0_schedule 80 = .ok (.iload 4, 2) := by decide +kernel
theorem dX0_schedule_82 : decode cX0_schedule 82 = .ok (.iload_n 2, 1) := by decide +kernel
theorem dX0_schedule_83 : decode cX0_schedule 83 = .ok (.iconst 1, 1) := by decide +kernel
theorem dX0_schedule_84 : decode cX0_schedule 84 = .ok (.isub, 1) := by decide +kernel
theorem dX0_schedule_85 : decode cX0_schedule 85 = .ok (.iastore, 1) := by decide +kernel
theorem dX0_schedule_86 : decode cX0_schedule 86 = .ok (.iinc 3 1, 3) := by decide +kernel
theorem dX0_schedule_89 : decode cX0_schedule 89 = .ok (.goto (-62), 3) := by decide +kernel
theorem dX0_schedule_92 : decode cX0_schedule 92 = .ok (.aload_n 0, 1) := by decide +kernel
theorem dX0_schedule_93 : decode cX0_schedule 93 = .ok (.aload_n 1, 1) := by decide +kernel
theorem dX0_schedule_94 : decode cX0_schedule 94 = .ok (.invokevirtual 35, 3) := by decide +kernel
theorem dX0_schedule_97 : decode cX0_schedule 97 = .ok (.return_, 1) := by decide +kernel
def LX0_schedule_86 (Q : Option Value → az_M → Prop) (Z27 : az_T) : az_T := (s_inc 3 (nI 1) (s_kp [true, true, true, true, false] Z27))
theorem okLX0_schedule_86 {X : az_X} {Q : Option Value → az_M → Prop} (C : az_C X cX0_schedule 5 RX0 (az_ts yX0_schedule cX0_schedule 5 none) ({ frames := 3, cells := 0, slots := 0, locals := 147 } : Room) none Q) {Z27 : az_T} (hZ27 : az_ok X 27 Z27) : az_ok X 86 (LX0_schedule_86 Q Z27) := by
  have h89 := az_goto (tgt := 27) C dX0_schedule_89 (by decide) (az_keep [true, true, true, true, false] hZ27)
  have h86 := az_iinc (v := (nI 1)) C (by decide) (by decide +kernel) dX0_schedule_86 h89
  exact h86
def LX0_schedule_49 (Q : Option Value → az_M → Prop) (Z27 : az_T) : az_T := (s_si 4 (s_li 4 (s_if c_lt (s_kp [true, true, true, true, false] (LX0_schedule_86 Q Z27)) (s_li 3 (s_la 1 (s_gr 9 6 (s_li 4 (s_aa 25 (s_ic (nI 2) (s_al 20 (s_bin f_add (s_si 2 (s_la 0 (s_gr 2 0 (s_li 4 (s_li 3 (s_as (s_la 0 (s_gr 2 1 (s_li 4 (s_li 2 (s_ic (nI 1) (s_bin f_sub (s_as (s_kp [true, true, true, true, false] (LX0_schedule_86 Q Z27))))))))))))))))))))))))))
theorem okLX0_schedule_49 {X : az_X} {Q : Option Value → az_M → Prop} (C : az_C X cX0_schedule 5 RX0 (az_ts yX0_schedule cX0_schedule 5 none) ({ frames := 3, cells := 0, slots := 0, locals := 147 } : Room) none Q) {Z27 : az_T} (hZ27 : az_ok X 27 Z27) : az_ok X 49 (LX0_schedule_49 Q Z27) := by
  have h85 := az_iast C dX0_schedule_85 (az_keep [true, true, true, true, false] (okLX0_schedule_86 C hZ27))
  have h84 := az_isub C dX0_schedule_84 h85
  have h83 := az_iconst (x := (nI 1)) C dX0_schedule_83 (by decide +kernel) h84
  have h82 := az_iload_n C 2 rfl dX0_schedule_82 h83
  have h80 := az_iload C dX0_schedule_80 h82
  have h77 := az_getR (T := TX0) (N := 3) (j := 1) C gwRX0 rfl (by decide) (by decide) iIRX0_1 mFRX0_15 rfl dX0_schedule_77 h80
  have h76 := az_aload_n C 0 rfl dX0_schedule_76 h77
  have h75 := az_iast C dX0_schedule_75 h76
  have h74 := az_iload_n C 3 rfl dX0_schedule_74 h75
  have h72 := az_iload C dX0_schedule_72 h74
  have h69 := az_getR (T := TX0) (N := 3) (j := 0) C gwRX0 rfl (by decide) (by decide) iIRX0_0 mFRX0_9 rfl dX0_schedule_69 h72
  have h68 := az_aload_n C 0 rfl dX0_schedule_68 h69
  have h67 := az_istore_n C 2 rfl (by decide) dX0_schedule_67 h68
  have h66 := az_iadd C dX0_schedule_66 h67
  have h65 := az_iald C dX0_schedule_65 h66
  have h64 := az_iconst (x := (nI 2)) C dX0_schedule_64 (by decide +kernel) h65
  have h63 := az_aald2 C dX0_schedule_63 h64
  have h61 := az_iload C dX0_schedule_61 h63
  have h58 := az_getR (T := TX8) (N := 11) (j := 6) C gwRX8 rfl (by decide) (by decide) iIRX8_6 mFRX0_31 rfl dX0_schedule_58 h61
  have h57 := az_aload_n C 1 rfl dX0_schedule_57 h58
  have h56 := az_iload_n C 3 rfl dX0_schedule_56 h57
  have h53 := az_if_lt (tgt := 86) C dX0_schedule_53 (by decide) (az_keep [true, true, true, true, false] (okLX0_schedule_86 C hZ27)) h56
  have h51 := az_iload C dX0_schedule_51 h53
  have h49 := az_istore C (by decide) dX0_schedule_49 h51
  exact h49
def BX0_schedule_27 (Q : Option Value → az_M → Prop) (Z27 : az_T) : az_T := (s_li 3 (s_ic (nI 168) (s_if2 d_ge (s_la 0 (s_la 1 (s_cv 1 2 FX0_markAway (s_rv Q)))) (s_li 3 (s_li 2 (s_if2 d_ge (s_la 0 (s_la 1 (s_li 3 (s_cv 2 2 FX0_nextOne (s_kp [true, true, true, true, false] (LX0_schedule_49 Q Z27)))))) (s_ic (-1) (s_kp [true, true, true, true, false] (LX0_schedule_49 Q Z27)))))))))
theorem okBX0_schedule_27 {X : az_X} {Q : Option Value → az_M → Prop} (C : az_C X cX0_schedule 5 RX0 (az_ts yX0_schedule cX0_schedule 5 none) ({ frames := 3, cells := 0, slots := 0, locals := 147 } : Room) none Q) {Z27 : az_T} (hZ27 : az_ok X 27 Z27) : az_ok X 27 (BX0_schedule_27 Q Z27) := by
  have h97 := az_vreturn C rfl dX0_schedule_97
  have h94 := az_callV (ci := 2) C okX0_markAway knX0_markAway imX0_markAway seX0_markAway mLRX0_35 rfl (by decide) ⟨rfl, rfl, by decide, by decide⟩ dX0_schedule_94 h97
  have h93 := az_aload_n C 1 rfl dX0_schedule_93 h94
  have h92 := az_aload_n C 0 rfl dX0_schedule_92 h93
  have h46 := az_callV (ci := 2) C okX0_nextOne knX0_nextOne imX0_nextOne seX0_nextOne mLRX0_27 rfl (by decide) ⟨rfl, rfl, by decide, by decide⟩ dX0_schedule_46 (az_keep [true, true, true, true, false] (okLX0_schedule_49 C hZ27))
  have h45 := az_iload_n C 3 rfl dX0_schedule_45 h46
  have h44 := az_aload_n C 1 rfl dX0_schedule_44 h45
  have h43 := az_aload_n C 0 rfl dX0_schedule_43 h44
  have h40 := az_goto (tgt := 49) C dX0_schedule_40 (by decide) (az_keep [true, true, true, true, false] (okLX0_schedule_49 C hZ27))
  have h39 := az_iconst (x := (-1)) C dX0_schedule_39 (by decide +kernel) h40
  have h36 := az_icmp_ge (tgt := 43) C dX0_schedule_36 (by decide) h43 h39
  have h35 := az_iload_n C 2 rfl dX0_schedule_35 h36
  have h34 := az_iload_n C 3 rfl dX0_schedule_34 h35
  have h31 := az_icmp_ge (tgt := 92) C dX0_schedule_31 (by decide) h92 h34
  have h28 := az_sipush (x := (nI 168)) C dX0_schedule_28 (by decide +kernel) h31
  have h27 := az_iload_n C 3 rfl dX0_schedule_27 h28
  exact h27
def LX0_schedule_27 (Q : Option Value → az_M → Prop) : az_T := s_lp (fun Z => BX0_schedule_27 Q Z)
theorem okLX0_schedule_27 {X : az_X} {Q : Option Value → az_M → Prop} (C : az_C X cX0_schedule 5 RX0 (az_ts yX0_schedule cX0_schedule 5 none) ({ frames := 3, cells := 0, slots := 0, locals := 147 } : Room) none Q) : az_ok X 27 (LX0_schedule_27 Q) := az_loop (F := fun Z => BX0_schedule_27 Q Z) (fun _ hZ => okBX0_schedule_27 C hZ)
def BX0_schedule_2 (Q : Option Value → az_M → Prop) (Z2 : az_T) : az_T := (s_li 2 (s_la 1 (s_gi 9 4 (s_if2 d_ge (s_ic (nI 0) (s_si 2 (s_ic (nI 0) (s_si 3 (s_kp [true, true, true, true, false] (LX0_schedule_27 Q)))))) (s_la 0 (s_gr 2 0 (s_li 2 (s_ic (-1) (s_as (s_inc 2 (nI 1) (s_kp [true, true, true, false, false] Z2)))))))))))
theorem okBX0_schedule_2 {X : az_X} {Q : Option Value → az_M → Prop} (C : az_C X cX0_schedule 5 RX0 (az_ts yX0_schedule cX0_schedule 5 none) ({ frames := 3, cells := 0, slots := 0, locals := 147 } : Room) none Q) {Z2 : az_T} (hZ2 : az_ok X 2 Z2) : az_ok X 2 (BX0_schedule_2 Q Z2) := by
  have h26 := az_istore_n C 3 rfl (by decide) dX0_schedule_26 (az_keep [true, true, true, true, false] (okLX0_schedule_27 C))
  have h25 := az_iconst (x := (nI 0)) C dX0_schedule_25 (by decide +kernel) h26
  have h24 := az_istore_n C 2 rfl (by decide) dX0_schedule_24 h25
  have h23 := az_iconst (x := (nI 0)) C dX0_schedule_23 (by decide +kernel) h24
  have h20 := az_goto (tgt := 2) C dX0_schedule_20 (by decide) (az_keep [true, true, true, false, false] hZ2)
  have h17 := az_iinc (v := (nI 1)) C (by decide) (by decide +kernel) dX0_schedule_17 h20
  have h16 := az_iast C dX0_schedule_16 h17
  have h15 := az_iconst (x := (-1)) C dX0_schedule_15 (by decide +kernel) h16
  have h14 := az_iload_n C 2 rfl dX0_schedule_14 h15
  have h11 := az_getR (T := TX0) (N := 3) (j := 0) C gwRX0 rfl (by decide) (by decide) iIRX0_0 mFRX0_9 rfl dX0_schedule_11 h14
  have h10 := az_aload_n C 0 rfl dX0_schedule_10 h11
  have h7 := az_icmp_ge (tgt := 23) C dX0_schedule_7 (by decide) h23 h10
  have h4 := az_getI (T := TX8) (N := 11) (j := 4) C gwRX8 rfl (by decide) (by decide) iIRX8_4 mFRX0_21 rfl dX0_schedule_4 h7
  have h3 := az_aload_n C 1 rfl dX0_schedule_3 h4
  have h2 := az_iload_n C 2 rfl dX0_schedule_2 h3
  exact h2
def LX0_schedule_2 (Q : Option Value → az_M → Prop) : az_T := s_lp (fun Z => BX0_schedule_2 Q Z)
theorem okLX0_schedule_2 {X : az_X} {Q : Option Value → az_M → Prop} (C : az_C X cX0_schedule 5 RX0 (az_ts yX0_schedule cX0_schedule 5 none) ({ frames := 3, cells := 0, slots := 0, locals := 147 } : Room) none Q) : az_ok X 2 (LX0_schedule_2 Q) := az_loop (F := fun Z => BX0_schedule_2 Q Z) (fun _ hZ => okBX0_schedule_2 C hZ)
def PX0_schedule (Q : Option Value → az_M → Prop) : az_T := (s_ic (nI 0) (s_si 2 (s_kp [true, true, true, false, false] (LX0_schedule_2 Q))))
def FX0_schedule : az_F := az_fun [true, true] 5 PX0_schedule
theorem okX0_schedule (l : Launch) : az_met l yX0_schedule cX0_schedule 5 none ({ frames := 3, cells := 0, slots := 0, locals := 147 } : Room) FX0_schedule := az_met_of (own := RX0) (by decide +kernel) rfl (by decide) (fun X Q C => by
  have h1 := az_istore_n C 2 rfl (by decide) dX0_schedule_1 (az_keep [true, true, true, false, false] (okLX0_schedule_2 C))
  have h0 := az_iconst (x := (nI 0)) C dX0_schedule_0 (by decide +kernel) h1
  exact h0) l
theorem dX1_open_0 : decode cX1_open 0 = .ok (.iconst 0, 1) := by decide +kernel
theorem dX1_open_1 : decode cX1_open 1 = .ok (.istore_n 3, 1) := by decide +kernel
theorem dX1_open_2 : decode cX1_open 2 = .ok (.iload_n 3, 1) := by decide +kernel
theorem dX1_open_3 : decode cX1_open 3 = .ok (.aload_n 1, 1) := by decide +kernel
theorem dX1_open_4 : decode cX1_open 4 = .ok (.getfield 22, 3) := by decide +kernel
theorem dX1_open_7 : decode cX1_open 7 = .ok (.if_icmp .ge 34, 3) := by decide +kernel
theorem dX1_open_10 : decode cX1_open 10 = .ok (.aload_n 0, 1) := by decide +kernel
theorem dX1_open_11 : decode cX1_open 11 = .ok (.getfield 11, 3) := by decide +kernel
theorem dX1_open_14 : decode cX1_open 14 = .ok (.iload_n 3, 1) := by decide +kernel
theorem dX1_open_15 : decode cX1_open 15 = .ok (.aaload, 1) := by decide +kernel
theorem dX1_open_16 : decode cX1_open 16 = .ok (.iload_n 2, 1) := by decide +kernel
theorem dX1_open_17 : decode cX1_open 17 = .ok (.aload_n 1, 1) := by decide +kernel
theorem dX1_open_18 : decode cX1_open 18 = .ok (.getfield 28, 3) := by decide +kernel
theorem dX1_open_21 : decode cX1_open 21 = .ok (.iload_n 3, 1) := by decide +kernel
theorem dX1_open_22 : decode cX1_open 22 = .ok (.aaload, 1) := by decide +kernel
theorem dX1_open_23 : decode cX1_open 23 = .ok (.iload_n 2, 1) := by decide +kernel
theorem dX1_open_24 : decode cX1_open 24 = .ok (.iaload, 1) := by decide +kernel
theorem dX1_open_25 : decode cX1_open 25 = .ok (.iastore, 1) := by decide +kernel
theorem dX1_open_26 : decode cX1_open 26 = .ok (.aload_n 0, 1) := by decide +kernel
theorem dX1_open_27 : decode cX1_open 27 = .ok (.getfield 16, 3) := by decide +kernel
theorem dX1_open_30 : decode cX1_open 30 = .ok (.iload_n 3, 1) := by decide +kernel
theorem dX1_open_31 : decode cX1_open 31 = .ok (.aaload, 1) := by decide +kernel
theorem dX1_open_32 : decode cX1_open 32 = .ok (.iload_n 2, 1) := by decide +kernel
theorem dX1_open_33 : decode cX1_open 33 = .ok (.iconst 0, 1) := by decide +kernel
theorem dX1_open_34 : decode cX1_open 34 = .ok (.iastore, 1) := by decide +kernel
theorem dX1_open_35 : decode cX1_open 35 = .ok (.iinc 3 1, 3) := by decide +kernel
theorem dX1_open_38 : decode cX1_open 38 = .ok (.goto (-36), 3) := by decide +kernel
theorem dX1_open_41 : decode cX1_open 41 = .ok (.iconst 0, 1) := by decide +kernel
theorem dX1_open_42 : decode cX1_open 42 = .ok (.istore_n 3, 1) := by decide +kernel
theorem dX1_open_43 : decode cX1_open 43 = .ok (.iload_n 3, 1) := by decide +kernel
theorem dX1_open_44 : decode cX1_open 44 = .ok (.bipush 24, 2) := by decide +kernel
theorem dX1_open_46 : decode cX1_open 46 = .ok (.if_icmp .ge 18, 3) := by decide +kernel
theorem dX1_open_49 : decode cX1_open 49 = .ok (.aload_n 0, 1) := by decide +kernel
theorem dX1_open_50 : decode cX1_open 50 = .ok (.getfield 19, 3) := by decide +kernel
theorem dX1_open_53 : decode cX1_open 53 = .ok (.iload_n 2, 1) := by decide +kernel
theorem dX1_open_54 : decode cX1_open 54 = .ok (.aaload, 1) := by decide +kernel
theorem dX1_open_55 : decode cX1_open 55 = .ok (.iload_n 3, 1) := by decide +kernel
theorem dX1_open_56 : decode cX1_open 56 = .ok (.iconst 0, 1) := by decide +kernel
theorem dX1_open_57 : decode cX1_open 57 = .ok (.iastore, 1) := by decide +kernel
theorem dX1_open_58 : decode cX1_open 58 = .ok (.iinc 3 1, 3) := by decide +kernel
theorem dX1_open_61 : decode cX1_open 61 = .ok (.goto (-18), 3) := by decide +kernel
theorem dX1_open_64 : decode cX1_open 64 = .ok (.return_, 1) := by decide +kernel
def BX1_open_43 (Q : Option Value → az_M → Prop) (Z43 : az_T) : az_T := (s_li 3 (s_ic (nI 24) (s_if2 d_ge (s_rv Q) (s_la 0 (s_gr 3 2 (s_li 2 (s_aa 25 (s_li 3 (s_ic (nI 0) (s_as (s_inc 3 (nI 1) (s_kp [true, false, true, true] Z43))))))))))))
theorem okBX1_open_43 {X : az_X} {Q : Option Value → az_M → Prop} (C : az_C X cX1_open 4 RX1 (az_ts yX1_open cX1_open 4 none) ({ frames := 1, cells := 0, slots := 0, locals := 100 } : Room) none Q) {Z43 : az_T} (hZ43 : az_ok X 43 Z43) : az_ok X 43 (BX1_open_43 Q Z43) := by
  have h64 := az_vreturn C rfl dX1_open_64
  have h61 := az_goto (tgt := 43) C dX1_open_61 (by decide) (az_keep [true, false, true, true] hZ43)
  have h58 := az_iinc (v := (nI 1)) C (by decide) (by decide +kernel) dX1_open_58 h61
  have h57 := az_iast C dX1_open_57 h58
  have h56 := az_iconst (x := (nI 0)) C dX1_open_56 (by decide +kernel) h57
  have h55 := az_iload_n C 3 rfl dX1_open_55 h56
  have h54 := az_aald2 C dX1_open_54 h55
  have h53 := az_iload_n C 2 rfl dX1_open_53 h54
  have h50 := az_getR (T := TX1) (N := 3) (j := 2) C gwRX1 rfl (by decide) (by decide) iIRX1_2 mFRX1_19 rfl dX1_open_50 h53
  have h49 := az_aload_n C 0 rfl dX1_open_49 h50
  have h46 := az_icmp_ge (tgt := 64) C dX1_open_46 (by decide) h64 h49
  have h44 := az_bipush (x := (nI 24)) C dX1_open_44 (by decide +kernel) h46
  have h43 := az_iload_n C 3 rfl dX1_open_43 h44
  exact h43
def LX1_open_43 (Q : Option Value → az_M → Prop) : az_T := s_lp (fun Z => BX1_open_43 Q Z)
theorem okLX1_open_43 {X : az_X} {Q : Option Value → az_M → Prop} (C : az_C X cX1_open 4 RX1 (az_ts yX1_open cX1_open 4 none) ({ frames := 1, cells := 0, slots := 0, locals := 100 } : Room) none Q) : az_ok X 43 (LX1_open_43 Q) := az_loop (F := fun Z => BX1_open_43 Q Z) (fun _ hZ => okBX1_open_43 C hZ)
def BX1_open_2 (Q : Option Value → az_M → Prop) (Z2 : az_T) : az_T := (s_li 3 (s_la 1 (s_gi 9 1 (s_if2 d_ge (s_ic (nI 0) (s_si 3 (s_kp [true, false, true, true] (LX1_open_43 Q)))) (s_la 0 (s_gr 3 0 (s_li 3 (s_aa 25 (s_li 2 (s_la 1 (s_gr 9 7 (s_li 3 (s_aa 25 (s_li 2 (s_al 20 (s_as (s_la 0 (s_gr 3 1 (s_li 3 (s_aa 25 (s_li 2 (s_ic (nI 0) (s_as (s_inc 3 (nI 1) (s_kp [true, true, true, true] Z2)))))))))))))))))))))))))
theorem okBX1_open_2 {X : az_X} {Q : Option Value → az_M → Prop} (C : az_C X cX1_open 4 RX1 (az_ts yX1_open cX1_open 4 none) ({ frames := 1, cells := 0, slots := 0, locals := 100 } : Room) none Q) {Z2 : az_T} (hZ2 : az_ok X 2 Z2) : az_ok X 2 (BX1_open_2 Q Z2) := by
  have h42 := az_istore_n C 3 rfl (by decide) dX1_open_42 (az_keep [true, false, true, true] (okLX1_open_43 C))
  have h41 := az_iconst (x := (nI 0)) C dX1_open_41 (by decide +kernel) h42
  have h38 := az_goto (tgt := 2) C dX1_open_38 (by decide) (az_keep [true, true, true, true] hZ2)
  have h35 := az_iinc (v := (nI 1)) C (by decide) (by decide +kernel) dX1_open_35 h38
  have h34 := az_iast C dX1_open_34 h35
  have h33 := az_iconst (x := (nI 0)) C dX1_open_33 (by decide +kernel) h34
  have h32 := az_iload_n C 2 rfl dX1_open_32 h33
  have h31 := az_aald2 C dX1_open_31 h32
  have h30 := az_iload_n C 3 rfl dX1_open_30 h31
  have h27 := az_getR (T := TX1) (N := 3) (j := 1) C gwRX1 rfl (by decide) (by decide) iIRX1_1 mFRX1_16 rfl dX1_open_27 h30
  have h26 := az_aload_n C 0 rfl dX1_open_26 h27
  have h25 := az_iast C dX1_open_25 h26
  have h24 := az_iald C dX1_open_24 h25
  have h23 := az_iload_n C 2 rfl dX1_open_23 h24
  have h22 := az_aald2 C dX1_open_22 h23
  have h21 := az_iload_n C 3 rfl dX1_open_21 h22
  have h18 := az_getR (T := TX8) (N := 11) (j := 7) C gwRX8 rfl (by decide) (by decide) iIRX8_7 mFRX1_28 rfl dX1_open_18 h21
  have h17 := az_aload_n C 1 rfl dX1_open_17 h18
  have h16 := az_iload_n C 2 rfl dX1_open_16 h17
  have h15 := az_aald2 C dX1_open_15 h16
  have h14 := az_iload_n C 3 rfl dX1_open_14 h15
  have h11 := az_getR (T := TX1) (N := 3) (j := 0) C gwRX1 rfl (by decide) (by decide) iIRX1_0 mFRX1_11 rfl dX1_open_11 h14
  have h10 := az_aload_n C 0 rfl dX1_open_10 h11
  have h7 := az_icmp_ge (tgt := 41) C dX1_open_7 (by decide) h41 h10
  have h4 := az_getI (T := TX8) (N := 11) (j := 1) C gwRX8 rfl (by decide) (by decide) iIRX8_1 mFRX1_22 rfl dX1_open_4 h7
  have h3 := az_aload_n C 1 rfl dX1_open_3 h4
  have h2 := az_iload_n C 3 rfl dX1_open_2 h3
  exact h2
def LX1_open_2 (Q : Option Value → az_M → Prop) : az_T := s_lp (fun Z => BX1_open_2 Q Z)
theorem okLX1_open_2 {X : az_X} {Q : Option Value → az_M → Prop} (C : az_C X cX1_open 4 RX1 (az_ts yX1_open cX1_open 4 none) ({ frames := 1, cells := 0, slots := 0, locals := 100 } : Room) none Q) : az_ok X 2 (LX1_open_2 Q) := az_loop (F := fun Z => BX1_open_2 Q Z) (fun _ hZ => okBX1_open_2 C hZ)
def PX1_open (Q : Option Value → az_M → Prop) : az_T := (s_ic (nI 0) (s_si 3 (s_kp [true, true, true, true] (LX1_open_2 Q))))
def FX1_open : az_F := az_fun [true, true, false] 4 PX1_open
theorem okX1_open (l : Launch) : az_met l yX1_open cX1_open 4 none ({ frames := 1, cells := 0, slots := 0, locals := 100 } : Room) FX1_open := az_met_of (own := RX1) (by decide +kernel) rfl (by decide) (fun X Q C => by
  have h1 := az_istore_n C 3 rfl (by decide) dX1_open_1 (az_keep [true, true, true, true] (okLX1_open_2 C))
  have h0 := az_iconst (x := (nI 0)) C dX1_open_0 (by decide +kernel) h1
  exact h0) l
theorem dX1_passable_0 : decode cX1_passable 0 = .ok (.iload 5, 2) := by decide +kernel
theorem dX1_passable_2 : decode cX1_passable 2 = .ok (.istore 6, 2) := by decide +kernel
theorem dX1_passable_4 : decode cX1_passable 4 = .ok (.iload_n 3, 1) := by decide +kernel
theorem dX1_passable_5 : decode cX1_passable 5 = .ok (.istore 7, 2) := by decide +kernel
theorem dX1_passable_7 : decode cX1_passable 7 = .ok (.iload 4, 2) := by decide +kernel
theorem dX1_passable_9 : decode cX1_passable 9 = .ok (.istore 8, 2) := by decide +kernel
theorem dX1_passable_11 : decode cX1_passable 11 = .ok (.iconst 0, 1) := by decide +kernel
theorem dX1_passable_12 : decode cX1_passable 12 = .ok (.istore 9, 2) := by decide +kernel
theorem dX1_passable_14 : decode cX1_passable 14 = .ok (.iload 9, 2) := by decide +kernel
theorem dX1_passable_16 : decode cX1_passable 16 = .ok (.bipush 8, 2) := by decide +kernel
theorem dX1_passable_18 : decode cX1_passable 18 = .ok (.if_icmp .ge 106, 3) := by decide +kernel
theorem dX1_passable_21 : decode cX1_passable 21 = .ok (.iload 7, 2) := by decide +kernel
theorem dX1_passable_23 : decode cX1_passable 23 = .ok (.iload 8, 2) := by decide +kernel
theorem dX1_passable_25 : decode cX1_passable 25 = .ok (.if_icmp .eq 99, 3) := by decide +kernel
theorem dX1_passable_28 : decode cX1_passable 28 = .ok (.iload 7, 2) := by decide +kernel
theorem dX1_passable_30 : decode cX1_passable 30 = .ok (.iload 8, 2) := by decide +kernel
theorem dX1_passable_32 : decode cX1_passable 32 = .ok (.if_icmp .le 23, 3) := by decide +kernel
theorem dX1_passable_35 : decode cX1_passable 35 = .ok (.aload_n 1, 1) := by decide +kernel
theorem dX1_passable_36 : decode cX1_passable 36 = .ok (.getfield 51, 3) := by decide +kernel
theorem dX1_passable_39 : decode cX1_passable 39 = .ok (.iload 7, 2) := by decide +kernel
theorem dX1_passable_41 : decode cX1_passable 41 = .ok (.iaload, 1) := by decide +kernel
theorem dX1_passable_42 : decode cX1_passable 42 = .ok (.aload_n 0, 1) := by decide +kernel
theorem dX1_passable_43 : decode cX1_passable 43 = .ok (.getfield 16, 3) := by decide +kernel
theorem dX1_passable_46 : decode cX1_passable 46 = .ok (.iload 7, 2) := by decide +kernel
theorem dX1_passable_48 : decode cX1_passable 48 = .ok (.aaload, 1) := by decide +kernel
theorem dX1_passable_49 : decode cX1_passable 49 = .ok (.iload_n 2, 1) := by decide +kernel
theorem dX1_passable_50 : decode cX1_passable 50 = .ok (.iaload, 1) := by decide +kernel
theorem dX1_passable_51 : decode cX1_passable 51 = .ok (.isub, 1) := by decide +kernel
theorem dX1_passable_52 : decode cX1_passable 52 = .ok (.goto 20, 3) := by decide +kernel
theorem dX1_passable_55 : decode cX1_passable 55 = .ok (.aload_n 1, 1) := by decide +kernel
theorem dX1_passable_56 : decode cX1_passable 56 = .ok (.getfield 51, 3) := by decide +kernel
theorem dX1_passable_59 : decode cX1_passable 59 = .ok (.iload 8, 2) := by decide +kernel
theorem dX1_passable_61 : decode cX1_passable 61 = .ok (.iaload, 1) := by decide +kernel
theorem dX1_passable_62 : decode cX1_passable 62 = .ok (.aload_n 0, 1) := by decide +kernel
theorem dX1_passable_63 : decode cX1_passable 63 = .ok (.getfield 16, 3) := by decide +kernel
theorem dX1_passable_66 : decode cX1_passable 66 = .ok (.iload 8, 2) := by decide +kernel
theorem dX1_passable_68 : decode cX1_passable 68 = .ok (.aaload, 1) := by decide +kernel
theorem dX1_passable_69 : decode cX1_passable 69 = .ok (.iload_n 2, 1) := by decide +kernel
theorem dX1_passable_70 : decode cX1_passable 70 = .ok (.iaload, 1) := by decide +kernel
theorem dX1_passable_71 : decode cX1_passable 71 = .ok (.iadd, 1) := by decide +kernel
theorem dX1_passable_72 : decode cX1_passable 72 = .ok (.istore 10, 2) := by decide +kernel
theorem dX1_passable_74 : decode cX1_passable 74 = .ok (.iload 10, 2) := by decide +kernel
theorem dX1_passable_76 : decode cX1_passable 76 = .ok (.iload 6, 2) := by decide +kernel
theorem dX1_passable_78 : decode cX1_passable 78 = .ok (.if_icmp .ge 8, 3) := by decide +kernel
theorem dX1_passable_81 : decode cX1_passable 81 = .ok (.iload 10, 2) := by decide +kernel
theorem dX1_passable_83 : decode cX1_passable 83 = .ok (.goto 5, 3) := by decide +kernel
theorem dX1_passable_86 : decode cX1_passable 86 = .ok (.iload 6, 2) := by decide +kernel
theorem dX1_passable_88 : decode cX1_passable 88 = .ok (.istore 6, 2) := by decide +kernel
theorem dX1_passable_90 : decode cX1_passable 90 = .ok (.iload 7, 2) := by decide +kernel
theorem dX1_passable_92 : decode cX1_passable 92 = .ok (.iload 8, 2) := by decide +kernel
theorem dX1_passable_94 : decode cX1_passable 94 = .ok (.if_icmp .le 15, 3) := by decide +kernel
theorem dX1_passable_97 : decode cX1_passable 97 = .ok (.aload_n 1, 1) := by decide +kernel
theorem dX1_passable_98 : decode cX1_passable 98 = .ok (.getfield 55, 3) := by decide +kernel
theorem dX1_passable_101 : decode cX1_passable 101 = .ok (.iload 7, 2) := by decide +kernel
theorem dX1_passable_103 : decode cX1_passable 103 = .ok (.iaload, 1) := by decide +kernel
theorem dX1_passable_104 : decode cX1_passable 104 = .ok (.istore 7, 2) := by decide +kernel
theorem dX1_passable_106 : decode cX1_passable 106 = .ok (.goto 12, 3) := by decide +kernel
theorem dX1_passable_109 : decode cX1_passable 109 = .ok (.aload_n 1, 1) := by decide +kernel
theorem dX1_passable_110 : decode cX1_passable 110 = .ok (.getfield 55, 3) := by decide +kernel
theorem dX1_passable_113 : decode cX1_passable 113 = .ok (.iload 8, 2) := by decide +kernel
theorem dX1_passable_115 : decode cX1_passable 115 = .ok (.iaload, 1) := by decide +kernel
theorem dX1_passable_116 : decode cX1_passable 116 = .ok (.istore 8, 2) := by decide +kernel
theorem dX1_passable_118 : decode cX1_passable 118 = .ok (.iinc 9 1, 3) := by decide +kernel
theorem dX1_passable_121 : decode cX1_passable 121 = .ok (.goto (-107), 3) := by decide +kernel
theorem dX1_passable_124 : decode cX1_passable 124 = .ok (.iload 6, 2) := by decide +kernel
theorem dX1_passable_126 : decode cX1_passable 126 = .ok (.ireturn, 1) := by decide +kernel
def LX1_passable_124 (Q : Option Value → az_M → Prop) : az_T := (s_li 6 (s_ri Q))
theorem okLX1_passable_124 {X : az_X} {Q : Option Value → az_M → Prop} (C : az_C X cX1_passable 11 RX1 (az_ts yX1_passable cX1_passable 11 (some .int)) ({ frames := 1, cells := 0, slots := 0, locals := 100 } : Room) (some .int) Q) : az_ok X 124 (LX1_passable_124 Q) := by
  have h126 := az_ireturn C rfl dX1_passable_126
  have h124 := az_iload C dX1_passable_124 h126
  exact h124
def LX1_passable_118 (Q : Option Value → az_M → Prop) (Z14 : az_T) : az_T := (s_inc 9 (nI 1) (s_kp [true, true, true, false, false, false, true, true, true, true, false] Z14))
theorem okLX1_passable_118 {X : az_X} {Q : Option Value → az_M → Prop} (C : az_C X cX1_passable 11 RX1 (az_ts yX1_passable cX1_passable 11 (some .int)) ({ frames := 1, cells := 0, slots := 0, locals := 100 } : Room) (some .int) Q) {Z14 : az_T} (hZ14 : az_ok X 14 Z14) : az_ok X 118 (LX1_passable_118 Q Z14) := by
  have h121 := az_goto (tgt := 14) C dX1_passable_121 (by decide) (az_keep [true, true, true, false, false, false, true, true, true, true, false] hZ14)
  have h118 := az_iinc (v := (nI 1)) C (by decide) (by decide +kernel) dX1_passable_118 h121
  exact h118
def LX1_passable_88 (Q : Option Value → az_M → Prop) (Z14 : az_T) : az_T := (s_si 6 (s_li 7 (s_li 8 (s_if2 d_le (s_la 1 (s_gr 9 9 (s_li 8 (s_al 20 (s_si 8 (s_kp [true, true, true, false, false, false, true, true, true, true, false] (LX1_passable_118 Q Z14))))))) (s_la 1 (s_gr 9 9 (s_li 7 (s_al 20 (s_si 7 (s_kp [true, true, true, false, false, false, true, true, true, true, false] (LX1_passable_118 Q Z14)))))))))))
theorem okLX1_passable_88 {X : az_X} {Q : Option Value → az_M → Prop} (C : az_C X cX1_passable 11 RX1 (az_ts yX1_passable cX1_passable 11 (some .int)) ({ frames := 1, cells := 0, slots := 0, locals := 100 } : Room) (some .int) Q) {Z14 : az_T} (hZ14 : az_ok X 14 Z14) : az_ok X 88 (LX1_passable_88 Q Z14) := by
  have h116 := az_istore C (by decide) dX1_passable_116 (az_keep [true, true, true, false, false, false, true, true, true, true, false] (okLX1_passable_118 C hZ14))
  have h115 := az_iald C dX1_passable_115 h116
  have h113 := az_iload C dX1_passable_113 h115
  have h110 := az_getR (T := TX8) (N := 11) (j := 9) C gwRX8 rfl (by decide) (by decide) iIRX8_9 mFRX1_55 rfl dX1_passable_110 h113
  have h109 := az_aload_n C 1 rfl dX1_passable_109 h110
  have h106 := az_goto (tgt := 118) C dX1_passable_106 (by decide) (az_keep [true, true, true, false, false, false, true, true, true, true, false] (okLX1_passable_118 C hZ14))
  have h104 := az_istore C (by decide) dX1_passable_104 h106
  have h103 := az_iald C dX1_passable_103 h104
  have h101 := az_iload C dX1_passable_101 h103
  have h98 := az_getR (T := TX8) (N := 11) (j := 9) C gwRX8 rfl (by decide) (by decide) iIRX8_9 mFRX1_55 rfl dX1_passable_98 h101
  have h97 := az_aload_n C 1 rfl dX1_passable_97 h98
  have h94 := az_icmp_le (tgt := 109) C dX1_passable_94 (by decide) h109 h97
  have h92 := az_iload C dX1_passable_92 h94
  have h90 := az_iload C dX1_passable_90 h92
  have h88 := az_istore C (by decide) dX1_passable_88 h90
  exact h88
def LX1_passable_72 (Q : Option Value → az_M → Prop) (Z14 : az_T) : az_T := (s_si 10 (s_li 10 (s_li 6 (s_if2 d_ge (s_li 6 (s_kp [true, true, true, false, false, false, false, true, true, true, false] (LX1_passable_88 Q Z14))) (s_li 10 (s_kp [true, true, true, false, false, false, false, true, true, true, false] (LX1_passable_88 Q Z14)))))))
theorem okLX1_passable_72 {X : az_X} {Q : Option Value → az_M → Prop} (C : az_C X cX1_passable 11 RX1 (az_ts yX1_passable cX1_passable 11 (some .int)) ({ frames := 1, cells := 0, slots := 0, locals := 100 } : Room) (some .int) Q) {Z14 : az_T} (hZ14 : az_ok X 14 Z14) : az_ok X 72 (LX1_passable_72 Q Z14) := by
  have h86 := az_iload C dX1_passable_86 (az_keep [true, true, true, false, false, false, false, true, true, true, false] (okLX1_passable_88 C hZ14))
  have h83 := az_goto (tgt := 88) C dX1_passable_83 (by decide) (az_keep [true, true, true, false, false, false, false, true, true, true, false] (okLX1_passable_88 C hZ14))
  have h81 := az_iload C dX1_passable_81 h83
  have h78 := az_icmp_ge (tgt := 86) C dX1_passable_78 (by decide) h86 h81
  have h76 := az_iload C dX1_passable_76 h78
  have h74 := az_iload C dX1_passable_74 h76
  have h72 := az_istore C (by decide) dX1_passable_72 h74
  exact h72
def BX1_passable_14 (Q : Option Value → az_M → Prop) (Z14 : az_T) : az_T := (s_li 9 (s_ic (nI 8) (s_if2 d_ge (s_kp [false, false, false, false, false, false, true, false, false, false, false] (LX1_passable_124 Q)) (s_li 7 (s_li 8 (s_if2 d_eq (s_kp [false, false, false, false, false, false, true, false, false, false, false] (LX1_passable_124 Q)) (s_li 7 (s_li 8 (s_if2 d_le (s_la 1 (s_gr 9 10 (s_li 8 (s_al 20 (s_la 0 (s_gr 3 1 (s_li 8 (s_aa 25 (s_li 2 (s_al 20 (s_bin f_add (s_kp [true, true, true, false, false, false, true, true, true, true, false] (LX1_passable_72 Q Z14))))))))))))) (s_la 1 (s_gr 9 10 (s_li 7 (s_al 20 (s_la 0 (s_gr 3 1 (s_li 7 (s_aa 25 (s_li 2 (s_al 20 (s_bin f_sub (s_kp [true, true, true, false, false, false, true, true, true, true, false] (LX1_passable_72 Q Z14))))))))))))))))))))))
theorem okBX1_passable_14 {X : az_X} {Q : Option Value → az_M → Prop} (C : az_C X cX1_passable 11 RX1 (az_ts yX1_passable cX1_passable 11 (some .int)) ({ frames := 1, cells := 0, slots := 0, locals := 100 } : Room) (some .int) Q) {Z14 : az_T} (hZ14 : az_ok X 14 Z14) : az_ok X 14 (BX1_passable_14 Q Z14) := by
  have h71 := az_iadd C dX1_passable_71 (az_keep [true, true, true, false, false, false, true, true, true, true, false] (okLX1_passable_72 C hZ14))
  have h70 := az_iald C dX1_passable_70 h71
  have h69 := az_iload_n C 2 rfl dX1_passable_69 h70
  have h68 := az_aald2 C dX1_passable_68 h69
  have h66 := az_iload C dX1_passable_66 h68
  have h63 := az_getR (T := TX1) (N := 3) (j := 1) C gwRX1 rfl (by decide) (by decide) iIRX1_1 mFRX1_16 rfl dX1_passable_63 h66
  have h62 := az_aload_n C 0 rfl dX1_passable_62 h63
  have h61 := az_iald C dX1_passable_61 h62
  have h59 := az_iload C dX1_passable_59 h61
  have h56 := az_getR (T := TX8) (N := 11) (j := 10) C gwRX8 rfl (by decide) (by decide) iIRX8_10 mFRX1_51 rfl dX1_passable_56 h59
  have h55 := az_aload_n C 1 rfl dX1_passable_55 h56
  have h52 := az_goto (tgt := 72) C dX1_passable_52 (by decide) (az_keep [true, true, true, false, false, false, true, true, true, true, false] (okLX1_passable_72 C hZ14))
  have h51 := az_isub C dX1_passable_51 h52
  have h50 := az_iald C dX1_passable_50 h51
  have h49 := az_iload_n C 2 rfl dX1_passable_49 h50
  have h48 := az_aald2 C dX1_passable_48 h49
  have h46 := az_iload C dX1_passable_46 h48
  have h43 := az_getR (T := TX1) (N := 3) (j := 1) C gwRX1 rfl (by decide) (by decide) iIRX1_1 mFRX1_16 rfl dX1_passable_43 h46
  have h42 := az_aload_n C 0 rfl dX1_passable_42 h43
  have h41 := az_iald C dX1_passable_41 h42
  have h39 := az_iload C dX1_passable_39 h41
  have h36 := az_getR (T := TX8) (N := 11) (j := 10) C gwRX8 rfl (by decide) (by decide) iIRX8_10 mFRX1_51 rfl dX1_passable_36 h39
  have h35 := az_aload_n C 1 rfl dX1_passable_35 h36
  have h32 := az_icmp_le (tgt := 55) C dX1_passable_32 (by decide) h55 h35
  have h30 := az_iload C dX1_passable_30 h32
  have h28 := az_iload C dX1_passable_28 h30
  have h25 := az_icmp_eq (tgt := 124) C dX1_passable_25 (by decide) (az_keep [false, false, false, false, false, false, true, false, false, false, false] (okLX1_passable_124 C)) h28
  have h23 := az_iload C dX1_passable_23 h25
  have h21 := az_iload C dX1_passable_21 h23
  have h18 := az_icmp_ge (tgt := 124) C dX1_passable_18 (by decide) (az_keep [false, false, false, false, false, false, true, false, false, false, false] (okLX1_passable_124 C)) h21
  have h16 := az_bipush (x := (nI 8)) C dX1_passable_16 (by decide +kernel) h18
  have h14 := az_iload C dX1_passable_14 h16
  exact h14
def LX1_passable_14 (Q : Option Value → az_M → Prop) : az_T := s_lp (fun Z => BX1_passable_14 Q Z)
theorem okLX1_passable_14 {X : az_X} {Q : Option Value → az_M → Prop} (C : az_C X cX1_passable 11 RX1 (az_ts yX1_passable cX1_passable 11 (some .int)) ({ frames := 1, cells := 0, slots := 0, locals := 100 } : Room) (some .int) Q) : az_ok X 14 (LX1_passable_14 Q) := az_loop (F := fun Z => BX1_passable_14 Q Z) (fun _ hZ => okBX1_passable_14 C hZ)
def PX1_passable (Q : Option Value → az_M → Prop) : az_T := (s_li 5 (s_si 6 (s_li 3 (s_si 7 (s_li 4 (s_si 8 (s_ic (nI 0) (s_si 9 (s_kp [true, true, true, false, false, false, true, true, true, true, false] (LX1_passable_14 Q))))))))))
def FX1_passable : az_F := az_fun [true, true, false, false, false, false] 11 PX1_passable
theorem okX1_passable (l : Launch) : az_met l yX1_passable cX1_passable 11 (some .int) ({ frames := 1, cells := 0, slots := 0, locals := 100 } : Room) FX1_passable := az_met_of (own := RX1) (by decide +kernel) rfl (by decide) (fun X Q C => by
  have h12 := az_istore C (by decide) dX1_passable_12 (az_keep [true, true, true, false, false, false, true, true, true, true, false] (okLX1_passable_14 C))
  have h11 := az_iconst (x := (nI 0)) C dX1_passable_11 (by decide +kernel) h12
  have h9 := az_istore C (by decide) dX1_passable_9 h11
  have h7 := az_iload C dX1_passable_7 h9
  have h5 := az_istore C (by decide) dX1_passable_5 h7
  have h4 := az_iload_n C 3 rfl dX1_passable_4 h5
  have h2 := az_istore C (by decide) dX1_passable_2 h4
  have h0 := az_iload C dX1_passable_0 h2
  exact h0) l
theorem dX1_carry_0 : decode cX1_carry 0 = .ok (.iload_n 3, 1) := by decide +kernel
theorem dX1_carry_1 : decode cX1_carry 1 = .ok (.istore 6, 2) := by decide +kernel
theorem dX1_carry_3 : decode cX1_carry 3 = .ok (.iload 4, 2) := by decide +kernel
theorem dX1_carry_5 : decode cX1_carry 5 = .ok (.istore 7, 2) := by decide +kernel
theorem dX1_carry_7 : decode cX1_carry 7 = .ok (.iconst 0, 1) := by decide +kernel
theorem dX1_carry_8 : decode cX1_carry 8 = .ok (.istore 8, 2) := by decide +kernel
theorem dX1_carry_10 : decode cX1_carry 10 = .ok (.iload 8, 2) := by decide +kernel
theorem dX1_carry_12 : decode cX1_carry 12 = .ok (.bipush 8, 2) := by decide +kernel
theorem dX1_carry_14 : decode cX1_carry 14 = .ok (.if_icmp .ge 72, 3) := by decide +kernel
theorem dX1_carry_17 : decode cX1_carry 17 = .ok (.iload 6, 2) := by decide +kernel
theorem dX1_carry_19 : decode cX1_carry 19 = .ok (.iload 7, 2) := by decide +kernel
theorem dX1_carry_21 : decode cX1_carry 21 = .ok (.if_icmp .eq 65, 3) := by decide +kernel
theorem dX1_carry_24 : decode cX1_carry 24 = .ok (.iload 6, 2) := by decide +kernel
theorem dX1_carry_26 : decode cX1_carry 26 = .ok (.iload 7, 2) := by decide +kernel
theorem dX1_carry_28 : decode cX1_carry 28 = .ok (.if_icmp .le 29, 3) := by decide +kernel
theorem dX1_carry_31 : decode cX1_carry 31 = .ok (.aload_n 0, 1) := by decide +kernel
theorem dX1_carry_32 : decode cX1_carry 32 = .ok (.getfield 16, 3) := by decide +kernel
theorem dX1_carry_35 : decode cX1_carry 35 = .ok (.iload 6, 2) := by decide +kernel
theorem dX1_carry_37 : decode cX1_carry 37 = .ok (.aaload, 1) := by decide +kernel
theorem dX1_carry_38 : decode cX1_carry 38 = .ok (.iload_n 2, 1) := by decide +kernel
theorem dX1_carry_39 : decode cX1_carry 39 = .ok (.dup2, 1) := by decide +kernel
theorem dX1_carry_40 : decode cX1_carry 40 = .ok (.iaload, 1) := by decide +kernel
theorem dX1_carry_41 : decode cX1_carry 41 = .ok (.iload 5, 2) := by decide +kernel
theorem dX1_carry_43 : decode cX1_carry 43 = .ok (.iadd, 1) := by decide +kernel
theorem dX1_carry_44 : decode cX1_carry 44 = .ok (.iastore, 1) := by decide +kernel
theorem dX1_carry_45 : decode cX1_carry 45 = .ok (.aload_n 1, 1) := by decide +kernel
theorem dX1_carry_46 : decode cX1_carry 46 = .ok (.getfield 55, 3) := by decide +kernel
theorem dX1_carry_49 : decode cX1_carry 49 = .ok (.iload 6, 2) := by decide +kernel
theorem dX1_carry_51 : decode cX1_carry 51 = .ok (.iaload, 1) := by decide +kernel
theorem dX1_carry_52 : decode cX1_carry 52 = .ok (.istore 6, 2) := by decide +kernel
theorem dX1_carry_54 : decode cX1_carry 54 = .ok (.goto 26, 3) := by decide +kernel
theorem dX1_carry_57 : decode cX1_carry 57 = .ok (.aload_n 0, 1) := by decide +kernel
theorem dX1_carry_58 : decode cX1_carry 58 = .ok (.getfield 16, 3) := by decide +kernel
theorem dX1_carry_61 : decode cX1_carry 61 = .ok (.iload 7, 2) := by decide +kernel
theorem dX1_carry_63 : decode cX1_carry 63 = .ok (.aaload, 1) := by decide +kernel
theorem dX1_carry_64 : decode cX1_carry 64 = .ok (.iload_n 2, 1) := by decide +kernel
theorem dX1_carry_65 : decode cX1_carry 65 = .ok (.dup2, 1) := by decide +kernel
theorem dX1_carry_66 : decode cX1_carry 66 = .ok (.iaload, 1) := by decide +kernel
theorem dX1_carry_67 : decode cX1_carry 67 = .ok (.iload 5, 2) := by decide +kernel
theorem dX1_carry_69 : decode cX1_carry 69 = .ok (.isub, 1) := by decide +kernel
theorem dX1_carry_70 : decode cX1_carry 70 = .ok (.iastore, 1) := by decide +kernel
theorem dX1_carry_71 : decode cX1_carry 71 = .ok (.aload_n 1, 1) := by decide +kernel
theorem dX1_carry_72 : decode cX1_carry 72 = .ok (.getfield 55, 3) := by decide +kernel
theorem dX1_carry_75 : decode cX1_carry 75 = .ok (.iload 7, 2) := by decide +kernel
theorem dX1_carry_77 : decode cX1_carry 77 = .ok (.iaload, 1) := by decide +kernel
theorem dX1_carry_78 : decode cX1_carry 78 = .ok (.istore 7, 2) := by decide +kernel
theorem dX1_carry_80 : decode cX1_carry 80 = .ok (.iinc 8 1, 3) := by decide +kernel
theorem dX1_carry_83 : decode cX1_carry 83 = .ok (.goto (-73), 3) := by decide +kernel
theorem dX1_carry_86 : decode cX1_carry 86 = .ok (.return_, 1) := by decide +kernel
def LX1_carry_86 (Q : Option Value → az_M → Prop) : az_T := (s_rv Q)
theorem okLX1_carry_86 {X : az_X} {Q : Option Value → az_M → Prop} (C : az_C X cX1_carry 9 RX1 (az_ts yX1_carry cX1_carry 9 none) ({ frames := 1, cells := 0, slots := 0, locals := 100 } : Room) none Q) : az_ok X 86 (LX1_carry_86 Q) := by
  have h86 := az_vreturn C rfl dX1_carry_86
  exact h86
def LX1_carry_80 (Q : Option Value → az_M → Prop) (Z10 : az_T) : az_T := (s_inc 8 (nI 1) (s_kp [true, true, true, false, false, true, true, true, true] Z10))
theorem okLX1_carry_80 {X : az_X} {Q : Option Value → az_M → Prop} (C : az_C X cX1_carry 9 RX1 (az_ts yX1_carry cX1_carry 9 none) ({ frames := 1, cells := 0, slots := 0, locals := 100 } : Room) none Q) {Z10 : az_T} (hZ10 : az_ok X 10 Z10) : az_ok X 80 (LX1_carry_80 Q Z10) := by
  have h83 := az_goto (tgt := 10) C dX1_carry_83 (by decide) (az_keep [true, true, true, false, false, true, true, true, true] hZ10)
  have h80 := az_iinc (v := (nI 1)) C (by decide) (by decide +kernel) dX1_carry_80 h83
  exact h80
def BX1_carry_10 (Q : Option Value → az_M → Prop) (Z10 : az_T) : az_T := (s_li 8 (s_ic (nI 8) (s_if2 d_ge (s_kp [false, false, false, false, false, false, false, false, false] (LX1_carry_86 Q)) (s_li 6 (s_li 7 (s_if2 d_eq (s_kp [false, false, false, false, false, false, false, false, false] (LX1_carry_86 Q)) (s_li 6 (s_li 7 (s_if2 d_le (s_la 0 (s_gr 3 1 (s_li 7 (s_aa 25 (s_li 2 (s_dup2 (s_al 20 (s_li 5 (s_bin f_sub (s_as (s_la 1 (s_gr 9 9 (s_li 7 (s_al 20 (s_si 7 (s_kp [true, true, true, false, false, true, true, true, true] (LX1_carry_80 Q Z10))))))))))))))))) (s_la 0 (s_gr 3 1 (s_li 6 (s_aa 25 (s_li 2 (s_dup2 (s_al 20 (s_li 5 (s_bin f_add (s_as (s_la 1 (s_gr 9 9 (s_li 6 (s_al 20 (s_si 6 (s_kp [true, true, true, false, false, true, true, true, true] (LX1_carry_80 Q Z10))))))))))))))))))))))))))
theorem okBX1_carry_10 {X : az_X} {Q : Option Value → az_M → Prop} (C : az_C X cX1_carry 9 RX1 (az_ts yX1_carry cX1_carry 9 none) ({ frames := 1, cells := 0, slots := 0, locals := 100 } : Room) none Q) {Z10 : az_T} (hZ10 : az_ok X 10 Z10) : az_ok X 10 (BX1_carry_10 Q Z10) := by
  have h78 := az_istore C (by decide) dX1_carry_78 (az_keep [true, true, true, false, false, true, true, true, true] (okLX1_carry_80 C hZ10))
  have h77 := az_iald C dX1_carry_77 h78
  have h75 := az_iload C dX1_carry_75 h77
  have h72 := az_getR (T := TX8) (N := 11) (j := 9) C gwRX8 rfl (by decide) (by decide) iIRX8_9 mFRX1_55 rfl dX1_carry_72 h75
  have h71 := az_aload_n C 1 rfl dX1_carry_71 h72
  have h70 := az_iast C dX1_carry_70 h71
  have h69 := az_isub C dX1_carry_69 h70
  have h67 := az_iload C dX1_carry_67 h69
  have h66 := az_iald C dX1_carry_66 h67
  have h65 := az_dup2 C dX1_carry_65 h66
  have h64 := az_iload_n C 2 rfl dX1_carry_64 h65
  have h63 := az_aald2 C dX1_carry_63 h64
  have h61 := az_iload C dX1_carry_61 h63
  have h58 := az_getR (T := TX1) (N := 3) (j := 1) C gwRX1 rfl (by decide) (by decide) iIRX1_1 mFRX1_16 rfl dX1_carry_58 h61
  have h57 := az_aload_n C 0 rfl dX1_carry_57 h58
  have h54 := az_goto (tgt := 80) C dX1_carry_54 (by decide) (az_keep [true, true, true, false, false, true, true, true, true] (okLX1_carry_80 C hZ10))
  have h52 := az_istore C (by decide) dX1_carry_52 h54
  have h51 := az_iald C dX1_carry_51 h52
  have h49 := az_iload C dX1_carry_49 h51
  have h46 := az_getR (T := TX8) (N := 11) (j := 9) C gwRX8 rfl (by decide) (by decide) iIRX8_9 mFRX1_55 rfl dX1_carry_46 h49
  have h45 := az_aload_n C 1 rfl dX1_carry_45 h46
  have h44 := az_iast C dX1_carry_44 h45
  have h43 := az_iadd C dX1_carry_43 h44
  have h41 := az_iload C dX1_carry_41 h43
  have h40 := az_iald C dX1_carry_40 h41
  have h39 := az_dup2 C dX1_carry_39 h40
  have h38 := az_iload_n C 2 rfl dX1_carry_38 h39
  have h37 := az_aald2 C dX1_carry_37 h38
  have h35 := az_iload C dX1_carry_35 h37
  have h32 := az_getR (T := TX1) (N := 3) (j := 1) C gwRX1 rfl (by decide) (by decide) iIRX1_1 mFRX1_16 rfl dX1_carry_32 h35
  have h31 := az_aload_n C 0 rfl dX1_carry_31 h32
  have h28 := az_icmp_le (tgt := 57) C dX1_carry_28 (by decide) h57 h31
  have h26 := az_iload C dX1_carry_26 h28
  have h24 := az_iload C dX1_carry_24 h26
  have h21 := az_icmp_eq (tgt := 86) C dX1_carry_21 (by decide) (az_keep [false, false, false, false, false, false, false, false, false] (okLX1_carry_86 C)) h24
  have h19 := az_iload C dX1_carry_19 h21
  have h17 := az_iload C dX1_carry_17 h19
  have h14 := az_icmp_ge (tgt := 86) C dX1_carry_14 (by decide) (az_keep [false, false, false, false, false, false, false, false, false] (okLX1_carry_86 C)) h17
  have h12 := az_bipush (x := (nI 8)) C dX1_carry_12 (by decide +kernel) h14
  have h10 := az_iload C dX1_carry_10 h12
  exact h10
def LX1_carry_10 (Q : Option Value → az_M → Prop) : az_T := s_lp (fun Z => BX1_carry_10 Q Z)
theorem okLX1_carry_10 {X : az_X} {Q : Option Value → az_M → Prop} (C : az_C X cX1_carry 9 RX1 (az_ts yX1_carry cX1_carry 9 none) ({ frames := 1, cells := 0, slots := 0, locals := 100 } : Room) none Q) : az_ok X 10 (LX1_carry_10 Q) := az_loop (F := fun Z => BX1_carry_10 Q Z) (fun _ hZ => okBX1_carry_10 C hZ)
def PX1_carry (Q : Option Value → az_M → Prop) : az_T := (s_li 3 (s_si 6 (s_li 4 (s_si 7 (s_ic (nI 0) (s_si 8 (s_kp [true, true, true, false, false, true, true, true, true] (LX1_carry_10 Q))))))))
def FX1_carry : az_F := az_fun [true, true, false, false, false, false] 9 PX1_carry
theorem okX1_carry (l : Launch) : az_met l yX1_carry cX1_carry 9 none ({ frames := 1, cells := 0, slots := 0, locals := 100 } : Room) FX1_carry := az_met_of (own := RX1) (by decide +kernel) rfl (by decide) (fun X Q C => by
  have h8 := az_istore C (by decide) dX1_carry_8 (az_keep [true, true, true, false, false, true, true, true, true] (okLX1_carry_10 C))
  have h7 := az_iconst (x := (nI 0)) C dX1_carry_7 (by decide +kernel) h8
  have h5 := az_istore C (by decide) dX1_carry_5 h7
  have h3 := az_iload C dX1_carry_3 h5
  have h1 := az_istore C (by decide) dX1_carry_1 h3
  have h0 := az_iload_n C 3 rfl dX1_carry_0 h1
  exact h0) l
theorem dX1_give_0 : decode cX1_give 0 = .ok (.aload_n 1, 1) := by decide +kernel
theorem dX1_give_1 : decode cX1_give 1 = .ok (.getfield 31, 3) := by decide +kernel
theorem dX1_give_4 : decode cX1_give 4 = .ok (.iload_n 3, 1) := by decide +kernel
theorem dX1_give_5 : decode cX1_give 5 = .ok (.aaload, 1) := by decide +kernel
theorem dX1_give_6 : decode cX1_give 6 = .ok (.bipush 8, 2) := by decide +kernel
theorem dX1_give_8 : decode cX1_give 8 = .ok (.iaload, 1) := by decide +kernel
theorem dX1_give_9 : decode cX1_give 9 = .ok (.istore 6, 2) := by decide +kernel
theorem dX1_give_11 : decode cX1_give 11 = .ok (.aload_n 0, 1) := by decide +kernel
theorem dX1_give_12 : decode cX1_give 12 = .ok (.aload_n 1, 1) := by decide +kernel
theorem dX1_give_13 : decode cX1_give 13 = .ok (.iload_n 2, 1) := by decide +kernel
theorem dX1_give_14 : decode cX1_give 14 = .ok (.iload 6, 2) := by decide +kernel
theorem dX1_give_16 : decode cX1_give 16 = .ok (.iload 4, 2) := by decide +kernel
theorem dX1_give_18 : decode cX1_give 18 = .ok (.iload 5, 2) := by decide +kernel
theorem dX1_give_20 : decode cX1_give 20 = .ok (.aload_n 0, 1) := by decide +kernel
theorem dX1_give_21 : decode cX1_give 21 = .ok (.getfield 11, 3) := by decide +kernel
theorem dX1_give_24 : decode cX1_give 24 = .ok (.iload 4, 2) := by decide +kernel
theorem dX1_give_26 : decode cX1_give 26 = .ok (.aaload, 1) := by decide +kernel
theorem dX1_give_27 : decode cX1_give 27 = .ok (.iload_n 2, 1) := by decide +kernel
theorem dX1_give_28 : decode cX1_give 28 = .ok (.iaload, 1) := by decide +kernel
theorem dX1_give_29 : decode cX1_give 29 = .ok (.invokestatic 38, 3) := by decide +kernel
theorem dX1_give_32 : decode cX1_give 32 = .ok (.invokevirtual 44, 3) := by decide +kernel
theorem dX1_give_35 : decode cX1_give 35 = .ok (.istore 7, 2) := by decide +kernel
theorem dX1_give_37 : decode cX1_give 37 = .ok (.aload_n 0, 1) := by decide +kernel
theorem dX1_give_38 : decode cX1_give 38 = .ok (.aload_n 1, 1) := by decide +kernel
theorem dX1_give_39 : decode cX1_give 39 = .ok (.iload_n 2, 1) := by decide +kernel
theorem dX1_give_40 : decode cX1_give 40 = .ok (.iload 6, 2) := by decide +kernel
theorem dX1_give_42 : decode cX1_give 42 = .ok (.iload 4, 2) := by decide +kernel
theorem dX1_give_44 : decode cX1_give 44 = .ok (.iload 7, 2) := by decide +kernel
theorem dX1_give_46 : decode cX1_give 46 = .ok (.invokevirtual 47, 3) := by decide +kernel
theorem dX1_give_49 : decode cX1_give 49 = .ok (.aload_n 0, 1) := by decide +kernel
theorem dX1_give_50 : decode cX1_give 50 = .ok (.getfield 11, 3) := by decide +kernel
theorem dX1_give_53 : decode cX1_give 53 = .ok (.iload 4, 2) := by decide +kernel
theorem dX1_give_55 : decode cX1_give 55 = .ok (.aaload, 1) := by decide +kernel
theorem dX1_give_56 : decode cX1_give 56 = .ok (.iload_n 2, 1) := by decide +kernel
theorem dX1_give_57 : decode cX1_give 57 = .ok (.dup2, 1) := by decide +kernel
theorem dX1_give_58 : decode cX1_give 58 = .ok (.iaload, 1) := by decide +kernel
theorem dX1_give_59 : decode cX1_give 59 = .ok (.iload 7, 2) := by decide +kernel
theorem dX1_give_61 : decode cX1_give 61 = .ok (.isub, 1) := by decide +kernel
theorem dX1_give_62 : decode cX1_give 62 = .ok (.iastore, 1) := by decide +kernel
theorem dX1_give_63 : decode cX1_give 63 = .ok (.aload_n 0, 1) := by decide +kernel
theorem dX1_give_64 : decode cX1_give 64 = .ok (.getfield 19, 3) := by decide +kernel
theorem dX1_give_67 : decode cX1_give 67 = .ok (.iload_n 2, 1) := by decide +kernel
theorem dX1_give_68 : decode cX1_give 68 = .ok (.aaload, 1) := by decide +kernel
theorem dX1_give_69 : decode cX1_give 69 = .ok (.iload_n 3, 1) := by decide +kernel
theorem dX1_give_70 : decode cX1_give 70 = .ok (.iconst 4, 1) := by decide +kernel
theorem dX1_give_71 : decode cX1_give 71 = .ok (.imul, 1) := by decide +kernel
theorem dX1_give_72 : decode cX1_give 72 = .ok (.iload 4, 2) := by decide +kernel
theorem dX1_give_74 : decode cX1_give 74 = .ok (.iadd, 1) := by decide +kernel
theorem dX1_give_75 : decode cX1_give 75 = .ok (.dup2, 1) := by decide +kernel
theorem dX1_give_76 : decode cX1_give 76 = .ok (.iaload, 1) := by decide +kernel
theorem dX1_give_77 : decode cX1_give 77 = .ok (.iload 7, 2) := by decide +kernel
theorem dX1_give_79 : decode cX1_give 79 = .ok (.iadd, 1) := by decide +kernel
theorem dX1_give_80 : decode cX1_give 80 = .ok (.iastore, 1) := by decide +kernel
theorem dX1_give_81 : decode cX1_give 81 = .ok (.iload 7, 2) := by decide +kernel
theorem dX1_give_83 : decode cX1_give 83 = .ok (.ireturn, 1) := by decide +kernel
def PX1_give (Q : Option Value → az_M → Prop) : az_T := (s_la 1 (s_gr 9 5 (s_li 3 (s_aa 25 (s_ic (nI 8) (s_al 20 (s_si 6 (s_la 0 (s_la 1 (s_li 2 (s_li 6 (s_li 4 (s_li 5 (s_la 0 (s_gr 3 0 (s_li 4 (s_aa 25 (s_li 2 (s_al 20 (s_mn (s_cv 5 3 FX1_passable (s_si 7 (s_la 0 (s_la 1 (s_li 2 (s_li 6 (s_li 4 (s_li 7 (s_cv 5 3 FX1_carry (s_la 0 (s_gr 3 0 (s_li 4 (s_aa 25 (s_li 2 (s_dup2 (s_al 20 (s_li 7 (s_bin f_sub (s_as (s_la 0 (s_gr 3 2 (s_li 2 (s_aa 25 (s_li 3 (s_ic (nI 4) (s_bin f_mul (s_li 4 (s_bin f_add (s_dup2 (s_al 20 (s_li 7 (s_bin f_add (s_as (s_li 7 (s_ri Q)))))))))))))))))))))))))))))))))))))))))))))))))))))))
def FX1_give : az_F := az_fun [true, true, false, false, false, false] 8 PX1_give
theorem okX1_give (l : Launch) : az_met l yX1_give cX1_give 8 (some .int) ({ frames := 2, cells := 0, slots := 0, locals := 130 } : Room) FX1_give := az_met_of (own := RX1) (by decide +kernel) rfl (by decide) (fun X Q C => by
  have h83 := az_ireturn C rfl dX1_give_83
  have h81 := az_iload C dX1_give_81 h83
  have h80 := az_iast C dX1_give_80 h81
  have h79 := az_iadd C dX1_give_79 h80
  have h77 := az_iload C dX1_give_77 h79
  have h76 := az_iald C dX1_give_76 h77
  have h75 := az_dup2 C dX1_give_75 h76
  have h74 := az_iadd C dX1_give_74 h75
  have h72 := az_iload C dX1_give_72 h74
  have h71 := az_imul C dX1_give_71 h72
  have h70 := az_iconst (x := (nI 4)) C dX1_give_70 (by decide +kernel) h71
  have h69 := az_iload_n C 3 rfl dX1_give_69 h70
  have h68 := az_aald2 C dX1_give_68 h69
  have h67 := az_iload_n C 2 rfl dX1_give_67 h68
  have h64 := az_getR (T := TX1) (N := 3) (j := 2) C gwRX1 rfl (by decide) (by decide) iIRX1_2 mFRX1_19 rfl dX1_give_64 h67
  have h63 := az_aload_n C 0 rfl dX1_give_63 h64
  have h62 := az_iast C dX1_give_62 h63
  have h61 := az_isub C dX1_give_61 h62
  have h59 := az_iload C dX1_give_59 h61
  have h58 := az_iald C dX1_give_58 h59
  have h57 := az_dup2 C dX1_give_57 h58
  have h56 := az_iload_n C 2 rfl dX1_give_56 h57
  have h55 := az_aald2 C dX1_give_55 h56
  have h53 := az_iload C dX1_give_53 h55
  have h50 := az_getR (T := TX1) (N := 3) (j := 0) C gwRX1 rfl (by decide) (by decide) iIRX1_0 mFRX1_11 rfl dX1_give_50 h53
  have h49 := az_aload_n C 0 rfl dX1_give_49 h50
  have h46 := az_callV (ci := 3) C okX1_carry knX1_carry imX1_carry seX1_carry mLRX1_47 rfl (by decide) ⟨rfl, rfl, by decide, by decide⟩ dX1_give_46 h49
  have h44 := az_iload C dX1_give_44 h46
  have h42 := az_iload C dX1_give_42 h44
  have h40 := az_iload C dX1_give_40 h42
  have h39 := az_iload_n C 2 rfl dX1_give_39 h40
  have h38 := az_aload_n C 1 rfl dX1_give_38 h39
  have h37 := az_aload_n C 0 rfl dX1_give_37 h38
  have h35 := az_istore C (by decide) dX1_give_35 h37
  have h32 := az_callV (ci := 3) C okX1_passable knX1_passable imX1_passable seX1_passable mLRX1_44 rfl (by decide) ⟨rfl, rfl, by decide, by decide⟩ dX1_give_32 h35
  have h29 := az_mmin C mLRX1_38 mx_st_min mx_ini mx_co_min (by decide) (by decide) dX1_give_29 h32
  have h28 := az_iald C dX1_give_28 h29
  have h27 := az_iload_n C 2 rfl dX1_give_27 h28
  have h26 := az_aald2 C dX1_give_26 h27
  have h24 := az_iload C dX1_give_24 h26
  have h21 := az_getR (T := TX1) (N := 3) (j := 0) C gwRX1 rfl (by decide) (by decide) iIRX1_0 mFRX1_11 rfl dX1_give_21 h24
  have h20 := az_aload_n C 0 rfl dX1_give_20 h21
  have h18 := az_iload C dX1_give_18 h20
  have h16 := az_iload C dX1_give_16 h18
  have h14 := az_iload C dX1_give_14 h16
  have h13 := az_iload_n C 2 rfl dX1_give_13 h14
  have h12 := az_aload_n C 1 rfl dX1_give_12 h13
  have h11 := az_aload_n C 0 rfl dX1_give_11 h12
  have h9 := az_istore C (by decide) dX1_give_9 h11
  have h8 := az_iald C dX1_give_8 h9
  have h6 := az_bipush (x := (nI 8)) C dX1_give_6 (by decide +kernel) h8
  have h5 := az_aald2 C dX1_give_5 h6
  have h4 := az_iload_n C 3 rfl dX1_give_4 h5
  have h1 := az_getR (T := TX8) (N := 11) (j := 5) C gwRX8 rfl (by decide) (by decide) iIRX8_5 mFRX1_31 rfl dX1_give_1 h4
  have h0 := az_aload_n C 1 rfl dX1_give_0 h1
  exact h0) l
theorem dX1_deliver_0 : decode cX1_deliver 0 = .ok (.aload_n 1, 1) := by decide +kernel
theorem dX1_deliver_1 : decode cX1_deliver 1 = .ok (.getfield 31, 3) := by decide +kernel
theorem dX1_deliver_4 : decode cX1_deliver 4 = .ok (.iload_n 3, 1) := by decide +kernel
theorem dX1_deliver_5 : decode cX1_deliver 5 = .ok (.aaload, 1) := by decide +kernel
theorem dX1_deliver_6 : decode cX1_deliver 6 = .ok (.bipush 8, 2) := by decide +kernel
theorem dX1_deliver_8 : decode cX1_deliver 8 = .ok (.iaload, 1) := by decide +kernel
theorem dX1_deliver_9 : decode cX1_deliver 9 = .ok (.istore 5, 2) := by decide +kernel
theorem dX1_deliver_11 : decode cX1_deliver 11 = .ok (.iload 4, 2) := by decide +kernel
theorem dX1_deliver_13 : decode cX1_deliver 13 = .ok (.aload_n 0, 1) := by decide +kernel
theorem dX1_deliver_14 : decode cX1_deliver 14 = .ok (.aload_n 1, 1) := by decide +kernel
theorem dX1_deliver_15 : decode cX1_deliver 15 = .ok (.iload_n 2, 1) := by decide +kernel
theorem dX1_deliver_16 : decode cX1_deliver 16 = .ok (.iload_n 3, 1) := by decide +kernel
theorem dX1_deliver_17 : decode cX1_deliver 17 = .ok (.iload 5, 2) := by decide +kernel
theorem dX1_deliver_19 : decode cX1_deliver 19 = .ok (.iload 4, 2) := by decide +kernel
theorem dX1_deliver_21 : decode cX1_deliver 21 = .ok (.invokevirtual 34, 3) := by decide +kernel
theorem dX1_deliver_24 : decode cX1_deliver 24 = .ok (.isub, 1) := by decide +kernel
theorem dX1_deliver_25 : decode cX1_deliver 25 = .ok (.istore 6, 2) := by decide +kernel
theorem dX1_deliver_27 : decode cX1_deliver 27 = .ok (.iconst 0, 1) := by decide +kernel
theorem dX1_deliver_28 : decode cX1_deliver 28 = .ok (.istore 7, 2) := by decide +kernel
theorem dX1_deliver_30 : decode cX1_deliver 30 = .ok (.iload 7, 2) := by decide +kernel
theorem dX1_deliver_32 : decode cX1_deliver 32 = .ok (.aload_n 1, 1) := by decide +kernel
theorem dX1_deliver_33 : decode cX1_deliver 33 = .ok (.getfield 22, 3) := by decide +kernel
theorem dX1_deliver_36 : decode cX1_deliver 36 = .ok (.if_icmp .ge 37, 3) := by decide +kernel
theorem dX1_deliver_39 : decode cX1_deliver 39 = .ok (.iload 6, 2) := by decide +kernel
theorem dX1_deliver_41 : decode cX1_deliver 41 = .ok (.ifCond .le 32, 3) := by decide +kernel
theorem dX1_deliver_44 : decode cX1_deliver 44 = .ok (.iload 7, 2) := by decide +kernel
theorem dX1_deliver_46 : decode cX1_deliver 46 = .ok (.iload 5, 2) := by decide +kernel
theorem dX1_deliver_48 : decode cX1_deliver 48 = .ok (.if_icmp .eq 19, 3) := by decide +kernel
theorem dX1_deliver_51 : decode cX1_deliver 51 = .ok (.iload 6, 2) := by decide +kernel
theorem dX1_deliver_53 : decode cX1_deliver 53 = .ok (.aload_n 0, 1) := by decide +kernel
theorem dX1_deliver_54 : decode cX1_deliver 54 = .ok (.aload_n 1, 1) := by decide +kernel
theorem dX1_deliver_55 : decode cX1_deliver 55 = .ok (.iload_n 2, 1) := by decide +kernel
theorem dX1_deliver_56 : decode cX1_deliver 56 = .ok (.iload_n 3, 1) := by decide +kernel
theorem dX1_deliver_57 : decode cX1_deliver 57 = .ok (.iload 7, 2) := by decide +kernel
theorem dX1_deliver_59 : decode cX1_deliver 59 = .ok (.iload 6, 2) := by decide +kernel
theorem dX1_deliver_61 : decode cX1_deliver 61 = .ok (.invokevirtual 34, 3) := by decide +kernel
theorem dX1_deliver_64 : decode cX1_deliver 64 = .ok (.isub, 1) := by decide +kernel
theorem dX1_deliver_65 : decode cX1_deliver 65 = .ok (.istore 6, 2) := by decide +kernel
theorem dX1_deliver_67 : decode cX1_deliver 67 = .ok (.iinc 7 1, 3) := by decide +kernel
theorem dX1_deliver_70 : decode cX1_deliver 70 = .ok (.goto (-40), 3) := by decide +kernel
theorem dX1_deliver_73 : decode cX1_deliver 73 = .ok (.iload 6, 2) := by decide +kernel
theorem dX1_deliver_75 : decode cX1_deliver 75 = .ok (.ireturn, 1) := by decide +kernel
def LX1_deliver_73 (Q : Option Value → az_M → Prop) : az_T := (s_li 6 (s_ri Q))
theorem okLX1_deliver_73 {X : az_X} {Q : Option Value → az_M → Prop} (C : az_C X cX1_deliver 8 RX1 (az_ts yX1_deliver cX1_deliver 8 (some .int)) ({ frames := 3, cells := 0, slots := 0, locals := 157 } : Room) (some .int) Q) : az_ok X 73 (LX1_deliver_73 Q) := by
  have h75 := az_ireturn C rfl dX1_deliver_75
  have h73 := az_iload C dX1_deliver_73 h75
  exact h73
def LX1_deliver_67 (Q : Option Value → az_M → Prop) (Z30 : az_T) : az_T := (s_inc 7 (nI 1) (s_kp [true, true, true, true, false, true, true, true] Z30))
theorem okLX1_deliver_67 {X : az_X} {Q : Option Value → az_M → Prop} (C : az_C X cX1_deliver 8 RX1 (az_ts yX1_deliver cX1_deliver 8 (some .int)) ({ frames := 3, cells := 0, slots := 0, locals := 157 } : Room) (some .int) Q) {Z30 : az_T} (hZ30 : az_ok X 30 Z30) : az_ok X 67 (LX1_deliver_67 Q Z30) := by
  have h70 := az_goto (tgt := 30) C dX1_deliver_70 (by decide) (az_keep [true, true, true, true, false, true, true, true] hZ30)
  have h67 := az_iinc (v := (nI 1)) C (by decide) (by decide +kernel) dX1_deliver_67 h70
  exact h67
def BX1_deliver_30 (Q : Option Value → az_M → Prop) (Z30 : az_T) : az_T := (s_li 7 (s_la 1 (s_gi 9 1 (s_if2 d_ge (s_kp [false, false, false, false, false, false, true, false] (LX1_deliver_73 Q)) (s_li 6 (s_if c_le (s_kp [false, false, false, false, false, false, true, false] (LX1_deliver_73 Q)) (s_li 7 (s_li 5 (s_if2 d_eq (s_kp [true, true, true, true, false, true, true, true] (LX1_deliver_67 Q Z30)) (s_li 6 (s_la 0 (s_la 1 (s_li 2 (s_li 3 (s_li 7 (s_li 6 (s_cv 5 3 FX1_give (s_bin f_sub (s_si 6 (s_kp [true, true, true, true, false, true, true, true] (LX1_deliver_67 Q Z30)))))))))))))))))))))
theorem okBX1_deliver_30 {X : az_X} {Q : Option Value → az_M → Prop} (C : az_C X cX1_deliver 8 RX1 (az_ts yX1_deliver cX1_deliver 8 (some .int)) ({ frames := 3, cells := 0, slots := 0, locals := 157 } : Room) (some .int) Q) {Z30 : az_T} (hZ30 : az_ok X 30 Z30) : az_ok X 30 (BX1_deliver_30 Q Z30) := by
  have h65 := az_istore C (by decide) dX1_deliver_65 (az_keep [true, true, true, true, false, true, true, true] (okLX1_deliver_67 C hZ30))
  have h64 := az_isub C dX1_deliver_64 h65
  have h61 := az_callV (ci := 3) C okX1_give knX1_give imX1_give seX1_give mLRX1_34 rfl (by decide) ⟨rfl, rfl, by decide, by decide⟩ dX1_deliver_61 h64
  have h59 := az_iload C dX1_deliver_59 h61
  have h57 := az_iload C dX1_deliver_57 h59
  have h56 := az_iload_n C 3 rfl dX1_deliver_56 h57
  have h55 := az_iload_n C 2 rfl dX1_deliver_55 h56
  have h54 := az_aload_n C 1 rfl dX1_deliver_54 h55
  have h53 := az_aload_n C 0 rfl dX1_deliver_53 h54
  have h51 := az_iload C dX1_deliver_51 h53
  have h48 := az_icmp_eq (tgt := 67) C dX1_deliver_48 (by decide) (az_keep [true, true, true, true, false, true, true, true] (okLX1_deliver_67 C hZ30)) h51
  have h46 := az_iload C dX1_deliver_46 h48
  have h44 := az_iload C dX1_deliver_44 h46
  have h41 := az_if_le (tgt := 73) C dX1_deliver_41 (by decide) (az_keep [false, false, false, false, false, false, true, false] (okLX1_deliver_73 C)) h44
  have h39 := az_iload C dX1_deliver_39 h41
  have h36 := az_icmp_ge (tgt := 73) C dX1_deliver_36 (by decide) (az_keep [false, false, false, false, false, false, true, false] (okLX1_deliver_73 C)) h39
  have h33 := az_getI (T := TX8) (N := 11) (j := 1) C gwRX8 rfl (by decide) (by decide) iIRX8_1 mFRX1_22 rfl dX1_deliver_33 h36
  have h32 := az_aload_n C 1 rfl dX1_deliver_32 h33
  have h30 := az_iload C dX1_deliver_30 h32
  exact h30
def LX1_deliver_30 (Q : Option Value → az_M → Prop) : az_T := s_lp (fun Z => BX1_deliver_30 Q Z)
theorem okLX1_deliver_30 {X : az_X} {Q : Option Value → az_M → Prop} (C : az_C X cX1_deliver 8 RX1 (az_ts yX1_deliver cX1_deliver 8 (some .int)) ({ frames := 3, cells := 0, slots := 0, locals := 157 } : Room) (some .int) Q) : az_ok X 30 (LX1_deliver_30 Q) := az_loop (F := fun Z => BX1_deliver_30 Q Z) (fun _ hZ => okBX1_deliver_30 C hZ)
def PX1_deliver (Q : Option Value → az_M → Prop) : az_T := (s_la 1 (s_gr 9 5 (s_li 3 (s_aa 25 (s_ic (nI 8) (s_al 20 (s_si 5 (s_li 4 (s_la 0 (s_la 1 (s_li 2 (s_li 3 (s_li 5 (s_li 4 (s_cv 5 3 FX1_give (s_bin f_sub (s_si 6 (s_ic (nI 0) (s_si 7 (s_kp [true, true, true, true, false, true, true, true] (LX1_deliver_30 Q)))))))))))))))))))))
def FX1_deliver : az_F := az_fun [true, true, false, false, false] 8 PX1_deliver
theorem okX1_deliver (l : Launch) : az_met l yX1_deliver cX1_deliver 8 (some .int) ({ frames := 3, cells := 0, slots := 0, locals := 157 } : Room) FX1_deliver := az_met_of (own := RX1) (by decide +kernel) rfl (by decide) (fun X Q C => by
  have h28 := az_istore C (by decide) dX1_deliver_28 (az_keep [true, true, true, true, false, true, true, true] (okLX1_deliver_30 C))
  have h27 := az_iconst (x := (nI 0)) C dX1_deliver_27 (by decide +kernel) h28
  have h25 := az_istore C (by decide) dX1_deliver_25 h27
  have h24 := az_isub C dX1_deliver_24 h25
  have h21 := az_callV (ci := 3) C okX1_give knX1_give imX1_give seX1_give mLRX1_34 rfl (by decide) ⟨rfl, rfl, by decide, by decide⟩ dX1_deliver_21 h24
  have h19 := az_iload C dX1_deliver_19 h21
  have h17 := az_iload C dX1_deliver_17 h19
  have h16 := az_iload_n C 3 rfl dX1_deliver_16 h17
  have h15 := az_iload_n C 2 rfl dX1_deliver_15 h16
  have h14 := az_aload_n C 1 rfl dX1_deliver_14 h15
  have h13 := az_aload_n C 0 rfl dX1_deliver_13 h14
  have h11 := az_iload C dX1_deliver_11 h13
  have h9 := az_istore C (by decide) dX1_deliver_9 h11
  have h8 := az_iald C dX1_deliver_8 h9
  have h6 := az_bipush (x := (nI 8)) C dX1_deliver_6 (by decide +kernel) h8
  have h5 := az_aald2 C dX1_deliver_5 h6
  have h4 := az_iload_n C 3 rfl dX1_deliver_4 h5
  have h1 := az_getR (T := TX8) (N := 11) (j := 5) C gwRX8 rfl (by decide) (by decide) iIRX8_5 mFRX1_31 rfl dX1_deliver_1 h4
  have h0 := az_aload_n C 1 rfl dX1_deliver_0 h1
  exact h0) l
theorem dX8_copyFrom_0 : decode cX8_copyFrom 0 = .ok (.aload_n 0, 1) := by decide +kernel
theorem dX8_copyFrom_1 : decode cX8_copyFrom 1 = .ok (.aload_n 1, 1) := by decide +kernel
theorem dX8_copyFrom_2 : decode cX8_copyFrom 2 = .ok (.getfield 36, 3) := by decide +kernel
theorem dX8_copyFrom_5 : decode cX8_copyFrom 5 = .ok (.putfield 36, 3) := by decide +kernel
theorem dX8_copyFrom_8 : decode cX8_copyFrom 8 = .ok (.aload_n 0, 1) := by decide +kernel
theorem dX8_copyFrom_9 : decode cX8_copyFrom 9 = .ok (.aload_n 1, 1) := by decide +kernel
theorem dX8_copyFrom_10 : decode cX8_copyFrom 10 = .ok (.getfield 40, 3) := by decide +kernel
theorem dX8_copyFrom_13 : decode cX8_copyFrom 13 = .ok (.putfield 40, 3) := by decide +kernel
theorem dX8_copyFrom_16 : decode cX8_copyFrom 16 = .ok (.aload_n 0, 1) := by decide +kernel
theorem dX8_copyFrom_17 : decode cX8_copyFrom 17 = .ok (.aload_n 1, 1) := by decide +kernel
theorem dX8_copyFrom_18 : decode cX8_copyFrom 18 = .ok (.getfield 43, 3) := by decide +kernel
theorem dX8_copyFrom_21 : decode cX8_copyFrom 21 = .ok (.putfield 43, 3) := by decide +kernel
theorem dX8_copyFrom_24 : decode cX8_copyFrom 24 = .ok (.aload_n 0, 1) := by decide +kernel
theorem dX8_copyFrom_25 : decode cX8_copyFrom 25 = .ok (.aload_n 1, 1) := by decide +kernel
theorem dX8_copyFrom_26 : decode cX8_copyFrom 26 = .ok (.getfield 46, 3) := by decide +kernel
theorem dX8_copyFrom_29 : decode cX8_copyFrom 29 = .ok (.putfield 46, 3) := by decide +kernel
theorem dX8_copyFrom_32 : decode cX8_copyFrom 32 = .ok (.aload_n 0, 1) := by decide +kernel
theorem dX8_copyFrom_33 : decode cX8_copyFrom 33 = .ok (.aload_n 1, 1) := by decide +kernel
theorem dX8_copyFrom_34 : decode cX8_copyFrom 34 = .ok (.getfield 49, 3) := by decide +kernel
theorem dX8_copyFrom_37 : decode cX8_copyFrom 37 = .ok (.putfield 49, 3) := by decide +kernel
theorem dX8_copyFrom_40 : decode cX8_copyFrom 40 = .ok (.iconst 0, 1) := by decide +kernel
theorem dX8_copyFrom_41 : decode cX8_copyFrom 41 = .ok (.istore_n 2, 1) := by decide +kernel
theorem dX8_copyFrom_42 : decode cX8_copyFrom 42 = .ok (.iload_n 2, 1) := by decide +kernel
theorem dX8_copyFrom_43 : decode cX8_copyFrom 43 = .ok (.bipush 6, 2) := by decide +kernel
theorem dX8_copyFrom_45 : decode cX8_copyFrom 45 = .ok (.if_icmp .ge 28, 3) := by decide +kernel
theorem dX8_copyFrom_48 : decode cX8_copyFrom 48 = .ok (.aload_n 1, 1) := by decide +kernel
theorem dX8_copyFrom_49 : decode cX8_copyFrom 49 = .ok (.getfield 11, 3) := by decide +kernel
theorem dX8_copyFrom_52 : decode cX8_copyFrom 52 = .ok (.iload_n 2, 1) := by decide +kernel
theorem dX8_copyFrom_53 : decode cX8_copyFrom 53 = .ok (.aaload, 1) := by decide +kernel
theorem dX8_copyFrom_54 : decode cX8_copyFrom 54 = .ok (.iconst 0, 1) := by decide +kernel
theorem dX8_copyFrom_55 : decode cX8_copyFrom 55 = .ok (.aload_n 0, 1) := by decide +kernel
theorem dX8_copyFrom_56 : decode cX8_copyFrom 56 = .ok (.getfield 11, 3) := by decide +kernel
theorem dX8_copyFrom_59 : decode cX8_copyFrom 59 = .ok (.iload_n 2, 1) := by decide +kernel
theorem dX8_copyFrom_60 : decode cX8_copyFrom 60 = .ok (.aaload, 1) := by decide +kernel
theorem dX8_copyFrom_61 : decode cX8_copyFrom 61 = .ok (.iconst 0, 1) := by decide +kernel
theorem dX8_copyFrom_62 : decode cX8_copyFrom 62 = .ok (.bipush 14, 2) := by decide +kernel
theorem dX8_copyFrom_64 : decode cX8_copyFrom 64 = .ok (.invokestatic 52, 3) := by decide +kernel
theorem dX8_copyFrom_67 : decode cX8_copyFrom 67 = .ok (.iinc 2 1, 3) := by decide +kernel
theorem dX8_copyFrom_70 : decode cX8_copyFrom 70 = .ok (.goto (-28), 3) := by decide +kernel
theorem dX8_copyFrom_73 : decode cX8_copyFrom 73 = .ok (.iconst 0, 1) := by decide +kernel
theorem dX8_copyFrom_74 : decode cX8_copyFrom 74 = .ok (.istore_n 2, 1) := by decide +kernel
theorem dX8_copyFrom_75 : decode cX8_copyFrom 75 = .ok (.iload_n 2, 1) := by decide +kernel
theorem dX8_copyFrom_76 : decode cX8_copyFrom 76 = .ok (.bipush 6, 2) := by decide +kernel
theorem dX8_copyFrom_78 : decode cX8_copyFrom 78 = .ok (.if_icmp .ge 27, 3) := by decide +kernel
theorem dX8_copyFrom_81 : decode cX8_copyFrom 81 = .ok (.aload_n 1, 1) := by decide +kernel
theorem dX8_copyFrom_82 : decode cX8_copyFrom 82 = .ok (.getfield 16, 3) := by decide +kernel
theorem dX8_copyFrom_85 : decode cX8_copyFrom 85 = .ok (.iload_n 2, 1) := by decide +kernel
theorem dX8_copyFrom_86 : decode cX8_copyFrom 86 = .ok (.aaload, 1) := by decide +kernel
theorem dX8_copyFrom_87 : decode cX8_copyFrom 87 = .ok (.iconst 0, 1) := by decide +kernel
theorem dX8_copyFrom_88 : decode cX8_copyFrom 88 = .ok (.aload_n 0, 1) := by decide +kernel
theorem dX8_copyFrom_89 : decode cX8_copyFrom 89 = .ok (.getfield 16, 3) := by decide +kernel
theorem dX8_copyFrom_92 : decode cX8_copyFrom 92 = .ok (.iload_n 2, 1) := by decide +kernel
theorem dX8_copyFrom_93 : decode cX8_copyFrom 93 = .ok (.aaload, 1) := by decide +kernel
theorem dX8_copyFrom_94 : decode cX8_copyFrom 94 = .ok (.iconst 0, 1) := by decide +kernel
theorem dX8_copyFrom_95 : decode cX8_copyFrom 95 = .ok (.iconst 3, 1) := by decide +kernel
theorem dX8_copyFrom_96 : decode cX8_copyFrom 96 = .ok (.invokestatic 52, 3) := by decide +kernel
theorem dX8_copyFrom_99 : decode cX8_copyFrom 99 = .ok (.iinc 2 1, 3) := by decide +kernel
theorem dX8_copyFrom_102 : decode cX8_copyFrom 102 = .ok (.goto (-27), 3) := by decide +kernel
theorem dX8_copyFrom_105 : decode cX8_copyFrom 105 = .ok (.iconst 0, 1) := by decide +kernel
theorem dX8_copyFrom_106 : decode cX8_copyFrom 106 = .ok (.istore_n 2, 1) := by decide +kernel
theorem dX8_copyFrom_107 : decode cX8_copyFrom 107 = .ok (.iload_n 2, 1) := by decide +kernel
theorem dX8_copyFrom_108 : decode cX8_copyFrom 108 = .ok (.iconst 4, 1) := by decide +kernel
theorem dX8_copyFrom_109 : decode cX8_copyFrom 109 = .ok (.if_icmp .ge 28, 3) := by decide +kernel
theorem dX8_copyFrom_112 : decode cX8_copyFrom 112 = .ok (.aload_n 1, 1) := by decide +kernel
theorem dX8_copyFrom_113 : decode cX8_copyFrom 113 = .ok (.getfield 19, 3) := by decide +kernel
theorem dX8_copyFrom_116 : decode cX8_copyFrom 116 = .ok (.iload_n 2, 1) := by decide +kernel
theorem dX8_copyFrom_117 : decode cX8_copyFrom 117 = .ok (.aaload, 1) := by decide +kernel
theorem dX8_copyFrom_118 : decode cX8_copyFrom 118 = .ok (.iconst 0, 1) := by decide +kernel
theorem dX8_copyFrom_119 : decode cX8_copyFrom 119 = .ok (.aload_n 0, 1) := by decide +kernel
theorem dX8_copyFrom_120 : decode cX8_copyFrom 120 = .ok (.getfield 19, 3) := by decide +kernel
theorem dX8_copyFrom_123 : decode cX8_copyFrom 123 = .ok (.iload_n 2, 1) := by decide +kernel
theorem dX8_copyFrom_124 : decode cX8_copyFrom 124 = .ok (.aaload, 1) := by decide +kernel
theorem dX8_copyFrom_125 : decode cX8_copyFrom 125 = .ok (.iconst 0, 1) := by decide +kernel
theorem dX8_copyFrom_126 : decode cX8_copyFrom 126 = .ok (.bipush 24, 2) := by decide +kernel
theorem dX8_copyFrom_128 : decode cX8_copyFrom 128 = .ok (.invokestatic 52, 3) := by decide +kernel
theorem dX8_copyFrom_131 : decode cX8_copyFrom 131 = .ok (.iinc 2 1, 3) := by decide +kernel
theorem dX8_copyFrom_134 : decode cX8_copyFrom 134 = .ok (.goto (-27), 3) := by decide +kernel
theorem dX8_copyFrom_137 : decode cX8_copyFrom 137 = .ok (.aload_n 1, 1) := by decide +kernel
theorem dX8_copyFrom_138 : decode cX8_copyFrom 138 = .ok (.getfield 22, 3) := by decide +kernel
theorem dX8_copyFrom_141 : decode cX8_copyFrom 141 = .ok (.iconst 0, 1) := by decide +kernel
theorem dX8_copyFrom_142 : decode cX8_copyFrom 142 = .ok (.aload_n 0, 1) := by decide +kernel
theorem dX8_copyFrom_143 : decode cX8_copyFrom 143 = .ok (.getfield 22, 3) := by decide +kernel
theorem dX8_copyFrom_146 : decode cX8_copyFrom 146 = .ok (.iconst 0, 1) := by decide +kernel
theorem dX8_copyFrom_147 : decode cX8_copyFrom 147 = .ok (.bipush 24, 2) := by decide +kernel
theorem dX8_copyFrom_149 : decode cX8_copyFrom 149 = .ok (.invokestatic 52, 3) := by decide +kernel
theorem dX8_copyFrom_152 : decode cX8_copyFrom 152 = .ok (.aload_n 1, 1) := by decide +kernel
theorem dX8_copyFrom_153 : decode cX8_copyFrom 153 = .ok (.getfield 26, 3) := by decide +kernel
theorem dX8_copyFrom_156 : decode cX8_copyFrom 156 = .ok (.iconst 0, 1) := by decide +kernel
theorem dX8_copyFrom_157 : decode cX8_copyFrom 157 = .ok (.aload_n 0, 1) := by decide +kernel
theorem dX8_copyFrom_158 : decode cX8_copyFrom 158 = .ok (.getfield 26, 3) := by decide +kernel
theorem dX8_copyFrom_161 : decode cX8_copyFrom 161 = .ok (.iconst 0, 1) := by decide +kernel
theorem dX8_copyFrom_162 : decode cX8_copyFrom 162 = .ok (.iconst 4, 1) := by decide +kernel
theorem dX8_copyFrom_163 : decode cX8_copyFrom 163 = .ok (.invokestatic 52, 3) := by decide +kernel
theorem dX8_copyFrom_166 : decode cX8_copyFrom 166 = .ok (.aload_n 1, 1) := by decide +kernel
theorem dX8_copyFrom_167 : decode cX8_copyFrom 167 = .ok (.getfield 29, 3) := by decide +kernel
theorem dX8_copyFrom_170 : decode cX8_copyFrom 170 = .ok (.iconst 0, 1) := by decide +kernel
theorem dX8_copyFrom_171 : decode cX8_copyFrom 171 = .ok (.aload_n 0, 1) := by decide +kernel
theorem dX8_copyFrom_172 : decode cX8_copyFrom 172 = .ok (.getfield 29, 3) := by decide +kernel
theorem dX8_copyFrom_175 : decode cX8_copyFrom 175 = .ok (.iconst 0, 1) := by decide +kernel
theorem dX8_copyFrom_176 : decode cX8_copyFrom 176 = .ok (.iconst 4, 1) := by decide +kernel
theorem dX8_copyFrom_177 : decode cX8_copyFrom 177 = .ok (.invokestatic 52, 3) := by decide +kernel
theorem dX8_copyFrom_180 : decode cX8_copyFrom 180 = .ok (.return_, 1) := by decide +kernel
def BX8_copyFrom_107 (Q : Option Value → az_M → Prop) (Z107 : az_T) : az_T := (s_li 2 (s_ic (nI 4) (s_if2 d_ge (s_la 1 (s_gr 9 8 (s_ic (nI 0) (s_la 0 (s_gr 9 8 (s_ic (nI 0) (s_ic (nI 24) (s_cpy (s_la 1 (s_gr 9 9 (s_ic (nI 0) (s_la 0 (s_gr 9 9 (s_ic (nI 0) (s_ic (nI 4) (s_cpy (s_la 1 (s_gr 9 10 (s_ic (nI 0) (s_la 0 (s_gr 9 10 (s_ic (nI 0) (s_ic (nI 4) (s_cpy (s_rv Q))))))))))))))))))))))))) (s_la 1 (s_gr 9 7 (s_li 2 (s_aa 25 (s_ic (nI 0) (s_la 0 (s_gr 9 7 (s_li 2 (s_aa 25 (s_ic (nI 0) (s_ic (nI 24) (s_cpy (s_inc 2 (nI 1) (s_kp [true, true, true] Z107)))))))))))))))))
theorem okBX8_copyFrom_107 {X : az_X} {Q : Option Value → az_M → Prop} (C : az_C X cX8_copyFrom 3 RX8 (az_ts yX8_copyFrom cX8_copyFrom 3 none) ({ frames := 1, cells := 0, slots := 0, locals := 100 } : Room) none Q) {Z107 : az_T} (hZ107 : az_ok X 107 Z107) : az_ok X 107 (BX8_copyFrom_107 Q Z107) := by
  have h180 := az_vreturn C rfl dX8_copyFrom_180
  have h177 := az_copy C mLRX8_52 cp_nat cp_st cp_ini (by decide) (by decide +kernel) dX8_copyFrom_177 h180
  have h176 := az_iconst (x := (nI 4)) C dX8_copyFrom_176 (by decide +kernel) h177
  have h175 := az_iconst (x := (nI 0)) C dX8_copyFrom_175 (by decide +kernel) h176
  have h172 := az_getR (T := TX8) (N := 11) (j := 10) C gwRX8 rfl (by decide) (by decide) iIRX8_10 mFRX8_29 rfl dX8_copyFrom_172 h175
  have h171 := az_aload_n C 0 rfl dX8_copyFrom_171 h172
  have h170 := az_iconst (x := (nI 0)) C dX8_copyFrom_170 (by decide +kernel) h171
  have h167 := az_getR (T := TX8) (N := 11) (j := 10) C gwRX8 rfl (by decide) (by decide) iIRX8_10 mFRX8_29 rfl dX8_copyFrom_167 h170
  have h166 := az_aload_n C 1 rfl dX8_copyFrom_166 h167
  have h163 := az_copy C mLRX8_52 cp_nat cp_st cp_ini (by decide) (by decide +kernel) dX8_copyFrom_163 h166
  have h162 := az_iconst (x := (nI 4)) C dX8_copyFrom_162 (by decide +kernel) h163
  have h161 := az_iconst (x := (nI 0)) C dX8_copyFrom_161 (by decide +kernel) h162
  have h158 := az_getR (T := TX8) (N := 11) (j := 9) C gwRX8 rfl (by decide) (by decide) iIRX8_9 mFRX8_26 rfl dX8_copyFrom_158 h161
  have h157 := az_aload_n C 0 rfl dX8_copyFrom_157 h158
  have h156 := az_iconst (x := (nI 0)) C dX8_copyFrom_156 (by decide +kernel) h157
  have h153 := az_getR (T := TX8) (N := 11) (j := 9) C gwRX8 rfl (by decide) (by decide) iIRX8_9 mFRX8_26 rfl dX8_copyFrom_153 h156
  have h152 := az_aload_n C 1 rfl dX8_copyFrom_152 h153
  have h149 := az_copy C mLRX8_52 cp_nat cp_st cp_ini (by decide) (by decide +kernel) dX8_copyFrom_149 h152
  have h147 := az_bipush (x := (nI 24)) C dX8_copyFrom_147 (by decide +kernel) h149
  have h146 := az_iconst (x := (nI 0)) C dX8_copyFrom_146 (by decide +kernel) h147
  have h143 := az_getR (T := TX8) (N := 11) (j := 8) C gwRX8 rfl (by decide) (by decide) iIRX8_8 mFRX8_22 rfl dX8_copyFrom_143 h146
  have h142 := az_aload_n C 0 rfl dX8_copyFrom_142 h143
  have h141 := az_iconst (x := (nI 0)) C dX8_copyFrom_141 (by decide +kernel) h142
  have h138 := az_getR (T := TX8) (N := 11) (j := 8) C gwRX8 rfl (by decide) (by decide) iIRX8_8 mFRX8_22 rfl dX8_copyFrom_138 h141
  have h137 := az_aload_n C 1 rfl dX8_copyFrom_137 h138
  have h134 := az_goto (tgt := 107) C dX8_copyFrom_134 (by decide) (az_keep [true, true, true] hZ107)
  have h131 := az_iinc (v := (nI 1)) C (by decide) (by decide +kernel) dX8_copyFrom_131 h134
  have h128 := az_copy C mLRX8_52 cp_nat cp_st cp_ini (by decide) (by decide +kernel) dX8_copyFrom_128 h131
  have h126 := az_bipush (x := (nI 24)) C dX8_copyFrom_126 (by decide +kernel) h128
  have h125 := az_iconst (x := (nI 0)) C dX8_copyFrom_125 (by decide +kernel) h126
  have h124 := az_aald2 C dX8_copyFrom_124 h125
  have h123 := az_iload_n C 2 rfl dX8_copyFrom_123 h124
  have h120 := az_getR (T := TX8) (N := 11) (j := 7) C gwRX8 rfl (by decide) (by decide) iIRX8_7 mFRX8_19 rfl dX8_copyFrom_120 h123
  have h119 := az_aload_n C 0 rfl dX8_copyFrom_119 h120
  have h118 := az_iconst (x := (nI 0)) C dX8_copyFrom_118 (by decide +kernel) h119
  have h117 := az_aald2 C dX8_copyFrom_117 h118
  have h116 := az_iload_n C 2 rfl dX8_copyFrom_116 h117
  have h113 := az_getR (T := TX8) (N := 11) (j := 7) C gwRX8 rfl (by decide) (by decide) iIRX8_7 mFRX8_19 rfl dX8_copyFrom_113 h116
  have h112 := az_aload_n C 1 rfl dX8_copyFrom_112 h113
  have h109 := az_icmp_ge (tgt := 137) C dX8_copyFrom_109 (by decide) h137 h112
  have h108 := az_iconst (x := (nI 4)) C dX8_copyFrom_108 (by decide +kernel) h109
  have h107 := az_iload_n C 2 rfl dX8_copyFrom_107 h108
  exact h107
def LX8_copyFrom_107 (Q : Option Value → az_M → Prop) : az_T := s_lp (fun Z => BX8_copyFrom_107 Q Z)
theorem okLX8_copyFrom_107 {X : az_X} {Q : Option Value → az_M → Prop} (C : az_C X cX8_copyFrom 3 RX8 (az_ts yX8_copyFrom cX8_copyFrom 3 none) ({ frames := 1, cells := 0, slots := 0, locals := 100 } : Room) none Q) : az_ok X 107 (LX8_copyFrom_107 Q) := az_loop (F := fun Z => BX8_copyFrom_107 Q Z) (fun _ hZ => okBX8_copyFrom_107 C hZ)
def BX8_copyFrom_75 (Q : Option Value → az_M → Prop) (Z75 : az_T) : az_T := (s_li 2 (s_ic (nI 6) (s_if2 d_ge (s_ic (nI 0) (s_si 2 (s_kp [true, true, true] (LX8_copyFrom_107 Q)))) (s_la 1 (s_gr 9 6 (s_li 2 (s_aa 25 (s_ic (nI 0) (s_la 0 (s_gr 9 6 (s_li 2 (s_aa 25 (s_ic (nI 0) (s_ic (nI 3) (s_cpy (s_inc 2 (nI 1) (s_kp [true, true, true] Z75)))))))))))))))))
theorem okBX8_copyFrom_75 {X : az_X} {Q : Option Value → az_M → Prop} (C : az_C X cX8_copyFrom 3 RX8 (az_ts yX8_copyFrom cX8_copyFrom 3 none) ({ frames := 1, cells := 0, slots := 0, locals := 100 } : Room) none Q) {Z75 : az_T} (hZ75 : az_ok X 75 Z75) : az_ok X 75 (BX8_copyFrom_75 Q Z75) := by
  have h106 := az_istore_n C 2 rfl (by decide) dX8_copyFrom_106 (az_keep [true, true, true] (okLX8_copyFrom_107 C))
  have h105 := az_iconst (x := (nI 0)) C dX8_copyFrom_105 (by decide +kernel) h106
  have h102 := az_goto (tgt := 75) C dX8_copyFrom_102 (by decide) (az_keep [true, true, true] hZ75)
  have h99 := az_iinc (v := (nI 1)) C (by decide) (by decide +kernel) dX8_copyFrom_99 h102
  have h96 := az_copy C mLRX8_52 cp_nat cp_st cp_ini (by decide) (by decide +kernel) dX8_copyFrom_96 h99
  have h95 := az_iconst (x := (nI 3)) C dX8_copyFrom_95 (by decide +kernel) h96
  have h94 := az_iconst (x := (nI 0)) C dX8_copyFrom_94 (by decide +kernel) h95
  have h93 := az_aald2 C dX8_copyFrom_93 h94
  have h92 := az_iload_n C 2 rfl dX8_copyFrom_92 h93
  have h89 := az_getR (T := TX8) (N := 11) (j := 6) C gwRX8 rfl (by decide) (by decide) iIRX8_6 mFRX8_16 rfl dX8_copyFrom_89 h92
  have h88 := az_aload_n C 0 rfl dX8_copyFrom_88 h89
  have h87 := az_iconst (x := (nI 0)) C dX8_copyFrom_87 (by decide +kernel) h88
  have h86 := az_aald2 C dX8_copyFrom_86 h87
  have h85 := az_iload_n C 2 rfl dX8_copyFrom_85 h86
  have h82 := az_getR (T := TX8) (N := 11) (j := 6) C gwRX8 rfl (by decide) (by decide) iIRX8_6 mFRX8_16 rfl dX8_copyFrom_82 h85
  have h81 := az_aload_n C 1 rfl dX8_copyFrom_81 h82
  have h78 := az_icmp_ge (tgt := 105) C dX8_copyFrom_78 (by decide) h105 h81
  have h76 := az_bipush (x := (nI 6)) C dX8_copyFrom_76 (by decide +kernel) h78
  have h75 := az_iload_n C 2 rfl dX8_copyFrom_75 h76
  exact h75
def LX8_copyFrom_75 (Q : Option Value → az_M → Prop) : az_T := s_lp (fun Z => BX8_copyFrom_75 Q Z)
theorem okLX8_copyFrom_75 {X : az_X} {Q : Option Value → az_M → Prop} (C : az_C X cX8_copyFrom 3 RX8 (az_ts yX8_copyFrom cX8_copyFrom 3 none) ({ frames := 1, cells := 0, slots := 0, locals := 100 } : Room) none Q) : az_ok X 75 (LX8_copyFrom_75 Q) := az_loop (F := fun Z => BX8_copyFrom_75 Q Z) (fun _ hZ => okBX8_copyFrom_75 C hZ)
def BX8_copyFrom_42 (Q : Option Value → az_M → Prop) (Z42 : az_T) : az_T := (s_li 2 (s_ic (nI 6) (s_if2 d_ge (s_ic (nI 0) (s_si 2 (s_kp [true, true, true] (LX8_copyFrom_75 Q)))) (s_la 1 (s_gr 9 5 (s_li 2 (s_aa 25 (s_ic (nI 0) (s_la 0 (s_gr 9 5 (s_li 2 (s_aa 25 (s_ic (nI 0) (s_ic (nI 14) (s_cpy (s_inc 2 (nI 1) (s_kp [true, true, true] Z42)))))))))))))))))
theorem okBX8_copyFrom_42 {X : az_X} {Q : Option Value → az_M → Prop} (C : az_C X cX8_copyFrom 3 RX8 (az_ts yX8_copyFrom cX8_copyFrom 3 none) ({ frames := 1, cells := 0, slots := 0, locals := 100 } : Room) none Q) {Z42 : az_T} (hZ42 : az_ok X 42 Z42) : az_ok X 42 (BX8_copyFrom_42 Q Z42) := by
  have h74 := az_istore_n C 2 rfl (by decide) dX8_copyFrom_74 (az_keep [true, true, true] (okLX8_copyFrom_75 C))
  have h73 := az_iconst (x := (nI 0)) C dX8_copyFrom_73 (by decide +kernel) h74
  have h70 := az_goto (tgt := 42) C dX8_copyFrom_70 (by decide) (az_keep [true, true, true] hZ42)
  have h67 := az_iinc (v := (nI 1)) C (by decide) (by decide +kernel) dX8_copyFrom_67 h70
  have h64 := az_copy C mLRX8_52 cp_nat cp_st cp_ini (by decide) (by decide +kernel) dX8_copyFrom_64 h67
  have h62 := az_bipush (x := (nI 14)) C dX8_copyFrom_62 (by decide +kernel) h64
  have h61 := az_iconst (x := (nI 0)) C dX8_copyFrom_61 (by decide +kernel) h62
  have h60 := az_aald2 C dX8_copyFrom_60 h61
  have h59 := az_iload_n C 2 rfl dX8_copyFrom_59 h60
  have h56 := az_getR (T := TX8) (N := 11) (j := 5) C gwRX8 rfl (by decide) (by decide) iIRX8_5 mFRX8_11 rfl dX8_copyFrom_56 h59
  have h55 := az_aload_n C 0 rfl dX8_copyFrom_55 h56
  have h54 := az_iconst (x := (nI 0)) C dX8_copyFrom_54 (by decide +kernel) h55
  have h53 := az_aald2 C dX8_copyFrom_53 h54
  have h52 := az_iload_n C 2 rfl dX8_copyFrom_52 h53
  have h49 := az_getR (T := TX8) (N := 11) (j := 5) C gwRX8 rfl (by decide) (by decide) iIRX8_5 mFRX8_11 rfl dX8_copyFrom_49 h52
  have h48 := az_aload_n C 1 rfl dX8_copyFrom_48 h49
  have h45 := az_icmp_ge (tgt := 73) C dX8_copyFrom_45 (by decide) h73 h48
  have h43 := az_bipush (x := (nI 6)) C dX8_copyFrom_43 (by decide +kernel) h45
  have h42 := az_iload_n C 2 rfl dX8_copyFrom_42 h43
  exact h42
def LX8_copyFrom_42 (Q : Option Value → az_M → Prop) : az_T := s_lp (fun Z => BX8_copyFrom_42 Q Z)
theorem okLX8_copyFrom_42 {X : az_X} {Q : Option Value → az_M → Prop} (C : az_C X cX8_copyFrom 3 RX8 (az_ts yX8_copyFrom cX8_copyFrom 3 none) ({ frames := 1, cells := 0, slots := 0, locals := 100 } : Room) none Q) : az_ok X 42 (LX8_copyFrom_42 Q) := az_loop (F := fun Z => BX8_copyFrom_42 Q Z) (fun _ hZ => okBX8_copyFrom_42 C hZ)
def PX8_copyFrom (Q : Option Value → az_M → Prop) : az_T := (s_la 0 (s_la 1 (s_gi 9 0 (s_pi 9 0 (s_la 0 (s_la 1 (s_gi 9 1 (s_pi 9 1 (s_la 0 (s_la 1 (s_gi 9 2 (s_pi 9 2 (s_la 0 (s_la 1 (s_gi 9 3 (s_pi 9 3 (s_la 0 (s_la 1 (s_gi 9 4 (s_pi 9 4 (s_ic (nI 0) (s_si 2 (s_kp [true, true, true] (LX8_copyFrom_42 Q))))))))))))))))))))))))
def FX8_copyFrom : az_F := az_fun [true, true] 3 PX8_copyFrom
theorem okX8_copyFrom (l : Launch) : az_met l yX8_copyFrom cX8_copyFrom 3 none ({ frames := 1, cells := 0, slots := 0, locals := 100 } : Room) FX8_copyFrom := az_met_of (own := RX8) (by decide +kernel) rfl (by decide) (fun X Q C => by
  have h41 := az_istore_n C 2 rfl (by decide) dX8_copyFrom_41 (az_keep [true, true, true] (okLX8_copyFrom_42 C))
  have h40 := az_iconst (x := (nI 0)) C dX8_copyFrom_40 (by decide +kernel) h41
  have h37 := az_putI (T := TX8) (N := 11) (j := 4) C gwRX8 rfl (by decide) (by decide) tyX8 tyX8_ok nmX8 iIRX8_4 (by decide +kernel) rfl mFRX8_49 rfl dX8_copyFrom_37 h40
  have h34 := az_getI (T := TX8) (N := 11) (j := 4) C gwRX8 rfl (by decide) (by decide) iIRX8_4 mFRX8_49 rfl dX8_copyFrom_34 h37
  have h33 := az_aload_n C 1 rfl dX8_copyFrom_33 h34
  have h32 := az_aload_n C 0 rfl dX8_copyFrom_32 h33
  have h29 := az_putI (T := TX8) (N := 11) (j := 3) C gwRX8 rfl (by decide) (by decide) tyX8 tyX8_ok nmX8 iIRX8_3 (by decide +kernel) rfl mFRX8_46 rfl dX8_copyFrom_29 h32
  have h26 := az_getI (T := TX8) (N := 11) (j := 3) C gwRX8 rfl (by decide) (by decide) iIRX8_3 mFRX8_46 rfl dX8_copyFrom_26 h29
  have h25 := az_aload_n C 1 rfl dX8_copyFrom_25 h26
  have h24 := az_aload_n C 0 rfl dX8_copyFrom_24 h25
  have h21 := az_putI (T := TX8) (N := 11) (j := 2) C gwRX8 rfl (by decide) (by decide) tyX8 tyX8_ok nmX8 iIRX8_2 (by decide +kernel) rfl mFRX8_43 rfl dX8_copyFrom_21 h24
  have h18 := az_getI (T := TX8) (N := 11) (j := 2) C gwRX8 rfl (by decide) (by decide) iIRX8_2 mFRX8_43 rfl dX8_copyFrom_18 h21
  have h17 := az_aload_n C 1 rfl dX8_copyFrom_17 h18
  have h16 := az_aload_n C 0 rfl dX8_copyFrom_16 h17
  have h13 := az_putI (T := TX8) (N := 11) (j := 1) C gwRX8 rfl (by decide) (by decide) tyX8 tyX8_ok nmX8 iIRX8_1 (by decide +kernel) rfl mFRX8_40 rfl dX8_copyFrom_13 h16
  have h10 := az_getI (T := TX8) (N := 11) (j := 1) C gwRX8 rfl (by decide) (by decide) iIRX8_1 mFRX8_40 rfl dX8_copyFrom_10 h13
  have h9 := az_aload_n C 1 rfl dX8_copyFrom_9 h10
  have h8 := az_aload_n C 0 rfl dX8_copyFrom_8 h9
  have h5 := az_putI (T := TX8) (N := 11) (j := 0) C gwRX8 rfl (by decide) (by decide) tyX8 tyX8_ok nmX8 iIRX8_0 (by decide +kernel) rfl mFRX8_36 rfl dX8_copyFrom_5 h8
  have h2 := az_getI (T := TX8) (N := 11) (j := 0) C gwRX8 rfl (by decide) (by decide) iIRX8_0 mFRX8_36 rfl dX8_copyFrom_2 h5
  have h1 := az_aload_n C 1 rfl dX8_copyFrom_1 h2
  have h0 := az_aload_n C 0 rfl dX8_copyFrom_0 h1
  exact h0) l
theorem dX2_keep_0 : decode cX2_keep 0 = .ok (.aload_n 0, 1) := by decide +kernel
theorem dX2_keep_1 : decode cX2_keep 1 = .ok (.getfield 11, 3) := by decide +kernel
theorem dX2_keep_4 : decode cX2_keep 4 = .ok (.aload_n 0, 1) := by decide +kernel
theorem dX2_keep_5 : decode cX2_keep 5 = .ok (.getfield 17, 3) := by decide +kernel
theorem dX2_keep_8 : decode cX2_keep 8 = .ok (.aaload, 1) := by decide +kernel
theorem dX2_keep_9 : decode cX2_keep 9 = .ok (.aload_n 1, 1) := by decide +kernel
theorem dX2_keep_10 : decode cX2_keep 10 = .ok (.invokevirtual 25, 3) := by decide +kernel
theorem dX2_keep_13 : decode cX2_keep 13 = .ok (.aload_n 0, 1) := by decide +kernel
theorem dX2_keep_14 : decode cX2_keep 14 = .ok (.aload_n 0, 1) := by decide +kernel
theorem dX2_keep_15 : decode cX2_keep 15 = .ok (.getfield 17, 3) := by decide +kernel
theorem dX2_keep_18 : decode cX2_keep 18 = .ok (.iconst 1, 1) := by decide +kernel
theorem dX2_keep_19 : decode cX2_keep 19 = .ok (.iadd, 1) := by decide +kernel
theorem dX2_keep_20 : decode cX2_keep 20 = .ok (.bipush 8, 2) := by decide +kernel
theorem dX2_keep_22 : decode cX2_keep 22 = .ok (.if_icmp .ge 12, 3) := by decide +kernel
theorem dX2_keep_25 : decode cX2_keep 25 = .ok (.aload_n 0, 1) := by decide +kernel
theorem dX2_keep_26 : decode cX2_keep 26 = .ok (.getfield 17, 3) := by decide +kernel
theorem dX2_keep_29 : decode cX2_keep 29 = .ok (.iconst 1, 1) := by decide +kernel
theorem dX2_keep_30 : decode cX2_keep 30 = .ok (.iadd, 1) := by decide +kernel
theorem dX2_keep_31 : decode cX2_keep 31 = .ok (.goto 4, 3) := by decide +kernel
theorem dX2_keep_34 : decode cX2_keep 34 = .ok (.iconst 0, 1) := by decide +kernel
theorem dX2_keep_35 : decode cX2_keep 35 = .ok (.putfield 17, 3) := by decide +kernel
theorem dX2_keep_38 : decode cX2_keep 38 = .ok (.aload_n 0, 1) := by decide +kernel
theorem dX2_keep_39 : decode cX2_keep 39 = .ok (.aload_n 0, 1) := by decide +kernel
theorem dX2_keep_40 : decode cX2_keep 40 = .ok (.getfield 21, 3) := by decide +kernel
theorem dX2_keep_43 : decode cX2_keep 43 = .ok (.iconst 1, 1) := by decide +kernel
theorem dX2_keep_44 : decode cX2_keep 44 = .ok (.iadd, 1) := by decide +kernel
theorem dX2_keep_45 : decode cX2_keep 45 = .ok (.bipush 8, 2) := by decide +kernel
theorem dX2_keep_47 : decode cX2_keep 47 = .ok (.invokestatic 29, 3) := by decide +kernel
theorem dX2_keep_50 : decode cX2_keep 50 = .ok (.putfield 21, 3) := by decide +kernel
theorem dX2_keep_53 : decode cX2_keep 53 = .ok (.return_, 1) := by decide +kernel
def LX2_keep_35 (Q : Option Value → az_M → Prop) : az_T := (s_pi 4 1 (s_la 0 (s_la 0 (s_gi 4 2 (s_ic (nI 1) (s_bin f_add (s_ic (nI 8) (s_mn (s_pi 4 2 (s_rv Q))))))))))
theorem okLX2_keep_35 {X : az_X} {Q : Option Value → az_M → Prop} (C : az_C X cX2_keep 2 RX2 (az_ts yX2_keep cX2_keep 2 none) ({ frames := 2, cells := 0, slots := 0, locals := 122 } : Room) none Q) : az_ok X 35 (LX2_keep_35 Q) := by
  have h53 := az_vreturn C rfl dX2_keep_53
  have h50 := az_putI (T := TX2) (N := 3) (j := 2) C gwRX2 rfl (by decide) (by decide) tyX2 tyX2_ok nmX2 iIRX2_2 (by decide +kernel) rfl mFRX2_21 rfl dX2_keep_50 h53
  have h47 := az_mmin C mLRX2_29 mx_st_min mx_ini mx_co_min (by decide) (by decide) dX2_keep_47 h50
  have h45 := az_bipush (x := (nI 8)) C dX2_keep_45 (by decide +kernel) h47
  have h44 := az_iadd C dX2_keep_44 h45
  have h43 := az_iconst (x := (nI 1)) C dX2_keep_43 (by decide +kernel) h44
  have h40 := az_getI (T := TX2) (N := 3) (j := 2) C gwRX2 rfl (by decide) (by decide) iIRX2_2 mFRX2_21 rfl dX2_keep_40 h43
  have h39 := az_aload_n C 0 rfl dX2_keep_39 h40
  have h38 := az_aload_n C 0 rfl dX2_keep_38 h39
  have h35 := az_putI (T := TX2) (N := 3) (j := 1) C gwRX2 rfl (by decide) (by decide) tyX2 tyX2_ok nmX2 iIRX2_1 (by decide +kernel) rfl mFRX2_17 rfl dX2_keep_35 h38
  exact h35
def PX2_keep (Q : Option Value → az_M → Prop) : az_T := (s_la 0 (s_gr 4 0 (s_la 0 (s_gi 4 1 (s_aa 26 (s_la 1 (s_cv 1 9 FX8_copyFrom (s_la 0 (s_la 0 (s_gi 4 1 (s_ic (nI 1) (s_bin f_add (s_ic (nI 8) (s_if2 d_ge (s_ic (nI 0) (s_kp [true, false] (LX2_keep_35 Q))) (s_la 0 (s_gi 4 1 (s_ic (nI 1) (s_bin f_add (s_kp [true, false] (LX2_keep_35 Q))))))))))))))))))))
def FX2_keep : az_F := az_fun [true, true] 2 PX2_keep
theorem okX2_keep (l : Launch) : az_met l yX2_keep cX2_keep 2 none ({ frames := 2, cells := 0, slots := 0, locals := 122 } : Room) FX2_keep := az_met_of (own := RX2) (by decide +kernel) rfl (by decide) (fun X Q C => by
  have h34 := az_iconst (x := (nI 0)) C dX2_keep_34 (by decide +kernel) (az_keep [true, false] (okLX2_keep_35 C))
  have h31 := az_goto (tgt := 35) C dX2_keep_31 (by decide) (az_keep [true, false] (okLX2_keep_35 C))
  have h30 := az_iadd C dX2_keep_30 h31
  have h29 := az_iconst (x := (nI 1)) C dX2_keep_29 (by decide +kernel) h30
  have h26 := az_getI (T := TX2) (N := 3) (j := 1) C gwRX2 rfl (by decide) (by decide) iIRX2_1 mFRX2_17 rfl dX2_keep_26 h29
  have h25 := az_aload_n C 0 rfl dX2_keep_25 h26
  have h22 := az_icmp_ge (tgt := 34) C dX2_keep_22 (by decide) h34 h25
  have h20 := az_bipush (x := (nI 8)) C dX2_keep_20 (by decide +kernel) h22
  have h19 := az_iadd C dX2_keep_19 h20
  have h18 := az_iconst (x := (nI 1)) C dX2_keep_18 (by decide +kernel) h19
  have h15 := az_getI (T := TX2) (N := 3) (j := 1) C gwRX2 rfl (by decide) (by decide) iIRX2_1 mFRX2_17 rfl dX2_keep_15 h18
  have h14 := az_aload_n C 0 rfl dX2_keep_14 h15
  have h13 := az_aload_n C 0 rfl dX2_keep_13 h14
  have h10 := az_callVN (ci := 9) C okX8_copyFrom knX8_copyFrom imX8_copyFrom seX8_copyFrom mNRX2_25 rfl (by decide) ⟨rfl, rfl, by decide, by decide⟩ dX2_keep_10 h13
  have h9 := az_aload_n C 1 rfl dX2_keep_9 h10
  have h8 := az_aald C dX2_keep_8 h9
  have h5 := az_getI (T := TX2) (N := 3) (j := 1) C gwRX2 rfl (by decide) (by decide) iIRX2_1 mFRX2_17 rfl dX2_keep_5 h8
  have h4 := az_aload_n C 0 rfl dX2_keep_4 h5
  have h1 := az_getR (T := TX2) (N := 3) (j := 0) C gwRX2 rfl (by decide) (by decide) iIRX2_0 mFRX2_11 rfl dX2_keep_1 h4
  have h0 := az_aload_n C 0 rfl dX2_keep_0 h1
  exact h0) l
theorem dX2_takeBack_0 : decode cX2_takeBack 0 = .ok (.aload_n 0, 1) := by decide +kernel
theorem dX2_takeBack_1 : decode cX2_takeBack 1 = .ok (.aload_n 0, 1) := by decide +kernel
theorem dX2_takeBack_2 : decode cX2_takeBack 2 = .ok (.getfield 17, 3) := by decide +kernel
theorem dX2_takeBack_5 : decode cX2_takeBack 5 = .ok (.ifCond .le 12, 3) := by decide +kernel
theorem dX2_takeBack_8 : decode cX2_takeBack 8 = .ok (.aload_n 0, 1) := by decide +kernel
theorem dX2_takeBack_9 : decode cX2_takeBack 9 = .ok (.getfield 17, 3) := by decide +kernel
theorem dX2_takeBack_12 : decode cX2_takeBack 12 = .ok (.iconst 1, 1) := by decide +kernel
theorem dX2_takeBack_13 : decode cX2_takeBack 13 = .ok (.isub, 1) := by decide +kernel
theorem dX2_takeBack_14 : decode cX2_takeBack 14 = .ok (.goto 5, 3) := by decide +kernel
theorem dX2_takeBack_17 : decode cX2_takeBack 17 = .ok (.bipush 7, 2) := by decide +kernel
theorem dX2_takeBack_19 : decode cX2_takeBack 19 = .ok (.putfield 17, 3) := by decide +kernel
theorem dX2_takeBack_22 : decode cX2_takeBack 22 = .ok (.aload_n 1, 1) := by decide +kernel
theorem dX2_takeBack_23 : decode cX2_takeBack 23 = .ok (.aload_n 0, 1) := by decide +kernel
theorem dX2_takeBack_24 : decode cX2_takeBack 24 = .ok (.getfield 11, 3) := by decide +kernel
theorem dX2_takeBack_27 : decode cX2_takeBack 27 = .ok (.aload_n 0, 1) := by decide +kernel
theorem dX2_takeBack_28 : decode cX2_takeBack 28 = .ok (.getfield 17, 3) := by decide +kernel
theorem dX2_takeBack_31 : decode cX2_takeBack 31 = .ok (.aaload, 1) := by decide +kernel
theorem dX2_takeBack_32 : decode cX2_takeBack 32 = .ok (.invokevirtual 25, 3) := by decide +kernel
theorem dX2_takeBack_35 : decode cX2_takeBack 35 = .ok (.aload_n 0, 1) := by decide +kernel
theorem dX2_takeBack_36 : decode cX2_takeBack 36 = .ok (.dup, 1) := by decide +kernel
theorem dX2_takeBack_37 : decode cX2_takeBack 37 = .ok (.getfield 21, 3) := by decide +kernel
theorem dX2_takeBack_40 : decode cX2_takeBack 40 = .ok (.iconst 1, 1) := by decide +kernel
theorem dX2_takeBack_41 : decode cX2_takeBack 41 = .ok (.isub, 1) := by decide +kernel
theorem dX2_takeBack_42 : decode cX2_takeBack 42 = .ok (.putfield 21, 3) := by decide +kernel
theorem dX2_takeBack_45 : decode cX2_takeBack 45 = .ok (.return_, 1) := by decide +kernel
def LX2_takeBack_19 (Q : Option Value → az_M → Prop) : az_T := (s_pi 4 1 (s_la 1 (s_la 0 (s_gr 4 0 (s_la 0 (s_gi 4 1 (s_aa 26 (s_cv 1 9 FX8_copyFrom (s_la 0 (s_dup (s_gi 4 2 (s_ic (nI 1) (s_bin f_sub (s_pi 4 2 (s_rv Q)))))))))))))))
theorem okLX2_takeBack_19 {X : az_X} {Q : Option Value → az_M → Prop} (C : az_C X cX2_takeBack 2 RX2 (az_ts yX2_takeBack cX2_takeBack 2 none) ({ frames := 2, cells := 0, slots := 0, locals := 122 } : Room) none Q) : az_ok X 19 (LX2_takeBack_19 Q) := by
  have h45 := az_vreturn C rfl dX2_takeBack_45
  have h42 := az_putI (T := TX2) (N := 3) (j := 2) C gwRX2 rfl (by decide) (by decide) tyX2 tyX2_ok nmX2 iIRX2_2 (by decide +kernel) rfl mFRX2_21 rfl dX2_takeBack_42 h45
  have h41 := az_isub C dX2_takeBack_41 h42
  have h40 := az_iconst (x := (nI 1)) C dX2_takeBack_40 (by decide +kernel) h41
  have h37 := az_getI (T := TX2) (N := 3) (j := 2) C gwRX2 rfl (by decide) (by decide) iIRX2_2 mFRX2_21 rfl dX2_takeBack_37 h40
  have h36 := az_dup C dX2_takeBack_36 h37
  have h35 := az_aload_n C 0 rfl dX2_takeBack_35 h36
  have h32 := az_callVN (ci := 9) C okX8_copyFrom knX8_copyFrom imX8_copyFrom seX8_copyFrom mNRX2_25 rfl (by decide) ⟨rfl, rfl, by decide, by decide⟩ dX2_takeBack_32 h35
  have h31 := az_aald C dX2_takeBack_31 h32
  have h28 := az_getI (T := TX2) (N := 3) (j := 1) C gwRX2 rfl (by decide) (by decide) iIRX2_1 mFRX2_17 rfl dX2_takeBack_28 h31
  have h27 := az_aload_n C 0 rfl dX2_takeBack_27 h28
  have h24 := az_getR (T := TX2) (N := 3) (j := 0) C gwRX2 rfl (by decide) (by decide) iIRX2_0 mFRX2_11 rfl dX2_takeBack_24 h27
  have h23 := az_aload_n C 0 rfl dX2_takeBack_23 h24
  have h22 := az_aload_n C 1 rfl dX2_takeBack_22 h23
  have h19 := az_putI (T := TX2) (N := 3) (j := 1) C gwRX2 rfl (by decide) (by decide) tyX2 tyX2_ok nmX2 iIRX2_1 (by decide +kernel) rfl mFRX2_17 rfl dX2_takeBack_19 h22
  exact h19
def PX2_takeBack (Q : Option Value → az_M → Prop) : az_T := (s_la 0 (s_la 0 (s_gi 4 1 (s_if c_le (s_ic (nI 7) (s_kp [true, true] (LX2_takeBack_19 Q))) (s_la 0 (s_gi 4 1 (s_ic (nI 1) (s_bin f_sub (s_kp [true, true] (LX2_takeBack_19 Q))))))))))
def FX2_takeBack : az_F := az_fun [true, true] 2 PX2_takeBack
theorem okX2_takeBack (l : Launch) : az_met l yX2_takeBack cX2_takeBack 2 none ({ frames := 2, cells := 0, slots := 0, locals := 122 } : Room) FX2_takeBack := az_met_of (own := RX2) (by decide +kernel) rfl (by decide) (fun X Q C => by
  have h17 := az_bipush (x := (nI 7)) C dX2_takeBack_17 (by decide +kernel) (az_keep [true, true] (okLX2_takeBack_19 C))
  have h14 := az_goto (tgt := 19) C dX2_takeBack_14 (by decide) (az_keep [true, true] (okLX2_takeBack_19 C))
  have h13 := az_isub C dX2_takeBack_13 h14
  have h12 := az_iconst (x := (nI 1)) C dX2_takeBack_12 (by decide +kernel) h13
  have h9 := az_getI (T := TX2) (N := 3) (j := 1) C gwRX2 rfl (by decide) (by decide) iIRX2_1 mFRX2_17 rfl dX2_takeBack_9 h12
  have h8 := az_aload_n C 0 rfl dX2_takeBack_8 h9
  have h5 := az_if_le (tgt := 17) C dX2_takeBack_5 (by decide) h17 h8
  have h2 := az_getI (T := TX2) (N := 3) (j := 1) C gwRX2 rfl (by decide) (by decide) iIRX2_1 mFRX2_17 rfl dX2_takeBack_2 h5
  have h1 := az_aload_n C 0 rfl dX2_takeBack_1 h2
  have h0 := az_aload_n C 0 rfl dX2_takeBack_0 h1
  exact h0) l
theorem dX2_forget_0 : decode cX2_forget 0 = .ok (.aload_n 0, 1) := by decide +kernel
theorem dX2_forget_1 : decode cX2_forget 1 = .ok (.iconst 0, 1) := by decide +kernel
theorem dX2_forget_2 : decode cX2_forget 2 = .ok (.putfield 21, 3) := by decide +kernel
theorem dX2_forget_5 : decode cX2_forget 5 = .ok (.return_, 1) := by decide +kernel
def PX2_forget (Q : Option Value → az_M → Prop) : az_T := (s_la 0 (s_ic (nI 0) (s_pi 4 2 (s_rv Q))))
def FX2_forget : az_F := az_fun [true] 1 PX2_forget
theorem okX2_forget (l : Launch) : az_met l yX2_forget cX2_forget 1 none ({ frames := 1, cells := 0, slots := 0, locals := 100 } : Room) FX2_forget := az_met_of (own := RX2) (by decide +kernel) rfl (by decide) (fun X Q C => by
  have h5 := az_vreturn C rfl dX2_forget_5
  have h2 := az_putI (T := TX2) (N := 3) (j := 2) C gwRX2 rfl (by decide) (by decide) tyX2 tyX2_ok nmX2 iIRX2_2 (by decide +kernel) rfl mFRX2_21 rfl dX2_forget_2 h5
  have h1 := az_iconst (x := (nI 0)) C dX2_forget_1 (by decide +kernel) h2
  have h0 := az_aload_n C 0 rfl dX2_forget_0 h1
  exact h0) l
theorem dX3_isDearer_0 : decode cX3_isDearer 0 = .ok (.iload_n 2, 1) := by decide +kernel
theorem dX3_isDearer_1 : decode cX3_isDearer 1 = .ok (.ifCond .ne 20, 3) := by decide +kernel
theorem dX3_isDearer_4 : decode cX3_isDearer 4 = .ok (.aload_n 0, 1) := by decide +kernel
theorem dX3_isDearer_5 : decode cX3_isDearer 5 = .ok (.bipush 12, 2) := by decide +kernel
theorem dX3_isDearer_7 : decode cX3_isDearer 7 = .ok (.iaload, 1) := by decide +kernel
theorem dX3_isDearer_8 : decode cX3_isDearer 8 = .ok (.aload_n 1, 1) := by decide +kernel
theorem dX3_isDearer_9 : decode cX3_isDearer 9 = .ok (.bipush 12, 2) := by decide +kernel
theorem dX3_isDearer_11 : decode cX3_isDearer 11 = .ok (.iaload, 1) := by decide +kernel
theorem dX3_isDearer_12 : decode cX3_isDearer 12 = .ok (.if_icmp .le 7, 3) := by decide +kernel
theorem dX3_isDearer_15 : decode cX3_isDearer 15 = .ok (.iconst 1, 1) := by decide +kernel
theorem dX3_isDearer_16 : decode cX3_isDearer 16 = .ok (.goto 4, 3) := by decide +kernel
theorem dX3_isDearer_19 : decode cX3_isDearer 19 = .ok (.iconst 0, 1) := by decide +kernel
theorem dX3_isDearer_20 : decode cX3_isDearer 20 = .ok (.ireturn, 1) := by decide +kernel
theorem dX3_isDearer_21 : decode cX3_isDearer 21 = .ok (.aload_n 0, 1) := by decide +kernel
theorem dX3_isDearer_22 : decode cX3_isDearer 22 = .ok (.bipush 12, 2) := by decide +kernel
theorem dX3_isDearer_24 : decode cX3_isDearer 24 = .ok (.iaload, 1) := by decide +kernel
theorem dX3_isDearer_25 : decode cX3_isDearer 25 = .ok (.aload_n 0, 1) := by decide +kernel
theorem dX3_isDearer_26 : decode cX3_isDearer 26 = .ok (.bipush 10, 2) := by decide +kernel
theorem dX3_isDearer_28 : decode cX3_isDearer 28 = .ok (.iaload, 1) := by decide +kernel
theorem dX3_isDearer_29 : decode cX3_isDearer 29 = .ok (.imul, 1) := by decide +kernel
theorem dX3_isDearer_30 : decode cX3_isDearer 30 = .ok (.aload_n 0, 1) := by decide +kernel
theorem dX3_isDearer_31 : decode cX3_isDearer 31 = .ok (.iconst 0, 1) := by decide +kernel
theorem dX3_isDearer_32 : decode cX3_isDearer 32 = .ok (.iaload, 1) := by decide +kernel
theorem dX3_isDearer_33 : decode cX3_isDearer 33 = .ok (.iadd, 1) := by decide +kernel
theorem dX3_isDearer_34 : decode cX3_isDearer 34 = .ok (.istore_n 3, 1) := by decide +kernel
theorem dX3_isDearer_35 : decode cX3_isDearer 35 = .ok (.aload_n 1, 1) := by decide +kernel
theorem dX3_isDearer_36 : decode cX3_isDearer 36 = .ok (.bipush 12, 2) := by decide +kernel
theorem dX3_isDearer_38 : decode cX3_isDearer 38 = .ok (.iaload, 1) := by decide +kernel
theorem dX3_isDearer_39 : decode cX3_isDearer 39 = .ok (.aload_n 1, 1) := by decide +kernel
theorem dX3_isDearer_40 : decode cX3_isDearer 40 = .ok (.bipush 10, 2) := by decide +kernel
theorem dX3_isDearer_42 : decode cX3_isDearer 42 = .ok (.iaload, 1) := by decide +kernel
theorem dX3_isDearer_43 : decode cX3_isDearer 43 = .ok (.imul, 1) := by decide +kernel
theorem dX3_isDearer_44 : decode cX3_isDearer 44 = .ok (.aload_n 1, 1) := by decide +kernel
theorem dX3_isDearer_45 : decode cX3_isDearer 45 = .ok (.iconst 0, 1) := by decide +kernel
theorem dX3_isDearer_46 : decode cX3_isDearer 46 = .ok (.iaload, 1) := by decide +kernel
theorem dX3_isDearer_47 : decode cX3_isDearer 47 = .ok (.iadd, 1) := by decide +kernel
theorem dX3_isDearer_48 : decode cX3_isDearer 48 = .ok (.istore 4, 2) := by decide +kernel
theorem dX3_isDearer_50 : decode cX3_isDearer 50 = .ok (.iload_n 3, 1) := by decide +kernel
theorem dX3_isDearer_51 : decode cX3_isDearer 51 = .ok (.aload_n 1, 1) := by decide +kernel
theorem dX3_isDearer_52 : decode cX3_isDearer 52 = .ok (.bipush 10, 2) := by decide +kernel
theorem dX3_isDearer_54 : decode cX3_isDearer 54 = .ok (.iaload, 1) := by decide +kernel
theorem dX3_isDearer_55 : decode cX3_isDearer 55 = .ok (.imul, 1) := by decide +kernel
theorem dX3_isDearer_56 : decode cX3_isDearer 56 = .ok (.iload 4, 2) := by decide +kernel
theorem dX3_isDearer_58 : decode cX3_isDearer 58 = .ok (.aload_n 0, 1) := by decide +kernel
theorem dX3_isDearer_59 : decode cX3_isDearer 59 = .ok (.bipush 10, 2) := by decide +kernel
theorem dX3_isDearer_61 : decode cX3_isDearer 61 = .ok (.iaload, 1) := by decide +kernel
theorem dX3_isDearer_62 : decode cX3_isDearer 62 = .ok (.imul, 1) := by decide +kernel
theorem dX3_isDearer_63 : decode cX3_isDearer 63 = .ok (.if_icmp .le 7, 3) := by decide +kernel
theorem dX3_isDearer_66 : decode cX3_isDearer 66 = .ok (.iconst 1, 1) := by decide +kernel
theorem dX3_isDearer_67 : decode cX3_isDearer 67 = .ok (.goto 4, 3) := by decide +kernel
theorem dX3_isDearer_70 : decode cX3_isDearer 70 = .ok (.iconst 0, 1) := by decide +kernel
theorem dX3_isDearer_71 : decode cX3_isDearer 71 = .ok (.ireturn, 1) := by decide +kernel
def LX3_isDearer_71 (Q : Option Value → az_M → Prop) : az_T := (s_rz Q)
theorem okLX3_isDearer_71 {X : az_X} {Q : Option Value → az_M → Prop} (C : az_C X cX3_isDearer 5 RX3 (az_ts yX3_isDearer cX3_isDearer 5 (some .boolean)) ({ frames := 1, cells := 0, slots := 0, locals := 100 } : Room) (some .boolean) Q) : az_ok X 71 (LX3_isDearer_71 Q) := by
  have h71 := az_zreturn C rfl dX3_isDearer_71
  exact h71
def LX3_isDearer_20 (Q : Option Value → az_M → Prop) : az_T := (s_rz Q)
theorem okLX3_isDearer_20 {X : az_X} {Q : Option Value → az_M → Prop} (C : az_C X cX3_isDearer 5 RX3 (az_ts yX3_isDearer cX3_isDearer 5 (some .boolean)) ({ frames := 1, cells := 0, slots := 0, locals := 100 } : Room) (some .boolean) Q) : az_ok X 20 (LX3_isDearer_20 Q) := by
  have h20 := az_zreturn C rfl dX3_isDearer_20
  exact h20
def PX3_isDearer (Q : Option Value → az_M → Prop) : az_T := (s_li 2 (s_if c_ne (s_la 0 (s_ic (nI 12) (s_al 20 (s_la 0 (s_ic (nI 10) (s_al 20 (s_bin f_mul (s_la 0 (s_ic (nI 0) (s_al 20 (s_bin f_add (s_si 3 (s_la 1 (s_ic (nI 12) (s_al 20 (s_la 1 (s_ic (nI 10) (s_al 20 (s_bin f_mul (s_la 1 (s_ic (nI 0) (s_al 20 (s_bin f_add (s_si 4 (s_li 3 (s_la 1 (s_ic (nI 10) (s_al 20 (s_bin f_mul (s_li 4 (s_la 0 (s_ic (nI 10) (s_al 20 (s_bin f_mul (s_if2 d_le (s_ic (nI 0) (s_kp [false, false, false, false, false] (LX3_isDearer_71 Q))) (s_ic (nI 1) (s_kp [false, false, false, false, false] (LX3_isDearer_71 Q)))))))))))))))))))))))))))))))))))))) (s_la 0 (s_ic (nI 12) (s_al 20 (s_la 1 (s_ic (nI 12) (s_al 20 (s_if2 d_le (s_ic (nI 0) (s_kp [false, false, false, false, false] (LX3_isDearer_20 Q))) (s_ic (nI 1) (s_kp [false, false, false, false, false] (LX3_isDearer_20 Q))))))))))))
def FX3_isDearer : az_F := az_fun [true, true, false] 5 PX3_isDearer
theorem okX3_isDearer (l : Launch) : az_met l yX3_isDearer cX3_isDearer 5 (some .boolean) ({ frames := 1, cells := 0, slots := 0, locals := 100 } : Room) FX3_isDearer := az_met_of (own := RX3) (by decide +kernel) rfl (by decide) (fun X Q C => by
  have h70 := az_iconst (x := (nI 0)) C dX3_isDearer_70 (by decide +kernel) (az_keep [false, false, false, false, false] (okLX3_isDearer_71 C))
  have h67 := az_goto (tgt := 71) C dX3_isDearer_67 (by decide) (az_keep [false, false, false, false, false] (okLX3_isDearer_71 C))
  have h66 := az_iconst (x := (nI 1)) C dX3_isDearer_66 (by decide +kernel) h67
  have h63 := az_icmp_le (tgt := 70) C dX3_isDearer_63 (by decide) h70 h66
  have h62 := az_imul C dX3_isDearer_62 h63
  have h61 := az_iald C dX3_isDearer_61 h62
  have h59 := az_bipush (x := (nI 10)) C dX3_isDearer_59 (by decide +kernel) h61
  have h58 := az_aload_n C 0 rfl dX3_isDearer_58 h59
  have h56 := az_iload C dX3_isDearer_56 h58
  have h55 := az_imul C dX3_isDearer_55 h56
  have h54 := az_iald C dX3_isDearer_54 h55
  have h52 := az_bipush (x := (nI 10)) C dX3_isDearer_52 (by decide +kernel) h54
  have h51 := az_aload_n C 1 rfl dX3_isDearer_51 h52
  have h50 := az_iload_n C 3 rfl dX3_isDearer_50 h51
  have h48 := az_istore C (by decide) dX3_isDearer_48 h50
  have h47 := az_iadd C dX3_isDearer_47 h48
  have h46 := az_iald C dX3_isDearer_46 h47
  have h45 := az_iconst (x := (nI 0)) C dX3_isDearer_45 (by decide +kernel) h46
  have h44 := az_aload_n C 1 rfl dX3_isDearer_44 h45
  have h43 := az_imul C dX3_isDearer_43 h44
  have h42 := az_iald C dX3_isDearer_42 h43
  have h40 := az_bipush (x := (nI 10)) C dX3_isDearer_40 (by decide +kernel) h42
  have h39 := az_aload_n C 1 rfl dX3_isDearer_39 h40
  have h38 := az_iald C dX3_isDearer_38 h39
  have h36 := az_bipush (x := (nI 12)) C dX3_isDearer_36 (by decide +kernel) h38
  have h35 := az_aload_n C 1 rfl dX3_isDearer_35 h36
  have h34 := az_istore_n C 3 rfl (by decide) dX3_isDearer_34 h35
  have h33 := az_iadd C dX3_isDearer_33 h34
  have h32 := az_iald C dX3_isDearer_32 h33
  have h31 := az_iconst (x := (nI 0)) C dX3_isDearer_31 (by decide +kernel) h32
  have h30 := az_aload_n C 0 rfl dX3_isDearer_30 h31
  have h29 := az_imul C dX3_isDearer_29 h30
  have h28 := az_iald C dX3_isDearer_28 h29
  have h26 := az_bipush (x := (nI 10)) C dX3_isDearer_26 (by decide +kernel) h28
  have h25 := az_aload_n C 0 rfl dX3_isDearer_25 h26
  have h24 := az_iald C dX3_isDearer_24 h25
  have h22 := az_bipush (x := (nI 12)) C dX3_isDearer_22 (by decide +kernel) h24
  have h21 := az_aload_n C 0 rfl dX3_isDearer_21 h22
  have h19 := az_iconst (x := (nI 0)) C dX3_isDearer_19 (by decide +kernel) (az_keep [false, false, false, false, false] (okLX3_isDearer_20 C))
  have h16 := az_goto (tgt := 20) C dX3_isDearer_16 (by decide) (az_keep [false, false, false, false, false] (okLX3_isDearer_20 C))
  have h15 := az_iconst (x := (nI 1)) C dX3_isDearer_15 (by decide +kernel) h16
  have h12 := az_icmp_le (tgt := 19) C dX3_isDearer_12 (by decide) h19 h15
  have h11 := az_iald C dX3_isDearer_11 h12
  have h9 := az_bipush (x := (nI 12)) C dX3_isDearer_9 (by decide +kernel) h11
  have h8 := az_aload_n C 1 rfl dX3_isDearer_8 h9
  have h7 := az_iald C dX3_isDearer_7 h8
  have h5 := az_bipush (x := (nI 12)) C dX3_isDearer_5 (by decide +kernel) h7
  have h4 := az_aload_n C 0 rfl dX3_isDearer_4 h5
  have h1 := az_if_ne (tgt := 21) C dX3_isDearer_1 (by decide) h21 h4
  have h0 := az_iload_n C 2 rfl dX3_isDearer_0 h1
  exact h0) l
theorem dX3_sort_0 : decode cX3_sort 0 = .ok (.iconst 0, 1) := by decide +kernel
theorem dX3_sort_1 : decode cX3_sort 1 = .ok (.istore_n 3, 1) := by decide +kernel
theorem dX3_sort_2 : decode cX3_sort 2 = .ok (.iload_n 3, 1) := by decide +kernel
theorem dX3_sort_3 : decode cX3_sort 3 = .ok (.aload_n 0, 1) := by decide +kernel
theorem dX3_sort_4 : decode cX3_sort 4 = .ok (.getfield 34, 3) := by decide +kernel
theorem dX3_sort_7 : decode cX3_sort 7 = .ok (.if_icmp .ge 71, 3) := by decide +kernel
theorem dX3_sort_10 : decode cX3_sort 10 = .ok (.iload_n 3, 1) := by decide +kernel
theorem dX3_sort_11 : decode cX3_sort 11 = .ok (.istore 4, 2) := by decide +kernel
theorem dX3_sort_13 : decode cX3_sort 13 = .ok (.iload_n 3, 1) := by decide +kernel
theorem dX3_sort_14 : decode cX3_sort 14 = .ok (.istore 5, 2) := by decide +kernel
theorem dX3_sort_16 : decode cX3_sort 16 = .ok (.iload 5, 2) := by decide +kernel
theorem dX3_sort_18 : decode cX3_sort 18 = .ok (.ifCond .le 49, 3) := by decide +kernel
theorem dX3_sort_21 : decode cX3_sort 21 = .ok (.aload_n 0, 1) := by decide +kernel
theorem dX3_sort_22 : decode cX3_sort 22 = .ok (.getfield 60, 3) := by decide +kernel
theorem dX3_sort_25 : decode cX3_sort 25 = .ok (.aload_n 1, 1) := by decide +kernel
theorem dX3_sort_26 : decode cX3_sort 26 = .ok (.iload 5, 2) := by decide +kernel
theorem dX3_sort_28 : decode cX3_sort 28 = .ok (.iconst 1, 1) := by decide +kernel
theorem dX3_sort_29 : decode cX3_sort 29 = .ok (.isub, 1) := by decide +kernel
theorem dX3_sort_30 : decode cX3_sort 30 = .ok (.iaload, 1) := by decide +kernel
theorem dX3_sort_31 : decode cX3_sort 31 = .ok (.aaload, 1) := by decide +kernel
theorem dX3_sort_32 : decode cX3_sort 32 = .ok (.aload_n 0, 1) := by decide +kernel
theorem dX3_sort_33 : decode cX3_sort 33 = .ok (.getfield 60, 3) := by decide +kernel
theorem dX3_sort_36 : decode cX3_sort 36 = .ok (.iload_n 3, 1) := by decide +kernel
theorem dX3_sort_37 : decode cX3_sort 37 = .ok (.aaload, 1) := by decide +kernel
theorem dX3_sort_38 : decode cX3_sort 38 = .ok (.iload_n 2, 1) := by decide +kernel
theorem dX3_sort_39 : decode cX3_sort 39 = .ok (.invokestatic 90, 3) := by decide +kernel
theorem dX3_sort_42 : decode cX3_sort 42 = .ok (.ifCond .eq 25, 3) := by decide +kernel
theorem dX3_sort_45 : decode cX3_sort 45 = .ok (.aload_n 1, 1) := by decide +kernel
theorem dX3_sort_46 : decode cX3_sort 46 = .ok (.iload 5, 2) := by decide +kernel
theorem dX3_sort_48 : decode cX3_sort 48 = .ok (.aload_n 1, 1) := by decide +kernel
theorem dX3_sort_49 : decode cX3_sort 49 = .ok (.iload 5, 2) := by decide +kernel
theorem dX3_sort_51 : decode cX3_sort 51 = .ok (.iconst 1, 1) := by decide +kernel
theorem dX3_sort_52 : decode cX3_sort 52 = .ok (.isub, 1) := by decide +kernel
theorem dX3_sort_53 : decode cX3_sort 53 = .ok (.iaload, 1) := by decide +kernel
theorem dX3_sort_54 : decode cX3_sort 54 = .ok (.iastore, 1) := by decide +kernel
theorem dX3_sort_55 : decode cX3_sort 55 = .ok (.iload 5, 2) := by decide +kernel
theorem dX3_sort_57 : decode cX3_sort 57 = .ok (.iconst 1, 1) := by decide +kernel
theorem dX3_sort_58 : decode cX3_sort 58 = .ok (.isub, 1) := by decide +kernel
theorem dX3_sort_59 : decode cX3_sort 59 = .ok (.istore 4, 2) := by decide +kernel
theorem dX3_sort_61 : decode cX3_sort 61 = .ok (.iinc 5 (-1), 3) := by decide +kernel
theorem dX3_sort_64 : decode cX3_sort 64 = .ok (.goto (-48), 3) := by decide +kernel
theorem dX3_sort_67 : decode cX3_sort 67 = .ok (.aload_n 1, 1) := by decide +kernel
theorem dX3_sort_68 : decode cX3_sort 68 = .ok (.iload 4, 2) := by decide +kernel
theorem dX3_sort_70 : decode cX3_sort 70 = .ok (.iload_n 3, 1) := by decide +kernel
theorem dX3_sort_71 : decode cX3_sort 71 = .ok (.iastore, 1) := by decide +kernel
theorem dX3_sort_72 : decode cX3_sort 72 = .ok (.iinc 3 1, 3) := by decide +kernel
theorem dX3_sort_75 : decode cX3_sort 75 = .ok (.goto (-73), 3) := by decide +kernel
theorem dX3_sort_78 : decode cX3_sort 78 = .ok (.return_, 1) := by decide +kernel
def LX3_sort_67 (Q : Option Value → az_M → Prop) (Z2 : az_T) : az_T := (s_la 1 (s_li 4 (s_li 3 (s_as (s_inc 3 (nI 1) (s_kp [true, true, true, true, false, false] Z2))))))
theorem okLX3_sort_67 {X : az_X} {Q : Option Value → az_M → Prop} (C : az_C X cX3_sort 6 RX3 (az_ts yX3_sort cX3_sort 6 none) ({ frames := 2, cells := 0, slots := 0, locals := 124 } : Room) none Q) {Z2 : az_T} (hZ2 : az_ok X 2 Z2) : az_ok X 67 (LX3_sort_67 Q Z2) := by
  have h75 := az_goto (tgt := 2) C dX3_sort_75 (by decide) (az_keep [true, true, true, true, false, false] hZ2)
  have h72 := az_iinc (v := (nI 1)) C (by decide) (by decide +kernel) dX3_sort_72 h75
  have h71 := az_iast C dX3_sort_71 h72
  have h70 := az_iload_n C 3 rfl dX3_sort_70 h71
  have h68 := az_iload C dX3_sort_68 h70
  have h67 := az_aload_n C 1 rfl dX3_sort_67 h68
  exact h67
def BX3_sort_16 (Q : Option Value → az_M → Prop) (Z2 : az_T) (Z16 : az_T) : az_T := (s_li 5 (s_if c_le (s_kp [true, true, true, true, true, false] (LX3_sort_67 Q Z2)) (s_la 0 (s_gr 9 5 (s_la 1 (s_li 5 (s_ic (nI 1) (s_bin f_sub (s_al 20 (s_aa 25 (s_la 0 (s_gr 9 5 (s_li 3 (s_aa 25 (s_li 2 (s_cs 3 FX3_isDearer (s_if c_eq (s_kp [true, true, true, true, true, false] (LX3_sort_67 Q Z2)) (s_la 1 (s_li 5 (s_la 1 (s_li 5 (s_ic (nI 1) (s_bin f_sub (s_al 20 (s_as (s_li 5 (s_ic (nI 1) (s_bin f_sub (s_si 4 (s_inc 5 (-1) (s_kp [true, true, true, true, true, true] Z16)))))))))))))))))))))))))))))))
theorem okBX3_sort_16 {X : az_X} {Q : Option Value → az_M → Prop} (C : az_C X cX3_sort 6 RX3 (az_ts yX3_sort cX3_sort 6 none) ({ frames := 2, cells := 0, slots := 0, locals := 124 } : Room) none Q) {Z2 : az_T} (hZ2 : az_ok X 2 Z2) {Z16 : az_T} (hZ16 : az_ok X 16 Z16) : az_ok X 16 (BX3_sort_16 Q Z2 Z16) := by
  have h64 := az_goto (tgt := 16) C dX3_sort_64 (by decide) (az_keep [true, true, true, true, true, true] hZ16)
  have h61 := az_iinc (v := (-1)) C (by decide) (by decide +kernel) dX3_sort_61 h64
  have h59 := az_istore C (by decide) dX3_sort_59 h61
  have h58 := az_isub C dX3_sort_58 h59
  have h57 := az_iconst (x := (nI 1)) C dX3_sort_57 (by decide +kernel) h58
  have h55 := az_iload C dX3_sort_55 h57
  have h54 := az_iast C dX3_sort_54 h55
  have h53 := az_iald C dX3_sort_53 h54
  have h52 := az_isub C dX3_sort_52 h53
  have h51 := az_iconst (x := (nI 1)) C dX3_sort_51 (by decide +kernel) h52
  have h49 := az_iload C dX3_sort_49 h51
  have h48 := az_aload_n C 1 rfl dX3_sort_48 h49
  have h46 := az_iload C dX3_sort_46 h48
  have h45 := az_aload_n C 1 rfl dX3_sort_45 h46
  have h42 := az_if_eq (tgt := 67) C dX3_sort_42 (by decide) (az_keep [true, true, true, true, true, false] (okLX3_sort_67 C hZ2)) h45
  have h39 := az_callS C okX3_isDearer knX3_isDearer stX3_isDearer mLRX3_90 ⟨rfl, rfl, by decide, by decide⟩ dX3_sort_39 h42
  have h38 := az_iload_n C 2 rfl dX3_sort_38 h39
  have h37 := az_aald2 C dX3_sort_37 h38
  have h36 := az_iload_n C 3 rfl dX3_sort_36 h37
  have h33 := az_getR (T := TX8) (N := 11) (j := 5) C gwRX8 rfl (by decide) (by decide) iIRX8_5 mFRX3_60 rfl dX3_sort_33 h36
  have h32 := az_aload_n C 0 rfl dX3_sort_32 h33
  have h31 := az_aald2 C dX3_sort_31 h32
  have h30 := az_iald C dX3_sort_30 h31
  have h29 := az_isub C dX3_sort_29 h30
  have h28 := az_iconst (x := (nI 1)) C dX3_sort_28 (by decide +kernel) h29
  have h26 := az_iload C dX3_sort_26 h28
  have h25 := az_aload_n C 1 rfl dX3_sort_25 h26
  have h22 := az_getR (T := TX8) (N := 11) (j := 5) C gwRX8 rfl (by decide) (by decide) iIRX8_5 mFRX3_60 rfl dX3_sort_22 h25
  have h21 := az_aload_n C 0 rfl dX3_sort_21 h22
  have h18 := az_if_le (tgt := 67) C dX3_sort_18 (by decide) (az_keep [true, true, true, true, true, false] (okLX3_sort_67 C hZ2)) h21
  have h16 := az_iload C dX3_sort_16 h18
  exact h16
def LX3_sort_16 (Q : Option Value → az_M → Prop) (Z2 : az_T) : az_T := s_lp (fun Z => BX3_sort_16 Q Z2 Z)
theorem okLX3_sort_16 {X : az_X} {Q : Option Value → az_M → Prop} (C : az_C X cX3_sort 6 RX3 (az_ts yX3_sort cX3_sort 6 none) ({ frames := 2, cells := 0, slots := 0, locals := 124 } : Room) none Q) {Z2 : az_T} (hZ2 : az_ok X 2 Z2) : az_ok X 16 (LX3_sort_16 Q Z2) := az_loop (F := fun Z => BX3_sort_16 Q Z2 Z) (fun _ hZ => okBX3_sort_16 C hZ2 hZ)
def BX3_sort_2 (Q : Option Value → az_M → Prop) (Z2 : az_T) : az_T := (s_li 3 (s_la 0 (s_gi 9 3 (s_if2 d_ge (s_rv Q) (s_li 3 (s_si 4 (s_li 3 (s_si 5 (s_kp [true, true, true, true, true, true] (LX3_sort_16 Q Z2))))))))))
theorem okBX3_sort_2 {X : az_X} {Q : Option Value → az_M → Prop} (C : az_C X cX3_sort 6 RX3 (az_ts yX3_sort cX3_sort 6 none) ({ frames := 2, cells := 0, slots := 0, locals := 124 } : Room) none Q) {Z2 : az_T} (hZ2 : az_ok X 2 Z2) : az_ok X 2 (BX3_sort_2 Q Z2) := by
  have h78 := az_vreturn C rfl dX3_sort_78
  have h14 := az_istore C (by decide) dX3_sort_14 (az_keep [true, true, true, true, true, true] (okLX3_sort_16 C hZ2))
  have h13 := az_iload_n C 3 rfl dX3_sort_13 h14
  have h11 := az_istore C (by decide) dX3_sort_11 h13
  have h10 := az_iload_n C 3 rfl dX3_sort_10 h11
  have h7 := az_icmp_ge (tgt := 78) C dX3_sort_7 (by decide) h78 h10
  have h4 := az_getI (T := TX8) (N := 11) (j := 3) C gwRX8 rfl (by decide) (by decide) iIRX8_3 mFRX3_34 rfl dX3_sort_4 h7
  have h3 := az_aload_n C 0 rfl dX3_sort_3 h4
  have h2 := az_iload_n C 3 rfl dX3_sort_2 h3
  exact h2
def LX3_sort_2 (Q : Option Value → az_M → Prop) : az_T := s_lp (fun Z => BX3_sort_2 Q Z)
theorem okLX3_sort_2 {X : az_X} {Q : Option Value → az_M → Prop} (C : az_C X cX3_sort 6 RX3 (az_ts yX3_sort cX3_sort 6 none) ({ frames := 2, cells := 0, slots := 0, locals := 124 } : Room) none Q) : az_ok X 2 (LX3_sort_2 Q) := az_loop (F := fun Z => BX3_sort_2 Q Z) (fun _ hZ => okBX3_sort_2 C hZ)
def PX3_sort (Q : Option Value → az_M → Prop) : az_T := (s_ic (nI 0) (s_si 3 (s_kp [true, true, true, true, false, false] (LX3_sort_2 Q))))
def FX3_sort : az_F := az_fun [true, true, false] 6 PX3_sort
theorem okX3_sort (l : Launch) : az_met l yX3_sort cX3_sort 6 none ({ frames := 2, cells := 0, slots := 0, locals := 124 } : Room) FX3_sort := az_met_of (own := RX3) (by decide +kernel) rfl (by decide) (fun X Q C => by
  have h1 := az_istore_n C 3 rfl (by decide) dX3_sort_1 (az_keep [true, true, true, true, false, false] (okLX3_sort_2 C))
  have h0 := az_iconst (x := (nI 0)) C dX3_sort_0 (by decide +kernel) h1
  exact h0) l
theorem dX9_runs_0 : decode cX9_runs 0 = .ok (.aload_n 0, 1) := by decide +kernel
theorem dX9_runs_1 : decode cX9_runs 1 = .ok (.getfield 9, 3) := by decide +kernel
theorem dX9_runs_4 : decode cX9_runs 4 = .ok (.iload_n 2, 1) := by decide +kernel
theorem dX9_runs_5 : decode cX9_runs 5 = .ok (.iaload, 1) := by decide +kernel
theorem dX9_runs_6 : decode cX9_runs 6 = .ok (.iload_n 1, 1) := by decide +kernel
theorem dX9_runs_7 : decode cX9_runs 7 = .ok (.ishr, 1) := by decide +kernel
theorem dX9_runs_8 : decode cX9_runs 8 = .ok (.iconst 1, 1) := by decide +kernel
theorem dX9_runs_9 : decode cX9_runs 9 = .ok (.iand, 1) := by decide +kernel
theorem dX9_runs_10 : decode cX9_runs 10 = .ok (.iconst 1, 1) := by decide +kernel
theorem dX9_runs_11 : decode cX9_runs 11 = .ok (.if_icmp .ne 7, 3) := by decide +kernel
theorem dX9_runs_14 : decode cX9_runs 14 = .ok (.iconst 1, 1) := by decide +kernel
theorem dX9_runs_15 : decode cX9_runs 15 = .ok (.goto 4, 3) := by decide +kernel
theorem dX9_runs_18 : decode cX9_runs 18 = .ok (.iconst 0, 1) := by decide +kernel
theorem dX9_runs_19 : decode cX9_runs 19 = .ok (.ireturn, 1) := by decide +kernel
def LX9_runs_19 (Q : Option Value → az_M → Prop) : az_T := (s_rz Q)
theorem okLX9_runs_19 {X : az_X} {Q : Option Value → az_M → Prop} (C : az_C X cX9_runs 3 RX9 (az_ts yX9_runs cX9_runs 3 (some .boolean)) ({ frames := 1, cells := 0, slots := 0, locals := 100 } : Room) (some .boolean) Q) : az_ok X 19 (LX9_runs_19 Q) := by
  have h19 := az_zreturn C rfl dX9_runs_19
  exact h19
def PX9_runs (Q : Option Value → az_M → Prop) : az_T := (s_la 0 (s_gr 10 0 (s_li 2 (s_al 20 (s_li 1 (s_bin f_shr (s_ic (nI 1) (s_bin f_and (s_ic (nI 1) (s_if2 d_ne (s_ic (nI 0) (s_kp [false, false, false] (LX9_runs_19 Q))) (s_ic (nI 1) (s_kp [false, false, false] (LX9_runs_19 Q)))))))))))))
def FX9_runs : az_F := az_fun [true, false, false] 3 PX9_runs
theorem okX9_runs (l : Launch) : az_met l yX9_runs cX9_runs 3 (some .boolean) ({ frames := 1, cells := 0, slots := 0, locals := 100 } : Room) FX9_runs := az_met_of (own := RX9) (by decide +kernel) rfl (by decide) (fun X Q C => by
  have h18 := az_iconst (x := (nI 0)) C dX9_runs_18 (by decide +kernel) (az_keep [false, false, false] (okLX9_runs_19 C))
  have h15 := az_goto (tgt := 19) C dX9_runs_15 (by decide) (az_keep [false, false, false] (okLX9_runs_19 C))
  have h14 := az_iconst (x := (nI 1)) C dX9_runs_14 (by decide +kernel) h15
  have h11 := az_icmp_ne (tgt := 18) C dX9_runs_11 (by decide) h18 h14
  have h10 := az_iconst (x := (nI 1)) C dX9_runs_10 (by decide +kernel) h11
  have h9 := az_iand C dX9_runs_9 h10
  have h8 := az_iconst (x := (nI 1)) C dX9_runs_8 (by decide +kernel) h9
  have h7 := az_ishr C dX9_runs_7 h8
  have h6 := az_iload_n C 1 rfl dX9_runs_6 h7
  have h5 := az_iald C dX9_runs_5 h6
  have h4 := az_iload_n C 2 rfl dX9_runs_4 h5
  have h1 := az_getR (T := TX9) (N := 3) (j := 0) C gwRX9 rfl (by decide) (by decide) iIRX9_0 mFRX9_9 rfl dX9_runs_1 h4
  have h0 := az_aload_n C 0 rfl dX9_runs_0 h1
  exact h0) l
theorem dX9_advance_0 : decode cX9_advance 0 = .ok (.iconst 0, 1) := by decide +kernel
theorem dX9_advance_1 : decode cX9_advance 1 = .ok (.istore_n 3, 1) := by decide +kernel
theorem dX9_advance_2 : decode cX9_advance 2 = .ok (.iload_n 3, 1) := by decide +kernel
theorem dX9_advance_3 : decode cX9_advance 3 = .ok (.aload_n 1, 1) := by decide +kernel
theorem dX9_advance_4 : decode cX9_advance 4 = .ok (.getfield 23, 3) := by decide +kernel
theorem dX9_advance_7 : decode cX9_advance 7 = .ok (.if_icmp .ge 128, 3) := by decide +kernel
theorem dX9_advance_10 : decode cX9_advance 10 = .ok (.iload_n 2, 1) := by decide +kernel
theorem dX9_advance_11 : decode cX9_advance 11 = .ok (.ifCond .ne 46, 3) := by decide +kernel
theorem dX9_advance_14 : decode cX9_advance 14 = .ok (.aload_n 1, 1) := by decide +kernel
theorem dX9_advance_15 : decode cX9_advance 15 = .ok (.getfield 29, 3) := by decide +kernel
theorem dX9_advance_18 : decode cX9_advance 18 = .ok (.iload_n 3, 1) := by decide +kernel
theorem dX9_advance_19 : decode cX9_advance 19 = .ok (.aaload, 1) := by decide +kernel
theorem dX9_advance_20 : decode cX9_advance 20 = .ok (.bipush 6, 2) := by decide +kernel
theorem dX9_advance_22 : decode cX9_advance 22 = .ok (.iaload, 1) := by decide +kernel
theorem dX9_advance_23 : decode cX9_advance 23 = .ok (.istore 4, 2) := by decide +kernel
theorem dX9_advance_25 : decode cX9_advance 25 = .ok (.aload_n 0, 1) := by decide +kernel
theorem dX9_advance_26 : decode cX9_advance 26 = .ok (.getfield 17, 3) := by decide +kernel
theorem dX9_advance_29 : decode cX9_advance 29 = .ok (.iload_n 3, 1) := by decide +kernel
theorem dX9_advance_30 : decode cX9_advance 30 = .ok (.aaload, 1) := by decide +kernel
theorem dX9_advance_31 : decode cX9_advance 31 = .ok (.iconst 0, 1) := by decide +kernel
theorem dX9_advance_32 : decode cX9_advance 32 = .ok (.iload 4, 2) := by decide +kernel
theorem dX9_advance_34 : decode cX9_advance 34 = .ok (.iconst 0, 1) := by decide +kernel
theorem dX9_advance_35 : decode cX9_advance 35 = .ok (.invokestatic 32, 3) := by decide +kernel
theorem dX9_advance_38 : decode cX9_advance 38 = .ok (.iastore, 1) := by decide +kernel
theorem dX9_advance_39 : decode cX9_advance 39 = .ok (.aload_n 0, 1) := by decide +kernel
theorem dX9_advance_40 : decode cX9_advance 40 = .ok (.getfield 20, 3) := by decide +kernel
theorem dX9_advance_43 : decode cX9_advance 43 = .ok (.iload_n 3, 1) := by decide +kernel
theorem dX9_advance_44 : decode cX9_advance 44 = .ok (.aaload, 1) := by decide +kernel
theorem dX9_advance_45 : decode cX9_advance 45 = .ok (.iconst 0, 1) := by decide +kernel
theorem dX9_advance_46 : decode cX9_advance 46 = .ok (.iload 4, 2) := by decide +kernel
theorem dX9_advance_48 : decode cX9_advance 48 = .ok (.ineg, 1) := by decide +kernel
theorem dX9_advance_49 : decode cX9_advance 49 = .ok (.iconst 0, 1) := by decide +kernel
theorem dX9_advance_50 : decode cX9_advance 50 = .ok (.invokestatic 32, 3) := by decide +kernel
theorem dX9_advance_53 : decode cX9_advance 53 = .ok (.iastore, 1) := by decide +kernel
theorem dX9_advance_54 : decode cX9_advance 54 = .ok (.goto 75, 3) := by decide +kernel
theorem dX9_advance_57 : decode cX9_advance 57 = .ok (.aload_n 0, 1) := by decide +kernel
theorem dX9_advance_58 : decode cX9_advance 58 = .ok (.iload_n 3, 1) := by decide +kernel
theorem dX9_advance_59 : decode cX9_advance 59 = .ok (.iload_n 2, 1) := by decide +kernel
theorem dX9_advance_60 : decode cX9_advance 60 = .ok (.iconst 1, 1) := by decide +kernel
theorem dX9_advance_61 : decode cX9_advance 61 = .ok (.isub, 1) := by decide +kernel
theorem dX9_advance_62 : decode cX9_advance 62 = .ok (.invokevirtual 38, 3) := by decide +kernel
theorem dX9_advance_65 : decode cX9_advance 65 = .ok (.ifCond .eq 35, 3) := by decide +kernel
theorem dX9_advance_68 : decode cX9_advance 68 = .ok (.aload_n 0, 1) := by decide +kernel
theorem dX9_advance_69 : decode cX9_advance 69 = .ok (.getfield 17, 3) := by decide +kernel
theorem dX9_advance_72 : decode cX9_advance 72 = .ok (.iload_n 3, 1) := by decide +kernel
theorem dX9_advance_73 : decode cX9_advance 73 = .ok (.aaload, 1) := by decide +kernel
theorem dX9_advance_74 : decode cX9_advance 74 = .ok (.iload_n 2, 1) := by decide +kernel
theorem dX9_advance_75 : decode cX9_advance 75 = .ok (.aload_n 0, 1) := by decide +kernel
theorem dX9_advance_76 : decode cX9_advance 76 = .ok (.getfield 17, 3) := by decide +kernel
theorem dX9_advance_79 : decode cX9_advance 79 = .ok (.iload_n 3, 1) := by decide +kernel
theorem dX9_advance_80 : decode cX9_advance 80 = .ok (.aaload, 1) := by decide +kernel
theorem dX9_advance_81 : decode cX9_advance 81 = .ok (.iload_n 2, 1) := by decide +kernel
theorem dX9_advance_82 : decode cX9_advance 82 = .ok (.iconst 1, 1) := by decide +kernel
theorem dX9_advance_83 : decode cX9_advance 83 = .ok (.isub, 1) := by decide +kernel
theorem dX9_advance_84 : decode cX9_advance 84 = .ok (.iaload, 1) := by decide +kernel
theorem dX9_advance_85 : decode cX9_advance 85 = .ok (.iconst 1, 1) := by decide +kernel
theorem dX9_advance_86 : decode cX9_advance 86 = .ok (.iadd, 1) := by decide +kernel
theorem dX9_advance_87 : decode cX9_advance 87 = .ok (.iastore, 1) := by decide +kernel
theorem dX9_advance_88 : decode cX9_advance 88 = .ok (.aload_n 0, 1) := by decide +kernel
theorem dX9_advance_89 : decode cX9_advance 89 = .ok (.getfield 20, 3) := by decide +kernel
theorem dX9_advance_92 : decode cX9_advance 92 = .ok (.iload_n 3, 1) := by decide +kernel
theorem dX9_advance_93 : decode cX9_advance 93 = .ok (.aaload, 1) := by decide +kernel
theorem dX9_advance_94 : decode cX9_advance 94 = .ok (.iload_n 2, 1) := by decide +kernel
theorem dX9_advance_95 : decode cX9_advance 95 = .ok (.iconst 0, 1) := by decide +kernel
theorem dX9_advance_96 : decode cX9_advance 96 = .ok (.iastore, 1) := by decide +kernel
theorem dX9_advance_97 : decode cX9_advance 97 = .ok (.goto 32, 3) := by decide +kernel
theorem dX9_advance_100 : decode cX9_advance 100 = .ok (.aload_n 0, 1) := by decide +kernel
theorem dX9_advance_101 : decode cX9_advance 101 = .ok (.getfield 17, 3) := by decide +kernel
theorem dX9_advance_104 : decode cX9_advance 104 = .ok (.iload_n 3, 1) := by decide +kernel
theorem dX9_advance_105 : decode cX9_advance 105 = .ok (.aaload, 1) := by decide +kernel
theorem dX9_advance_106 : decode cX9_advance 106 = .ok (.iload_n 2, 1) := by decide +kernel
theorem dX9_advance_107 : decode cX9_advance 107 = .ok (.iconst 0, 1) := by decide +kernel
theorem dX9_advance_108 : decode cX9_advance 108 = .ok (.iastore, 1) := by decide +kernel
theorem dX9_advance_109 : decode cX9_advance 109 = .ok (.aload_n 0, 1) := by decide +kernel
theorem dX9_advance_110 : decode cX9_advance 110 = .ok (.getfield 20, 3) := by decide +kernel
theorem dX9_advance_113 : decode cX9_advance 113 = .ok (.iload_n 3, 1) := by decide +kernel
theorem dX9_advance_114 : decode cX9_advance 114 = .ok (.aaload, 1) := by decide +kernel
theorem dX9_advance_115 : decode cX9_advance 115 = .ok (.iload_n 2, 1) := by decide +kernel
theorem dX9_advance_116 : decode cX9_advance 116 = .ok (.aload_n 0, 1) := by decide +kernel
theorem dX9_advance_117 : decode cX9_advance 117 = .ok (.getfield 20, 3) := by decide +kernel
theorem dX9_advance_120 : decode cX9_advance 120 = .ok (.iload_n 3, 1) := by decide +kernel
theorem dX9_advance_121 : decode cX9_advance 121 = .ok (.aaload, 1) := by decide +kernel
theorem dX9_advance_122 : decode cX9_advance 122 = .ok (.iload_n 2, 1) := by decide +kernel
theorem dX9_advance_123 : decode cX9_advance 123 = .ok (.iconst 1, 1) := by decide +kernel
theorem dX9_advance_124 : decode cX9_advance 124 = .ok (.isub, 1) := by decide +kernel
theorem dX9_advance_125 : decode cX9_advance 125 = .ok (.iaload, 1) := by decide +kernel
theorem dX9_advance_126 : decode cX9_advance 126 = .ok (.iconst 1, 1) := by decide +kernel
theorem dX9_advance_127 : decode cX9_advance 127 = .ok (.iadd, 1) := by decide +kernel
theorem dX9_advance_128 : decode cX9_advance 128 = .ok (.iastore, 1) := by decide +kernel
theorem dX9_advance_129 : decode cX9_advance 129 = .ok (.iinc 3 1, 3) := by decide +kernel
theorem dX9_advance_132 : decode cX9_advance 132 = .ok (.goto (-130), 3) := by decide +kernel
theorem dX9_advance_135 : decode cX9_advance 135 = .ok (.return_, 1) := by decide +kernel
def LX9_advance_129 (Q : Option Value → az_M → Prop) (Z2 : az_T) : az_T := (s_inc 3 (nI 1) (s_kp [true, true, true, true, false] Z2))
theorem okLX9_advance_129 {X : az_X} {Q : Option Value → az_M → Prop} (C : az_C X cX9_advance 5 RX9 (az_ts yX9_advance cX9_advance 5 none) ({ frames := 2, cells := 0, slots := 0, locals := 122 } : Room) none Q) {Z2 : az_T} (hZ2 : az_ok X 2 Z2) : az_ok X 129 (LX9_advance_129 Q Z2) := by
  have h132 := az_goto (tgt := 2) C dX9_advance_132 (by decide) (az_keep [true, true, true, true, false] hZ2)
  have h129 := az_iinc (v := (nI 1)) C (by decide) (by decide +kernel) dX9_advance_129 h132
  exact h129
def BX9_advance_2 (Q : Option Value → az_M → Prop) (Z2 : az_T) : az_T := (s_li 3 (s_la 1 (s_gi 9 3 (s_if2 d_ge (s_rv Q) (s_li 2 (s_if c_ne (s_la 0 (s_li 3 (s_li 2 (s_ic (nI 1) (s_bin f_sub (s_cv 2 10 FX9_runs (s_if c_eq (s_la 0 (s_gr 10 1 (s_li 3 (s_aa 25 (s_li 2 (s_ic (nI 0) (s_as (s_la 0 (s_gr 10 2 (s_li 3 (s_aa 25 (s_li 2 (s_la 0 (s_gr 10 2 (s_li 3 (s_aa 25 (s_li 2 (s_ic (nI 1) (s_bin f_sub (s_al 20 (s_ic (nI 1) (s_bin f_add (s_as (s_kp [true, true, true, true, false] (LX9_advance_129 Q Z2))))))))))))))))))))))))) (s_la 0 (s_gr 10 1 (s_li 3 (s_aa 25 (s_li 2 (s_la 0 (s_gr 10 1 (s_li 3 (s_aa 25 (s_li 2 (s_ic (nI 1) (s_bin f_sub (s_al 20 (s_ic (nI 1) (s_bin f_add (s_as (s_la 0 (s_gr 10 2 (s_li 3 (s_aa 25 (s_li 2 (s_ic (nI 0) (s_as (s_kp [true, true, true, true, false] (LX9_advance_129 Q Z2)))))))))))))))))))))))))))))))) (s_la 1 (s_gr 9 5 (s_li 3 (s_aa 25 (s_ic (nI 6) (s_al 20 (s_si 4 (s_la 0 (s_gr 10 1 (s_li 3 (s_aa 25 (s_ic (nI 0) (s_li 4 (s_ic (nI 0) (s_mx (s_as (s_la 0 (s_gr 10 2 (s_li 3 (s_aa 25 (s_ic (nI 0) (s_li 4 (s_un f_neg (s_ic (nI 0) (s_mx (s_as (s_kp [true, true, true, true, false] (LX9_advance_129 Q Z2))))))))))))))))))))))))))))))))))
theorem okBX9_advance_2 {X : az_X} {Q : Option Value → az_M → Prop} (C : az_C X cX9_advance 5 RX9 (az_ts yX9_advance cX9_advance 5 none) ({ frames := 2, cells := 0, slots := 0, locals := 122 } : Room) none Q) {Z2 : az_T} (hZ2 : az_ok X 2 Z2) : az_ok X 2 (BX9_advance_2 Q Z2) := by
  have h135 := az_vreturn C rfl dX9_advance_135
  have h128 := az_iast C dX9_advance_128 (az_keep [true, true, true, true, false] (okLX9_advance_129 C hZ2))
  have h127 := az_iadd C dX9_advance_127 h128
  have h126 := az_iconst (x := (nI 1)) C dX9_advance_126 (by decide +kernel) h127
  have h125 := az_iald C dX9_advance_125 h126
  have h124 := az_isub C dX9_advance_124 h125
  have h123 := az_iconst (x := (nI 1)) C dX9_advance_123 (by decide +kernel) h124
  have h122 := az_iload_n C 2 rfl dX9_advance_122 h123
  have h121 := az_aald2 C dX9_advance_121 h122
  have h120 := az_iload_n C 3 rfl dX9_advance_120 h121
  have h117 := az_getR (T := TX9) (N := 3) (j := 2) C gwRX9 rfl (by decide) (by decide) iIRX9_2 mFRX9_20 rfl dX9_advance_117 h120
  have h116 := az_aload_n C 0 rfl dX9_advance_116 h117
  have h115 := az_iload_n C 2 rfl dX9_advance_115 h116
  have h114 := az_aald2 C dX9_advance_114 h115
  have h113 := az_iload_n C 3 rfl dX9_advance_113 h114
  have h110 := az_getR (T := TX9) (N := 3) (j := 2) C gwRX9 rfl (by decide) (by decide) iIRX9_2 mFRX9_20 rfl dX9_advance_110 h113
  have h109 := az_aload_n C 0 rfl dX9_advance_109 h110
  have h108 := az_iast C dX9_advance_108 h109
  have h107 := az_iconst (x := (nI 0)) C dX9_advance_107 (by decide +kernel) h108
  have h106 := az_iload_n C 2 rfl dX9_advance_106 h107
  have h105 := az_aald2 C dX9_advance_105 h106
  have h104 := az_iload_n C 3 rfl dX9_advance_104 h105
  have h101 := az_getR (T := TX9) (N := 3) (j := 1) C gwRX9 rfl (by decide) (by decide) iIRX9_1 mFRX9_17 rfl dX9_advance_101 h104
  have h100 := az_aload_n C 0 rfl dX9_advance_100 h101
  have h97 := az_goto (tgt := 129) C dX9_advance_97 (by decide) (az_keep [true, true, true, true, false] (okLX9_advance_129 C hZ2))
  have h96 := az_iast C dX9_advance_96 h97
  have h95 := az_iconst (x := (nI 0)) C dX9_advance_95 (by decide +kernel) h96
  have h94 := az_iload_n C 2 rfl dX9_advance_94 h95
  have h93 := az_aald2 C dX9_advance_93 h94
  have h92 := az_iload_n C 3 rfl dX9_advance_92 h93
  have h89 := az_getR (T := TX9) (N := 3) (j := 2) C gwRX9 rfl (by decide) (by decide) iIRX9_2 mFRX9_20 rfl dX9_advance_89 h92
  have h88 := az_aload_n C 0 rfl dX9_advance_88 h89
  have h87 := az_iast C dX9_advance_87 h88
  have h86 := az_iadd C dX9_advance_86 h87
  have h85 := az_iconst (x := (nI 1)) C dX9_advance_85 (by decide +kernel) h86
  have h84 := az_iald C dX9_advance_84 h85
  have h83 := az_isub C dX9_advance_83 h84
  have h82 := az_iconst (x := (nI 1)) C dX9_advance_82 (by decide +kernel) h83
  have h81 := az_iload_n C 2 rfl dX9_advance_81 h82
  have h80 := az_aald2 C dX9_advance_80 h81
  have h79 := az_iload_n C 3 rfl dX9_advance_79 h80
  have h76 := az_getR (T := TX9) (N := 3) (j := 1) C gwRX9 rfl (by decide) (by decide) iIRX9_1 mFRX9_17 rfl dX9_advance_76 h79
  have h75 := az_aload_n C 0 rfl dX9_advance_75 h76
  have h74 := az_iload_n C 2 rfl dX9_advance_74 h75
  have h73 := az_aald2 C dX9_advance_73 h74
  have h72 := az_iload_n C 3 rfl dX9_advance_72 h73
  have h69 := az_getR (T := TX9) (N := 3) (j := 1) C gwRX9 rfl (by decide) (by decide) iIRX9_1 mFRX9_17 rfl dX9_advance_69 h72
  have h68 := az_aload_n C 0 rfl dX9_advance_68 h69
  have h65 := az_if_eq (tgt := 100) C dX9_advance_65 (by decide) h100 h68
  have h62 := az_callV (ci := 10) C okX9_runs knX9_runs imX9_runs seX9_runs mLRX9_38 rfl (by decide) ⟨rfl, rfl, by decide, by decide⟩ dX9_advance_62 h65
  have h61 := az_isub C dX9_advance_61 h62
  have h60 := az_iconst (x := (nI 1)) C dX9_advance_60 (by decide +kernel) h61
  have h59 := az_iload_n C 2 rfl dX9_advance_59 h60
  have h58 := az_iload_n C 3 rfl dX9_advance_58 h59
  have h57 := az_aload_n C 0 rfl dX9_advance_57 h58
  have h54 := az_goto (tgt := 129) C dX9_advance_54 (by decide) (az_keep [true, true, true, true, false] (okLX9_advance_129 C hZ2))
  have h53 := az_iast C dX9_advance_53 h54
  have h50 := az_mmax C mLRX9_32 mx_st_max mx_ini mx_co_max (by decide) (by decide) dX9_advance_50 h53
  have h49 := az_iconst (x := (nI 0)) C dX9_advance_49 (by decide +kernel) h50
  have h48 := az_ineg C dX9_advance_48 h49
  have h46 := az_iload C dX9_advance_46 h48
  have h45 := az_iconst (x := (nI 0)) C dX9_advance_45 (by decide +kernel) h46
  have h44 := az_aald2 C dX9_advance_44 h45
  have h43 := az_iload_n C 3 rfl dX9_advance_43 h44
  have h40 := az_getR (T := TX9) (N := 3) (j := 2) C gwRX9 rfl (by decide) (by decide) iIRX9_2 mFRX9_20 rfl dX9_advance_40 h43
  have h39 := az_aload_n C 0 rfl dX9_advance_39 h40
  have h38 := az_iast C dX9_advance_38 h39
  have h35 := az_mmax C mLRX9_32 mx_st_max mx_ini mx_co_max (by decide) (by decide) dX9_advance_35 h38
  have h34 := az_iconst (x := (nI 0)) C dX9_advance_34 (by decide +kernel) h35
  have h32 := az_iload C dX9_advance_32 h34
  have h31 := az_iconst (x := (nI 0)) C dX9_advance_31 (by decide +kernel) h32
  have h30 := az_aald2 C dX9_advance_30 h31
  have h29 := az_iload_n C 3 rfl dX9_advance_29 h30
  have h26 := az_getR (T := TX9) (N := 3) (j := 1) C gwRX9 rfl (by decide) (by decide) iIRX9_1 mFRX9_17 rfl dX9_advance_26 h29
  have h25 := az_aload_n C 0 rfl dX9_advance_25 h26
  have h23 := az_istore C (by decide) dX9_advance_23 h25
  have h22 := az_iald C dX9_advance_22 h23
  have h20 := az_bipush (x := (nI 6)) C dX9_advance_20 (by decide +kernel) h22
  have h19 := az_aald2 C dX9_advance_19 h20
  have h18 := az_iload_n C 3 rfl dX9_advance_18 h19
  have h15 := az_getR (T := TX8) (N := 11) (j := 5) C gwRX8 rfl (by decide) (by decide) iIRX8_5 mFRX9_29 rfl dX9_advance_15 h18
  have h14 := az_aload_n C 1 rfl dX9_advance_14 h15
  have h11 := az_if_ne (tgt := 57) C dX9_advance_11 (by decide) h57 h14
  have h10 := az_iload_n C 2 rfl dX9_advance_10 h11
  have h7 := az_icmp_ge (tgt := 135) C dX9_advance_7 (by decide) h135 h10
  have h4 := az_getI (T := TX8) (N := 11) (j := 3) C gwRX8 rfl (by decide) (by decide) iIRX8_3 mFRX9_23 rfl dX9_advance_4 h7
  have h3 := az_aload_n C 1 rfl dX9_advance_3 h4
  have h2 := az_iload_n C 3 rfl dX9_advance_2 h3
  exact h2
def LX9_advance_2 (Q : Option Value → az_M → Prop) : az_T := s_lp (fun Z => BX9_advance_2 Q Z)
theorem okLX9_advance_2 {X : az_X} {Q : Option Value → az_M → Prop} (C : az_C X cX9_advance 5 RX9 (az_ts yX9_advance cX9_advance 5 none) ({ frames := 2, cells := 0, slots := 0, locals := 122 } : Room) none Q) : az_ok X 2 (LX9_advance_2 Q) := az_loop (F := fun Z => BX9_advance_2 Q Z) (fun _ hZ => okBX9_advance_2 C hZ)
def PX9_advance (Q : Option Value → az_M → Prop) : az_T := (s_ic (nI 0) (s_si 3 (s_kp [true, true, true, true, false] (LX9_advance_2 Q))))
def FX9_advance : az_F := az_fun [true, true, false] 5 PX9_advance
theorem okX9_advance (l : Launch) : az_met l yX9_advance cX9_advance 5 none ({ frames := 2, cells := 0, slots := 0, locals := 122 } : Room) FX9_advance := az_met_of (own := RX9) (by decide +kernel) rfl (by decide) (fun X Q C => by
  have h1 := az_istore_n C 3 rfl (by decide) dX9_advance_1 (az_keep [true, true, true, true, false] (okLX9_advance_2 C))
  have h0 := az_iconst (x := (nI 0)) C dX9_advance_0 (by decide +kernel) h1
  exact h0) l
theorem dX8_demandIn_0 : decode cX8_demandIn 0 = .ok (.iconst 0, 1) := by decide +kernel
theorem dX8_demandIn_1 : decode cX8_demandIn 1 = .ok (.istore_n 2, 1) := by decide +kernel
theorem dX8_demandIn_2 : decode cX8_demandIn 2 = .ok (.iconst 0, 1) := by decide +kernel
theorem dX8_demandIn_3 : decode cX8_demandIn 3 = .ok (.istore_n 3, 1) := by decide +kernel
theorem dX8_demandIn_4 : decode cX8_demandIn 4 = .ok (.iload_n 3, 1) := by decide +kernel
theorem dX8_demandIn_5 : decode cX8_demandIn 5 = .ok (.aload_n 0, 1) := by decide +kernel
theorem dX8_demandIn_6 : decode cX8_demandIn 6 = .ok (.getfield 40, 3) := by decide +kernel
theorem dX8_demandIn_9 : decode cX8_demandIn 9 = .ok (.if_icmp .ge 20, 3) := by decide +kernel
theorem dX8_demandIn_12 : decode cX8_demandIn 12 = .ok (.iload_n 2, 1) := by decide +kernel
theorem dX8_demandIn_13 : decode cX8_demandIn 13 = .ok (.aload_n 0, 1) := by decide +kernel
theorem dX8_demandIn_14 : decode cX8_demandIn 14 = .ok (.getfield 19, 3) := by decide +kernel
theorem dX8_demandIn_17 : decode cX8_demandIn 17 = .ok (.iload_n 3, 1) := by decide +kernel
theorem dX8_demandIn_18 : decode cX8_demandIn 18 = .ok (.aaload, 1) := by decide +kernel
theorem dX8_demandIn_19 : decode cX8_demandIn 19 = .ok (.iload_n 1, 1) := by decide +kernel
theorem dX8_demandIn_20 : decode cX8_demandIn 20 = .ok (.iaload, 1) := by decide +kernel
theorem dX8_demandIn_21 : decode cX8_demandIn 21 = .ok (.iadd, 1) := by decide +kernel
theorem dX8_demandIn_22 : decode cX8_demandIn 22 = .ok (.istore_n 2, 1) := by decide +kernel
theorem dX8_demandIn_23 : decode cX8_demandIn 23 = .ok (.iinc 3 1, 3) := by decide +kernel
theorem dX8_demandIn_26 : decode cX8_demandIn 26 = .ok (.goto (-22), 3) := by decide +kernel
theorem dX8_demandIn_29 : decode cX8_demandIn 29 = .ok (.iload_n 2, 1) := by decide +kernel
theorem dX8_demandIn_30 : decode cX8_demandIn 30 = .ok (.ireturn, 1) := by decide +kernel
def BX8_demandIn_4 (Q : Option Value → az_M → Prop) (Z4 : az_T) : az_T := (s_li 3 (s_la 0 (s_gi 9 1 (s_if2 d_ge (s_li 2 (s_ri Q)) (s_li 2 (s_la 0 (s_gr 9 7 (s_li 3 (s_aa 25 (s_li 1 (s_al 20 (s_bin f_add (s_si 2 (s_inc 3 (nI 1) (s_kp [true, true, true, true] Z4)))))))))))))))
theorem okBX8_demandIn_4 {X : az_X} {Q : Option Value → az_M → Prop} (C : az_C X cX8_demandIn 4 RX8 (az_ts yX8_demandIn cX8_demandIn 4 (some .int)) ({ frames := 1, cells := 0, slots := 0, locals := 100 } : Room) (some .int) Q) {Z4 : az_T} (hZ4 : az_ok X 4 Z4) : az_ok X 4 (BX8_demandIn_4 Q Z4) := by
  have h30 := az_ireturn C rfl dX8_demandIn_30
  have h29 := az_iload_n C 2 rfl dX8_demandIn_29 h30
  have h26 := az_goto (tgt := 4) C dX8_demandIn_26 (by decide) (az_keep [true, true, true, true] hZ4)
  have h23 := az_iinc (v := (nI 1)) C (by decide) (by decide +kernel) dX8_demandIn_23 h26
  have h22 := az_istore_n C 2 rfl (by decide) dX8_demandIn_22 h23
  have h21 := az_iadd C dX8_demandIn_21 h22
  have h20 := az_iald C dX8_demandIn_20 h21
  have h19 := az_iload_n C 1 rfl dX8_demandIn_19 h20
  have h18 := az_aald2 C dX8_demandIn_18 h19
  have h17 := az_iload_n C 3 rfl dX8_demandIn_17 h18
  have h14 := az_getR (T := TX8) (N := 11) (j := 7) C gwRX8 rfl (by decide) (by decide) iIRX8_7 mFRX8_19 rfl dX8_demandIn_14 h17
  have h13 := az_aload_n C 0 rfl dX8_demandIn_13 h14
  have h12 := az_iload_n C 2 rfl dX8_demandIn_12 h13
  have h9 := az_icmp_ge (tgt := 29) C dX8_demandIn_9 (by decide) h29 h12
  have h6 := az_getI (T := TX8) (N := 11) (j := 1) C gwRX8 rfl (by decide) (by decide) iIRX8_1 mFRX8_40 rfl dX8_demandIn_6 h9
  have h5 := az_aload_n C 0 rfl dX8_demandIn_5 h6
  have h4 := az_iload_n C 3 rfl dX8_demandIn_4 h5
  exact h4
def LX8_demandIn_4 (Q : Option Value → az_M → Prop) : az_T := s_lp (fun Z => BX8_demandIn_4 Q Z)
theorem okLX8_demandIn_4 {X : az_X} {Q : Option Value → az_M → Prop} (C : az_C X cX8_demandIn 4 RX8 (az_ts yX8_demandIn cX8_demandIn 4 (some .int)) ({ frames := 1, cells := 0, slots := 0, locals := 100 } : Room) (some .int) Q) : az_ok X 4 (LX8_demandIn_4 Q) := az_loop (F := fun Z => BX8_demandIn_4 Q Z) (fun _ hZ => okBX8_demandIn_4 C hZ)
def PX8_demandIn (Q : Option Value → az_M → Prop) : az_T := (s_ic (nI 0) (s_si 2 (s_ic (nI 0) (s_si 3 (s_kp [true, true, true, true] (LX8_demandIn_4 Q))))))
def FX8_demandIn : az_F := az_fun [true, false] 4 PX8_demandIn
theorem okX8_demandIn (l : Launch) : az_met l yX8_demandIn cX8_demandIn 4 (some .int) ({ frames := 1, cells := 0, slots := 0, locals := 100 } : Room) FX8_demandIn := az_met_of (own := RX8) (by decide +kernel) rfl (by decide) (fun X Q C => by
  have h3 := az_istore_n C 3 rfl (by decide) dX8_demandIn_3 (az_keep [true, true, true, true] (okLX8_demandIn_4 C))
  have h2 := az_iconst (x := (nI 0)) C dX8_demandIn_2 (by decide +kernel) h3
  have h1 := az_istore_n C 2 rfl (by decide) dX8_demandIn_1 h2
  have h0 := az_iconst (x := (nI 0)) C dX8_demandIn_0 (by decide +kernel) h1
  exact h0) l
theorem dX3_isAvailable_0 : decode cX3_isAvailable 0 = .ok (.aload_n 0, 1) := by decide +kernel
theorem dX3_isAvailable_1 : decode cX3_isAvailable 1 = .ok (.getfield 18, 3) := by decide +kernel
theorem dX3_isAvailable_4 : decode cX3_isAvailable 4 = .ok (.getfield 87, 3) := by decide +kernel
theorem dX3_isAvailable_7 : decode cX3_isAvailable 7 = .ok (.iload_n 2, 1) := by decide +kernel
theorem dX3_isAvailable_8 : decode cX3_isAvailable 8 = .ok (.iaload, 1) := by decide +kernel
theorem dX3_isAvailable_9 : decode cX3_isAvailable 9 = .ok (.iload_n 1, 1) := by decide +kernel
theorem dX3_isAvailable_10 : decode cX3_isAvailable 10 = .ok (.ishr, 1) := by decide +kernel
theorem dX3_isAvailable_11 : decode cX3_isAvailable 11 = .ok (.iconst 1, 1) := by decide +kernel
theorem dX3_isAvailable_12 : decode cX3_isAvailable 12 = .ok (.iand, 1) := by decide +kernel
theorem dX3_isAvailable_13 : decode cX3_isAvailable 13 = .ok (.ifCond .ne 7, 3) := by decide +kernel
theorem dX3_isAvailable_16 : decode cX3_isAvailable 16 = .ok (.iconst 1, 1) := by decide +kernel
theorem dX3_isAvailable_17 : decode cX3_isAvailable 17 = .ok (.goto 4, 3) := by decide +kernel
theorem dX3_isAvailable_20 : decode cX3_isAvailable 20 = .ok (.iconst 0, 1) := by decide +kernel
theorem dX3_isAvailable_21 : decode cX3_isAvailable 21 = .ok (.ireturn, 1) := by decide +kernel
def LX3_isAvailable_21 (Q : Option Value → az_M → Prop) : az_T := (s_rz Q)
theorem okLX3_isAvailable_21 {X : az_X} {Q : Option Value → az_M → Prop} (C : az_C X cX3_isAvailable 3 RX3 (az_ts yX3_isAvailable cX3_isAvailable 3 (some .boolean)) ({ frames := 1, cells := 0, slots := 0, locals := 100 } : Room) (some .boolean) Q) : az_ok X 21 (LX3_isAvailable_21 Q) := by
  have h21 := az_zreturn C rfl dX3_isAvailable_21
  exact h21
def PX3_isAvailable (Q : Option Value → az_M → Prop) : az_T := (s_la 0 (s_gr 6 0 (s_gr 2 2 (s_li 2 (s_al 20 (s_li 1 (s_bin f_shr (s_ic (nI 1) (s_bin f_and (s_if c_ne (s_ic (nI 0) (s_kp [false, false, false] (LX3_isAvailable_21 Q))) (s_ic (nI 1) (s_kp [false, false, false] (LX3_isAvailable_21 Q)))))))))))))
def FX3_isAvailable : az_F := az_fun [true, false, false] 3 PX3_isAvailable
theorem okX3_isAvailable (l : Launch) : az_met l yX3_isAvailable cX3_isAvailable 3 (some .boolean) ({ frames := 1, cells := 0, slots := 0, locals := 100 } : Room) FX3_isAvailable := az_met_of (own := RX3) (by decide +kernel) rfl (by decide) (fun X Q C => by
  have h20 := az_iconst (x := (nI 0)) C dX3_isAvailable_20 (by decide +kernel) (az_keep [false, false, false] (okLX3_isAvailable_21 C))
  have h17 := az_goto (tgt := 21) C dX3_isAvailable_17 (by decide) (az_keep [false, false, false] (okLX3_isAvailable_21 C))
  have h16 := az_iconst (x := (nI 1)) C dX3_isAvailable_16 (by decide +kernel) h17
  have h13 := az_if_ne (tgt := 20) C dX3_isAvailable_13 (by decide) h20 h16
  have h12 := az_iand C dX3_isAvailable_12 h13
  have h11 := az_iconst (x := (nI 1)) C dX3_isAvailable_11 (by decide +kernel) h12
  have h10 := az_ishr C dX3_isAvailable_10 h11
  have h9 := az_iload_n C 1 rfl dX3_isAvailable_9 h10
  have h8 := az_iald C dX3_isAvailable_8 h9
  have h7 := az_iload_n C 2 rfl dX3_isAvailable_7 h8
  have h4 := az_getR (T := TX0) (N := 3) (j := 2) C gwRX0 rfl (by decide) (by decide) iIRX0_2 mFRX3_87 rfl dX3_isAvailable_4 h7
  have h1 := az_getR (T := TX4) (N := 10) (j := 0) C gwRX4 rfl (by decide) (by decide) iIRX4_0 mFRX3_18 rfl dX3_isAvailable_1 h4
  have h0 := az_aload_n C 0 rfl dX3_isAvailable_0 h1
  exact h0) l
theorem dX9_ranBefore_0 : decode cX9_ranBefore 0 = .ok (.aload_n 0, 1) := by decide +kernel
theorem dX9_ranBefore_1 : decode cX9_ranBefore 1 = .ok (.getfield 17, 3) := by decide +kernel
theorem dX9_ranBefore_4 : decode cX9_ranBefore 4 = .ok (.iload_n 1, 1) := by decide +kernel
theorem dX9_ranBefore_5 : decode cX9_ranBefore 5 = .ok (.aaload, 1) := by decide +kernel
theorem dX9_ranBefore_6 : decode cX9_ranBefore 6 = .ok (.iload_n 2, 1) := by decide +kernel
theorem dX9_ranBefore_7 : decode cX9_ranBefore 7 = .ok (.iaload, 1) := by decide +kernel
theorem dX9_ranBefore_8 : decode cX9_ranBefore 8 = .ok (.ifCond .le 7, 3) := by decide +kernel
theorem dX9_ranBefore_11 : decode cX9_ranBefore 11 = .ok (.iconst 1, 1) := by decide +kernel
theorem dX9_ranBefore_12 : decode cX9_ranBefore 12 = .ok (.goto 4, 3) := by decide +kernel
theorem dX9_ranBefore_15 : decode cX9_ranBefore 15 = .ok (.iconst 0, 1) := by decide +kernel
theorem dX9_ranBefore_16 : decode cX9_ranBefore 16 = .ok (.ireturn, 1) := by decide +kernel
def LX9_ranBefore_16 (Q : Option Value → az_M → Prop) : az_T := (s_rz Q)
theorem okLX9_ranBefore_16 {X : az_X} {Q : Option Value → az_M → Prop} (C : az_C X cX9_ranBefore 3 RX9 (az_ts yX9_ranBefore cX9_ranBefore 3 (some .boolean)) ({ frames := 1, cells := 0, slots := 0, locals := 100 } : Room) (some .boolean) Q) : az_ok X 16 (LX9_ranBefore_16 Q) := by
  have h16 := az_zreturn C rfl dX9_ranBefore_16
  exact h16
def PX9_ranBefore (Q : Option Value → az_M → Prop) : az_T := (s_la 0 (s_gr 10 1 (s_li 1 (s_aa 25 (s_li 2 (s_al 20 (s_if c_le (s_ic (nI 0) (s_kp [false, false, false] (LX9_ranBefore_16 Q))) (s_ic (nI 1) (s_kp [false, false, false] (LX9_ranBefore_16 Q))))))))))
def FX9_ranBefore : az_F := az_fun [true, false, false] 3 PX9_ranBefore
theorem okX9_ranBefore (l : Launch) : az_met l yX9_ranBefore cX9_ranBefore 3 (some .boolean) ({ frames := 1, cells := 0, slots := 0, locals := 100 } : Room) FX9_ranBefore := az_met_of (own := RX9) (by decide +kernel) rfl (by decide) (fun X Q C => by
  have h15 := az_iconst (x := (nI 0)) C dX9_ranBefore_15 (by decide +kernel) (az_keep [false, false, false] (okLX9_ranBefore_16 C))
  have h12 := az_goto (tgt := 16) C dX9_ranBefore_12 (by decide) (az_keep [false, false, false] (okLX9_ranBefore_16 C))
  have h11 := az_iconst (x := (nI 1)) C dX9_ranBefore_11 (by decide +kernel) h12
  have h8 := az_if_le (tgt := 15) C dX9_ranBefore_8 (by decide) h15 h11
  have h7 := az_iald C dX9_ranBefore_7 h8
  have h6 := az_iload_n C 2 rfl dX9_ranBefore_6 h7
  have h5 := az_aald2 C dX9_ranBefore_5 h6
  have h4 := az_iload_n C 1 rfl dX9_ranBefore_4 h5
  have h1 := az_getR (T := TX9) (N := 3) (j := 1) C gwRX9 rfl (by decide) (by decide) iIRX9_1 mFRX9_17 rfl dX9_ranBefore_1 h4
  have h0 := az_aload_n C 0 rfl dX9_ranBefore_0 h1
  exact h0) l
theorem dX9_mustStay_0 : decode cX9_mustStay 0 = .ok (.aload_n 0, 1) := by decide +kernel
theorem dX9_mustStay_1 : decode cX9_mustStay 1 = .ok (.iload_n 2, 1) := by decide +kernel
theorem dX9_mustStay_2 : decode cX9_mustStay 2 = .ok (.iload_n 3, 1) := by decide +kernel
theorem dX9_mustStay_3 : decode cX9_mustStay 3 = .ok (.invokevirtual 42, 3) := by decide +kernel
theorem dX9_mustStay_6 : decode cX9_mustStay 6 = .ok (.ifCond .eq 26, 3) := by decide +kernel
theorem dX9_mustStay_9 : decode cX9_mustStay 9 = .ok (.aload_n 0, 1) := by decide +kernel
theorem dX9_mustStay_10 : decode cX9_mustStay 10 = .ok (.getfield 17, 3) := by decide +kernel
theorem dX9_mustStay_13 : decode cX9_mustStay 13 = .ok (.iload_n 2, 1) := by decide +kernel
theorem dX9_mustStay_14 : decode cX9_mustStay 14 = .ok (.aaload, 1) := by decide +kernel
theorem dX9_mustStay_15 : decode cX9_mustStay 15 = .ok (.iload_n 3, 1) := by decide +kernel
theorem dX9_mustStay_16 : decode cX9_mustStay 16 = .ok (.iaload, 1) := by decide +kernel
theorem dX9_mustStay_17 : decode cX9_mustStay 17 = .ok (.aload_n 1, 1) := by decide +kernel
theorem dX9_mustStay_18 : decode cX9_mustStay 18 = .ok (.getfield 29, 3) := by decide +kernel
theorem dX9_mustStay_21 : decode cX9_mustStay 21 = .ok (.iload_n 2, 1) := by decide +kernel
theorem dX9_mustStay_22 : decode cX9_mustStay 22 = .ok (.aaload, 1) := by decide +kernel
theorem dX9_mustStay_23 : decode cX9_mustStay 23 = .ok (.iconst 4, 1) := by decide +kernel
theorem dX9_mustStay_24 : decode cX9_mustStay 24 = .ok (.iaload, 1) := by decide +kernel
theorem dX9_mustStay_25 : decode cX9_mustStay 25 = .ok (.if_icmp .ge 7, 3) := by decide +kernel
theorem dX9_mustStay_28 : decode cX9_mustStay 28 = .ok (.iconst 1, 1) := by decide +kernel
theorem dX9_mustStay_29 : decode cX9_mustStay 29 = .ok (.goto 4, 3) := by decide +kernel
theorem dX9_mustStay_32 : decode cX9_mustStay 32 = .ok (.iconst 0, 1) := by decide +kernel
theorem dX9_mustStay_33 : decode cX9_mustStay 33 = .ok (.ireturn, 1) := by decide +kernel
def LX9_mustStay_33 (Q : Option Value → az_M → Prop) : az_T := (s_rz Q)
theorem okLX9_mustStay_33 {X : az_X} {Q : Option Value → az_M → Prop} (C : az_C X cX9_mustStay 4 RX9 (az_ts yX9_mustStay cX9_mustStay 4 (some .boolean)) ({ frames := 2, cells := 0, slots := 0, locals := 122 } : Room) (some .boolean) Q) : az_ok X 33 (LX9_mustStay_33 Q) := by
  have h33 := az_zreturn C rfl dX9_mustStay_33
  exact h33
def LX9_mustStay_32 (Q : Option Value → az_M → Prop) : az_T := (s_ic (nI 0) (s_kp [false, false, false, false] (LX9_mustStay_33 Q)))
theorem okLX9_mustStay_32 {X : az_X} {Q : Option Value → az_M → Prop} (C : az_C X cX9_mustStay 4 RX9 (az_ts yX9_mustStay cX9_mustStay 4 (some .boolean)) ({ frames := 2, cells := 0, slots := 0, locals := 122 } : Room) (some .boolean) Q) : az_ok X 32 (LX9_mustStay_32 Q) := by
  have h32 := az_iconst (x := (nI 0)) C dX9_mustStay_32 (by decide +kernel) (az_keep [false, false, false, false] (okLX9_mustStay_33 C))
  exact h32
def PX9_mustStay (Q : Option Value → az_M → Prop) : az_T := (s_la 0 (s_li 2 (s_li 3 (s_cv 2 10 FX9_ranBefore (s_if c_eq (s_kp [false, false, false, false] (LX9_mustStay_32 Q)) (s_la 0 (s_gr 10 1 (s_li 2 (s_aa 25 (s_li 3 (s_al 20 (s_la 1 (s_gr 9 5 (s_li 2 (s_aa 25 (s_ic (nI 4) (s_al 20 (s_if2 d_ge (s_kp [false, false, false, false] (LX9_mustStay_32 Q)) (s_ic (nI 1) (s_kp [false, false, false, false] (LX9_mustStay_33 Q)))))))))))))))))))))
def FX9_mustStay : az_F := az_fun [true, true, false, false] 4 PX9_mustStay
theorem okX9_mustStay (l : Launch) : az_met l yX9_mustStay cX9_mustStay 4 (some .boolean) ({ frames := 2, cells := 0, slots := 0, locals := 122 } : Room) FX9_mustStay := az_met_of (own := RX9) (by decide +kernel) rfl (by decide) (fun X Q C => by
  have h29 := az_goto (tgt := 33) C dX9_mustStay_29 (by decide) (az_keep [false, false, false, false] (okLX9_mustStay_33 C))
  have h28 := az_iconst (x := (nI 1)) C dX9_mustStay_28 (by decide +kernel) h29
  have h25 := az_icmp_ge (tgt := 32) C dX9_mustStay_25 (by decide) (az_keep [false, false, false, false] (okLX9_mustStay_32 C)) h28
  have h24 := az_iald C dX9_mustStay_24 h25
  have h23 := az_iconst (x := (nI 4)) C dX9_mustStay_23 (by decide +kernel) h24
  have h22 := az_aald2 C dX9_mustStay_22 h23
  have h21 := az_iload_n C 2 rfl dX9_mustStay_21 h22
  have h18 := az_getR (T := TX8) (N := 11) (j := 5) C gwRX8 rfl (by decide) (by decide) iIRX8_5 mFRX9_29 rfl dX9_mustStay_18 h21
  have h17 := az_aload_n C 1 rfl dX9_mustStay_17 h18
  have h16 := az_iald C dX9_mustStay_16 h17
  have h15 := az_iload_n C 3 rfl dX9_mustStay_15 h16
  have h14 := az_aald2 C dX9_mustStay_14 h15
  have h13 := az_iload_n C 2 rfl dX9_mustStay_13 h14
  have h10 := az_getR (T := TX9) (N := 3) (j := 1) C gwRX9 rfl (by decide) (by decide) iIRX9_1 mFRX9_17 rfl dX9_mustStay_10 h13
  have h9 := az_aload_n C 0 rfl dX9_mustStay_9 h10
  have h6 := az_if_eq (tgt := 32) C dX9_mustStay_6 (by decide) (az_keep [false, false, false, false] (okLX9_mustStay_32 C)) h9
  have h3 := az_callV (ci := 10) C okX9_ranBefore knX9_ranBefore imX9_ranBefore seX9_ranBefore mLRX9_42 rfl (by decide) ⟨rfl, rfl, by decide, by decide⟩ dX9_mustStay_3 h6
  have h2 := az_iload_n C 3 rfl dX9_mustStay_2 h3
  have h1 := az_iload_n C 2 rfl dX9_mustStay_1 h2
  have h0 := az_aload_n C 0 rfl dX9_mustStay_0 h1
  exact h0) l
theorem dX9_mustRest_0 : decode cX9_mustRest 0 = .ok (.aload_n 0, 1) := by decide +kernel
theorem dX9_mustRest_1 : decode cX9_mustRest 1 = .ok (.iload_n 2, 1) := by decide +kernel
theorem dX9_mustRest_2 : decode cX9_mustRest 2 = .ok (.iload_n 3, 1) := by decide +kernel
theorem dX9_mustRest_3 : decode cX9_mustRest 3 = .ok (.invokevirtual 42, 3) := by decide +kernel
theorem dX9_mustRest_6 : decode cX9_mustRest 6 = .ok (.ifCond .ne 26, 3) := by decide +kernel
theorem dX9_mustRest_9 : decode cX9_mustRest 9 = .ok (.aload_n 0, 1) := by decide +kernel
theorem dX9_mustRest_10 : decode cX9_mustRest 10 = .ok (.getfield 20, 3) := by decide +kernel
theorem dX9_mustRest_13 : decode cX9_mustRest 13 = .ok (.iload_n 2, 1) := by decide +kernel
theorem dX9_mustRest_14 : decode cX9_mustRest 14 = .ok (.aaload, 1) := by decide +kernel
theorem dX9_mustRest_15 : decode cX9_mustRest 15 = .ok (.iload_n 3, 1) := by decide +kernel
theorem dX9_mustRest_16 : decode cX9_mustRest 16 = .ok (.iaload, 1) := by decide +kernel
theorem dX9_mustRest_17 : decode cX9_mustRest 17 = .ok (.aload_n 1, 1) := by decide +kernel
theorem dX9_mustRest_18 : decode cX9_mustRest 18 = .ok (.getfield 29, 3) := by decide +kernel
theorem dX9_mustRest_21 : decode cX9_mustRest 21 = .ok (.iload_n 2, 1) := by decide +kernel
theorem dX9_mustRest_22 : decode cX9_mustRest 22 = .ok (.aaload, 1) := by decide +kernel
theorem dX9_mustRest_23 : decode cX9_mustRest 23 = .ok (.iconst 5, 1) := by decide +kernel
theorem dX9_mustRest_24 : decode cX9_mustRest 24 = .ok (.iaload, 1) := by decide +kernel
theorem dX9_mustRest_25 : decode cX9_mustRest 25 = .ok (.if_icmp .ge 7, 3) := by decide +kernel
theorem dX9_mustRest_28 : decode cX9_mustRest 28 = .ok (.iconst 1, 1) := by decide +kernel
theorem dX9_mustRest_29 : decode cX9_mustRest 29 = .ok (.goto 4, 3) := by decide +kernel
theorem dX9_mustRest_32 : decode cX9_mustRest 32 = .ok (.iconst 0, 1) := by decide +kernel
theorem dX9_mustRest_33 : decode cX9_mustRest 33 = .ok (.ireturn, 1) := by decide +kernel
def LX9_mustRest_33 (Q : Option Value → az_M → Prop) : az_T := (s_rz Q)
theorem okLX9_mustRest_33 {X : az_X} {Q : Option Value → az_M → Prop} (C : az_C X cX9_mustRest 4 RX9 (az_ts yX9_mustRest cX9_mustRest 4 (some .boolean)) ({ frames := 2, cells := 0, slots := 0, locals := 122 } : Room) (some .boolean) Q) : az_ok X 33 (LX9_mustRest_33 Q) := by
  have h33 := az_zreturn C rfl dX9_mustRest_33
  exact h33
def LX9_mustRest_32 (Q : Option Value → az_M → Prop) : az_T := (s_ic (nI 0) (s_kp [false, false, false, false] (LX9_mustRest_33 Q)))
theorem okLX9_mustRest_32 {X : az_X} {Q : Option Value → az_M → Prop} (C : az_C X cX9_mustRest 4 RX9 (az_ts yX9_mustRest cX9_mustRest 4 (some .boolean)) ({ frames := 2, cells := 0, slots := 0, locals := 122 } : Room) (some .boolean) Q) : az_ok X 32 (LX9_mustRest_32 Q) := by
  have h32 := az_iconst (x := (nI 0)) C dX9_mustRest_32 (by decide +kernel) (az_keep [false, false, false, false] (okLX9_mustRest_33 C))
  exact h32
def PX9_mustRest (Q : Option Value → az_M → Prop) : az_T := (s_la 0 (s_li 2 (s_li 3 (s_cv 2 10 FX9_ranBefore (s_if c_ne (s_kp [false, false, false, false] (LX9_mustRest_32 Q)) (s_la 0 (s_gr 10 2 (s_li 2 (s_aa 25 (s_li 3 (s_al 20 (s_la 1 (s_gr 9 5 (s_li 2 (s_aa 25 (s_ic (nI 5) (s_al 20 (s_if2 d_ge (s_kp [false, false, false, false] (LX9_mustRest_32 Q)) (s_ic (nI 1) (s_kp [false, false, false, false] (LX9_mustRest_33 Q)))))))))))))))))))))
def FX9_mustRest : az_F := az_fun [true, true, false, false] 4 PX9_mustRest
theorem okX9_mustRest (l : Launch) : az_met l yX9_mustRest cX9_mustRest 4 (some .boolean) ({ frames := 2, cells := 0, slots := 0, locals := 122 } : Room) FX9_mustRest := az_met_of (own := RX9) (by decide +kernel) rfl (by decide) (fun X Q C => by
  have h29 := az_goto (tgt := 33) C dX9_mustRest_29 (by decide) (az_keep [false, false, false, false] (okLX9_mustRest_33 C))
  have h28 := az_iconst (x := (nI 1)) C dX9_mustRest_28 (by decide +kernel) h29
  have h25 := az_icmp_ge (tgt := 32) C dX9_mustRest_25 (by decide) (az_keep [false, false, false, false] (okLX9_mustRest_32 C)) h28
  have h24 := az_iald C dX9_mustRest_24 h25
  have h23 := az_iconst (x := (nI 5)) C dX9_mustRest_23 (by decide +kernel) h24
  have h22 := az_aald2 C dX9_mustRest_22 h23
  have h21 := az_iload_n C 2 rfl dX9_mustRest_21 h22
  have h18 := az_getR (T := TX8) (N := 11) (j := 5) C gwRX8 rfl (by decide) (by decide) iIRX8_5 mFRX9_29 rfl dX9_mustRest_18 h21
  have h17 := az_aload_n C 1 rfl dX9_mustRest_17 h18
  have h16 := az_iald C dX9_mustRest_16 h17
  have h15 := az_iload_n C 3 rfl dX9_mustRest_15 h16
  have h14 := az_aald2 C dX9_mustRest_14 h15
  have h13 := az_iload_n C 2 rfl dX9_mustRest_13 h14
  have h10 := az_getR (T := TX9) (N := 3) (j := 2) C gwRX9 rfl (by decide) (by decide) iIRX9_2 mFRX9_20 rfl dX9_mustRest_10 h13
  have h9 := az_aload_n C 0 rfl dX9_mustRest_9 h10
  have h6 := az_if_ne (tgt := 32) C dX9_mustRest_6 (by decide) (az_keep [false, false, false, false] (okLX9_mustRest_32 C)) h9
  have h3 := az_callV (ci := 10) C okX9_ranBefore knX9_ranBefore imX9_ranBefore seX9_ranBefore mLRX9_42 rfl (by decide) ⟨rfl, rfl, by decide, by decide⟩ dX9_mustRest_3 h6
  have h2 := az_iload_n C 3 rfl dX9_mustRest_2 h3
  have h1 := az_iload_n C 2 rfl dX9_mustRest_1 h2
  have h0 := az_aload_n C 0 rfl dX9_mustRest_0 h1
  exact h0) l
theorem dX3_choose_0 : decode cX3_choose 0 = .ok (.iconst 0, 1) := by decide +kernel
theorem dX3_choose_1 : decode cX3_choose 1 = .ok (.istore 4, 2) := by decide +kernel
theorem dX3_choose_3 : decode cX3_choose 3 = .ok (.iconst 0, 1) := by decide +kernel
theorem dX3_choose_4 : decode cX3_choose 4 = .ok (.istore 5, 2) := by decide +kernel
theorem dX3_choose_6 : decode cX3_choose 6 = .ok (.aload_n 1, 1) := by decide +kernel
theorem dX3_choose_7 : decode cX3_choose 7 = .ok (.iload_n 3, 1) := by decide +kernel
theorem dX3_choose_8 : decode cX3_choose 8 = .ok (.invokevirtual 70, 3) := by decide +kernel
theorem dX3_choose_11 : decode cX3_choose 11 = .ok (.aload_n 1, 1) := by decide +kernel
theorem dX3_choose_12 : decode cX3_choose 12 = .ok (.getfield 73, 3) := by decide +kernel
theorem dX3_choose_15 : decode cX3_choose 15 = .ok (.iload_n 3, 1) := by decide +kernel
theorem dX3_choose_16 : decode cX3_choose 16 = .ok (.iaload, 1) := by decide +kernel
theorem dX3_choose_17 : decode cX3_choose 17 = .ok (.iadd, 1) := by decide +kernel
theorem dX3_choose_18 : decode cX3_choose 18 = .ok (.istore 6, 2) := by decide +kernel
theorem dX3_choose_20 : decode cX3_choose 20 = .ok (.iconst 0, 1) := by decide +kernel
theorem dX3_choose_21 : decode cX3_choose 21 = .ok (.istore 7, 2) := by decide +kernel
theorem dX3_choose_23 : decode cX3_choose 23 = .ok (.iload 7, 2) := by decide +kernel
theorem dX3_choose_25 : decode cX3_choose 25 = .ok (.aload_n 1, 1) := by decide +kernel
theorem dX3_choose_26 : decode cX3_choose 26 = .ok (.getfield 34, 3) := by decide +kernel
theorem dX3_choose_29 : decode cX3_choose 29 = .ok (.if_icmp .ge 57, 3) := by decide +kernel
theorem dX3_choose_32 : decode cX3_choose 32 = .ok (.aload_n 2, 1) := by decide +kernel
theorem dX3_choose_33 : decode cX3_choose 33 = .ok (.iload 7, 2) := by decide +kernel
theorem dX3_choose_35 : decode cX3_choose 35 = .ok (.iload_n 3, 1) := by decide +kernel
theorem dX3_choose_36 : decode cX3_choose 36 = .ok (.invokestatic 76, 3) := by decide +kernel
theorem dX3_choose_39 : decode cX3_choose 39 = .ok (.ifCond .eq 41, 3) := by decide +kernel
theorem dX3_choose_42 : decode cX3_choose 42 = .ok (.aload_n 2, 1) := by decide +kernel
theorem dX3_choose_43 : decode cX3_choose 43 = .ok (.getfield 43, 3) := by decide +kernel
theorem dX3_choose_46 : decode cX3_choose 46 = .ok (.aload_n 1, 1) := by decide +kernel
theorem dX3_choose_47 : decode cX3_choose 47 = .ok (.iload 7, 2) := by decide +kernel
theorem dX3_choose_49 : decode cX3_choose 49 = .ok (.iload_n 3, 1) := by decide +kernel
theorem dX3_choose_50 : decode cX3_choose 50 = .ok (.invokevirtual 80, 3) := by decide +kernel
theorem dX3_choose_53 : decode cX3_choose 53 = .ok (.ifCond .eq 27, 3) := by decide +kernel
theorem dX3_choose_56 : decode cX3_choose 56 = .ok (.iload 4, 2) := by decide +kernel
theorem dX3_choose_58 : decode cX3_choose 58 = .ok (.iconst 1, 1) := by decide +kernel
theorem dX3_choose_59 : decode cX3_choose 59 = .ok (.iload 7, 2) := by decide +kernel
theorem dX3_choose_61 : decode cX3_choose 61 = .ok (.ishl, 1) := by decide +kernel
theorem dX3_choose_62 : decode cX3_choose 62 = .ok (.ior, 1) := by decide +kernel
theorem dX3_choose_63 : decode cX3_choose 63 = .ok (.istore 4, 2) := by decide +kernel
theorem dX3_choose_65 : decode cX3_choose 65 = .ok (.iload 5, 2) := by decide +kernel
theorem dX3_choose_67 : decode cX3_choose 67 = .ok (.aload_n 1, 1) := by decide +kernel
theorem dX3_choose_68 : decode cX3_choose 68 = .ok (.getfield 60, 3) := by decide +kernel
theorem dX3_choose_71 : decode cX3_choose 71 = .ok (.iload 7, 2) := by decide +kernel
theorem dX3_choose_73 : decode cX3_choose 73 = .ok (.aaload, 1) := by decide +kernel
theorem dX3_choose_74 : decode cX3_choose 74 = .ok (.bipush 10, 2) := by decide +kernel
theorem dX3_choose_76 : decode cX3_choose 76 = .ok (.iaload, 1) := by decide +kernel
theorem dX3_choose_77 : decode cX3_choose 77 = .ok (.iadd, 1) := by decide +kernel
theorem dX3_choose_78 : decode cX3_choose 78 = .ok (.istore 5, 2) := by decide +kernel
theorem dX3_choose_80 : decode cX3_choose 80 = .ok (.iinc 7 1, 3) := by decide +kernel
theorem dX3_choose_83 : decode cX3_choose 83 = .ok (.goto (-60), 3) := by decide +kernel
theorem dX3_choose_86 : decode cX3_choose 86 = .ok (.iconst 0, 1) := by decide +kernel
theorem dX3_choose_87 : decode cX3_choose 87 = .ok (.istore 7, 2) := by decide +kernel
theorem dX3_choose_89 : decode cX3_choose 89 = .ok (.iload 7, 2) := by decide +kernel
theorem dX3_choose_91 : decode cX3_choose 91 = .ok (.aload_n 1, 1) := by decide +kernel
theorem dX3_choose_92 : decode cX3_choose 92 = .ok (.getfield 34, 3) := by decide +kernel
theorem dX3_choose_95 : decode cX3_choose 95 = .ok (.if_icmp .ge 99, 3) := by decide +kernel
theorem dX3_choose_98 : decode cX3_choose 98 = .ok (.aload_n 0, 1) := by decide +kernel
theorem dX3_choose_99 : decode cX3_choose 99 = .ok (.getfield 9, 3) := by decide +kernel
theorem dX3_choose_102 : decode cX3_choose 102 = .ok (.iload 7, 2) := by decide +kernel
theorem dX3_choose_104 : decode cX3_choose 104 = .ok (.iaload, 1) := by decide +kernel
theorem dX3_choose_105 : decode cX3_choose 105 = .ok (.istore 8, 2) := by decide +kernel
theorem dX3_choose_107 : decode cX3_choose 107 = .ok (.aload_n 2, 1) := by decide +kernel
theorem dX3_choose_108 : decode cX3_choose 108 = .ok (.iload 8, 2) := by decide +kernel
theorem dX3_choose_110 : decode cX3_choose 110 = .ok (.iload_n 3, 1) := by decide +kernel
theorem dX3_choose_111 : decode cX3_choose 111 = .ok (.invokestatic 76, 3) := by decide +kernel
theorem dX3_choose_114 : decode cX3_choose 114 = .ok (.ifCond .eq 35, 3) := by decide +kernel
theorem dX3_choose_117 : decode cX3_choose 117 = .ok (.aload_n 2, 1) := by decide +kernel
theorem dX3_choose_118 : decode cX3_choose 118 = .ok (.getfield 43, 3) := by decide +kernel
theorem dX3_choose_121 : decode cX3_choose 121 = .ok (.aload_n 1, 1) := by decide +kernel
theorem dX3_choose_122 : decode cX3_choose 122 = .ok (.iload 8, 2) := by decide +kernel
theorem dX3_choose_124 : decode cX3_choose 124 = .ok (.iload_n 3, 1) := by decide +kernel
theorem dX3_choose_125 : decode cX3_choose 125 = .ok (.invokevirtual 80, 3) := by decide +kernel
theorem dX3_choose_128 : decode cX3_choose 128 = .ok (.ifCond .ne 21, 3) := by decide +kernel
theorem dX3_choose_131 : decode cX3_choose 131 = .ok (.aload_n 2, 1) := by decide +kernel
theorem dX3_choose_132 : decode cX3_choose 132 = .ok (.getfield 43, 3) := by decide +kernel
theorem dX3_choose_135 : decode cX3_choose 135 = .ok (.aload_n 1, 1) := by decide +kernel
theorem dX3_choose_136 : decode cX3_choose 136 = .ok (.iload 8, 2) := by decide +kernel
theorem dX3_choose_138 : decode cX3_choose 138 = .ok (.iload_n 3, 1) := by decide +kernel
theorem dX3_choose_139 : decode cX3_choose 139 = .ok (.invokevirtual 84, 3) := by decide +kernel
theorem dX3_choose_142 : decode cX3_choose 142 = .ok (.ifCond .ne 7, 3) := by decide +kernel
theorem dX3_choose_145 : decode cX3_choose 145 = .ok (.iconst 1, 1) := by decide +kernel
theorem dX3_choose_146 : decode cX3_choose 146 = .ok (.goto 4, 3) := by decide +kernel
theorem dX3_choose_149 : decode cX3_choose 149 = .ok (.iconst 0, 1) := by decide +kernel
theorem dX3_choose_150 : decode cX3_choose 150 = .ok (.istore 9, 2) := by decide +kernel
theorem dX3_choose_152 : decode cX3_choose 152 = .ok (.iload 9, 2) := by decide +kernel
theorem dX3_choose_154 : decode cX3_choose 154 = .ok (.ifCond .eq 34, 3) := by decide +kernel
theorem dX3_choose_157 : decode cX3_choose 157 = .ok (.iload 5, 2) := by decide +kernel
theorem dX3_choose_159 : decode cX3_choose 159 = .ok (.iload 6, 2) := by decide +kernel
theorem dX3_choose_161 : decode cX3_choose 161 = .ok (.if_icmp .ge 27, 3) := by decide +kernel
theorem dX3_choose_164 : decode cX3_choose 164 = .ok (.iload 4, 2) := by decide +kernel
theorem dX3_choose_166 : decode cX3_choose 166 = .ok (.iconst 1, 1) := by decide +kernel
theorem dX3_choose_167 : decode cX3_choose 167 = .ok (.iload 8, 2) := by decide +kernel
theorem dX3_choose_169 : decode cX3_choose 169 = .ok (.ishl, 1) := by decide +kernel
theorem dX3_choose_170 : decode cX3_choose 170 = .ok (.ior, 1) := by decide +kernel
theorem dX3_choose_171 : decode cX3_choose 171 = .ok (.istore 4, 2) := by decide +kernel
theorem dX3_choose_173 : decode cX3_choose 173 = .ok (.iload 5, 2) := by decide +kernel
theorem dX3_choose_175 : decode cX3_choose 175 = .ok (.aload_n 1, 1) := by decide +kernel
theorem dX3_choose_176 : decode cX3_choose 176 = .ok (.getfield 60, 3) := by decide +kernel
theorem dX3_choose_179 : decode cX3_choose 179 = .ok (.iload 8, 2) := by decide +kernel
theorem dX3_choose_181 : decode cX3_choose 181 = .ok (.aaload, 1) := by decide +kernel
theorem dX3_choose_182 : decode cX3_choose 182 = .ok (.bipush 10, 2) := by decide +kernel
theorem dX3_choose_184 : decode cX3_choose 184 = .ok (.iaload, 1) := by decide +kernel
theorem dX3_choose_185 : decode cX3_choose 185 = .ok (.iadd, 1) := by decide +kernel
theorem dX3_choose_186 : decode cX3_choose 186 = .ok (.istore 5, 2) := by decide +kernel
theorem dX3_choose_188 : decode cX3_choose 188 = .ok (.iinc 7 1, 3) := by decide +kernel
theorem dX3_choose_191 : decode cX3_choose 191 = .ok (.goto (-102), 3) := by decide +kernel
theorem dX3_choose_194 : decode cX3_choose 194 = .ok (.iload 4, 2) := by decide +kernel
theorem dX3_choose_196 : decode cX3_choose 196 = .ok (.ireturn, 1) := by decide +kernel
def LX3_choose_188 (Q : Option Value → az_M → Prop) (Z89 : az_T) : az_T := (s_inc 7 (nI 1) (s_kp [true, true, true, true, true, true, true, true, false, false] Z89))
theorem okLX3_choose_188 {X : az_X} {Q : Option Value → az_M → Prop} (C : az_C X cX3_choose 10 RX3 (az_ts yX3_choose cX3_choose 10 (some .int)) ({ frames := 3, cells := 0, slots := 0, locals := 145 } : Room) (some .int) Q) {Z89 : az_T} (hZ89 : az_ok X 89 Z89) : az_ok X 188 (LX3_choose_188 Q Z89) := by
  have h191 := az_goto (tgt := 89) C dX3_choose_191 (by decide) (az_keep [true, true, true, true, true, true, true, true, false, false] hZ89)
  have h188 := az_iinc (v := (nI 1)) C (by decide) (by decide +kernel) dX3_choose_188 h191
  exact h188
def LX3_choose_150 (Q : Option Value → az_M → Prop) (Z89 : az_T) : az_T := (s_si 9 (s_li 9 (s_if c_eq (s_kp [true, true, true, true, true, true, true, true, false, false] (LX3_choose_188 Q Z89)) (s_li 5 (s_li 6 (s_if2 d_ge (s_kp [true, true, true, true, true, true, true, true, false, false] (LX3_choose_188 Q Z89)) (s_li 4 (s_ic (nI 1) (s_li 8 (s_bin f_shl (s_bin f_or (s_si 4 (s_li 5 (s_la 1 (s_gr 9 5 (s_li 8 (s_aa 25 (s_ic (nI 10) (s_al 20 (s_bin f_add (s_si 5 (s_kp [true, true, true, true, true, true, true, true, false, false] (LX3_choose_188 Q Z89)))))))))))))))))))))))
theorem okLX3_choose_150 {X : az_X} {Q : Option Value → az_M → Prop} (C : az_C X cX3_choose 10 RX3 (az_ts yX3_choose cX3_choose 10 (some .int)) ({ frames := 3, cells := 0, slots := 0, locals := 145 } : Room) (some .int) Q) {Z89 : az_T} (hZ89 : az_ok X 89 Z89) : az_ok X 150 (LX3_choose_150 Q Z89) := by
  have h186 := az_istore C (by decide) dX3_choose_186 (az_keep [true, true, true, true, true, true, true, true, false, false] (okLX3_choose_188 C hZ89))
  have h185 := az_iadd C dX3_choose_185 h186
  have h184 := az_iald C dX3_choose_184 h185
  have h182 := az_bipush (x := (nI 10)) C dX3_choose_182 (by decide +kernel) h184
  have h181 := az_aald2 C dX3_choose_181 h182
  have h179 := az_iload C dX3_choose_179 h181
  have h176 := az_getR (T := TX8) (N := 11) (j := 5) C gwRX8 rfl (by decide) (by decide) iIRX8_5 mFRX3_60 rfl dX3_choose_176 h179
  have h175 := az_aload_n C 1 rfl dX3_choose_175 h176
  have h173 := az_iload C dX3_choose_173 h175
  have h171 := az_istore C (by decide) dX3_choose_171 h173
  have h170 := az_ior C dX3_choose_170 h171
  have h169 := az_ishl C dX3_choose_169 h170
  have h167 := az_iload C dX3_choose_167 h169
  have h166 := az_iconst (x := (nI 1)) C dX3_choose_166 (by decide +kernel) h167
  have h164 := az_iload C dX3_choose_164 h166
  have h161 := az_icmp_ge (tgt := 188) C dX3_choose_161 (by decide) (az_keep [true, true, true, true, true, true, true, true, false, false] (okLX3_choose_188 C hZ89)) h164
  have h159 := az_iload C dX3_choose_159 h161
  have h157 := az_iload C dX3_choose_157 h159
  have h154 := az_if_eq (tgt := 188) C dX3_choose_154 (by decide) (az_keep [true, true, true, true, true, true, true, true, false, false] (okLX3_choose_188 C hZ89)) h157
  have h152 := az_iload C dX3_choose_152 h154
  have h150 := az_istore C (by decide) dX3_choose_150 h152
  exact h150
def LX3_choose_149 (Q : Option Value → az_M → Prop) (Z89 : az_T) : az_T := (s_ic (nI 0) (s_kp [true, true, true, true, true, true, true, true, true, false] (LX3_choose_150 Q Z89)))
theorem okLX3_choose_149 {X : az_X} {Q : Option Value → az_M → Prop} (C : az_C X cX3_choose 10 RX3 (az_ts yX3_choose cX3_choose 10 (some .int)) ({ frames := 3, cells := 0, slots := 0, locals := 145 } : Room) (some .int) Q) {Z89 : az_T} (hZ89 : az_ok X 89 Z89) : az_ok X 149 (LX3_choose_149 Q Z89) := by
  have h149 := az_iconst (x := (nI 0)) C dX3_choose_149 (by decide +kernel) (az_keep [true, true, true, true, true, true, true, true, true, false] (okLX3_choose_150 C hZ89))
  exact h149
def BX3_choose_89 (Q : Option Value → az_M → Prop) (Z89 : az_T) : az_T := (s_li 7 (s_la 1 (s_gi 9 3 (s_if2 d_ge (s_li 4 (s_ri Q)) (s_la 0 (s_gr 5 0 (s_li 7 (s_al 20 (s_si 8 (s_la 2 (s_li 8 (s_li 3 (s_cs 3 FX3_isAvailable (s_if c_eq (s_kp [true, true, true, true, true, true, true, true, true, false] (LX3_choose_149 Q Z89)) (s_la 2 (s_gr 6 1 (s_la 1 (s_li 8 (s_li 3 (s_cv 3 10 FX9_mustStay (s_if c_ne (s_kp [true, true, true, true, true, true, true, true, true, false] (LX3_choose_149 Q Z89)) (s_la 2 (s_gr 6 1 (s_la 1 (s_li 8 (s_li 3 (s_cv 3 10 FX9_mustRest (s_if c_ne (s_kp [true, true, true, true, true, true, true, true, true, false] (LX3_choose_149 Q Z89)) (s_ic (nI 1) (s_kp [true, true, true, true, true, true, true, true, true, false] (LX3_choose_150 Q Z89)))))))))))))))))))))))))))))))
theorem okBX3_choose_89 {X : az_X} {Q : Option Value → az_M → Prop} (C : az_C X cX3_choose 10 RX3 (az_ts yX3_choose cX3_choose 10 (some .int)) ({ frames := 3, cells := 0, slots := 0, locals := 145 } : Room) (some .int) Q) {Z89 : az_T} (hZ89 : az_ok X 89 Z89) : az_ok X 89 (BX3_choose_89 Q Z89) := by
  have h196 := az_ireturn C rfl dX3_choose_196
  have h194 := az_iload C dX3_choose_194 h196
  have h146 := az_goto (tgt := 150) C dX3_choose_146 (by decide) (az_keep [true, true, true, true, true, true, true, true, true, false] (okLX3_choose_150 C hZ89))
  have h145 := az_iconst (x := (nI 1)) C dX3_choose_145 (by decide +kernel) h146
  have h142 := az_if_ne (tgt := 149) C dX3_choose_142 (by decide) (az_keep [true, true, true, true, true, true, true, true, true, false] (okLX3_choose_149 C hZ89)) h145
  have h139 := az_callVN (ci := 10) C okX9_mustRest knX9_mustRest imX9_mustRest seX9_mustRest mNRX3_84 rfl (by decide) ⟨rfl, rfl, by decide, by decide⟩ dX3_choose_139 h142
  have h138 := az_iload_n C 3 rfl dX3_choose_138 h139
  have h136 := az_iload C dX3_choose_136 h138
  have h135 := az_aload_n C 1 rfl dX3_choose_135 h136
  have h132 := az_getR (T := TX4) (N := 10) (j := 1) C gwRX4 rfl (by decide) (by decide) iIRX4_1 mFRX3_43 rfl dX3_choose_132 h135
  have h131 := az_aload_n C 2 rfl dX3_choose_131 h132
  have h128 := az_if_ne (tgt := 149) C dX3_choose_128 (by decide) (az_keep [true, true, true, true, true, true, true, true, true, false] (okLX3_choose_149 C hZ89)) h131
  have h125 := az_callVN (ci := 10) C okX9_mustStay knX9_mustStay imX9_mustStay seX9_mustStay mNRX3_80 rfl (by decide) ⟨rfl, rfl, by decide, by decide⟩ dX3_choose_125 h128
  have h124 := az_iload_n C 3 rfl dX3_choose_124 h125
  have h122 := az_iload C dX3_choose_122 h124
  have h121 := az_aload_n C 1 rfl dX3_choose_121 h122
  have h118 := az_getR (T := TX4) (N := 10) (j := 1) C gwRX4 rfl (by decide) (by decide) iIRX4_1 mFRX3_43 rfl dX3_choose_118 h121
  have h117 := az_aload_n C 2 rfl dX3_choose_117 h118
  have h114 := az_if_eq (tgt := 149) C dX3_choose_114 (by decide) (az_keep [true, true, true, true, true, true, true, true, true, false] (okLX3_choose_149 C hZ89)) h117
  have h111 := az_callS C okX3_isAvailable knX3_isAvailable stX3_isAvailable mLRX3_76 ⟨rfl, rfl, by decide, by decide⟩ dX3_choose_111 h114
  have h110 := az_iload_n C 3 rfl dX3_choose_110 h111
  have h108 := az_iload C dX3_choose_108 h110
  have h107 := az_aload_n C 2 rfl dX3_choose_107 h108
  have h105 := az_istore C (by decide) dX3_choose_105 h107
  have h104 := az_iald C dX3_choose_104 h105
  have h102 := az_iload C dX3_choose_102 h104
  have h99 := az_getR (T := TX3) (N := 2) (j := 0) C gwRX3 rfl (by decide) (by decide) iIRX3_0 mFRX3_9 rfl dX3_choose_99 h102
  have h98 := az_aload_n C 0 rfl dX3_choose_98 h99
  have h95 := az_icmp_ge (tgt := 194) C dX3_choose_95 (by decide) h194 h98
  have h92 := az_getI (T := TX8) (N := 11) (j := 3) C gwRX8 rfl (by decide) (by decide) iIRX8_3 mFRX3_34 rfl dX3_choose_92 h95
  have h91 := az_aload_n C 1 rfl dX3_choose_91 h92
  have h89 := az_iload C dX3_choose_89 h91
  exact h89
def LX3_choose_89 (Q : Option Value → az_M → Prop) : az_T := s_lp (fun Z => BX3_choose_89 Q Z)
theorem okLX3_choose_89 {X : az_X} {Q : Option Value → az_M → Prop} (C : az_C X cX3_choose 10 RX3 (az_ts yX3_choose cX3_choose 10 (some .int)) ({ frames := 3, cells := 0, slots := 0, locals := 145 } : Room) (some .int) Q) : az_ok X 89 (LX3_choose_89 Q) := az_loop (F := fun Z => BX3_choose_89 Q Z) (fun _ hZ => okBX3_choose_89 C hZ)
def LX3_choose_80 (Q : Option Value → az_M → Prop) (Z23 : az_T) : az_T := (s_inc 7 (nI 1) (s_kp [true, true, true, true, true, true, true, true, false, false] Z23))
theorem okLX3_choose_80 {X : az_X} {Q : Option Value → az_M → Prop} (C : az_C X cX3_choose 10 RX3 (az_ts yX3_choose cX3_choose 10 (some .int)) ({ frames := 3, cells := 0, slots := 0, locals := 145 } : Room) (some .int) Q) {Z23 : az_T} (hZ23 : az_ok X 23 Z23) : az_ok X 80 (LX3_choose_80 Q Z23) := by
  have h83 := az_goto (tgt := 23) C dX3_choose_83 (by decide) (az_keep [true, true, true, true, true, true, true, true, false, false] hZ23)
  have h80 := az_iinc (v := (nI 1)) C (by decide) (by decide +kernel) dX3_choose_80 h83
  exact h80
def BX3_choose_23 (Q : Option Value → az_M → Prop) (Z23 : az_T) : az_T := (s_li 7 (s_la 1 (s_gi 9 3 (s_if2 d_ge (s_ic (nI 0) (s_si 7 (s_kp [true, true, true, true, true, true, true, true, false, false] (LX3_choose_89 Q)))) (s_la 2 (s_li 7 (s_li 3 (s_cs 3 FX3_isAvailable (s_if c_eq (s_kp [true, true, true, true, true, true, true, true, false, false] (LX3_choose_80 Q Z23)) (s_la 2 (s_gr 6 1 (s_la 1 (s_li 7 (s_li 3 (s_cv 3 10 FX9_mustStay (s_if c_eq (s_kp [true, true, true, true, true, true, true, true, false, false] (LX3_choose_80 Q Z23)) (s_li 4 (s_ic (nI 1) (s_li 7 (s_bin f_shl (s_bin f_or (s_si 4 (s_li 5 (s_la 1 (s_gr 9 5 (s_li 7 (s_aa 25 (s_ic (nI 10) (s_al 20 (s_bin f_add (s_si 5 (s_kp [true, true, true, true, true, true, true, true, false, false] (LX3_choose_80 Q Z23)))))))))))))))))))))))))))))))))
theorem okBX3_choose_23 {X : az_X} {Q : Option Value → az_M → Prop} (C : az_C X cX3_choose 10 RX3 (az_ts yX3_choose cX3_choose 10 (some .int)) ({ frames := 3, cells := 0, slots := 0, locals := 145 } : Room) (some .int) Q) {Z23 : az_T} (hZ23 : az_ok X 23 Z23) : az_ok X 23 (BX3_choose_23 Q Z23) := by
  have h87 := az_istore C (by decide) dX3_choose_87 (az_keep [true, true, true, true, true, true, true, true, false, false] (okLX3_choose_89 C))
  have h86 := az_iconst (x := (nI 0)) C dX3_choose_86 (by decide +kernel) h87
  have h78 := az_istore C (by decide) dX3_choose_78 (az_keep [true, true, true, true, true, true, true, true, false, false] (okLX3_choose_80 C hZ23))
  have h77 := az_iadd C dX3_choose_77 h78
  have h76 := az_iald C dX3_choose_76 h77
  have h74 := az_bipush (x := (nI 10)) C dX3_choose_74 (by decide +kernel) h76
  have h73 := az_aald2 C dX3_choose_73 h74
  have h71 := az_iload C dX3_choose_71 h73
  have h68 := az_getR (T := TX8) (N := 11) (j := 5) C gwRX8 rfl (by decide) (by decide) iIRX8_5 mFRX3_60 rfl dX3_choose_68 h71
  have h67 := az_aload_n C 1 rfl dX3_choose_67 h68
  have h65 := az_iload C dX3_choose_65 h67
  have h63 := az_istore C (by decide) dX3_choose_63 h65
  have h62 := az_ior C dX3_choose_62 h63
  have h61 := az_ishl C dX3_choose_61 h62
  have h59 := az_iload C dX3_choose_59 h61
  have h58 := az_iconst (x := (nI 1)) C dX3_choose_58 (by decide +kernel) h59
  have h56 := az_iload C dX3_choose_56 h58
  have h53 := az_if_eq (tgt := 80) C dX3_choose_53 (by decide) (az_keep [true, true, true, true, true, true, true, true, false, false] (okLX3_choose_80 C hZ23)) h56
  have h50 := az_callVN (ci := 10) C okX9_mustStay knX9_mustStay imX9_mustStay seX9_mustStay mNRX3_80 rfl (by decide) ⟨rfl, rfl, by decide, by decide⟩ dX3_choose_50 h53
  have h49 := az_iload_n C 3 rfl dX3_choose_49 h50
  have h47 := az_iload C dX3_choose_47 h49
  have h46 := az_aload_n C 1 rfl dX3_choose_46 h47
  have h43 := az_getR (T := TX4) (N := 10) (j := 1) C gwRX4 rfl (by decide) (by decide) iIRX4_1 mFRX3_43 rfl dX3_choose_43 h46
  have h42 := az_aload_n C 2 rfl dX3_choose_42 h43
  have h39 := az_if_eq (tgt := 80) C dX3_choose_39 (by decide) (az_keep [true, true, true, true, true, true, true, true, false, false] (okLX3_choose_80 C hZ23)) h42
  have h36 := az_callS C okX3_isAvailable knX3_isAvailable stX3_isAvailable mLRX3_76 ⟨rfl, rfl, by decide, by decide⟩ dX3_choose_36 h39
  have h35 := az_iload_n C 3 rfl dX3_choose_35 h36
  have h33 := az_iload C dX3_choose_33 h35
  have h32 := az_aload_n C 2 rfl dX3_choose_32 h33
  have h29 := az_icmp_ge (tgt := 86) C dX3_choose_29 (by decide) h86 h32
  have h26 := az_getI (T := TX8) (N := 11) (j := 3) C gwRX8 rfl (by decide) (by decide) iIRX8_3 mFRX3_34 rfl dX3_choose_26 h29
  have h25 := az_aload_n C 1 rfl dX3_choose_25 h26
  have h23 := az_iload C dX3_choose_23 h25
  exact h23
def LX3_choose_23 (Q : Option Value → az_M → Prop) : az_T := s_lp (fun Z => BX3_choose_23 Q Z)
theorem okLX3_choose_23 {X : az_X} {Q : Option Value → az_M → Prop} (C : az_C X cX3_choose 10 RX3 (az_ts yX3_choose cX3_choose 10 (some .int)) ({ frames := 3, cells := 0, slots := 0, locals := 145 } : Room) (some .int) Q) : az_ok X 23 (LX3_choose_23 Q) := az_loop (F := fun Z => BX3_choose_23 Q Z) (fun _ hZ => okBX3_choose_23 C hZ)
def PX3_choose (Q : Option Value → az_M → Prop) : az_T := (s_ic (nI 0) (s_si 4 (s_ic (nI 0) (s_si 5 (s_la 1 (s_li 3 (s_cv 1 9 FX8_demandIn (s_la 1 (s_gr 9 8 (s_li 3 (s_al 20 (s_bin f_add (s_si 6 (s_ic (nI 0) (s_si 7 (s_kp [true, true, true, true, true, true, true, true, false, false] (LX3_choose_23 Q)))))))))))))))))
def FX3_choose : az_F := az_fun [true, true, true, false] 10 PX3_choose
theorem okX3_choose (l : Launch) : az_met l yX3_choose cX3_choose 10 (some .int) ({ frames := 3, cells := 0, slots := 0, locals := 145 } : Room) FX3_choose := az_met_of (own := RX3) (by decide +kernel) rfl (by decide) (fun X Q C => by
  have h21 := az_istore C (by decide) dX3_choose_21 (az_keep [true, true, true, true, true, true, true, true, false, false] (okLX3_choose_23 C))
  have h20 := az_iconst (x := (nI 0)) C dX3_choose_20 (by decide +kernel) h21
  have h18 := az_istore C (by decide) dX3_choose_18 h20
  have h17 := az_iadd C dX3_choose_17 h18
  have h16 := az_iald C dX3_choose_16 h17
  have h15 := az_iload_n C 3 rfl dX3_choose_15 h16
  have h12 := az_getR (T := TX8) (N := 11) (j := 8) C gwRX8 rfl (by decide) (by decide) iIRX8_8 mFRX3_73 rfl dX3_choose_12 h15
  have h11 := az_aload_n C 1 rfl dX3_choose_11 h12
  have h8 := az_callVN (ci := 9) C okX8_demandIn knX8_demandIn imX8_demandIn seX8_demandIn mNRX3_70 rfl (by decide) ⟨rfl, rfl, by decide, by decide⟩ dX3_choose_8 h11
  have h7 := az_iload_n C 3 rfl dX3_choose_7 h8
  have h6 := az_aload_n C 1 rfl dX3_choose_6 h7
  have h4 := az_istore C (by decide) dX3_choose_4 h6
  have h3 := az_iconst (x := (nI 0)) C dX3_choose_3 (by decide +kernel) h4
  have h1 := az_istore C (by decide) dX3_choose_1 h3
  have h0 := az_iconst (x := (nI 0)) C dX3_choose_0 (by decide +kernel) h1
  exact h0) l
theorem dJ6_bitCount_0f7a4_0 : decode cJ6_bitCount_0f7a4 0 = .ok (.iload_n 0, 1) := by decide +kernel
theorem dJ6_bitCount_0f7a4_1 : decode cJ6_bitCount_0f7a4 1 = .ok (.iload_n 0, 1) := by decide +kernel
theorem dJ6_bitCount_0f7a4_2 : decode cJ6_bitCount_0f7a4 2 = .ok (.iconst 1, 1) := by decide +kernel
theorem dJ6_bitCount_0f7a4_3 : decode cJ6_bitCount_0f7a4 3 = .ok (.iushr, 1) := by decide +kernel
theorem dJ6_bitCount_0f7a4_4 : decode cJ6_bitCount_0f7a4 4 = .ok (.ldc_w 265, 3) := by decide +kernel
theorem dJ6_bitCount_0f7a4_7 : decode cJ6_bitCount_0f7a4 7 = .ok (.iand, 1) := by decide +kernel
theorem dJ6_bitCount_0f7a4_8 : decode cJ6_bitCount_0f7a4 8 = .ok (.isub, 1) := by decide +kernel
theorem dJ6_bitCount_0f7a4_9 : decode cJ6_bitCount_0f7a4 9 = .ok (.istore_n 0, 1) := by decide +kernel
theorem dJ6_bitCount_0f7a4_10 : decode cJ6_bitCount_0f7a4 10 = .ok (.iload_n 0, 1) := by decide +kernel
theorem dJ6_bitCount_0f7a4_11 : decode cJ6_bitCount_0f7a4 11 = .ok (.ldc_w 266, 3) := by decide +kernel
theorem dJ6_bitCount_0f7a4_14 : decode cJ6_bitCount_0f7a4 14 = .ok (.iand, 1) := by decide +kernel
theorem dJ6_bitCount_0f7a4_15 : decode cJ6_bitCount_0f7a4 15 = .ok (.iload_n 0, 1) := by decide +kernel
theorem dJ6_bitCount_0f7a4_16 : decode cJ6_bitCount_0f7a4 16 = .ok (.iconst 2, 1) := by decide +kernel
theorem dJ6_bitCount_0f7a4_17 : decode cJ6_bitCount_0f7a4 17 = .ok (.iushr, 1) := by decide +kernel
theorem dJ6_bitCount_0f7a4_18 : decode cJ6_bitCount_0f7a4 18 = .ok (.ldc_w 266, 3) := by decide +kernel
theorem dJ6_bitCount_0f7a4_21 : decode cJ6_bitCount_0f7a4 21 = .ok (.iand, 1) := by decide +kernel
theorem dJ6_bitCount_0f7a4_22 : decode cJ6_bitCount_0f7a4 22 = .ok (.iadd, 1) := by decide +kernel
theorem dJ6_bitCount_0f7a4_23 : decode cJ6_bitCount_0f7a4 23 = .ok (.istore_n 0, 1) := by decide +kernel
theorem dJ6_bitCount_0f7a4_24 : decode cJ6_bitCount_0f7a4 24 = .ok (.iload_n 0, 1) := by decide +kernel
theorem dJ6_bitCount_0f7a4_25 : decode cJ6_bitCount_0f7a4 25 = .ok (.iload_n 0, 1) := by decide +kernel
theorem dJ6_bitCount_0f7a4_26 : decode cJ6_bitCount_0f7a4 26 = .ok (.iconst 4, 1) := by decide +kernel
theorem dJ6_bitCount_0f7a4_27 : decode cJ6_bitCount_0f7a4 27 = .ok (.iushr, 1) := by decide +kernel
theorem dJ6_bitCount_0f7a4_28 : decode cJ6_bitCount_0f7a4 28 = .ok (.iadd, 1) := by decide +kernel
theorem dJ6_bitCount_0f7a4_29 : decode cJ6_bitCount_0f7a4 29 = .ok (.ldc_w 267, 3) := by decide +kernel
theorem dJ6_bitCount_0f7a4_32 : decode cJ6_bitCount_0f7a4 32 = .ok (.iand, 1) := by decide +kernel
theorem dJ6_bitCount_0f7a4_33 : decode cJ6_bitCount_0f7a4 33 = .ok (.istore_n 0, 1) := by decide +kernel
theorem dJ6_bitCount_0f7a4_34 : decode cJ6_bitCount_0f7a4 34 = .ok (.iload_n 0, 1) := by decide +kernel
theorem dJ6_bitCount_0f7a4_35 : decode cJ6_bitCount_0f7a4 35 = .ok (.iload_n 0, 1) := by decide +kernel
theorem dJ6_bitCount_0f7a4_36 : decode cJ6_bitCount_0f7a4 36 = .ok (.bipush 8, 2) := by decide +kernel
theorem dJ6_bitCount_0f7a4_38 : decode cJ6_bitCount_0f7a4 38 = .ok (.iushr, 1) := by decide +kernel
theorem dJ6_bitCount_0f7a4_39 : decode cJ6_bitCount_0f7a4 39 = .ok (.iadd, 1) := by decide +kernel
theorem dJ6_bitCount_0f7a4_40 : decode cJ6_bitCount_0f7a4 40 = .ok (.istore_n 0, 1) := by decide +kernel
theorem dJ6_bitCount_0f7a4_41 : decode cJ6_bitCount_0f7a4 41 = .ok (.iload_n 0, 1) := by decide +kernel
theorem dJ6_bitCount_0f7a4_42 : decode cJ6_bitCount_0f7a4 42 = .ok (.iload_n 0, 1) := by decide +kernel
theorem dJ6_bitCount_0f7a4_43 : decode cJ6_bitCount_0f7a4 43 = .ok (.bipush 16, 2) := by decide +kernel
theorem dJ6_bitCount_0f7a4_45 : decode cJ6_bitCount_0f7a4 45 = .ok (.iushr, 1) := by decide +kernel
theorem dJ6_bitCount_0f7a4_46 : decode cJ6_bitCount_0f7a4 46 = .ok (.iadd, 1) := by decide +kernel
theorem dJ6_bitCount_0f7a4_47 : decode cJ6_bitCount_0f7a4 47 = .ok (.istore_n 0, 1) := by decide +kernel
theorem dJ6_bitCount_0f7a4_48 : decode cJ6_bitCount_0f7a4 48 = .ok (.iload_n 0, 1) := by decide +kernel
theorem dJ6_bitCount_0f7a4_49 : decode cJ6_bitCount_0f7a4 49 = .ok (.bipush 63, 2) := by decide +kernel
theorem dJ6_bitCount_0f7a4_51 : decode cJ6_bitCount_0f7a4 51 = .ok (.iand, 1) := by decide +kernel
theorem dJ6_bitCount_0f7a4_52 : decode cJ6_bitCount_0f7a4 52 = .ok (.ireturn, 1) := by decide +kernel
def PJ6_bitCount_0f7a4 (Q : Option Value → az_M → Prop) : az_T := (s_li 0 (s_li 0 (s_ic (nI 1) (s_bin f_ushr (s_ic (1431655765) (s_bin f_and (s_bin f_sub (s_si 0 (s_li 0 (s_ic (858993459) (s_bin f_and (s_li 0 (s_ic (nI 2) (s_bin f_ushr (s_ic (858993459) (s_bin f_and (s_bin f_add (s_si 0 (s_li 0 (s_li 0 (s_ic (nI 4) (s_bin f_ushr (s_bin f_add (s_ic (252645135) (s_bin f_and (s_si 0 (s_li 0 (s_li 0 (s_ic (nI 8) (s_bin f_ushr (s_bin f_add (s_si 0 (s_li 0 (s_li 0 (s_ic (nI 16) (s_bin f_ushr (s_bin f_add (s_si 0 (s_li 0 (s_ic (nI 63) (s_bin f_and (s_ri Q))))))))))))))))))))))))))))))))))))))))))
def FJ6_bitCount_0f7a4 : az_F := az_fun [false] 1 PJ6_bitCount_0f7a4
theorem okJ6_bitCount_0f7a4 (l : Launch) : az_met l yJ6_bitCount_0f7a4 cJ6_bitCount_0f7a4 1 (some .int) ({ frames := 1, cells := 0, slots := 0, locals := 100 } : Room) FJ6_bitCount_0f7a4 := az_met_of (own := RJ6) (by decide +kernel) rfl (by decide) (fun X Q C => by
  have h52 := az_ireturn C rfl dJ6_bitCount_0f7a4_52
  have h51 := az_iand C dJ6_bitCount_0f7a4_51 h52
  have h49 := az_bipush (x := (nI 63)) C dJ6_bitCount_0f7a4_49 (by decide +kernel) h51
  have h48 := az_iload_n C 0 rfl dJ6_bitCount_0f7a4_48 h49
  have h47 := az_istore_n C 0 rfl (by decide) dJ6_bitCount_0f7a4_47 h48
  have h46 := az_iadd C dJ6_bitCount_0f7a4_46 h47
  have h45 := az_iushr C dJ6_bitCount_0f7a4_45 h46
  have h43 := az_bipush (x := (nI 16)) C dJ6_bitCount_0f7a4_43 (by decide +kernel) h45
  have h42 := az_iload_n C 0 rfl dJ6_bitCount_0f7a4_42 h43
  have h41 := az_iload_n C 0 rfl dJ6_bitCount_0f7a4_41 h42
  have h40 := az_istore_n C 0 rfl (by decide) dJ6_bitCount_0f7a4_40 h41
  have h39 := az_iadd C dJ6_bitCount_0f7a4_39 h40
  have h38 := az_iushr C dJ6_bitCount_0f7a4_38 h39
  have h36 := az_bipush (x := (nI 8)) C dJ6_bitCount_0f7a4_36 (by decide +kernel) h38
  have h35 := az_iload_n C 0 rfl dJ6_bitCount_0f7a4_35 h36
  have h34 := az_iload_n C 0 rfl dJ6_bitCount_0f7a4_34 h35
  have h33 := az_istore_n C 0 rfl (by decide) dJ6_bitCount_0f7a4_33 h34
  have h32 := az_iand C dJ6_bitCount_0f7a4_32 h33
  have h29 := az_ldcw (x := (252645135)) C dJ6_bitCount_0f7a4_29 cvRJ6_267 h32
  have h28 := az_iadd C dJ6_bitCount_0f7a4_28 h29
  have h27 := az_iushr C dJ6_bitCount_0f7a4_27 h28
  have h26 := az_iconst (x := (nI 4)) C dJ6_bitCount_0f7a4_26 (by decide +kernel) h27
  have h25 := az_iload_n C 0 rfl dJ6_bitCount_0f7a4_25 h26
  have h24 := az_iload_n C 0 rfl dJ6_bitCount_0f7a4_24 h25
  have h23 := az_istore_n C 0 rfl (by decide) dJ6_bitCount_0f7a4_23 h24
  have h22 := az_iadd C dJ6_bitCount_0f7a4_22 h23
  have h21 := az_iand C dJ6_bitCount_0f7a4_21 h22
  have h18 := az_ldcw (x := (858993459)) C dJ6_bitCount_0f7a4_18 cvRJ6_266 h21
  have h17 := az_iushr C dJ6_bitCount_0f7a4_17 h18
  have h16 := az_iconst (x := (nI 2)) C dJ6_bitCount_0f7a4_16 (by decide +kernel) h17
  have h15 := az_iload_n C 0 rfl dJ6_bitCount_0f7a4_15 h16
  have h14 := az_iand C dJ6_bitCount_0f7a4_14 h15
  have h11 := az_ldcw (x := (858993459)) C dJ6_bitCount_0f7a4_11 cvRJ6_266 h14
  have h10 := az_iload_n C 0 rfl dJ6_bitCount_0f7a4_10 h11
  have h9 := az_istore_n C 0 rfl (by decide) dJ6_bitCount_0f7a4_9 h10
  have h8 := az_isub C dJ6_bitCount_0f7a4_8 h9
  have h7 := az_iand C dJ6_bitCount_0f7a4_7 h8
  have h4 := az_ldcw (x := (1431655765)) C dJ6_bitCount_0f7a4_4 cvRJ6_265 h7
  have h3 := az_iushr C dJ6_bitCount_0f7a4_3 h4
  have h2 := az_iconst (x := (nI 1)) C dJ6_bitCount_0f7a4_2 (by decide +kernel) h3
  have h1 := az_iload_n C 0 rfl dJ6_bitCount_0f7a4_1 h2
  have h0 := az_iload_n C 0 rfl dJ6_bitCount_0f7a4_0 h1
  exact h0) l
theorem dX3_makePlan_0 : decode cX3_makePlan 0 = .ok (.aload_n 2, 1) := by decide +kernel
theorem dX3_makePlan_1 : decode cX3_makePlan 1 = .ok (.getfield 18, 3) := by decide +kernel
theorem dX3_makePlan_4 : decode cX3_makePlan 4 = .ok (.aload_n 1, 1) := by decide +kernel
theorem dX3_makePlan_5 : decode cX3_makePlan 5 = .ok (.invokevirtual 24, 3) := by decide +kernel
theorem dX3_makePlan_8 : decode cX3_makePlan 8 = .ok (.aload_n 1, 1) := by decide +kernel
theorem dX3_makePlan_9 : decode cX3_makePlan 9 = .ok (.aload_n 0, 1) := by decide +kernel
theorem dX3_makePlan_10 : decode cX3_makePlan 10 = .ok (.getfield 9, 3) := by decide +kernel
theorem dX3_makePlan_13 : decode cX3_makePlan 13 = .ok (.iconst 1, 1) := by decide +kernel
theorem dX3_makePlan_14 : decode cX3_makePlan 14 = .ok (.invokestatic 30, 3) := by decide +kernel
theorem dX3_makePlan_17 : decode cX3_makePlan 17 = .ok (.iconst 0, 1) := by decide +kernel
theorem dX3_makePlan_18 : decode cX3_makePlan 18 = .ok (.istore_n 3, 1) := by decide +kernel
theorem dX3_makePlan_19 : decode cX3_makePlan 19 = .ok (.iload_n 3, 1) := by decide +kernel
theorem dX3_makePlan_20 : decode cX3_makePlan 20 = .ok (.aload_n 1, 1) := by decide +kernel
theorem dX3_makePlan_21 : decode cX3_makePlan 21 = .ok (.getfield 34, 3) := by decide +kernel
theorem dX3_makePlan_24 : decode cX3_makePlan 24 = .ok (.if_icmp .ge 16, 3) := by decide +kernel
theorem dX3_makePlan_27 : decode cX3_makePlan 27 = .ok (.aload_n 0, 1) := by decide +kernel
theorem dX3_makePlan_28 : decode cX3_makePlan 28 = .ok (.getfield 15, 3) := by decide +kernel
theorem dX3_makePlan_31 : decode cX3_makePlan 31 = .ok (.iload_n 3, 1) := by decide +kernel
theorem dX3_makePlan_32 : decode cX3_makePlan 32 = .ok (.iconst 0, 1) := by decide +kernel
theorem dX3_makePlan_33 : decode cX3_makePlan 33 = .ok (.iastore, 1) := by decide +kernel
theorem dX3_makePlan_34 : decode cX3_makePlan 34 = .ok (.iinc 3 1, 3) := by decide +kernel
theorem dX3_makePlan_37 : decode cX3_makePlan 37 = .ok (.goto (-18), 3) := by decide +kernel
theorem dX3_makePlan_40 : decode cX3_makePlan 40 = .ok (.iconst 0, 1) := by decide +kernel
theorem dX3_makePlan_41 : decode cX3_makePlan 41 = .ok (.istore_n 3, 1) := by decide +kernel
theorem dX3_makePlan_42 : decode cX3_makePlan 42 = .ok (.iload_n 3, 1) := by decide +kernel
theorem dX3_makePlan_43 : decode cX3_makePlan 43 = .ok (.aload_n 1, 1) := by decide +kernel
theorem dX3_makePlan_44 : decode cX3_makePlan 44 = .ok (.getfield 40, 3) := by decide +kernel
theorem dX3_makePlan_47 : decode cX3_makePlan 47 = .ok (.if_icmp .ge 78, 3) := by decide +kernel
theorem dX3_makePlan_50 : decode cX3_makePlan 50 = .ok (.aload_n 2, 1) := by decide +kernel
theorem dX3_makePlan_51 : decode cX3_makePlan 51 = .ok (.getfield 43, 3) := by decide +kernel
theorem dX3_makePlan_54 : decode cX3_makePlan 54 = .ok (.aload_n 1, 1) := by decide +kernel
theorem dX3_makePlan_55 : decode cX3_makePlan 55 = .ok (.iload_n 3, 1) := by decide +kernel
theorem dX3_makePlan_56 : decode cX3_makePlan 56 = .ok (.invokevirtual 47, 3) := by decide +kernel
theorem dX3_makePlan_59 : decode cX3_makePlan 59 = .ok (.aload_n 2, 1) := by decide +kernel
theorem dX3_makePlan_60 : decode cX3_makePlan 60 = .ok (.getfield 43, 3) := by decide +kernel
theorem dX3_makePlan_63 : decode cX3_makePlan 63 = .ok (.getfield 53, 3) := by decide +kernel
theorem dX3_makePlan_66 : decode cX3_makePlan 66 = .ok (.iload_n 3, 1) := by decide +kernel
theorem dX3_makePlan_67 : decode cX3_makePlan 67 = .ok (.aload_n 0, 1) := by decide +kernel
theorem dX3_makePlan_68 : decode cX3_makePlan 68 = .ok (.aload_n 1, 1) := by decide +kernel
theorem dX3_makePlan_69 : decode cX3_makePlan 69 = .ok (.aload_n 2, 1) := by decide +kernel
theorem dX3_makePlan_70 : decode cX3_makePlan 70 = .ok (.iload_n 3, 1) := by decide +kernel
theorem dX3_makePlan_71 : decode cX3_makePlan 71 = .ok (.invokevirtual 56, 3) := by decide +kernel
theorem dX3_makePlan_74 : decode cX3_makePlan 74 = .ok (.iastore, 1) := by decide +kernel
theorem dX3_makePlan_75 : decode cX3_makePlan 75 = .ok (.iconst 0, 1) := by decide +kernel
theorem dX3_makePlan_76 : decode cX3_makePlan 76 = .ok (.istore 4, 2) := by decide +kernel
theorem dX3_makePlan_78 : decode cX3_makePlan 78 = .ok (.iload 4, 2) := by decide +kernel
theorem dX3_makePlan_80 : decode cX3_makePlan 80 = .ok (.aload_n 1, 1) := by decide +kernel
theorem dX3_makePlan_81 : decode cX3_makePlan 81 = .ok (.getfield 34, 3) := by decide +kernel
theorem dX3_makePlan_84 : decode cX3_makePlan 84 = .ok (.if_icmp .ge 35, 3) := by decide +kernel
theorem dX3_makePlan_87 : decode cX3_makePlan 87 = .ok (.aload_n 0, 1) := by decide +kernel
theorem dX3_makePlan_88 : decode cX3_makePlan 88 = .ok (.getfield 15, 3) := by decide +kernel
theorem dX3_makePlan_91 : decode cX3_makePlan 91 = .ok (.iload 4, 2) := by decide +kernel
theorem dX3_makePlan_93 : decode cX3_makePlan 93 = .ok (.dup2, 1) := by decide +kernel
theorem dX3_makePlan_94 : decode cX3_makePlan 94 = .ok (.iaload, 1) := by decide +kernel
theorem dX3_makePlan_95 : decode cX3_makePlan 95 = .ok (.aload_n 2, 1) := by decide +kernel
theorem dX3_makePlan_96 : decode cX3_makePlan 96 = .ok (.getfield 43, 3) := by decide +kernel
theorem dX3_makePlan_99 : decode cX3_makePlan 99 = .ok (.getfield 53, 3) := by decide +kernel
theorem dX3_makePlan_102 : decode cX3_makePlan 102 = .ok (.iload_n 3, 1) := by decide +kernel
theorem dX3_makePlan_103 : decode cX3_makePlan 103 = .ok (.iaload, 1) := by decide +kernel
theorem dX3_makePlan_104 : decode cX3_makePlan 104 = .ok (.iload 4, 2) := by decide +kernel
theorem dX3_makePlan_106 : decode cX3_makePlan 106 = .ok (.ishr, 1) := by decide +kernel
theorem dX3_makePlan_107 : decode cX3_makePlan 107 = .ok (.iconst 1, 1) := by decide +kernel
theorem dX3_makePlan_108 : decode cX3_makePlan 108 = .ok (.iand, 1) := by decide +kernel
theorem dX3_makePlan_109 : decode cX3_makePlan 109 = .ok (.iload_n 3, 1) := by decide +kernel
theorem dX3_makePlan_110 : decode cX3_makePlan 110 = .ok (.ishl, 1) := by decide +kernel
theorem dX3_makePlan_111 : decode cX3_makePlan 111 = .ok (.ior, 1) := by decide +kernel
theorem dX3_makePlan_112 : decode cX3_makePlan 112 = .ok (.iastore, 1) := by decide +kernel
theorem dX3_makePlan_113 : decode cX3_makePlan 113 = .ok (.iinc 4 1, 3) := by decide +kernel
theorem dX3_makePlan_116 : decode cX3_makePlan 116 = .ok (.goto (-38), 3) := by decide +kernel
theorem dX3_makePlan_119 : decode cX3_makePlan 119 = .ok (.iinc 3 1, 3) := by decide +kernel
theorem dX3_makePlan_122 : decode cX3_makePlan 122 = .ok (.goto (-80), 3) := by decide +kernel
theorem dX3_makePlan_125 : decode cX3_makePlan 125 = .ok (.iconst 0, 1) := by decide +kernel
theorem dX3_makePlan_126 : decode cX3_makePlan 126 = .ok (.istore_n 3, 1) := by decide +kernel
theorem dX3_makePlan_127 : decode cX3_makePlan 127 = .ok (.iconst 0, 1) := by decide +kernel
theorem dX3_makePlan_128 : decode cX3_makePlan 128 = .ok (.istore 4, 2) := by decide +kernel
theorem dX3_makePlan_130 : decode cX3_makePlan 130 = .ok (.iload 4, 2) := by decide +kernel
theorem dX3_makePlan_132 : decode cX3_makePlan 132 = .ok (.aload_n 1, 1) := by decide +kernel
theorem dX3_makePlan_133 : decode cX3_makePlan 133 = .ok (.getfield 34, 3) := by decide +kernel
theorem dX3_makePlan_136 : decode cX3_makePlan 136 = .ok (.if_icmp .ge 50, 3) := by decide +kernel
theorem dX3_makePlan_139 : decode cX3_makePlan 139 = .ok (.iload_n 3, 1) := by decide +kernel
theorem dX3_makePlan_140 : decode cX3_makePlan 140 = .ok (.aload_n 0, 1) := by decide +kernel
theorem dX3_makePlan_141 : decode cX3_makePlan 141 = .ok (.getfield 15, 3) := by decide +kernel
theorem dX3_makePlan_144 : decode cX3_makePlan 144 = .ok (.iload 4, 2) := by decide +kernel
theorem dX3_makePlan_146 : decode cX3_makePlan 146 = .ok (.iaload, 1) := by decide +kernel
theorem dX3_makePlan_147 : decode cX3_makePlan 147 = .ok (.aload_n 1, 1) := by decide +kernel
theorem dX3_makePlan_148 : decode cX3_makePlan 148 = .ok (.getfield 60, 3) := by decide +kernel
theorem dX3_makePlan_151 : decode cX3_makePlan 151 = .ok (.iload 4, 2) := by decide +kernel
theorem dX3_makePlan_153 : decode cX3_makePlan 153 = .ok (.aaload, 1) := by decide +kernel
theorem dX3_makePlan_154 : decode cX3_makePlan 154 = .ok (.bipush 13, 2) := by decide +kernel
theorem dX3_makePlan_156 : decode cX3_makePlan 156 = .ok (.iaload, 1) := by decide +kernel
theorem dX3_makePlan_157 : decode cX3_makePlan 157 = .ok (.ixor, 1) := by decide +kernel
theorem dX3_makePlan_158 : decode cX3_makePlan 158 = .ok (.invokestatic 64, 3) := by decide +kernel
theorem dX3_makePlan_161 : decode cX3_makePlan 161 = .ok (.iadd, 1) := by decide +kernel
theorem dX3_makePlan_162 : decode cX3_makePlan 162 = .ok (.istore_n 3, 1) := by decide +kernel
theorem dX3_makePlan_163 : decode cX3_makePlan 163 = .ok (.aload_n 1, 1) := by decide +kernel
theorem dX3_makePlan_164 : decode cX3_makePlan 164 = .ok (.getfield 60, 3) := by decide +kernel
theorem dX3_makePlan_167 : decode cX3_makePlan 167 = .ok (.iload 4, 2) := by decide +kernel
theorem dX3_makePlan_169 : decode cX3_makePlan 169 = .ok (.aaload, 1) := by decide +kernel
theorem dX3_makePlan_170 : decode cX3_makePlan 170 = .ok (.bipush 13, 2) := by decide +kernel
theorem dX3_makePlan_172 : decode cX3_makePlan 172 = .ok (.aload_n 0, 1) := by decide +kernel
theorem dX3_makePlan_173 : decode cX3_makePlan 173 = .ok (.getfield 15, 3) := by decide +kernel
theorem dX3_makePlan_176 : decode cX3_makePlan 176 = .ok (.iload 4, 2) := by decide +kernel
theorem dX3_makePlan_178 : decode cX3_makePlan 178 = .ok (.iaload, 1) := by decide +kernel
theorem dX3_makePlan_179 : decode cX3_makePlan 179 = .ok (.iastore, 1) := by decide +kernel
theorem dX3_makePlan_180 : decode cX3_makePlan 180 = .ok (.iinc 4 1, 3) := by decide +kernel
theorem dX3_makePlan_183 : decode cX3_makePlan 183 = .ok (.goto (-53), 3) := by decide +kernel
theorem dX3_makePlan_186 : decode cX3_makePlan 186 = .ok (.iload_n 3, 1) := by decide +kernel
theorem dX3_makePlan_187 : decode cX3_makePlan 187 = .ok (.ireturn, 1) := by decide +kernel
def BX3_makePlan_130 (Q : Option Value → az_M → Prop) (Z130 : az_T) : az_T := (s_li 4 (s_la 1 (s_gi 9 3 (s_if2 d_ge (s_li 3 (s_ri Q)) (s_li 3 (s_la 0 (s_gr 5 1 (s_li 4 (s_al 20 (s_la 1 (s_gr 9 5 (s_li 4 (s_aa 25 (s_ic (nI 13) (s_al 20 (s_bin f_xor (s_cs 1 FJ6_bitCount_0f7a4 (s_bin f_add (s_si 3 (s_la 1 (s_gr 9 5 (s_li 4 (s_aa 25 (s_ic (nI 13) (s_la 0 (s_gr 5 1 (s_li 4 (s_al 20 (s_as (s_inc 4 (nI 1) (s_kp [true, true, false, true, true] Z130)))))))))))))))))))))))))))))))
theorem okBX3_makePlan_130 {X : az_X} {Q : Option Value → az_M → Prop} (C : az_C X cX3_makePlan 5 RX3 (az_ts yX3_makePlan cX3_makePlan 5 (some .int)) ({ frames := 4, cells := 0, slots := 0, locals := 174 } : Room) (some .int) Q) {Z130 : az_T} (hZ130 : az_ok X 130 Z130) : az_ok X 130 (BX3_makePlan_130 Q Z130) := by
  have h187 := az_ireturn C rfl dX3_makePlan_187
  have h186 := az_iload_n C 3 rfl dX3_makePlan_186 h187
  have h183 := az_goto (tgt := 130) C dX3_makePlan_183 (by decide) (az_keep [true, true, false, true, true] hZ130)
  have h180 := az_iinc (v := (nI 1)) C (by decide) (by decide +kernel) dX3_makePlan_180 h183
  have h179 := az_iast C dX3_makePlan_179 h180
  have h178 := az_iald C dX3_makePlan_178 h179
  have h176 := az_iload C dX3_makePlan_176 h178
  have h173 := az_getR (T := TX3) (N := 2) (j := 1) C gwRX3 rfl (by decide) (by decide) iIRX3_1 mFRX3_15 rfl dX3_makePlan_173 h176
  have h172 := az_aload_n C 0 rfl dX3_makePlan_172 h173
  have h170 := az_bipush (x := (nI 13)) C dX3_makePlan_170 (by decide +kernel) h172
  have h169 := az_aald2 C dX3_makePlan_169 h170
  have h167 := az_iload C dX3_makePlan_167 h169
  have h164 := az_getR (T := TX8) (N := 11) (j := 5) C gwRX8 rfl (by decide) (by decide) iIRX8_5 mFRX3_60 rfl dX3_makePlan_164 h167
  have h163 := az_aload_n C 1 rfl dX3_makePlan_163 h164
  have h162 := az_istore_n C 3 rfl (by decide) dX3_makePlan_162 h163
  have h161 := az_iadd C dX3_makePlan_161 h162
  have h158 := az_callS C okJ6_bitCount_0f7a4 knJ6_bitCount_0f7a4 stJ6_bitCount_0f7a4 mLRX3_64 ⟨rfl, rfl, by decide, by decide⟩ dX3_makePlan_158 h161
  have h157 := az_ixor C dX3_makePlan_157 h158
  have h156 := az_iald C dX3_makePlan_156 h157
  have h154 := az_bipush (x := (nI 13)) C dX3_makePlan_154 (by decide +kernel) h156
  have h153 := az_aald2 C dX3_makePlan_153 h154
  have h151 := az_iload C dX3_makePlan_151 h153
  have h148 := az_getR (T := TX8) (N := 11) (j := 5) C gwRX8 rfl (by decide) (by decide) iIRX8_5 mFRX3_60 rfl dX3_makePlan_148 h151
  have h147 := az_aload_n C 1 rfl dX3_makePlan_147 h148
  have h146 := az_iald C dX3_makePlan_146 h147
  have h144 := az_iload C dX3_makePlan_144 h146
  have h141 := az_getR (T := TX3) (N := 2) (j := 1) C gwRX3 rfl (by decide) (by decide) iIRX3_1 mFRX3_15 rfl dX3_makePlan_141 h144
  have h140 := az_aload_n C 0 rfl dX3_makePlan_140 h141
  have h139 := az_iload_n C 3 rfl dX3_makePlan_139 h140
  have h136 := az_icmp_ge (tgt := 186) C dX3_makePlan_136 (by decide) h186 h139
  have h133 := az_getI (T := TX8) (N := 11) (j := 3) C gwRX8 rfl (by decide) (by decide) iIRX8_3 mFRX3_34 rfl dX3_makePlan_133 h136
  have h132 := az_aload_n C 1 rfl dX3_makePlan_132 h133
  have h130 := az_iload C dX3_makePlan_130 h132
  exact h130
def LX3_makePlan_130 (Q : Option Value → az_M → Prop) : az_T := s_lp (fun Z => BX3_makePlan_130 Q Z)
theorem okLX3_makePlan_130 {X : az_X} {Q : Option Value → az_M → Prop} (C : az_C X cX3_makePlan 5 RX3 (az_ts yX3_makePlan cX3_makePlan 5 (some .int)) ({ frames := 4, cells := 0, slots := 0, locals := 174 } : Room) (some .int) Q) : az_ok X 130 (LX3_makePlan_130 Q) := az_loop (F := fun Z => BX3_makePlan_130 Q Z) (fun _ hZ => okBX3_makePlan_130 C hZ)
def BX3_makePlan_78 (Q : Option Value → az_M → Prop) (Z42 : az_T) (Z78 : az_T) : az_T := (s_li 4 (s_la 1 (s_gi 9 3 (s_if2 d_ge (s_inc 3 (nI 1) (s_kp [true, true, true, true, false] Z42)) (s_la 0 (s_gr 5 1 (s_li 4 (s_dup2 (s_al 20 (s_la 2 (s_gr 6 1 (s_gr 10 0 (s_li 3 (s_al 20 (s_li 4 (s_bin f_shr (s_ic (nI 1) (s_bin f_and (s_li 3 (s_bin f_shl (s_bin f_or (s_as (s_inc 4 (nI 1) (s_kp [true, true, true, true, true] Z78))))))))))))))))))))))))
theorem okBX3_makePlan_78 {X : az_X} {Q : Option Value → az_M → Prop} (C : az_C X cX3_makePlan 5 RX3 (az_ts yX3_makePlan cX3_makePlan 5 (some .int)) ({ frames := 4, cells := 0, slots := 0, locals := 174 } : Room) (some .int) Q) {Z42 : az_T} (hZ42 : az_ok X 42 Z42) {Z78 : az_T} (hZ78 : az_ok X 78 Z78) : az_ok X 78 (BX3_makePlan_78 Q Z42 Z78) := by
  have h122 := az_goto (tgt := 42) C dX3_makePlan_122 (by decide) (az_keep [true, true, true, true, false] hZ42)
  have h119 := az_iinc (v := (nI 1)) C (by decide) (by decide +kernel) dX3_makePlan_119 h122
  have h116 := az_goto (tgt := 78) C dX3_makePlan_116 (by decide) (az_keep [true, true, true, true, true] hZ78)
  have h113 := az_iinc (v := (nI 1)) C (by decide) (by decide +kernel) dX3_makePlan_113 h116
  have h112 := az_iast C dX3_makePlan_112 h113
  have h111 := az_ior C dX3_makePlan_111 h112
  have h110 := az_ishl C dX3_makePlan_110 h111
  have h109 := az_iload_n C 3 rfl dX3_makePlan_109 h110
  have h108 := az_iand C dX3_makePlan_108 h109
  have h107 := az_iconst (x := (nI 1)) C dX3_makePlan_107 (by decide +kernel) h108
  have h106 := az_ishr C dX3_makePlan_106 h107
  have h104 := az_iload C dX3_makePlan_104 h106
  have h103 := az_iald C dX3_makePlan_103 h104
  have h102 := az_iload_n C 3 rfl dX3_makePlan_102 h103
  have h99 := az_getR (T := TX9) (N := 3) (j := 0) C gwRX9 rfl (by decide) (by decide) iIRX9_0 mFRX3_53 rfl dX3_makePlan_99 h102
  have h96 := az_getR (T := TX4) (N := 10) (j := 1) C gwRX4 rfl (by decide) (by decide) iIRX4_1 mFRX3_43 rfl dX3_makePlan_96 h99
  have h95 := az_aload_n C 2 rfl dX3_makePlan_95 h96
  have h94 := az_iald C dX3_makePlan_94 h95
  have h93 := az_dup2 C dX3_makePlan_93 h94
  have h91 := az_iload C dX3_makePlan_91 h93
  have h88 := az_getR (T := TX3) (N := 2) (j := 1) C gwRX3 rfl (by decide) (by decide) iIRX3_1 mFRX3_15 rfl dX3_makePlan_88 h91
  have h87 := az_aload_n C 0 rfl dX3_makePlan_87 h88
  have h84 := az_icmp_ge (tgt := 119) C dX3_makePlan_84 (by decide) h119 h87
  have h81 := az_getI (T := TX8) (N := 11) (j := 3) C gwRX8 rfl (by decide) (by decide) iIRX8_3 mFRX3_34 rfl dX3_makePlan_81 h84
  have h80 := az_aload_n C 1 rfl dX3_makePlan_80 h81
  have h78 := az_iload C dX3_makePlan_78 h80
  exact h78
def LX3_makePlan_78 (Q : Option Value → az_M → Prop) (Z42 : az_T) : az_T := s_lp (fun Z => BX3_makePlan_78 Q Z42 Z)
theorem okLX3_makePlan_78 {X : az_X} {Q : Option Value → az_M → Prop} (C : az_C X cX3_makePlan 5 RX3 (az_ts yX3_makePlan cX3_makePlan 5 (some .int)) ({ frames := 4, cells := 0, slots := 0, locals := 174 } : Room) (some .int) Q) {Z42 : az_T} (hZ42 : az_ok X 42 Z42) : az_ok X 78 (LX3_makePlan_78 Q Z42) := az_loop (F := fun Z => BX3_makePlan_78 Q Z42 Z) (fun _ hZ => okBX3_makePlan_78 C hZ42 hZ)
def BX3_makePlan_42 (Q : Option Value → az_M → Prop) (Z42 : az_T) : az_T := (s_li 3 (s_la 1 (s_gi 9 0 (s_if2 d_ge (s_ic (nI 0) (s_si 3 (s_ic (nI 0) (s_si 4 (s_kp [true, true, false, true, true] (LX3_makePlan_130 Q)))))) (s_la 2 (s_gr 6 1 (s_la 1 (s_li 3 (s_cv 2 10 FX9_advance (s_la 2 (s_gr 6 1 (s_gr 10 0 (s_li 3 (s_la 0 (s_la 1 (s_la 2 (s_li 3 (s_cv 3 5 FX3_choose (s_as (s_ic (nI 0) (s_si 4 (s_kp [true, true, true, true, true] (LX3_makePlan_78 Q Z42)))))))))))))))))))))))
theorem okBX3_makePlan_42 {X : az_X} {Q : Option Value → az_M → Prop} (C : az_C X cX3_makePlan 5 RX3 (az_ts yX3_makePlan cX3_makePlan 5 (some .int)) ({ frames := 4, cells := 0, slots := 0, locals := 174 } : Room) (some .int) Q) {Z42 : az_T} (hZ42 : az_ok X 42 Z42) : az_ok X 42 (BX3_makePlan_42 Q Z42) := by
  have h128 := az_istore C (by decide) dX3_makePlan_128 (az_keep [true, true, false, true, true] (okLX3_makePlan_130 C))
  have h127 := az_iconst (x := (nI 0)) C dX3_makePlan_127 (by decide +kernel) h128
  have h126 := az_istore_n C 3 rfl (by decide) dX3_makePlan_126 h127
  have h125 := az_iconst (x := (nI 0)) C dX3_makePlan_125 (by decide +kernel) h126
  have h76 := az_istore C (by decide) dX3_makePlan_76 (az_keep [true, true, true, true, true] (okLX3_makePlan_78 C hZ42))
  have h75 := az_iconst (x := (nI 0)) C dX3_makePlan_75 (by decide +kernel) h76
  have h74 := az_iast C dX3_makePlan_74 h75
  have h71 := az_callV (ci := 5) C okX3_choose knX3_choose imX3_choose seX3_choose mLRX3_56 rfl (by decide) ⟨rfl, rfl, by decide, by decide⟩ dX3_makePlan_71 h74
  have h70 := az_iload_n C 3 rfl dX3_makePlan_70 h71
  have h69 := az_aload_n C 2 rfl dX3_makePlan_69 h70
  have h68 := az_aload_n C 1 rfl dX3_makePlan_68 h69
  have h67 := az_aload_n C 0 rfl dX3_makePlan_67 h68
  have h66 := az_iload_n C 3 rfl dX3_makePlan_66 h67
  have h63 := az_getR (T := TX9) (N := 3) (j := 0) C gwRX9 rfl (by decide) (by decide) iIRX9_0 mFRX3_53 rfl dX3_makePlan_63 h66
  have h60 := az_getR (T := TX4) (N := 10) (j := 1) C gwRX4 rfl (by decide) (by decide) iIRX4_1 mFRX3_43 rfl dX3_makePlan_60 h63
  have h59 := az_aload_n C 2 rfl dX3_makePlan_59 h60
  have h56 := az_callVN (ci := 10) C okX9_advance knX9_advance imX9_advance seX9_advance mNRX3_47 rfl (by decide) ⟨rfl, rfl, by decide, by decide⟩ dX3_makePlan_56 h59
  have h55 := az_iload_n C 3 rfl dX3_makePlan_55 h56
  have h54 := az_aload_n C 1 rfl dX3_makePlan_54 h55
  have h51 := az_getR (T := TX4) (N := 10) (j := 1) C gwRX4 rfl (by decide) (by decide) iIRX4_1 mFRX3_43 rfl dX3_makePlan_51 h54
  have h50 := az_aload_n C 2 rfl dX3_makePlan_50 h51
  have h47 := az_icmp_ge (tgt := 125) C dX3_makePlan_47 (by decide) h125 h50
  have h44 := az_getI (T := TX8) (N := 11) (j := 0) C gwRX8 rfl (by decide) (by decide) iIRX8_0 mFRX3_40 rfl dX3_makePlan_44 h47
  have h43 := az_aload_n C 1 rfl dX3_makePlan_43 h44
  have h42 := az_iload_n C 3 rfl dX3_makePlan_42 h43
  exact h42
def LX3_makePlan_42 (Q : Option Value → az_M → Prop) : az_T := s_lp (fun Z => BX3_makePlan_42 Q Z)
theorem okLX3_makePlan_42 {X : az_X} {Q : Option Value → az_M → Prop} (C : az_C X cX3_makePlan 5 RX3 (az_ts yX3_makePlan cX3_makePlan 5 (some .int)) ({ frames := 4, cells := 0, slots := 0, locals := 174 } : Room) (some .int) Q) : az_ok X 42 (LX3_makePlan_42 Q) := az_loop (F := fun Z => BX3_makePlan_42 Q Z) (fun _ hZ => okBX3_makePlan_42 C hZ)
def BX3_makePlan_19 (Q : Option Value → az_M → Prop) (Z19 : az_T) : az_T := (s_li 3 (s_la 1 (s_gi 9 3 (s_if2 d_ge (s_ic (nI 0) (s_si 3 (s_kp [true, true, true, true, false] (LX3_makePlan_42 Q)))) (s_la 0 (s_gr 5 1 (s_li 3 (s_ic (nI 0) (s_as (s_inc 3 (nI 1) (s_kp [true, true, true, true, false] Z19)))))))))))
theorem okBX3_makePlan_19 {X : az_X} {Q : Option Value → az_M → Prop} (C : az_C X cX3_makePlan 5 RX3 (az_ts yX3_makePlan cX3_makePlan 5 (some .int)) ({ frames := 4, cells := 0, slots := 0, locals := 174 } : Room) (some .int) Q) {Z19 : az_T} (hZ19 : az_ok X 19 Z19) : az_ok X 19 (BX3_makePlan_19 Q Z19) := by
  have h41 := az_istore_n C 3 rfl (by decide) dX3_makePlan_41 (az_keep [true, true, true, true, false] (okLX3_makePlan_42 C))
  have h40 := az_iconst (x := (nI 0)) C dX3_makePlan_40 (by decide +kernel) h41
  have h37 := az_goto (tgt := 19) C dX3_makePlan_37 (by decide) (az_keep [true, true, true, true, false] hZ19)
  have h34 := az_iinc (v := (nI 1)) C (by decide) (by decide +kernel) dX3_makePlan_34 h37
  have h33 := az_iast C dX3_makePlan_33 h34
  have h32 := az_iconst (x := (nI 0)) C dX3_makePlan_32 (by decide +kernel) h33
  have h31 := az_iload_n C 3 rfl dX3_makePlan_31 h32
  have h28 := az_getR (T := TX3) (N := 2) (j := 1) C gwRX3 rfl (by decide) (by decide) iIRX3_1 mFRX3_15 rfl dX3_makePlan_28 h31
  have h27 := az_aload_n C 0 rfl dX3_makePlan_27 h28
  have h24 := az_icmp_ge (tgt := 40) C dX3_makePlan_24 (by decide) h40 h27
  have h21 := az_getI (T := TX8) (N := 11) (j := 3) C gwRX8 rfl (by decide) (by decide) iIRX8_3 mFRX3_34 rfl dX3_makePlan_21 h24
  have h20 := az_aload_n C 1 rfl dX3_makePlan_20 h21
  have h19 := az_iload_n C 3 rfl dX3_makePlan_19 h20
  exact h19
def LX3_makePlan_19 (Q : Option Value → az_M → Prop) : az_T := s_lp (fun Z => BX3_makePlan_19 Q Z)
theorem okLX3_makePlan_19 {X : az_X} {Q : Option Value → az_M → Prop} (C : az_C X cX3_makePlan 5 RX3 (az_ts yX3_makePlan cX3_makePlan 5 (some .int)) ({ frames := 4, cells := 0, slots := 0, locals := 174 } : Room) (some .int) Q) : az_ok X 19 (LX3_makePlan_19 Q) := az_loop (F := fun Z => BX3_makePlan_19 Q Z) (fun _ hZ => okBX3_makePlan_19 C hZ)
def PX3_makePlan (Q : Option Value → az_M → Prop) : az_T := (s_la 2 (s_gr 6 0 (s_la 1 (s_cv 1 2 FX0_schedule (s_la 1 (s_la 0 (s_gr 5 0 (s_ic (nI 1) (s_cs 3 FX3_sort (s_ic (nI 0) (s_si 3 (s_kp [true, true, true, true, false] (LX3_makePlan_19 Q)))))))))))))
def FX3_makePlan : az_F := az_fun [true, true, true] 5 PX3_makePlan
theorem okX3_makePlan (l : Launch) : az_met l yX3_makePlan cX3_makePlan 5 (some .int) ({ frames := 4, cells := 0, slots := 0, locals := 174 } : Room) FX3_makePlan := az_met_of (own := RX3) (by decide +kernel) rfl (by decide) (fun X Q C => by
  have h18 := az_istore_n C 3 rfl (by decide) dX3_makePlan_18 (az_keep [true, true, true, true, false] (okLX3_makePlan_19 C))
  have h17 := az_iconst (x := (nI 0)) C dX3_makePlan_17 (by decide +kernel) h18
  have h14 := az_callS C okX3_sort knX3_sort stX3_sort mLRX3_30 ⟨rfl, rfl, by decide, by decide⟩ dX3_makePlan_14 h17
  have h13 := az_iconst (x := (nI 1)) C dX3_makePlan_13 (by decide +kernel) h14
  have h10 := az_getR (T := TX3) (N := 2) (j := 0) C gwRX3 rfl (by decide) (by decide) iIRX3_0 mFRX3_9 rfl dX3_makePlan_10 h13
  have h9 := az_aload_n C 0 rfl dX3_makePlan_9 h10
  have h8 := az_aload_n C 1 rfl dX3_makePlan_8 h9
  have h5 := az_callVN (ci := 2) C okX0_schedule knX0_schedule imX0_schedule seX0_schedule mNRX3_24 rfl (by decide) ⟨rfl, rfl, by decide, by decide⟩ dX3_makePlan_5 h8
  have h4 := az_aload_n C 1 rfl dX3_makePlan_4 h5
  have h1 := az_getR (T := TX4) (N := 10) (j := 0) C gwRX4 rfl (by decide) (by decide) iIRX4_0 mFRX3_18 rfl dX3_makePlan_1 h4
  have h0 := az_aload_n C 2 rfl dX3_makePlan_0 h1
  exact h0) l
theorem dX4_prepare_0 : decode cX4_prepare 0 = .ok (.aload_n 0, 1) := by decide +kernel
theorem dX4_prepare_1 : decode cX4_prepare 1 = .ok (.getfield 12, 3) := by decide +kernel
theorem dX4_prepare_4 : decode cX4_prepare 4 = .ok (.aload_n 1, 1) := by decide +kernel
theorem dX4_prepare_5 : decode cX4_prepare 5 = .ok (.invokevirtual 81, 3) := by decide +kernel
theorem dX4_prepare_8 : decode cX4_prepare 8 = .ok (.aload_n 1, 1) := by decide +kernel
theorem dX4_prepare_9 : decode cX4_prepare 9 = .ok (.aload_n 0, 1) := by decide +kernel
theorem dX4_prepare_10 : decode cX4_prepare 10 = .ok (.getfield 52, 3) := by decide +kernel
theorem dX4_prepare_13 : decode cX4_prepare 13 = .ok (.iconst 0, 1) := by decide +kernel
theorem dX4_prepare_14 : decode cX4_prepare 14 = .ok (.invokestatic 84, 3) := by decide +kernel
theorem dX4_prepare_17 : decode cX4_prepare 17 = .ok (.return_, 1) := by decide +kernel
def PX4_prepare (Q : Option Value → az_M → Prop) : az_T := (s_la 0 (s_gr 6 0 (s_la 1 (s_cv 1 2 FX0_schedule (s_la 1 (s_la 0 (s_gr 6 9 (s_ic (nI 0) (s_cs 3 FX3_sort (s_rv Q))))))))))
def FX4_prepare : az_F := az_fun [true, true] 2 PX4_prepare
theorem okX4_prepare (l : Launch) : az_met l yX4_prepare cX4_prepare 2 none ({ frames := 4, cells := 0, slots := 0, locals := 171 } : Room) FX4_prepare := az_met_of (own := RX4) (by decide +kernel) rfl (by decide) (fun X Q C => by
  have h17 := az_vreturn C rfl dX4_prepare_17
  have h14 := az_callSN C okX3_sort knX3_sort stX3_sort mNRX4_84 ⟨rfl, rfl, by decide, by decide⟩ dX4_prepare_14 h17
  have h13 := az_iconst (x := (nI 0)) C dX4_prepare_13 (by decide +kernel) h14
  have h10 := az_getR (T := TX4) (N := 10) (j := 9) C gwRX4 rfl (by decide) (by decide) iIRX4_9 mFRX4_52 rfl dX4_prepare_10 h13
  have h9 := az_aload_n C 0 rfl dX4_prepare_9 h10
  have h8 := az_aload_n C 1 rfl dX4_prepare_8 h9
  have h5 := az_callVN (ci := 2) C okX0_schedule knX0_schedule imX0_schedule seX0_schedule mNRX4_81 rfl (by decide) ⟨rfl, rfl, by decide, by decide⟩ dX4_prepare_5 h8
  have h4 := az_aload_n C 1 rfl dX4_prepare_4 h5
  have h1 := az_getR (T := TX4) (N := 10) (j := 0) C gwRX4 rfl (by decide) (by decide) iIRX4_0 mFRX4_12 rfl dX4_prepare_1 h4
  have h0 := az_aload_n C 0 rfl dX4_prepare_0 h1
  exact h0) l
theorem dX8_plannedIn_0 : decode cX8_plannedIn 0 = .ok (.iconst 0, 1) := by decide +kernel
theorem dX8_plannedIn_1 : decode cX8_plannedIn 1 = .ok (.istore_n 2, 1) := by decide +kernel
theorem dX8_plannedIn_2 : decode cX8_plannedIn 2 = .ok (.iconst 0, 1) := by decide +kernel
theorem dX8_plannedIn_3 : decode cX8_plannedIn 3 = .ok (.istore_n 3, 1) := by decide +kernel
theorem dX8_plannedIn_4 : decode cX8_plannedIn 4 = .ok (.iload_n 3, 1) := by decide +kernel
theorem dX8_plannedIn_5 : decode cX8_plannedIn 5 = .ok (.aload_n 0, 1) := by decide +kernel
theorem dX8_plannedIn_6 : decode cX8_plannedIn 6 = .ok (.getfield 46, 3) := by decide +kernel
theorem dX8_plannedIn_9 : decode cX8_plannedIn 9 = .ok (.if_icmp .ge 32, 3) := by decide +kernel
theorem dX8_plannedIn_12 : decode cX8_plannedIn 12 = .ok (.aload_n 0, 1) := by decide +kernel
theorem dX8_plannedIn_13 : decode cX8_plannedIn 13 = .ok (.getfield 11, 3) := by decide +kernel
theorem dX8_plannedIn_16 : decode cX8_plannedIn 16 = .ok (.iload_n 3, 1) := by decide +kernel
theorem dX8_plannedIn_17 : decode cX8_plannedIn 17 = .ok (.aaload, 1) := by decide +kernel
theorem dX8_plannedIn_18 : decode cX8_plannedIn 18 = .ok (.bipush 13, 2) := by decide +kernel
theorem dX8_plannedIn_20 : decode cX8_plannedIn 20 = .ok (.iaload, 1) := by decide +kernel
theorem dX8_plannedIn_21 : decode cX8_plannedIn 21 = .ok (.iload_n 1, 1) := by decide +kernel
theorem dX8_plannedIn_22 : decode cX8_plannedIn 22 = .ok (.ishr, 1) := by decide +kernel
theorem dX8_plannedIn_23 : decode cX8_plannedIn 23 = .ok (.iconst 1, 1) := by decide +kernel
theorem dX8_plannedIn_24 : decode cX8_plannedIn 24 = .ok (.iand, 1) := by decide +kernel
theorem dX8_plannedIn_25 : decode cX8_plannedIn 25 = .ok (.iconst 1, 1) := by decide +kernel
theorem dX8_plannedIn_26 : decode cX8_plannedIn 26 = .ok (.if_icmp .ne 9, 3) := by decide +kernel
theorem dX8_plannedIn_29 : decode cX8_plannedIn 29 = .ok (.iload_n 2, 1) := by decide +kernel
theorem dX8_plannedIn_30 : decode cX8_plannedIn 30 = .ok (.iconst 1, 1) := by decide +kernel
theorem dX8_plannedIn_31 : decode cX8_plannedIn 31 = .ok (.iload_n 3, 1) := by decide +kernel
theorem dX8_plannedIn_32 : decode cX8_plannedIn 32 = .ok (.ishl, 1) := by decide +kernel
theorem dX8_plannedIn_33 : decode cX8_plannedIn 33 = .ok (.ior, 1) := by decide +kernel
theorem dX8_plannedIn_34 : decode cX8_plannedIn 34 = .ok (.istore_n 2, 1) := by decide +kernel
theorem dX8_plannedIn_35 : decode cX8_plannedIn 35 = .ok (.iinc 3 1, 3) := by decide +kernel
theorem dX8_plannedIn_38 : decode cX8_plannedIn 38 = .ok (.goto (-34), 3) := by decide +kernel
theorem dX8_plannedIn_41 : decode cX8_plannedIn 41 = .ok (.iload_n 2, 1) := by decide +kernel
theorem dX8_plannedIn_42 : decode cX8_plannedIn 42 = .ok (.ireturn, 1) := by decide +kernel
def LX8_plannedIn_35 (Q : Option Value → az_M → Prop) (Z4 : az_T) : az_T := (s_inc 3 (nI 1) (s_kp [true, true, true, true] Z4))
theorem okLX8_plannedIn_35 {X : az_X} {Q : Option Value → az_M → Prop} (C : az_C X cX8_plannedIn 4 RX8 (az_ts yX8_plannedIn cX8_plannedIn 4 (some .int)) ({ frames := 1, cells := 0, slots := 0, locals := 100 } : Room) (some .int) Q) {Z4 : az_T} (hZ4 : az_ok X 4 Z4) : az_ok X 35 (LX8_plannedIn_35 Q Z4) := by
  have h38 := az_goto (tgt := 4) C dX8_plannedIn_38 (by decide) (az_keep [true, true, true, true] hZ4)
  have h35 := az_iinc (v := (nI 1)) C (by decide) (by decide +kernel) dX8_plannedIn_35 h38
  exact h35
def BX8_plannedIn_4 (Q : Option Value → az_M → Prop) (Z4 : az_T) : az_T := (s_li 3 (s_la 0 (s_gi 9 3 (s_if2 d_ge (s_li 2 (s_ri Q)) (s_la 0 (s_gr 9 5 (s_li 3 (s_aa 25 (s_ic (nI 13) (s_al 20 (s_li 1 (s_bin f_shr (s_ic (nI 1) (s_bin f_and (s_ic (nI 1) (s_if2 d_ne (s_kp [true, true, true, true] (LX8_plannedIn_35 Q Z4)) (s_li 2 (s_ic (nI 1) (s_li 3 (s_bin f_shl (s_bin f_or (s_si 2 (s_kp [true, true, true, true] (LX8_plannedIn_35 Q Z4))))))))))))))))))))))))
theorem okBX8_plannedIn_4 {X : az_X} {Q : Option Value → az_M → Prop} (C : az_C X cX8_plannedIn 4 RX8 (az_ts yX8_plannedIn cX8_plannedIn 4 (some .int)) ({ frames := 1, cells := 0, slots := 0, locals := 100 } : Room) (some .int) Q) {Z4 : az_T} (hZ4 : az_ok X 4 Z4) : az_ok X 4 (BX8_plannedIn_4 Q Z4) := by
  have h42 := az_ireturn C rfl dX8_plannedIn_42
  have h41 := az_iload_n C 2 rfl dX8_plannedIn_41 h42
  have h34 := az_istore_n C 2 rfl (by decide) dX8_plannedIn_34 (az_keep [true, true, true, true] (okLX8_plannedIn_35 C hZ4))
  have h33 := az_ior C dX8_plannedIn_33 h34
  have h32 := az_ishl C dX8_plannedIn_32 h33
  have h31 := az_iload_n C 3 rfl dX8_plannedIn_31 h32
  have h30 := az_iconst (x := (nI 1)) C dX8_plannedIn_30 (by decide +kernel) h31
  have h29 := az_iload_n C 2 rfl dX8_plannedIn_29 h30
  have h26 := az_icmp_ne (tgt := 35) C dX8_plannedIn_26 (by decide) (az_keep [true, true, true, true] (okLX8_plannedIn_35 C hZ4)) h29
  have h25 := az_iconst (x := (nI 1)) C dX8_plannedIn_25 (by decide +kernel) h26
  have h24 := az_iand C dX8_plannedIn_24 h25
  have h23 := az_iconst (x := (nI 1)) C dX8_plannedIn_23 (by decide +kernel) h24
  have h22 := az_ishr C dX8_plannedIn_22 h23
  have h21 := az_iload_n C 1 rfl dX8_plannedIn_21 h22
  have h20 := az_iald C dX8_plannedIn_20 h21
  have h18 := az_bipush (x := (nI 13)) C dX8_plannedIn_18 (by decide +kernel) h20
  have h17 := az_aald2 C dX8_plannedIn_17 h18
  have h16 := az_iload_n C 3 rfl dX8_plannedIn_16 h17
  have h13 := az_getR (T := TX8) (N := 11) (j := 5) C gwRX8 rfl (by decide) (by decide) iIRX8_5 mFRX8_11 rfl dX8_plannedIn_13 h16
  have h12 := az_aload_n C 0 rfl dX8_plannedIn_12 h13
  have h9 := az_icmp_ge (tgt := 41) C dX8_plannedIn_9 (by decide) h41 h12
  have h6 := az_getI (T := TX8) (N := 11) (j := 3) C gwRX8 rfl (by decide) (by decide) iIRX8_3 mFRX8_46 rfl dX8_plannedIn_6 h9
  have h5 := az_aload_n C 0 rfl dX8_plannedIn_5 h6
  have h4 := az_iload_n C 3 rfl dX8_plannedIn_4 h5
  exact h4
def LX8_plannedIn_4 (Q : Option Value → az_M → Prop) : az_T := s_lp (fun Z => BX8_plannedIn_4 Q Z)
theorem okLX8_plannedIn_4 {X : az_X} {Q : Option Value → az_M → Prop} (C : az_C X cX8_plannedIn 4 RX8 (az_ts yX8_plannedIn cX8_plannedIn 4 (some .int)) ({ frames := 1, cells := 0, slots := 0, locals := 100 } : Room) (some .int) Q) : az_ok X 4 (LX8_plannedIn_4 Q) := az_loop (F := fun Z => BX8_plannedIn_4 Q Z) (fun _ hZ => okBX8_plannedIn_4 C hZ)
def PX8_plannedIn (Q : Option Value → az_M → Prop) : az_T := (s_ic (nI 0) (s_si 2 (s_ic (nI 0) (s_si 3 (s_kp [true, true, true, true] (LX8_plannedIn_4 Q))))))
def FX8_plannedIn : az_F := az_fun [true, false] 4 PX8_plannedIn
theorem okX8_plannedIn (l : Launch) : az_met l yX8_plannedIn cX8_plannedIn 4 (some .int) ({ frames := 1, cells := 0, slots := 0, locals := 100 } : Room) FX8_plannedIn := az_met_of (own := RX8) (by decide +kernel) rfl (by decide) (fun X Q C => by
  have h3 := az_istore_n C 3 rfl (by decide) dX8_plannedIn_3 (az_keep [true, true, true, true] (okLX8_plannedIn_4 C))
  have h2 := az_iconst (x := (nI 0)) C dX8_plannedIn_2 (by decide +kernel) h3
  have h1 := az_istore_n C 2 rfl (by decide) dX8_plannedIn_1 h2
  have h0 := az_iconst (x := (nI 0)) C dX8_plannedIn_0 (by decide +kernel) h1
  exact h0) l
theorem dX4_setLimits_0 : decode cX4_setLimits 0 = .ok (.aload_n 1, 1) := by decide +kernel
theorem dX4_setLimits_1 : decode cX4_setLimits 1 = .ok (.getfield 113, 3) := by decide +kernel
theorem dX4_setLimits_4 : decode cX4_setLimits 4 = .ok (.iload_n 2, 1) := by decide +kernel
theorem dX4_setLimits_5 : decode cX4_setLimits 5 = .ok (.aaload, 1) := by decide +kernel
theorem dX4_setLimits_6 : decode cX4_setLimits 6 = .ok (.astore 4, 2) := by decide +kernel
theorem dX4_setLimits_8 : decode cX4_setLimits 8 = .ok (.aload_n 0, 1) := by decide +kernel
theorem dX4_setLimits_9 : decode cX4_setLimits 9 = .ok (.getfield 34, 3) := by decide +kernel
theorem dX4_setLimits_12 : decode cX4_setLimits 12 = .ok (.iload_n 2, 1) := by decide +kernel
theorem dX4_setLimits_13 : decode cX4_setLimits 13 = .ok (.aaload, 1) := by decide +kernel
theorem dX4_setLimits_14 : decode cX4_setLimits 14 = .ok (.iload_n 3, 1) := by decide +kernel
theorem dX4_setLimits_15 : decode cX4_setLimits 15 = .ok (.iconst 0, 1) := by decide +kernel
theorem dX4_setLimits_16 : decode cX4_setLimits 16 = .ok (.iastore, 1) := by decide +kernel
theorem dX4_setLimits_17 : decode cX4_setLimits 17 = .ok (.aload_n 0, 1) := by decide +kernel
theorem dX4_setLimits_18 : decode cX4_setLimits 18 = .ok (.getfield 37, 3) := by decide +kernel
theorem dX4_setLimits_21 : decode cX4_setLimits 21 = .ok (.iload_n 2, 1) := by decide +kernel
theorem dX4_setLimits_22 : decode cX4_setLimits 22 = .ok (.aaload, 1) := by decide +kernel
theorem dX4_setLimits_23 : decode cX4_setLimits 23 = .ok (.iload_n 3, 1) := by decide +kernel
theorem dX4_setLimits_24 : decode cX4_setLimits 24 = .ok (.iconst 0, 1) := by decide +kernel
theorem dX4_setLimits_25 : decode cX4_setLimits 25 = .ok (.iastore, 1) := by decide +kernel
theorem dX4_setLimits_26 : decode cX4_setLimits 26 = .ok (.aload_n 0, 1) := by decide +kernel
theorem dX4_setLimits_27 : decode cX4_setLimits 27 = .ok (.getfield 40, 3) := by decide +kernel
theorem dX4_setLimits_30 : decode cX4_setLimits 30 = .ok (.iload_n 2, 1) := by decide +kernel
theorem dX4_setLimits_31 : decode cX4_setLimits 31 = .ok (.aaload, 1) := by decide +kernel
theorem dX4_setLimits_32 : decode cX4_setLimits 32 = .ok (.iload_n 3, 1) := by decide +kernel
theorem dX4_setLimits_33 : decode cX4_setLimits 33 = .ok (.iconst 0, 1) := by decide +kernel
theorem dX4_setLimits_34 : decode cX4_setLimits 34 = .ok (.iastore, 1) := by decide +kernel
theorem dX4_setLimits_35 : decode cX4_setLimits 35 = .ok (.aload_n 0, 1) := by decide +kernel
theorem dX4_setLimits_36 : decode cX4_setLimits 36 = .ok (.getfield 43, 3) := by decide +kernel
theorem dX4_setLimits_39 : decode cX4_setLimits 39 = .ok (.iload_n 2, 1) := by decide +kernel
theorem dX4_setLimits_40 : decode cX4_setLimits 40 = .ok (.aaload, 1) := by decide +kernel
theorem dX4_setLimits_41 : decode cX4_setLimits 41 = .ok (.iload_n 3, 1) := by decide +kernel
theorem dX4_setLimits_42 : decode cX4_setLimits 42 = .ok (.iconst 0, 1) := by decide +kernel
theorem dX4_setLimits_43 : decode cX4_setLimits 43 = .ok (.iastore, 1) := by decide +kernel
theorem dX4_setLimits_44 : decode cX4_setLimits 44 = .ok (.aload_n 0, 1) := by decide +kernel
theorem dX4_setLimits_45 : decode cX4_setLimits 45 = .ok (.getfield 46, 3) := by decide +kernel
theorem dX4_setLimits_48 : decode cX4_setLimits 48 = .ok (.iload_n 2, 1) := by decide +kernel
theorem dX4_setLimits_49 : decode cX4_setLimits 49 = .ok (.aaload, 1) := by decide +kernel
theorem dX4_setLimits_50 : decode cX4_setLimits 50 = .ok (.iload_n 3, 1) := by decide +kernel
theorem dX4_setLimits_51 : decode cX4_setLimits 51 = .ok (.iconst 0, 1) := by decide +kernel
theorem dX4_setLimits_52 : decode cX4_setLimits 52 = .ok (.iastore, 1) := by decide +kernel
theorem dX4_setLimits_53 : decode cX4_setLimits 53 = .ok (.aload_n 0, 1) := by decide +kernel
theorem dX4_setLimits_54 : decode cX4_setLimits 54 = .ok (.getfield 21, 3) := by decide +kernel
theorem dX4_setLimits_57 : decode cX4_setLimits 57 = .ok (.iload_n 2, 1) := by decide +kernel
theorem dX4_setLimits_58 : decode cX4_setLimits 58 = .ok (.iload_n 3, 1) := by decide +kernel
theorem dX4_setLimits_59 : decode cX4_setLimits 59 = .ok (.invokevirtual 102, 3) := by decide +kernel
theorem dX4_setLimits_62 : decode cX4_setLimits 62 = .ok (.ifCond .ne 4, 3) := by decide +kernel
theorem dX4_setLimits_65 : decode cX4_setLimits 65 = .ok (.return_, 1) := by decide +kernel
theorem dX4_setLimits_66 : decode cX4_setLimits 66 = .ok (.aload_n 0, 1) := by decide +kernel
theorem dX4_setLimits_67 : decode cX4_setLimits 67 = .ok (.getfield 21, 3) := by decide +kernel
theorem dX4_setLimits_70 : decode cX4_setLimits 70 = .ok (.iload_n 2, 1) := by decide +kernel
theorem dX4_setLimits_71 : decode cX4_setLimits 71 = .ok (.iload_n 3, 1) := by decide +kernel
theorem dX4_setLimits_72 : decode cX4_setLimits 72 = .ok (.invokevirtual 116, 3) := by decide +kernel
theorem dX4_setLimits_75 : decode cX4_setLimits 75 = .ok (.ifCond .eq 78, 3) := by decide +kernel
theorem dX4_setLimits_78 : decode cX4_setLimits 78 = .ok (.iload_n 3, 1) := by decide +kernel
theorem dX4_setLimits_79 : decode cX4_setLimits 79 = .ok (.ifCond .ne 11, 3) := by decide +kernel
theorem dX4_setLimits_82 : decode cX4_setLimits 82 = .ok (.aload 4, 2) := by decide +kernel
theorem dX4_setLimits_84 : decode cX4_setLimits 84 = .ok (.bipush 7, 2) := by decide +kernel
theorem dX4_setLimits_86 : decode cX4_setLimits 86 = .ok (.iaload, 1) := by decide +kernel
theorem dX4_setLimits_87 : decode cX4_setLimits 87 = .ok (.goto 13, 3) := by decide +kernel
theorem dX4_setLimits_90 : decode cX4_setLimits 90 = .ok (.aload_n 0, 1) := by decide +kernel
theorem dX4_setLimits_91 : decode cX4_setLimits 91 = .ok (.getfield 34, 3) := by decide +kernel
theorem dX4_setLimits_94 : decode cX4_setLimits 94 = .ok (.iload_n 2, 1) := by decide +kernel
theorem dX4_setLimits_95 : decode cX4_setLimits 95 = .ok (.aaload, 1) := by decide +kernel
theorem dX4_setLimits_96 : decode cX4_setLimits 96 = .ok (.iload_n 3, 1) := by decide +kernel
theorem dX4_setLimits_97 : decode cX4_setLimits 97 = .ok (.iconst 1, 1) := by decide +kernel
theorem dX4_setLimits_98 : decode cX4_setLimits 98 = .ok (.isub, 1) := by decide +kernel
theorem dX4_setLimits_99 : decode cX4_setLimits 99 = .ok (.iaload, 1) := by decide +kernel
theorem dX4_setLimits_100 : decode cX4_setLimits 100 = .ok (.istore 5, 2) := by decide +kernel
theorem dX4_setLimits_102 : decode cX4_setLimits 102 = .ok (.aload_n 0, 1) := by decide +kernel
theorem dX4_setLimits_103 : decode cX4_setLimits 103 = .ok (.getfield 37, 3) := by decide +kernel
theorem dX4_setLimits_106 : decode cX4_setLimits 106 = .ok (.iload_n 2, 1) := by decide +kernel
theorem dX4_setLimits_107 : decode cX4_setLimits 107 = .ok (.aaload, 1) := by decide +kernel
theorem dX4_setLimits_108 : decode cX4_setLimits 108 = .ok (.iload_n 3, 1) := by decide +kernel
theorem dX4_setLimits_109 : decode cX4_setLimits 109 = .ok (.aload 4, 2) := by decide +kernel
theorem dX4_setLimits_111 : decode cX4_setLimits 111 = .ok (.bipush 9, 2) := by decide +kernel
theorem dX4_setLimits_113 : decode cX4_setLimits 113 = .ok (.iaload, 1) := by decide +kernel
theorem dX4_setLimits_114 : decode cX4_setLimits 114 = .ok (.iload 5, 2) := by decide +kernel
theorem dX4_setLimits_116 : decode cX4_setLimits 116 = .ok (.aload 4, 2) := by decide +kernel
theorem dX4_setLimits_118 : decode cX4_setLimits 118 = .ok (.bipush 11, 2) := by decide +kernel
theorem dX4_setLimits_120 : decode cX4_setLimits 120 = .ok (.iaload, 1) := by decide +kernel
theorem dX4_setLimits_121 : decode cX4_setLimits 121 = .ok (.isub, 1) := by decide +kernel
theorem dX4_setLimits_122 : decode cX4_setLimits 122 = .ok (.invokestatic 119, 3) := by decide +kernel
theorem dX4_setLimits_125 : decode cX4_setLimits 125 = .ok (.iastore, 1) := by decide +kernel
theorem dX4_setLimits_126 : decode cX4_setLimits 126 = .ok (.aload_n 0, 1) := by decide +kernel
theorem dX4_setLimits_127 : decode cX4_setLimits 127 = .ok (.getfield 40, 3) := by decide +kernel
theorem dX4_setLimits_130 : decode cX4_setLimits 130 = .ok (.iload_n 2, 1) := by decide +kernel
theorem dX4_setLimits_131 : decode cX4_setLimits 131 = .ok (.aaload, 1) := by decide +kernel
theorem dX4_setLimits_132 : decode cX4_setLimits 132 = .ok (.iload_n 3, 1) := by decide +kernel
theorem dX4_setLimits_133 : decode cX4_setLimits 133 = .ok (.aload 4, 2) := by decide +kernel
theorem dX4_setLimits_135 : decode cX4_setLimits 135 = .ok (.bipush 10, 2) := by decide +kernel
theorem dX4_setLimits_137 : decode cX4_setLimits 137 = .ok (.iaload, 1) := by decide +kernel
theorem dX4_setLimits_138 : decode cX4_setLimits 138 = .ok (.iload 5, 2) := by decide +kernel
theorem dX4_setLimits_140 : decode cX4_setLimits 140 = .ok (.aload 4, 2) := by decide +kernel
theorem dX4_setLimits_142 : decode cX4_setLimits 142 = .ok (.bipush 11, 2) := by decide +kernel
theorem dX4_setLimits_144 : decode cX4_setLimits 144 = .ok (.iaload, 1) := by decide +kernel
theorem dX4_setLimits_145 : decode cX4_setLimits 145 = .ok (.iadd, 1) := by decide +kernel
theorem dX4_setLimits_146 : decode cX4_setLimits 146 = .ok (.invokestatic 125, 3) := by decide +kernel
theorem dX4_setLimits_149 : decode cX4_setLimits 149 = .ok (.iastore, 1) := by decide +kernel
theorem dX4_setLimits_150 : decode cX4_setLimits 150 = .ok (.goto 82, 3) := by decide +kernel
theorem dX4_setLimits_153 : decode cX4_setLimits 153 = .ok (.aload_n 0, 1) := by decide +kernel
theorem dX4_setLimits_154 : decode cX4_setLimits 154 = .ok (.getfield 37, 3) := by decide +kernel
theorem dX4_setLimits_157 : decode cX4_setLimits 157 = .ok (.iload_n 2, 1) := by decide +kernel
theorem dX4_setLimits_158 : decode cX4_setLimits 158 = .ok (.aaload, 1) := by decide +kernel
theorem dX4_setLimits_159 : decode cX4_setLimits 159 = .ok (.iload_n 3, 1) := by decide +kernel
theorem dX4_setLimits_160 : decode cX4_setLimits 160 = .ok (.aload 4, 2) := by decide +kernel
theorem dX4_setLimits_162 : decode cX4_setLimits 162 = .ok (.bipush 9, 2) := by decide +kernel
theorem dX4_setLimits_164 : decode cX4_setLimits 164 = .ok (.iaload, 1) := by decide +kernel
theorem dX4_setLimits_165 : decode cX4_setLimits 165 = .ok (.iastore, 1) := by decide +kernel
theorem dX4_setLimits_166 : decode cX4_setLimits 166 = .ok (.aload_n 0, 1) := by decide +kernel
theorem dX4_setLimits_167 : decode cX4_setLimits 167 = .ok (.getfield 40, 3) := by decide +kernel
theorem dX4_setLimits_170 : decode cX4_setLimits 170 = .ok (.iload_n 2, 1) := by decide +kernel
theorem dX4_setLimits_171 : decode cX4_setLimits 171 = .ok (.aaload, 1) := by decide +kernel
theorem dX4_setLimits_172 : decode cX4_setLimits 172 = .ok (.iload_n 3, 1) := by decide +kernel
theorem dX4_setLimits_173 : decode cX4_setLimits 173 = .ok (.aload 4, 2) := by decide +kernel
theorem dX4_setLimits_175 : decode cX4_setLimits 175 = .ok (.bipush 10, 2) := by decide +kernel
theorem dX4_setLimits_177 : decode cX4_setLimits 177 = .ok (.iaload, 1) := by decide +kernel
theorem dX4_setLimits_178 : decode cX4_setLimits 178 = .ok (.aload 4, 2) := by decide +kernel
theorem dX4_setLimits_180 : decode cX4_setLimits 180 = .ok (.bipush 9, 2) := by decide +kernel
theorem dX4_setLimits_182 : decode cX4_setLimits 182 = .ok (.iaload, 1) := by decide +kernel
theorem dX4_setLimits_183 : decode cX4_setLimits 183 = .ok (.aload 4, 2) := by decide +kernel
theorem dX4_setLimits_185 : decode cX4_setLimits 185 = .ok (.bipush 11, 2) := by decide +kernel
theorem dX4_setLimits_187 : decode cX4_setLimits 187 = .ok (.iaload, 1) := by decide +kernel
theorem dX4_setLimits_188 : decode cX4_setLimits 188 = .ok (.invokestatic 119, 3) := by decide +kernel
theorem dX4_setLimits_191 : decode cX4_setLimits 191 = .ok (.invokestatic 125, 3) := by decide +kernel
theorem dX4_setLimits_194 : decode cX4_setLimits 194 = .ok (.iastore, 1) := by decide +kernel
theorem dX4_setLimits_195 : decode cX4_setLimits 195 = .ok (.aload_n 0, 1) := by decide +kernel
theorem dX4_setLimits_196 : decode cX4_setLimits 196 = .ok (.getfield 46, 3) := by decide +kernel
theorem dX4_setLimits_199 : decode cX4_setLimits 199 = .ok (.iload_n 2, 1) := by decide +kernel
theorem dX4_setLimits_200 : decode cX4_setLimits 200 = .ok (.aaload, 1) := by decide +kernel
theorem dX4_setLimits_201 : decode cX4_setLimits 201 = .ok (.iload_n 3, 1) := by decide +kernel
theorem dX4_setLimits_202 : decode cX4_setLimits 202 = .ok (.aload_n 0, 1) := by decide +kernel
theorem dX4_setLimits_203 : decode cX4_setLimits 203 = .ok (.getfield 21, 3) := by decide +kernel
theorem dX4_setLimits_206 : decode cX4_setLimits 206 = .ok (.getfield 128, 3) := by decide +kernel
theorem dX4_setLimits_209 : decode cX4_setLimits 209 = .ok (.iload_n 2, 1) := by decide +kernel
theorem dX4_setLimits_210 : decode cX4_setLimits 210 = .ok (.aaload, 1) := by decide +kernel
theorem dX4_setLimits_211 : decode cX4_setLimits 211 = .ok (.iload_n 3, 1) := by decide +kernel
theorem dX4_setLimits_212 : decode cX4_setLimits 212 = .ok (.iaload, 1) := by decide +kernel
theorem dX4_setLimits_213 : decode cX4_setLimits 213 = .ok (.aload 4, 2) := by decide +kernel
theorem dX4_setLimits_215 : decode cX4_setLimits 215 = .ok (.iconst 3, 1) := by decide +kernel
theorem dX4_setLimits_216 : decode cX4_setLimits 216 = .ok (.iaload, 1) := by decide +kernel
theorem dX4_setLimits_217 : decode cX4_setLimits 217 = .ok (.if_icmp .gt 10, 3) := by decide +kernel
theorem dX4_setLimits_220 : decode cX4_setLimits 220 = .ok (.aload 4, 2) := by decide +kernel
theorem dX4_setLimits_222 : decode cX4_setLimits 222 = .ok (.iconst 1, 1) := by decide +kernel
theorem dX4_setLimits_223 : decode cX4_setLimits 223 = .ok (.iaload, 1) := by decide +kernel
theorem dX4_setLimits_224 : decode cX4_setLimits 224 = .ok (.goto 7, 3) := by decide +kernel
theorem dX4_setLimits_227 : decode cX4_setLimits 227 = .ok (.aload 4, 2) := by decide +kernel
theorem dX4_setLimits_229 : decode cX4_setLimits 229 = .ok (.iconst 2, 1) := by decide +kernel
theorem dX4_setLimits_230 : decode cX4_setLimits 230 = .ok (.iaload, 1) := by decide +kernel
theorem dX4_setLimits_231 : decode cX4_setLimits 231 = .ok (.iastore, 1) := by decide +kernel
theorem dX4_setLimits_232 : decode cX4_setLimits 232 = .ok (.return_, 1) := by decide +kernel
def LX4_setLimits_232 (Q : Option Value → az_M → Prop) : az_T := (s_rv Q)
theorem okLX4_setLimits_232 {X : az_X} {Q : Option Value → az_M → Prop} (C : az_C X cX4_setLimits 6 RX4 (az_ts yX4_setLimits cX4_setLimits 6 none) ({ frames := 2, cells := 0, slots := 0, locals := 122 } : Room) none Q) : az_ok X 232 (LX4_setLimits_232 Q) := by
  have h232 := az_vreturn C rfl dX4_setLimits_232
  exact h232
def LX4_setLimits_231 (Q : Option Value → az_M → Prop) : az_T := (s_as (s_kp [false, false, false, false, false, false] (LX4_setLimits_232 Q)))
theorem okLX4_setLimits_231 {X : az_X} {Q : Option Value → az_M → Prop} (C : az_C X cX4_setLimits 6 RX4 (az_ts yX4_setLimits cX4_setLimits 6 none) ({ frames := 2, cells := 0, slots := 0, locals := 122 } : Room) none Q) : az_ok X 231 (LX4_setLimits_231 Q) := by
  have h231 := az_iast C dX4_setLimits_231 (az_keep [false, false, false, false, false, false] (okLX4_setLimits_232 C))
  exact h231
def LX4_setLimits_100 (Q : Option Value → az_M → Prop) : az_T := (s_si 5 (s_la 0 (s_gr 6 4 (s_li 2 (s_aa 25 (s_li 3 (s_la 4 (s_ic (nI 9) (s_al 20 (s_li 5 (s_la 4 (s_ic (nI 11) (s_al 20 (s_bin f_sub (s_mx (s_as (s_la 0 (s_gr 6 5 (s_li 2 (s_aa 25 (s_li 3 (s_la 4 (s_ic (nI 10) (s_al 20 (s_li 5 (s_la 4 (s_ic (nI 11) (s_al 20 (s_bin f_add (s_mn (s_as (s_kp [false, false, false, false, false, false] (LX4_setLimits_232 Q)))))))))))))))))))))))))))))))))
theorem okLX4_setLimits_100 {X : az_X} {Q : Option Value → az_M → Prop} (C : az_C X cX4_setLimits 6 RX4 (az_ts yX4_setLimits cX4_setLimits 6 none) ({ frames := 2, cells := 0, slots := 0, locals := 122 } : Room) none Q) : az_ok X 100 (LX4_setLimits_100 Q) := by
  have h150 := az_goto (tgt := 232) C dX4_setLimits_150 (by decide) (az_keep [false, false, false, false, false, false] (okLX4_setLimits_232 C))
  have h149 := az_iast C dX4_setLimits_149 h150
  have h146 := az_mmin C mLRX4_125 mx_st_min mx_ini mx_co_min (by decide) (by decide) dX4_setLimits_146 h149
  have h145 := az_iadd C dX4_setLimits_145 h146
  have h144 := az_iald C dX4_setLimits_144 h145
  have h142 := az_bipush (x := (nI 11)) C dX4_setLimits_142 (by decide +kernel) h144
  have h140 := az_aload C dX4_setLimits_140 h142
  have h138 := az_iload C dX4_setLimits_138 h140
  have h137 := az_iald C dX4_setLimits_137 h138
  have h135 := az_bipush (x := (nI 10)) C dX4_setLimits_135 (by decide +kernel) h137
  have h133 := az_aload C dX4_setLimits_133 h135
  have h132 := az_iload_n C 3 rfl dX4_setLimits_132 h133
  have h131 := az_aald2 C dX4_setLimits_131 h132
  have h130 := az_iload_n C 2 rfl dX4_setLimits_130 h131
  have h127 := az_getR (T := TX4) (N := 10) (j := 5) C gwRX4 rfl (by decide) (by decide) iIRX4_5 mFRX4_40 rfl dX4_setLimits_127 h130
  have h126 := az_aload_n C 0 rfl dX4_setLimits_126 h127
  have h125 := az_iast C dX4_setLimits_125 h126
  have h122 := az_mmax C mLRX4_119 mx_st_max mx_ini mx_co_max (by decide) (by decide) dX4_setLimits_122 h125
  have h121 := az_isub C dX4_setLimits_121 h122
  have h120 := az_iald C dX4_setLimits_120 h121
  have h118 := az_bipush (x := (nI 11)) C dX4_setLimits_118 (by decide +kernel) h120
  have h116 := az_aload C dX4_setLimits_116 h118
  have h114 := az_iload C dX4_setLimits_114 h116
  have h113 := az_iald C dX4_setLimits_113 h114
  have h111 := az_bipush (x := (nI 9)) C dX4_setLimits_111 (by decide +kernel) h113
  have h109 := az_aload C dX4_setLimits_109 h111
  have h108 := az_iload_n C 3 rfl dX4_setLimits_108 h109
  have h107 := az_aald2 C dX4_setLimits_107 h108
  have h106 := az_iload_n C 2 rfl dX4_setLimits_106 h107
  have h103 := az_getR (T := TX4) (N := 10) (j := 4) C gwRX4 rfl (by decide) (by decide) iIRX4_4 mFRX4_37 rfl dX4_setLimits_103 h106
  have h102 := az_aload_n C 0 rfl dX4_setLimits_102 h103
  have h100 := az_istore C (by decide) dX4_setLimits_100 h102
  exact h100
def PX4_setLimits (Q : Option Value → az_M → Prop) : az_T := (s_la 1 (s_gr 9 5 (s_li 2 (s_aa 25 (s_sa 4 (s_la 0 (s_gr 6 3 (s_li 2 (s_aa 25 (s_li 3 (s_ic (nI 0) (s_as (s_la 0 (s_gr 6 4 (s_li 2 (s_aa 25 (s_li 3 (s_ic (nI 0) (s_as (s_la 0 (s_gr 6 5 (s_li 2 (s_aa 25 (s_li 3 (s_ic (nI 0) (s_as (s_la 0 (s_gr 6 6 (s_li 2 (s_aa 25 (s_li 3 (s_ic (nI 0) (s_as (s_la 0 (s_gr 6 7 (s_li 2 (s_aa 25 (s_li 3 (s_ic (nI 0) (s_as (s_la 0 (s_gr 6 1 (s_li 2 (s_li 3 (s_cv 2 10 FX9_runs (s_if c_ne (s_la 0 (s_gr 6 1 (s_li 2 (s_li 3 (s_cv 2 10 FX9_ranBefore (s_if c_eq (s_la 0 (s_gr 6 4 (s_li 2 (s_aa 25 (s_li 3 (s_la 4 (s_ic (nI 9) (s_al 20 (s_as (s_la 0 (s_gr 6 5 (s_li 2 (s_aa 25 (s_li 3 (s_la 4 (s_ic (nI 10) (s_al 20 (s_la 4 (s_ic (nI 9) (s_al 20 (s_la 4 (s_ic (nI 11) (s_al 20 (s_mx (s_mn (s_as (s_la 0 (s_gr 6 7 (s_li 2 (s_aa 25 (s_li 3 (s_la 0 (s_gr 6 1 (s_gr 10 2 (s_li 2 (s_aa 25 (s_li 3 (s_al 20 (s_la 4 (s_ic (nI 3) (s_al 20 (s_if2 d_gt (s_la 4 (s_ic (nI 2) (s_al 20 (s_kp [false, false, false, false, false, false] (LX4_setLimits_231 Q))))) (s_la 4 (s_ic (nI 1) (s_al 20 (s_kp [false, false, false, false, false, false] (LX4_setLimits_231 Q))))))))))))))))))))))))))))))))))))))))))))))) (s_li 3 (s_if c_ne (s_la 0 (s_gr 6 3 (s_li 2 (s_aa 25 (s_li 3 (s_ic (nI 1) (s_bin f_sub (s_al 20 (s_kp [true, false, true, true, true, false] (LX4_setLimits_100 Q)))))))))) (s_la 4 (s_ic (nI 7) (s_al 20 (s_kp [true, false, true, true, true, false] (LX4_setLimits_100 Q))))))))))))) (s_rv Q)))))))))))))))))))))))))))))))))))))))))))))))
def FX4_setLimits : az_F := az_fun [true, true, false, false] 6 PX4_setLimits
theorem okX4_setLimits (l : Launch) : az_met l yX4_setLimits cX4_setLimits 6 none ({ frames := 2, cells := 0, slots := 0, locals := 122 } : Room) FX4_setLimits := az_met_of (own := RX4) (by decide +kernel) rfl (by decide) (fun X Q C => by
  have h230 := az_iald C dX4_setLimits_230 (az_keep [false, false, false, false, false, false] (okLX4_setLimits_231 C))
  have h229 := az_iconst (x := (nI 2)) C dX4_setLimits_229 (by decide +kernel) h230
  have h227 := az_aload C dX4_setLimits_227 h229
  have h224 := az_goto (tgt := 231) C dX4_setLimits_224 (by decide) (az_keep [false, false, false, false, false, false] (okLX4_setLimits_231 C))
  have h223 := az_iald C dX4_setLimits_223 h224
  have h222 := az_iconst (x := (nI 1)) C dX4_setLimits_222 (by decide +kernel) h223
  have h220 := az_aload C dX4_setLimits_220 h222
  have h217 := az_icmp_gt (tgt := 227) C dX4_setLimits_217 (by decide) h227 h220
  have h216 := az_iald C dX4_setLimits_216 h217
  have h215 := az_iconst (x := (nI 3)) C dX4_setLimits_215 (by decide +kernel) h216
  have h213 := az_aload C dX4_setLimits_213 h215
  have h212 := az_iald C dX4_setLimits_212 h213
  have h211 := az_iload_n C 3 rfl dX4_setLimits_211 h212
  have h210 := az_aald2 C dX4_setLimits_210 h211
  have h209 := az_iload_n C 2 rfl dX4_setLimits_209 h210
  have h206 := az_getR (T := TX9) (N := 3) (j := 2) C gwRX9 rfl (by decide) (by decide) iIRX9_2 mFRX4_128 rfl dX4_setLimits_206 h209
  have h203 := az_getR (T := TX4) (N := 10) (j := 1) C gwRX4 rfl (by decide) (by decide) iIRX4_1 mFRX4_21 rfl dX4_setLimits_203 h206
  have h202 := az_aload_n C 0 rfl dX4_setLimits_202 h203
  have h201 := az_iload_n C 3 rfl dX4_setLimits_201 h202
  have h200 := az_aald2 C dX4_setLimits_200 h201
  have h199 := az_iload_n C 2 rfl dX4_setLimits_199 h200
  have h196 := az_getR (T := TX4) (N := 10) (j := 7) C gwRX4 rfl (by decide) (by decide) iIRX4_7 mFRX4_46 rfl dX4_setLimits_196 h199
  have h195 := az_aload_n C 0 rfl dX4_setLimits_195 h196
  have h194 := az_iast C dX4_setLimits_194 h195
  have h191 := az_mmin C mLRX4_125 mx_st_min mx_ini mx_co_min (by decide) (by decide) dX4_setLimits_191 h194
  have h188 := az_mmax C mLRX4_119 mx_st_max mx_ini mx_co_max (by decide) (by decide) dX4_setLimits_188 h191
  have h187 := az_iald C dX4_setLimits_187 h188
  have h185 := az_bipush (x := (nI 11)) C dX4_setLimits_185 (by decide +kernel) h187
  have h183 := az_aload C dX4_setLimits_183 h185
  have h182 := az_iald C dX4_setLimits_182 h183
  have h180 := az_bipush (x := (nI 9)) C dX4_setLimits_180 (by decide +kernel) h182
  have h178 := az_aload C dX4_setLimits_178 h180
  have h177 := az_iald C dX4_setLimits_177 h178
  have h175 := az_bipush (x := (nI 10)) C dX4_setLimits_175 (by decide +kernel) h177
  have h173 := az_aload C dX4_setLimits_173 h175
  have h172 := az_iload_n C 3 rfl dX4_setLimits_172 h173
  have h171 := az_aald2 C dX4_setLimits_171 h172
  have h170 := az_iload_n C 2 rfl dX4_setLimits_170 h171
  have h167 := az_getR (T := TX4) (N := 10) (j := 5) C gwRX4 rfl (by decide) (by decide) iIRX4_5 mFRX4_40 rfl dX4_setLimits_167 h170
  have h166 := az_aload_n C 0 rfl dX4_setLimits_166 h167
  have h165 := az_iast C dX4_setLimits_165 h166
  have h164 := az_iald C dX4_setLimits_164 h165
  have h162 := az_bipush (x := (nI 9)) C dX4_setLimits_162 (by decide +kernel) h164
  have h160 := az_aload C dX4_setLimits_160 h162
  have h159 := az_iload_n C 3 rfl dX4_setLimits_159 h160
  have h158 := az_aald2 C dX4_setLimits_158 h159
  have h157 := az_iload_n C 2 rfl dX4_setLimits_157 h158
  have h154 := az_getR (T := TX4) (N := 10) (j := 4) C gwRX4 rfl (by decide) (by decide) iIRX4_4 mFRX4_37 rfl dX4_setLimits_154 h157
  have h153 := az_aload_n C 0 rfl dX4_setLimits_153 h154
  have h99 := az_iald C dX4_setLimits_99 (az_keep [true, false, true, true, true, false] (okLX4_setLimits_100 C))
  have h98 := az_isub C dX4_setLimits_98 h99
  have h97 := az_iconst (x := (nI 1)) C dX4_setLimits_97 (by decide +kernel) h98
  have h96 := az_iload_n C 3 rfl dX4_setLimits_96 h97
  have h95 := az_aald2 C dX4_setLimits_95 h96
  have h94 := az_iload_n C 2 rfl dX4_setLimits_94 h95
  have h91 := az_getR (T := TX4) (N := 10) (j := 3) C gwRX4 rfl (by decide) (by decide) iIRX4_3 mFRX4_34 rfl dX4_setLimits_91 h94
  have h90 := az_aload_n C 0 rfl dX4_setLimits_90 h91
  have h87 := az_goto (tgt := 100) C dX4_setLimits_87 (by decide) (az_keep [true, false, true, true, true, false] (okLX4_setLimits_100 C))
  have h86 := az_iald C dX4_setLimits_86 h87
  have h84 := az_bipush (x := (nI 7)) C dX4_setLimits_84 (by decide +kernel) h86
  have h82 := az_aload C dX4_setLimits_82 h84
  have h79 := az_if_ne (tgt := 90) C dX4_setLimits_79 (by decide) h90 h82
  have h78 := az_iload_n C 3 rfl dX4_setLimits_78 h79
  have h75 := az_if_eq (tgt := 153) C dX4_setLimits_75 (by decide) h153 h78
  have h72 := az_callVN (ci := 10) C okX9_ranBefore knX9_ranBefore imX9_ranBefore seX9_ranBefore mNRX4_116 rfl (by decide) ⟨rfl, rfl, by decide, by decide⟩ dX4_setLimits_72 h75
  have h71 := az_iload_n C 3 rfl dX4_setLimits_71 h72
  have h70 := az_iload_n C 2 rfl dX4_setLimits_70 h71
  have h67 := az_getR (T := TX4) (N := 10) (j := 1) C gwRX4 rfl (by decide) (by decide) iIRX4_1 mFRX4_21 rfl dX4_setLimits_67 h70
  have h66 := az_aload_n C 0 rfl dX4_setLimits_66 h67
  have h65 := az_vreturn C rfl dX4_setLimits_65
  have h62 := az_if_ne (tgt := 66) C dX4_setLimits_62 (by decide) h66 h65
  have h59 := az_callVN (ci := 10) C okX9_runs knX9_runs imX9_runs seX9_runs mNRX4_102 rfl (by decide) ⟨rfl, rfl, by decide, by decide⟩ dX4_setLimits_59 h62
  have h58 := az_iload_n C 3 rfl dX4_setLimits_58 h59
  have h57 := az_iload_n C 2 rfl dX4_setLimits_57 h58
  have h54 := az_getR (T := TX4) (N := 10) (j := 1) C gwRX4 rfl (by decide) (by decide) iIRX4_1 mFRX4_21 rfl dX4_setLimits_54 h57
  have h53 := az_aload_n C 0 rfl dX4_setLimits_53 h54
  have h52 := az_iast C dX4_setLimits_52 h53
  have h51 := az_iconst (x := (nI 0)) C dX4_setLimits_51 (by decide +kernel) h52
  have h50 := az_iload_n C 3 rfl dX4_setLimits_50 h51
  have h49 := az_aald2 C dX4_setLimits_49 h50
  have h48 := az_iload_n C 2 rfl dX4_setLimits_48 h49
  have h45 := az_getR (T := TX4) (N := 10) (j := 7) C gwRX4 rfl (by decide) (by decide) iIRX4_7 mFRX4_46 rfl dX4_setLimits_45 h48
  have h44 := az_aload_n C 0 rfl dX4_setLimits_44 h45
  have h43 := az_iast C dX4_setLimits_43 h44
  have h42 := az_iconst (x := (nI 0)) C dX4_setLimits_42 (by decide +kernel) h43
  have h41 := az_iload_n C 3 rfl dX4_setLimits_41 h42
  have h40 := az_aald2 C dX4_setLimits_40 h41
  have h39 := az_iload_n C 2 rfl dX4_setLimits_39 h40
  have h36 := az_getR (T := TX4) (N := 10) (j := 6) C gwRX4 rfl (by decide) (by decide) iIRX4_6 mFRX4_43 rfl dX4_setLimits_36 h39
  have h35 := az_aload_n C 0 rfl dX4_setLimits_35 h36
  have h34 := az_iast C dX4_setLimits_34 h35
  have h33 := az_iconst (x := (nI 0)) C dX4_setLimits_33 (by decide +kernel) h34
  have h32 := az_iload_n C 3 rfl dX4_setLimits_32 h33
  have h31 := az_aald2 C dX4_setLimits_31 h32
  have h30 := az_iload_n C 2 rfl dX4_setLimits_30 h31
  have h27 := az_getR (T := TX4) (N := 10) (j := 5) C gwRX4 rfl (by decide) (by decide) iIRX4_5 mFRX4_40 rfl dX4_setLimits_27 h30
  have h26 := az_aload_n C 0 rfl dX4_setLimits_26 h27
  have h25 := az_iast C dX4_setLimits_25 h26
  have h24 := az_iconst (x := (nI 0)) C dX4_setLimits_24 (by decide +kernel) h25
  have h23 := az_iload_n C 3 rfl dX4_setLimits_23 h24
  have h22 := az_aald2 C dX4_setLimits_22 h23
  have h21 := az_iload_n C 2 rfl dX4_setLimits_21 h22
  have h18 := az_getR (T := TX4) (N := 10) (j := 4) C gwRX4 rfl (by decide) (by decide) iIRX4_4 mFRX4_37 rfl dX4_setLimits_18 h21
  have h17 := az_aload_n C 0 rfl dX4_setLimits_17 h18
  have h16 := az_iast C dX4_setLimits_16 h17
  have h15 := az_iconst (x := (nI 0)) C dX4_setLimits_15 (by decide +kernel) h16
  have h14 := az_iload_n C 3 rfl dX4_setLimits_14 h15
  have h13 := az_aald2 C dX4_setLimits_13 h14
  have h12 := az_iload_n C 2 rfl dX4_setLimits_12 h13
  have h9 := az_getR (T := TX4) (N := 10) (j := 3) C gwRX4 rfl (by decide) (by decide) iIRX4_3 mFRX4_34 rfl dX4_setLimits_9 h12
  have h8 := az_aload_n C 0 rfl dX4_setLimits_8 h9
  have h6 := az_astore C (by decide) dX4_setLimits_6 h8
  have h5 := az_aald2 C dX4_setLimits_5 h6
  have h4 := az_iload_n C 2 rfl dX4_setLimits_4 h5
  have h1 := az_getR (T := TX8) (N := 11) (j := 5) C gwRX8 rfl (by decide) (by decide) iIRX8_5 mFRX4_113 rfl dX4_setLimits_1 h4
  have h0 := az_aload_n C 1 rfl dX4_setLimits_0 h1
  exact h0) l
theorem dX4_addUnitUp_0 : decode cX4_addUnitUp 0 = .ok (.aload_n 1, 1) := by decide +kernel
theorem dX4_addUnitUp_1 : decode cX4_addUnitUp 1 = .ok (.getfield 113, 3) := by decide +kernel
theorem dX4_addUnitUp_4 : decode cX4_addUnitUp 4 = .ok (.iload_n 2, 1) := by decide +kernel
theorem dX4_addUnitUp_5 : decode cX4_addUnitUp 5 = .ok (.aaload, 1) := by decide +kernel
theorem dX4_addUnitUp_6 : decode cX4_addUnitUp 6 = .ok (.astore 4, 2) := by decide +kernel
theorem dX4_addUnitUp_8 : decode cX4_addUnitUp 8 = .ok (.aload_n 0, 1) := by decide +kernel
theorem dX4_addUnitUp_9 : decode cX4_addUnitUp 9 = .ok (.getfield 49, 3) := by decide +kernel
theorem dX4_addUnitUp_12 : decode cX4_addUnitUp 12 = .ok (.iconst 4, 1) := by decide +kernel
theorem dX4_addUnitUp_13 : decode cX4_addUnitUp 13 = .ok (.aaload, 1) := by decide +kernel
theorem dX4_addUnitUp_14 : decode cX4_addUnitUp 14 = .ok (.iload_n 3, 1) := by decide +kernel
theorem dX4_addUnitUp_15 : decode cX4_addUnitUp 15 = .ok (.dup2, 1) := by decide +kernel
theorem dX4_addUnitUp_16 : decode cX4_addUnitUp 16 = .ok (.iaload, 1) := by decide +kernel
theorem dX4_addUnitUp_17 : decode cX4_addUnitUp 17 = .ok (.aload_n 0, 1) := by decide +kernel
theorem dX4_addUnitUp_18 : decode cX4_addUnitUp 18 = .ok (.getfield 34, 3) := by decide +kernel
theorem dX4_addUnitUp_21 : decode cX4_addUnitUp 21 = .ok (.iload_n 2, 1) := by decide +kernel
theorem dX4_addUnitUp_22 : decode cX4_addUnitUp 22 = .ok (.aaload, 1) := by decide +kernel
theorem dX4_addUnitUp_23 : decode cX4_addUnitUp 23 = .ok (.iload_n 3, 1) := by decide +kernel
theorem dX4_addUnitUp_24 : decode cX4_addUnitUp 24 = .ok (.iaload, 1) := by decide +kernel
theorem dX4_addUnitUp_25 : decode cX4_addUnitUp 25 = .ok (.iadd, 1) := by decide +kernel
theorem dX4_addUnitUp_26 : decode cX4_addUnitUp 26 = .ok (.iastore, 1) := by decide +kernel
theorem dX4_addUnitUp_27 : decode cX4_addUnitUp 27 = .ok (.aload_n 0, 1) := by decide +kernel
theorem dX4_addUnitUp_28 : decode cX4_addUnitUp 28 = .ok (.getfield 49, 3) := by decide +kernel
theorem dX4_addUnitUp_31 : decode cX4_addUnitUp 31 = .ok (.iconst 5, 1) := by decide +kernel
theorem dX4_addUnitUp_32 : decode cX4_addUnitUp 32 = .ok (.aaload, 1) := by decide +kernel
theorem dX4_addUnitUp_33 : decode cX4_addUnitUp 33 = .ok (.iload_n 3, 1) := by decide +kernel
theorem dX4_addUnitUp_34 : decode cX4_addUnitUp 34 = .ok (.dup2, 1) := by decide +kernel
theorem dX4_addUnitUp_35 : decode cX4_addUnitUp 35 = .ok (.iaload, 1) := by decide +kernel
theorem dX4_addUnitUp_36 : decode cX4_addUnitUp 36 = .ok (.aload_n 0, 1) := by decide +kernel
theorem dX4_addUnitUp_37 : decode cX4_addUnitUp 37 = .ok (.getfield 43, 3) := by decide +kernel
theorem dX4_addUnitUp_40 : decode cX4_addUnitUp 40 = .ok (.iload_n 2, 1) := by decide +kernel
theorem dX4_addUnitUp_41 : decode cX4_addUnitUp 41 = .ok (.aaload, 1) := by decide +kernel
theorem dX4_addUnitUp_42 : decode cX4_addUnitUp 42 = .ok (.iload_n 3, 1) := by decide +kernel
theorem dX4_addUnitUp_43 : decode cX4_addUnitUp 43 = .ok (.iaload, 1) := by decide +kernel
theorem dX4_addUnitUp_44 : decode cX4_addUnitUp 44 = .ok (.iadd, 1) := by decide +kernel
theorem dX4_addUnitUp_45 : decode cX4_addUnitUp 45 = .ok (.iastore, 1) := by decide +kernel
theorem dX4_addUnitUp_46 : decode cX4_addUnitUp 46 = .ok (.aload_n 0, 1) := by decide +kernel
theorem dX4_addUnitUp_47 : decode cX4_addUnitUp 47 = .ok (.getfield 49, 3) := by decide +kernel
theorem dX4_addUnitUp_50 : decode cX4_addUnitUp 50 = .ok (.iconst 2, 1) := by decide +kernel
theorem dX4_addUnitUp_51 : decode cX4_addUnitUp 51 = .ok (.aaload, 1) := by decide +kernel
theorem dX4_addUnitUp_52 : decode cX4_addUnitUp 52 = .ok (.iload_n 3, 1) := by decide +kernel
theorem dX4_addUnitUp_53 : decode cX4_addUnitUp 53 = .ok (.dup2, 1) := by decide +kernel
theorem dX4_addUnitUp_54 : decode cX4_addUnitUp 54 = .ok (.iaload, 1) := by decide +kernel
theorem dX4_addUnitUp_55 : decode cX4_addUnitUp 55 = .ok (.aload_n 0, 1) := by decide +kernel
theorem dX4_addUnitUp_56 : decode cX4_addUnitUp 56 = .ok (.getfield 40, 3) := by decide +kernel
theorem dX4_addUnitUp_59 : decode cX4_addUnitUp 59 = .ok (.iload_n 2, 1) := by decide +kernel
theorem dX4_addUnitUp_60 : decode cX4_addUnitUp 60 = .ok (.aaload, 1) := by decide +kernel
theorem dX4_addUnitUp_61 : decode cX4_addUnitUp 61 = .ok (.iload_n 3, 1) := by decide +kernel
theorem dX4_addUnitUp_62 : decode cX4_addUnitUp 62 = .ok (.iaload, 1) := by decide +kernel
theorem dX4_addUnitUp_63 : decode cX4_addUnitUp 63 = .ok (.aload_n 0, 1) := by decide +kernel
theorem dX4_addUnitUp_64 : decode cX4_addUnitUp 64 = .ok (.getfield 34, 3) := by decide +kernel
theorem dX4_addUnitUp_67 : decode cX4_addUnitUp 67 = .ok (.iload_n 2, 1) := by decide +kernel
theorem dX4_addUnitUp_68 : decode cX4_addUnitUp 68 = .ok (.aaload, 1) := by decide +kernel
theorem dX4_addUnitUp_69 : decode cX4_addUnitUp 69 = .ok (.iload_n 3, 1) := by decide +kernel
theorem dX4_addUnitUp_70 : decode cX4_addUnitUp 70 = .ok (.iaload, 1) := by decide +kernel
theorem dX4_addUnitUp_71 : decode cX4_addUnitUp 71 = .ok (.isub, 1) := by decide +kernel
theorem dX4_addUnitUp_72 : decode cX4_addUnitUp 72 = .ok (.iadd, 1) := by decide +kernel
theorem dX4_addUnitUp_73 : decode cX4_addUnitUp 73 = .ok (.iastore, 1) := by decide +kernel
theorem dX4_addUnitUp_74 : decode cX4_addUnitUp 74 = .ok (.aload_n 0, 1) := by decide +kernel
theorem dX4_addUnitUp_75 : decode cX4_addUnitUp 75 = .ok (.getfield 49, 3) := by decide +kernel
theorem dX4_addUnitUp_78 : decode cX4_addUnitUp 78 = .ok (.bipush 8, 2) := by decide +kernel
theorem dX4_addUnitUp_80 : decode cX4_addUnitUp 80 = .ok (.aaload, 1) := by decide +kernel
theorem dX4_addUnitUp_81 : decode cX4_addUnitUp 81 = .ok (.iload_n 3, 1) := by decide +kernel
theorem dX4_addUnitUp_82 : decode cX4_addUnitUp 82 = .ok (.dup2, 1) := by decide +kernel
theorem dX4_addUnitUp_83 : decode cX4_addUnitUp 83 = .ok (.iaload, 1) := by decide +kernel
theorem dX4_addUnitUp_84 : decode cX4_addUnitUp 84 = .ok (.aload_n 0, 1) := by decide +kernel
theorem dX4_addUnitUp_85 : decode cX4_addUnitUp 85 = .ok (.getfield 34, 3) := by decide +kernel
theorem dX4_addUnitUp_88 : decode cX4_addUnitUp 88 = .ok (.iload_n 2, 1) := by decide +kernel
theorem dX4_addUnitUp_89 : decode cX4_addUnitUp 89 = .ok (.aaload, 1) := by decide +kernel
theorem dX4_addUnitUp_90 : decode cX4_addUnitUp 90 = .ok (.iload_n 3, 1) := by decide +kernel
theorem dX4_addUnitUp_91 : decode cX4_addUnitUp 91 = .ok (.iaload, 1) := by decide +kernel
theorem dX4_addUnitUp_92 : decode cX4_addUnitUp 92 = .ok (.aload 4, 2) := by decide +kernel
theorem dX4_addUnitUp_94 : decode cX4_addUnitUp 94 = .ok (.bipush 12, 2) := by decide +kernel
theorem dX4_addUnitUp_96 : decode cX4_addUnitUp 96 = .ok (.iaload, 1) := by decide +kernel
theorem dX4_addUnitUp_97 : decode cX4_addUnitUp 97 = .ok (.imul, 1) := by decide +kernel
theorem dX4_addUnitUp_98 : decode cX4_addUnitUp 98 = .ok (.iadd, 1) := by decide +kernel
theorem dX4_addUnitUp_99 : decode cX4_addUnitUp 99 = .ok (.iastore, 1) := by decide +kernel
theorem dX4_addUnitUp_100 : decode cX4_addUnitUp 100 = .ok (.aload_n 0, 1) := by decide +kernel
theorem dX4_addUnitUp_101 : decode cX4_addUnitUp 101 = .ok (.getfield 49, 3) := by decide +kernel
theorem dX4_addUnitUp_104 : decode cX4_addUnitUp 104 = .ok (.bipush 9, 2) := by decide +kernel
theorem dX4_addUnitUp_106 : decode cX4_addUnitUp 106 = .ok (.aaload, 1) := by decide +kernel
theorem dX4_addUnitUp_107 : decode cX4_addUnitUp 107 = .ok (.iload_n 3, 1) := by decide +kernel
theorem dX4_addUnitUp_108 : decode cX4_addUnitUp 108 = .ok (.dup2, 1) := by decide +kernel
theorem dX4_addUnitUp_109 : decode cX4_addUnitUp 109 = .ok (.iaload, 1) := by decide +kernel
theorem dX4_addUnitUp_110 : decode cX4_addUnitUp 110 = .ok (.aload 4, 2) := by decide +kernel
theorem dX4_addUnitUp_112 : decode cX4_addUnitUp 112 = .ok (.iconst 0, 1) := by decide +kernel
theorem dX4_addUnitUp_113 : decode cX4_addUnitUp 113 = .ok (.iaload, 1) := by decide +kernel
theorem dX4_addUnitUp_114 : decode cX4_addUnitUp 114 = .ok (.iadd, 1) := by decide +kernel
theorem dX4_addUnitUp_115 : decode cX4_addUnitUp 115 = .ok (.iastore, 1) := by decide +kernel
theorem dX4_addUnitUp_116 : decode cX4_addUnitUp 116 = .ok (.aload_n 0, 1) := by decide +kernel
theorem dX4_addUnitUp_117 : decode cX4_addUnitUp 117 = .ok (.getfield 49, 3) := by decide +kernel
theorem dX4_addUnitUp_120 : decode cX4_addUnitUp 120 = .ok (.bipush 10, 2) := by decide +kernel
theorem dX4_addUnitUp_122 : decode cX4_addUnitUp 122 = .ok (.aaload, 1) := by decide +kernel
theorem dX4_addUnitUp_123 : decode cX4_addUnitUp 123 = .ok (.iload_n 3, 1) := by decide +kernel
theorem dX4_addUnitUp_124 : decode cX4_addUnitUp 124 = .ok (.dup2, 1) := by decide +kernel
theorem dX4_addUnitUp_125 : decode cX4_addUnitUp 125 = .ok (.iaload, 1) := by decide +kernel
theorem dX4_addUnitUp_126 : decode cX4_addUnitUp 126 = .ok (.aload_n 0, 1) := by decide +kernel
theorem dX4_addUnitUp_127 : decode cX4_addUnitUp 127 = .ok (.getfield 46, 3) := by decide +kernel
theorem dX4_addUnitUp_130 : decode cX4_addUnitUp 130 = .ok (.iload_n 2, 1) := by decide +kernel
theorem dX4_addUnitUp_131 : decode cX4_addUnitUp 131 = .ok (.aaload, 1) := by decide +kernel
theorem dX4_addUnitUp_132 : decode cX4_addUnitUp 132 = .ok (.iload_n 3, 1) := by decide +kernel
theorem dX4_addUnitUp_133 : decode cX4_addUnitUp 133 = .ok (.iaload, 1) := by decide +kernel
theorem dX4_addUnitUp_134 : decode cX4_addUnitUp 134 = .ok (.iadd, 1) := by decide +kernel
theorem dX4_addUnitUp_135 : decode cX4_addUnitUp 135 = .ok (.iastore, 1) := by decide +kernel
theorem dX4_addUnitUp_136 : decode cX4_addUnitUp 136 = .ok (.aload_n 0, 1) := by decide +kernel
theorem dX4_addUnitUp_137 : decode cX4_addUnitUp 137 = .ok (.getfield 49, 3) := by decide +kernel
theorem dX4_addUnitUp_140 : decode cX4_addUnitUp 140 = .ok (.bipush 12, 2) := by decide +kernel
theorem dX4_addUnitUp_142 : decode cX4_addUnitUp 142 = .ok (.aaload, 1) := by decide +kernel
theorem dX4_addUnitUp_143 : decode cX4_addUnitUp 143 = .ok (.iload_n 3, 1) := by decide +kernel
theorem dX4_addUnitUp_144 : decode cX4_addUnitUp 144 = .ok (.dup2, 1) := by decide +kernel
theorem dX4_addUnitUp_145 : decode cX4_addUnitUp 145 = .ok (.iaload, 1) := by decide +kernel
theorem dX4_addUnitUp_146 : decode cX4_addUnitUp 146 = .ok (.aload_n 0, 1) := by decide +kernel
theorem dX4_addUnitUp_147 : decode cX4_addUnitUp 147 = .ok (.getfield 21, 3) := by decide +kernel
theorem dX4_addUnitUp_150 : decode cX4_addUnitUp 150 = .ok (.iload_n 2, 1) := by decide +kernel
theorem dX4_addUnitUp_151 : decode cX4_addUnitUp 151 = .ok (.iload_n 3, 1) := by decide +kernel
theorem dX4_addUnitUp_152 : decode cX4_addUnitUp 152 = .ok (.invokevirtual 116, 3) := by decide +kernel
theorem dX4_addUnitUp_155 : decode cX4_addUnitUp 155 = .ok (.ifCond .eq 7, 3) := by decide +kernel
theorem dX4_addUnitUp_158 : decode cX4_addUnitUp 158 = .ok (.iconst 0, 1) := by decide +kernel
theorem dX4_addUnitUp_159 : decode cX4_addUnitUp 159 = .ok (.goto 4, 3) := by decide +kernel
theorem dX4_addUnitUp_162 : decode cX4_addUnitUp 162 = .ok (.iconst 1, 1) := by decide +kernel
theorem dX4_addUnitUp_163 : decode cX4_addUnitUp 163 = .ok (.iadd, 1) := by decide +kernel
theorem dX4_addUnitUp_164 : decode cX4_addUnitUp 164 = .ok (.iastore, 1) := by decide +kernel
theorem dX4_addUnitUp_165 : decode cX4_addUnitUp 165 = .ok (.return_, 1) := by decide +kernel
def LX4_addUnitUp_163 (Q : Option Value → az_M → Prop) : az_T := (s_bin f_add (s_as (s_rv Q)))
theorem okLX4_addUnitUp_163 {X : az_X} {Q : Option Value → az_M → Prop} (C : az_C X cX4_addUnitUp 5 RX4 (az_ts yX4_addUnitUp cX4_addUnitUp 5 none) ({ frames := 2, cells := 0, slots := 0, locals := 122 } : Room) none Q) : az_ok X 163 (LX4_addUnitUp_163 Q) := by
  have h165 := az_vreturn C rfl dX4_addUnitUp_165
  have h164 := az_iast C dX4_addUnitUp_164 h165
  have h163 := az_iadd C dX4_addUnitUp_163 h164
  exact h163
def PX4_addUnitUp (Q : Option Value → az_M → Prop) : az_T := (s_la 1 (s_gr 9 5 (s_li 2 (s_aa 25 (s_sa 4 (s_la 0 (s_gr 6 8 (s_ic (nI 4) (s_aa 25 (s_li 3 (s_dup2 (s_al 20 (s_la 0 (s_gr 6 3 (s_li 2 (s_aa 25 (s_li 3 (s_al 20 (s_bin f_add (s_as (s_la 0 (s_gr 6 8 (s_ic (nI 5) (s_aa 25 (s_li 3 (s_dup2 (s_al 20 (s_la 0 (s_gr 6 6 (s_li 2 (s_aa 25 (s_li 3 (s_al 20 (s_bin f_add (s_as (s_la 0 (s_gr 6 8 (s_ic (nI 2) (s_aa 25 (s_li 3 (s_dup2 (s_al 20 (s_la 0 (s_gr 6 5 (s_li 2 (s_aa 25 (s_li 3 (s_al 20 (s_la 0 (s_gr 6 3 (s_li 2 (s_aa 25 (s_li 3 (s_al 20 (s_bin f_sub (s_bin f_add (s_as (s_la 0 (s_gr 6 8 (s_ic (nI 8) (s_aa 25 (s_li 3 (s_dup2 (s_al 20 (s_la 0 (s_gr 6 3 (s_li 2 (s_aa 25 (s_li 3 (s_al 20 (s_la 4 (s_ic (nI 12) (s_al 20 (s_bin f_mul (s_bin f_add (s_as (s_la 0 (s_gr 6 8 (s_ic (nI 9) (s_aa 25 (s_li 3 (s_dup2 (s_al 20 (s_la 4 (s_ic (nI 0) (s_al 20 (s_bin f_add (s_as (s_la 0 (s_gr 6 8 (s_ic (nI 10) (s_aa 25 (s_li 3 (s_dup2 (s_al 20 (s_la 0 (s_gr 6 7 (s_li 2 (s_aa 25 (s_li 3 (s_al 20 (s_bin f_add (s_as (s_la 0 (s_gr 6 8 (s_ic (nI 12) (s_aa 25 (s_li 3 (s_dup2 (s_al 20 (s_la 0 (s_gr 6 1 (s_li 2 (s_li 3 (s_cv 2 10 FX9_ranBefore (s_if c_eq (s_ic (nI 1) (s_kp [false, false, false, false, false] (LX4_addUnitUp_163 Q))) (s_ic (nI 0) (s_kp [false, false, false, false, false] (LX4_addUnitUp_163 Q)))))))))))))))))))))))))))))))))))))))))))))))))))))))))))))))))))))))))))))))))))))))))))))))))))))))))))))))))))))))
def FX4_addUnitUp : az_F := az_fun [true, true, false, false] 5 PX4_addUnitUp
theorem okX4_addUnitUp (l : Launch) : az_met l yX4_addUnitUp cX4_addUnitUp 5 none ({ frames := 2, cells := 0, slots := 0, locals := 122 } : Room) FX4_addUnitUp := az_met_of (own := RX4) (by decide +kernel) rfl (by decide) (fun X Q C => by
  have h162 := az_iconst (x := (nI 1)) C dX4_addUnitUp_162 (by decide +kernel) (az_keep [false, false, false, false, false] (okLX4_addUnitUp_163 C))
  have h159 := az_goto (tgt := 163) C dX4_addUnitUp_159 (by decide) (az_keep [false, false, false, false, false] (okLX4_addUnitUp_163 C))
  have h158 := az_iconst (x := (nI 0)) C dX4_addUnitUp_158 (by decide +kernel) h159
  have h155 := az_if_eq (tgt := 162) C dX4_addUnitUp_155 (by decide) h162 h158
  have h152 := az_callVN (ci := 10) C okX9_ranBefore knX9_ranBefore imX9_ranBefore seX9_ranBefore mNRX4_116 rfl (by decide) ⟨rfl, rfl, by decide, by decide⟩ dX4_addUnitUp_152 h155
  have h151 := az_iload_n C 3 rfl dX4_addUnitUp_151 h152
  have h150 := az_iload_n C 2 rfl dX4_addUnitUp_150 h151
  have h147 := az_getR (T := TX4) (N := 10) (j := 1) C gwRX4 rfl (by decide) (by decide) iIRX4_1 mFRX4_21 rfl dX4_addUnitUp_147 h150
  have h146 := az_aload_n C 0 rfl dX4_addUnitUp_146 h147
  have h145 := az_iald C dX4_addUnitUp_145 h146
  have h144 := az_dup2 C dX4_addUnitUp_144 h145
  have h143 := az_iload_n C 3 rfl dX4_addUnitUp_143 h144
  have h142 := az_aald2 C dX4_addUnitUp_142 h143
  have h140 := az_bipush (x := (nI 12)) C dX4_addUnitUp_140 (by decide +kernel) h142
  have h137 := az_getR (T := TX4) (N := 10) (j := 8) C gwRX4 rfl (by decide) (by decide) iIRX4_8 mFRX4_49 rfl dX4_addUnitUp_137 h140
  have h136 := az_aload_n C 0 rfl dX4_addUnitUp_136 h137
  have h135 := az_iast C dX4_addUnitUp_135 h136
  have h134 := az_iadd C dX4_addUnitUp_134 h135
  have h133 := az_iald C dX4_addUnitUp_133 h134
  have h132 := az_iload_n C 3 rfl dX4_addUnitUp_132 h133
  have h131 := az_aald2 C dX4_addUnitUp_131 h132
  have h130 := az_iload_n C 2 rfl dX4_addUnitUp_130 h131
  have h127 := az_getR (T := TX4) (N := 10) (j := 7) C gwRX4 rfl (by decide) (by decide) iIRX4_7 mFRX4_46 rfl dX4_addUnitUp_127 h130
  have h126 := az_aload_n C 0 rfl dX4_addUnitUp_126 h127
  have h125 := az_iald C dX4_addUnitUp_125 h126
  have h124 := az_dup2 C dX4_addUnitUp_124 h125
  have h123 := az_iload_n C 3 rfl dX4_addUnitUp_123 h124
  have h122 := az_aald2 C dX4_addUnitUp_122 h123
  have h120 := az_bipush (x := (nI 10)) C dX4_addUnitUp_120 (by decide +kernel) h122
  have h117 := az_getR (T := TX4) (N := 10) (j := 8) C gwRX4 rfl (by decide) (by decide) iIRX4_8 mFRX4_49 rfl dX4_addUnitUp_117 h120
  have h116 := az_aload_n C 0 rfl dX4_addUnitUp_116 h117
  have h115 := az_iast C dX4_addUnitUp_115 h116
  have h114 := az_iadd C dX4_addUnitUp_114 h115
  have h113 := az_iald C dX4_addUnitUp_113 h114
  have h112 := az_iconst (x := (nI 0)) C dX4_addUnitUp_112 (by decide +kernel) h113
  have h110 := az_aload C dX4_addUnitUp_110 h112
  have h109 := az_iald C dX4_addUnitUp_109 h110
  have h108 := az_dup2 C dX4_addUnitUp_108 h109
  have h107 := az_iload_n C 3 rfl dX4_addUnitUp_107 h108
  have h106 := az_aald2 C dX4_addUnitUp_106 h107
  have h104 := az_bipush (x := (nI 9)) C dX4_addUnitUp_104 (by decide +kernel) h106
  have h101 := az_getR (T := TX4) (N := 10) (j := 8) C gwRX4 rfl (by decide) (by decide) iIRX4_8 mFRX4_49 rfl dX4_addUnitUp_101 h104
  have h100 := az_aload_n C 0 rfl dX4_addUnitUp_100 h101
  have h99 := az_iast C dX4_addUnitUp_99 h100
  have h98 := az_iadd C dX4_addUnitUp_98 h99
  have h97 := az_imul C dX4_addUnitUp_97 h98
  have h96 := az_iald C dX4_addUnitUp_96 h97
  have h94 := az_bipush (x := (nI 12)) C dX4_addUnitUp_94 (by decide +kernel) h96
  have h92 := az_aload C dX4_addUnitUp_92 h94
  have h91 := az_iald C dX4_addUnitUp_91 h92
  have h90 := az_iload_n C 3 rfl dX4_addUnitUp_90 h91
  have h89 := az_aald2 C dX4_addUnitUp_89 h90
  have h88 := az_iload_n C 2 rfl dX4_addUnitUp_88 h89
  have h85 := az_getR (T := TX4) (N := 10) (j := 3) C gwRX4 rfl (by decide) (by decide) iIRX4_3 mFRX4_34 rfl dX4_addUnitUp_85 h88
  have h84 := az_aload_n C 0 rfl dX4_addUnitUp_84 h85
  have h83 := az_iald C dX4_addUnitUp_83 h84
  have h82 := az_dup2 C dX4_addUnitUp_82 h83
  have h81 := az_iload_n C 3 rfl dX4_addUnitUp_81 h82
  have h80 := az_aald2 C dX4_addUnitUp_80 h81
  have h78 := az_bipush (x := (nI 8)) C dX4_addUnitUp_78 (by decide +kernel) h80
  have h75 := az_getR (T := TX4) (N := 10) (j := 8) C gwRX4 rfl (by decide) (by decide) iIRX4_8 mFRX4_49 rfl dX4_addUnitUp_75 h78
  have h74 := az_aload_n C 0 rfl dX4_addUnitUp_74 h75
  have h73 := az_iast C dX4_addUnitUp_73 h74
  have h72 := az_iadd C dX4_addUnitUp_72 h73
  have h71 := az_isub C dX4_addUnitUp_71 h72
  have h70 := az_iald C dX4_addUnitUp_70 h71
  have h69 := az_iload_n C 3 rfl dX4_addUnitUp_69 h70
  have h68 := az_aald2 C dX4_addUnitUp_68 h69
  have h67 := az_iload_n C 2 rfl dX4_addUnitUp_67 h68
  have h64 := az_getR (T := TX4) (N := 10) (j := 3) C gwRX4 rfl (by decide) (by decide) iIRX4_3 mFRX4_34 rfl dX4_addUnitUp_64 h67
  have h63 := az_aload_n C 0 rfl dX4_addUnitUp_63 h64
  have h62 := az_iald C dX4_addUnitUp_62 h63
  have h61 := az_iload_n C 3 rfl dX4_addUnitUp_61 h62
  have h60 := az_aald2 C dX4_addUnitUp_60 h61
  have h59 := az_iload_n C 2 rfl dX4_addUnitUp_59 h60
  have h56 := az_getR (T := TX4) (N := 10) (j := 5) C gwRX4 rfl (by decide) (by decide) iIRX4_5 mFRX4_40 rfl dX4_addUnitUp_56 h59
  have h55 := az_aload_n C 0 rfl dX4_addUnitUp_55 h56
  have h54 := az_iald C dX4_addUnitUp_54 h55
  have h53 := az_dup2 C dX4_addUnitUp_53 h54
  have h52 := az_iload_n C 3 rfl dX4_addUnitUp_52 h53
  have h51 := az_aald2 C dX4_addUnitUp_51 h52
  have h50 := az_iconst (x := (nI 2)) C dX4_addUnitUp_50 (by decide +kernel) h51
  have h47 := az_getR (T := TX4) (N := 10) (j := 8) C gwRX4 rfl (by decide) (by decide) iIRX4_8 mFRX4_49 rfl dX4_addUnitUp_47 h50
  have h46 := az_aload_n C 0 rfl dX4_addUnitUp_46 h47
  have h45 := az_iast C dX4_addUnitUp_45 h46
  have h44 := az_iadd C dX4_addUnitUp_44 h45
  have h43 := az_iald C dX4_addUnitUp_43 h44
  have h42 := az_iload_n C 3 rfl dX4_addUnitUp_42 h43
  have h41 := az_aald2 C dX4_addUnitUp_41 h42
  have h40 := az_iload_n C 2 rfl dX4_addUnitUp_40 h41
  have h37 := az_getR (T := TX4) (N := 10) (j := 6) C gwRX4 rfl (by decide) (by decide) iIRX4_6 mFRX4_43 rfl dX4_addUnitUp_37 h40
  have h36 := az_aload_n C 0 rfl dX4_addUnitUp_36 h37
  have h35 := az_iald C dX4_addUnitUp_35 h36
  have h34 := az_dup2 C dX4_addUnitUp_34 h35
  have h33 := az_iload_n C 3 rfl dX4_addUnitUp_33 h34
  have h32 := az_aald2 C dX4_addUnitUp_32 h33
  have h31 := az_iconst (x := (nI 5)) C dX4_addUnitUp_31 (by decide +kernel) h32
  have h28 := az_getR (T := TX4) (N := 10) (j := 8) C gwRX4 rfl (by decide) (by decide) iIRX4_8 mFRX4_49 rfl dX4_addUnitUp_28 h31
  have h27 := az_aload_n C 0 rfl dX4_addUnitUp_27 h28
  have h26 := az_iast C dX4_addUnitUp_26 h27
  have h25 := az_iadd C dX4_addUnitUp_25 h26
  have h24 := az_iald C dX4_addUnitUp_24 h25
  have h23 := az_iload_n C 3 rfl dX4_addUnitUp_23 h24
  have h22 := az_aald2 C dX4_addUnitUp_22 h23
  have h21 := az_iload_n C 2 rfl dX4_addUnitUp_21 h22
  have h18 := az_getR (T := TX4) (N := 10) (j := 3) C gwRX4 rfl (by decide) (by decide) iIRX4_3 mFRX4_34 rfl dX4_addUnitUp_18 h21
  have h17 := az_aload_n C 0 rfl dX4_addUnitUp_17 h18
  have h16 := az_iald C dX4_addUnitUp_16 h17
  have h15 := az_dup2 C dX4_addUnitUp_15 h16
  have h14 := az_iload_n C 3 rfl dX4_addUnitUp_14 h15
  have h13 := az_aald2 C dX4_addUnitUp_13 h14
  have h12 := az_iconst (x := (nI 4)) C dX4_addUnitUp_12 (by decide +kernel) h13
  have h9 := az_getR (T := TX4) (N := 10) (j := 8) C gwRX4 rfl (by decide) (by decide) iIRX4_8 mFRX4_49 rfl dX4_addUnitUp_9 h12
  have h8 := az_aload_n C 0 rfl dX4_addUnitUp_8 h9
  have h6 := az_astore C (by decide) dX4_addUnitUp_6 h8
  have h5 := az_aald2 C dX4_addUnitUp_5 h6
  have h4 := az_iload_n C 2 rfl dX4_addUnitUp_4 h5
  have h1 := az_getR (T := TX8) (N := 11) (j := 5) C gwRX8 rfl (by decide) (by decide) iIRX8_5 mFRX4_113 rfl dX4_addUnitUp_1 h4
  have h0 := az_aload_n C 1 rfl dX4_addUnitUp_0 h1
  exact h0) l
theorem dX4_addUp_0 : decode cX4_addUp 0 = .ok (.iconst 0, 1) := by decide +kernel
theorem dX4_addUp_1 : decode cX4_addUp 1 = .ok (.istore_n 3, 1) := by decide +kernel
theorem dX4_addUp_2 : decode cX4_addUp 2 = .ok (.iload_n 3, 1) := by decide +kernel
theorem dX4_addUp_3 : decode cX4_addUp 3 = .ok (.bipush 13, 2) := by decide +kernel
theorem dX4_addUp_5 : decode cX4_addUp 5 = .ok (.if_icmp .ge 18, 3) := by decide +kernel
theorem dX4_addUp_8 : decode cX4_addUp 8 = .ok (.aload_n 0, 1) := by decide +kernel
theorem dX4_addUp_9 : decode cX4_addUp 9 = .ok (.getfield 49, 3) := by decide +kernel
theorem dX4_addUp_12 : decode cX4_addUp 12 = .ok (.iload_n 3, 1) := by decide +kernel
theorem dX4_addUp_13 : decode cX4_addUp 13 = .ok (.aaload, 1) := by decide +kernel
theorem dX4_addUp_14 : decode cX4_addUp 14 = .ok (.iload_n 2, 1) := by decide +kernel
theorem dX4_addUp_15 : decode cX4_addUp 15 = .ok (.iconst 0, 1) := by decide +kernel
theorem dX4_addUp_16 : decode cX4_addUp 16 = .ok (.iastore, 1) := by decide +kernel
theorem dX4_addUp_17 : decode cX4_addUp 17 = .ok (.iinc 3 1, 3) := by decide +kernel
theorem dX4_addUp_20 : decode cX4_addUp 20 = .ok (.goto (-18), 3) := by decide +kernel
theorem dX4_addUp_23 : decode cX4_addUp 23 = .ok (.iconst 0, 1) := by decide +kernel
theorem dX4_addUp_24 : decode cX4_addUp 24 = .ok (.istore_n 3, 1) := by decide +kernel
theorem dX4_addUp_25 : decode cX4_addUp 25 = .ok (.iload_n 3, 1) := by decide +kernel
theorem dX4_addUp_26 : decode cX4_addUp 26 = .ok (.aload_n 1, 1) := by decide +kernel
theorem dX4_addUp_27 : decode cX4_addUp 27 = .ok (.getfield 96, 3) := by decide +kernel
theorem dX4_addUp_30 : decode cX4_addUp 30 = .ok (.if_icmp .ge 28, 3) := by decide +kernel
theorem dX4_addUp_33 : decode cX4_addUp 33 = .ok (.aload_n 0, 1) := by decide +kernel
theorem dX4_addUp_34 : decode cX4_addUp 34 = .ok (.getfield 21, 3) := by decide +kernel
theorem dX4_addUp_37 : decode cX4_addUp 37 = .ok (.iload_n 3, 1) := by decide +kernel
theorem dX4_addUp_38 : decode cX4_addUp 38 = .ok (.iload_n 2, 1) := by decide +kernel
theorem dX4_addUp_39 : decode cX4_addUp 39 = .ok (.invokevirtual 102, 3) := by decide +kernel
theorem dX4_addUp_42 : decode cX4_addUp 42 = .ok (.ifCond .eq 10, 3) := by decide +kernel
theorem dX4_addUp_45 : decode cX4_addUp 45 = .ok (.aload_n 0, 1) := by decide +kernel
theorem dX4_addUp_46 : decode cX4_addUp 46 = .ok (.aload_n 1, 1) := by decide +kernel
theorem dX4_addUp_47 : decode cX4_addUp 47 = .ok (.iload_n 3, 1) := by decide +kernel
theorem dX4_addUp_48 : decode cX4_addUp 48 = .ok (.iload_n 2, 1) := by decide +kernel
theorem dX4_addUp_49 : decode cX4_addUp 49 = .ok (.invokevirtual 131, 3) := by decide +kernel
theorem dX4_addUp_52 : decode cX4_addUp 52 = .ok (.iinc 3 1, 3) := by decide +kernel
theorem dX4_addUp_55 : decode cX4_addUp 55 = .ok (.goto (-30), 3) := by decide +kernel
theorem dX4_addUp_58 : decode cX4_addUp 58 = .ok (.iconst 0, 1) := by decide +kernel
theorem dX4_addUp_59 : decode cX4_addUp 59 = .ok (.istore_n 3, 1) := by decide +kernel
theorem dX4_addUp_60 : decode cX4_addUp 60 = .ok (.iload_n 3, 1) := by decide +kernel
theorem dX4_addUp_61 : decode cX4_addUp 61 = .ok (.aload_n 1, 1) := by decide +kernel
theorem dX4_addUp_62 : decode cX4_addUp 62 = .ok (.getfield 134, 3) := by decide +kernel
theorem dX4_addUp_65 : decode cX4_addUp 65 = .ok (.if_icmp .ge 32, 3) := by decide +kernel
theorem dX4_addUp_68 : decode cX4_addUp 68 = .ok (.aload_n 0, 1) := by decide +kernel
theorem dX4_addUp_69 : decode cX4_addUp 69 = .ok (.getfield 49, 3) := by decide +kernel
theorem dX4_addUp_72 : decode cX4_addUp 72 = .ok (.bipush 6, 2) := by decide +kernel
theorem dX4_addUp_74 : decode cX4_addUp 74 = .ok (.aaload, 1) := by decide +kernel
theorem dX4_addUp_75 : decode cX4_addUp 75 = .ok (.iload_n 2, 1) := by decide +kernel
theorem dX4_addUp_76 : decode cX4_addUp 76 = .ok (.dup2, 1) := by decide +kernel
theorem dX4_addUp_77 : decode cX4_addUp 77 = .ok (.iaload, 1) := by decide +kernel
theorem dX4_addUp_78 : decode cX4_addUp 78 = .ok (.aload_n 0, 1) := by decide +kernel
theorem dX4_addUp_79 : decode cX4_addUp 79 = .ok (.getfield 28, 3) := by decide +kernel
theorem dX4_addUp_82 : decode cX4_addUp 82 = .ok (.getfield 137, 3) := by decide +kernel
theorem dX4_addUp_85 : decode cX4_addUp 85 = .ok (.iload_n 3, 1) := by decide +kernel
theorem dX4_addUp_86 : decode cX4_addUp 86 = .ok (.aaload, 1) := by decide +kernel
theorem dX4_addUp_87 : decode cX4_addUp 87 = .ok (.iload_n 2, 1) := by decide +kernel
theorem dX4_addUp_88 : decode cX4_addUp 88 = .ok (.iaload, 1) := by decide +kernel
theorem dX4_addUp_89 : decode cX4_addUp 89 = .ok (.iadd, 1) := by decide +kernel
theorem dX4_addUp_90 : decode cX4_addUp 90 = .ok (.iastore, 1) := by decide +kernel
theorem dX4_addUp_91 : decode cX4_addUp 91 = .ok (.iinc 3 1, 3) := by decide +kernel
theorem dX4_addUp_94 : decode cX4_addUp 94 = .ok (.goto (-34), 3) := by decide +kernel
theorem dX4_addUp_97 : decode cX4_addUp 97 = .ok (.aload_n 1, 1) := by decide +kernel
theorem dX4_addUp_98 : decode cX4_addUp 98 = .ok (.getfield 140, 3) := by decide +kernel
theorem dX4_addUp_101 : decode cX4_addUp 101 = .ok (.iload_n 2, 1) := by decide +kernel
theorem dX4_addUp_102 : decode cX4_addUp 102 = .ok (.iaload, 1) := by decide +kernel
theorem dX4_addUp_103 : decode cX4_addUp 103 = .ok (.aload_n 0, 1) := by decide +kernel
theorem dX4_addUp_104 : decode cX4_addUp 104 = .ok (.getfield 49, 3) := by decide +kernel
theorem dX4_addUp_107 : decode cX4_addUp 107 = .ok (.iconst 2, 1) := by decide +kernel
theorem dX4_addUp_108 : decode cX4_addUp 108 = .ok (.aaload, 1) := by decide +kernel
theorem dX4_addUp_109 : decode cX4_addUp 109 = .ok (.iload_n 2, 1) := by decide +kernel
theorem dX4_addUp_110 : decode cX4_addUp 110 = .ok (.iaload, 1) := by decide +kernel
theorem dX4_addUp_111 : decode cX4_addUp 111 = .ok (.isub, 1) := by decide +kernel
theorem dX4_addUp_112 : decode cX4_addUp 112 = .ok (.iconst 0, 1) := by decide +kernel
theorem dX4_addUp_113 : decode cX4_addUp 113 = .ok (.invokestatic 119, 3) := by decide +kernel
theorem dX4_addUp_116 : decode cX4_addUp 116 = .ok (.istore_n 3, 1) := by decide +kernel
theorem dX4_addUp_117 : decode cX4_addUp 117 = .ok (.aload_n 0, 1) := by decide +kernel
theorem dX4_addUp_118 : decode cX4_addUp 118 = .ok (.getfield 49, 3) := by decide +kernel
theorem dX4_addUp_121 : decode cX4_addUp 121 = .ok (.iconst 3, 1) := by decide +kernel
theorem dX4_addUp_122 : decode cX4_addUp 122 = .ok (.aaload, 1) := by decide +kernel
theorem dX4_addUp_123 : decode cX4_addUp 123 = .ok (.iload_n 2, 1) := by decide +kernel
theorem dX4_addUp_124 : decode cX4_addUp 124 = .ok (.aload_n 1, 1) := by decide +kernel
theorem dX4_addUp_125 : decode cX4_addUp 125 = .ok (.getfield 140, 3) := by decide +kernel
theorem dX4_addUp_128 : decode cX4_addUp 128 = .ok (.iload_n 2, 1) := by decide +kernel
theorem dX4_addUp_129 : decode cX4_addUp 129 = .ok (.iaload, 1) := by decide +kernel
theorem dX4_addUp_130 : decode cX4_addUp 130 = .ok (.iastore, 1) := by decide +kernel
theorem dX4_addUp_131 : decode cX4_addUp 131 = .ok (.aload_n 0, 1) := by decide +kernel
theorem dX4_addUp_132 : decode cX4_addUp 132 = .ok (.getfield 49, 3) := by decide +kernel
theorem dX4_addUp_135 : decode cX4_addUp 135 = .ok (.bipush 11, 2) := by decide +kernel
theorem dX4_addUp_137 : decode cX4_addUp 137 = .ok (.aaload, 1) := by decide +kernel
theorem dX4_addUp_138 : decode cX4_addUp 138 = .ok (.iload_n 2, 1) := by decide +kernel
theorem dX4_addUp_139 : decode cX4_addUp 139 = .ok (.aload_n 1, 1) := by decide +kernel
theorem dX4_addUp_140 : decode cX4_addUp 140 = .ok (.iload_n 2, 1) := by decide +kernel
theorem dX4_addUp_141 : decode cX4_addUp 141 = .ok (.invokevirtual 143, 3) := by decide +kernel
theorem dX4_addUp_144 : decode cX4_addUp 144 = .ok (.iastore, 1) := by decide +kernel
theorem dX4_addUp_145 : decode cX4_addUp 145 = .ok (.aload_n 0, 1) := by decide +kernel
theorem dX4_addUp_146 : decode cX4_addUp 146 = .ok (.getfield 49, 3) := by decide +kernel
theorem dX4_addUp_149 : decode cX4_addUp 149 = .ok (.bipush 7, 2) := by decide +kernel
theorem dX4_addUp_151 : decode cX4_addUp 151 = .ok (.aaload, 1) := by decide +kernel
theorem dX4_addUp_152 : decode cX4_addUp 152 = .ok (.iload_n 2, 1) := by decide +kernel
theorem dX4_addUp_153 : decode cX4_addUp 153 = .ok (.aload_n 0, 1) := by decide +kernel
theorem dX4_addUp_154 : decode cX4_addUp 154 = .ok (.getfield 21, 3) := by decide +kernel
theorem dX4_addUp_157 : decode cX4_addUp 157 = .ok (.getfield 90, 3) := by decide +kernel
theorem dX4_addUp_160 : decode cX4_addUp 160 = .ok (.iload_n 2, 1) := by decide +kernel
theorem dX4_addUp_161 : decode cX4_addUp 161 = .ok (.iaload, 1) := by decide +kernel
theorem dX4_addUp_162 : decode cX4_addUp 162 = .ok (.iastore, 1) := by decide +kernel
theorem dX4_addUp_163 : decode cX4_addUp 163 = .ok (.aload_n 0, 1) := by decide +kernel
theorem dX4_addUp_164 : decode cX4_addUp 164 = .ok (.getfield 49, 3) := by decide +kernel
theorem dX4_addUp_167 : decode cX4_addUp 167 = .ok (.iconst 0, 1) := by decide +kernel
theorem dX4_addUp_168 : decode cX4_addUp 168 = .ok (.aaload, 1) := by decide +kernel
theorem dX4_addUp_169 : decode cX4_addUp 169 = .ok (.iload_n 2, 1) := by decide +kernel
theorem dX4_addUp_170 : decode cX4_addUp 170 = .ok (.aload_n 0, 1) := by decide +kernel
theorem dX4_addUp_171 : decode cX4_addUp 171 = .ok (.getfield 49, 3) := by decide +kernel
theorem dX4_addUp_174 : decode cX4_addUp 174 = .ok (.bipush 8, 2) := by decide +kernel
theorem dX4_addUp_176 : decode cX4_addUp 176 = .ok (.aaload, 1) := by decide +kernel
theorem dX4_addUp_177 : decode cX4_addUp 177 = .ok (.iload_n 2, 1) := by decide +kernel
theorem dX4_addUp_178 : decode cX4_addUp 178 = .ok (.iaload, 1) := by decide +kernel
theorem dX4_addUp_179 : decode cX4_addUp 179 = .ok (.aload_n 0, 1) := by decide +kernel
theorem dX4_addUp_180 : decode cX4_addUp 180 = .ok (.getfield 49, 3) := by decide +kernel
theorem dX4_addUp_183 : decode cX4_addUp 183 = .ok (.bipush 9, 2) := by decide +kernel
theorem dX4_addUp_185 : decode cX4_addUp 185 = .ok (.aaload, 1) := by decide +kernel
theorem dX4_addUp_186 : decode cX4_addUp 186 = .ok (.iload_n 2, 1) := by decide +kernel
theorem dX4_addUp_187 : decode cX4_addUp 187 = .ok (.iaload, 1) := by decide +kernel
theorem dX4_addUp_188 : decode cX4_addUp 188 = .ok (.iadd, 1) := by decide +kernel
theorem dX4_addUp_189 : decode cX4_addUp 189 = .ok (.aload_n 0, 1) := by decide +kernel
theorem dX4_addUp_190 : decode cX4_addUp 190 = .ok (.getfield 49, 3) := by decide +kernel
theorem dX4_addUp_193 : decode cX4_addUp 193 = .ok (.bipush 10, 2) := by decide +kernel
theorem dX4_addUp_195 : decode cX4_addUp 195 = .ok (.aaload, 1) := by decide +kernel
theorem dX4_addUp_196 : decode cX4_addUp 196 = .ok (.iload_n 2, 1) := by decide +kernel
theorem dX4_addUp_197 : decode cX4_addUp 197 = .ok (.iaload, 1) := by decide +kernel
theorem dX4_addUp_198 : decode cX4_addUp 198 = .ok (.iadd, 1) := by decide +kernel
theorem dX4_addUp_199 : decode cX4_addUp 199 = .ok (.iastore, 1) := by decide +kernel
theorem dX4_addUp_200 : decode cX4_addUp 200 = .ok (.aload_n 0, 1) := by decide +kernel
theorem dX4_addUp_201 : decode cX4_addUp 201 = .ok (.getfield 49, 3) := by decide +kernel
theorem dX4_addUp_204 : decode cX4_addUp 204 = .ok (.iconst 1, 1) := by decide +kernel
theorem dX4_addUp_205 : decode cX4_addUp 205 = .ok (.aaload, 1) := by decide +kernel
theorem dX4_addUp_206 : decode cX4_addUp 206 = .ok (.iload_n 2, 1) := by decide +kernel
theorem dX4_addUp_207 : decode cX4_addUp 207 = .ok (.sipush 1000, 3) := by decide +kernel
theorem dX4_addUp_210 : decode cX4_addUp 210 = .ok (.aload_n 0, 1) := by decide +kernel
theorem dX4_addUp_211 : decode cX4_addUp 211 = .ok (.getfield 49, 3) := by decide +kernel
theorem dX4_addUp_214 : decode cX4_addUp 214 = .ok (.bipush 6, 2) := by decide +kernel
theorem dX4_addUp_216 : decode cX4_addUp 216 = .ok (.aaload, 1) := by decide +kernel
theorem dX4_addUp_217 : decode cX4_addUp 217 = .ok (.iload_n 2, 1) := by decide +kernel
theorem dX4_addUp_218 : decode cX4_addUp 218 = .ok (.iaload, 1) := by decide +kernel
theorem dX4_addUp_219 : decode cX4_addUp 219 = .ok (.imul, 1) := by decide +kernel
theorem dX4_addUp_220 : decode cX4_addUp 220 = .ok (.sipush 200, 3) := by decide +kernel
theorem dX4_addUp_223 : decode cX4_addUp 223 = .ok (.iload_n 3, 1) := by decide +kernel
theorem dX4_addUp_224 : decode cX4_addUp 224 = .ok (.imul, 1) := by decide +kernel
theorem dX4_addUp_225 : decode cX4_addUp 225 = .ok (.iadd, 1) := by decide +kernel
theorem dX4_addUp_226 : decode cX4_addUp 226 = .ok (.iastore, 1) := by decide +kernel
theorem dX4_addUp_227 : decode cX4_addUp 227 = .ok (.return_, 1) := by decide +kernel
def BX4_addUp_60 (Q : Option Value → az_M → Prop) (Z60 : az_T) : az_T := (s_li 3 (s_la 1 (s_gi 9 1 (s_if2 d_ge (s_la 1 (s_gr 9 8 (s_li 2 (s_al 20 (s_la 0 (s_gr 6 8 (s_ic (nI 2) (s_aa 25 (s_li 2 (s_al 20 (s_bin f_sub (s_ic (nI 0) (s_mx (s_si 3 (s_la 0 (s_gr 6 8 (s_ic (nI 3) (s_aa 25 (s_li 2 (s_la 1 (s_gr 9 8 (s_li 2 (s_al 20 (s_as (s_la 0 (s_gr 6 8 (s_ic (nI 11) (s_aa 25 (s_li 2 (s_la 1 (s_li 2 (s_cv 1 9 FX8_demandIn (s_as (s_la 0 (s_gr 6 8 (s_ic (nI 7) (s_aa 25 (s_li 2 (s_la 0 (s_gr 6 1 (s_gr 10 0 (s_li 2 (s_al 20 (s_as (s_la 0 (s_gr 6 8 (s_ic (nI 0) (s_aa 25 (s_li 2 (s_la 0 (s_gr 6 8 (s_ic (nI 8) (s_aa 25 (s_li 2 (s_al 20 (s_la 0 (s_gr 6 8 (s_ic (nI 9) (s_aa 25 (s_li 2 (s_al 20 (s_bin f_add (s_la 0 (s_gr 6 8 (s_ic (nI 10) (s_aa 25 (s_li 2 (s_al 20 (s_bin f_add (s_as (s_la 0 (s_gr 6 8 (s_ic (nI 1) (s_aa 25 (s_li 2 (s_ic (nI 1000) (s_la 0 (s_gr 6 8 (s_ic (nI 6) (s_aa 25 (s_li 2 (s_al 20 (s_bin f_mul (s_ic (nI 200) (s_li 3 (s_bin f_mul (s_bin f_add (s_as (s_rv Q))))))))))))))))))))))))))))))))))))))))))))))))))))))))))))))))))))))))))))))))))))))))) (s_la 0 (s_gr 6 8 (s_ic (nI 6) (s_aa 25 (s_li 2 (s_dup2 (s_al 20 (s_la 0 (s_gr 6 2 (s_gr 3 0 (s_li 3 (s_aa 25 (s_li 2 (s_al 20 (s_bin f_add (s_as (s_inc 3 (nI 1) (s_kp [true, true, true, true] Z60))))))))))))))))))))))
theorem okBX4_addUp_60 {X : az_X} {Q : Option Value → az_M → Prop} (C : az_C X cX4_addUp 4 RX4 (az_ts yX4_addUp cX4_addUp 4 none) ({ frames := 3, cells := 0, slots := 0, locals := 146 } : Room) none Q) {Z60 : az_T} (hZ60 : az_ok X 60 Z60) : az_ok X 60 (BX4_addUp_60 Q Z60) := by
  have h227 := az_vreturn C rfl dX4_addUp_227
  have h226 := az_iast C dX4_addUp_226 h227
  have h225 := az_iadd C dX4_addUp_225 h226
  have h224 := az_imul C dX4_addUp_224 h225
  have h223 := az_iload_n C 3 rfl dX4_addUp_223 h224
  have h220 := az_sipush (x := (nI 200)) C dX4_addUp_220 (by decide +kernel) h223
  have h219 := az_imul C dX4_addUp_219 h220
  have h218 := az_iald C dX4_addUp_218 h219
  have h217 := az_iload_n C 2 rfl dX4_addUp_217 h218
  have h216 := az_aald2 C dX4_addUp_216 h217
  have h214 := az_bipush (x := (nI 6)) C dX4_addUp_214 (by decide +kernel) h216
  have h211 := az_getR (T := TX4) (N := 10) (j := 8) C gwRX4 rfl (by decide) (by decide) iIRX4_8 mFRX4_49 rfl dX4_addUp_211 h214
  have h210 := az_aload_n C 0 rfl dX4_addUp_210 h211
  have h207 := az_sipush (x := (nI 1000)) C dX4_addUp_207 (by decide +kernel) h210
  have h206 := az_iload_n C 2 rfl dX4_addUp_206 h207
  have h205 := az_aald2 C dX4_addUp_205 h206
  have h204 := az_iconst (x := (nI 1)) C dX4_addUp_204 (by decide +kernel) h205
  have h201 := az_getR (T := TX4) (N := 10) (j := 8) C gwRX4 rfl (by decide) (by decide) iIRX4_8 mFRX4_49 rfl dX4_addUp_201 h204
  have h200 := az_aload_n C 0 rfl dX4_addUp_200 h201
  have h199 := az_iast C dX4_addUp_199 h200
  have h198 := az_iadd C dX4_addUp_198 h199
  have h197 := az_iald C dX4_addUp_197 h198
  have h196 := az_iload_n C 2 rfl dX4_addUp_196 h197
  have h195 := az_aald2 C dX4_addUp_195 h196
  have h193 := az_bipush (x := (nI 10)) C dX4_addUp_193 (by decide +kernel) h195
  have h190 := az_getR (T := TX4) (N := 10) (j := 8) C gwRX4 rfl (by decide) (by decide) iIRX4_8 mFRX4_49 rfl dX4_addUp_190 h193
  have h189 := az_aload_n C 0 rfl dX4_addUp_189 h190
  have h188 := az_iadd C dX4_addUp_188 h189
  have h187 := az_iald C dX4_addUp_187 h188
  have h186 := az_iload_n C 2 rfl dX4_addUp_186 h187
  have h185 := az_aald2 C dX4_addUp_185 h186
  have h183 := az_bipush (x := (nI 9)) C dX4_addUp_183 (by decide +kernel) h185
  have h180 := az_getR (T := TX4) (N := 10) (j := 8) C gwRX4 rfl (by decide) (by decide) iIRX4_8 mFRX4_49 rfl dX4_addUp_180 h183
  have h179 := az_aload_n C 0 rfl dX4_addUp_179 h180
  have h178 := az_iald C dX4_addUp_178 h179
  have h177 := az_iload_n C 2 rfl dX4_addUp_177 h178
  have h176 := az_aald2 C dX4_addUp_176 h177
  have h174 := az_bipush (x := (nI 8)) C dX4_addUp_174 (by decide +kernel) h176
  have h171 := az_getR (T := TX4) (N := 10) (j := 8) C gwRX4 rfl (by decide) (by decide) iIRX4_8 mFRX4_49 rfl dX4_addUp_171 h174
  have h170 := az_aload_n C 0 rfl dX4_addUp_170 h171
  have h169 := az_iload_n C 2 rfl dX4_addUp_169 h170
  have h168 := az_aald2 C dX4_addUp_168 h169
  have h167 := az_iconst (x := (nI 0)) C dX4_addUp_167 (by decide +kernel) h168
  have h164 := az_getR (T := TX4) (N := 10) (j := 8) C gwRX4 rfl (by decide) (by decide) iIRX4_8 mFRX4_49 rfl dX4_addUp_164 h167
  have h163 := az_aload_n C 0 rfl dX4_addUp_163 h164
  have h162 := az_iast C dX4_addUp_162 h163
  have h161 := az_iald C dX4_addUp_161 h162
  have h160 := az_iload_n C 2 rfl dX4_addUp_160 h161
  have h157 := az_getR (T := TX9) (N := 3) (j := 0) C gwRX9 rfl (by decide) (by decide) iIRX9_0 mFRX4_90 rfl dX4_addUp_157 h160
  have h154 := az_getR (T := TX4) (N := 10) (j := 1) C gwRX4 rfl (by decide) (by decide) iIRX4_1 mFRX4_21 rfl dX4_addUp_154 h157
  have h153 := az_aload_n C 0 rfl dX4_addUp_153 h154
  have h152 := az_iload_n C 2 rfl dX4_addUp_152 h153
  have h151 := az_aald2 C dX4_addUp_151 h152
  have h149 := az_bipush (x := (nI 7)) C dX4_addUp_149 (by decide +kernel) h151
  have h146 := az_getR (T := TX4) (N := 10) (j := 8) C gwRX4 rfl (by decide) (by decide) iIRX4_8 mFRX4_49 rfl dX4_addUp_146 h149
  have h145 := az_aload_n C 0 rfl dX4_addUp_145 h146
  have h144 := az_iast C dX4_addUp_144 h145
  have h141 := az_callVN (ci := 9) C okX8_demandIn knX8_demandIn imX8_demandIn seX8_demandIn mNRX4_143 rfl (by decide) ⟨rfl, rfl, by decide, by decide⟩ dX4_addUp_141 h144
  have h140 := az_iload_n C 2 rfl dX4_addUp_140 h141
  have h139 := az_aload_n C 1 rfl dX4_addUp_139 h140
  have h138 := az_iload_n C 2 rfl dX4_addUp_138 h139
  have h137 := az_aald2 C dX4_addUp_137 h138
  have h135 := az_bipush (x := (nI 11)) C dX4_addUp_135 (by decide +kernel) h137
  have h132 := az_getR (T := TX4) (N := 10) (j := 8) C gwRX4 rfl (by decide) (by decide) iIRX4_8 mFRX4_49 rfl dX4_addUp_132 h135
  have h131 := az_aload_n C 0 rfl dX4_addUp_131 h132
  have h130 := az_iast C dX4_addUp_130 h131
  have h129 := az_iald C dX4_addUp_129 h130
  have h128 := az_iload_n C 2 rfl dX4_addUp_128 h129
  have h125 := az_getR (T := TX8) (N := 11) (j := 8) C gwRX8 rfl (by decide) (by decide) iIRX8_8 mFRX4_140 rfl dX4_addUp_125 h128
  have h124 := az_aload_n C 1 rfl dX4_addUp_124 h125
  have h123 := az_iload_n C 2 rfl dX4_addUp_123 h124
  have h122 := az_aald2 C dX4_addUp_122 h123
  have h121 := az_iconst (x := (nI 3)) C dX4_addUp_121 (by decide +kernel) h122
  have h118 := az_getR (T := TX4) (N := 10) (j := 8) C gwRX4 rfl (by decide) (by decide) iIRX4_8 mFRX4_49 rfl dX4_addUp_118 h121
  have h117 := az_aload_n C 0 rfl dX4_addUp_117 h118
  have h116 := az_istore_n C 3 rfl (by decide) dX4_addUp_116 h117
  have h113 := az_mmax C mLRX4_119 mx_st_max mx_ini mx_co_max (by decide) (by decide) dX4_addUp_113 h116
  have h112 := az_iconst (x := (nI 0)) C dX4_addUp_112 (by decide +kernel) h113
  have h111 := az_isub C dX4_addUp_111 h112
  have h110 := az_iald C dX4_addUp_110 h111
  have h109 := az_iload_n C 2 rfl dX4_addUp_109 h110
  have h108 := az_aald2 C dX4_addUp_108 h109
  have h107 := az_iconst (x := (nI 2)) C dX4_addUp_107 (by decide +kernel) h108
  have h104 := az_getR (T := TX4) (N := 10) (j := 8) C gwRX4 rfl (by decide) (by decide) iIRX4_8 mFRX4_49 rfl dX4_addUp_104 h107
  have h103 := az_aload_n C 0 rfl dX4_addUp_103 h104
  have h102 := az_iald C dX4_addUp_102 h103
  have h101 := az_iload_n C 2 rfl dX4_addUp_101 h102
  have h98 := az_getR (T := TX8) (N := 11) (j := 8) C gwRX8 rfl (by decide) (by decide) iIRX8_8 mFRX4_140 rfl dX4_addUp_98 h101
  have h97 := az_aload_n C 1 rfl dX4_addUp_97 h98
  have h94 := az_goto (tgt := 60) C dX4_addUp_94 (by decide) (az_keep [true, true, true, true] hZ60)
  have h91 := az_iinc (v := (nI 1)) C (by decide) (by decide +kernel) dX4_addUp_91 h94
  have h90 := az_iast C dX4_addUp_90 h91
  have h89 := az_iadd C dX4_addUp_89 h90
  have h88 := az_iald C dX4_addUp_88 h89
  have h87 := az_iload_n C 2 rfl dX4_addUp_87 h88
  have h86 := az_aald2 C dX4_addUp_86 h87
  have h85 := az_iload_n C 3 rfl dX4_addUp_85 h86
  have h82 := az_getR (T := TX1) (N := 3) (j := 0) C gwRX1 rfl (by decide) (by decide) iIRX1_0 mFRX4_137 rfl dX4_addUp_82 h85
  have h79 := az_getR (T := TX4) (N := 10) (j := 2) C gwRX4 rfl (by decide) (by decide) iIRX4_2 mFRX4_28 rfl dX4_addUp_79 h82
  have h78 := az_aload_n C 0 rfl dX4_addUp_78 h79
  have h77 := az_iald C dX4_addUp_77 h78
  have h76 := az_dup2 C dX4_addUp_76 h77
  have h75 := az_iload_n C 2 rfl dX4_addUp_75 h76
  have h74 := az_aald2 C dX4_addUp_74 h75
  have h72 := az_bipush (x := (nI 6)) C dX4_addUp_72 (by decide +kernel) h74
  have h69 := az_getR (T := TX4) (N := 10) (j := 8) C gwRX4 rfl (by decide) (by decide) iIRX4_8 mFRX4_49 rfl dX4_addUp_69 h72
  have h68 := az_aload_n C 0 rfl dX4_addUp_68 h69
  have h65 := az_icmp_ge (tgt := 97) C dX4_addUp_65 (by decide) h97 h68
  have h62 := az_getI (T := TX8) (N := 11) (j := 1) C gwRX8 rfl (by decide) (by decide) iIRX8_1 mFRX4_134 rfl dX4_addUp_62 h65
  have h61 := az_aload_n C 1 rfl dX4_addUp_61 h62
  have h60 := az_iload_n C 3 rfl dX4_addUp_60 h61
  exact h60
def LX4_addUp_60 (Q : Option Value → az_M → Prop) : az_T := s_lp (fun Z => BX4_addUp_60 Q Z)
theorem okLX4_addUp_60 {X : az_X} {Q : Option Value → az_M → Prop} (C : az_C X cX4_addUp 4 RX4 (az_ts yX4_addUp cX4_addUp 4 none) ({ frames := 3, cells := 0, slots := 0, locals := 146 } : Room) none Q) : az_ok X 60 (LX4_addUp_60 Q) := az_loop (F := fun Z => BX4_addUp_60 Q Z) (fun _ hZ => okBX4_addUp_60 C hZ)
def LX4_addUp_52 (Q : Option Value → az_M → Prop) (Z25 : az_T) : az_T := (s_inc 3 (nI 1) (s_kp [true, true, true, true] Z25))
theorem okLX4_addUp_52 {X : az_X} {Q : Option Value → az_M → Prop} (C : az_C X cX4_addUp 4 RX4 (az_ts yX4_addUp cX4_addUp 4 none) ({ frames := 3, cells := 0, slots := 0, locals := 146 } : Room) none Q) {Z25 : az_T} (hZ25 : az_ok X 25 Z25) : az_ok X 52 (LX4_addUp_52 Q Z25) := by
  have h55 := az_goto (tgt := 25) C dX4_addUp_55 (by decide) (az_keep [true, true, true, true] hZ25)
  have h52 := az_iinc (v := (nI 1)) C (by decide) (by decide +kernel) dX4_addUp_52 h55
  exact h52
def BX4_addUp_25 (Q : Option Value → az_M → Prop) (Z25 : az_T) : az_T := (s_li 3 (s_la 1 (s_gi 9 3 (s_if2 d_ge (s_ic (nI 0) (s_si 3 (s_kp [true, true, true, true] (LX4_addUp_60 Q)))) (s_la 0 (s_gr 6 1 (s_li 3 (s_li 2 (s_cv 2 10 FX9_runs (s_if c_eq (s_kp [true, true, true, true] (LX4_addUp_52 Q Z25)) (s_la 0 (s_la 1 (s_li 3 (s_li 2 (s_cv 3 6 FX4_addUnitUp (s_kp [true, true, true, true] (LX4_addUp_52 Q Z25)))))))))))))))))
theorem okBX4_addUp_25 {X : az_X} {Q : Option Value → az_M → Prop} (C : az_C X cX4_addUp 4 RX4 (az_ts yX4_addUp cX4_addUp 4 none) ({ frames := 3, cells := 0, slots := 0, locals := 146 } : Room) none Q) {Z25 : az_T} (hZ25 : az_ok X 25 Z25) : az_ok X 25 (BX4_addUp_25 Q Z25) := by
  have h59 := az_istore_n C 3 rfl (by decide) dX4_addUp_59 (az_keep [true, true, true, true] (okLX4_addUp_60 C))
  have h58 := az_iconst (x := (nI 0)) C dX4_addUp_58 (by decide +kernel) h59
  have h49 := az_callV (ci := 6) C okX4_addUnitUp knX4_addUnitUp imX4_addUnitUp seX4_addUnitUp mLRX4_131 rfl (by decide) ⟨rfl, rfl, by decide, by decide⟩ dX4_addUp_49 (az_keep [true, true, true, true] (okLX4_addUp_52 C hZ25))
  have h48 := az_iload_n C 2 rfl dX4_addUp_48 h49
  have h47 := az_iload_n C 3 rfl dX4_addUp_47 h48
  have h46 := az_aload_n C 1 rfl dX4_addUp_46 h47
  have h45 := az_aload_n C 0 rfl dX4_addUp_45 h46
  have h42 := az_if_eq (tgt := 52) C dX4_addUp_42 (by decide) (az_keep [true, true, true, true] (okLX4_addUp_52 C hZ25)) h45
  have h39 := az_callVN (ci := 10) C okX9_runs knX9_runs imX9_runs seX9_runs mNRX4_102 rfl (by decide) ⟨rfl, rfl, by decide, by decide⟩ dX4_addUp_39 h42
  have h38 := az_iload_n C 2 rfl dX4_addUp_38 h39
  have h37 := az_iload_n C 3 rfl dX4_addUp_37 h38
  have h34 := az_getR (T := TX4) (N := 10) (j := 1) C gwRX4 rfl (by decide) (by decide) iIRX4_1 mFRX4_21 rfl dX4_addUp_34 h37
  have h33 := az_aload_n C 0 rfl dX4_addUp_33 h34
  have h30 := az_icmp_ge (tgt := 58) C dX4_addUp_30 (by decide) h58 h33
  have h27 := az_getI (T := TX8) (N := 11) (j := 3) C gwRX8 rfl (by decide) (by decide) iIRX8_3 mFRX4_96 rfl dX4_addUp_27 h30
  have h26 := az_aload_n C 1 rfl dX4_addUp_26 h27
  have h25 := az_iload_n C 3 rfl dX4_addUp_25 h26
  exact h25
def LX4_addUp_25 (Q : Option Value → az_M → Prop) : az_T := s_lp (fun Z => BX4_addUp_25 Q Z)
theorem okLX4_addUp_25 {X : az_X} {Q : Option Value → az_M → Prop} (C : az_C X cX4_addUp 4 RX4 (az_ts yX4_addUp cX4_addUp 4 none) ({ frames := 3, cells := 0, slots := 0, locals := 146 } : Room) none Q) : az_ok X 25 (LX4_addUp_25 Q) := az_loop (F := fun Z => BX4_addUp_25 Q Z) (fun _ hZ => okBX4_addUp_25 C hZ)
def BX4_addUp_2 (Q : Option Value → az_M → Prop) (Z2 : az_T) : az_T := (s_li 3 (s_ic (nI 13) (s_if2 d_ge (s_ic (nI 0) (s_si 3 (s_kp [true, true, true, true] (LX4_addUp_25 Q)))) (s_la 0 (s_gr 6 8 (s_li 3 (s_aa 25 (s_li 2 (s_ic (nI 0) (s_as (s_inc 3 (nI 1) (s_kp [true, true, true, true] Z2))))))))))))
theorem okBX4_addUp_2 {X : az_X} {Q : Option Value → az_M → Prop} (C : az_C X cX4_addUp 4 RX4 (az_ts yX4_addUp cX4_addUp 4 none) ({ frames := 3, cells := 0, slots := 0, locals := 146 } : Room) none Q) {Z2 : az_T} (hZ2 : az_ok X 2 Z2) : az_ok X 2 (BX4_addUp_2 Q Z2) := by
  have h24 := az_istore_n C 3 rfl (by decide) dX4_addUp_24 (az_keep [true, true, true, true] (okLX4_addUp_25 C))
  have h23 := az_iconst (x := (nI 0)) C dX4_addUp_23 (by decide +kernel) h24
  have h20 := az_goto (tgt := 2) C dX4_addUp_20 (by decide) (az_keep [true, true, true, true] hZ2)
  have h17 := az_iinc (v := (nI 1)) C (by decide) (by decide +kernel) dX4_addUp_17 h20
  have h16 := az_iast C dX4_addUp_16 h17
  have h15 := az_iconst (x := (nI 0)) C dX4_addUp_15 (by decide +kernel) h16
  have h14 := az_iload_n C 2 rfl dX4_addUp_14 h15
  have h13 := az_aald2 C dX4_addUp_13 h14
  have h12 := az_iload_n C 3 rfl dX4_addUp_12 h13
  have h9 := az_getR (T := TX4) (N := 10) (j := 8) C gwRX4 rfl (by decide) (by decide) iIRX4_8 mFRX4_49 rfl dX4_addUp_9 h12
  have h8 := az_aload_n C 0 rfl dX4_addUp_8 h9
  have h5 := az_icmp_ge (tgt := 23) C dX4_addUp_5 (by decide) h23 h8
  have h3 := az_bipush (x := (nI 13)) C dX4_addUp_3 (by decide +kernel) h5
  have h2 := az_iload_n C 3 rfl dX4_addUp_2 h3
  exact h2
def LX4_addUp_2 (Q : Option Value → az_M → Prop) : az_T := s_lp (fun Z => BX4_addUp_2 Q Z)
theorem okLX4_addUp_2 {X : az_X} {Q : Option Value → az_M → Prop} (C : az_C X cX4_addUp 4 RX4 (az_ts yX4_addUp cX4_addUp 4 none) ({ frames := 3, cells := 0, slots := 0, locals := 146 } : Room) none Q) : az_ok X 2 (LX4_addUp_2 Q) := az_loop (F := fun Z => BX4_addUp_2 Q Z) (fun _ hZ => okBX4_addUp_2 C hZ)
def PX4_addUp (Q : Option Value → az_M → Prop) : az_T := (s_ic (nI 0) (s_si 3 (s_kp [true, true, true, true] (LX4_addUp_2 Q))))
def FX4_addUp : az_F := az_fun [true, true, false] 4 PX4_addUp
theorem okX4_addUp (l : Launch) : az_met l yX4_addUp cX4_addUp 4 none ({ frames := 3, cells := 0, slots := 0, locals := 146 } : Room) FX4_addUp := az_met_of (own := RX4) (by decide +kernel) rfl (by decide) (fun X Q C => by
  have h1 := az_istore_n C 3 rfl (by decide) dX4_addUp_1 (az_keep [true, true, true, true] (okLX4_addUp_2 C))
  have h0 := az_iconst (x := (nI 0)) C dX4_addUp_0 (by decide +kernel) h1
  exact h0) l
theorem dX4_dispatch_0 : decode cX4_dispatch 0 = .ok (.aload_n 0, 1) := by decide +kernel
theorem dX4_dispatch_1 : decode cX4_dispatch 1 = .ok (.getfield 21, 3) := by decide +kernel
theorem dX4_dispatch_4 : decode cX4_dispatch 4 = .ok (.getfield 90, 3) := by decide +kernel
theorem dX4_dispatch_7 : decode cX4_dispatch 7 = .ok (.iload_n 2, 1) := by decide +kernel
theorem dX4_dispatch_8 : decode cX4_dispatch 8 = .ok (.iload_n 3, 1) := by decide +kernel
theorem dX4_dispatch_9 : decode cX4_dispatch 9 = .ok (.iastore, 1) := by decide +kernel
theorem dX4_dispatch_10 : decode cX4_dispatch 10 = .ok (.aload_n 0, 1) := by decide +kernel
theorem dX4_dispatch_11 : decode cX4_dispatch 11 = .ok (.getfield 28, 3) := by decide +kernel
theorem dX4_dispatch_14 : decode cX4_dispatch 14 = .ok (.aload_n 1, 1) := by decide +kernel
theorem dX4_dispatch_15 : decode cX4_dispatch 15 = .ok (.iload_n 2, 1) := by decide +kernel
theorem dX4_dispatch_16 : decode cX4_dispatch 16 = .ok (.invokevirtual 93, 3) := by decide +kernel
theorem dX4_dispatch_19 : decode cX4_dispatch 19 = .ok (.iconst 0, 1) := by decide +kernel
theorem dX4_dispatch_20 : decode cX4_dispatch 20 = .ok (.istore 4, 2) := by decide +kernel
theorem dX4_dispatch_22 : decode cX4_dispatch 22 = .ok (.iload 4, 2) := by decide +kernel
theorem dX4_dispatch_24 : decode cX4_dispatch 24 = .ok (.aload_n 1, 1) := by decide +kernel
theorem dX4_dispatch_25 : decode cX4_dispatch 25 = .ok (.getfield 96, 3) := by decide +kernel
theorem dX4_dispatch_28 : decode cX4_dispatch 28 = .ok (.if_icmp .ge 17, 3) := by decide +kernel
theorem dX4_dispatch_31 : decode cX4_dispatch 31 = .ok (.aload_n 0, 1) := by decide +kernel
theorem dX4_dispatch_32 : decode cX4_dispatch 32 = .ok (.aload_n 1, 1) := by decide +kernel
theorem dX4_dispatch_33 : decode cX4_dispatch 33 = .ok (.iload 4, 2) := by decide +kernel
theorem dX4_dispatch_35 : decode cX4_dispatch 35 = .ok (.iload_n 2, 1) := by decide +kernel
theorem dX4_dispatch_36 : decode cX4_dispatch 36 = .ok (.invokevirtual 99, 3) := by decide +kernel
theorem dX4_dispatch_39 : decode cX4_dispatch 39 = .ok (.iinc 4 1, 3) := by decide +kernel
theorem dX4_dispatch_42 : decode cX4_dispatch 42 = .ok (.goto (-20), 3) := by decide +kernel
theorem dX4_dispatch_45 : decode cX4_dispatch 45 = .ok (.iconst 0, 1) := by decide +kernel
theorem dX4_dispatch_46 : decode cX4_dispatch 46 = .ok (.istore 4, 2) := by decide +kernel
theorem dX4_dispatch_48 : decode cX4_dispatch 48 = .ok (.iload 4, 2) := by decide +kernel
theorem dX4_dispatch_50 : decode cX4_dispatch 50 = .ok (.aload_n 1, 1) := by decide +kernel
theorem dX4_dispatch_51 : decode cX4_dispatch 51 = .ok (.getfield 96, 3) := by decide +kernel
theorem dX4_dispatch_54 : decode cX4_dispatch 54 = .ok (.if_icmp .ge 69, 3) := by decide +kernel
theorem dX4_dispatch_57 : decode cX4_dispatch 57 = .ok (.aload_n 0, 1) := by decide +kernel
theorem dX4_dispatch_58 : decode cX4_dispatch 58 = .ok (.getfield 21, 3) := by decide +kernel
theorem dX4_dispatch_61 : decode cX4_dispatch 61 = .ok (.iload 4, 2) := by decide +kernel
theorem dX4_dispatch_63 : decode cX4_dispatch 63 = .ok (.iload_n 2, 1) := by decide +kernel
theorem dX4_dispatch_64 : decode cX4_dispatch 64 = .ok (.invokevirtual 102, 3) := by decide +kernel
theorem dX4_dispatch_67 : decode cX4_dispatch 67 = .ok (.ifCond .eq 50, 3) := by decide +kernel
theorem dX4_dispatch_70 : decode cX4_dispatch 70 = .ok (.aload_n 0, 1) := by decide +kernel
theorem dX4_dispatch_71 : decode cX4_dispatch 71 = .ok (.getfield 34, 3) := by decide +kernel
theorem dX4_dispatch_74 : decode cX4_dispatch 74 = .ok (.iload 4, 2) := by decide +kernel
theorem dX4_dispatch_76 : decode cX4_dispatch 76 = .ok (.aaload, 1) := by decide +kernel
theorem dX4_dispatch_77 : decode cX4_dispatch 77 = .ok (.iload_n 2, 1) := by decide +kernel
theorem dX4_dispatch_78 : decode cX4_dispatch 78 = .ok (.aload_n 0, 1) := by decide +kernel
theorem dX4_dispatch_79 : decode cX4_dispatch 79 = .ok (.getfield 37, 3) := by decide +kernel
theorem dX4_dispatch_82 : decode cX4_dispatch 82 = .ok (.iload 4, 2) := by decide +kernel
theorem dX4_dispatch_84 : decode cX4_dispatch 84 = .ok (.aaload, 1) := by decide +kernel
theorem dX4_dispatch_85 : decode cX4_dispatch 85 = .ok (.iload_n 2, 1) := by decide +kernel
theorem dX4_dispatch_86 : decode cX4_dispatch 86 = .ok (.iaload, 1) := by decide +kernel
theorem dX4_dispatch_87 : decode cX4_dispatch 87 = .ok (.iastore, 1) := by decide +kernel
theorem dX4_dispatch_88 : decode cX4_dispatch 88 = .ok (.aload_n 0, 1) := by decide +kernel
theorem dX4_dispatch_89 : decode cX4_dispatch 89 = .ok (.getfield 43, 3) := by decide +kernel
theorem dX4_dispatch_92 : decode cX4_dispatch 92 = .ok (.iload 4, 2) := by decide +kernel
theorem dX4_dispatch_94 : decode cX4_dispatch 94 = .ok (.aaload, 1) := by decide +kernel
theorem dX4_dispatch_95 : decode cX4_dispatch 95 = .ok (.iload_n 2, 1) := by decide +kernel
theorem dX4_dispatch_96 : decode cX4_dispatch 96 = .ok (.aload_n 0, 1) := by decide +kernel
theorem dX4_dispatch_97 : decode cX4_dispatch 97 = .ok (.getfield 28, 3) := by decide +kernel
theorem dX4_dispatch_100 : decode cX4_dispatch 100 = .ok (.aload_n 1, 1) := by decide +kernel
theorem dX4_dispatch_101 : decode cX4_dispatch 101 = .ok (.iload_n 2, 1) := by decide +kernel
theorem dX4_dispatch_102 : decode cX4_dispatch 102 = .ok (.iload 4, 2) := by decide +kernel
theorem dX4_dispatch_104 : decode cX4_dispatch 104 = .ok (.aload_n 0, 1) := by decide +kernel
theorem dX4_dispatch_105 : decode cX4_dispatch 105 = .ok (.getfield 37, 3) := by decide +kernel
theorem dX4_dispatch_108 : decode cX4_dispatch 108 = .ok (.iload 4, 2) := by decide +kernel
theorem dX4_dispatch_110 : decode cX4_dispatch 110 = .ok (.aaload, 1) := by decide +kernel
theorem dX4_dispatch_111 : decode cX4_dispatch 111 = .ok (.iload_n 2, 1) := by decide +kernel
theorem dX4_dispatch_112 : decode cX4_dispatch 112 = .ok (.iaload, 1) := by decide +kernel
theorem dX4_dispatch_113 : decode cX4_dispatch 113 = .ok (.invokevirtual 106, 3) := by decide +kernel
theorem dX4_dispatch_116 : decode cX4_dispatch 116 = .ok (.iastore, 1) := by decide +kernel
theorem dX4_dispatch_117 : decode cX4_dispatch 117 = .ok (.iinc 4 1, 3) := by decide +kernel
theorem dX4_dispatch_120 : decode cX4_dispatch 120 = .ok (.goto (-72), 3) := by decide +kernel
theorem dX4_dispatch_123 : decode cX4_dispatch 123 = .ok (.iconst 0, 1) := by decide +kernel
theorem dX4_dispatch_124 : decode cX4_dispatch 124 = .ok (.istore 4, 2) := by decide +kernel
theorem dX4_dispatch_126 : decode cX4_dispatch 126 = .ok (.iload 4, 2) := by decide +kernel
theorem dX4_dispatch_128 : decode cX4_dispatch 128 = .ok (.aload_n 1, 1) := by decide +kernel
theorem dX4_dispatch_129 : decode cX4_dispatch 129 = .ok (.getfield 96, 3) := by decide +kernel
theorem dX4_dispatch_132 : decode cX4_dispatch 132 = .ok (.if_icmp .ge 80, 3) := by decide +kernel
theorem dX4_dispatch_135 : decode cX4_dispatch 135 = .ok (.aload_n 0, 1) := by decide +kernel
theorem dX4_dispatch_136 : decode cX4_dispatch 136 = .ok (.getfield 52, 3) := by decide +kernel
theorem dX4_dispatch_139 : decode cX4_dispatch 139 = .ok (.iload 4, 2) := by decide +kernel
theorem dX4_dispatch_141 : decode cX4_dispatch 141 = .ok (.iaload, 1) := by decide +kernel
theorem dX4_dispatch_142 : decode cX4_dispatch 142 = .ok (.istore 5, 2) := by decide +kernel
theorem dX4_dispatch_144 : decode cX4_dispatch 144 = .ok (.aload_n 0, 1) := by decide +kernel
theorem dX4_dispatch_145 : decode cX4_dispatch 145 = .ok (.getfield 21, 3) := by decide +kernel
theorem dX4_dispatch_148 : decode cX4_dispatch 148 = .ok (.iload 5, 2) := by decide +kernel
theorem dX4_dispatch_150 : decode cX4_dispatch 150 = .ok (.iload_n 2, 1) := by decide +kernel
theorem dX4_dispatch_151 : decode cX4_dispatch 151 = .ok (.invokevirtual 102, 3) := by decide +kernel
theorem dX4_dispatch_154 : decode cX4_dispatch 154 = .ok (.ifCond .eq 52, 3) := by decide +kernel
theorem dX4_dispatch_157 : decode cX4_dispatch 157 = .ok (.aload_n 0, 1) := by decide +kernel
theorem dX4_dispatch_158 : decode cX4_dispatch 158 = .ok (.getfield 40, 3) := by decide +kernel
theorem dX4_dispatch_161 : decode cX4_dispatch 161 = .ok (.iload 5, 2) := by decide +kernel
theorem dX4_dispatch_163 : decode cX4_dispatch 163 = .ok (.aaload, 1) := by decide +kernel
theorem dX4_dispatch_164 : decode cX4_dispatch 164 = .ok (.iload_n 2, 1) := by decide +kernel
theorem dX4_dispatch_165 : decode cX4_dispatch 165 = .ok (.iaload, 1) := by decide +kernel
theorem dX4_dispatch_166 : decode cX4_dispatch 166 = .ok (.aload_n 0, 1) := by decide +kernel
theorem dX4_dispatch_167 : decode cX4_dispatch 167 = .ok (.getfield 37, 3) := by decide +kernel
theorem dX4_dispatch_170 : decode cX4_dispatch 170 = .ok (.iload 5, 2) := by decide +kernel
theorem dX4_dispatch_172 : decode cX4_dispatch 172 = .ok (.aaload, 1) := by decide +kernel
theorem dX4_dispatch_173 : decode cX4_dispatch 173 = .ok (.iload_n 2, 1) := by decide +kernel
theorem dX4_dispatch_174 : decode cX4_dispatch 174 = .ok (.iaload, 1) := by decide +kernel
theorem dX4_dispatch_175 : decode cX4_dispatch 175 = .ok (.isub, 1) := by decide +kernel
theorem dX4_dispatch_176 : decode cX4_dispatch 176 = .ok (.istore 6, 2) := by decide +kernel
theorem dX4_dispatch_178 : decode cX4_dispatch 178 = .ok (.aload_n 0, 1) := by decide +kernel
theorem dX4_dispatch_179 : decode cX4_dispatch 179 = .ok (.getfield 34, 3) := by decide +kernel
theorem dX4_dispatch_182 : decode cX4_dispatch 182 = .ok (.iload 5, 2) := by decide +kernel
theorem dX4_dispatch_184 : decode cX4_dispatch 184 = .ok (.aaload, 1) := by decide +kernel
theorem dX4_dispatch_185 : decode cX4_dispatch 185 = .ok (.iload_n 2, 1) := by decide +kernel
theorem dX4_dispatch_186 : decode cX4_dispatch 186 = .ok (.dup2, 1) := by decide +kernel
theorem dX4_dispatch_187 : decode cX4_dispatch 187 = .ok (.iaload, 1) := by decide +kernel
theorem dX4_dispatch_188 : decode cX4_dispatch 188 = .ok (.iload 6, 2) := by decide +kernel
theorem dX4_dispatch_190 : decode cX4_dispatch 190 = .ok (.aload_n 0, 1) := by decide +kernel
theorem dX4_dispatch_191 : decode cX4_dispatch 191 = .ok (.getfield 28, 3) := by decide +kernel
theorem dX4_dispatch_194 : decode cX4_dispatch 194 = .ok (.aload_n 1, 1) := by decide +kernel
theorem dX4_dispatch_195 : decode cX4_dispatch 195 = .ok (.iload_n 2, 1) := by decide +kernel
theorem dX4_dispatch_196 : decode cX4_dispatch 196 = .ok (.iload 5, 2) := by decide +kernel
theorem dX4_dispatch_198 : decode cX4_dispatch 198 = .ok (.iload 6, 2) := by decide +kernel
theorem dX4_dispatch_200 : decode cX4_dispatch 200 = .ok (.invokevirtual 106, 3) := by decide +kernel
theorem dX4_dispatch_203 : decode cX4_dispatch 203 = .ok (.isub, 1) := by decide +kernel
theorem dX4_dispatch_204 : decode cX4_dispatch 204 = .ok (.iadd, 1) := by decide +kernel
theorem dX4_dispatch_205 : decode cX4_dispatch 205 = .ok (.iastore, 1) := by decide +kernel
theorem dX4_dispatch_206 : decode cX4_dispatch 206 = .ok (.iinc 4 1, 3) := by decide +kernel
theorem dX4_dispatch_209 : decode cX4_dispatch 209 = .ok (.goto (-83), 3) := by decide +kernel
theorem dX4_dispatch_212 : decode cX4_dispatch 212 = .ok (.aload_n 0, 1) := by decide +kernel
theorem dX4_dispatch_213 : decode cX4_dispatch 213 = .ok (.aload_n 1, 1) := by decide +kernel
theorem dX4_dispatch_214 : decode cX4_dispatch 214 = .ok (.iload_n 2, 1) := by decide +kernel
theorem dX4_dispatch_215 : decode cX4_dispatch 215 = .ok (.invokevirtual 110, 3) := by decide +kernel
theorem dX4_dispatch_218 : decode cX4_dispatch 218 = .ok (.return_, 1) := by decide +kernel
def LX4_dispatch_206 (Q : Option Value → az_M → Prop) (Z126 : az_T) : az_T := (s_inc 4 (nI 1) (s_kp [true, true, true, false, true, false, false] Z126))
theorem okLX4_dispatch_206 {X : az_X} {Q : Option Value → az_M → Prop} (C : az_C X cX4_dispatch 7 RX4 (az_ts yX4_dispatch cX4_dispatch 7 none) ({ frames := 4, cells := 0, slots := 0, locals := 184 } : Room) none Q) {Z126 : az_T} (hZ126 : az_ok X 126 Z126) : az_ok X 206 (LX4_dispatch_206 Q Z126) := by
  have h209 := az_goto (tgt := 126) C dX4_dispatch_209 (by decide) (az_keep [true, true, true, false, true, false, false] hZ126)
  have h206 := az_iinc (v := (nI 1)) C (by decide) (by decide +kernel) dX4_dispatch_206 h209
  exact h206
def BX4_dispatch_126 (Q : Option Value → az_M → Prop) (Z126 : az_T) : az_T := (s_li 4 (s_la 1 (s_gi 9 3 (s_if2 d_ge (s_la 0 (s_la 1 (s_li 2 (s_cv 2 6 FX4_addUp (s_rv Q))))) (s_la 0 (s_gr 6 9 (s_li 4 (s_al 20 (s_si 5 (s_la 0 (s_gr 6 1 (s_li 5 (s_li 2 (s_cv 2 10 FX9_runs (s_if c_eq (s_kp [true, true, true, false, true, false, false] (LX4_dispatch_206 Q Z126)) (s_la 0 (s_gr 6 5 (s_li 5 (s_aa 25 (s_li 2 (s_al 20 (s_la 0 (s_gr 6 4 (s_li 5 (s_aa 25 (s_li 2 (s_al 20 (s_bin f_sub (s_si 6 (s_la 0 (s_gr 6 3 (s_li 5 (s_aa 25 (s_li 2 (s_dup2 (s_al 20 (s_li 6 (s_la 0 (s_gr 6 2 (s_la 1 (s_li 2 (s_li 5 (s_li 6 (s_cv 4 3 FX1_deliver (s_bin f_sub (s_bin f_add (s_as (s_kp [true, true, true, false, true, false, false] (LX4_dispatch_206 Q Z126)))))))))))))))))))))))))))))))))))))))))))))))))
theorem okBX4_dispatch_126 {X : az_X} {Q : Option Value → az_M → Prop} (C : az_C X cX4_dispatch 7 RX4 (az_ts yX4_dispatch cX4_dispatch 7 none) ({ frames := 4, cells := 0, slots := 0, locals := 184 } : Room) none Q) {Z126 : az_T} (hZ126 : az_ok X 126 Z126) : az_ok X 126 (BX4_dispatch_126 Q Z126) := by
  have h218 := az_vreturn C rfl dX4_dispatch_218
  have h215 := az_callV (ci := 6) C okX4_addUp knX4_addUp imX4_addUp seX4_addUp mLRX4_110 rfl (by decide) ⟨rfl, rfl, by decide, by decide⟩ dX4_dispatch_215 h218
  have h214 := az_iload_n C 2 rfl dX4_dispatch_214 h215
  have h213 := az_aload_n C 1 rfl dX4_dispatch_213 h214
  have h212 := az_aload_n C 0 rfl dX4_dispatch_212 h213
  have h205 := az_iast C dX4_dispatch_205 (az_keep [true, true, true, false, true, false, false] (okLX4_dispatch_206 C hZ126))
  have h204 := az_iadd C dX4_dispatch_204 h205
  have h203 := az_isub C dX4_dispatch_203 h204
  have h200 := az_callVN (ci := 3) C okX1_deliver knX1_deliver imX1_deliver seX1_deliver mNRX4_106 rfl (by decide) ⟨rfl, rfl, by decide, by decide⟩ dX4_dispatch_200 h203
  have h198 := az_iload C dX4_dispatch_198 h200
  have h196 := az_iload C dX4_dispatch_196 h198
  have h195 := az_iload_n C 2 rfl dX4_dispatch_195 h196
  have h194 := az_aload_n C 1 rfl dX4_dispatch_194 h195
  have h191 := az_getR (T := TX4) (N := 10) (j := 2) C gwRX4 rfl (by decide) (by decide) iIRX4_2 mFRX4_28 rfl dX4_dispatch_191 h194
  have h190 := az_aload_n C 0 rfl dX4_dispatch_190 h191
  have h188 := az_iload C dX4_dispatch_188 h190
  have h187 := az_iald C dX4_dispatch_187 h188
  have h186 := az_dup2 C dX4_dispatch_186 h187
  have h185 := az_iload_n C 2 rfl dX4_dispatch_185 h186
  have h184 := az_aald2 C dX4_dispatch_184 h185
  have h182 := az_iload C dX4_dispatch_182 h184
  have h179 := az_getR (T := TX4) (N := 10) (j := 3) C gwRX4 rfl (by decide) (by decide) iIRX4_3 mFRX4_34 rfl dX4_dispatch_179 h182
  have h178 := az_aload_n C 0 rfl dX4_dispatch_178 h179
  have h176 := az_istore C (by decide) dX4_dispatch_176 h178
  have h175 := az_isub C dX4_dispatch_175 h176
  have h174 := az_iald C dX4_dispatch_174 h175
  have h173 := az_iload_n C 2 rfl dX4_dispatch_173 h174
  have h172 := az_aald2 C dX4_dispatch_172 h173
  have h170 := az_iload C dX4_dispatch_170 h172
  have h167 := az_getR (T := TX4) (N := 10) (j := 4) C gwRX4 rfl (by decide) (by decide) iIRX4_4 mFRX4_37 rfl dX4_dispatch_167 h170
  have h166 := az_aload_n C 0 rfl dX4_dispatch_166 h167
  have h165 := az_iald C dX4_dispatch_165 h166
  have h164 := az_iload_n C 2 rfl dX4_dispatch_164 h165
  have h163 := az_aald2 C dX4_dispatch_163 h164
  have h161 := az_iload C dX4_dispatch_161 h163
  have h158 := az_getR (T := TX4) (N := 10) (j := 5) C gwRX4 rfl (by decide) (by decide) iIRX4_5 mFRX4_40 rfl dX4_dispatch_158 h161
  have h157 := az_aload_n C 0 rfl dX4_dispatch_157 h158
  have h154 := az_if_eq (tgt := 206) C dX4_dispatch_154 (by decide) (az_keep [true, true, true, false, true, false, false] (okLX4_dispatch_206 C hZ126)) h157
  have h151 := az_callVN (ci := 10) C okX9_runs knX9_runs imX9_runs seX9_runs mNRX4_102 rfl (by decide) ⟨rfl, rfl, by decide, by decide⟩ dX4_dispatch_151 h154
  have h150 := az_iload_n C 2 rfl dX4_dispatch_150 h151
  have h148 := az_iload C dX4_dispatch_148 h150
  have h145 := az_getR (T := TX4) (N := 10) (j := 1) C gwRX4 rfl (by decide) (by decide) iIRX4_1 mFRX4_21 rfl dX4_dispatch_145 h148
  have h144 := az_aload_n C 0 rfl dX4_dispatch_144 h145
  have h142 := az_istore C (by decide) dX4_dispatch_142 h144
  have h141 := az_iald C dX4_dispatch_141 h142
  have h139 := az_iload C dX4_dispatch_139 h141
  have h136 := az_getR (T := TX4) (N := 10) (j := 9) C gwRX4 rfl (by decide) (by decide) iIRX4_9 mFRX4_52 rfl dX4_dispatch_136 h139
  have h135 := az_aload_n C 0 rfl dX4_dispatch_135 h136
  have h132 := az_icmp_ge (tgt := 212) C dX4_dispatch_132 (by decide) h212 h135
  have h129 := az_getI (T := TX8) (N := 11) (j := 3) C gwRX8 rfl (by decide) (by decide) iIRX8_3 mFRX4_96 rfl dX4_dispatch_129 h132
  have h128 := az_aload_n C 1 rfl dX4_dispatch_128 h129
  have h126 := az_iload C dX4_dispatch_126 h128
  exact h126
def LX4_dispatch_126 (Q : Option Value → az_M → Prop) : az_T := s_lp (fun Z => BX4_dispatch_126 Q Z)
theorem okLX4_dispatch_126 {X : az_X} {Q : Option Value → az_M → Prop} (C : az_C X cX4_dispatch 7 RX4 (az_ts yX4_dispatch cX4_dispatch 7 none) ({ frames := 4, cells := 0, slots := 0, locals := 184 } : Room) none Q) : az_ok X 126 (LX4_dispatch_126 Q) := az_loop (F := fun Z => BX4_dispatch_126 Q Z) (fun _ hZ => okBX4_dispatch_126 C hZ)
def LX4_dispatch_117 (Q : Option Value → az_M → Prop) (Z48 : az_T) : az_T := (s_inc 4 (nI 1) (s_kp [true, true, true, false, true, false, false] Z48))
theorem okLX4_dispatch_117 {X : az_X} {Q : Option Value → az_M → Prop} (C : az_C X cX4_dispatch 7 RX4 (az_ts yX4_dispatch cX4_dispatch 7 none) ({ frames := 4, cells := 0, slots := 0, locals := 184 } : Room) none Q) {Z48 : az_T} (hZ48 : az_ok X 48 Z48) : az_ok X 117 (LX4_dispatch_117 Q Z48) := by
  have h120 := az_goto (tgt := 48) C dX4_dispatch_120 (by decide) (az_keep [true, true, true, false, true, false, false] hZ48)
  have h117 := az_iinc (v := (nI 1)) C (by decide) (by decide +kernel) dX4_dispatch_117 h120
  exact h117
def BX4_dispatch_48 (Q : Option Value → az_M → Prop) (Z48 : az_T) : az_T := (s_li 4 (s_la 1 (s_gi 9 3 (s_if2 d_ge (s_ic (nI 0) (s_si 4 (s_kp [true, true, true, false, true, false, false] (LX4_dispatch_126 Q)))) (s_la 0 (s_gr 6 1 (s_li 4 (s_li 2 (s_cv 2 10 FX9_runs (s_if c_eq (s_kp [true, true, true, false, true, false, false] (LX4_dispatch_117 Q Z48)) (s_la 0 (s_gr 6 3 (s_li 4 (s_aa 25 (s_li 2 (s_la 0 (s_gr 6 4 (s_li 4 (s_aa 25 (s_li 2 (s_al 20 (s_as (s_la 0 (s_gr 6 6 (s_li 4 (s_aa 25 (s_li 2 (s_la 0 (s_gr 6 2 (s_la 1 (s_li 2 (s_li 4 (s_la 0 (s_gr 6 4 (s_li 4 (s_aa 25 (s_li 2 (s_al 20 (s_cv 4 3 FX1_deliver (s_as (s_kp [true, true, true, false, true, false, false] (LX4_dispatch_117 Q Z48))))))))))))))))))))))))))))))))))))))))))
theorem okBX4_dispatch_48 {X : az_X} {Q : Option Value → az_M → Prop} (C : az_C X cX4_dispatch 7 RX4 (az_ts yX4_dispatch cX4_dispatch 7 none) ({ frames := 4, cells := 0, slots := 0, locals := 184 } : Room) none Q) {Z48 : az_T} (hZ48 : az_ok X 48 Z48) : az_ok X 48 (BX4_dispatch_48 Q Z48) := by
  have h124 := az_istore C (by decide) dX4_dispatch_124 (az_keep [true, true, true, false, true, false, false] (okLX4_dispatch_126 C))
  have h123 := az_iconst (x := (nI 0)) C dX4_dispatch_123 (by decide +kernel) h124
  have h116 := az_iast C dX4_dispatch_116 (az_keep [true, true, true, false, true, false, false] (okLX4_dispatch_117 C hZ48))
  have h113 := az_callVN (ci := 3) C okX1_deliver knX1_deliver imX1_deliver seX1_deliver mNRX4_106 rfl (by decide) ⟨rfl, rfl, by decide, by decide⟩ dX4_dispatch_113 h116
  have h112 := az_iald C dX4_dispatch_112 h113
  have h111 := az_iload_n C 2 rfl dX4_dispatch_111 h112
  have h110 := az_aald2 C dX4_dispatch_110 h111
  have h108 := az_iload C dX4_dispatch_108 h110
  have h105 := az_getR (T := TX4) (N := 10) (j := 4) C gwRX4 rfl (by decide) (by decide) iIRX4_4 mFRX4_37 rfl dX4_dispatch_105 h108
  have h104 := az_aload_n C 0 rfl dX4_dispatch_104 h105
  have h102 := az_iload C dX4_dispatch_102 h104
  have h101 := az_iload_n C 2 rfl dX4_dispatch_101 h102
  have h100 := az_aload_n C 1 rfl dX4_dispatch_100 h101
  have h97 := az_getR (T := TX4) (N := 10) (j := 2) C gwRX4 rfl (by decide) (by decide) iIRX4_2 mFRX4_28 rfl dX4_dispatch_97 h100
  have h96 := az_aload_n C 0 rfl dX4_dispatch_96 h97
  have h95 := az_iload_n C 2 rfl dX4_dispatch_95 h96
  have h94 := az_aald2 C dX4_dispatch_94 h95
  have h92 := az_iload C dX4_dispatch_92 h94
  have h89 := az_getR (T := TX4) (N := 10) (j := 6) C gwRX4 rfl (by decide) (by decide) iIRX4_6 mFRX4_43 rfl dX4_dispatch_89 h92
  have h88 := az_aload_n C 0 rfl dX4_dispatch_88 h89
  have h87 := az_iast C dX4_dispatch_87 h88
  have h86 := az_iald C dX4_dispatch_86 h87
  have h85 := az_iload_n C 2 rfl dX4_dispatch_85 h86
  have h84 := az_aald2 C dX4_dispatch_84 h85
  have h82 := az_iload C dX4_dispatch_82 h84
  have h79 := az_getR (T := TX4) (N := 10) (j := 4) C gwRX4 rfl (by decide) (by decide) iIRX4_4 mFRX4_37 rfl dX4_dispatch_79 h82
  have h78 := az_aload_n C 0 rfl dX4_dispatch_78 h79
  have h77 := az_iload_n C 2 rfl dX4_dispatch_77 h78
  have h76 := az_aald2 C dX4_dispatch_76 h77
  have h74 := az_iload C dX4_dispatch_74 h76
  have h71 := az_getR (T := TX4) (N := 10) (j := 3) C gwRX4 rfl (by decide) (by decide) iIRX4_3 mFRX4_34 rfl dX4_dispatch_71 h74
  have h70 := az_aload_n C 0 rfl dX4_dispatch_70 h71
  have h67 := az_if_eq (tgt := 117) C dX4_dispatch_67 (by decide) (az_keep [true, true, true, false, true, false, false] (okLX4_dispatch_117 C hZ48)) h70
  have h64 := az_callVN (ci := 10) C okX9_runs knX9_runs imX9_runs seX9_runs mNRX4_102 rfl (by decide) ⟨rfl, rfl, by decide, by decide⟩ dX4_dispatch_64 h67
  have h63 := az_iload_n C 2 rfl dX4_dispatch_63 h64
  have h61 := az_iload C dX4_dispatch_61 h63
  have h58 := az_getR (T := TX4) (N := 10) (j := 1) C gwRX4 rfl (by decide) (by decide) iIRX4_1 mFRX4_21 rfl dX4_dispatch_58 h61
  have h57 := az_aload_n C 0 rfl dX4_dispatch_57 h58
  have h54 := az_icmp_ge (tgt := 123) C dX4_dispatch_54 (by decide) h123 h57
  have h51 := az_getI (T := TX8) (N := 11) (j := 3) C gwRX8 rfl (by decide) (by decide) iIRX8_3 mFRX4_96 rfl dX4_dispatch_51 h54
  have h50 := az_aload_n C 1 rfl dX4_dispatch_50 h51
  have h48 := az_iload C dX4_dispatch_48 h50
  exact h48
def LX4_dispatch_48 (Q : Option Value → az_M → Prop) : az_T := s_lp (fun Z => BX4_dispatch_48 Q Z)
theorem okLX4_dispatch_48 {X : az_X} {Q : Option Value → az_M → Prop} (C : az_C X cX4_dispatch 7 RX4 (az_ts yX4_dispatch cX4_dispatch 7 none) ({ frames := 4, cells := 0, slots := 0, locals := 184 } : Room) none Q) : az_ok X 48 (LX4_dispatch_48 Q) := az_loop (F := fun Z => BX4_dispatch_48 Q Z) (fun _ hZ => okBX4_dispatch_48 C hZ)
def BX4_dispatch_22 (Q : Option Value → az_M → Prop) (Z22 : az_T) : az_T := (s_li 4 (s_la 1 (s_gi 9 3 (s_if2 d_ge (s_ic (nI 0) (s_si 4 (s_kp [true, true, true, false, true, false, false] (LX4_dispatch_48 Q)))) (s_la 0 (s_la 1 (s_li 4 (s_li 2 (s_cv 3 6 FX4_setLimits (s_inc 4 (nI 1) (s_kp [true, true, true, false, true, false, false] Z22)))))))))))
theorem okBX4_dispatch_22 {X : az_X} {Q : Option Value → az_M → Prop} (C : az_C X cX4_dispatch 7 RX4 (az_ts yX4_dispatch cX4_dispatch 7 none) ({ frames := 4, cells := 0, slots := 0, locals := 184 } : Room) none Q) {Z22 : az_T} (hZ22 : az_ok X 22 Z22) : az_ok X 22 (BX4_dispatch_22 Q Z22) := by
  have h46 := az_istore C (by decide) dX4_dispatch_46 (az_keep [true, true, true, false, true, false, false] (okLX4_dispatch_48 C))
  have h45 := az_iconst (x := (nI 0)) C dX4_dispatch_45 (by decide +kernel) h46
  have h42 := az_goto (tgt := 22) C dX4_dispatch_42 (by decide) (az_keep [true, true, true, false, true, false, false] hZ22)
  have h39 := az_iinc (v := (nI 1)) C (by decide) (by decide +kernel) dX4_dispatch_39 h42
  have h36 := az_callV (ci := 6) C okX4_setLimits knX4_setLimits imX4_setLimits seX4_setLimits mLRX4_99 rfl (by decide) ⟨rfl, rfl, by decide, by decide⟩ dX4_dispatch_36 h39
  have h35 := az_iload_n C 2 rfl dX4_dispatch_35 h36
  have h33 := az_iload C dX4_dispatch_33 h35
  have h32 := az_aload_n C 1 rfl dX4_dispatch_32 h33
  have h31 := az_aload_n C 0 rfl dX4_dispatch_31 h32
  have h28 := az_icmp_ge (tgt := 45) C dX4_dispatch_28 (by decide) h45 h31
  have h25 := az_getI (T := TX8) (N := 11) (j := 3) C gwRX8 rfl (by decide) (by decide) iIRX8_3 mFRX4_96 rfl dX4_dispatch_25 h28
  have h24 := az_aload_n C 1 rfl dX4_dispatch_24 h25
  have h22 := az_iload C dX4_dispatch_22 h24
  exact h22
def LX4_dispatch_22 (Q : Option Value → az_M → Prop) : az_T := s_lp (fun Z => BX4_dispatch_22 Q Z)
theorem okLX4_dispatch_22 {X : az_X} {Q : Option Value → az_M → Prop} (C : az_C X cX4_dispatch 7 RX4 (az_ts yX4_dispatch cX4_dispatch 7 none) ({ frames := 4, cells := 0, slots := 0, locals := 184 } : Room) none Q) : az_ok X 22 (LX4_dispatch_22 Q) := az_loop (F := fun Z => BX4_dispatch_22 Q Z) (fun _ hZ => okBX4_dispatch_22 C hZ)
def PX4_dispatch (Q : Option Value → az_M → Prop) : az_T := (s_la 0 (s_gr 6 1 (s_gr 10 0 (s_li 2 (s_li 3 (s_as (s_la 0 (s_gr 6 2 (s_la 1 (s_li 2 (s_cv 2 3 FX1_open (s_ic (nI 0) (s_si 4 (s_kp [true, true, true, false, true, false, false] (LX4_dispatch_22 Q)))))))))))))))
def FX4_dispatch : az_F := az_fun [true, true, false, false] 7 PX4_dispatch
theorem okX4_dispatch (l : Launch) : az_met l yX4_dispatch cX4_dispatch 7 none ({ frames := 4, cells := 0, slots := 0, locals := 184 } : Room) FX4_dispatch := az_met_of (own := RX4) (by decide +kernel) rfl (by decide) (fun X Q C => by
  have h20 := az_istore C (by decide) dX4_dispatch_20 (az_keep [true, true, true, false, true, false, false] (okLX4_dispatch_22 C))
  have h19 := az_iconst (x := (nI 0)) C dX4_dispatch_19 (by decide +kernel) h20
  have h16 := az_callVN (ci := 3) C okX1_open knX1_open imX1_open seX1_open mNRX4_93 rfl (by decide) ⟨rfl, rfl, by decide, by decide⟩ dX4_dispatch_16 h19
  have h15 := az_iload_n C 2 rfl dX4_dispatch_15 h16
  have h14 := az_aload_n C 1 rfl dX4_dispatch_14 h15
  have h11 := az_getR (T := TX4) (N := 10) (j := 2) C gwRX4 rfl (by decide) (by decide) iIRX4_2 mFRX4_28 rfl dX4_dispatch_11 h14
  have h10 := az_aload_n C 0 rfl dX4_dispatch_10 h11
  have h9 := az_iast C dX4_dispatch_9 h10
  have h8 := az_iload_n C 3 rfl dX4_dispatch_8 h9
  have h7 := az_iload_n C 2 rfl dX4_dispatch_7 h8
  have h4 := az_getR (T := TX9) (N := 3) (j := 0) C gwRX9 rfl (by decide) (by decide) iIRX9_0 mFRX4_90 rfl dX4_dispatch_4 h7
  have h1 := az_getR (T := TX4) (N := 10) (j := 1) C gwRX4 rfl (by decide) (by decide) iIRX4_1 mFRX4_21 rfl dX4_dispatch_1 h4
  have h0 := az_aload_n C 0 rfl dX4_dispatch_0 h1
  exact h0) l
theorem dX4_find_0 : decode cX4_find 0 = .ok (.aload_n 0, 1) := by decide +kernel
theorem dX4_find_1 : decode cX4_find 1 = .ok (.aload_n 1, 1) := by decide +kernel
theorem dX4_find_2 : decode cX4_find 2 = .ok (.invokevirtual 56, 3) := by decide +kernel
theorem dX4_find_5 : decode cX4_find 5 = .ok (.iconst 0, 1) := by decide +kernel
theorem dX4_find_6 : decode cX4_find 6 = .ok (.istore_n 2, 1) := by decide +kernel
theorem dX4_find_7 : decode cX4_find 7 = .ok (.iload_n 2, 1) := by decide +kernel
theorem dX4_find_8 : decode cX4_find 8 = .ok (.aload_n 1, 1) := by decide +kernel
theorem dX4_find_9 : decode cX4_find 9 = .ok (.getfield 60, 3) := by decide +kernel
theorem dX4_find_12 : decode cX4_find 12 = .ok (.if_icmp .ge 41, 3) := by decide +kernel
theorem dX4_find_15 : decode cX4_find 15 = .ok (.aload_n 0, 1) := by decide +kernel
theorem dX4_find_16 : decode cX4_find 16 = .ok (.getfield 21, 3) := by decide +kernel
theorem dX4_find_19 : decode cX4_find 19 = .ok (.aload_n 1, 1) := by decide +kernel
theorem dX4_find_20 : decode cX4_find 20 = .ok (.iload_n 2, 1) := by decide +kernel
theorem dX4_find_21 : decode cX4_find 21 = .ok (.invokevirtual 66, 3) := by decide +kernel
theorem dX4_find_24 : decode cX4_find 24 = .ok (.aload_n 0, 1) := by decide +kernel
theorem dX4_find_25 : decode cX4_find 25 = .ok (.aload_n 1, 1) := by decide +kernel
theorem dX4_find_26 : decode cX4_find 26 = .ok (.iload_n 2, 1) := by decide +kernel
theorem dX4_find_27 : decode cX4_find 27 = .ok (.aload_n 1, 1) := by decide +kernel
theorem dX4_find_28 : decode cX4_find 28 = .ok (.iload_n 2, 1) := by decide +kernel
theorem dX4_find_29 : decode cX4_find 29 = .ok (.invokevirtual 70, 3) := by decide +kernel
theorem dX4_find_32 : decode cX4_find 32 = .ok (.aload_n 0, 1) := by decide +kernel
theorem dX4_find_33 : decode cX4_find 33 = .ok (.getfield 12, 3) := by decide +kernel
theorem dX4_find_36 : decode cX4_find 36 = .ok (.getfield 74, 3) := by decide +kernel
theorem dX4_find_39 : decode cX4_find 39 = .ok (.iload_n 2, 1) := by decide +kernel
theorem dX4_find_40 : decode cX4_find 40 = .ok (.iaload, 1) := by decide +kernel
theorem dX4_find_41 : decode cX4_find 41 = .ok (.iconst (-1), 1) := by decide +kernel
theorem dX4_find_42 : decode cX4_find 42 = .ok (.ixor, 1) := by decide +kernel
theorem dX4_find_43 : decode cX4_find 43 = .ok (.iand, 1) := by decide +kernel
theorem dX4_find_44 : decode cX4_find 44 = .ok (.invokevirtual 77, 3) := by decide +kernel
theorem dX4_find_47 : decode cX4_find 47 = .ok (.iinc 2 1, 3) := by decide +kernel
theorem dX4_find_50 : decode cX4_find 50 = .ok (.goto (-43), 3) := by decide +kernel
theorem dX4_find_53 : decode cX4_find 53 = .ok (.return_, 1) := by decide +kernel
def BX4_find_7 (Q : Option Value → az_M → Prop) (Z7 : az_T) : az_T := (s_li 2 (s_la 1 (s_gi 9 0 (s_if2 d_ge (s_rv Q) (s_la 0 (s_gr 6 1 (s_la 1 (s_li 2 (s_cv 2 10 FX9_advance (s_la 0 (s_la 1 (s_li 2 (s_la 1 (s_li 2 (s_cv 1 9 FX8_plannedIn (s_la 0 (s_gr 6 0 (s_gr 2 2 (s_li 2 (s_al 20 (s_ic (-1) (s_bin f_xor (s_bin f_and (s_cv 3 6 FX4_dispatch (s_inc 2 (nI 1) (s_kp [true, true, true] Z7))))))))))))))))))))))))))
theorem okBX4_find_7 {X : az_X} {Q : Option Value → az_M → Prop} (C : az_C X cX4_find 3 RX4 (az_ts yX4_find cX4_find 3 none) ({ frames := 5, cells := 0, slots := 0, locals := 210 } : Room) none Q) {Z7 : az_T} (hZ7 : az_ok X 7 Z7) : az_ok X 7 (BX4_find_7 Q Z7) := by
  have h53 := az_vreturn C rfl dX4_find_53
  have h50 := az_goto (tgt := 7) C dX4_find_50 (by decide) (az_keep [true, true, true] hZ7)
  have h47 := az_iinc (v := (nI 1)) C (by decide) (by decide +kernel) dX4_find_47 h50
  have h44 := az_callV (ci := 6) C okX4_dispatch knX4_dispatch imX4_dispatch seX4_dispatch mLRX4_77 rfl (by decide) ⟨rfl, rfl, by decide, by decide⟩ dX4_find_44 h47
  have h43 := az_iand C dX4_find_43 h44
  have h42 := az_ixor C dX4_find_42 h43
  have h41 := az_iconst (x := (-1)) C dX4_find_41 (by decide +kernel) h42
  have h40 := az_iald C dX4_find_40 h41
  have h39 := az_iload_n C 2 rfl dX4_find_39 h40
  have h36 := az_getR (T := TX0) (N := 3) (j := 2) C gwRX0 rfl (by decide) (by decide) iIRX0_2 mFRX4_74 rfl dX4_find_36 h39
  have h33 := az_getR (T := TX4) (N := 10) (j := 0) C gwRX4 rfl (by decide) (by decide) iIRX4_0 mFRX4_12 rfl dX4_find_33 h36
  have h32 := az_aload_n C 0 rfl dX4_find_32 h33
  have h29 := az_callVN (ci := 9) C okX8_plannedIn knX8_plannedIn imX8_plannedIn seX8_plannedIn mNRX4_70 rfl (by decide) ⟨rfl, rfl, by decide, by decide⟩ dX4_find_29 h32
  have h28 := az_iload_n C 2 rfl dX4_find_28 h29
  have h27 := az_aload_n C 1 rfl dX4_find_27 h28
  have h26 := az_iload_n C 2 rfl dX4_find_26 h27
  have h25 := az_aload_n C 1 rfl dX4_find_25 h26
  have h24 := az_aload_n C 0 rfl dX4_find_24 h25
  have h21 := az_callVN (ci := 10) C okX9_advance knX9_advance imX9_advance seX9_advance mNRX4_66 rfl (by decide) ⟨rfl, rfl, by decide, by decide⟩ dX4_find_21 h24
  have h20 := az_iload_n C 2 rfl dX4_find_20 h21
  have h19 := az_aload_n C 1 rfl dX4_find_19 h20
  have h16 := az_getR (T := TX4) (N := 10) (j := 1) C gwRX4 rfl (by decide) (by decide) iIRX4_1 mFRX4_21 rfl dX4_find_16 h19
  have h15 := az_aload_n C 0 rfl dX4_find_15 h16
  have h12 := az_icmp_ge (tgt := 53) C dX4_find_12 (by decide) h53 h15
  have h9 := az_getI (T := TX8) (N := 11) (j := 0) C gwRX8 rfl (by decide) (by decide) iIRX8_0 mFRX4_60 rfl dX4_find_9 h12
  have h8 := az_aload_n C 1 rfl dX4_find_8 h9
  have h7 := az_iload_n C 2 rfl dX4_find_7 h8
  exact h7
def LX4_find_7 (Q : Option Value → az_M → Prop) : az_T := s_lp (fun Z => BX4_find_7 Q Z)
theorem okLX4_find_7 {X : az_X} {Q : Option Value → az_M → Prop} (C : az_C X cX4_find 3 RX4 (az_ts yX4_find cX4_find 3 none) ({ frames := 5, cells := 0, slots := 0, locals := 210 } : Room) none Q) : az_ok X 7 (LX4_find_7 Q) := az_loop (F := fun Z => BX4_find_7 Q Z) (fun _ hZ => okBX4_find_7 C hZ)
def PX4_find (Q : Option Value → az_M → Prop) : az_T := (s_la 0 (s_la 1 (s_cv 1 6 FX4_prepare (s_ic (nI 0) (s_si 2 (s_kp [true, true, true] (LX4_find_7 Q)))))))
def FX4_find : az_F := az_fun [true, true] 3 PX4_find
theorem okX4_find (l : Launch) : az_met l yX4_find cX4_find 3 none ({ frames := 5, cells := 0, slots := 0, locals := 210 } : Room) FX4_find := az_met_of (own := RX4) (by decide +kernel) rfl (by decide) (fun X Q C => by
  have h6 := az_istore_n C 2 rfl (by decide) dX4_find_6 (az_keep [true, true, true] (okLX4_find_7 C))
  have h5 := az_iconst (x := (nI 0)) C dX4_find_5 (by decide +kernel) h6
  have h2 := az_callV (ci := 6) C okX4_prepare knX4_prepare imX4_prepare seX4_prepare mLRX4_56 rfl (by decide) ⟨rfl, rfl, by decide, by decide⟩ dX4_find_2 h5
  have h1 := az_aload_n C 1 rfl dX4_find_1 h2
  have h0 := az_aload_n C 0 rfl dX4_find_0 h1
  exact h0) l
theorem dX5_add_0 : decode cX5_add 0 = .ok (.aload_n 0, 1) := by decide +kernel
theorem dX5_add_1 : decode cX5_add 1 = .ok (.getfield 15, 3) := by decide +kernel
theorem dX5_add_4 : decode cX5_add 4 = .ok (.bipush 100, 2) := by decide +kernel
theorem dX5_add_6 : decode cX5_add 6 = .ok (.if_icmp .ge 23, 3) := by decide +kernel
theorem dX5_add_9 : decode cX5_add 9 = .ok (.aload_n 0, 1) := by decide +kernel
theorem dX5_add_10 : decode cX5_add 10 = .ok (.getfield 9, 3) := by decide +kernel
theorem dX5_add_13 : decode cX5_add 13 = .ok (.aload_n 0, 1) := by decide +kernel
theorem dX5_add_14 : decode cX5_add 14 = .ok (.getfield 15, 3) := by decide +kernel
theorem dX5_add_17 : decode cX5_add 17 = .ok (.iload_n 1, 1) := by decide +kernel
theorem dX5_add_18 : decode cX5_add 18 = .ok (.castore, 1) := by decide +kernel
theorem dX5_add_19 : decode cX5_add 19 = .ok (.aload_n 0, 1) := by decide +kernel
theorem dX5_add_20 : decode cX5_add 20 = .ok (.dup, 1) := by decide +kernel
theorem dX5_add_21 : decode cX5_add 21 = .ok (.getfield 15, 3) := by decide +kernel
theorem dX5_add_24 : decode cX5_add 24 = .ok (.iconst 1, 1) := by decide +kernel
theorem dX5_add_25 : decode cX5_add 25 = .ok (.iadd, 1) := by decide +kernel
theorem dX5_add_26 : decode cX5_add 26 = .ok (.putfield 15, 3) := by decide +kernel
theorem dX5_add_29 : decode cX5_add 29 = .ok (.return_, 1) := by decide +kernel
def LX5_add_29 (Q : Option Value → az_M → Prop) : az_T := (s_rv Q)
theorem okLX5_add_29 {X : az_X} {Q : Option Value → az_M → Prop} (C : az_C X cX5_add 2 RX5 (az_ts yX5_add cX5_add 2 none) ({ frames := 1, cells := 0, slots := 0, locals := 100 } : Room) none Q) : az_ok X 29 (LX5_add_29 Q) := by
  have h29 := az_vreturn C rfl dX5_add_29
  exact h29
def PX5_add (Q : Option Value → az_M → Prop) : az_T := (s_la 0 (s_gi 7 1 (s_ic (nI 100) (s_if2 d_ge (s_kp [false, false] (LX5_add_29 Q)) (s_la 0 (s_gr 7 0 (s_la 0 (s_gi 7 1 (s_li 1 (s_ac (s_la 0 (s_dup (s_gi 7 1 (s_ic (nI 1) (s_bin f_add (s_pi 7 1 (s_kp [false, false] (LX5_add_29 Q))))))))))))))))))
def FX5_add : az_F := az_fun [true, false] 2 PX5_add
theorem okX5_add (l : Launch) : az_met l yX5_add cX5_add 2 none ({ frames := 1, cells := 0, slots := 0, locals := 100 } : Room) FX5_add := az_met_of (own := RX5) (by decide +kernel) rfl (by decide) (fun X Q C => by
  have h26 := az_putI (T := TX5) (N := 3) (j := 1) C gwRX5 rfl (by decide) (by decide) tyX5 tyX5_ok nmX5 iIRX5_1 (by decide +kernel) rfl mFRX5_15 rfl dX5_add_26 (az_keep [false, false] (okLX5_add_29 C))
  have h25 := az_iadd C dX5_add_25 h26
  have h24 := az_iconst (x := (nI 1)) C dX5_add_24 (by decide +kernel) h25
  have h21 := az_getI (T := TX5) (N := 3) (j := 1) C gwRX5 rfl (by decide) (by decide) iIRX5_1 mFRX5_15 rfl dX5_add_21 h24
  have h20 := az_dup C dX5_add_20 h21
  have h19 := az_aload_n C 0 rfl dX5_add_19 h20
  have h18 := az_cast C dX5_add_18 h19
  have h17 := az_iload_n C 1 rfl dX5_add_17 h18
  have h14 := az_getI (T := TX5) (N := 3) (j := 1) C gwRX5 rfl (by decide) (by decide) iIRX5_1 mFRX5_15 rfl dX5_add_14 h17
  have h13 := az_aload_n C 0 rfl dX5_add_13 h14
  have h10 := az_getR (T := TX5) (N := 3) (j := 0) C gwRX5 rfl (by decide) (by decide) iIRX5_0 mFRX5_9 rfl dX5_add_10 h13
  have h9 := az_aload_n C 0 rfl dX5_add_9 h10
  have h6 := az_icmp_ge (tgt := 29) C dX5_add_6 (by decide) (az_keep [false, false] (okLX5_add_29 C)) h9
  have h4 := az_bipush (x := (nI 100)) C dX5_add_4 (by decide +kernel) h6
  have h1 := az_getI (T := TX5) (N := 3) (j := 1) C gwRX5 rfl (by decide) (by decide) iIRX5_1 mFRX5_15 rfl dX5_add_1 h4
  have h0 := az_aload_n C 0 rfl dX5_add_0 h1
  exact h0) l
theorem dX5_fits_0 : decode cX5_fits 0 = .ok (.iload_n 1, 1) := by decide +kernel
theorem dX5_fits_1 : decode cX5_fits 1 = .ok (.ifCond .ne 21, 3) := by decide +kernel
theorem dX5_fits_4 : decode cX5_fits 4 = .ok (.iload_n 0, 1) := by decide +kernel
theorem dX5_fits_5 : decode cX5_fits 5 = .ok (.bipush 48, 2) := by decide +kernel
theorem dX5_fits_7 : decode cX5_fits 7 = .ok (.if_icmp .lt 13, 3) := by decide +kernel
theorem dX5_fits_10 : decode cX5_fits 10 = .ok (.iload_n 0, 1) := by decide +kernel
theorem dX5_fits_11 : decode cX5_fits 11 = .ok (.bipush 53, 2) := by decide +kernel
theorem dX5_fits_13 : decode cX5_fits 13 = .ok (.if_icmp .gt 7, 3) := by decide +kernel
theorem dX5_fits_16 : decode cX5_fits 16 = .ok (.iconst 1, 1) := by decide +kernel
theorem dX5_fits_17 : decode cX5_fits 17 = .ok (.goto 4, 3) := by decide +kernel
theorem dX5_fits_20 : decode cX5_fits 20 = .ok (.iconst 0, 1) := by decide +kernel
theorem dX5_fits_21 : decode cX5_fits 21 = .ok (.ireturn, 1) := by decide +kernel
theorem dX5_fits_22 : decode cX5_fits 22 = .ok (.iload_n 1, 1) := by decide +kernel
theorem dX5_fits_23 : decode cX5_fits 23 = .ok (.iconst 1, 1) := by decide +kernel
theorem dX5_fits_24 : decode cX5_fits 24 = .ok (.if_icmp .ne 15, 3) := by decide +kernel
theorem dX5_fits_27 : decode cX5_fits 27 = .ok (.iload_n 0, 1) := by decide +kernel
theorem dX5_fits_28 : decode cX5_fits 28 = .ok (.bipush 61, 2) := by decide +kernel
theorem dX5_fits_30 : decode cX5_fits 30 = .ok (.if_icmp .ne 7, 3) := by decide +kernel
theorem dX5_fits_33 : decode cX5_fits 33 = .ok (.iconst 1, 1) := by decide +kernel
theorem dX5_fits_34 : decode cX5_fits 34 = .ok (.goto 4, 3) := by decide +kernel
theorem dX5_fits_37 : decode cX5_fits 37 = .ok (.iconst 0, 1) := by decide +kernel
theorem dX5_fits_38 : decode cX5_fits 38 = .ok (.ireturn, 1) := by decide +kernel
theorem dX5_fits_39 : decode cX5_fits 39 = .ok (.iload_n 1, 1) := by decide +kernel
theorem dX5_fits_40 : decode cX5_fits 40 = .ok (.iload_n 2, 1) := by decide +kernel
theorem dX5_fits_41 : decode cX5_fits 41 = .ok (.iconst 2, 1) := by decide +kernel
theorem dX5_fits_42 : decode cX5_fits 42 = .ok (.iadd, 1) := by decide +kernel
theorem dX5_fits_43 : decode cX5_fits 43 = .ok (.if_icmp .ge 23, 3) := by decide +kernel
theorem dX5_fits_46 : decode cX5_fits 46 = .ok (.iload_n 0, 1) := by decide +kernel
theorem dX5_fits_47 : decode cX5_fits 47 = .ok (.bipush 48, 2) := by decide +kernel
theorem dX5_fits_49 : decode cX5_fits 49 = .ok (.if_icmp .eq 9, 3) := by decide +kernel
theorem dX5_fits_52 : decode cX5_fits 52 = .ok (.iload_n 0, 1) := by decide +kernel
theorem dX5_fits_53 : decode cX5_fits 53 = .ok (.bipush 49, 2) := by decide +kernel
theorem dX5_fits_55 : decode cX5_fits 55 = .ok (.if_icmp .ne 7, 3) := by decide +kernel
theorem dX5_fits_58 : decode cX5_fits 58 = .ok (.iconst 1, 1) := by decide +kernel
theorem dX5_fits_59 : decode cX5_fits 59 = .ok (.goto 18, 3) := by decide +kernel
theorem dX5_fits_62 : decode cX5_fits 62 = .ok (.iconst 0, 1) := by decide +kernel
theorem dX5_fits_63 : decode cX5_fits 63 = .ok (.goto 14, 3) := by decide +kernel
theorem dX5_fits_66 : decode cX5_fits 66 = .ok (.iload_n 0, 1) := by decide +kernel
theorem dX5_fits_67 : decode cX5_fits 67 = .ok (.bipush 59, 2) := by decide +kernel
theorem dX5_fits_69 : decode cX5_fits 69 = .ok (.if_icmp .ne 7, 3) := by decide +kernel
theorem dX5_fits_72 : decode cX5_fits 72 = .ok (.iconst 1, 1) := by decide +kernel
theorem dX5_fits_73 : decode cX5_fits 73 = .ok (.goto 4, 3) := by decide +kernel
theorem dX5_fits_76 : decode cX5_fits 76 = .ok (.iconst 0, 1) := by decide +kernel
theorem dX5_fits_77 : decode cX5_fits 77 = .ok (.ireturn, 1) := by decide +kernel
def LX5_fits_77 (Q : Option Value → az_M → Prop) : az_T := (s_rz Q)
theorem okLX5_fits_77 {X : az_X} {Q : Option Value → az_M → Prop} (C : az_C X cX5_fits 3 RX5 (az_ts yX5_fits cX5_fits 3 (some .boolean)) ({ frames := 1, cells := 0, slots := 0, locals := 100 } : Room) (some .boolean) Q) : az_ok X 77 (LX5_fits_77 Q) := by
  have h77 := az_zreturn C rfl dX5_fits_77
  exact h77
def LX5_fits_58 (Q : Option Value → az_M → Prop) : az_T := (s_ic (nI 1) (s_kp [false, false, false] (LX5_fits_77 Q)))
theorem okLX5_fits_58 {X : az_X} {Q : Option Value → az_M → Prop} (C : az_C X cX5_fits 3 RX5 (az_ts yX5_fits cX5_fits 3 (some .boolean)) ({ frames := 1, cells := 0, slots := 0, locals := 100 } : Room) (some .boolean) Q) : az_ok X 58 (LX5_fits_58 Q) := by
  have h59 := az_goto (tgt := 77) C dX5_fits_59 (by decide) (az_keep [false, false, false] (okLX5_fits_77 C))
  have h58 := az_iconst (x := (nI 1)) C dX5_fits_58 (by decide +kernel) h59
  exact h58
def LX5_fits_38 (Q : Option Value → az_M → Prop) : az_T := (s_rz Q)
theorem okLX5_fits_38 {X : az_X} {Q : Option Value → az_M → Prop} (C : az_C X cX5_fits 3 RX5 (az_ts yX5_fits cX5_fits 3 (some .boolean)) ({ frames := 1, cells := 0, slots := 0, locals := 100 } : Room) (some .boolean) Q) : az_ok X 38 (LX5_fits_38 Q) := by
  have h38 := az_zreturn C rfl dX5_fits_38
  exact h38
def LX5_fits_21 (Q : Option Value → az_M → Prop) : az_T := (s_rz Q)
theorem okLX5_fits_21 {X : az_X} {Q : Option Value → az_M → Prop} (C : az_C X cX5_fits 3 RX5 (az_ts yX5_fits cX5_fits 3 (some .boolean)) ({ frames := 1, cells := 0, slots := 0, locals := 100 } : Room) (some .boolean) Q) : az_ok X 21 (LX5_fits_21 Q) := by
  have h21 := az_zreturn C rfl dX5_fits_21
  exact h21
def LX5_fits_20 (Q : Option Value → az_M → Prop) : az_T := (s_ic (nI 0) (s_kp [false, false, false] (LX5_fits_21 Q)))
theorem okLX5_fits_20 {X : az_X} {Q : Option Value → az_M → Prop} (C : az_C X cX5_fits 3 RX5 (az_ts yX5_fits cX5_fits 3 (some .boolean)) ({ frames := 1, cells := 0, slots := 0, locals := 100 } : Room) (some .boolean) Q) : az_ok X 20 (LX5_fits_20 Q) := by
  have h20 := az_iconst (x := (nI 0)) C dX5_fits_20 (by decide +kernel) (az_keep [false, false, false] (okLX5_fits_21 C))
  exact h20
def PX5_fits (Q : Option Value → az_M → Prop) : az_T := (s_li 1 (s_if c_ne (s_li 1 (s_ic (nI 1) (s_if2 d_ne (s_li 1 (s_li 2 (s_ic (nI 2) (s_bin f_add (s_if2 d_ge (s_li 0 (s_ic (nI 59) (s_if2 d_ne (s_ic (nI 0) (s_kp [false, false, false] (LX5_fits_77 Q))) (s_ic (nI 1) (s_kp [false, false, false] (LX5_fits_77 Q)))))) (s_li 0 (s_ic (nI 48) (s_if2 d_eq (s_kp [false, false, false] (LX5_fits_58 Q)) (s_li 0 (s_ic (nI 49) (s_if2 d_ne (s_ic (nI 0) (s_kp [false, false, false] (LX5_fits_77 Q))) (s_kp [false, false, false] (LX5_fits_58 Q))))))))))))) (s_li 0 (s_ic (nI 61) (s_if2 d_ne (s_ic (nI 0) (s_kp [false, false, false] (LX5_fits_38 Q))) (s_ic (nI 1) (s_kp [false, false, false] (LX5_fits_38 Q))))))))) (s_li 0 (s_ic (nI 48) (s_if2 d_lt (s_kp [false, false, false] (LX5_fits_20 Q)) (s_li 0 (s_ic (nI 53) (s_if2 d_gt (s_kp [false, false, false] (LX5_fits_20 Q)) (s_ic (nI 1) (s_kp [false, false, false] (LX5_fits_21 Q)))))))))))
def FX5_fits : az_F := az_fun [false, false, false] 3 PX5_fits
theorem okX5_fits (l : Launch) : az_met l yX5_fits cX5_fits 3 (some .boolean) ({ frames := 1, cells := 0, slots := 0, locals := 100 } : Room) FX5_fits := az_met_of (own := RX5) (by decide +kernel) rfl (by decide) (fun X Q C => by
  have h76 := az_iconst (x := (nI 0)) C dX5_fits_76 (by decide +kernel) (az_keep [false, false, false] (okLX5_fits_77 C))
  have h73 := az_goto (tgt := 77) C dX5_fits_73 (by decide) (az_keep [false, false, false] (okLX5_fits_77 C))
  have h72 := az_iconst (x := (nI 1)) C dX5_fits_72 (by decide +kernel) h73
  have h69 := az_icmp_ne (tgt := 76) C dX5_fits_69 (by decide) h76 h72
  have h67 := az_bipush (x := (nI 59)) C dX5_fits_67 (by decide +kernel) h69
  have h66 := az_iload_n C 0 rfl dX5_fits_66 h67
  have h63 := az_goto (tgt := 77) C dX5_fits_63 (by decide) (az_keep [false, false, false] (okLX5_fits_77 C))
  have h62 := az_iconst (x := (nI 0)) C dX5_fits_62 (by decide +kernel) h63
  have h55 := az_icmp_ne (tgt := 62) C dX5_fits_55 (by decide) h62 (az_keep [false, false, false] (okLX5_fits_58 C))
  have h53 := az_bipush (x := (nI 49)) C dX5_fits_53 (by decide +kernel) h55
  have h52 := az_iload_n C 0 rfl dX5_fits_52 h53
  have h49 := az_icmp_eq (tgt := 58) C dX5_fits_49 (by decide) (az_keep [false, false, false] (okLX5_fits_58 C)) h52
  have h47 := az_bipush (x := (nI 48)) C dX5_fits_47 (by decide +kernel) h49
  have h46 := az_iload_n C 0 rfl dX5_fits_46 h47
  have h43 := az_icmp_ge (tgt := 66) C dX5_fits_43 (by decide) h66 h46
  have h42 := az_iadd C dX5_fits_42 h43
  have h41 := az_iconst (x := (nI 2)) C dX5_fits_41 (by decide +kernel) h42
  have h40 := az_iload_n C 2 rfl dX5_fits_40 h41
  have h39 := az_iload_n C 1 rfl dX5_fits_39 h40
  have h37 := az_iconst (x := (nI 0)) C dX5_fits_37 (by decide +kernel) (az_keep [false, false, false] (okLX5_fits_38 C))
  have h34 := az_goto (tgt := 38) C dX5_fits_34 (by decide) (az_keep [false, false, false] (okLX5_fits_38 C))
  have h33 := az_iconst (x := (nI 1)) C dX5_fits_33 (by decide +kernel) h34
  have h30 := az_icmp_ne (tgt := 37) C dX5_fits_30 (by decide) h37 h33
  have h28 := az_bipush (x := (nI 61)) C dX5_fits_28 (by decide +kernel) h30
  have h27 := az_iload_n C 0 rfl dX5_fits_27 h28
  have h24 := az_icmp_ne (tgt := 39) C dX5_fits_24 (by decide) h39 h27
  have h23 := az_iconst (x := (nI 1)) C dX5_fits_23 (by decide +kernel) h24
  have h22 := az_iload_n C 1 rfl dX5_fits_22 h23
  have h17 := az_goto (tgt := 21) C dX5_fits_17 (by decide) (az_keep [false, false, false] (okLX5_fits_21 C))
  have h16 := az_iconst (x := (nI 1)) C dX5_fits_16 (by decide +kernel) h17
  have h13 := az_icmp_gt (tgt := 20) C dX5_fits_13 (by decide) (az_keep [false, false, false] (okLX5_fits_20 C)) h16
  have h11 := az_bipush (x := (nI 53)) C dX5_fits_11 (by decide +kernel) h13
  have h10 := az_iload_n C 0 rfl dX5_fits_10 h11
  have h7 := az_icmp_lt (tgt := 20) C dX5_fits_7 (by decide) (az_keep [false, false, false] (okLX5_fits_20 C)) h10
  have h5 := az_bipush (x := (nI 48)) C dX5_fits_5 (by decide +kernel) h7
  have h4 := az_iload_n C 0 rfl dX5_fits_4 h5
  have h1 := az_if_ne (tgt := 22) C dX5_fits_1 (by decide) h22 h4
  have h0 := az_iload_n C 1 rfl dX5_fits_0 h1
  exact h0) l
theorem dX5_isWellFormed_0 : decode cX5_isWellFormed 0 = .ok (.iload_n 1, 1) := by decide +kernel
theorem dX5_isWellFormed_1 : decode cX5_isWellFormed 1 = .ok (.iconst 3, 1) := by decide +kernel
theorem dX5_isWellFormed_2 : decode cX5_isWellFormed 2 = .ok (.iadd, 1) := by decide +kernel
theorem dX5_isWellFormed_3 : decode cX5_isWellFormed 3 = .ok (.istore_n 2, 1) := by decide +kernel
theorem dX5_isWellFormed_4 : decode cX5_isWellFormed 4 = .ok (.iconst 0, 1) := by decide +kernel
theorem dX5_isWellFormed_5 : decode cX5_isWellFormed 5 = .ok (.istore_n 3, 1) := by decide +kernel
theorem dX5_isWellFormed_6 : decode cX5_isWellFormed 6 = .ok (.iload_n 3, 1) := by decide +kernel
theorem dX5_isWellFormed_7 : decode cX5_isWellFormed 7 = .ok (.aload_n 0, 1) := by decide +kernel
theorem dX5_isWellFormed_8 : decode cX5_isWellFormed 8 = .ok (.getfield 15, 3) := by decide +kernel
theorem dX5_isWellFormed_11 : decode cX5_isWellFormed 11 = .ok (.if_icmp .ge 32, 3) := by decide +kernel
theorem dX5_isWellFormed_14 : decode cX5_isWellFormed 14 = .ok (.aload_n 0, 1) := by decide +kernel
theorem dX5_isWellFormed_15 : decode cX5_isWellFormed 15 = .ok (.getfield 9, 3) := by decide +kernel
theorem dX5_isWellFormed_18 : decode cX5_isWellFormed 18 = .ok (.iload_n 3, 1) := by decide +kernel
theorem dX5_isWellFormed_19 : decode cX5_isWellFormed 19 = .ok (.caload, 1) := by decide +kernel
theorem dX5_isWellFormed_20 : decode cX5_isWellFormed 20 = .ok (.iload_n 3, 1) := by decide +kernel
theorem dX5_isWellFormed_21 : decode cX5_isWellFormed 21 = .ok (.iload_n 2, 1) := by decide +kernel
theorem dX5_isWellFormed_22 : decode cX5_isWellFormed 22 = .ok (.irem, 1) := by decide +kernel
theorem dX5_isWellFormed_23 : decode cX5_isWellFormed 23 = .ok (.iload_n 1, 1) := by decide +kernel
theorem dX5_isWellFormed_24 : decode cX5_isWellFormed 24 = .ok (.invokestatic 22, 3) := by decide +kernel
theorem dX5_isWellFormed_27 : decode cX5_isWellFormed 27 = .ok (.ifCond .ne 10, 3) := by decide +kernel
theorem dX5_isWellFormed_30 : decode cX5_isWellFormed 30 = .ok (.aload_n 0, 1) := by decide +kernel
theorem dX5_isWellFormed_31 : decode cX5_isWellFormed 31 = .ok (.iload_n 3, 1) := by decide +kernel
theorem dX5_isWellFormed_32 : decode cX5_isWellFormed 32 = .ok (.putfield 19, 3) := by decide +kernel
theorem dX5_isWellFormed_35 : decode cX5_isWellFormed 35 = .ok (.iconst 0, 1) := by decide +kernel
theorem dX5_isWellFormed_36 : decode cX5_isWellFormed 36 = .ok (.ireturn, 1) := by decide +kernel
theorem dX5_isWellFormed_37 : decode cX5_isWellFormed 37 = .ok (.iinc 3 1, 3) := by decide +kernel
theorem dX5_isWellFormed_40 : decode cX5_isWellFormed 40 = .ok (.goto (-34), 3) := by decide +kernel
theorem dX5_isWellFormed_43 : decode cX5_isWellFormed 43 = .ok (.aload_n 0, 1) := by decide +kernel
theorem dX5_isWellFormed_44 : decode cX5_isWellFormed 44 = .ok (.getfield 15, 3) := by decide +kernel
theorem dX5_isWellFormed_47 : decode cX5_isWellFormed 47 = .ok (.iload_n 2, 1) := by decide +kernel
theorem dX5_isWellFormed_48 : decode cX5_isWellFormed 48 = .ok (.irem, 1) := by decide +kernel
theorem dX5_isWellFormed_49 : decode cX5_isWellFormed 49 = .ok (.iload_n 1, 1) := by decide +kernel
theorem dX5_isWellFormed_50 : decode cX5_isWellFormed 50 = .ok (.iconst 2, 1) := by decide +kernel
theorem dX5_isWellFormed_51 : decode cX5_isWellFormed 51 = .ok (.iadd, 1) := by decide +kernel
theorem dX5_isWellFormed_52 : decode cX5_isWellFormed 52 = .ok (.if_icmp .eq 13, 3) := by decide +kernel
theorem dX5_isWellFormed_55 : decode cX5_isWellFormed 55 = .ok (.aload_n 0, 1) := by decide +kernel
theorem dX5_isWellFormed_56 : decode cX5_isWellFormed 56 = .ok (.aload_n 0, 1) := by decide +kernel
theorem dX5_isWellFormed_57 : decode cX5_isWellFormed 57 = .ok (.getfield 15, 3) := by decide +kernel
theorem dX5_isWellFormed_60 : decode cX5_isWellFormed 60 = .ok (.putfield 19, 3) := by decide +kernel
theorem dX5_isWellFormed_63 : decode cX5_isWellFormed 63 = .ok (.iconst 0, 1) := by decide +kernel
theorem dX5_isWellFormed_64 : decode cX5_isWellFormed 64 = .ok (.ireturn, 1) := by decide +kernel
theorem dX5_isWellFormed_65 : decode cX5_isWellFormed 65 = .ok (.iconst 1, 1) := by decide +kernel
theorem dX5_isWellFormed_66 : decode cX5_isWellFormed 66 = .ok (.ireturn, 1) := by decide +kernel
def BX5_isWellFormed_6 (Q : Option Value → az_M → Prop) (Z6 : az_T) : az_T := (s_li 3 (s_la 0 (s_gi 7 1 (s_if2 d_ge (s_la 0 (s_gi 7 1 (s_li 2 (s_rem (s_li 1 (s_ic (nI 2) (s_bin f_add (s_if2 d_eq (s_ic (nI 1) (s_rz Q)) (s_la 0 (s_la 0 (s_gi 7 1 (s_pi 7 2 (s_ic (nI 0) (s_rz Q)))))))))))))) (s_la 0 (s_gr 7 0 (s_li 3 (s_al 22 (s_li 3 (s_li 2 (s_rem (s_li 1 (s_cs 3 FX5_fits (s_if c_ne (s_inc 3 (nI 1) (s_kp [true, true, true, true] Z6)) (s_la 0 (s_li 3 (s_pi 7 2 (s_ic (nI 0) (s_rz Q)))))))))))))))))))
theorem okBX5_isWellFormed_6 {X : az_X} {Q : Option Value → az_M → Prop} (C : az_C X cX5_isWellFormed 4 RX5 (az_ts yX5_isWellFormed cX5_isWellFormed 4 (some .boolean)) ({ frames := 2, cells := 0, slots := 0, locals := 122 } : Room) (some .boolean) Q) {Z6 : az_T} (hZ6 : az_ok X 6 Z6) : az_ok X 6 (BX5_isWellFormed_6 Q Z6) := by
  have h66 := az_zreturn C rfl dX5_isWellFormed_66
  have h65 := az_iconst (x := (nI 1)) C dX5_isWellFormed_65 (by decide +kernel) h66
  have h64 := az_zreturn C rfl dX5_isWellFormed_64
  have h63 := az_iconst (x := (nI 0)) C dX5_isWellFormed_63 (by decide +kernel) h64
  have h60 := az_putI (T := TX5) (N := 3) (j := 2) C gwRX5 rfl (by decide) (by decide) tyX5 tyX5_ok nmX5 iIRX5_2 (by decide +kernel) rfl mFRX5_19 rfl dX5_isWellFormed_60 h63
  have h57 := az_getI (T := TX5) (N := 3) (j := 1) C gwRX5 rfl (by decide) (by decide) iIRX5_1 mFRX5_15 rfl dX5_isWellFormed_57 h60
  have h56 := az_aload_n C 0 rfl dX5_isWellFormed_56 h57
  have h55 := az_aload_n C 0 rfl dX5_isWellFormed_55 h56
  have h52 := az_icmp_eq (tgt := 65) C dX5_isWellFormed_52 (by decide) h65 h55
  have h51 := az_iadd C dX5_isWellFormed_51 h52
  have h50 := az_iconst (x := (nI 2)) C dX5_isWellFormed_50 (by decide +kernel) h51
  have h49 := az_iload_n C 1 rfl dX5_isWellFormed_49 h50
  have h48 := az_irem C dX5_isWellFormed_48 h49
  have h47 := az_iload_n C 2 rfl dX5_isWellFormed_47 h48
  have h44 := az_getI (T := TX5) (N := 3) (j := 1) C gwRX5 rfl (by decide) (by decide) iIRX5_1 mFRX5_15 rfl dX5_isWellFormed_44 h47
  have h43 := az_aload_n C 0 rfl dX5_isWellFormed_43 h44
  have h40 := az_goto (tgt := 6) C dX5_isWellFormed_40 (by decide) (az_keep [true, true, true, true] hZ6)
  have h37 := az_iinc (v := (nI 1)) C (by decide) (by decide +kernel) dX5_isWellFormed_37 h40
  have h36 := az_zreturn C rfl dX5_isWellFormed_36
  have h35 := az_iconst (x := (nI 0)) C dX5_isWellFormed_35 (by decide +kernel) h36
  have h32 := az_putI (T := TX5) (N := 3) (j := 2) C gwRX5 rfl (by decide) (by decide) tyX5 tyX5_ok nmX5 iIRX5_2 (by decide +kernel) rfl mFRX5_19 rfl dX5_isWellFormed_32 h35
  have h31 := az_iload_n C 3 rfl dX5_isWellFormed_31 h32
  have h30 := az_aload_n C 0 rfl dX5_isWellFormed_30 h31
  have h27 := az_if_ne (tgt := 37) C dX5_isWellFormed_27 (by decide) h37 h30
  have h24 := az_callS C okX5_fits knX5_fits stX5_fits mLRX5_22 ⟨rfl, rfl, by decide, by decide⟩ dX5_isWellFormed_24 h27
  have h23 := az_iload_n C 1 rfl dX5_isWellFormed_23 h24
  have h22 := az_irem C dX5_isWellFormed_22 h23
  have h21 := az_iload_n C 2 rfl dX5_isWellFormed_21 h22
  have h20 := az_iload_n C 3 rfl dX5_isWellFormed_20 h21
  have h19 := az_cald C dX5_isWellFormed_19 h20
  have h18 := az_iload_n C 3 rfl dX5_isWellFormed_18 h19
  have h15 := az_getR (T := TX5) (N := 3) (j := 0) C gwRX5 rfl (by decide) (by decide) iIRX5_0 mFRX5_9 rfl dX5_isWellFormed_15 h18
  have h14 := az_aload_n C 0 rfl dX5_isWellFormed_14 h15
  have h11 := az_icmp_ge (tgt := 43) C dX5_isWellFormed_11 (by decide) h43 h14
  have h8 := az_getI (T := TX5) (N := 3) (j := 1) C gwRX5 rfl (by decide) (by decide) iIRX5_1 mFRX5_15 rfl dX5_isWellFormed_8 h11
  have h7 := az_aload_n C 0 rfl dX5_isWellFormed_7 h8
  have h6 := az_iload_n C 3 rfl dX5_isWellFormed_6 h7
  exact h6
def LX5_isWellFormed_6 (Q : Option Value → az_M → Prop) : az_T := s_lp (fun Z => BX5_isWellFormed_6 Q Z)
theorem okLX5_isWellFormed_6 {X : az_X} {Q : Option Value → az_M → Prop} (C : az_C X cX5_isWellFormed 4 RX5 (az_ts yX5_isWellFormed cX5_isWellFormed 4 (some .boolean)) ({ frames := 2, cells := 0, slots := 0, locals := 122 } : Room) (some .boolean) Q) : az_ok X 6 (LX5_isWellFormed_6 Q) := az_loop (F := fun Z => BX5_isWellFormed_6 Q Z) (fun _ hZ => okBX5_isWellFormed_6 C hZ)
def PX5_isWellFormed (Q : Option Value → az_M → Prop) : az_T := (s_li 1 (s_ic (nI 3) (s_bin f_add (s_si 2 (s_ic (nI 0) (s_si 3 (s_kp [true, true, true, true] (LX5_isWellFormed_6 Q))))))))
def FX5_isWellFormed : az_F := az_fun [true, false] 4 PX5_isWellFormed
theorem okX5_isWellFormed (l : Launch) : az_met l yX5_isWellFormed cX5_isWellFormed 4 (some .boolean) ({ frames := 2, cells := 0, slots := 0, locals := 122 } : Room) FX5_isWellFormed := az_met_of (own := RX5) (by decide +kernel) rfl (by decide) (fun X Q C => by
  have h5 := az_istore_n C 3 rfl (by decide) dX5_isWellFormed_5 (az_keep [true, true, true, true] (okLX5_isWellFormed_6 C))
  have h4 := az_iconst (x := (nI 0)) C dX5_isWellFormed_4 (by decide +kernel) h5
  have h3 := az_istore_n C 2 rfl (by decide) dX5_isWellFormed_3 h4
  have h2 := az_iadd C dX5_isWellFormed_2 h3
  have h1 := az_iconst (x := (nI 3)) C dX5_isWellFormed_1 (by decide +kernel) h2
  have h0 := az_iload_n C 1 rfl dX5_isWellFormed_0 h1
  exact h0) l
theorem dX5_rows_0 : decode cX5_rows 0 = .ok (.aload_n 0, 1) := by decide +kernel
theorem dX5_rows_1 : decode cX5_rows 1 = .ok (.getfield 15, 3) := by decide +kernel
theorem dX5_rows_4 : decode cX5_rows 4 = .ok (.iconst 1, 1) := by decide +kernel
theorem dX5_rows_5 : decode cX5_rows 5 = .ok (.iadd, 1) := by decide +kernel
theorem dX5_rows_6 : decode cX5_rows 6 = .ok (.iload_n 1, 1) := by decide +kernel
theorem dX5_rows_7 : decode cX5_rows 7 = .ok (.iconst 3, 1) := by decide +kernel
theorem dX5_rows_8 : decode cX5_rows 8 = .ok (.iadd, 1) := by decide +kernel
theorem dX5_rows_9 : decode cX5_rows 9 = .ok (.idiv, 1) := by decide +kernel
theorem dX5_rows_10 : decode cX5_rows 10 = .ok (.ireturn, 1) := by decide +kernel
def PX5_rows (Q : Option Value → az_M → Prop) : az_T := (s_la 0 (s_gi 7 1 (s_ic (nI 1) (s_bin f_add (s_li 1 (s_ic (nI 3) (s_bin f_add (s_div (s_ri Q)))))))))
def FX5_rows : az_F := az_fun [true, false] 2 PX5_rows
theorem okX5_rows (l : Launch) : az_met l yX5_rows cX5_rows 2 (some .int) ({ frames := 1, cells := 0, slots := 0, locals := 100 } : Room) FX5_rows := az_met_of (own := RX5) (by decide +kernel) rfl (by decide) (fun X Q C => by
  have h10 := az_ireturn C rfl dX5_rows_10
  have h9 := az_idiv C dX5_rows_9 h10
  have h8 := az_iadd C dX5_rows_8 h9
  have h7 := az_iconst (x := (nI 3)) C dX5_rows_7 (by decide +kernel) h8
  have h6 := az_iload_n C 1 rfl dX5_rows_6 h7
  have h5 := az_iadd C dX5_rows_5 h6
  have h4 := az_iconst (x := (nI 1)) C dX5_rows_4 (by decide +kernel) h5
  have h1 := az_getI (T := TX5) (N := 3) (j := 1) C gwRX5 rfl (by decide) (by decide) iIRX5_1 mFRX5_15 rfl dX5_rows_1 h4
  have h0 := az_aload_n C 0 rfl dX5_rows_0 h1
  exact h0) l
theorem dX5_greatestUnit_0 : decode cX5_greatestUnit 0 = .ok (.iconst 0, 1) := by decide +kernel
theorem dX5_greatestUnit_1 : decode cX5_greatestUnit 1 = .ok (.istore_n 2, 1) := by decide +kernel
theorem dX5_greatestUnit_2 : decode cX5_greatestUnit 2 = .ok (.iconst 0, 1) := by decide +kernel
theorem dX5_greatestUnit_3 : decode cX5_greatestUnit 3 = .ok (.istore_n 3, 1) := by decide +kernel
theorem dX5_greatestUnit_4 : decode cX5_greatestUnit 4 = .ok (.iload_n 3, 1) := by decide +kernel
theorem dX5_greatestUnit_5 : decode cX5_greatestUnit 5 = .ok (.aload_n 0, 1) := by decide +kernel
theorem dX5_greatestUnit_6 : decode cX5_greatestUnit 6 = .ok (.getfield 15, 3) := by decide +kernel
theorem dX5_greatestUnit_9 : decode cX5_greatestUnit 9 = .ok (.if_icmp .ge 26, 3) := by decide +kernel
theorem dX5_greatestUnit_12 : decode cX5_greatestUnit 12 = .ok (.iload_n 2, 1) := by decide +kernel
theorem dX5_greatestUnit_13 : decode cX5_greatestUnit 13 = .ok (.aload_n 0, 1) := by decide +kernel
theorem dX5_greatestUnit_14 : decode cX5_greatestUnit 14 = .ok (.getfield 9, 3) := by decide +kernel
theorem dX5_greatestUnit_17 : decode cX5_greatestUnit 17 = .ok (.iload_n 3, 1) := by decide +kernel
theorem dX5_greatestUnit_18 : decode cX5_greatestUnit 18 = .ok (.caload, 1) := by decide +kernel
theorem dX5_greatestUnit_19 : decode cX5_greatestUnit 19 = .ok (.bipush 48, 2) := by decide +kernel
theorem dX5_greatestUnit_21 : decode cX5_greatestUnit 21 = .ok (.isub, 1) := by decide +kernel
theorem dX5_greatestUnit_22 : decode cX5_greatestUnit 22 = .ok (.invokestatic 26, 3) := by decide +kernel
theorem dX5_greatestUnit_25 : decode cX5_greatestUnit 25 = .ok (.istore_n 2, 1) := by decide +kernel
theorem dX5_greatestUnit_26 : decode cX5_greatestUnit 26 = .ok (.iload_n 3, 1) := by decide +kernel
theorem dX5_greatestUnit_27 : decode cX5_greatestUnit 27 = .ok (.iload_n 1, 1) := by decide +kernel
theorem dX5_greatestUnit_28 : decode cX5_greatestUnit 28 = .ok (.iconst 3, 1) := by decide +kernel
theorem dX5_greatestUnit_29 : decode cX5_greatestUnit 29 = .ok (.iadd, 1) := by decide +kernel
theorem dX5_greatestUnit_30 : decode cX5_greatestUnit 30 = .ok (.iadd, 1) := by decide +kernel
theorem dX5_greatestUnit_31 : decode cX5_greatestUnit 31 = .ok (.istore_n 3, 1) := by decide +kernel
theorem dX5_greatestUnit_32 : decode cX5_greatestUnit 32 = .ok (.goto (-28), 3) := by decide +kernel
theorem dX5_greatestUnit_35 : decode cX5_greatestUnit 35 = .ok (.iload_n 2, 1) := by decide +kernel
theorem dX5_greatestUnit_36 : decode cX5_greatestUnit 36 = .ok (.ireturn, 1) := by decide +kernel
def BX5_greatestUnit_4 (Q : Option Value → az_M → Prop) (Z4 : az_T) : az_T := (s_li 3 (s_la 0 (s_gi 7 1 (s_if2 d_ge (s_li 2 (s_ri Q)) (s_li 2 (s_la 0 (s_gr 7 0 (s_li 3 (s_al 22 (s_ic (nI 48) (s_bin f_sub (s_mx (s_si 2 (s_li 3 (s_li 1 (s_ic (nI 3) (s_bin f_add (s_bin f_add (s_si 3 (s_kp [true, true, true, true] Z4))))))))))))))))))))
theorem okBX5_greatestUnit_4 {X : az_X} {Q : Option Value → az_M → Prop} (C : az_C X cX5_greatestUnit 4 RX5 (az_ts yX5_greatestUnit cX5_greatestUnit 4 (some .int)) ({ frames := 1, cells := 0, slots := 0, locals := 100 } : Room) (some .int) Q) {Z4 : az_T} (hZ4 : az_ok X 4 Z4) : az_ok X 4 (BX5_greatestUnit_4 Q Z4) := by
  have h36 := az_ireturn C rfl dX5_greatestUnit_36
  have h35 := az_iload_n C 2 rfl dX5_greatestUnit_35 h36
  have h32 := az_goto (tgt := 4) C dX5_greatestUnit_32 (by decide) (az_keep [true, true, true, true] hZ4)
  have h31 := az_istore_n C 3 rfl (by decide) dX5_greatestUnit_31 h32
  have h30 := az_iadd C dX5_greatestUnit_30 h31
  have h29 := az_iadd C dX5_greatestUnit_29 h30
  have h28 := az_iconst (x := (nI 3)) C dX5_greatestUnit_28 (by decide +kernel) h29
  have h27 := az_iload_n C 1 rfl dX5_greatestUnit_27 h28
  have h26 := az_iload_n C 3 rfl dX5_greatestUnit_26 h27
  have h25 := az_istore_n C 2 rfl (by decide) dX5_greatestUnit_25 h26
  have h22 := az_mmax C mLRX5_26 mx_st_max mx_ini mx_co_max (by decide) (by decide) dX5_greatestUnit_22 h25
  have h21 := az_isub C dX5_greatestUnit_21 h22
  have h19 := az_bipush (x := (nI 48)) C dX5_greatestUnit_19 (by decide +kernel) h21
  have h18 := az_cald C dX5_greatestUnit_18 h19
  have h17 := az_iload_n C 3 rfl dX5_greatestUnit_17 h18
  have h14 := az_getR (T := TX5) (N := 3) (j := 0) C gwRX5 rfl (by decide) (by decide) iIRX5_0 mFRX5_9 rfl dX5_greatestUnit_14 h17
  have h13 := az_aload_n C 0 rfl dX5_greatestUnit_13 h14
  have h12 := az_iload_n C 2 rfl dX5_greatestUnit_12 h13
  have h9 := az_icmp_ge (tgt := 35) C dX5_greatestUnit_9 (by decide) h35 h12
  have h6 := az_getI (T := TX5) (N := 3) (j := 1) C gwRX5 rfl (by decide) (by decide) iIRX5_1 mFRX5_15 rfl dX5_greatestUnit_6 h9
  have h5 := az_aload_n C 0 rfl dX5_greatestUnit_5 h6
  have h4 := az_iload_n C 3 rfl dX5_greatestUnit_4 h5
  exact h4
def LX5_greatestUnit_4 (Q : Option Value → az_M → Prop) : az_T := s_lp (fun Z => BX5_greatestUnit_4 Q Z)
theorem okLX5_greatestUnit_4 {X : az_X} {Q : Option Value → az_M → Prop} (C : az_C X cX5_greatestUnit 4 RX5 (az_ts yX5_greatestUnit cX5_greatestUnit 4 (some .int)) ({ frames := 1, cells := 0, slots := 0, locals := 100 } : Room) (some .int) Q) : az_ok X 4 (LX5_greatestUnit_4 Q) := az_loop (F := fun Z => BX5_greatestUnit_4 Q Z) (fun _ hZ => okBX5_greatestUnit_4 C hZ)
def PX5_greatestUnit (Q : Option Value → az_M → Prop) : az_T := (s_ic (nI 0) (s_si 2 (s_ic (nI 0) (s_si 3 (s_kp [true, true, true, true] (LX5_greatestUnit_4 Q))))))
def FX5_greatestUnit : az_F := az_fun [true, false] 4 PX5_greatestUnit
theorem okX5_greatestUnit (l : Launch) : az_met l yX5_greatestUnit cX5_greatestUnit 4 (some .int) ({ frames := 1, cells := 0, slots := 0, locals := 100 } : Room) FX5_greatestUnit := az_met_of (own := RX5) (by decide +kernel) rfl (by decide) (fun X Q C => by
  have h3 := az_istore_n C 3 rfl (by decide) dX5_greatestUnit_3 (az_keep [true, true, true, true] (okLX5_greatestUnit_4 C))
  have h2 := az_iconst (x := (nI 0)) C dX5_greatestUnit_2 (by decide +kernel) h3
  have h1 := az_istore_n C 2 rfl (by decide) dX5_greatestUnit_1 h2
  have h0 := az_iconst (x := (nI 0)) C dX5_greatestUnit_0 (by decide +kernel) h1
  exact h0) l
theorem dX5_writePlan_0 : decode cX5_writePlan 0 = .ok (.iconst 0, 1) := by decide +kernel
theorem dX5_writePlan_1 : decode cX5_writePlan 1 = .ok (.istore_n 2, 1) := by decide +kernel
theorem dX5_writePlan_2 : decode cX5_writePlan 2 = .ok (.iload_n 2, 1) := by decide +kernel
theorem dX5_writePlan_3 : decode cX5_writePlan 3 = .ok (.aload_n 1, 1) := by decide +kernel
theorem dX5_writePlan_4 : decode cX5_writePlan 4 = .ok (.getfield 32, 3) := by decide +kernel
theorem dX5_writePlan_7 : decode cX5_writePlan 7 = .ok (.iadd, 1) := by decide +kernel
theorem dX5_writePlan_8 : decode cX5_writePlan 8 = .ok (.iconst 1, 1) := by decide +kernel
theorem dX5_writePlan_9 : decode cX5_writePlan 9 = .ok (.iadd, 1) := by decide +kernel
theorem dX5_writePlan_10 : decode cX5_writePlan 10 = .ok (.aload_n 0, 1) := by decide +kernel
theorem dX5_writePlan_11 : decode cX5_writePlan 11 = .ok (.getfield 15, 3) := by decide +kernel
theorem dX5_writePlan_14 : decode cX5_writePlan 14 = .ok (.if_icmp .ge 73, 3) := by decide +kernel
theorem dX5_writePlan_17 : decode cX5_writePlan 17 = .ok (.iconst 0, 1) := by decide +kernel
theorem dX5_writePlan_18 : decode cX5_writePlan 18 = .ok (.istore_n 3, 1) := by decide +kernel
theorem dX5_writePlan_19 : decode cX5_writePlan 19 = .ok (.iconst 0, 1) := by decide +kernel
theorem dX5_writePlan_20 : decode cX5_writePlan 20 = .ok (.istore 4, 2) := by decide +kernel
theorem dX5_writePlan_22 : decode cX5_writePlan 22 = .ok (.iload 4, 2) := by decide +kernel
theorem dX5_writePlan_24 : decode cX5_writePlan 24 = .ok (.aload_n 1, 1) := by decide +kernel
theorem dX5_writePlan_25 : decode cX5_writePlan 25 = .ok (.getfield 32, 3) := by decide +kernel
theorem dX5_writePlan_28 : decode cX5_writePlan 28 = .ok (.if_icmp .ge 29, 3) := by decide +kernel
theorem dX5_writePlan_31 : decode cX5_writePlan 31 = .ok (.iload_n 3, 1) := by decide +kernel
theorem dX5_writePlan_32 : decode cX5_writePlan 32 = .ok (.aload_n 0, 1) := by decide +kernel
theorem dX5_writePlan_33 : decode cX5_writePlan 33 = .ok (.getfield 9, 3) := by decide +kernel
theorem dX5_writePlan_36 : decode cX5_writePlan 36 = .ok (.iload_n 2, 1) := by decide +kernel
theorem dX5_writePlan_37 : decode cX5_writePlan 37 = .ok (.iconst 2, 1) := by decide +kernel
theorem dX5_writePlan_38 : decode cX5_writePlan 38 = .ok (.iadd, 1) := by decide +kernel
theorem dX5_writePlan_39 : decode cX5_writePlan 39 = .ok (.iload 4, 2) := by decide +kernel
theorem dX5_writePlan_41 : decode cX5_writePlan 41 = .ok (.iadd, 1) := by decide +kernel
theorem dX5_writePlan_42 : decode cX5_writePlan 42 = .ok (.caload, 1) := by decide +kernel
theorem dX5_writePlan_43 : decode cX5_writePlan 43 = .ok (.bipush 48, 2) := by decide +kernel
theorem dX5_writePlan_45 : decode cX5_writePlan 45 = .ok (.isub, 1) := by decide +kernel
theorem dX5_writePlan_46 : decode cX5_writePlan 46 = .ok (.iload 4, 2) := by decide +kernel
theorem dX5_writePlan_48 : decode cX5_writePlan 48 = .ok (.ishl, 1) := by decide +kernel
theorem dX5_writePlan_49 : decode cX5_writePlan 49 = .ok (.ior, 1) := by decide +kernel
theorem dX5_writePlan_50 : decode cX5_writePlan 50 = .ok (.istore_n 3, 1) := by decide +kernel
theorem dX5_writePlan_51 : decode cX5_writePlan 51 = .ok (.iinc 4 1, 3) := by decide +kernel
theorem dX5_writePlan_54 : decode cX5_writePlan 54 = .ok (.goto (-32), 3) := by decide +kernel
theorem dX5_writePlan_57 : decode cX5_writePlan 57 = .ok (.aload_n 1, 1) := by decide +kernel
theorem dX5_writePlan_58 : decode cX5_writePlan 58 = .ok (.getfield 37, 3) := by decide +kernel
theorem dX5_writePlan_61 : decode cX5_writePlan 61 = .ok (.aload_n 0, 1) := by decide +kernel
theorem dX5_writePlan_62 : decode cX5_writePlan 62 = .ok (.getfield 9, 3) := by decide +kernel
theorem dX5_writePlan_65 : decode cX5_writePlan 65 = .ok (.iload_n 2, 1) := by decide +kernel
theorem dX5_writePlan_66 : decode cX5_writePlan 66 = .ok (.caload, 1) := by decide +kernel
theorem dX5_writePlan_67 : decode cX5_writePlan 67 = .ok (.bipush 48, 2) := by decide +kernel
theorem dX5_writePlan_69 : decode cX5_writePlan 69 = .ok (.isub, 1) := by decide +kernel
theorem dX5_writePlan_70 : decode cX5_writePlan 70 = .ok (.aaload, 1) := by decide +kernel
theorem dX5_writePlan_71 : decode cX5_writePlan 71 = .ok (.bipush 13, 2) := by decide +kernel
theorem dX5_writePlan_73 : decode cX5_writePlan 73 = .ok (.iload_n 3, 1) := by decide +kernel
theorem dX5_writePlan_74 : decode cX5_writePlan 74 = .ok (.iastore, 1) := by decide +kernel
theorem dX5_writePlan_75 : decode cX5_writePlan 75 = .ok (.iload_n 2, 1) := by decide +kernel
theorem dX5_writePlan_76 : decode cX5_writePlan 76 = .ok (.aload_n 1, 1) := by decide +kernel
theorem dX5_writePlan_77 : decode cX5_writePlan 77 = .ok (.getfield 32, 3) := by decide +kernel
theorem dX5_writePlan_80 : decode cX5_writePlan 80 = .ok (.iconst 3, 1) := by decide +kernel
theorem dX5_writePlan_81 : decode cX5_writePlan 81 = .ok (.iadd, 1) := by decide +kernel
theorem dX5_writePlan_82 : decode cX5_writePlan 82 = .ok (.iadd, 1) := by decide +kernel
theorem dX5_writePlan_83 : decode cX5_writePlan 83 = .ok (.istore_n 2, 1) := by decide +kernel
theorem dX5_writePlan_84 : decode cX5_writePlan 84 = .ok (.goto (-82), 3) := by decide +kernel
theorem dX5_writePlan_87 : decode cX5_writePlan 87 = .ok (.return_, 1) := by decide +kernel
def BX5_writePlan_22 (Q : Option Value → az_M → Prop) (Z2 : az_T) (Z22 : az_T) : az_T := (s_li 4 (s_la 1 (s_gi 9 0 (s_if2 d_ge (s_la 1 (s_gr 9 5 (s_la 0 (s_gr 7 0 (s_li 2 (s_al 22 (s_ic (nI 48) (s_bin f_sub (s_aa 25 (s_ic (nI 13) (s_li 3 (s_as (s_li 2 (s_la 1 (s_gi 9 0 (s_ic (nI 3) (s_bin f_add (s_bin f_add (s_si 2 (s_kp [true, true, true, false, false] Z2)))))))))))))))))))) (s_li 3 (s_la 0 (s_gr 7 0 (s_li 2 (s_ic (nI 2) (s_bin f_add (s_li 4 (s_bin f_add (s_al 22 (s_ic (nI 48) (s_bin f_sub (s_li 4 (s_bin f_shl (s_bin f_or (s_si 3 (s_inc 4 (nI 1) (s_kp [true, true, true, true, true] Z22)))))))))))))))))))))
theorem okBX5_writePlan_22 {X : az_X} {Q : Option Value → az_M → Prop} (C : az_C X cX5_writePlan 5 RX5 (az_ts yX5_writePlan cX5_writePlan 5 none) ({ frames := 1, cells := 0, slots := 0, locals := 100 } : Room) none Q) {Z2 : az_T} (hZ2 : az_ok X 2 Z2) {Z22 : az_T} (hZ22 : az_ok X 22 Z22) : az_ok X 22 (BX5_writePlan_22 Q Z2 Z22) := by
  have h84 := az_goto (tgt := 2) C dX5_writePlan_84 (by decide) (az_keep [true, true, true, false, false] hZ2)
  have h83 := az_istore_n C 2 rfl (by decide) dX5_writePlan_83 h84
  have h82 := az_iadd C dX5_writePlan_82 h83
  have h81 := az_iadd C dX5_writePlan_81 h82
  have h80 := az_iconst (x := (nI 3)) C dX5_writePlan_80 (by decide +kernel) h81
  have h77 := az_getI (T := TX8) (N := 11) (j := 0) C gwRX8 rfl (by decide) (by decide) iIRX8_0 mFRX5_32 rfl dX5_writePlan_77 h80
  have h76 := az_aload_n C 1 rfl dX5_writePlan_76 h77
  have h75 := az_iload_n C 2 rfl dX5_writePlan_75 h76
  have h74 := az_iast C dX5_writePlan_74 h75
  have h73 := az_iload_n C 3 rfl dX5_writePlan_73 h74
  have h71 := az_bipush (x := (nI 13)) C dX5_writePlan_71 (by decide +kernel) h73
  have h70 := az_aald2 C dX5_writePlan_70 h71
  have h69 := az_isub C dX5_writePlan_69 h70
  have h67 := az_bipush (x := (nI 48)) C dX5_writePlan_67 (by decide +kernel) h69
  have h66 := az_cald C dX5_writePlan_66 h67
  have h65 := az_iload_n C 2 rfl dX5_writePlan_65 h66
  have h62 := az_getR (T := TX5) (N := 3) (j := 0) C gwRX5 rfl (by decide) (by decide) iIRX5_0 mFRX5_9 rfl dX5_writePlan_62 h65
  have h61 := az_aload_n C 0 rfl dX5_writePlan_61 h62
  have h58 := az_getR (T := TX8) (N := 11) (j := 5) C gwRX8 rfl (by decide) (by decide) iIRX8_5 mFRX5_37 rfl dX5_writePlan_58 h61
  have h57 := az_aload_n C 1 rfl dX5_writePlan_57 h58
  have h54 := az_goto (tgt := 22) C dX5_writePlan_54 (by decide) (az_keep [true, true, true, true, true] hZ22)
  have h51 := az_iinc (v := (nI 1)) C (by decide) (by decide +kernel) dX5_writePlan_51 h54
  have h50 := az_istore_n C 3 rfl (by decide) dX5_writePlan_50 h51
  have h49 := az_ior C dX5_writePlan_49 h50
  have h48 := az_ishl C dX5_writePlan_48 h49
  have h46 := az_iload C dX5_writePlan_46 h48
  have h45 := az_isub C dX5_writePlan_45 h46
  have h43 := az_bipush (x := (nI 48)) C dX5_writePlan_43 (by decide +kernel) h45
  have h42 := az_cald C dX5_writePlan_42 h43
  have h41 := az_iadd C dX5_writePlan_41 h42
  have h39 := az_iload C dX5_writePlan_39 h41
  have h38 := az_iadd C dX5_writePlan_38 h39
  have h37 := az_iconst (x := (nI 2)) C dX5_writePlan_37 (by decide +kernel) h38
  have h36 := az_iload_n C 2 rfl dX5_writePlan_36 h37
  have h33 := az_getR (T := TX5) (N := 3) (j := 0) C gwRX5 rfl (by decide) (by decide) iIRX5_0 mFRX5_9 rfl dX5_writePlan_33 h36
  have h32 := az_aload_n C 0 rfl dX5_writePlan_32 h33
  have h31 := az_iload_n C 3 rfl dX5_writePlan_31 h32
  have h28 := az_icmp_ge (tgt := 57) C dX5_writePlan_28 (by decide) h57 h31
  have h25 := az_getI (T := TX8) (N := 11) (j := 0) C gwRX8 rfl (by decide) (by decide) iIRX8_0 mFRX5_32 rfl dX5_writePlan_25 h28
  have h24 := az_aload_n C 1 rfl dX5_writePlan_24 h25
  have h22 := az_iload C dX5_writePlan_22 h24
  exact h22
def LX5_writePlan_22 (Q : Option Value → az_M → Prop) (Z2 : az_T) : az_T := s_lp (fun Z => BX5_writePlan_22 Q Z2 Z)
theorem okLX5_writePlan_22 {X : az_X} {Q : Option Value → az_M → Prop} (C : az_C X cX5_writePlan 5 RX5 (az_ts yX5_writePlan cX5_writePlan 5 none) ({ frames := 1, cells := 0, slots := 0, locals := 100 } : Room) none Q) {Z2 : az_T} (hZ2 : az_ok X 2 Z2) : az_ok X 22 (LX5_writePlan_22 Q Z2) := az_loop (F := fun Z => BX5_writePlan_22 Q Z2 Z) (fun _ hZ => okBX5_writePlan_22 C hZ2 hZ)
def BX5_writePlan_2 (Q : Option Value → az_M → Prop) (Z2 : az_T) : az_T := (s_li 2 (s_la 1 (s_gi 9 0 (s_bin f_add (s_ic (nI 1) (s_bin f_add (s_la 0 (s_gi 7 1 (s_if2 d_ge (s_rv Q) (s_ic (nI 0) (s_si 3 (s_ic (nI 0) (s_si 4 (s_kp [true, true, true, true, true] (LX5_writePlan_22 Q Z2)))))))))))))))
theorem okBX5_writePlan_2 {X : az_X} {Q : Option Value → az_M → Prop} (C : az_C X cX5_writePlan 5 RX5 (az_ts yX5_writePlan cX5_writePlan 5 none) ({ frames := 1, cells := 0, slots := 0, locals := 100 } : Room) none Q) {Z2 : az_T} (hZ2 : az_ok X 2 Z2) : az_ok X 2 (BX5_writePlan_2 Q Z2) := by
  have h87 := az_vreturn C rfl dX5_writePlan_87
  have h20 := az_istore C (by decide) dX5_writePlan_20 (az_keep [true, true, true, true, true] (okLX5_writePlan_22 C hZ2))
  have h19 := az_iconst (x := (nI 0)) C dX5_writePlan_19 (by decide +kernel) h20
  have h18 := az_istore_n C 3 rfl (by decide) dX5_writePlan_18 h19
  have h17 := az_iconst (x := (nI 0)) C dX5_writePlan_17 (by decide +kernel) h18
  have h14 := az_icmp_ge (tgt := 87) C dX5_writePlan_14 (by decide) h87 h17
  have h11 := az_getI (T := TX5) (N := 3) (j := 1) C gwRX5 rfl (by decide) (by decide) iIRX5_1 mFRX5_15 rfl dX5_writePlan_11 h14
  have h10 := az_aload_n C 0 rfl dX5_writePlan_10 h11
  have h9 := az_iadd C dX5_writePlan_9 h10
  have h8 := az_iconst (x := (nI 1)) C dX5_writePlan_8 (by decide +kernel) h9
  have h7 := az_iadd C dX5_writePlan_7 h8
  have h4 := az_getI (T := TX8) (N := 11) (j := 0) C gwRX8 rfl (by decide) (by decide) iIRX8_0 mFRX5_32 rfl dX5_writePlan_4 h7
  have h3 := az_aload_n C 1 rfl dX5_writePlan_3 h4
  have h2 := az_iload_n C 2 rfl dX5_writePlan_2 h3
  exact h2
def LX5_writePlan_2 (Q : Option Value → az_M → Prop) : az_T := s_lp (fun Z => BX5_writePlan_2 Q Z)
theorem okLX5_writePlan_2 {X : az_X} {Q : Option Value → az_M → Prop} (C : az_C X cX5_writePlan 5 RX5 (az_ts yX5_writePlan cX5_writePlan 5 none) ({ frames := 1, cells := 0, slots := 0, locals := 100 } : Room) none Q) : az_ok X 2 (LX5_writePlan_2 Q) := az_loop (F := fun Z => BX5_writePlan_2 Q Z) (fun _ hZ => okBX5_writePlan_2 C hZ)
def PX5_writePlan (Q : Option Value → az_M → Prop) : az_T := (s_ic (nI 0) (s_si 2 (s_kp [true, true, true, false, false] (LX5_writePlan_2 Q))))
def FX5_writePlan : az_F := az_fun [true, true] 5 PX5_writePlan
theorem okX5_writePlan (l : Launch) : az_met l yX5_writePlan cX5_writePlan 5 none ({ frames := 1, cells := 0, slots := 0, locals := 100 } : Room) FX5_writePlan := az_met_of (own := RX5) (by decide +kernel) rfl (by decide) (fun X Q C => by
  have h1 := az_istore_n C 2 rfl (by decide) dX5_writePlan_1 (az_keep [true, true, true, false, false] (okLX5_writePlan_2 C))
  have h0 := az_iconst (x := (nI 0)) C dX5_writePlan_0 (by decide +kernel) h1
  exact h0) l
theorem dX6_met_0 : decode cX6_met 0 = .ok (.iconst 0, 1) := by decide +kernel
theorem dX6_met_1 : decode cX6_met 1 = .ok (.istore 4, 2) := by decide +kernel
theorem dX6_met_3 : decode cX6_met 3 = .ok (.iconst 0, 1) := by decide +kernel
theorem dX6_met_4 : decode cX6_met 4 = .ok (.istore 5, 2) := by decide +kernel
theorem dX6_met_6 : decode cX6_met 6 = .ok (.iload 5, 2) := by decide +kernel
theorem dX6_met_8 : decode cX6_met 8 = .ok (.aload_n 0, 1) := by decide +kernel
theorem dX6_met_9 : decode cX6_met 9 = .ok (.getfield 48, 3) := by decide +kernel
theorem dX6_met_12 : decode cX6_met 12 = .ok (.if_icmp .ge 30, 3) := by decide +kernel
theorem dX6_met_15 : decode cX6_met 15 = .ok (.iload 4, 2) := by decide +kernel
theorem dX6_met_17 : decode cX6_met 17 = .ok (.aload_n 1, 1) := by decide +kernel
theorem dX6_met_18 : decode cX6_met 18 = .ok (.getfield 21, 3) := by decide +kernel
theorem dX6_met_21 : decode cX6_met 21 = .ok (.getfield 51, 3) := by decide +kernel
theorem dX6_met_24 : decode cX6_met 24 = .ok (.iload_n 3, 1) := by decide +kernel
theorem dX6_met_25 : decode cX6_met 25 = .ok (.aaload, 1) := by decide +kernel
theorem dX6_met_26 : decode cX6_met 26 = .ok (.iload 5, 2) := by decide +kernel
theorem dX6_met_28 : decode cX6_met 28 = .ok (.iconst 4, 1) := by decide +kernel
theorem dX6_met_29 : decode cX6_met 29 = .ok (.imul, 1) := by decide +kernel
theorem dX6_met_30 : decode cX6_met 30 = .ok (.iload_n 2, 1) := by decide +kernel
theorem dX6_met_31 : decode cX6_met 31 = .ok (.iadd, 1) := by decide +kernel
theorem dX6_met_32 : decode cX6_met 32 = .ok (.iaload, 1) := by decide +kernel
theorem dX6_met_33 : decode cX6_met 33 = .ok (.iadd, 1) := by decide +kernel
theorem dX6_met_34 : decode cX6_met 34 = .ok (.istore 4, 2) := by decide +kernel
theorem dX6_met_36 : decode cX6_met 36 = .ok (.iinc 5 1, 3) := by decide +kernel
theorem dX6_met_39 : decode cX6_met 39 = .ok (.goto (-33), 3) := by decide +kernel
theorem dX6_met_42 : decode cX6_met 42 = .ok (.iload 4, 2) := by decide +kernel
theorem dX6_met_44 : decode cX6_met 44 = .ok (.ireturn, 1) := by decide +kernel
def BX6_met_6 (Q : Option Value → az_M → Prop) (Z6 : az_T) : az_T := (s_li 5 (s_la 0 (s_gi 9 3 (s_if2 d_ge (s_li 4 (s_ri Q)) (s_li 4 (s_la 1 (s_gr 6 2 (s_gr 3 2 (s_li 3 (s_aa 25 (s_li 5 (s_ic (nI 4) (s_bin f_mul (s_li 2 (s_bin f_add (s_al 20 (s_bin f_add (s_si 4 (s_inc 5 (nI 1) (s_kp [true, true, true, true, true, true] Z6))))))))))))))))))))
theorem okBX6_met_6 {X : az_X} {Q : Option Value → az_M → Prop} (C : az_C X cX6_met 6 RX6 (az_ts yX6_met cX6_met 6 (some .int)) ({ frames := 1, cells := 0, slots := 0, locals := 100 } : Room) (some .int) Q) {Z6 : az_T} (hZ6 : az_ok X 6 Z6) : az_ok X 6 (BX6_met_6 Q Z6) := by
  have h44 := az_ireturn C rfl dX6_met_44
  have h42 := az_iload C dX6_met_42 h44
  have h39 := az_goto (tgt := 6) C dX6_met_39 (by decide) (az_keep [true, true, true, true, true, true] hZ6)
  have h36 := az_iinc (v := (nI 1)) C (by decide) (by decide +kernel) dX6_met_36 h39
  have h34 := az_istore C (by decide) dX6_met_34 h36
  have h33 := az_iadd C dX6_met_33 h34
  have h32 := az_iald C dX6_met_32 h33
  have h31 := az_iadd C dX6_met_31 h32
  have h30 := az_iload_n C 2 rfl dX6_met_30 h31
  have h29 := az_imul C dX6_met_29 h30
  have h28 := az_iconst (x := (nI 4)) C dX6_met_28 (by decide +kernel) h29
  have h26 := az_iload C dX6_met_26 h28
  have h25 := az_aald2 C dX6_met_25 h26
  have h24 := az_iload_n C 3 rfl dX6_met_24 h25
  have h21 := az_getR (T := TX1) (N := 3) (j := 2) C gwRX1 rfl (by decide) (by decide) iIRX1_2 mFRX6_51 rfl dX6_met_21 h24
  have h18 := az_getR (T := TX4) (N := 10) (j := 2) C gwRX4 rfl (by decide) (by decide) iIRX4_2 mFRX6_21 rfl dX6_met_18 h21
  have h17 := az_aload_n C 1 rfl dX6_met_17 h18
  have h15 := az_iload C dX6_met_15 h17
  have h12 := az_icmp_ge (tgt := 42) C dX6_met_12 (by decide) h42 h15
  have h9 := az_getI (T := TX8) (N := 11) (j := 3) C gwRX8 rfl (by decide) (by decide) iIRX8_3 mFRX6_48 rfl dX6_met_9 h12
  have h8 := az_aload_n C 0 rfl dX6_met_8 h9
  have h6 := az_iload C dX6_met_6 h8
  exact h6
def LX6_met_6 (Q : Option Value → az_M → Prop) : az_T := s_lp (fun Z => BX6_met_6 Q Z)
theorem okLX6_met_6 {X : az_X} {Q : Option Value → az_M → Prop} (C : az_C X cX6_met 6 RX6 (az_ts yX6_met cX6_met 6 (some .int)) ({ frames := 1, cells := 0, slots := 0, locals := 100 } : Room) (some .int) Q) : az_ok X 6 (LX6_met_6 Q) := az_loop (F := fun Z => BX6_met_6 Q Z) (fun _ hZ => okBX6_met_6 C hZ)
def PX6_met (Q : Option Value → az_M → Prop) : az_T := (s_ic (nI 0) (s_si 4 (s_ic (nI 0) (s_si 5 (s_kp [true, true, true, true, true, true] (LX6_met_6 Q))))))
def FX6_met : az_F := az_fun [true, true, false, false] 6 PX6_met
theorem okX6_met (l : Launch) : az_met l yX6_met cX6_met 6 (some .int) ({ frames := 1, cells := 0, slots := 0, locals := 100 } : Room) FX6_met := az_met_of (own := RX6) (by decide +kernel) rfl (by decide) (fun X Q C => by
  have h4 := az_istore C (by decide) dX6_met_4 (az_keep [true, true, true, true, true, true] (okLX6_met_6 C))
  have h3 := az_iconst (x := (nI 0)) C dX6_met_3 (by decide +kernel) h4
  have h1 := az_istore C (by decide) dX6_met_1 h3
  have h0 := az_iconst (x := (nI 0)) C dX6_met_0 (by decide +kernel) h1
  exact h0) l
theorem dX6_isFar_0 : decode cX6_isFar 0 = .ok (.iload_n 2, 1) := by decide +kernel
theorem dX6_isFar_1 : decode cX6_isFar 1 = .ok (.istore_n 3, 1) := by decide +kernel
theorem dX6_isFar_2 : decode cX6_isFar 2 = .ok (.iconst 0, 1) := by decide +kernel
theorem dX6_isFar_3 : decode cX6_isFar 3 = .ok (.istore 4, 2) := by decide +kernel
theorem dX6_isFar_5 : decode cX6_isFar 5 = .ok (.iload 4, 2) := by decide +kernel
theorem dX6_isFar_7 : decode cX6_isFar 7 = .ok (.iconst 4, 1) := by decide +kernel
theorem dX6_isFar_8 : decode cX6_isFar 8 = .ok (.if_icmp .ge 21, 3) := by decide +kernel
theorem dX6_isFar_11 : decode cX6_isFar 11 = .ok (.iload_n 3, 1) := by decide +kernel
theorem dX6_isFar_12 : decode cX6_isFar 12 = .ok (.iload_n 1, 1) := by decide +kernel
theorem dX6_isFar_13 : decode cX6_isFar 13 = .ok (.if_icmp .le 16, 3) := by decide +kernel
theorem dX6_isFar_16 : decode cX6_isFar 16 = .ok (.aload_n 0, 1) := by decide +kernel
theorem dX6_isFar_17 : decode cX6_isFar 17 = .ok (.getfield 61, 3) := by decide +kernel
theorem dX6_isFar_20 : decode cX6_isFar 20 = .ok (.iload_n 3, 1) := by decide +kernel
theorem dX6_isFar_21 : decode cX6_isFar 21 = .ok (.iaload, 1) := by decide +kernel
theorem dX6_isFar_22 : decode cX6_isFar 22 = .ok (.istore_n 3, 1) := by decide +kernel
theorem dX6_isFar_23 : decode cX6_isFar 23 = .ok (.iinc 4 1, 3) := by decide +kernel
theorem dX6_isFar_26 : decode cX6_isFar 26 = .ok (.goto (-21), 3) := by decide +kernel
theorem dX6_isFar_29 : decode cX6_isFar 29 = .ok (.iload_n 3, 1) := by decide +kernel
theorem dX6_isFar_30 : decode cX6_isFar 30 = .ok (.iload_n 1, 1) := by decide +kernel
theorem dX6_isFar_31 : decode cX6_isFar 31 = .ok (.if_icmp .ne 7, 3) := by decide +kernel
theorem dX6_isFar_34 : decode cX6_isFar 34 = .ok (.iconst 1, 1) := by decide +kernel
theorem dX6_isFar_35 : decode cX6_isFar 35 = .ok (.goto 4, 3) := by decide +kernel
theorem dX6_isFar_38 : decode cX6_isFar 38 = .ok (.iconst 0, 1) := by decide +kernel
theorem dX6_isFar_39 : decode cX6_isFar 39 = .ok (.ireturn, 1) := by decide +kernel
def LX6_isFar_39 (Q : Option Value → az_M → Prop) : az_T := (s_rz Q)
theorem okLX6_isFar_39 {X : az_X} {Q : Option Value → az_M → Prop} (C : az_C X cX6_isFar 5 RX6 (az_ts yX6_isFar cX6_isFar 5 (some .boolean)) ({ frames := 1, cells := 0, slots := 0, locals := 100 } : Room) (some .boolean) Q) : az_ok X 39 (LX6_isFar_39 Q) := by
  have h39 := az_zreturn C rfl dX6_isFar_39
  exact h39
def LX6_isFar_29 (Q : Option Value → az_M → Prop) : az_T := (s_li 3 (s_li 1 (s_if2 d_ne (s_ic (nI 0) (s_kp [false, false, false, false, false] (LX6_isFar_39 Q))) (s_ic (nI 1) (s_kp [false, false, false, false, false] (LX6_isFar_39 Q))))))
theorem okLX6_isFar_29 {X : az_X} {Q : Option Value → az_M → Prop} (C : az_C X cX6_isFar 5 RX6 (az_ts yX6_isFar cX6_isFar 5 (some .boolean)) ({ frames := 1, cells := 0, slots := 0, locals := 100 } : Room) (some .boolean) Q) : az_ok X 29 (LX6_isFar_29 Q) := by
  have h38 := az_iconst (x := (nI 0)) C dX6_isFar_38 (by decide +kernel) (az_keep [false, false, false, false, false] (okLX6_isFar_39 C))
  have h35 := az_goto (tgt := 39) C dX6_isFar_35 (by decide) (az_keep [false, false, false, false, false] (okLX6_isFar_39 C))
  have h34 := az_iconst (x := (nI 1)) C dX6_isFar_34 (by decide +kernel) h35
  have h31 := az_icmp_ne (tgt := 38) C dX6_isFar_31 (by decide) h38 h34
  have h30 := az_iload_n C 1 rfl dX6_isFar_30 h31
  have h29 := az_iload_n C 3 rfl dX6_isFar_29 h30
  exact h29
def BX6_isFar_5 (Q : Option Value → az_M → Prop) (Z5 : az_T) : az_T := (s_li 4 (s_ic (nI 4) (s_if2 d_ge (s_kp [false, true, false, true, false] (LX6_isFar_29 Q)) (s_li 3 (s_li 1 (s_if2 d_le (s_kp [false, true, false, true, false] (LX6_isFar_29 Q)) (s_la 0 (s_gr 9 9 (s_li 3 (s_al 20 (s_si 3 (s_inc 4 (nI 1) (s_kp [true, true, false, true, true] Z5)))))))))))))
theorem okBX6_isFar_5 {X : az_X} {Q : Option Value → az_M → Prop} (C : az_C X cX6_isFar 5 RX6 (az_ts yX6_isFar cX6_isFar 5 (some .boolean)) ({ frames := 1, cells := 0, slots := 0, locals := 100 } : Room) (some .boolean) Q) {Z5 : az_T} (hZ5 : az_ok X 5 Z5) : az_ok X 5 (BX6_isFar_5 Q Z5) := by
  have h26 := az_goto (tgt := 5) C dX6_isFar_26 (by decide) (az_keep [true, true, false, true, true] hZ5)
  have h23 := az_iinc (v := (nI 1)) C (by decide) (by decide +kernel) dX6_isFar_23 h26
  have h22 := az_istore_n C 3 rfl (by decide) dX6_isFar_22 h23
  have h21 := az_iald C dX6_isFar_21 h22
  have h20 := az_iload_n C 3 rfl dX6_isFar_20 h21
  have h17 := az_getR (T := TX8) (N := 11) (j := 9) C gwRX8 rfl (by decide) (by decide) iIRX8_9 mFRX6_61 rfl dX6_isFar_17 h20
  have h16 := az_aload_n C 0 rfl dX6_isFar_16 h17
  have h13 := az_icmp_le (tgt := 29) C dX6_isFar_13 (by decide) (az_keep [false, true, false, true, false] (okLX6_isFar_29 C)) h16
  have h12 := az_iload_n C 1 rfl dX6_isFar_12 h13
  have h11 := az_iload_n C 3 rfl dX6_isFar_11 h12
  have h8 := az_icmp_ge (tgt := 29) C dX6_isFar_8 (by decide) (az_keep [false, true, false, true, false] (okLX6_isFar_29 C)) h11
  have h7 := az_iconst (x := (nI 4)) C dX6_isFar_7 (by decide +kernel) h8
  have h5 := az_iload C dX6_isFar_5 h7
  exact h5
def LX6_isFar_5 (Q : Option Value → az_M → Prop) : az_T := s_lp (fun Z => BX6_isFar_5 Q Z)
theorem okLX6_isFar_5 {X : az_X} {Q : Option Value → az_M → Prop} (C : az_C X cX6_isFar 5 RX6 (az_ts yX6_isFar cX6_isFar 5 (some .boolean)) ({ frames := 1, cells := 0, slots := 0, locals := 100 } : Room) (some .boolean) Q) : az_ok X 5 (LX6_isFar_5 Q) := az_loop (F := fun Z => BX6_isFar_5 Q Z) (fun _ hZ => okBX6_isFar_5 C hZ)
def PX6_isFar (Q : Option Value → az_M → Prop) : az_T := (s_li 2 (s_si 3 (s_ic (nI 0) (s_si 4 (s_kp [true, true, false, true, true] (LX6_isFar_5 Q))))))
def FX6_isFar : az_F := az_fun [true, false, false] 5 PX6_isFar
theorem okX6_isFar (l : Launch) : az_met l yX6_isFar cX6_isFar 5 (some .boolean) ({ frames := 1, cells := 0, slots := 0, locals := 100 } : Room) FX6_isFar := az_met_of (own := RX6) (by decide +kernel) rfl (by decide) (fun X Q C => by
  have h3 := az_istore C (by decide) dX6_isFar_3 (az_keep [true, true, false, true, true] (okLX6_isFar_5 C))
  have h2 := az_iconst (x := (nI 0)) C dX6_isFar_2 (by decide +kernel) h3
  have h1 := az_istore_n C 3 rfl (by decide) dX6_isFar_1 h2
  have h0 := az_iload_n C 2 rfl dX6_isFar_0 h1
  exact h0) l
theorem dX6_flow_0 : decode cX6_flow 0 = .ok (.iconst 0, 1) := by decide +kernel
theorem dX6_flow_1 : decode cX6_flow 1 = .ok (.istore 4, 2) := by decide +kernel
theorem dX6_flow_3 : decode cX6_flow 3 = .ok (.iconst 0, 1) := by decide +kernel
theorem dX6_flow_4 : decode cX6_flow 4 = .ok (.istore 5, 2) := by decide +kernel
theorem dX6_flow_6 : decode cX6_flow 6 = .ok (.iload 5, 2) := by decide +kernel
theorem dX6_flow_8 : decode cX6_flow 8 = .ok (.aload_n 0, 1) := by decide +kernel
theorem dX6_flow_9 : decode cX6_flow 9 = .ok (.getfield 48, 3) := by decide +kernel
theorem dX6_flow_12 : decode cX6_flow 12 = .ok (.if_icmp .ge 114, 3) := by decide +kernel
theorem dX6_flow_15 : decode cX6_flow 15 = .ok (.aload_n 0, 1) := by decide +kernel
theorem dX6_flow_16 : decode cX6_flow 16 = .ok (.iload_n 2, 1) := by decide +kernel
theorem dX6_flow_17 : decode cX6_flow 17 = .ok (.aload_n 0, 1) := by decide +kernel
theorem dX6_flow_18 : decode cX6_flow 18 = .ok (.getfield 54, 3) := by decide +kernel
theorem dX6_flow_21 : decode cX6_flow 21 = .ok (.iload 5, 2) := by decide +kernel
theorem dX6_flow_23 : decode cX6_flow 23 = .ok (.aaload, 1) := by decide +kernel
theorem dX6_flow_24 : decode cX6_flow 24 = .ok (.bipush 8, 2) := by decide +kernel
theorem dX6_flow_26 : decode cX6_flow 26 = .ok (.iaload, 1) := by decide +kernel
theorem dX6_flow_27 : decode cX6_flow 27 = .ok (.invokestatic 57, 3) := by decide +kernel
theorem dX6_flow_30 : decode cX6_flow 30 = .ok (.istore 6, 2) := by decide +kernel
theorem dX6_flow_32 : decode cX6_flow 32 = .ok (.iconst 0, 1) := by decide +kernel
theorem dX6_flow_33 : decode cX6_flow 33 = .ok (.istore 7, 2) := by decide +kernel
theorem dX6_flow_35 : decode cX6_flow 35 = .ok (.iload 7, 2) := by decide +kernel
theorem dX6_flow_37 : decode cX6_flow 37 = .ok (.aload_n 0, 1) := by decide +kernel
theorem dX6_flow_38 : decode cX6_flow 38 = .ok (.getfield 9, 3) := by decide +kernel
theorem dX6_flow_41 : decode cX6_flow 41 = .ok (.if_icmp .ge 79, 3) := by decide +kernel
theorem dX6_flow_44 : decode cX6_flow 44 = .ok (.aload_n 0, 1) := by decide +kernel
theorem dX6_flow_45 : decode cX6_flow 45 = .ok (.iload_n 2, 1) := by decide +kernel
theorem dX6_flow_46 : decode cX6_flow 46 = .ok (.iload 7, 2) := by decide +kernel
theorem dX6_flow_48 : decode cX6_flow 48 = .ok (.invokestatic 57, 3) := by decide +kernel
theorem dX6_flow_51 : decode cX6_flow 51 = .ok (.istore 8, 2) := by decide +kernel
theorem dX6_flow_53 : decode cX6_flow 53 = .ok (.aload_n 1, 1) := by decide +kernel
theorem dX6_flow_54 : decode cX6_flow 54 = .ok (.getfield 21, 3) := by decide +kernel
theorem dX6_flow_57 : decode cX6_flow 57 = .ok (.getfield 51, 3) := by decide +kernel
theorem dX6_flow_60 : decode cX6_flow 60 = .ok (.iload_n 3, 1) := by decide +kernel
theorem dX6_flow_61 : decode cX6_flow 61 = .ok (.aaload, 1) := by decide +kernel
theorem dX6_flow_62 : decode cX6_flow 62 = .ok (.iload 5, 2) := by decide +kernel
theorem dX6_flow_64 : decode cX6_flow 64 = .ok (.iconst 4, 1) := by decide +kernel
theorem dX6_flow_65 : decode cX6_flow 65 = .ok (.imul, 1) := by decide +kernel
theorem dX6_flow_66 : decode cX6_flow 66 = .ok (.iload 7, 2) := by decide +kernel
theorem dX6_flow_68 : decode cX6_flow 68 = .ok (.iadd, 1) := by decide +kernel
theorem dX6_flow_69 : decode cX6_flow 69 = .ok (.iaload, 1) := by decide +kernel
theorem dX6_flow_70 : decode cX6_flow 70 = .ok (.istore 9, 2) := by decide +kernel
theorem dX6_flow_72 : decode cX6_flow 72 = .ok (.iload 4, 2) := by decide +kernel
theorem dX6_flow_74 : decode cX6_flow 74 = .ok (.iload 6, 2) := by decide +kernel
theorem dX6_flow_76 : decode cX6_flow 76 = .ok (.ifCond .eq 13, 3) := by decide +kernel
theorem dX6_flow_79 : decode cX6_flow 79 = .ok (.iload 8, 2) := by decide +kernel
theorem dX6_flow_81 : decode cX6_flow 81 = .ok (.ifCond .ne 8, 3) := by decide +kernel
theorem dX6_flow_84 : decode cX6_flow 84 = .ok (.iload 9, 2) := by decide +kernel
theorem dX6_flow_86 : decode cX6_flow 86 = .ok (.goto 4, 3) := by decide +kernel
theorem dX6_flow_89 : decode cX6_flow 89 = .ok (.iconst 0, 1) := by decide +kernel
theorem dX6_flow_90 : decode cX6_flow 90 = .ok (.iadd, 1) := by decide +kernel
theorem dX6_flow_91 : decode cX6_flow 91 = .ok (.istore 4, 2) := by decide +kernel
theorem dX6_flow_93 : decode cX6_flow 93 = .ok (.iload 4, 2) := by decide +kernel
theorem dX6_flow_95 : decode cX6_flow 95 = .ok (.iload 8, 2) := by decide +kernel
theorem dX6_flow_97 : decode cX6_flow 97 = .ok (.ifCond .eq 13, 3) := by decide +kernel
theorem dX6_flow_100 : decode cX6_flow 100 = .ok (.iload 6, 2) := by decide +kernel
theorem dX6_flow_102 : decode cX6_flow 102 = .ok (.ifCond .ne 8, 3) := by decide +kernel
theorem dX6_flow_105 : decode cX6_flow 105 = .ok (.iload 9, 2) := by decide +kernel
theorem dX6_flow_107 : decode cX6_flow 107 = .ok (.goto 4, 3) := by decide +kernel
theorem dX6_flow_110 : decode cX6_flow 110 = .ok (.iconst 0, 1) := by decide +kernel
theorem dX6_flow_111 : decode cX6_flow 111 = .ok (.isub, 1) := by decide +kernel
theorem dX6_flow_112 : decode cX6_flow 112 = .ok (.istore 4, 2) := by decide +kernel
theorem dX6_flow_114 : decode cX6_flow 114 = .ok (.iinc 7 1, 3) := by decide +kernel
theorem dX6_flow_117 : decode cX6_flow 117 = .ok (.goto (-82), 3) := by decide +kernel
theorem dX6_flow_120 : decode cX6_flow 120 = .ok (.iinc 5 1, 3) := by decide +kernel
theorem dX6_flow_123 : decode cX6_flow 123 = .ok (.goto (-117), 3) := by decide +kernel
theorem dX6_flow_126 : decode cX6_flow 126 = .ok (.iload 4, 2) := by decide +kernel
theorem dX6_flow_128 : decode cX6_flow 128 = .ok (.ireturn, 1) := by decide +kernel
def LX6_flow_111 (Q : Option Value → az_M → Prop) (Z6 : az_T) (Z35 : az_T) : az_T := (s_bin f_sub (s_si 4 (s_inc 7 (nI 1) (s_kp [true, true, true, true, true, true, true, true, false, false] Z35))))
theorem okLX6_flow_111 {X : az_X} {Q : Option Value → az_M → Prop} (C : az_C X cX6_flow 10 RX6 (az_ts yX6_flow cX6_flow 10 (some .int)) ({ frames := 2, cells := 0, slots := 0, locals := 124 } : Room) (some .int) Q) {Z6 : az_T} (hZ6 : az_ok X 6 Z6) {Z35 : az_T} (hZ35 : az_ok X 35 Z35) : az_ok X 111 (LX6_flow_111 Q Z6 Z35) := by
  have h117 := az_goto (tgt := 35) C dX6_flow_117 (by decide) (az_keep [true, true, true, true, true, true, true, true, false, false] hZ35)
  have h114 := az_iinc (v := (nI 1)) C (by decide) (by decide +kernel) dX6_flow_114 h117
  have h112 := az_istore C (by decide) dX6_flow_112 h114
  have h111 := az_isub C dX6_flow_111 h112
  exact h111
def LX6_flow_110 (Q : Option Value → az_M → Prop) (Z6 : az_T) (Z35 : az_T) : az_T := (s_ic (nI 0) (s_kp [true, true, true, true, false, true, true, true, false, false] (LX6_flow_111 Q Z6 Z35)))
theorem okLX6_flow_110 {X : az_X} {Q : Option Value → az_M → Prop} (C : az_C X cX6_flow 10 RX6 (az_ts yX6_flow cX6_flow 10 (some .int)) ({ frames := 2, cells := 0, slots := 0, locals := 124 } : Room) (some .int) Q) {Z6 : az_T} (hZ6 : az_ok X 6 Z6) {Z35 : az_T} (hZ35 : az_ok X 35 Z35) : az_ok X 110 (LX6_flow_110 Q Z6 Z35) := by
  have h110 := az_iconst (x := (nI 0)) C dX6_flow_110 (by decide +kernel) (az_keep [true, true, true, true, false, true, true, true, false, false] (okLX6_flow_111 C hZ6 hZ35))
  exact h110
def LX6_flow_90 (Q : Option Value → az_M → Prop) (Z6 : az_T) (Z35 : az_T) : az_T := (s_bin f_add (s_si 4 (s_li 4 (s_li 8 (s_if c_eq (s_kp [true, true, true, true, false, true, true, true, false, false] (LX6_flow_110 Q Z6 Z35)) (s_li 6 (s_if c_ne (s_kp [true, true, true, true, false, true, true, true, false, false] (LX6_flow_110 Q Z6 Z35)) (s_li 9 (s_kp [true, true, true, true, false, true, true, true, false, false] (LX6_flow_111 Q Z6 Z35))))))))))
theorem okLX6_flow_90 {X : az_X} {Q : Option Value → az_M → Prop} (C : az_C X cX6_flow 10 RX6 (az_ts yX6_flow cX6_flow 10 (some .int)) ({ frames := 2, cells := 0, slots := 0, locals := 124 } : Room) (some .int) Q) {Z6 : az_T} (hZ6 : az_ok X 6 Z6) {Z35 : az_T} (hZ35 : az_ok X 35 Z35) : az_ok X 90 (LX6_flow_90 Q Z6 Z35) := by
  have h107 := az_goto (tgt := 111) C dX6_flow_107 (by decide) (az_keep [true, true, true, true, false, true, true, true, false, false] (okLX6_flow_111 C hZ6 hZ35))
  have h105 := az_iload C dX6_flow_105 h107
  have h102 := az_if_ne (tgt := 110) C dX6_flow_102 (by decide) (az_keep [true, true, true, true, false, true, true, true, false, false] (okLX6_flow_110 C hZ6 hZ35)) h105
  have h100 := az_iload C dX6_flow_100 h102
  have h97 := az_if_eq (tgt := 110) C dX6_flow_97 (by decide) (az_keep [true, true, true, true, false, true, true, true, false, false] (okLX6_flow_110 C hZ6 hZ35)) h100
  have h95 := az_iload C dX6_flow_95 h97
  have h93 := az_iload C dX6_flow_93 h95
  have h91 := az_istore C (by decide) dX6_flow_91 h93
  have h90 := az_iadd C dX6_flow_90 h91
  exact h90
def LX6_flow_89 (Q : Option Value → az_M → Prop) (Z6 : az_T) (Z35 : az_T) : az_T := (s_ic (nI 0) (s_kp [true, true, true, true, false, true, true, true, true, true] (LX6_flow_90 Q Z6 Z35)))
theorem okLX6_flow_89 {X : az_X} {Q : Option Value → az_M → Prop} (C : az_C X cX6_flow 10 RX6 (az_ts yX6_flow cX6_flow 10 (some .int)) ({ frames := 2, cells := 0, slots := 0, locals := 124 } : Room) (some .int) Q) {Z6 : az_T} (hZ6 : az_ok X 6 Z6) {Z35 : az_T} (hZ35 : az_ok X 35 Z35) : az_ok X 89 (LX6_flow_89 Q Z6 Z35) := by
  have h89 := az_iconst (x := (nI 0)) C dX6_flow_89 (by decide +kernel) (az_keep [true, true, true, true, false, true, true, true, true, true] (okLX6_flow_90 C hZ6 hZ35))
  exact h89
def BX6_flow_35 (Q : Option Value → az_M → Prop) (Z6 : az_T) (Z35 : az_T) : az_T := (s_li 7 (s_la 0 (s_gi 9 1 (s_if2 d_ge (s_inc 5 (nI 1) (s_kp [true, true, true, true, true, true, false, false, false, false] Z6)) (s_la 0 (s_li 2 (s_li 7 (s_cs 3 FX6_isFar (s_si 8 (s_la 1 (s_gr 6 2 (s_gr 3 2 (s_li 3 (s_aa 25 (s_li 5 (s_ic (nI 4) (s_bin f_mul (s_li 7 (s_bin f_add (s_al 20 (s_si 9 (s_li 4 (s_li 6 (s_if c_eq (s_kp [true, true, true, true, false, true, true, true, true, true] (LX6_flow_89 Q Z6 Z35)) (s_li 8 (s_if c_ne (s_kp [true, true, true, true, false, true, true, true, true, true] (LX6_flow_89 Q Z6 Z35)) (s_li 9 (s_kp [true, true, true, true, false, true, true, true, true, true] (LX6_flow_90 Q Z6 Z35)))))))))))))))))))))))))))))
theorem okBX6_flow_35 {X : az_X} {Q : Option Value → az_M → Prop} (C : az_C X cX6_flow 10 RX6 (az_ts yX6_flow cX6_flow 10 (some .int)) ({ frames := 2, cells := 0, slots := 0, locals := 124 } : Room) (some .int) Q) {Z6 : az_T} (hZ6 : az_ok X 6 Z6) {Z35 : az_T} (hZ35 : az_ok X 35 Z35) : az_ok X 35 (BX6_flow_35 Q Z6 Z35) := by
  have h123 := az_goto (tgt := 6) C dX6_flow_123 (by decide) (az_keep [true, true, true, true, true, true, false, false, false, false] hZ6)
  have h120 := az_iinc (v := (nI 1)) C (by decide) (by decide +kernel) dX6_flow_120 h123
  have h86 := az_goto (tgt := 90) C dX6_flow_86 (by decide) (az_keep [true, true, true, true, false, true, true, true, true, true] (okLX6_flow_90 C hZ6 hZ35))
  have h84 := az_iload C dX6_flow_84 h86
  have h81 := az_if_ne (tgt := 89) C dX6_flow_81 (by decide) (az_keep [true, true, true, true, false, true, true, true, true, true] (okLX6_flow_89 C hZ6 hZ35)) h84
  have h79 := az_iload C dX6_flow_79 h81
  have h76 := az_if_eq (tgt := 89) C dX6_flow_76 (by decide) (az_keep [true, true, true, true, false, true, true, true, true, true] (okLX6_flow_89 C hZ6 hZ35)) h79
  have h74 := az_iload C dX6_flow_74 h76
  have h72 := az_iload C dX6_flow_72 h74
  have h70 := az_istore C (by decide) dX6_flow_70 h72
  have h69 := az_iald C dX6_flow_69 h70
  have h68 := az_iadd C dX6_flow_68 h69
  have h66 := az_iload C dX6_flow_66 h68
  have h65 := az_imul C dX6_flow_65 h66
  have h64 := az_iconst (x := (nI 4)) C dX6_flow_64 (by decide +kernel) h65
  have h62 := az_iload C dX6_flow_62 h64
  have h61 := az_aald2 C dX6_flow_61 h62
  have h60 := az_iload_n C 3 rfl dX6_flow_60 h61
  have h57 := az_getR (T := TX1) (N := 3) (j := 2) C gwRX1 rfl (by decide) (by decide) iIRX1_2 mFRX6_51 rfl dX6_flow_57 h60
  have h54 := az_getR (T := TX4) (N := 10) (j := 2) C gwRX4 rfl (by decide) (by decide) iIRX4_2 mFRX6_21 rfl dX6_flow_54 h57
  have h53 := az_aload_n C 1 rfl dX6_flow_53 h54
  have h51 := az_istore C (by decide) dX6_flow_51 h53
  have h48 := az_callS C okX6_isFar knX6_isFar stX6_isFar mLRX6_57 ⟨rfl, rfl, by decide, by decide⟩ dX6_flow_48 h51
  have h46 := az_iload C dX6_flow_46 h48
  have h45 := az_iload_n C 2 rfl dX6_flow_45 h46
  have h44 := az_aload_n C 0 rfl dX6_flow_44 h45
  have h41 := az_icmp_ge (tgt := 120) C dX6_flow_41 (by decide) h120 h44
  have h38 := az_getI (T := TX8) (N := 11) (j := 1) C gwRX8 rfl (by decide) (by decide) iIRX8_1 mFRX6_9 rfl dX6_flow_38 h41
  have h37 := az_aload_n C 0 rfl dX6_flow_37 h38
  have h35 := az_iload C dX6_flow_35 h37
  exact h35
def LX6_flow_35 (Q : Option Value → az_M → Prop) (Z6 : az_T) : az_T := s_lp (fun Z => BX6_flow_35 Q Z6 Z)
theorem okLX6_flow_35 {X : az_X} {Q : Option Value → az_M → Prop} (C : az_C X cX6_flow 10 RX6 (az_ts yX6_flow cX6_flow 10 (some .int)) ({ frames := 2, cells := 0, slots := 0, locals := 124 } : Room) (some .int) Q) {Z6 : az_T} (hZ6 : az_ok X 6 Z6) : az_ok X 35 (LX6_flow_35 Q Z6) := az_loop (F := fun Z => BX6_flow_35 Q Z6 Z) (fun _ hZ => okBX6_flow_35 C hZ6 hZ)
def BX6_flow_6 (Q : Option Value → az_M → Prop) (Z6 : az_T) : az_T := (s_li 5 (s_la 0 (s_gi 9 3 (s_if2 d_ge (s_li 4 (s_ri Q)) (s_la 0 (s_li 2 (s_la 0 (s_gr 9 5 (s_li 5 (s_aa 25 (s_ic (nI 8) (s_al 20 (s_cs 3 FX6_isFar (s_si 6 (s_ic (nI 0) (s_si 7 (s_kp [true, true, true, true, true, true, true, true, false, false] (LX6_flow_35 Q Z6))))))))))))))))))
theorem okBX6_flow_6 {X : az_X} {Q : Option Value → az_M → Prop} (C : az_C X cX6_flow 10 RX6 (az_ts yX6_flow cX6_flow 10 (some .int)) ({ frames := 2, cells := 0, slots := 0, locals := 124 } : Room) (some .int) Q) {Z6 : az_T} (hZ6 : az_ok X 6 Z6) : az_ok X 6 (BX6_flow_6 Q Z6) := by
  have h128 := az_ireturn C rfl dX6_flow_128
  have h126 := az_iload C dX6_flow_126 h128
  have h33 := az_istore C (by decide) dX6_flow_33 (az_keep [true, true, true, true, true, true, true, true, false, false] (okLX6_flow_35 C hZ6))
  have h32 := az_iconst (x := (nI 0)) C dX6_flow_32 (by decide +kernel) h33
  have h30 := az_istore C (by decide) dX6_flow_30 h32
  have h27 := az_callS C okX6_isFar knX6_isFar stX6_isFar mLRX6_57 ⟨rfl, rfl, by decide, by decide⟩ dX6_flow_27 h30
  have h26 := az_iald C dX6_flow_26 h27
  have h24 := az_bipush (x := (nI 8)) C dX6_flow_24 (by decide +kernel) h26
  have h23 := az_aald2 C dX6_flow_23 h24
  have h21 := az_iload C dX6_flow_21 h23
  have h18 := az_getR (T := TX8) (N := 11) (j := 5) C gwRX8 rfl (by decide) (by decide) iIRX8_5 mFRX6_54 rfl dX6_flow_18 h21
  have h17 := az_aload_n C 0 rfl dX6_flow_17 h18
  have h16 := az_iload_n C 2 rfl dX6_flow_16 h17
  have h15 := az_aload_n C 0 rfl dX6_flow_15 h16
  have h12 := az_icmp_ge (tgt := 126) C dX6_flow_12 (by decide) h126 h15
  have h9 := az_getI (T := TX8) (N := 11) (j := 3) C gwRX8 rfl (by decide) (by decide) iIRX8_3 mFRX6_48 rfl dX6_flow_9 h12
  have h8 := az_aload_n C 0 rfl dX6_flow_8 h9
  have h6 := az_iload C dX6_flow_6 h8
  exact h6
def LX6_flow_6 (Q : Option Value → az_M → Prop) : az_T := s_lp (fun Z => BX6_flow_6 Q Z)
theorem okLX6_flow_6 {X : az_X} {Q : Option Value → az_M → Prop} (C : az_C X cX6_flow 10 RX6 (az_ts yX6_flow cX6_flow 10 (some .int)) ({ frames := 2, cells := 0, slots := 0, locals := 124 } : Room) (some .int) Q) : az_ok X 6 (LX6_flow_6 Q) := az_loop (F := fun Z => BX6_flow_6 Q Z) (fun _ hZ => okBX6_flow_6 C hZ)
def PX6_flow (Q : Option Value → az_M → Prop) : az_T := (s_ic (nI 0) (s_si 4 (s_ic (nI 0) (s_si 5 (s_kp [true, true, true, true, true, true, false, false, false, false] (LX6_flow_6 Q))))))
def FX6_flow : az_F := az_fun [true, true, false, false] 10 PX6_flow
theorem okX6_flow (l : Launch) : az_met l yX6_flow cX6_flow 10 (some .int) ({ frames := 2, cells := 0, slots := 0, locals := 124 } : Room) FX6_flow := az_met_of (own := RX6) (by decide +kernel) rfl (by decide) (fun X Q C => by
  have h4 := az_istore C (by decide) dX6_flow_4 (az_keep [true, true, true, true, true, true, false, false, false, false] (okLX6_flow_6 C))
  have h3 := az_iconst (x := (nI 0)) C dX6_flow_3 (by decide +kernel) h4
  have h1 := az_istore C (by decide) dX6_flow_1 h3
  have h0 := az_iconst (x := (nI 0)) C dX6_flow_0 (by decide +kernel) h1
  exact h0) l
theorem dX6_cost_0 : decode cX6_cost 0 = .ok (.iconst 0, 1) := by decide +kernel
theorem dX6_cost_1 : decode cX6_cost 1 = .ok (.istore_n 3, 1) := by decide +kernel
theorem dX6_cost_2 : decode cX6_cost 2 = .ok (.iconst 0, 1) := by decide +kernel
theorem dX6_cost_3 : decode cX6_cost 3 = .ok (.istore 4, 2) := by decide +kernel
theorem dX6_cost_5 : decode cX6_cost 5 = .ok (.iload 4, 2) := by decide +kernel
theorem dX6_cost_7 : decode cX6_cost 7 = .ok (.aload_n 0, 1) := by decide +kernel
theorem dX6_cost_8 : decode cX6_cost 8 = .ok (.getfield 48, 3) := by decide +kernel
theorem dX6_cost_11 : decode cX6_cost 11 = .ok (.if_icmp .ge 115, 3) := by decide +kernel
theorem dX6_cost_14 : decode cX6_cost 14 = .ok (.aload_n 1, 1) := by decide +kernel
theorem dX6_cost_15 : decode cX6_cost 15 = .ok (.getfield 65, 3) := by decide +kernel
theorem dX6_cost_18 : decode cX6_cost 18 = .ok (.iload 4, 2) := by decide +kernel
theorem dX6_cost_20 : decode cX6_cost 20 = .ok (.aaload, 1) := by decide +kernel
theorem dX6_cost_21 : decode cX6_cost 21 = .ok (.iload_n 2, 1) := by decide +kernel
theorem dX6_cost_22 : decode cX6_cost 22 = .ok (.iaload, 1) := by decide +kernel
theorem dX6_cost_23 : decode cX6_cost 23 = .ok (.istore 5, 2) := by decide +kernel
theorem dX6_cost_25 : decode cX6_cost 25 = .ok (.iconst 0, 1) := by decide +kernel
theorem dX6_cost_26 : decode cX6_cost 26 = .ok (.istore 6, 2) := by decide +kernel
theorem dX6_cost_28 : decode cX6_cost 28 = .ok (.iload 6, 2) := by decide +kernel
theorem dX6_cost_30 : decode cX6_cost 30 = .ok (.aload_n 0, 1) := by decide +kernel
theorem dX6_cost_31 : decode cX6_cost 31 = .ok (.getfield 9, 3) := by decide +kernel
theorem dX6_cost_34 : decode cX6_cost 34 = .ok (.if_icmp .ge 31, 3) := by decide +kernel
theorem dX6_cost_37 : decode cX6_cost 37 = .ok (.iload 5, 2) := by decide +kernel
theorem dX6_cost_39 : decode cX6_cost 39 = .ok (.aload_n 1, 1) := by decide +kernel
theorem dX6_cost_40 : decode cX6_cost 40 = .ok (.getfield 21, 3) := by decide +kernel
theorem dX6_cost_43 : decode cX6_cost 43 = .ok (.getfield 51, 3) := by decide +kernel
theorem dX6_cost_46 : decode cX6_cost 46 = .ok (.iload_n 2, 1) := by decide +kernel
theorem dX6_cost_47 : decode cX6_cost 47 = .ok (.aaload, 1) := by decide +kernel
theorem dX6_cost_48 : decode cX6_cost 48 = .ok (.iload 4, 2) := by decide +kernel
theorem dX6_cost_50 : decode cX6_cost 50 = .ok (.iconst 4, 1) := by decide +kernel
theorem dX6_cost_51 : decode cX6_cost 51 = .ok (.imul, 1) := by decide +kernel
theorem dX6_cost_52 : decode cX6_cost 52 = .ok (.iload 6, 2) := by decide +kernel
theorem dX6_cost_54 : decode cX6_cost 54 = .ok (.iadd, 1) := by decide +kernel
theorem dX6_cost_55 : decode cX6_cost 55 = .ok (.iaload, 1) := by decide +kernel
theorem dX6_cost_56 : decode cX6_cost 56 = .ok (.iadd, 1) := by decide +kernel
theorem dX6_cost_57 : decode cX6_cost 57 = .ok (.istore 5, 2) := by decide +kernel
theorem dX6_cost_59 : decode cX6_cost 59 = .ok (.iinc 6 1, 3) := by decide +kernel
theorem dX6_cost_62 : decode cX6_cost 62 = .ok (.goto (-34), 3) := by decide +kernel
theorem dX6_cost_65 : decode cX6_cost 65 = .ok (.iload_n 3, 1) := by decide +kernel
theorem dX6_cost_66 : decode cX6_cost 66 = .ok (.iload 5, 2) := by decide +kernel
theorem dX6_cost_68 : decode cX6_cost 68 = .ok (.aload_n 0, 1) := by decide +kernel
theorem dX6_cost_69 : decode cX6_cost 69 = .ok (.getfield 54, 3) := by decide +kernel
theorem dX6_cost_72 : decode cX6_cost 72 = .ok (.iload 4, 2) := by decide +kernel
theorem dX6_cost_74 : decode cX6_cost 74 = .ok (.aaload, 1) := by decide +kernel
theorem dX6_cost_75 : decode cX6_cost 75 = .ok (.bipush 12, 2) := by decide +kernel
theorem dX6_cost_77 : decode cX6_cost 77 = .ok (.iaload, 1) := by decide +kernel
theorem dX6_cost_78 : decode cX6_cost 78 = .ok (.imul, 1) := by decide +kernel
theorem dX6_cost_79 : decode cX6_cost 79 = .ok (.aload_n 1, 1) := by decide +kernel
theorem dX6_cost_80 : decode cX6_cost 80 = .ok (.getfield 68, 3) := by decide +kernel
theorem dX6_cost_83 : decode cX6_cost 83 = .ok (.iload 4, 2) := by decide +kernel
theorem dX6_cost_85 : decode cX6_cost 85 = .ok (.aaload, 1) := by decide +kernel
theorem dX6_cost_86 : decode cX6_cost 86 = .ok (.iload_n 2, 1) := by decide +kernel
theorem dX6_cost_87 : decode cX6_cost 87 = .ok (.iaload, 1) := by decide +kernel
theorem dX6_cost_88 : decode cX6_cost 88 = .ok (.iadd, 1) := by decide +kernel
theorem dX6_cost_89 : decode cX6_cost 89 = .ok (.iadd, 1) := by decide +kernel
theorem dX6_cost_90 : decode cX6_cost 90 = .ok (.istore_n 3, 1) := by decide +kernel
theorem dX6_cost_91 : decode cX6_cost 91 = .ok (.iload_n 3, 1) := by decide +kernel
theorem dX6_cost_92 : decode cX6_cost 92 = .ok (.aload_n 1, 1) := by decide +kernel
theorem dX6_cost_93 : decode cX6_cost 93 = .ok (.getfield 71, 3) := by decide +kernel
theorem dX6_cost_96 : decode cX6_cost 96 = .ok (.iload 4, 2) := by decide +kernel
theorem dX6_cost_98 : decode cX6_cost 98 = .ok (.iload_n 2, 1) := by decide +kernel
theorem dX6_cost_99 : decode cX6_cost 99 = .ok (.invokevirtual 75, 3) := by decide +kernel
theorem dX6_cost_102 : decode cX6_cost 102 = .ok (.ifCond .eq 15, 3) := by decide +kernel
theorem dX6_cost_105 : decode cX6_cost 105 = .ok (.aload_n 0, 1) := by decide +kernel
theorem dX6_cost_106 : decode cX6_cost 106 = .ok (.getfield 54, 3) := by decide +kernel
theorem dX6_cost_109 : decode cX6_cost 109 = .ok (.iload 4, 2) := by decide +kernel
theorem dX6_cost_111 : decode cX6_cost 111 = .ok (.aaload, 1) := by decide +kernel
theorem dX6_cost_112 : decode cX6_cost 112 = .ok (.iconst 0, 1) := by decide +kernel
theorem dX6_cost_113 : decode cX6_cost 113 = .ok (.iaload, 1) := by decide +kernel
theorem dX6_cost_114 : decode cX6_cost 114 = .ok (.goto 4, 3) := by decide +kernel
theorem dX6_cost_117 : decode cX6_cost 117 = .ok (.iconst 0, 1) := by decide +kernel
theorem dX6_cost_118 : decode cX6_cost 118 = .ok (.iadd, 1) := by decide +kernel
theorem dX6_cost_119 : decode cX6_cost 119 = .ok (.istore_n 3, 1) := by decide +kernel
theorem dX6_cost_120 : decode cX6_cost 120 = .ok (.iinc 4 1, 3) := by decide +kernel
theorem dX6_cost_123 : decode cX6_cost 123 = .ok (.goto (-118), 3) := by decide +kernel
theorem dX6_cost_126 : decode cX6_cost 126 = .ok (.iload_n 3, 1) := by decide +kernel
theorem dX6_cost_127 : decode cX6_cost 127 = .ok (.ireturn, 1) := by decide +kernel
def LX6_cost_118 (Q : Option Value → az_M → Prop) (Z5 : az_T) : az_T := (s_bin f_add (s_si 3 (s_inc 4 (nI 1) (s_kp [true, true, true, true, true, false, false] Z5))))
theorem okLX6_cost_118 {X : az_X} {Q : Option Value → az_M → Prop} (C : az_C X cX6_cost 7 RX6 (az_ts yX6_cost cX6_cost 7 (some .int)) ({ frames := 2, cells := 0, slots := 0, locals := 122 } : Room) (some .int) Q) {Z5 : az_T} (hZ5 : az_ok X 5 Z5) : az_ok X 118 (LX6_cost_118 Q Z5) := by
  have h123 := az_goto (tgt := 5) C dX6_cost_123 (by decide) (az_keep [true, true, true, true, true, false, false] hZ5)
  have h120 := az_iinc (v := (nI 1)) C (by decide) (by decide +kernel) dX6_cost_120 h123
  have h119 := az_istore_n C 3 rfl (by decide) dX6_cost_119 h120
  have h118 := az_iadd C dX6_cost_118 h119
  exact h118
def BX6_cost_28 (Q : Option Value → az_M → Prop) (Z5 : az_T) (Z28 : az_T) : az_T := (s_li 6 (s_la 0 (s_gi 9 1 (s_if2 d_ge (s_li 3 (s_li 5 (s_la 0 (s_gr 9 5 (s_li 4 (s_aa 25 (s_ic (nI 12) (s_al 20 (s_bin f_mul (s_la 1 (s_gr 6 7 (s_li 4 (s_aa 25 (s_li 2 (s_al 20 (s_bin f_add (s_bin f_add (s_si 3 (s_li 3 (s_la 1 (s_gr 6 1 (s_li 4 (s_li 2 (s_cv 2 10 FX9_runs (s_if c_eq (s_ic (nI 0) (s_kp [true, true, true, false, true, false, false] (LX6_cost_118 Q Z5))) (s_la 0 (s_gr 9 5 (s_li 4 (s_aa 25 (s_ic (nI 0) (s_al 20 (s_kp [true, true, true, false, true, false, false] (LX6_cost_118 Q Z5))))))))))))))))))))))))))))))))) (s_li 5 (s_la 1 (s_gr 6 2 (s_gr 3 2 (s_li 2 (s_aa 25 (s_li 4 (s_ic (nI 4) (s_bin f_mul (s_li 6 (s_bin f_add (s_al 20 (s_bin f_add (s_si 5 (s_inc 6 (nI 1) (s_kp [true, true, true, true, true, true, true] Z28))))))))))))))))))))
theorem okBX6_cost_28 {X : az_X} {Q : Option Value → az_M → Prop} (C : az_C X cX6_cost 7 RX6 (az_ts yX6_cost cX6_cost 7 (some .int)) ({ frames := 2, cells := 0, slots := 0, locals := 122 } : Room) (some .int) Q) {Z5 : az_T} (hZ5 : az_ok X 5 Z5) {Z28 : az_T} (hZ28 : az_ok X 28 Z28) : az_ok X 28 (BX6_cost_28 Q Z5 Z28) := by
  have h117 := az_iconst (x := (nI 0)) C dX6_cost_117 (by decide +kernel) (az_keep [true, true, true, false, true, false, false] (okLX6_cost_118 C hZ5))
  have h114 := az_goto (tgt := 118) C dX6_cost_114 (by decide) (az_keep [true, true, true, false, true, false, false] (okLX6_cost_118 C hZ5))
  have h113 := az_iald C dX6_cost_113 h114
  have h112 := az_iconst (x := (nI 0)) C dX6_cost_112 (by decide +kernel) h113
  have h111 := az_aald2 C dX6_cost_111 h112
  have h109 := az_iload C dX6_cost_109 h111
  have h106 := az_getR (T := TX8) (N := 11) (j := 5) C gwRX8 rfl (by decide) (by decide) iIRX8_5 mFRX6_54 rfl dX6_cost_106 h109
  have h105 := az_aload_n C 0 rfl dX6_cost_105 h106
  have h102 := az_if_eq (tgt := 117) C dX6_cost_102 (by decide) h117 h105
  have h99 := az_callVN (ci := 10) C okX9_runs knX9_runs imX9_runs seX9_runs mNRX6_75 rfl (by decide) ⟨rfl, rfl, by decide, by decide⟩ dX6_cost_99 h102
  have h98 := az_iload_n C 2 rfl dX6_cost_98 h99
  have h96 := az_iload C dX6_cost_96 h98
  have h93 := az_getR (T := TX4) (N := 10) (j := 1) C gwRX4 rfl (by decide) (by decide) iIRX4_1 mFRX6_71 rfl dX6_cost_93 h96
  have h92 := az_aload_n C 1 rfl dX6_cost_92 h93
  have h91 := az_iload_n C 3 rfl dX6_cost_91 h92
  have h90 := az_istore_n C 3 rfl (by decide) dX6_cost_90 h91
  have h89 := az_iadd C dX6_cost_89 h90
  have h88 := az_iadd C dX6_cost_88 h89
  have h87 := az_iald C dX6_cost_87 h88
  have h86 := az_iload_n C 2 rfl dX6_cost_86 h87
  have h85 := az_aald2 C dX6_cost_85 h86
  have h83 := az_iload C dX6_cost_83 h85
  have h80 := az_getR (T := TX4) (N := 10) (j := 7) C gwRX4 rfl (by decide) (by decide) iIRX4_7 mFRX6_68 rfl dX6_cost_80 h83
  have h79 := az_aload_n C 1 rfl dX6_cost_79 h80
  have h78 := az_imul C dX6_cost_78 h79
  have h77 := az_iald C dX6_cost_77 h78
  have h75 := az_bipush (x := (nI 12)) C dX6_cost_75 (by decide +kernel) h77
  have h74 := az_aald2 C dX6_cost_74 h75
  have h72 := az_iload C dX6_cost_72 h74
  have h69 := az_getR (T := TX8) (N := 11) (j := 5) C gwRX8 rfl (by decide) (by decide) iIRX8_5 mFRX6_54 rfl dX6_cost_69 h72
  have h68 := az_aload_n C 0 rfl dX6_cost_68 h69
  have h66 := az_iload C dX6_cost_66 h68
  have h65 := az_iload_n C 3 rfl dX6_cost_65 h66
  have h62 := az_goto (tgt := 28) C dX6_cost_62 (by decide) (az_keep [true, true, true, true, true, true, true] hZ28)
  have h59 := az_iinc (v := (nI 1)) C (by decide) (by decide +kernel) dX6_cost_59 h62
  have h57 := az_istore C (by decide) dX6_cost_57 h59
  have h56 := az_iadd C dX6_cost_56 h57
  have h55 := az_iald C dX6_cost_55 h56
  have h54 := az_iadd C dX6_cost_54 h55
  have h52 := az_iload C dX6_cost_52 h54
  have h51 := az_imul C dX6_cost_51 h52
  have h50 := az_iconst (x := (nI 4)) C dX6_cost_50 (by decide +kernel) h51
  have h48 := az_iload C dX6_cost_48 h50
  have h47 := az_aald2 C dX6_cost_47 h48
  have h46 := az_iload_n C 2 rfl dX6_cost_46 h47
  have h43 := az_getR (T := TX1) (N := 3) (j := 2) C gwRX1 rfl (by decide) (by decide) iIRX1_2 mFRX6_51 rfl dX6_cost_43 h46
  have h40 := az_getR (T := TX4) (N := 10) (j := 2) C gwRX4 rfl (by decide) (by decide) iIRX4_2 mFRX6_21 rfl dX6_cost_40 h43
  have h39 := az_aload_n C 1 rfl dX6_cost_39 h40
  have h37 := az_iload C dX6_cost_37 h39
  have h34 := az_icmp_ge (tgt := 65) C dX6_cost_34 (by decide) h65 h37
  have h31 := az_getI (T := TX8) (N := 11) (j := 1) C gwRX8 rfl (by decide) (by decide) iIRX8_1 mFRX6_9 rfl dX6_cost_31 h34
  have h30 := az_aload_n C 0 rfl dX6_cost_30 h31
  have h28 := az_iload C dX6_cost_28 h30
  exact h28
def LX6_cost_28 (Q : Option Value → az_M → Prop) (Z5 : az_T) : az_T := s_lp (fun Z => BX6_cost_28 Q Z5 Z)
theorem okLX6_cost_28 {X : az_X} {Q : Option Value → az_M → Prop} (C : az_C X cX6_cost 7 RX6 (az_ts yX6_cost cX6_cost 7 (some .int)) ({ frames := 2, cells := 0, slots := 0, locals := 122 } : Room) (some .int) Q) {Z5 : az_T} (hZ5 : az_ok X 5 Z5) : az_ok X 28 (LX6_cost_28 Q Z5) := az_loop (F := fun Z => BX6_cost_28 Q Z5 Z) (fun _ hZ => okBX6_cost_28 C hZ5 hZ)
def BX6_cost_5 (Q : Option Value → az_M → Prop) (Z5 : az_T) : az_T := (s_li 4 (s_la 0 (s_gi 9 3 (s_if2 d_ge (s_li 3 (s_ri Q)) (s_la 1 (s_gr 6 6 (s_li 4 (s_aa 25 (s_li 2 (s_al 20 (s_si 5 (s_ic (nI 0) (s_si 6 (s_kp [true, true, true, true, true, true, true] (LX6_cost_28 Q Z5)))))))))))))))
theorem okBX6_cost_5 {X : az_X} {Q : Option Value → az_M → Prop} (C : az_C X cX6_cost 7 RX6 (az_ts yX6_cost cX6_cost 7 (some .int)) ({ frames := 2, cells := 0, slots := 0, locals := 122 } : Room) (some .int) Q) {Z5 : az_T} (hZ5 : az_ok X 5 Z5) : az_ok X 5 (BX6_cost_5 Q Z5) := by
  have h127 := az_ireturn C rfl dX6_cost_127
  have h126 := az_iload_n C 3 rfl dX6_cost_126 h127
  have h26 := az_istore C (by decide) dX6_cost_26 (az_keep [true, true, true, true, true, true, true] (okLX6_cost_28 C hZ5))
  have h25 := az_iconst (x := (nI 0)) C dX6_cost_25 (by decide +kernel) h26
  have h23 := az_istore C (by decide) dX6_cost_23 h25
  have h22 := az_iald C dX6_cost_22 h23
  have h21 := az_iload_n C 2 rfl dX6_cost_21 h22
  have h20 := az_aald2 C dX6_cost_20 h21
  have h18 := az_iload C dX6_cost_18 h20
  have h15 := az_getR (T := TX4) (N := 10) (j := 6) C gwRX4 rfl (by decide) (by decide) iIRX4_6 mFRX6_65 rfl dX6_cost_15 h18
  have h14 := az_aload_n C 1 rfl dX6_cost_14 h15
  have h11 := az_icmp_ge (tgt := 126) C dX6_cost_11 (by decide) h126 h14
  have h8 := az_getI (T := TX8) (N := 11) (j := 3) C gwRX8 rfl (by decide) (by decide) iIRX8_3 mFRX6_48 rfl dX6_cost_8 h11
  have h7 := az_aload_n C 0 rfl dX6_cost_7 h8
  have h5 := az_iload C dX6_cost_5 h7
  exact h5
def LX6_cost_5 (Q : Option Value → az_M → Prop) : az_T := s_lp (fun Z => BX6_cost_5 Q Z)
theorem okLX6_cost_5 {X : az_X} {Q : Option Value → az_M → Prop} (C : az_C X cX6_cost 7 RX6 (az_ts yX6_cost cX6_cost 7 (some .int)) ({ frames := 2, cells := 0, slots := 0, locals := 122 } : Room) (some .int) Q) : az_ok X 5 (LX6_cost_5 Q) := az_loop (F := fun Z => BX6_cost_5 Q Z) (fun _ hZ => okBX6_cost_5 C hZ)
def PX6_cost (Q : Option Value → az_M → Prop) : az_T := (s_ic (nI 0) (s_si 3 (s_ic (nI 0) (s_si 4 (s_kp [true, true, true, true, true, false, false] (LX6_cost_5 Q))))))
def FX6_cost : az_F := az_fun [true, true, false] 7 PX6_cost
theorem okX6_cost (l : Launch) : az_met l yX6_cost cX6_cost 7 (some .int) ({ frames := 2, cells := 0, slots := 0, locals := 122 } : Room) FX6_cost := az_met_of (own := RX6) (by decide +kernel) rfl (by decide) (fun X Q C => by
  have h3 := az_istore C (by decide) dX6_cost_3 (az_keep [true, true, true, true, true, false, false] (okLX6_cost_5 C))
  have h2 := az_iconst (x := (nI 0)) C dX6_cost_2 (by decide +kernel) h3
  have h1 := az_istore_n C 3 rfl (by decide) dX6_cost_1 h2
  have h0 := az_iconst (x := (nI 0)) C dX6_cost_0 (by decide +kernel) h1
  exact h0) l
theorem dX6_agrees_0 : decode cX6_agrees 0 = .ok (.iconst 0, 1) := by decide +kernel
theorem dX6_agrees_1 : decode cX6_agrees 1 = .ok (.istore_n 3, 1) := by decide +kernel
theorem dX6_agrees_2 : decode cX6_agrees 2 = .ok (.iload_n 3, 1) := by decide +kernel
theorem dX6_agrees_3 : decode cX6_agrees 3 = .ok (.aload_n 0, 1) := by decide +kernel
theorem dX6_agrees_4 : decode cX6_agrees 4 = .ok (.getfield 9, 3) := by decide +kernel
theorem dX6_agrees_7 : decode cX6_agrees 7 = .ok (.if_icmp .ge 68, 3) := by decide +kernel
theorem dX6_agrees_10 : decode cX6_agrees 10 = .ok (.aload_n 0, 1) := by decide +kernel
theorem dX6_agrees_11 : decode cX6_agrees 11 = .ok (.aload_n 1, 1) := by decide +kernel
theorem dX6_agrees_12 : decode cX6_agrees 12 = .ok (.iload_n 3, 1) := by decide +kernel
theorem dX6_agrees_13 : decode cX6_agrees 13 = .ok (.iload_n 2, 1) := by decide +kernel
theorem dX6_agrees_14 : decode cX6_agrees 14 = .ok (.invokestatic 15, 3) := by decide +kernel
theorem dX6_agrees_17 : decode cX6_agrees 17 = .ok (.aload_n 1, 1) := by decide +kernel
theorem dX6_agrees_18 : decode cX6_agrees 18 = .ok (.getfield 21, 3) := by decide +kernel
theorem dX6_agrees_21 : decode cX6_agrees 21 = .ok (.getfield 27, 3) := by decide +kernel
theorem dX6_agrees_24 : decode cX6_agrees 24 = .ok (.iload_n 3, 1) := by decide +kernel
theorem dX6_agrees_25 : decode cX6_agrees 25 = .ok (.aaload, 1) := by decide +kernel
theorem dX6_agrees_26 : decode cX6_agrees 26 = .ok (.iload_n 2, 1) := by decide +kernel
theorem dX6_agrees_27 : decode cX6_agrees 27 = .ok (.iaload, 1) := by decide +kernel
theorem dX6_agrees_28 : decode cX6_agrees 28 = .ok (.iadd, 1) := by decide +kernel
theorem dX6_agrees_29 : decode cX6_agrees 29 = .ok (.aload_n 0, 1) := by decide +kernel
theorem dX6_agrees_30 : decode cX6_agrees 30 = .ok (.getfield 33, 3) := by decide +kernel
theorem dX6_agrees_33 : decode cX6_agrees 33 = .ok (.iload_n 3, 1) := by decide +kernel
theorem dX6_agrees_34 : decode cX6_agrees 34 = .ok (.aaload, 1) := by decide +kernel
theorem dX6_agrees_35 : decode cX6_agrees 35 = .ok (.iload_n 2, 1) := by decide +kernel
theorem dX6_agrees_36 : decode cX6_agrees 36 = .ok (.iaload, 1) := by decide +kernel
theorem dX6_agrees_37 : decode cX6_agrees 37 = .ok (.if_icmp .eq 5, 3) := by decide +kernel
theorem dX6_agrees_40 : decode cX6_agrees 40 = .ok (.iconst 0, 1) := by decide +kernel
theorem dX6_agrees_41 : decode cX6_agrees 41 = .ok (.ireturn, 1) := by decide +kernel
theorem dX6_agrees_42 : decode cX6_agrees 42 = .ok (.iload_n 3, 1) := by decide +kernel
theorem dX6_agrees_43 : decode cX6_agrees 43 = .ok (.ifCond .le 26, 3) := by decide +kernel
theorem dX6_agrees_46 : decode cX6_agrees 46 = .ok (.aload_n 0, 1) := by decide +kernel
theorem dX6_agrees_47 : decode cX6_agrees 47 = .ok (.aload_n 1, 1) := by decide +kernel
theorem dX6_agrees_48 : decode cX6_agrees 48 = .ok (.iload_n 3, 1) := by decide +kernel
theorem dX6_agrees_49 : decode cX6_agrees 49 = .ok (.iload_n 2, 1) := by decide +kernel
theorem dX6_agrees_50 : decode cX6_agrees 50 = .ok (.invokestatic 36, 3) := by decide +kernel
theorem dX6_agrees_53 : decode cX6_agrees 53 = .ok (.aload_n 1, 1) := by decide +kernel
theorem dX6_agrees_54 : decode cX6_agrees 54 = .ok (.getfield 21, 3) := by decide +kernel
theorem dX6_agrees_57 : decode cX6_agrees 57 = .ok (.getfield 39, 3) := by decide +kernel
theorem dX6_agrees_60 : decode cX6_agrees 60 = .ok (.iload_n 3, 1) := by decide +kernel
theorem dX6_agrees_61 : decode cX6_agrees 61 = .ok (.aaload, 1) := by decide +kernel
theorem dX6_agrees_62 : decode cX6_agrees 62 = .ok (.iload_n 2, 1) := by decide +kernel
theorem dX6_agrees_63 : decode cX6_agrees 63 = .ok (.iaload, 1) := by decide +kernel
theorem dX6_agrees_64 : decode cX6_agrees 64 = .ok (.if_icmp .eq 5, 3) := by decide +kernel
theorem dX6_agrees_67 : decode cX6_agrees 67 = .ok (.iconst 0, 1) := by decide +kernel
theorem dX6_agrees_68 : decode cX6_agrees 68 = .ok (.ireturn, 1) := by decide +kernel
theorem dX6_agrees_69 : decode cX6_agrees 69 = .ok (.iinc 3 1, 3) := by decide +kernel
theorem dX6_agrees_72 : decode cX6_agrees 72 = .ok (.goto (-70), 3) := by decide +kernel
theorem dX6_agrees_75 : decode cX6_agrees 75 = .ok (.aload_n 0, 1) := by decide +kernel
theorem dX6_agrees_76 : decode cX6_agrees 76 = .ok (.aload_n 1, 1) := by decide +kernel
theorem dX6_agrees_77 : decode cX6_agrees 77 = .ok (.iload_n 2, 1) := by decide +kernel
theorem dX6_agrees_78 : decode cX6_agrees 78 = .ok (.invokestatic 41, 3) := by decide +kernel
theorem dX6_agrees_81 : decode cX6_agrees 81 = .ok (.aload_n 1, 1) := by decide +kernel
theorem dX6_agrees_82 : decode cX6_agrees 82 = .ok (.getfield 45, 3) := by decide +kernel
theorem dX6_agrees_85 : decode cX6_agrees 85 = .ok (.iconst 0, 1) := by decide +kernel
theorem dX6_agrees_86 : decode cX6_agrees 86 = .ok (.aaload, 1) := by decide +kernel
theorem dX6_agrees_87 : decode cX6_agrees 87 = .ok (.iload_n 2, 1) := by decide +kernel
theorem dX6_agrees_88 : decode cX6_agrees 88 = .ok (.iaload, 1) := by decide +kernel
theorem dX6_agrees_89 : decode cX6_agrees 89 = .ok (.if_icmp .ne 7, 3) := by decide +kernel
theorem dX6_agrees_92 : decode cX6_agrees 92 = .ok (.iconst 1, 1) := by decide +kernel
theorem dX6_agrees_93 : decode cX6_agrees 93 = .ok (.goto 4, 3) := by decide +kernel
theorem dX6_agrees_96 : decode cX6_agrees 96 = .ok (.iconst 0, 1) := by decide +kernel
theorem dX6_agrees_97 : decode cX6_agrees 97 = .ok (.ireturn, 1) := by decide +kernel
def LX6_agrees_97 (Q : Option Value → az_M → Prop) : az_T := (s_rz Q)
theorem okLX6_agrees_97 {X : az_X} {Q : Option Value → az_M → Prop} (C : az_C X cX6_agrees 4 RX6 (az_ts yX6_agrees cX6_agrees 4 (some .boolean)) ({ frames := 3, cells := 0, slots := 0, locals := 153 } : Room) (some .boolean) Q) : az_ok X 97 (LX6_agrees_97 Q) := by
  have h97 := az_zreturn C rfl dX6_agrees_97
  exact h97
def LX6_agrees_69 (Q : Option Value → az_M → Prop) (Z2 : az_T) : az_T := (s_inc 3 (nI 1) (s_kp [true, true, true, true] Z2))
theorem okLX6_agrees_69 {X : az_X} {Q : Option Value → az_M → Prop} (C : az_C X cX6_agrees 4 RX6 (az_ts yX6_agrees cX6_agrees 4 (some .boolean)) ({ frames := 3, cells := 0, slots := 0, locals := 153 } : Room) (some .boolean) Q) {Z2 : az_T} (hZ2 : az_ok X 2 Z2) : az_ok X 69 (LX6_agrees_69 Q Z2) := by
  have h72 := az_goto (tgt := 2) C dX6_agrees_72 (by decide) (az_keep [true, true, true, true] hZ2)
  have h69 := az_iinc (v := (nI 1)) C (by decide) (by decide +kernel) dX6_agrees_69 h72
  exact h69
def BX6_agrees_2 (Q : Option Value → az_M → Prop) (Z2 : az_T) : az_T := (s_li 3 (s_la 0 (s_gi 9 1 (s_if2 d_ge (s_la 0 (s_la 1 (s_li 2 (s_cs 3 FX6_cost (s_la 1 (s_gr 6 8 (s_ic (nI 0) (s_aa 25 (s_li 2 (s_al 20 (s_if2 d_ne (s_ic (nI 0) (s_kp [false, false, false, false] (LX6_agrees_97 Q))) (s_ic (nI 1) (s_kp [false, false, false, false] (LX6_agrees_97 Q)))))))))))))) (s_la 0 (s_la 1 (s_li 3 (s_li 2 (s_cs 4 FX6_met (s_la 1 (s_gr 6 2 (s_gr 3 0 (s_li 3 (s_aa 25 (s_li 2 (s_al 20 (s_bin f_add (s_la 0 (s_gr 9 7 (s_li 3 (s_aa 25 (s_li 2 (s_al 20 (s_if2 d_eq (s_li 3 (s_if c_le (s_kp [true, true, true, true] (LX6_agrees_69 Q Z2)) (s_la 0 (s_la 1 (s_li 3 (s_li 2 (s_cs 4 FX6_flow (s_la 1 (s_gr 6 2 (s_gr 3 1 (s_li 3 (s_aa 25 (s_li 2 (s_al 20 (s_if2 d_eq (s_kp [true, true, true, true] (LX6_agrees_69 Q Z2)) (s_ic (nI 0) (s_rz Q))))))))))))))))) (s_ic (nI 0) (s_rz Q))))))))))))))))))))))))))
theorem okBX6_agrees_2 {X : az_X} {Q : Option Value → az_M → Prop} (C : az_C X cX6_agrees 4 RX6 (az_ts yX6_agrees cX6_agrees 4 (some .boolean)) ({ frames := 3, cells := 0, slots := 0, locals := 153 } : Room) (some .boolean) Q) {Z2 : az_T} (hZ2 : az_ok X 2 Z2) : az_ok X 2 (BX6_agrees_2 Q Z2) := by
  have h96 := az_iconst (x := (nI 0)) C dX6_agrees_96 (by decide +kernel) (az_keep [false, false, false, false] (okLX6_agrees_97 C))
  have h93 := az_goto (tgt := 97) C dX6_agrees_93 (by decide) (az_keep [false, false, false, false] (okLX6_agrees_97 C))
  have h92 := az_iconst (x := (nI 1)) C dX6_agrees_92 (by decide +kernel) h93
  have h89 := az_icmp_ne (tgt := 96) C dX6_agrees_89 (by decide) h96 h92
  have h88 := az_iald C dX6_agrees_88 h89
  have h87 := az_iload_n C 2 rfl dX6_agrees_87 h88
  have h86 := az_aald2 C dX6_agrees_86 h87
  have h85 := az_iconst (x := (nI 0)) C dX6_agrees_85 (by decide +kernel) h86
  have h82 := az_getR (T := TX4) (N := 10) (j := 8) C gwRX4 rfl (by decide) (by decide) iIRX4_8 mFRX6_45 rfl dX6_agrees_82 h85
  have h81 := az_aload_n C 1 rfl dX6_agrees_81 h82
  have h78 := az_callS C okX6_cost knX6_cost stX6_cost mLRX6_41 ⟨rfl, rfl, by decide, by decide⟩ dX6_agrees_78 h81
  have h77 := az_iload_n C 2 rfl dX6_agrees_77 h78
  have h76 := az_aload_n C 1 rfl dX6_agrees_76 h77
  have h75 := az_aload_n C 0 rfl dX6_agrees_75 h76
  have h68 := az_zreturn C rfl dX6_agrees_68
  have h67 := az_iconst (x := (nI 0)) C dX6_agrees_67 (by decide +kernel) h68
  have h64 := az_icmp_eq (tgt := 69) C dX6_agrees_64 (by decide) (az_keep [true, true, true, true] (okLX6_agrees_69 C hZ2)) h67
  have h63 := az_iald C dX6_agrees_63 h64
  have h62 := az_iload_n C 2 rfl dX6_agrees_62 h63
  have h61 := az_aald2 C dX6_agrees_61 h62
  have h60 := az_iload_n C 3 rfl dX6_agrees_60 h61
  have h57 := az_getR (T := TX1) (N := 3) (j := 1) C gwRX1 rfl (by decide) (by decide) iIRX1_1 mFRX6_39 rfl dX6_agrees_57 h60
  have h54 := az_getR (T := TX4) (N := 10) (j := 2) C gwRX4 rfl (by decide) (by decide) iIRX4_2 mFRX6_21 rfl dX6_agrees_54 h57
  have h53 := az_aload_n C 1 rfl dX6_agrees_53 h54
  have h50 := az_callS C okX6_flow knX6_flow stX6_flow mLRX6_36 ⟨rfl, rfl, by decide, by decide⟩ dX6_agrees_50 h53
  have h49 := az_iload_n C 2 rfl dX6_agrees_49 h50
  have h48 := az_iload_n C 3 rfl dX6_agrees_48 h49
  have h47 := az_aload_n C 1 rfl dX6_agrees_47 h48
  have h46 := az_aload_n C 0 rfl dX6_agrees_46 h47
  have h43 := az_if_le (tgt := 69) C dX6_agrees_43 (by decide) (az_keep [true, true, true, true] (okLX6_agrees_69 C hZ2)) h46
  have h42 := az_iload_n C 3 rfl dX6_agrees_42 h43
  have h41 := az_zreturn C rfl dX6_agrees_41
  have h40 := az_iconst (x := (nI 0)) C dX6_agrees_40 (by decide +kernel) h41
  have h37 := az_icmp_eq (tgt := 42) C dX6_agrees_37 (by decide) h42 h40
  have h36 := az_iald C dX6_agrees_36 h37
  have h35 := az_iload_n C 2 rfl dX6_agrees_35 h36
  have h34 := az_aald2 C dX6_agrees_34 h35
  have h33 := az_iload_n C 3 rfl dX6_agrees_33 h34
  have h30 := az_getR (T := TX8) (N := 11) (j := 7) C gwRX8 rfl (by decide) (by decide) iIRX8_7 mFRX6_33 rfl dX6_agrees_30 h33
  have h29 := az_aload_n C 0 rfl dX6_agrees_29 h30
  have h28 := az_iadd C dX6_agrees_28 h29
  have h27 := az_iald C dX6_agrees_27 h28
  have h26 := az_iload_n C 2 rfl dX6_agrees_26 h27
  have h25 := az_aald2 C dX6_agrees_25 h26
  have h24 := az_iload_n C 3 rfl dX6_agrees_24 h25
  have h21 := az_getR (T := TX1) (N := 3) (j := 0) C gwRX1 rfl (by decide) (by decide) iIRX1_0 mFRX6_27 rfl dX6_agrees_21 h24
  have h18 := az_getR (T := TX4) (N := 10) (j := 2) C gwRX4 rfl (by decide) (by decide) iIRX4_2 mFRX6_21 rfl dX6_agrees_18 h21
  have h17 := az_aload_n C 1 rfl dX6_agrees_17 h18
  have h14 := az_callS C okX6_met knX6_met stX6_met mLRX6_15 ⟨rfl, rfl, by decide, by decide⟩ dX6_agrees_14 h17
  have h13 := az_iload_n C 2 rfl dX6_agrees_13 h14
  have h12 := az_iload_n C 3 rfl dX6_agrees_12 h13
  have h11 := az_aload_n C 1 rfl dX6_agrees_11 h12
  have h10 := az_aload_n C 0 rfl dX6_agrees_10 h11
  have h7 := az_icmp_ge (tgt := 75) C dX6_agrees_7 (by decide) h75 h10
  have h4 := az_getI (T := TX8) (N := 11) (j := 1) C gwRX8 rfl (by decide) (by decide) iIRX8_1 mFRX6_9 rfl dX6_agrees_4 h7
  have h3 := az_aload_n C 0 rfl dX6_agrees_3 h4
  have h2 := az_iload_n C 3 rfl dX6_agrees_2 h3
  exact h2
def LX6_agrees_2 (Q : Option Value → az_M → Prop) : az_T := s_lp (fun Z => BX6_agrees_2 Q Z)
theorem okLX6_agrees_2 {X : az_X} {Q : Option Value → az_M → Prop} (C : az_C X cX6_agrees 4 RX6 (az_ts yX6_agrees cX6_agrees 4 (some .boolean)) ({ frames := 3, cells := 0, slots := 0, locals := 153 } : Room) (some .boolean) Q) : az_ok X 2 (LX6_agrees_2 Q) := az_loop (F := fun Z => BX6_agrees_2 Q Z) (fun _ hZ => okBX6_agrees_2 C hZ)
def PX6_agrees (Q : Option Value → az_M → Prop) : az_T := (s_ic (nI 0) (s_si 3 (s_kp [true, true, true, true] (LX6_agrees_2 Q))))
def FX6_agrees : az_F := az_fun [true, true, false] 4 PX6_agrees
theorem okX6_agrees (l : Launch) : az_met l yX6_agrees cX6_agrees 4 (some .boolean) ({ frames := 3, cells := 0, slots := 0, locals := 153 } : Room) FX6_agrees := az_met_of (own := RX6) (by decide +kernel) rfl (by decide) (fun X Q C => by
  have h1 := az_istore_n C 3 rfl (by decide) dX6_agrees_1 (az_keep [true, true, true, true] (okLX6_agrees_2 C))
  have h0 := az_iconst (x := (nI 0)) C dX6_agrees_0 (by decide +kernel) h1
  exact h0) l
theorem dX7_leaveChoice_0 : decode cX7_leaveChoice 0 = .ok (.iload_n 1, 1) := by decide +kernel
theorem dX7_leaveChoice_1 : decode cX7_leaveChoice 1 = .ok (.ifCond .lt 13, 3) := by decide +kernel
theorem dX7_leaveChoice_4 : decode cX7_leaveChoice 4 = .ok (.aload_n 0, 1) := by decide +kernel
theorem dX7_leaveChoice_5 : decode cX7_leaveChoice 5 = .ok (.getfield 9, 3) := by decide +kernel
theorem dX7_leaveChoice_8 : decode cX7_leaveChoice 8 = .ok (.iload_n 1, 1) := by decide +kernel
theorem dX7_leaveChoice_9 : decode cX7_leaveChoice 9 = .ok (.dup2, 1) := by decide +kernel
theorem dX7_leaveChoice_10 : decode cX7_leaveChoice 10 = .ok (.iaload, 1) := by decide +kernel
theorem dX7_leaveChoice_11 : decode cX7_leaveChoice 11 = .ok (.iconst 1, 1) := by decide +kernel
theorem dX7_leaveChoice_12 : decode cX7_leaveChoice 12 = .ok (.isub, 1) := by decide +kernel
theorem dX7_leaveChoice_13 : decode cX7_leaveChoice 13 = .ok (.iastore, 1) := by decide +kernel
theorem dX7_leaveChoice_14 : decode cX7_leaveChoice 14 = .ok (.return_, 1) := by decide +kernel
def LX7_leaveChoice_14 (Q : Option Value → az_M → Prop) : az_T := (s_rv Q)
theorem okLX7_leaveChoice_14 {X : az_X} {Q : Option Value → az_M → Prop} (C : az_C X cX7_leaveChoice 2 RX7 (az_ts yX7_leaveChoice cX7_leaveChoice 2 none) ({ frames := 1, cells := 0, slots := 0, locals := 100 } : Room) none Q) : az_ok X 14 (LX7_leaveChoice_14 Q) := by
  have h14 := az_vreturn C rfl dX7_leaveChoice_14
  exact h14
def PX7_leaveChoice (Q : Option Value → az_M → Prop) : az_T := (s_li 1 (s_if c_lt (s_kp [false, false] (LX7_leaveChoice_14 Q)) (s_la 0 (s_gr 8 0 (s_li 1 (s_dup2 (s_al 20 (s_ic (nI 1) (s_bin f_sub (s_as (s_kp [false, false] (LX7_leaveChoice_14 Q))))))))))))
def FX7_leaveChoice : az_F := az_fun [true, false] 2 PX7_leaveChoice
theorem okX7_leaveChoice (l : Launch) : az_met l yX7_leaveChoice cX7_leaveChoice 2 none ({ frames := 1, cells := 0, slots := 0, locals := 100 } : Room) FX7_leaveChoice := az_met_of (own := RX7) (by decide +kernel) rfl (by decide) (fun X Q C => by
  have h13 := az_iast C dX7_leaveChoice_13 (az_keep [false, false] (okLX7_leaveChoice_14 C))
  have h12 := az_isub C dX7_leaveChoice_12 h13
  have h11 := az_iconst (x := (nI 1)) C dX7_leaveChoice_11 (by decide +kernel) h12
  have h10 := az_iald C dX7_leaveChoice_10 h11
  have h9 := az_dup2 C dX7_leaveChoice_9 h10
  have h8 := az_iload_n C 1 rfl dX7_leaveChoice_8 h9
  have h5 := az_getR (T := TX7) (N := 6) (j := 0) C gwRX7 rfl (by decide) (by decide) iIRX7_0 mFRX7_9 rfl dX7_leaveChoice_5 h8
  have h4 := az_aload_n C 0 rfl dX7_leaveChoice_4 h5
  have h1 := az_if_lt (tgt := 14) C dX7_leaveChoice_1 (by decide) (az_keep [false, false] (okLX7_leaveChoice_14 C)) h4
  have h0 := az_iload_n C 1 rfl dX7_leaveChoice_0 h1
  exact h0) l
theorem dX9_breach_0 : decode cX9_breach 0 = .ok (.iload 4, 2) := by decide +kernel
theorem dX9_breach_2 : decode cX9_breach 2 = .ok (.iload_n 2, 1) := by decide +kernel
theorem dX9_breach_3 : decode cX9_breach 3 = .ok (.ishr, 1) := by decide +kernel
theorem dX9_breach_4 : decode cX9_breach 4 = .ok (.iconst 1, 1) := by decide +kernel
theorem dX9_breach_5 : decode cX9_breach 5 = .ok (.iand, 1) := by decide +kernel
theorem dX9_breach_6 : decode cX9_breach 6 = .ok (.iconst 1, 1) := by decide +kernel
theorem dX9_breach_7 : decode cX9_breach 7 = .ok (.if_icmp .ne 7, 3) := by decide +kernel
theorem dX9_breach_10 : decode cX9_breach 10 = .ok (.iconst 1, 1) := by decide +kernel
theorem dX9_breach_11 : decode cX9_breach 11 = .ok (.goto 4, 3) := by decide +kernel
theorem dX9_breach_14 : decode cX9_breach 14 = .ok (.iconst 0, 1) := by decide +kernel
theorem dX9_breach_15 : decode cX9_breach 15 = .ok (.istore 6, 2) := by decide +kernel
theorem dX9_breach_17 : decode cX9_breach 17 = .ok (.iload 5, 2) := by decide +kernel
theorem dX9_breach_19 : decode cX9_breach 19 = .ok (.iload_n 2, 1) := by decide +kernel
theorem dX9_breach_20 : decode cX9_breach 20 = .ok (.ishr, 1) := by decide +kernel
theorem dX9_breach_21 : decode cX9_breach 21 = .ok (.iconst 1, 1) := by decide +kernel
theorem dX9_breach_22 : decode cX9_breach 22 = .ok (.iand, 1) := by decide +kernel
theorem dX9_breach_23 : decode cX9_breach 23 = .ok (.iconst 1, 1) := by decide +kernel
theorem dX9_breach_24 : decode cX9_breach 24 = .ok (.if_icmp .ne 14, 3) := by decide +kernel
theorem dX9_breach_27 : decode cX9_breach 27 = .ok (.iload 6, 2) := by decide +kernel
theorem dX9_breach_29 : decode cX9_breach 29 = .ok (.ifCond .eq 7, 3) := by decide +kernel
theorem dX9_breach_32 : decode cX9_breach 32 = .ok (.iconst 3, 1) := by decide +kernel
theorem dX9_breach_33 : decode cX9_breach 33 = .ok (.goto 4, 3) := by decide +kernel
theorem dX9_breach_36 : decode cX9_breach 36 = .ok (.iconst 0, 1) := by decide +kernel
theorem dX9_breach_37 : decode cX9_breach 37 = .ok (.ireturn, 1) := by decide +kernel
theorem dX9_breach_38 : decode cX9_breach 38 = .ok (.iload 6, 2) := by decide +kernel
theorem dX9_breach_40 : decode cX9_breach 40 = .ok (.ifCond .eq 19, 3) := by decide +kernel
theorem dX9_breach_43 : decode cX9_breach 43 = .ok (.aload_n 0, 1) := by decide +kernel
theorem dX9_breach_44 : decode cX9_breach 44 = .ok (.aload_n 1, 1) := by decide +kernel
theorem dX9_breach_45 : decode cX9_breach 45 = .ok (.iload_n 2, 1) := by decide +kernel
theorem dX9_breach_46 : decode cX9_breach 46 = .ok (.iload_n 3, 1) := by decide +kernel
theorem dX9_breach_47 : decode cX9_breach 47 = .ok (.invokevirtual 45, 3) := by decide +kernel
theorem dX9_breach_50 : decode cX9_breach 50 = .ok (.ifCond .eq 7, 3) := by decide +kernel
theorem dX9_breach_53 : decode cX9_breach 53 = .ok (.iconst 2, 1) := by decide +kernel
theorem dX9_breach_54 : decode cX9_breach 54 = .ok (.goto 4, 3) := by decide +kernel
theorem dX9_breach_57 : decode cX9_breach 57 = .ok (.iconst 0, 1) := by decide +kernel
theorem dX9_breach_58 : decode cX9_breach 58 = .ok (.ireturn, 1) := by decide +kernel
theorem dX9_breach_59 : decode cX9_breach 59 = .ok (.aload_n 0, 1) := by decide +kernel
theorem dX9_breach_60 : decode cX9_breach 60 = .ok (.aload_n 1, 1) := by decide +kernel
theorem dX9_breach_61 : decode cX9_breach 61 = .ok (.iload_n 2, 1) := by decide +kernel
theorem dX9_breach_62 : decode cX9_breach 62 = .ok (.iload_n 3, 1) := by decide +kernel
theorem dX9_breach_63 : decode cX9_breach 63 = .ok (.invokevirtual 49, 3) := by decide +kernel
theorem dX9_breach_66 : decode cX9_breach 66 = .ok (.ifCond .eq 7, 3) := by decide +kernel
theorem dX9_breach_69 : decode cX9_breach 69 = .ok (.iconst 1, 1) := by decide +kernel
theorem dX9_breach_70 : decode cX9_breach 70 = .ok (.goto 4, 3) := by decide +kernel
theorem dX9_breach_73 : decode cX9_breach 73 = .ok (.iconst 0, 1) := by decide +kernel
theorem dX9_breach_74 : decode cX9_breach 74 = .ok (.ireturn, 1) := by decide +kernel
def LX9_breach_74 (Q : Option Value → az_M → Prop) : az_T := (s_ri Q)
theorem okLX9_breach_74 {X : az_X} {Q : Option Value → az_M → Prop} (C : az_C X cX9_breach 7 RX9 (az_ts yX9_breach cX9_breach 7 (some .int)) ({ frames := 3, cells := 0, slots := 0, locals := 145 } : Room) (some .int) Q) : az_ok X 74 (LX9_breach_74 Q) := by
  have h74 := az_ireturn C rfl dX9_breach_74
  exact h74
def LX9_breach_58 (Q : Option Value → az_M → Prop) : az_T := (s_ri Q)
theorem okLX9_breach_58 {X : az_X} {Q : Option Value → az_M → Prop} (C : az_C X cX9_breach 7 RX9 (az_ts yX9_breach cX9_breach 7 (some .int)) ({ frames := 3, cells := 0, slots := 0, locals := 145 } : Room) (some .int) Q) : az_ok X 58 (LX9_breach_58 Q) := by
  have h58 := az_ireturn C rfl dX9_breach_58
  exact h58
def LX9_breach_37 (Q : Option Value → az_M → Prop) : az_T := (s_ri Q)
theorem okLX9_breach_37 {X : az_X} {Q : Option Value → az_M → Prop} (C : az_C X cX9_breach 7 RX9 (az_ts yX9_breach cX9_breach 7 (some .int)) ({ frames := 3, cells := 0, slots := 0, locals := 145 } : Room) (some .int) Q) : az_ok X 37 (LX9_breach_37 Q) := by
  have h37 := az_ireturn C rfl dX9_breach_37
  exact h37
def LX9_breach_15 (Q : Option Value → az_M → Prop) : az_T := (s_si 6 (s_li 5 (s_li 2 (s_bin f_shr (s_ic (nI 1) (s_bin f_and (s_ic (nI 1) (s_if2 d_ne (s_li 6 (s_if c_eq (s_la 0 (s_la 1 (s_li 2 (s_li 3 (s_cv 3 10 FX9_mustStay (s_if c_eq (s_ic (nI 0) (s_kp [false, false, false, false, false, false, false] (LX9_breach_74 Q))) (s_ic (nI 1) (s_kp [false, false, false, false, false, false, false] (LX9_breach_74 Q))))))))) (s_la 0 (s_la 1 (s_li 2 (s_li 3 (s_cv 3 10 FX9_mustRest (s_if c_eq (s_ic (nI 0) (s_kp [false, false, false, false, false, false, false] (LX9_breach_58 Q))) (s_ic (nI 2) (s_kp [false, false, false, false, false, false, false] (LX9_breach_58 Q))))))))))) (s_li 6 (s_if c_eq (s_ic (nI 0) (s_kp [false, false, false, false, false, false, false] (LX9_breach_37 Q))) (s_ic (nI 3) (s_kp [false, false, false, false, false, false, false] (LX9_breach_37 Q)))))))))))))
theorem okLX9_breach_15 {X : az_X} {Q : Option Value → az_M → Prop} (C : az_C X cX9_breach 7 RX9 (az_ts yX9_breach cX9_breach 7 (some .int)) ({ frames := 3, cells := 0, slots := 0, locals := 145 } : Room) (some .int) Q) : az_ok X 15 (LX9_breach_15 Q) := by
  have h73 := az_iconst (x := (nI 0)) C dX9_breach_73 (by decide +kernel) (az_keep [false, false, false, false, false, false, false] (okLX9_breach_74 C))
  have h70 := az_goto (tgt := 74) C dX9_breach_70 (by decide) (az_keep [false, false, false, false, false, false, false] (okLX9_breach_74 C))
  have h69 := az_iconst (x := (nI 1)) C dX9_breach_69 (by decide +kernel) h70
  have h66 := az_if_eq (tgt := 73) C dX9_breach_66 (by decide) h73 h69
  have h63 := az_callV (ci := 10) C okX9_mustStay knX9_mustStay imX9_mustStay seX9_mustStay mLRX9_49 rfl (by decide) ⟨rfl, rfl, by decide, by decide⟩ dX9_breach_63 h66
  have h62 := az_iload_n C 3 rfl dX9_breach_62 h63
  have h61 := az_iload_n C 2 rfl dX9_breach_61 h62
  have h60 := az_aload_n C 1 rfl dX9_breach_60 h61
  have h59 := az_aload_n C 0 rfl dX9_breach_59 h60
  have h57 := az_iconst (x := (nI 0)) C dX9_breach_57 (by decide +kernel) (az_keep [false, false, false, false, false, false, false] (okLX9_breach_58 C))
  have h54 := az_goto (tgt := 58) C dX9_breach_54 (by decide) (az_keep [false, false, false, false, false, false, false] (okLX9_breach_58 C))
  have h53 := az_iconst (x := (nI 2)) C dX9_breach_53 (by decide +kernel) h54
  have h50 := az_if_eq (tgt := 57) C dX9_breach_50 (by decide) h57 h53
  have h47 := az_callV (ci := 10) C okX9_mustRest knX9_mustRest imX9_mustRest seX9_mustRest mLRX9_45 rfl (by decide) ⟨rfl, rfl, by decide, by decide⟩ dX9_breach_47 h50
  have h46 := az_iload_n C 3 rfl dX9_breach_46 h47
  have h45 := az_iload_n C 2 rfl dX9_breach_45 h46
  have h44 := az_aload_n C 1 rfl dX9_breach_44 h45
  have h43 := az_aload_n C 0 rfl dX9_breach_43 h44
  have h40 := az_if_eq (tgt := 59) C dX9_breach_40 (by decide) h59 h43
  have h38 := az_iload C dX9_breach_38 h40
  have h36 := az_iconst (x := (nI 0)) C dX9_breach_36 (by decide +kernel) (az_keep [false, false, false, false, false, false, false] (okLX9_breach_37 C))
  have h33 := az_goto (tgt := 37) C dX9_breach_33 (by decide) (az_keep [false, false, false, false, false, false, false] (okLX9_breach_37 C))
  have h32 := az_iconst (x := (nI 3)) C dX9_breach_32 (by decide +kernel) h33
  have h29 := az_if_eq (tgt := 36) C dX9_breach_29 (by decide) h36 h32
  have h27 := az_iload C dX9_breach_27 h29
  have h24 := az_icmp_ne (tgt := 38) C dX9_breach_24 (by decide) h38 h27
  have h23 := az_iconst (x := (nI 1)) C dX9_breach_23 (by decide +kernel) h24
  have h22 := az_iand C dX9_breach_22 h23
  have h21 := az_iconst (x := (nI 1)) C dX9_breach_21 (by decide +kernel) h22
  have h20 := az_ishr C dX9_breach_20 h21
  have h19 := az_iload_n C 2 rfl dX9_breach_19 h20
  have h17 := az_iload C dX9_breach_17 h19
  have h15 := az_istore C (by decide) dX9_breach_15 h17
  exact h15
def PX9_breach (Q : Option Value → az_M → Prop) : az_T := (s_li 4 (s_li 2 (s_bin f_shr (s_ic (nI 1) (s_bin f_and (s_ic (nI 1) (s_if2 d_ne (s_ic (nI 0) (s_kp [true, true, true, true, false, true, false] (LX9_breach_15 Q))) (s_ic (nI 1) (s_kp [true, true, true, true, false, true, false] (LX9_breach_15 Q))))))))))
def FX9_breach : az_F := az_fun [true, true, false, false, false, false] 7 PX9_breach
theorem okX9_breach (l : Launch) : az_met l yX9_breach cX9_breach 7 (some .int) ({ frames := 3, cells := 0, slots := 0, locals := 145 } : Room) FX9_breach := az_met_of (own := RX9) (by decide +kernel) rfl (by decide) (fun X Q C => by
  have h14 := az_iconst (x := (nI 0)) C dX9_breach_14 (by decide +kernel) (az_keep [true, true, true, true, false, true, false] (okLX9_breach_15 C))
  have h11 := az_goto (tgt := 15) C dX9_breach_11 (by decide) (az_keep [true, true, true, true, false, true, false] (okLX9_breach_15 C))
  have h10 := az_iconst (x := (nI 1)) C dX9_breach_10 (by decide +kernel) h11
  have h7 := az_icmp_ne (tgt := 14) C dX9_breach_7 (by decide) h14 h10
  have h6 := az_iconst (x := (nI 1)) C dX9_breach_6 (by decide +kernel) h7
  have h5 := az_iand C dX9_breach_5 h6
  have h4 := az_iconst (x := (nI 1)) C dX9_breach_4 (by decide +kernel) h5
  have h3 := az_ishr C dX9_breach_3 h4
  have h2 := az_iload_n C 2 rfl dX9_breach_2 h3
  have h0 := az_iload C dX9_breach_0 h2
  exact h0) l
theorem dX7_isWorthwhile_0 : decode cX7_isWorthwhile 0 = .ok (.iconst 0, 1) := by decide +kernel
theorem dX7_isWorthwhile_1 : decode cX7_isWorthwhile 1 = .ok (.istore 4, 2) := by decide +kernel
theorem dX7_isWorthwhile_3 : decode cX7_isWorthwhile 3 = .ok (.iload 4, 2) := by decide +kernel
theorem dX7_isWorthwhile_5 : decode cX7_isWorthwhile 5 = .ok (.aload_n 1, 1) := by decide +kernel
theorem dX7_isWorthwhile_6 : decode cX7_isWorthwhile 6 = .ok (.getfield 32, 3) := by decide +kernel
theorem dX7_isWorthwhile_9 : decode cX7_isWorthwhile 9 = .ok (.if_icmp .ge 40, 3) := by decide +kernel
theorem dX7_isWorthwhile_12 : decode cX7_isWorthwhile 12 = .ok (.aload_n 2, 1) := by decide +kernel
theorem dX7_isWorthwhile_13 : decode cX7_isWorthwhile 13 = .ok (.getfield 43, 3) := by decide +kernel
theorem dX7_isWorthwhile_16 : decode cX7_isWorthwhile 16 = .ok (.aload_n 1, 1) := by decide +kernel
theorem dX7_isWorthwhile_17 : decode cX7_isWorthwhile 17 = .ok (.iload 4, 2) := by decide +kernel
theorem dX7_isWorthwhile_19 : decode cX7_isWorthwhile 19 = .ok (.iload_n 3, 1) := by decide +kernel
theorem dX7_isWorthwhile_20 : decode cX7_isWorthwhile 20 = .ok (.aload_n 0, 1) := by decide +kernel
theorem dX7_isWorthwhile_21 : decode cX7_isWorthwhile 21 = .ok (.getfield 9, 3) := by decide +kernel
theorem dX7_isWorthwhile_24 : decode cX7_isWorthwhile 24 = .ok (.iload_n 3, 1) := by decide +kernel
theorem dX7_isWorthwhile_25 : decode cX7_isWorthwhile 25 = .ok (.iaload, 1) := by decide +kernel
theorem dX7_isWorthwhile_26 : decode cX7_isWorthwhile 26 = .ok (.aload_n 2, 1) := by decide +kernel
theorem dX7_isWorthwhile_27 : decode cX7_isWorthwhile 27 = .ok (.getfield 68, 3) := by decide +kernel
theorem dX7_isWorthwhile_30 : decode cX7_isWorthwhile 30 = .ok (.getfield 72, 3) := by decide +kernel
theorem dX7_isWorthwhile_33 : decode cX7_isWorthwhile 33 = .ok (.iload_n 3, 1) := by decide +kernel
theorem dX7_isWorthwhile_34 : decode cX7_isWorthwhile 34 = .ok (.iaload, 1) := by decide +kernel
theorem dX7_isWorthwhile_35 : decode cX7_isWorthwhile 35 = .ok (.invokevirtual 77, 3) := by decide +kernel
theorem dX7_isWorthwhile_38 : decode cX7_isWorthwhile 38 = .ok (.ifCond .eq 5, 3) := by decide +kernel
theorem dX7_isWorthwhile_41 : decode cX7_isWorthwhile 41 = .ok (.iconst 0, 1) := by decide +kernel
theorem dX7_isWorthwhile_42 : decode cX7_isWorthwhile 42 = .ok (.ireturn, 1) := by decide +kernel
theorem dX7_isWorthwhile_43 : decode cX7_isWorthwhile 43 = .ok (.iinc 4 1, 3) := by decide +kernel
theorem dX7_isWorthwhile_46 : decode cX7_isWorthwhile 46 = .ok (.goto (-43), 3) := by decide +kernel
theorem dX7_isWorthwhile_49 : decode cX7_isWorthwhile 49 = .ok (.aload_n 2, 1) := by decide +kernel
theorem dX7_isWorthwhile_50 : decode cX7_isWorthwhile 50 = .ok (.aload_n 1, 1) := by decide +kernel
theorem dX7_isWorthwhile_51 : decode cX7_isWorthwhile 51 = .ok (.iload_n 3, 1) := by decide +kernel
theorem dX7_isWorthwhile_52 : decode cX7_isWorthwhile 52 = .ok (.aload_n 0, 1) := by decide +kernel
theorem dX7_isWorthwhile_53 : decode cX7_isWorthwhile 53 = .ok (.getfield 9, 3) := by decide +kernel
theorem dX7_isWorthwhile_56 : decode cX7_isWorthwhile 56 = .ok (.iload_n 3, 1) := by decide +kernel
theorem dX7_isWorthwhile_57 : decode cX7_isWorthwhile 57 = .ok (.iaload, 1) := by decide +kernel
theorem dX7_isWorthwhile_58 : decode cX7_isWorthwhile 58 = .ok (.invokevirtual 81, 3) := by decide +kernel
theorem dX7_isWorthwhile_61 : decode cX7_isWorthwhile 61 = .ok (.aload_n 0, 1) := by decide +kernel
theorem dX7_isWorthwhile_62 : decode cX7_isWorthwhile 62 = .ok (.getfield 15, 3) := by decide +kernel
theorem dX7_isWorthwhile_65 : decode cX7_isWorthwhile 65 = .ok (.iload_n 3, 1) := by decide +kernel
theorem dX7_isWorthwhile_66 : decode cX7_isWorthwhile 66 = .ok (.aload_n 2, 1) := by decide +kernel
theorem dX7_isWorthwhile_67 : decode cX7_isWorthwhile 67 = .ok (.getfield 85, 3) := by decide +kernel
theorem dX7_isWorthwhile_70 : decode cX7_isWorthwhile 70 = .ok (.iconst 0, 1) := by decide +kernel
theorem dX7_isWorthwhile_71 : decode cX7_isWorthwhile 71 = .ok (.aaload, 1) := by decide +kernel
theorem dX7_isWorthwhile_72 : decode cX7_isWorthwhile 72 = .ok (.iload_n 3, 1) := by decide +kernel
theorem dX7_isWorthwhile_73 : decode cX7_isWorthwhile 73 = .ok (.iaload, 1) := by decide +kernel
theorem dX7_isWorthwhile_74 : decode cX7_isWorthwhile 74 = .ok (.aload_n 2, 1) := by decide +kernel
theorem dX7_isWorthwhile_75 : decode cX7_isWorthwhile 75 = .ok (.getfield 85, 3) := by decide +kernel
theorem dX7_isWorthwhile_78 : decode cX7_isWorthwhile 78 = .ok (.iconst 1, 1) := by decide +kernel
theorem dX7_isWorthwhile_79 : decode cX7_isWorthwhile 79 = .ok (.aaload, 1) := by decide +kernel
theorem dX7_isWorthwhile_80 : decode cX7_isWorthwhile 80 = .ok (.iload_n 3, 1) := by decide +kernel
theorem dX7_isWorthwhile_81 : decode cX7_isWorthwhile 81 = .ok (.iaload, 1) := by decide +kernel
theorem dX7_isWorthwhile_82 : decode cX7_isWorthwhile 82 = .ok (.iadd, 1) := by decide +kernel
theorem dX7_isWorthwhile_83 : decode cX7_isWorthwhile 83 = .ok (.iload_n 3, 1) := by decide +kernel
theorem dX7_isWorthwhile_84 : decode cX7_isWorthwhile 84 = .ok (.ifCond .le 14, 3) := by decide +kernel
theorem dX7_isWorthwhile_87 : decode cX7_isWorthwhile 87 = .ok (.aload_n 0, 1) := by decide +kernel
theorem dX7_isWorthwhile_88 : decode cX7_isWorthwhile 88 = .ok (.getfield 15, 3) := by decide +kernel
theorem dX7_isWorthwhile_91 : decode cX7_isWorthwhile 91 = .ok (.iload_n 3, 1) := by decide +kernel
theorem dX7_isWorthwhile_92 : decode cX7_isWorthwhile 92 = .ok (.iconst 1, 1) := by decide +kernel
theorem dX7_isWorthwhile_93 : decode cX7_isWorthwhile 93 = .ok (.isub, 1) := by decide +kernel
theorem dX7_isWorthwhile_94 : decode cX7_isWorthwhile 94 = .ok (.iaload, 1) := by decide +kernel
theorem dX7_isWorthwhile_95 : decode cX7_isWorthwhile 95 = .ok (.goto 4, 3) := by decide +kernel
theorem dX7_isWorthwhile_98 : decode cX7_isWorthwhile 98 = .ok (.iconst 0, 1) := by decide +kernel
theorem dX7_isWorthwhile_99 : decode cX7_isWorthwhile 99 = .ok (.iadd, 1) := by decide +kernel
theorem dX7_isWorthwhile_100 : decode cX7_isWorthwhile 100 = .ok (.iastore, 1) := by decide +kernel
theorem dX7_isWorthwhile_101 : decode cX7_isWorthwhile 101 = .ok (.aload_n 0, 1) := by decide +kernel
theorem dX7_isWorthwhile_102 : decode cX7_isWorthwhile 102 = .ok (.getfield 28, 3) := by decide +kernel
theorem dX7_isWorthwhile_105 : decode cX7_isWorthwhile 105 = .ok (.ifCond .eq 16, 3) := by decide +kernel
theorem dX7_isWorthwhile_108 : decode cX7_isWorthwhile 108 = .ok (.aload_n 0, 1) := by decide +kernel
theorem dX7_isWorthwhile_109 : decode cX7_isWorthwhile 109 = .ok (.getfield 15, 3) := by decide +kernel
theorem dX7_isWorthwhile_112 : decode cX7_isWorthwhile 112 = .ok (.iload_n 3, 1) := by decide +kernel
theorem dX7_isWorthwhile_113 : decode cX7_isWorthwhile 113 = .ok (.iaload, 1) := by decide +kernel
theorem dX7_isWorthwhile_114 : decode cX7_isWorthwhile 114 = .ok (.aload_n 0, 1) := by decide +kernel
theorem dX7_isWorthwhile_115 : decode cX7_isWorthwhile 115 = .ok (.getfield 25, 3) := by decide +kernel
theorem dX7_isWorthwhile_118 : decode cX7_isWorthwhile 118 = .ok (.if_icmp .gt 7, 3) := by decide +kernel
theorem dX7_isWorthwhile_121 : decode cX7_isWorthwhile 121 = .ok (.iconst 1, 1) := by decide +kernel
theorem dX7_isWorthwhile_122 : decode cX7_isWorthwhile 122 = .ok (.goto 4, 3) := by decide +kernel
theorem dX7_isWorthwhile_125 : decode cX7_isWorthwhile 125 = .ok (.iconst 0, 1) := by decide +kernel
theorem dX7_isWorthwhile_126 : decode cX7_isWorthwhile 126 = .ok (.ireturn, 1) := by decide +kernel
def LX7_isWorthwhile_126 (Q : Option Value → az_M → Prop) : az_T := (s_rz Q)
theorem okLX7_isWorthwhile_126 {X : az_X} {Q : Option Value → az_M → Prop} (C : az_C X cX7_isWorthwhile 5 RX7 (az_ts yX7_isWorthwhile cX7_isWorthwhile 5 (some .boolean)) ({ frames := 5, cells := 0, slots := 0, locals := 210 } : Room) (some .boolean) Q) : az_ok X 126 (LX7_isWorthwhile_126 Q) := by
  have h126 := az_zreturn C rfl dX7_isWorthwhile_126
  exact h126
def LX7_isWorthwhile_121 (Q : Option Value → az_M → Prop) : az_T := (s_ic (nI 1) (s_kp [false, false, false, false, false] (LX7_isWorthwhile_126 Q)))
theorem okLX7_isWorthwhile_121 {X : az_X} {Q : Option Value → az_M → Prop} (C : az_C X cX7_isWorthwhile 5 RX7 (az_ts yX7_isWorthwhile cX7_isWorthwhile 5 (some .boolean)) ({ frames := 5, cells := 0, slots := 0, locals := 210 } : Room) (some .boolean) Q) : az_ok X 121 (LX7_isWorthwhile_121 Q) := by
  have h122 := az_goto (tgt := 126) C dX7_isWorthwhile_122 (by decide) (az_keep [false, false, false, false, false] (okLX7_isWorthwhile_126 C))
  have h121 := az_iconst (x := (nI 1)) C dX7_isWorthwhile_121 (by decide +kernel) h122
  exact h121
def LX7_isWorthwhile_99 (Q : Option Value → az_M → Prop) : az_T := (s_bin f_add (s_as (s_la 0 (s_gi 8 5 (s_if c_eq (s_kp [false, false, false, false, false] (LX7_isWorthwhile_121 Q)) (s_la 0 (s_gr 8 1 (s_li 3 (s_al 20 (s_la 0 (s_gi 8 4 (s_if2 d_gt (s_ic (nI 0) (s_kp [false, false, false, false, false] (LX7_isWorthwhile_126 Q))) (s_kp [false, false, false, false, false] (LX7_isWorthwhile_121 Q))))))))))))))
theorem okLX7_isWorthwhile_99 {X : az_X} {Q : Option Value → az_M → Prop} (C : az_C X cX7_isWorthwhile 5 RX7 (az_ts yX7_isWorthwhile cX7_isWorthwhile 5 (some .boolean)) ({ frames := 5, cells := 0, slots := 0, locals := 210 } : Room) (some .boolean) Q) : az_ok X 99 (LX7_isWorthwhile_99 Q) := by
  have h125 := az_iconst (x := (nI 0)) C dX7_isWorthwhile_125 (by decide +kernel) (az_keep [false, false, false, false, false] (okLX7_isWorthwhile_126 C))
  have h118 := az_icmp_gt (tgt := 125) C dX7_isWorthwhile_118 (by decide) h125 (az_keep [false, false, false, false, false] (okLX7_isWorthwhile_121 C))
  have h115 := az_getI (T := TX7) (N := 6) (j := 4) C gwRX7 rfl (by decide) (by decide) iIRX7_4 mFRX7_25 rfl dX7_isWorthwhile_115 h118
  have h114 := az_aload_n C 0 rfl dX7_isWorthwhile_114 h115
  have h113 := az_iald C dX7_isWorthwhile_113 h114
  have h112 := az_iload_n C 3 rfl dX7_isWorthwhile_112 h113
  have h109 := az_getR (T := TX7) (N := 6) (j := 1) C gwRX7 rfl (by decide) (by decide) iIRX7_1 mFRX7_15 rfl dX7_isWorthwhile_109 h112
  have h108 := az_aload_n C 0 rfl dX7_isWorthwhile_108 h109
  have h105 := az_if_eq (tgt := 121) C dX7_isWorthwhile_105 (by decide) (az_keep [false, false, false, false, false] (okLX7_isWorthwhile_121 C)) h108
  have h102 := az_getI (T := TX7) (N := 6) (j := 5) C gwRX7 rfl (by decide) (by decide) iIRX7_5 mFRX7_28 rfl dX7_isWorthwhile_102 h105
  have h101 := az_aload_n C 0 rfl dX7_isWorthwhile_101 h102
  have h100 := az_iast C dX7_isWorthwhile_100 h101
  have h99 := az_iadd C dX7_isWorthwhile_99 h100
  exact h99
def BX7_isWorthwhile_3 (Q : Option Value → az_M → Prop) (Z3 : az_T) : az_T := (s_li 4 (s_la 1 (s_gi 9 3 (s_if2 d_ge (s_la 2 (s_la 1 (s_li 3 (s_la 0 (s_gr 8 0 (s_li 3 (s_al 20 (s_cv 3 6 FX4_dispatch (s_la 0 (s_gr 8 1 (s_li 3 (s_la 2 (s_gr 6 8 (s_ic (nI 0) (s_aa 25 (s_li 3 (s_al 20 (s_la 2 (s_gr 6 8 (s_ic (nI 1) (s_aa 25 (s_li 3 (s_al 20 (s_bin f_add (s_li 3 (s_if c_le (s_ic (nI 0) (s_kp [true, false, false, true, false] (LX7_isWorthwhile_99 Q))) (s_la 0 (s_gr 8 1 (s_li 3 (s_ic (nI 1) (s_bin f_sub (s_al 20 (s_kp [true, false, false, true, false] (LX7_isWorthwhile_99 Q)))))))))))))))))))))))))))))))))) (s_la 2 (s_gr 6 1 (s_la 1 (s_li 4 (s_li 3 (s_la 0 (s_gr 8 0 (s_li 3 (s_al 20 (s_la 2 (s_gr 6 0 (s_gr 2 2 (s_li 3 (s_al 20 (s_cv 5 10 FX9_breach (s_if c_eq (s_inc 4 (nI 1) (s_kp [true, true, true, true, true] Z3)) (s_ic (nI 0) (s_rz Q))))))))))))))))))))))
theorem okBX7_isWorthwhile_3 {X : az_X} {Q : Option Value → az_M → Prop} (C : az_C X cX7_isWorthwhile 5 RX7 (az_ts yX7_isWorthwhile cX7_isWorthwhile 5 (some .boolean)) ({ frames := 5, cells := 0, slots := 0, locals := 210 } : Room) (some .boolean) Q) {Z3 : az_T} (hZ3 : az_ok X 3 Z3) : az_ok X 3 (BX7_isWorthwhile_3 Q Z3) := by
  have h98 := az_iconst (x := (nI 0)) C dX7_isWorthwhile_98 (by decide +kernel) (az_keep [true, false, false, true, false] (okLX7_isWorthwhile_99 C))
  have h95 := az_goto (tgt := 99) C dX7_isWorthwhile_95 (by decide) (az_keep [true, false, false, true, false] (okLX7_isWorthwhile_99 C))
  have h94 := az_iald C dX7_isWorthwhile_94 h95
  have h93 := az_isub C dX7_isWorthwhile_93 h94
  have h92 := az_iconst (x := (nI 1)) C dX7_isWorthwhile_92 (by decide +kernel) h93
  have h91 := az_iload_n C 3 rfl dX7_isWorthwhile_91 h92
  have h88 := az_getR (T := TX7) (N := 6) (j := 1) C gwRX7 rfl (by decide) (by decide) iIRX7_1 mFRX7_15 rfl dX7_isWorthwhile_88 h91
  have h87 := az_aload_n C 0 rfl dX7_isWorthwhile_87 h88
  have h84 := az_if_le (tgt := 98) C dX7_isWorthwhile_84 (by decide) h98 h87
  have h83 := az_iload_n C 3 rfl dX7_isWorthwhile_83 h84
  have h82 := az_iadd C dX7_isWorthwhile_82 h83
  have h81 := az_iald C dX7_isWorthwhile_81 h82
  have h80 := az_iload_n C 3 rfl dX7_isWorthwhile_80 h81
  have h79 := az_aald2 C dX7_isWorthwhile_79 h80
  have h78 := az_iconst (x := (nI 1)) C dX7_isWorthwhile_78 (by decide +kernel) h79
  have h75 := az_getR (T := TX4) (N := 10) (j := 8) C gwRX4 rfl (by decide) (by decide) iIRX4_8 mFRX7_85 rfl dX7_isWorthwhile_75 h78
  have h74 := az_aload_n C 2 rfl dX7_isWorthwhile_74 h75
  have h73 := az_iald C dX7_isWorthwhile_73 h74
  have h72 := az_iload_n C 3 rfl dX7_isWorthwhile_72 h73
  have h71 := az_aald2 C dX7_isWorthwhile_71 h72
  have h70 := az_iconst (x := (nI 0)) C dX7_isWorthwhile_70 (by decide +kernel) h71
  have h67 := az_getR (T := TX4) (N := 10) (j := 8) C gwRX4 rfl (by decide) (by decide) iIRX4_8 mFRX7_85 rfl dX7_isWorthwhile_67 h70
  have h66 := az_aload_n C 2 rfl dX7_isWorthwhile_66 h67
  have h65 := az_iload_n C 3 rfl dX7_isWorthwhile_65 h66
  have h62 := az_getR (T := TX7) (N := 6) (j := 1) C gwRX7 rfl (by decide) (by decide) iIRX7_1 mFRX7_15 rfl dX7_isWorthwhile_62 h65
  have h61 := az_aload_n C 0 rfl dX7_isWorthwhile_61 h62
  have h58 := az_callVN (ci := 6) C okX4_dispatch knX4_dispatch imX4_dispatch seX4_dispatch mNRX7_81 rfl (by decide) ⟨rfl, rfl, by decide, by decide⟩ dX7_isWorthwhile_58 h61
  have h57 := az_iald C dX7_isWorthwhile_57 h58
  have h56 := az_iload_n C 3 rfl dX7_isWorthwhile_56 h57
  have h53 := az_getR (T := TX7) (N := 6) (j := 0) C gwRX7 rfl (by decide) (by decide) iIRX7_0 mFRX7_9 rfl dX7_isWorthwhile_53 h56
  have h52 := az_aload_n C 0 rfl dX7_isWorthwhile_52 h53
  have h51 := az_iload_n C 3 rfl dX7_isWorthwhile_51 h52
  have h50 := az_aload_n C 1 rfl dX7_isWorthwhile_50 h51
  have h49 := az_aload_n C 2 rfl dX7_isWorthwhile_49 h50
  have h46 := az_goto (tgt := 3) C dX7_isWorthwhile_46 (by decide) (az_keep [true, true, true, true, true] hZ3)
  have h43 := az_iinc (v := (nI 1)) C (by decide) (by decide +kernel) dX7_isWorthwhile_43 h46
  have h42 := az_zreturn C rfl dX7_isWorthwhile_42
  have h41 := az_iconst (x := (nI 0)) C dX7_isWorthwhile_41 (by decide +kernel) h42
  have h38 := az_if_eq (tgt := 43) C dX7_isWorthwhile_38 (by decide) h43 h41
  have h35 := az_callVN (ci := 10) C okX9_breach knX9_breach imX9_breach seX9_breach mNRX7_77 rfl (by decide) ⟨rfl, rfl, by decide, by decide⟩ dX7_isWorthwhile_35 h38
  have h34 := az_iald C dX7_isWorthwhile_34 h35
  have h33 := az_iload_n C 3 rfl dX7_isWorthwhile_33 h34
  have h30 := az_getR (T := TX0) (N := 3) (j := 2) C gwRX0 rfl (by decide) (by decide) iIRX0_2 mFRX7_72 rfl dX7_isWorthwhile_30 h33
  have h27 := az_getR (T := TX4) (N := 10) (j := 0) C gwRX4 rfl (by decide) (by decide) iIRX4_0 mFRX7_68 rfl dX7_isWorthwhile_27 h30
  have h26 := az_aload_n C 2 rfl dX7_isWorthwhile_26 h27
  have h25 := az_iald C dX7_isWorthwhile_25 h26
  have h24 := az_iload_n C 3 rfl dX7_isWorthwhile_24 h25
  have h21 := az_getR (T := TX7) (N := 6) (j := 0) C gwRX7 rfl (by decide) (by decide) iIRX7_0 mFRX7_9 rfl dX7_isWorthwhile_21 h24
  have h20 := az_aload_n C 0 rfl dX7_isWorthwhile_20 h21
  have h19 := az_iload_n C 3 rfl dX7_isWorthwhile_19 h20
  have h17 := az_iload C dX7_isWorthwhile_17 h19
  have h16 := az_aload_n C 1 rfl dX7_isWorthwhile_16 h17
  have h13 := az_getR (T := TX4) (N := 10) (j := 1) C gwRX4 rfl (by decide) (by decide) iIRX4_1 mFRX7_43 rfl dX7_isWorthwhile_13 h16
  have h12 := az_aload_n C 2 rfl dX7_isWorthwhile_12 h13
  have h9 := az_icmp_ge (tgt := 49) C dX7_isWorthwhile_9 (by decide) h49 h12
  have h6 := az_getI (T := TX8) (N := 11) (j := 3) C gwRX8 rfl (by decide) (by decide) iIRX8_3 mFRX7_32 rfl dX7_isWorthwhile_6 h9
  have h5 := az_aload_n C 1 rfl dX7_isWorthwhile_5 h6
  have h3 := az_iload C dX7_isWorthwhile_3 h5
  exact h3
def LX7_isWorthwhile_3 (Q : Option Value → az_M → Prop) : az_T := s_lp (fun Z => BX7_isWorthwhile_3 Q Z)
theorem okLX7_isWorthwhile_3 {X : az_X} {Q : Option Value → az_M → Prop} (C : az_C X cX7_isWorthwhile 5 RX7 (az_ts yX7_isWorthwhile cX7_isWorthwhile 5 (some .boolean)) ({ frames := 5, cells := 0, slots := 0, locals := 210 } : Room) (some .boolean) Q) : az_ok X 3 (LX7_isWorthwhile_3 Q) := az_loop (F := fun Z => BX7_isWorthwhile_3 Q Z) (fun _ hZ => okBX7_isWorthwhile_3 C hZ)
def PX7_isWorthwhile (Q : Option Value → az_M → Prop) : az_T := (s_ic (nI 0) (s_si 4 (s_kp [true, true, true, true, true] (LX7_isWorthwhile_3 Q))))
def FX7_isWorthwhile : az_F := az_fun [true, true, true, false] 5 PX7_isWorthwhile
theorem okX7_isWorthwhile (l : Launch) : az_met l yX7_isWorthwhile cX7_isWorthwhile 5 (some .boolean) ({ frames := 5, cells := 0, slots := 0, locals := 210 } : Room) FX7_isWorthwhile := az_met_of (own := RX7) (by decide +kernel) rfl (by decide) (fun X Q C => by
  have h1 := az_istore C (by decide) dX7_isWorthwhile_1 (az_keep [true, true, true, true, true] (okLX7_isWorthwhile_3 C))
  have h0 := az_iconst (x := (nI 0)) C dX7_isWorthwhile_0 (by decide +kernel) h1
  exact h0) l
theorem dX7_number_0 : decode cX7_number 0 = .ok (.iconst 0, 1) := by decide +kernel
theorem dX7_number_1 : decode cX7_number 1 = .ok (.istore_n 2, 1) := by decide +kernel
theorem dX7_number_2 : decode cX7_number 2 = .ok (.iconst 0, 1) := by decide +kernel
theorem dX7_number_3 : decode cX7_number 3 = .ok (.istore_n 3, 1) := by decide +kernel
theorem dX7_number_4 : decode cX7_number 4 = .ok (.iload_n 3, 1) := by decide +kernel
theorem dX7_number_5 : decode cX7_number 5 = .ok (.aload_n 1, 1) := by decide +kernel
theorem dX7_number_6 : decode cX7_number 6 = .ok (.getfield 32, 3) := by decide +kernel
theorem dX7_number_9 : decode cX7_number 9 = .ok (.if_icmp .ge 51, 3) := by decide +kernel
theorem dX7_number_12 : decode cX7_number 12 = .ok (.iconst 0, 1) := by decide +kernel
theorem dX7_number_13 : decode cX7_number 13 = .ok (.istore 4, 2) := by decide +kernel
theorem dX7_number_15 : decode cX7_number 15 = .ok (.iload 4, 2) := by decide +kernel
theorem dX7_number_17 : decode cX7_number 17 = .ok (.aload_n 1, 1) := by decide +kernel
theorem dX7_number_18 : decode cX7_number 18 = .ok (.getfield 62, 3) := by decide +kernel
theorem dX7_number_21 : decode cX7_number 21 = .ok (.if_icmp .ge 33, 3) := by decide +kernel
theorem dX7_number_24 : decode cX7_number 24 = .ok (.iload_n 2, 1) := by decide +kernel
theorem dX7_number_25 : decode cX7_number 25 = .ok (.aload_n 0, 1) := by decide +kernel
theorem dX7_number_26 : decode cX7_number 26 = .ok (.getfield 9, 3) := by decide +kernel
theorem dX7_number_29 : decode cX7_number 29 = .ok (.iload 4, 2) := by decide +kernel
theorem dX7_number_31 : decode cX7_number 31 = .ok (.iaload, 1) := by decide +kernel
theorem dX7_number_32 : decode cX7_number 32 = .ok (.iload_n 3, 1) := by decide +kernel
theorem dX7_number_33 : decode cX7_number 33 = .ok (.ishr, 1) := by decide +kernel
theorem dX7_number_34 : decode cX7_number 34 = .ok (.iconst 1, 1) := by decide +kernel
theorem dX7_number_35 : decode cX7_number 35 = .ok (.iand, 1) := by decide +kernel
theorem dX7_number_36 : decode cX7_number 36 = .ok (.iload_n 3, 1) := by decide +kernel
theorem dX7_number_37 : decode cX7_number 37 = .ok (.aload_n 1, 1) := by decide +kernel
theorem dX7_number_38 : decode cX7_number 38 = .ok (.getfield 62, 3) := by decide +kernel
theorem dX7_number_41 : decode cX7_number 41 = .ok (.imul, 1) := by decide +kernel
theorem dX7_number_42 : decode cX7_number 42 = .ok (.iload 4, 2) := by decide +kernel
theorem dX7_number_44 : decode cX7_number 44 = .ok (.iadd, 1) := by decide +kernel
theorem dX7_number_45 : decode cX7_number 45 = .ok (.ishl, 1) := by decide +kernel
theorem dX7_number_46 : decode cX7_number 46 = .ok (.ior, 1) := by decide +kernel
theorem dX7_number_47 : decode cX7_number 47 = .ok (.istore_n 2, 1) := by decide +kernel
theorem dX7_number_48 : decode cX7_number 48 = .ok (.iinc 4 1, 3) := by decide +kernel
theorem dX7_number_51 : decode cX7_number 51 = .ok (.goto (-36), 3) := by decide +kernel
theorem dX7_number_54 : decode cX7_number 54 = .ok (.iinc 3 1, 3) := by decide +kernel
theorem dX7_number_57 : decode cX7_number 57 = .ok (.goto (-53), 3) := by decide +kernel
theorem dX7_number_60 : decode cX7_number 60 = .ok (.iload_n 2, 1) := by decide +kernel
theorem dX7_number_61 : decode cX7_number 61 = .ok (.ireturn, 1) := by decide +kernel
def BX7_number_15 (Q : Option Value → az_M → Prop) (Z4 : az_T) (Z15 : az_T) : az_T := (s_li 4 (s_la 1 (s_gi 9 0 (s_if2 d_ge (s_inc 3 (nI 1) (s_kp [true, true, true, true, false] Z4)) (s_li 2 (s_la 0 (s_gr 8 0 (s_li 4 (s_al 20 (s_li 3 (s_bin f_shr (s_ic (nI 1) (s_bin f_and (s_li 3 (s_la 1 (s_gi 9 0 (s_bin f_mul (s_li 4 (s_bin f_add (s_bin f_shl (s_bin f_or (s_si 2 (s_inc 4 (nI 1) (s_kp [true, true, true, true, true] Z15))))))))))))))))))))))))
theorem okBX7_number_15 {X : az_X} {Q : Option Value → az_M → Prop} (C : az_C X cX7_number 5 RX7 (az_ts yX7_number cX7_number 5 (some .int)) ({ frames := 1, cells := 0, slots := 0, locals := 100 } : Room) (some .int) Q) {Z4 : az_T} (hZ4 : az_ok X 4 Z4) {Z15 : az_T} (hZ15 : az_ok X 15 Z15) : az_ok X 15 (BX7_number_15 Q Z4 Z15) := by
  have h57 := az_goto (tgt := 4) C dX7_number_57 (by decide) (az_keep [true, true, true, true, false] hZ4)
  have h54 := az_iinc (v := (nI 1)) C (by decide) (by decide +kernel) dX7_number_54 h57
  have h51 := az_goto (tgt := 15) C dX7_number_51 (by decide) (az_keep [true, true, true, true, true] hZ15)
  have h48 := az_iinc (v := (nI 1)) C (by decide) (by decide +kernel) dX7_number_48 h51
  have h47 := az_istore_n C 2 rfl (by decide) dX7_number_47 h48
  have h46 := az_ior C dX7_number_46 h47
  have h45 := az_ishl C dX7_number_45 h46
  have h44 := az_iadd C dX7_number_44 h45
  have h42 := az_iload C dX7_number_42 h44
  have h41 := az_imul C dX7_number_41 h42
  have h38 := az_getI (T := TX8) (N := 11) (j := 0) C gwRX8 rfl (by decide) (by decide) iIRX8_0 mFRX7_62 rfl dX7_number_38 h41
  have h37 := az_aload_n C 1 rfl dX7_number_37 h38
  have h36 := az_iload_n C 3 rfl dX7_number_36 h37
  have h35 := az_iand C dX7_number_35 h36
  have h34 := az_iconst (x := (nI 1)) C dX7_number_34 (by decide +kernel) h35
  have h33 := az_ishr C dX7_number_33 h34
  have h32 := az_iload_n C 3 rfl dX7_number_32 h33
  have h31 := az_iald C dX7_number_31 h32
  have h29 := az_iload C dX7_number_29 h31
  have h26 := az_getR (T := TX7) (N := 6) (j := 0) C gwRX7 rfl (by decide) (by decide) iIRX7_0 mFRX7_9 rfl dX7_number_26 h29
  have h25 := az_aload_n C 0 rfl dX7_number_25 h26
  have h24 := az_iload_n C 2 rfl dX7_number_24 h25
  have h21 := az_icmp_ge (tgt := 54) C dX7_number_21 (by decide) h54 h24
  have h18 := az_getI (T := TX8) (N := 11) (j := 0) C gwRX8 rfl (by decide) (by decide) iIRX8_0 mFRX7_62 rfl dX7_number_18 h21
  have h17 := az_aload_n C 1 rfl dX7_number_17 h18
  have h15 := az_iload C dX7_number_15 h17
  exact h15
def LX7_number_15 (Q : Option Value → az_M → Prop) (Z4 : az_T) : az_T := s_lp (fun Z => BX7_number_15 Q Z4 Z)
theorem okLX7_number_15 {X : az_X} {Q : Option Value → az_M → Prop} (C : az_C X cX7_number 5 RX7 (az_ts yX7_number cX7_number 5 (some .int)) ({ frames := 1, cells := 0, slots := 0, locals := 100 } : Room) (some .int) Q) {Z4 : az_T} (hZ4 : az_ok X 4 Z4) : az_ok X 15 (LX7_number_15 Q Z4) := az_loop (F := fun Z => BX7_number_15 Q Z4 Z) (fun _ hZ => okBX7_number_15 C hZ4 hZ)
def BX7_number_4 (Q : Option Value → az_M → Prop) (Z4 : az_T) : az_T := (s_li 3 (s_la 1 (s_gi 9 3 (s_if2 d_ge (s_li 2 (s_ri Q)) (s_ic (nI 0) (s_si 4 (s_kp [true, true, true, true, true] (LX7_number_15 Q Z4))))))))
theorem okBX7_number_4 {X : az_X} {Q : Option Value → az_M → Prop} (C : az_C X cX7_number 5 RX7 (az_ts yX7_number cX7_number 5 (some .int)) ({ frames := 1, cells := 0, slots := 0, locals := 100 } : Room) (some .int) Q) {Z4 : az_T} (hZ4 : az_ok X 4 Z4) : az_ok X 4 (BX7_number_4 Q Z4) := by
  have h61 := az_ireturn C rfl dX7_number_61
  have h60 := az_iload_n C 2 rfl dX7_number_60 h61
  have h13 := az_istore C (by decide) dX7_number_13 (az_keep [true, true, true, true, true] (okLX7_number_15 C hZ4))
  have h12 := az_iconst (x := (nI 0)) C dX7_number_12 (by decide +kernel) h13
  have h9 := az_icmp_ge (tgt := 60) C dX7_number_9 (by decide) h60 h12
  have h6 := az_getI (T := TX8) (N := 11) (j := 3) C gwRX8 rfl (by decide) (by decide) iIRX8_3 mFRX7_32 rfl dX7_number_6 h9
  have h5 := az_aload_n C 1 rfl dX7_number_5 h6
  have h4 := az_iload_n C 3 rfl dX7_number_4 h5
  exact h4
def LX7_number_4 (Q : Option Value → az_M → Prop) : az_T := s_lp (fun Z => BX7_number_4 Q Z)
theorem okLX7_number_4 {X : az_X} {Q : Option Value → az_M → Prop} (C : az_C X cX7_number 5 RX7 (az_ts yX7_number cX7_number 5 (some .int)) ({ frames := 1, cells := 0, slots := 0, locals := 100 } : Room) (some .int) Q) : az_ok X 4 (LX7_number_4 Q) := az_loop (F := fun Z => BX7_number_4 Q Z) (fun _ hZ => okBX7_number_4 C hZ)
def PX7_number (Q : Option Value → az_M → Prop) : az_T := (s_ic (nI 0) (s_si 2 (s_ic (nI 0) (s_si 3 (s_kp [true, true, true, true, false] (LX7_number_4 Q))))))
def FX7_number : az_F := az_fun [true, true] 5 PX7_number
theorem okX7_number (l : Launch) : az_met l yX7_number cX7_number 5 (some .int) ({ frames := 1, cells := 0, slots := 0, locals := 100 } : Room) FX7_number := az_met_of (own := RX7) (by decide +kernel) rfl (by decide) (fun X Q C => by
  have h3 := az_istore_n C 3 rfl (by decide) dX7_number_3 (az_keep [true, true, true, true, false] (okLX7_number_4 C))
  have h2 := az_iconst (x := (nI 0)) C dX7_number_2 (by decide +kernel) h3
  have h1 := az_istore_n C 2 rfl (by decide) dX7_number_1 h2
  have h0 := az_iconst (x := (nI 0)) C dX7_number_0 (by decide +kernel) h1
  exact h0) l
theorem dX7_compare_0 : decode cX7_compare 0 = .ok (.aload_n 0, 1) := by decide +kernel
theorem dX7_compare_1 : decode cX7_compare 1 = .ok (.aload_n 1, 1) := by decide +kernel
theorem dX7_compare_2 : decode cX7_compare 2 = .ok (.invokevirtual 89, 3) := by decide +kernel
theorem dX7_compare_5 : decode cX7_compare 5 = .ok (.istore_n 2, 1) := by decide +kernel
theorem dX7_compare_6 : decode cX7_compare 6 = .ok (.aload_n 0, 1) := by decide +kernel
theorem dX7_compare_7 : decode cX7_compare 7 = .ok (.getfield 15, 3) := by decide +kernel
theorem dX7_compare_10 : decode cX7_compare 10 = .ok (.aload_n 1, 1) := by decide +kernel
theorem dX7_compare_11 : decode cX7_compare 11 = .ok (.getfield 62, 3) := by decide +kernel
theorem dX7_compare_14 : decode cX7_compare 14 = .ok (.iconst 1, 1) := by decide +kernel
theorem dX7_compare_15 : decode cX7_compare 15 = .ok (.isub, 1) := by decide +kernel
theorem dX7_compare_16 : decode cX7_compare 16 = .ok (.iaload, 1) := by decide +kernel
theorem dX7_compare_17 : decode cX7_compare 17 = .ok (.istore_n 3, 1) := by decide +kernel
theorem dX7_compare_18 : decode cX7_compare 18 = .ok (.aload_n 0, 1) := by decide +kernel
theorem dX7_compare_19 : decode cX7_compare 19 = .ok (.getfield 28, 3) := by decide +kernel
theorem dX7_compare_22 : decode cX7_compare 22 = .ok (.ifCond .eq 27, 3) := by decide +kernel
theorem dX7_compare_25 : decode cX7_compare 25 = .ok (.iload_n 3, 1) := by decide +kernel
theorem dX7_compare_26 : decode cX7_compare 26 = .ok (.aload_n 0, 1) := by decide +kernel
theorem dX7_compare_27 : decode cX7_compare 27 = .ok (.getfield 25, 3) := by decide +kernel
theorem dX7_compare_30 : decode cX7_compare 30 = .ok (.if_icmp .lt 19, 3) := by decide +kernel
theorem dX7_compare_33 : decode cX7_compare 33 = .ok (.iload_n 3, 1) := by decide +kernel
theorem dX7_compare_34 : decode cX7_compare 34 = .ok (.aload_n 0, 1) := by decide +kernel
theorem dX7_compare_35 : decode cX7_compare 35 = .ok (.getfield 25, 3) := by decide +kernel
theorem dX7_compare_38 : decode cX7_compare 38 = .ok (.if_icmp .ne 43, 3) := by decide +kernel
theorem dX7_compare_41 : decode cX7_compare 41 = .ok (.iload_n 2, 1) := by decide +kernel
theorem dX7_compare_42 : decode cX7_compare 42 = .ok (.aload_n 0, 1) := by decide +kernel
theorem dX7_compare_43 : decode cX7_compare 43 = .ok (.getfield 21, 3) := by decide +kernel
theorem dX7_compare_46 : decode cX7_compare 46 = .ok (.if_icmp .ge 35, 3) := by decide +kernel
theorem dX7_compare_49 : decode cX7_compare 49 = .ok (.aload_n 0, 1) := by decide +kernel
theorem dX7_compare_50 : decode cX7_compare 50 = .ok (.iconst 1, 1) := by decide +kernel
theorem dX7_compare_51 : decode cX7_compare 51 = .ok (.putfield 28, 3) := by decide +kernel
theorem dX7_compare_54 : decode cX7_compare 54 = .ok (.aload_n 0, 1) := by decide +kernel
theorem dX7_compare_55 : decode cX7_compare 55 = .ok (.iload_n 3, 1) := by decide +kernel
theorem dX7_compare_56 : decode cX7_compare 56 = .ok (.putfield 25, 3) := by decide +kernel
theorem dX7_compare_59 : decode cX7_compare 59 = .ok (.aload_n 0, 1) := by decide +kernel
theorem dX7_compare_60 : decode cX7_compare 60 = .ok (.iload_n 2, 1) := by decide +kernel
theorem dX7_compare_61 : decode cX7_compare 61 = .ok (.putfield 21, 3) := by decide +kernel
theorem dX7_compare_64 : decode cX7_compare 64 = .ok (.aload_n 0, 1) := by decide +kernel
theorem dX7_compare_65 : decode cX7_compare 65 = .ok (.getfield 9, 3) := by decide +kernel
theorem dX7_compare_68 : decode cX7_compare 68 = .ok (.iconst 0, 1) := by decide +kernel
theorem dX7_compare_69 : decode cX7_compare 69 = .ok (.aload_n 0, 1) := by decide +kernel
theorem dX7_compare_70 : decode cX7_compare 70 = .ok (.getfield 18, 3) := by decide +kernel
theorem dX7_compare_73 : decode cX7_compare 73 = .ok (.iconst 0, 1) := by decide +kernel
theorem dX7_compare_74 : decode cX7_compare 74 = .ok (.aload_n 1, 1) := by decide +kernel
theorem dX7_compare_75 : decode cX7_compare 75 = .ok (.getfield 62, 3) := by decide +kernel
theorem dX7_compare_78 : decode cX7_compare 78 = .ok (.invokestatic 93, 3) := by decide +kernel
theorem dX7_compare_81 : decode cX7_compare 81 = .ok (.return_, 1) := by decide +kernel
def LX7_compare_81 (Q : Option Value → az_M → Prop) : az_T := (s_rv Q)
theorem okLX7_compare_81 {X : az_X} {Q : Option Value → az_M → Prop} (C : az_C X cX7_compare 4 RX7 (az_ts yX7_compare cX7_compare 4 none) ({ frames := 2, cells := 0, slots := 0, locals := 124 } : Room) none Q) : az_ok X 81 (LX7_compare_81 Q) := by
  have h81 := az_vreturn C rfl dX7_compare_81
  exact h81
def LX7_compare_49 (Q : Option Value → az_M → Prop) : az_T := (s_la 0 (s_ic (nI 1) (s_pz 8 5 (s_la 0 (s_li 3 (s_pi 8 4 (s_la 0 (s_li 2 (s_pi 8 3 (s_la 0 (s_gr 8 0 (s_ic (nI 0) (s_la 0 (s_gr 8 2 (s_ic (nI 0) (s_la 1 (s_gi 9 0 (s_cpy (s_kp [false, false, false, false] (LX7_compare_81 Q))))))))))))))))))))
theorem okLX7_compare_49 {X : az_X} {Q : Option Value → az_M → Prop} (C : az_C X cX7_compare 4 RX7 (az_ts yX7_compare cX7_compare 4 none) ({ frames := 2, cells := 0, slots := 0, locals := 124 } : Room) none Q) : az_ok X 49 (LX7_compare_49 Q) := by
  have h78 := az_copy C mLRX7_93 cp_nat cp_st cp_ini (by decide) (by decide +kernel) dX7_compare_78 (az_keep [false, false, false, false] (okLX7_compare_81 C))
  have h75 := az_getI (T := TX8) (N := 11) (j := 0) C gwRX8 rfl (by decide) (by decide) iIRX8_0 mFRX7_62 rfl dX7_compare_75 h78
  have h74 := az_aload_n C 1 rfl dX7_compare_74 h75
  have h73 := az_iconst (x := (nI 0)) C dX7_compare_73 (by decide +kernel) h74
  have h70 := az_getR (T := TX7) (N := 6) (j := 2) C gwRX7 rfl (by decide) (by decide) iIRX7_2 mFRX7_18 rfl dX7_compare_70 h73
  have h69 := az_aload_n C 0 rfl dX7_compare_69 h70
  have h68 := az_iconst (x := (nI 0)) C dX7_compare_68 (by decide +kernel) h69
  have h65 := az_getR (T := TX7) (N := 6) (j := 0) C gwRX7 rfl (by decide) (by decide) iIRX7_0 mFRX7_9 rfl dX7_compare_65 h68
  have h64 := az_aload_n C 0 rfl dX7_compare_64 h65
  have h61 := az_putI (T := TX7) (N := 6) (j := 3) C gwRX7 rfl (by decide) (by decide) tyX7 tyX7_ok nmX7 iIRX7_3 (by decide +kernel) rfl mFRX7_21 rfl dX7_compare_61 h64
  have h60 := az_iload_n C 2 rfl dX7_compare_60 h61
  have h59 := az_aload_n C 0 rfl dX7_compare_59 h60
  have h56 := az_putI (T := TX7) (N := 6) (j := 4) C gwRX7 rfl (by decide) (by decide) tyX7 tyX7_ok nmX7 iIRX7_4 (by decide +kernel) rfl mFRX7_25 rfl dX7_compare_56 h59
  have h55 := az_iload_n C 3 rfl dX7_compare_55 h56
  have h54 := az_aload_n C 0 rfl dX7_compare_54 h55
  have h51 := az_putZ (T := TX7) (N := 6) (j := 5) C gwRX7 rfl (by decide) (by decide) tyX7 tyX7_ok nmX7 iIRX7_5 (by decide +kernel) rfl mFRX7_28 rfl dX7_compare_51 h54
  have h50 := az_iconst (x := (nI 1)) C dX7_compare_50 (by decide +kernel) h51
  have h49 := az_aload_n C 0 rfl dX7_compare_49 h50
  exact h49
def PX7_compare (Q : Option Value → az_M → Prop) : az_T := (s_la 0 (s_la 1 (s_cv 1 8 FX7_number (s_si 2 (s_la 0 (s_gr 8 1 (s_la 1 (s_gi 9 0 (s_ic (nI 1) (s_bin f_sub (s_al 20 (s_si 3 (s_la 0 (s_gi 8 5 (s_if c_eq (s_kp [true, true, true, true] (LX7_compare_49 Q)) (s_li 3 (s_la 0 (s_gi 8 4 (s_if2 d_lt (s_kp [true, true, true, true] (LX7_compare_49 Q)) (s_li 3 (s_la 0 (s_gi 8 4 (s_if2 d_ne (s_kp [false, false, false, false] (LX7_compare_81 Q)) (s_li 2 (s_la 0 (s_gi 8 3 (s_if2 d_ge (s_kp [false, false, false, false] (LX7_compare_81 Q)) (s_kp [true, true, true, true] (LX7_compare_49 Q)))))))))))))))))))))))))))))
def FX7_compare : az_F := az_fun [true, true] 4 PX7_compare
theorem okX7_compare (l : Launch) : az_met l yX7_compare cX7_compare 4 none ({ frames := 2, cells := 0, slots := 0, locals := 124 } : Room) FX7_compare := az_met_of (own := RX7) (by decide +kernel) rfl (by decide) (fun X Q C => by
  have h46 := az_icmp_ge (tgt := 81) C dX7_compare_46 (by decide) (az_keep [false, false, false, false] (okLX7_compare_81 C)) (az_keep [true, true, true, true] (okLX7_compare_49 C))
  have h43 := az_getI (T := TX7) (N := 6) (j := 3) C gwRX7 rfl (by decide) (by decide) iIRX7_3 mFRX7_21 rfl dX7_compare_43 h46
  have h42 := az_aload_n C 0 rfl dX7_compare_42 h43
  have h41 := az_iload_n C 2 rfl dX7_compare_41 h42
  have h38 := az_icmp_ne (tgt := 81) C dX7_compare_38 (by decide) (az_keep [false, false, false, false] (okLX7_compare_81 C)) h41
  have h35 := az_getI (T := TX7) (N := 6) (j := 4) C gwRX7 rfl (by decide) (by decide) iIRX7_4 mFRX7_25 rfl dX7_compare_35 h38
  have h34 := az_aload_n C 0 rfl dX7_compare_34 h35
  have h33 := az_iload_n C 3 rfl dX7_compare_33 h34
  have h30 := az_icmp_lt (tgt := 49) C dX7_compare_30 (by decide) (az_keep [true, true, true, true] (okLX7_compare_49 C)) h33
  have h27 := az_getI (T := TX7) (N := 6) (j := 4) C gwRX7 rfl (by decide) (by decide) iIRX7_4 mFRX7_25 rfl dX7_compare_27 h30
  have h26 := az_aload_n C 0 rfl dX7_compare_26 h27
  have h25 := az_iload_n C 3 rfl dX7_compare_25 h26
  have h22 := az_if_eq (tgt := 49) C dX7_compare_22 (by decide) (az_keep [true, true, true, true] (okLX7_compare_49 C)) h25
  have h19 := az_getI (T := TX7) (N := 6) (j := 5) C gwRX7 rfl (by decide) (by decide) iIRX7_5 mFRX7_28 rfl dX7_compare_19 h22
  have h18 := az_aload_n C 0 rfl dX7_compare_18 h19
  have h17 := az_istore_n C 3 rfl (by decide) dX7_compare_17 h18
  have h16 := az_iald C dX7_compare_16 h17
  have h15 := az_isub C dX7_compare_15 h16
  have h14 := az_iconst (x := (nI 1)) C dX7_compare_14 (by decide +kernel) h15
  have h11 := az_getI (T := TX8) (N := 11) (j := 0) C gwRX8 rfl (by decide) (by decide) iIRX8_0 mFRX7_62 rfl dX7_compare_11 h14
  have h10 := az_aload_n C 1 rfl dX7_compare_10 h11
  have h7 := az_getR (T := TX7) (N := 6) (j := 1) C gwRX7 rfl (by decide) (by decide) iIRX7_1 mFRX7_15 rfl dX7_compare_7 h10
  have h6 := az_aload_n C 0 rfl dX7_compare_6 h7
  have h5 := az_istore_n C 2 rfl (by decide) dX7_compare_5 h6
  have h2 := az_callV (ci := 8) C okX7_number knX7_number imX7_number seX7_number mLRX7_89 rfl (by decide) ⟨rfl, rfl, by decide, by decide⟩ dX7_compare_2 h5
  have h1 := az_aload_n C 1 rfl dX7_compare_1 h2
  have h0 := az_aload_n C 0 rfl dX7_compare_0 h1
  exact h0) l
theorem dX7_look_0 : decode cX7_look 0 = .ok (.iconst 1, 1) := by decide +kernel
theorem dX7_look_1 : decode cX7_look 1 = .ok (.aload_n 1, 1) := by decide +kernel
theorem dX7_look_2 : decode cX7_look 2 = .ok (.getfield 32, 3) := by decide +kernel
theorem dX7_look_5 : decode cX7_look 5 = .ok (.ishl, 1) := by decide +kernel
theorem dX7_look_6 : decode cX7_look 6 = .ok (.iconst 1, 1) := by decide +kernel
theorem dX7_look_7 : decode cX7_look 7 = .ok (.isub, 1) := by decide +kernel
theorem dX7_look_8 : decode cX7_look 8 = .ok (.istore_n 3, 1) := by decide +kernel
theorem dX7_look_9 : decode cX7_look 9 = .ok (.iconst 0, 1) := by decide +kernel
theorem dX7_look_10 : decode cX7_look 10 = .ok (.istore 4, 2) := by decide +kernel
theorem dX7_look_12 : decode cX7_look 12 = .ok (.aload_n 0, 1) := by decide +kernel
theorem dX7_look_13 : decode cX7_look 13 = .ok (.iconst 0, 1) := by decide +kernel
theorem dX7_look_14 : decode cX7_look 14 = .ok (.putfield 28, 3) := by decide +kernel
theorem dX7_look_17 : decode cX7_look 17 = .ok (.aload_n 0, 1) := by decide +kernel
theorem dX7_look_18 : decode cX7_look 18 = .ok (.getfield 9, 3) := by decide +kernel
theorem dX7_look_21 : decode cX7_look 21 = .ok (.iconst 0, 1) := by decide +kernel
theorem dX7_look_22 : decode cX7_look 22 = .ok (.iload_n 3, 1) := by decide +kernel
theorem dX7_look_23 : decode cX7_look 23 = .ok (.iastore, 1) := by decide +kernel
theorem dX7_look_24 : decode cX7_look 24 = .ok (.aload_n 2, 1) := by decide +kernel
theorem dX7_look_25 : decode cX7_look 25 = .ok (.aload_n 1, 1) := by decide +kernel
theorem dX7_look_26 : decode cX7_look 26 = .ok (.invokevirtual 37, 3) := by decide +kernel
theorem dX7_look_29 : decode cX7_look 29 = .ok (.aload_n 2, 1) := by decide +kernel
theorem dX7_look_30 : decode cX7_look 30 = .ok (.getfield 43, 3) := by decide +kernel
theorem dX7_look_33 : decode cX7_look 33 = .ok (.aload_n 1, 1) := by decide +kernel
theorem dX7_look_34 : decode cX7_look 34 = .ok (.iconst 0, 1) := by decide +kernel
theorem dX7_look_35 : decode cX7_look 35 = .ok (.invokevirtual 47, 3) := by decide +kernel
theorem dX7_look_38 : decode cX7_look 38 = .ok (.iconst 0, 1) := by decide +kernel
theorem dX7_look_39 : decode cX7_look 39 = .ok (.istore 5, 2) := by decide +kernel
theorem dX7_look_41 : decode cX7_look 41 = .ok (.iload 5, 2) := by decide +kernel
theorem dX7_look_43 : decode cX7_look 43 = .ok (.ldc 53, 2) := by decide +kernel
theorem dX7_look_45 : decode cX7_look 45 = .ok (.if_icmp .ge 102, 3) := by decide +kernel
theorem dX7_look_48 : decode cX7_look 48 = .ok (.iload 4, 2) := by decide +kernel
theorem dX7_look_50 : decode cX7_look 50 = .ok (.ifCond .lt 97, 3) := by decide +kernel
theorem dX7_look_53 : decode cX7_look 53 = .ok (.aload_n 0, 1) := by decide +kernel
theorem dX7_look_54 : decode cX7_look 54 = .ok (.getfield 9, 3) := by decide +kernel
theorem dX7_look_57 : decode cX7_look 57 = .ok (.iload 4, 2) := by decide +kernel
theorem dX7_look_59 : decode cX7_look 59 = .ok (.iaload, 1) := by decide +kernel
theorem dX7_look_60 : decode cX7_look 60 = .ok (.ifCond .ge 15, 3) := by decide +kernel
theorem dX7_look_63 : decode cX7_look 63 = .ok (.iinc 4 (-1), 3) := by decide +kernel
theorem dX7_look_66 : decode cX7_look 66 = .ok (.aload_n 0, 1) := by decide +kernel
theorem dX7_look_67 : decode cX7_look 67 = .ok (.iload 4, 2) := by decide +kernel
theorem dX7_look_69 : decode cX7_look 69 = .ok (.invokevirtual 54, 3) := by decide +kernel
theorem dX7_look_72 : decode cX7_look 72 = .ok (.goto 69, 3) := by decide +kernel
theorem dX7_look_75 : decode cX7_look 75 = .ok (.aload_n 0, 1) := by decide +kernel
theorem dX7_look_76 : decode cX7_look 76 = .ok (.aload_n 1, 1) := by decide +kernel
theorem dX7_look_77 : decode cX7_look 77 = .ok (.aload_n 2, 1) := by decide +kernel
theorem dX7_look_78 : decode cX7_look 78 = .ok (.iload 4, 2) := by decide +kernel
theorem dX7_look_80 : decode cX7_look 80 = .ok (.invokevirtual 58, 3) := by decide +kernel
theorem dX7_look_83 : decode cX7_look 83 = .ok (.ifCond .ne 12, 3) := by decide +kernel
theorem dX7_look_86 : decode cX7_look 86 = .ok (.aload_n 0, 1) := by decide +kernel
theorem dX7_look_87 : decode cX7_look 87 = .ok (.iload 4, 2) := by decide +kernel
theorem dX7_look_89 : decode cX7_look 89 = .ok (.invokevirtual 54, 3) := by decide +kernel
theorem dX7_look_92 : decode cX7_look 92 = .ok (.goto 49, 3) := by decide +kernel
theorem dX7_look_95 : decode cX7_look 95 = .ok (.iload 4, 2) := by decide +kernel
theorem dX7_look_97 : decode cX7_look 97 = .ok (.iconst 1, 1) := by decide +kernel
theorem dX7_look_98 : decode cX7_look 98 = .ok (.iadd, 1) := by decide +kernel
theorem dX7_look_99 : decode cX7_look 99 = .ok (.aload_n 1, 1) := by decide +kernel
theorem dX7_look_100 : decode cX7_look 100 = .ok (.getfield 62, 3) := by decide +kernel
theorem dX7_look_103 : decode cX7_look 103 = .ok (.if_icmp .ge 27, 3) := by decide +kernel
theorem dX7_look_106 : decode cX7_look 106 = .ok (.iinc 4 1, 3) := by decide +kernel
theorem dX7_look_109 : decode cX7_look 109 = .ok (.aload_n 0, 1) := by decide +kernel
theorem dX7_look_110 : decode cX7_look 110 = .ok (.getfield 9, 3) := by decide +kernel
theorem dX7_look_113 : decode cX7_look 113 = .ok (.iload 4, 2) := by decide +kernel
theorem dX7_look_115 : decode cX7_look 115 = .ok (.iload_n 3, 1) := by decide +kernel
theorem dX7_look_116 : decode cX7_look 116 = .ok (.iastore, 1) := by decide +kernel
theorem dX7_look_117 : decode cX7_look 117 = .ok (.aload_n 2, 1) := by decide +kernel
theorem dX7_look_118 : decode cX7_look 118 = .ok (.getfield 43, 3) := by decide +kernel
theorem dX7_look_121 : decode cX7_look 121 = .ok (.aload_n 1, 1) := by decide +kernel
theorem dX7_look_122 : decode cX7_look 122 = .ok (.iload 4, 2) := by decide +kernel
theorem dX7_look_124 : decode cX7_look 124 = .ok (.invokevirtual 47, 3) := by decide +kernel
theorem dX7_look_127 : decode cX7_look 127 = .ok (.goto 14, 3) := by decide +kernel
theorem dX7_look_130 : decode cX7_look 130 = .ok (.aload_n 0, 1) := by decide +kernel
theorem dX7_look_131 : decode cX7_look 131 = .ok (.aload_n 1, 1) := by decide +kernel
theorem dX7_look_132 : decode cX7_look 132 = .ok (.invokevirtual 65, 3) := by decide +kernel
theorem dX7_look_135 : decode cX7_look 135 = .ok (.aload_n 0, 1) := by decide +kernel
theorem dX7_look_136 : decode cX7_look 136 = .ok (.iload 4, 2) := by decide +kernel
theorem dX7_look_138 : decode cX7_look 138 = .ok (.invokevirtual 54, 3) := by decide +kernel
theorem dX7_look_141 : decode cX7_look 141 = .ok (.iinc 5 1, 3) := by decide +kernel
theorem dX7_look_144 : decode cX7_look 144 = .ok (.goto (-103), 3) := by decide +kernel
theorem dX7_look_147 : decode cX7_look 147 = .ok (.return_, 1) := by decide +kernel
def LX7_look_147 (Q : Option Value → az_M → Prop) : az_T := (s_rv Q)
theorem okLX7_look_147 {X : az_X} {Q : Option Value → az_M → Prop} (C : az_C X cX7_look 6 RX7 (az_ts yX7_look cX7_look 6 none) ({ frames := 6, cells := 0, slots := 0, locals := 234 } : Room) none Q) : az_ok X 147 (LX7_look_147 Q) := by
  have h147 := az_vreturn C rfl dX7_look_147
  exact h147
def LX7_look_141 (Q : Option Value → az_M → Prop) (Z41 : az_T) : az_T := (s_inc 5 (nI 1) (s_kp [true, true, true, true, true, true] Z41))
theorem okLX7_look_141 {X : az_X} {Q : Option Value → az_M → Prop} (C : az_C X cX7_look 6 RX7 (az_ts yX7_look cX7_look 6 none) ({ frames := 6, cells := 0, slots := 0, locals := 234 } : Room) none Q) {Z41 : az_T} (hZ41 : az_ok X 41 Z41) : az_ok X 141 (LX7_look_141 Q Z41) := by
  have h144 := az_goto (tgt := 41) C dX7_look_144 (by decide) (az_keep [true, true, true, true, true, true] hZ41)
  have h141 := az_iinc (v := (nI 1)) C (by decide) (by decide +kernel) dX7_look_141 h144
  exact h141
def BX7_look_41 (Q : Option Value → az_M → Prop) (Z41 : az_T) : az_T := (s_li 5 (s_ic (1000000) (s_if2 d_ge (s_kp [false, false, false, false, false, false] (LX7_look_147 Q)) (s_li 4 (s_if c_lt (s_kp [false, false, false, false, false, false] (LX7_look_147 Q)) (s_la 0 (s_gr 8 0 (s_li 4 (s_al 20 (s_if c_ge (s_la 0 (s_la 1 (s_la 2 (s_li 4 (s_cv 3 8 FX7_isWorthwhile (s_if c_ne (s_li 4 (s_ic (nI 1) (s_bin f_add (s_la 1 (s_gi 9 0 (s_if2 d_ge (s_la 0 (s_la 1 (s_cv 1 8 FX7_compare (s_la 0 (s_li 4 (s_cv 1 8 FX7_leaveChoice (s_kp [true, true, true, true, true, true] (LX7_look_141 Q Z41)))))))) (s_inc 4 (nI 1) (s_la 0 (s_gr 8 0 (s_li 4 (s_li 3 (s_as (s_la 2 (s_gr 6 1 (s_la 1 (s_li 4 (s_cv 2 10 FX9_advance (s_kp [true, true, true, true, true, true] (LX7_look_141 Q Z41))))))))))))))))))) (s_la 0 (s_li 4 (s_cv 1 8 FX7_leaveChoice (s_kp [true, true, true, true, true, true] (LX7_look_141 Q Z41))))))))))) (s_inc 4 (-1) (s_la 0 (s_li 4 (s_cv 1 8 FX7_leaveChoice (s_kp [true, true, true, true, true, true] (LX7_look_141 Q Z41))))))))))))))))
theorem okBX7_look_41 {X : az_X} {Q : Option Value → az_M → Prop} (C : az_C X cX7_look 6 RX7 (az_ts yX7_look cX7_look 6 none) ({ frames := 6, cells := 0, slots := 0, locals := 234 } : Room) none Q) {Z41 : az_T} (hZ41 : az_ok X 41 Z41) : az_ok X 41 (BX7_look_41 Q Z41) := by
  have h138 := az_callV (ci := 8) C okX7_leaveChoice knX7_leaveChoice imX7_leaveChoice seX7_leaveChoice mLRX7_54 rfl (by decide) ⟨rfl, rfl, by decide, by decide⟩ dX7_look_138 (az_keep [true, true, true, true, true, true] (okLX7_look_141 C hZ41))
  have h136 := az_iload C dX7_look_136 h138
  have h135 := az_aload_n C 0 rfl dX7_look_135 h136
  have h132 := az_callV (ci := 8) C okX7_compare knX7_compare imX7_compare seX7_compare mLRX7_65 rfl (by decide) ⟨rfl, rfl, by decide, by decide⟩ dX7_look_132 h135
  have h131 := az_aload_n C 1 rfl dX7_look_131 h132
  have h130 := az_aload_n C 0 rfl dX7_look_130 h131
  have h127 := az_goto (tgt := 141) C dX7_look_127 (by decide) (az_keep [true, true, true, true, true, true] (okLX7_look_141 C hZ41))
  have h124 := az_callVN (ci := 10) C okX9_advance knX9_advance imX9_advance seX9_advance mNRX7_47 rfl (by decide) ⟨rfl, rfl, by decide, by decide⟩ dX7_look_124 h127
  have h122 := az_iload C dX7_look_122 h124
  have h121 := az_aload_n C 1 rfl dX7_look_121 h122
  have h118 := az_getR (T := TX4) (N := 10) (j := 1) C gwRX4 rfl (by decide) (by decide) iIRX4_1 mFRX7_43 rfl dX7_look_118 h121
  have h117 := az_aload_n C 2 rfl dX7_look_117 h118
  have h116 := az_iast C dX7_look_116 h117
  have h115 := az_iload_n C 3 rfl dX7_look_115 h116
  have h113 := az_iload C dX7_look_113 h115
  have h110 := az_getR (T := TX7) (N := 6) (j := 0) C gwRX7 rfl (by decide) (by decide) iIRX7_0 mFRX7_9 rfl dX7_look_110 h113
  have h109 := az_aload_n C 0 rfl dX7_look_109 h110
  have h106 := az_iinc (v := (nI 1)) C (by decide) (by decide +kernel) dX7_look_106 h109
  have h103 := az_icmp_ge (tgt := 130) C dX7_look_103 (by decide) h130 h106
  have h100 := az_getI (T := TX8) (N := 11) (j := 0) C gwRX8 rfl (by decide) (by decide) iIRX8_0 mFRX7_62 rfl dX7_look_100 h103
  have h99 := az_aload_n C 1 rfl dX7_look_99 h100
  have h98 := az_iadd C dX7_look_98 h99
  have h97 := az_iconst (x := (nI 1)) C dX7_look_97 (by decide +kernel) h98
  have h95 := az_iload C dX7_look_95 h97
  have h92 := az_goto (tgt := 141) C dX7_look_92 (by decide) (az_keep [true, true, true, true, true, true] (okLX7_look_141 C hZ41))
  have h89 := az_callV (ci := 8) C okX7_leaveChoice knX7_leaveChoice imX7_leaveChoice seX7_leaveChoice mLRX7_54 rfl (by decide) ⟨rfl, rfl, by decide, by decide⟩ dX7_look_89 h92
  have h87 := az_iload C dX7_look_87 h89
  have h86 := az_aload_n C 0 rfl dX7_look_86 h87
  have h83 := az_if_ne (tgt := 95) C dX7_look_83 (by decide) h95 h86
  have h80 := az_callV (ci := 8) C okX7_isWorthwhile knX7_isWorthwhile imX7_isWorthwhile seX7_isWorthwhile mLRX7_58 rfl (by decide) ⟨rfl, rfl, by decide, by decide⟩ dX7_look_80 h83
  have h78 := az_iload C dX7_look_78 h80
  have h77 := az_aload_n C 2 rfl dX7_look_77 h78
  have h76 := az_aload_n C 1 rfl dX7_look_76 h77
  have h75 := az_aload_n C 0 rfl dX7_look_75 h76
  have h72 := az_goto (tgt := 141) C dX7_look_72 (by decide) (az_keep [true, true, true, true, true, true] (okLX7_look_141 C hZ41))
  have h69 := az_callV (ci := 8) C okX7_leaveChoice knX7_leaveChoice imX7_leaveChoice seX7_leaveChoice mLRX7_54 rfl (by decide) ⟨rfl, rfl, by decide, by decide⟩ dX7_look_69 h72
  have h67 := az_iload C dX7_look_67 h69
  have h66 := az_aload_n C 0 rfl dX7_look_66 h67
  have h63 := az_iinc (v := (-1)) C (by decide) (by decide +kernel) dX7_look_63 h66
  have h60 := az_if_ge (tgt := 75) C dX7_look_60 (by decide) h75 h63
  have h59 := az_iald C dX7_look_59 h60
  have h57 := az_iload C dX7_look_57 h59
  have h54 := az_getR (T := TX7) (N := 6) (j := 0) C gwRX7 rfl (by decide) (by decide) iIRX7_0 mFRX7_9 rfl dX7_look_54 h57
  have h53 := az_aload_n C 0 rfl dX7_look_53 h54
  have h50 := az_if_lt (tgt := 147) C dX7_look_50 (by decide) (az_keep [false, false, false, false, false, false] (okLX7_look_147 C)) h53
  have h48 := az_iload C dX7_look_48 h50
  have h45 := az_icmp_ge (tgt := 147) C dX7_look_45 (by decide) (az_keep [false, false, false, false, false, false] (okLX7_look_147 C)) h48
  have h43 := az_ldc (x := (1000000)) C dX7_look_43 cvRX7_53 h45
  have h41 := az_iload C dX7_look_41 h43
  exact h41
def LX7_look_41 (Q : Option Value → az_M → Prop) : az_T := s_lp (fun Z => BX7_look_41 Q Z)
theorem okLX7_look_41 {X : az_X} {Q : Option Value → az_M → Prop} (C : az_C X cX7_look 6 RX7 (az_ts yX7_look cX7_look 6 none) ({ frames := 6, cells := 0, slots := 0, locals := 234 } : Room) none Q) : az_ok X 41 (LX7_look_41 Q) := az_loop (F := fun Z => BX7_look_41 Q Z) (fun _ hZ => okBX7_look_41 C hZ)
def PX7_look (Q : Option Value → az_M → Prop) : az_T := (s_ic (nI 1) (s_la 1 (s_gi 9 3 (s_bin f_shl (s_ic (nI 1) (s_bin f_sub (s_si 3 (s_ic (nI 0) (s_si 4 (s_la 0 (s_ic (nI 0) (s_pz 8 5 (s_la 0 (s_gr 8 0 (s_ic (nI 0) (s_li 3 (s_as (s_la 2 (s_la 1 (s_cv 1 6 FX4_prepare (s_la 2 (s_gr 6 1 (s_la 1 (s_ic (nI 0) (s_cv 2 10 FX9_advance (s_ic (nI 0) (s_si 5 (s_kp [true, true, true, true, true, true] (LX7_look_41 Q)))))))))))))))))))))))))))))
def FX7_look : az_F := az_fun [true, true, true] 6 PX7_look
theorem okX7_look (l : Launch) : az_met l yX7_look cX7_look 6 none ({ frames := 6, cells := 0, slots := 0, locals := 234 } : Room) FX7_look := az_met_of (own := RX7) (by decide +kernel) rfl (by decide) (fun X Q C => by
  have h39 := az_istore C (by decide) dX7_look_39 (az_keep [true, true, true, true, true, true] (okLX7_look_41 C))
  have h38 := az_iconst (x := (nI 0)) C dX7_look_38 (by decide +kernel) h39
  have h35 := az_callVN (ci := 10) C okX9_advance knX9_advance imX9_advance seX9_advance mNRX7_47 rfl (by decide) ⟨rfl, rfl, by decide, by decide⟩ dX7_look_35 h38
  have h34 := az_iconst (x := (nI 0)) C dX7_look_34 (by decide +kernel) h35
  have h33 := az_aload_n C 1 rfl dX7_look_33 h34
  have h30 := az_getR (T := TX4) (N := 10) (j := 1) C gwRX4 rfl (by decide) (by decide) iIRX4_1 mFRX7_43 rfl dX7_look_30 h33
  have h29 := az_aload_n C 2 rfl dX7_look_29 h30
  have h26 := az_callVN (ci := 6) C okX4_prepare knX4_prepare imX4_prepare seX4_prepare mNRX7_37 rfl (by decide) ⟨rfl, rfl, by decide, by decide⟩ dX7_look_26 h29
  have h25 := az_aload_n C 1 rfl dX7_look_25 h26
  have h24 := az_aload_n C 2 rfl dX7_look_24 h25
  have h23 := az_iast C dX7_look_23 h24
  have h22 := az_iload_n C 3 rfl dX7_look_22 h23
  have h21 := az_iconst (x := (nI 0)) C dX7_look_21 (by decide +kernel) h22
  have h18 := az_getR (T := TX7) (N := 6) (j := 0) C gwRX7 rfl (by decide) (by decide) iIRX7_0 mFRX7_9 rfl dX7_look_18 h21
  have h17 := az_aload_n C 0 rfl dX7_look_17 h18
  have h14 := az_putZ (T := TX7) (N := 6) (j := 5) C gwRX7 rfl (by decide) (by decide) tyX7 tyX7_ok nmX7 iIRX7_5 (by decide +kernel) rfl mFRX7_28 rfl dX7_look_14 h17
  have h13 := az_iconst (x := (nI 0)) C dX7_look_13 (by decide +kernel) h14
  have h12 := az_aload_n C 0 rfl dX7_look_12 h13
  have h10 := az_istore C (by decide) dX7_look_10 h12
  have h9 := az_iconst (x := (nI 0)) C dX7_look_9 (by decide +kernel) h10
  have h8 := az_istore_n C 3 rfl (by decide) dX7_look_8 h9
  have h7 := az_isub C dX7_look_7 h8
  have h6 := az_iconst (x := (nI 1)) C dX7_look_6 (by decide +kernel) h7
  have h5 := az_ishl C dX7_look_5 h6
  have h2 := az_getI (T := TX8) (N := 11) (j := 3) C gwRX8 rfl (by decide) (by decide) iIRX8_3 mFRX7_32 rfl dX7_look_2 h5
  have h1 := az_aload_n C 1 rfl dX7_look_1 h2
  have h0 := az_iconst (x := (nI 1)) C dX7_look_0 (by decide +kernel) h1
  exact h0) l
theorem dX7_writePlan_0 : decode cX7_writePlan 0 = .ok (.iconst 0, 1) := by decide +kernel
theorem dX7_writePlan_1 : decode cX7_writePlan 1 = .ok (.istore_n 2, 1) := by decide +kernel
theorem dX7_writePlan_2 : decode cX7_writePlan 2 = .ok (.iload_n 2, 1) := by decide +kernel
theorem dX7_writePlan_3 : decode cX7_writePlan 3 = .ok (.aload_n 1, 1) := by decide +kernel
theorem dX7_writePlan_4 : decode cX7_writePlan 4 = .ok (.getfield 32, 3) := by decide +kernel
theorem dX7_writePlan_7 : decode cX7_writePlan 7 = .ok (.if_icmp .ge 56, 3) := by decide +kernel
theorem dX7_writePlan_10 : decode cX7_writePlan 10 = .ok (.iconst 0, 1) := by decide +kernel
theorem dX7_writePlan_11 : decode cX7_writePlan 11 = .ok (.istore_n 3, 1) := by decide +kernel
theorem dX7_writePlan_12 : decode cX7_writePlan 12 = .ok (.iconst 0, 1) := by decide +kernel
theorem dX7_writePlan_13 : decode cX7_writePlan 13 = .ok (.istore 4, 2) := by decide +kernel
theorem dX7_writePlan_15 : decode cX7_writePlan 15 = .ok (.iload 4, 2) := by decide +kernel
theorem dX7_writePlan_17 : decode cX7_writePlan 17 = .ok (.aload_n 1, 1) := by decide +kernel
theorem dX7_writePlan_18 : decode cX7_writePlan 18 = .ok (.getfield 62, 3) := by decide +kernel
theorem dX7_writePlan_21 : decode cX7_writePlan 21 = .ok (.if_icmp .ge 26, 3) := by decide +kernel
theorem dX7_writePlan_24 : decode cX7_writePlan 24 = .ok (.iload_n 3, 1) := by decide +kernel
theorem dX7_writePlan_25 : decode cX7_writePlan 25 = .ok (.aload_n 0, 1) := by decide +kernel
theorem dX7_writePlan_26 : decode cX7_writePlan 26 = .ok (.getfield 18, 3) := by decide +kernel
theorem dX7_writePlan_29 : decode cX7_writePlan 29 = .ok (.iload 4, 2) := by decide +kernel
theorem dX7_writePlan_31 : decode cX7_writePlan 31 = .ok (.iaload, 1) := by decide +kernel
theorem dX7_writePlan_32 : decode cX7_writePlan 32 = .ok (.iload_n 2, 1) := by decide +kernel
theorem dX7_writePlan_33 : decode cX7_writePlan 33 = .ok (.ishr, 1) := by decide +kernel
theorem dX7_writePlan_34 : decode cX7_writePlan 34 = .ok (.iconst 1, 1) := by decide +kernel
theorem dX7_writePlan_35 : decode cX7_writePlan 35 = .ok (.iand, 1) := by decide +kernel
theorem dX7_writePlan_36 : decode cX7_writePlan 36 = .ok (.iload 4, 2) := by decide +kernel
theorem dX7_writePlan_38 : decode cX7_writePlan 38 = .ok (.ishl, 1) := by decide +kernel
theorem dX7_writePlan_39 : decode cX7_writePlan 39 = .ok (.ior, 1) := by decide +kernel
theorem dX7_writePlan_40 : decode cX7_writePlan 40 = .ok (.istore_n 3, 1) := by decide +kernel
theorem dX7_writePlan_41 : decode cX7_writePlan 41 = .ok (.iinc 4 1, 3) := by decide +kernel
theorem dX7_writePlan_44 : decode cX7_writePlan 44 = .ok (.goto (-29), 3) := by decide +kernel
theorem dX7_writePlan_47 : decode cX7_writePlan 47 = .ok (.aload_n 1, 1) := by decide +kernel
theorem dX7_writePlan_48 : decode cX7_writePlan 48 = .ok (.getfield 99, 3) := by decide +kernel
theorem dX7_writePlan_51 : decode cX7_writePlan 51 = .ok (.iload_n 2, 1) := by decide +kernel
theorem dX7_writePlan_52 : decode cX7_writePlan 52 = .ok (.aaload, 1) := by decide +kernel
theorem dX7_writePlan_53 : decode cX7_writePlan 53 = .ok (.bipush 13, 2) := by decide +kernel
theorem dX7_writePlan_55 : decode cX7_writePlan 55 = .ok (.iload_n 3, 1) := by decide +kernel
theorem dX7_writePlan_56 : decode cX7_writePlan 56 = .ok (.iastore, 1) := by decide +kernel
theorem dX7_writePlan_57 : decode cX7_writePlan 57 = .ok (.iinc 2 1, 3) := by decide +kernel
theorem dX7_writePlan_60 : decode cX7_writePlan 60 = .ok (.goto (-58), 3) := by decide +kernel
theorem dX7_writePlan_63 : decode cX7_writePlan 63 = .ok (.return_, 1) := by decide +kernel
def BX7_writePlan_15 (Q : Option Value → az_M → Prop) (Z2 : az_T) (Z15 : az_T) : az_T := (s_li 4 (s_la 1 (s_gi 9 0 (s_if2 d_ge (s_la 1 (s_gr 9 5 (s_li 2 (s_aa 25 (s_ic (nI 13) (s_li 3 (s_as (s_inc 2 (nI 1) (s_kp [true, true, true, false, false] Z2))))))))) (s_li 3 (s_la 0 (s_gr 8 2 (s_li 4 (s_al 20 (s_li 2 (s_bin f_shr (s_ic (nI 1) (s_bin f_and (s_li 4 (s_bin f_shl (s_bin f_or (s_si 3 (s_inc 4 (nI 1) (s_kp [true, true, true, true, true] Z15)))))))))))))))))))
theorem okBX7_writePlan_15 {X : az_X} {Q : Option Value → az_M → Prop} (C : az_C X cX7_writePlan 5 RX7 (az_ts yX7_writePlan cX7_writePlan 5 none) ({ frames := 1, cells := 0, slots := 0, locals := 100 } : Room) none Q) {Z2 : az_T} (hZ2 : az_ok X 2 Z2) {Z15 : az_T} (hZ15 : az_ok X 15 Z15) : az_ok X 15 (BX7_writePlan_15 Q Z2 Z15) := by
  have h60 := az_goto (tgt := 2) C dX7_writePlan_60 (by decide) (az_keep [true, true, true, false, false] hZ2)
  have h57 := az_iinc (v := (nI 1)) C (by decide) (by decide +kernel) dX7_writePlan_57 h60
  have h56 := az_iast C dX7_writePlan_56 h57
  have h55 := az_iload_n C 3 rfl dX7_writePlan_55 h56
  have h53 := az_bipush (x := (nI 13)) C dX7_writePlan_53 (by decide +kernel) h55
  have h52 := az_aald2 C dX7_writePlan_52 h53
  have h51 := az_iload_n C 2 rfl dX7_writePlan_51 h52
  have h48 := az_getR (T := TX8) (N := 11) (j := 5) C gwRX8 rfl (by decide) (by decide) iIRX8_5 mFRX7_99 rfl dX7_writePlan_48 h51
  have h47 := az_aload_n C 1 rfl dX7_writePlan_47 h48
  have h44 := az_goto (tgt := 15) C dX7_writePlan_44 (by decide) (az_keep [true, true, true, true, true] hZ15)
  have h41 := az_iinc (v := (nI 1)) C (by decide) (by decide +kernel) dX7_writePlan_41 h44
  have h40 := az_istore_n C 3 rfl (by decide) dX7_writePlan_40 h41
  have h39 := az_ior C dX7_writePlan_39 h40
  have h38 := az_ishl C dX7_writePlan_38 h39
  have h36 := az_iload C dX7_writePlan_36 h38
  have h35 := az_iand C dX7_writePlan_35 h36
  have h34 := az_iconst (x := (nI 1)) C dX7_writePlan_34 (by decide +kernel) h35
  have h33 := az_ishr C dX7_writePlan_33 h34
  have h32 := az_iload_n C 2 rfl dX7_writePlan_32 h33
  have h31 := az_iald C dX7_writePlan_31 h32
  have h29 := az_iload C dX7_writePlan_29 h31
  have h26 := az_getR (T := TX7) (N := 6) (j := 2) C gwRX7 rfl (by decide) (by decide) iIRX7_2 mFRX7_18 rfl dX7_writePlan_26 h29
  have h25 := az_aload_n C 0 rfl dX7_writePlan_25 h26
  have h24 := az_iload_n C 3 rfl dX7_writePlan_24 h25
  have h21 := az_icmp_ge (tgt := 47) C dX7_writePlan_21 (by decide) h47 h24
  have h18 := az_getI (T := TX8) (N := 11) (j := 0) C gwRX8 rfl (by decide) (by decide) iIRX8_0 mFRX7_62 rfl dX7_writePlan_18 h21
  have h17 := az_aload_n C 1 rfl dX7_writePlan_17 h18
  have h15 := az_iload C dX7_writePlan_15 h17
  exact h15
def LX7_writePlan_15 (Q : Option Value → az_M → Prop) (Z2 : az_T) : az_T := s_lp (fun Z => BX7_writePlan_15 Q Z2 Z)
theorem okLX7_writePlan_15 {X : az_X} {Q : Option Value → az_M → Prop} (C : az_C X cX7_writePlan 5 RX7 (az_ts yX7_writePlan cX7_writePlan 5 none) ({ frames := 1, cells := 0, slots := 0, locals := 100 } : Room) none Q) {Z2 : az_T} (hZ2 : az_ok X 2 Z2) : az_ok X 15 (LX7_writePlan_15 Q Z2) := az_loop (F := fun Z => BX7_writePlan_15 Q Z2 Z) (fun _ hZ => okBX7_writePlan_15 C hZ2 hZ)
def BX7_writePlan_2 (Q : Option Value → az_M → Prop) (Z2 : az_T) : az_T := (s_li 2 (s_la 1 (s_gi 9 3 (s_if2 d_ge (s_rv Q) (s_ic (nI 0) (s_si 3 (s_ic (nI 0) (s_si 4 (s_kp [true, true, true, true, true] (LX7_writePlan_15 Q Z2))))))))))
theorem okBX7_writePlan_2 {X : az_X} {Q : Option Value → az_M → Prop} (C : az_C X cX7_writePlan 5 RX7 (az_ts yX7_writePlan cX7_writePlan 5 none) ({ frames := 1, cells := 0, slots := 0, locals := 100 } : Room) none Q) {Z2 : az_T} (hZ2 : az_ok X 2 Z2) : az_ok X 2 (BX7_writePlan_2 Q Z2) := by
  have h63 := az_vreturn C rfl dX7_writePlan_63
  have h13 := az_istore C (by decide) dX7_writePlan_13 (az_keep [true, true, true, true, true] (okLX7_writePlan_15 C hZ2))
  have h12 := az_iconst (x := (nI 0)) C dX7_writePlan_12 (by decide +kernel) h13
  have h11 := az_istore_n C 3 rfl (by decide) dX7_writePlan_11 h12
  have h10 := az_iconst (x := (nI 0)) C dX7_writePlan_10 (by decide +kernel) h11
  have h7 := az_icmp_ge (tgt := 63) C dX7_writePlan_7 (by decide) h63 h10
  have h4 := az_getI (T := TX8) (N := 11) (j := 3) C gwRX8 rfl (by decide) (by decide) iIRX8_3 mFRX7_32 rfl dX7_writePlan_4 h7
  have h3 := az_aload_n C 1 rfl dX7_writePlan_3 h4
  have h2 := az_iload_n C 2 rfl dX7_writePlan_2 h3
  exact h2
def LX7_writePlan_2 (Q : Option Value → az_M → Prop) : az_T := s_lp (fun Z => BX7_writePlan_2 Q Z)
theorem okLX7_writePlan_2 {X : az_X} {Q : Option Value → az_M → Prop} (C : az_C X cX7_writePlan 5 RX7 (az_ts yX7_writePlan cX7_writePlan 5 none) ({ frames := 1, cells := 0, slots := 0, locals := 100 } : Room) none Q) : az_ok X 2 (LX7_writePlan_2 Q) := az_loop (F := fun Z => BX7_writePlan_2 Q Z) (fun _ hZ => okBX7_writePlan_2 C hZ)
def PX7_writePlan (Q : Option Value → az_M → Prop) : az_T := (s_ic (nI 0) (s_si 2 (s_kp [true, true, true, false, false] (LX7_writePlan_2 Q))))
def FX7_writePlan : az_F := az_fun [true, true] 5 PX7_writePlan
theorem okX7_writePlan (l : Launch) : az_met l yX7_writePlan cX7_writePlan 5 none ({ frames := 1, cells := 0, slots := 0, locals := 100 } : Room) FX7_writePlan := az_met_of (own := RX7) (by decide +kernel) rfl (by decide) (fun X Q C => by
  have h1 := az_istore_n C 2 rfl (by decide) dX7_writePlan_1 (az_keep [true, true, true, false, false] (okLX7_writePlan_2 C))
  have h0 := az_iconst (x := (nI 0)) C dX7_writePlan_0 (by decide +kernel) h1
  exact h0) l
theorem dX8_startAnew_0 : decode cX8_startAnew 0 = .ok (.aload_n 0, 1) := by decide +kernel
theorem dX8_startAnew_1 : decode cX8_startAnew 1 = .ok (.iload_n 1, 1) := by decide +kernel
theorem dX8_startAnew_2 : decode cX8_startAnew 2 = .ok (.putfield 36, 3) := by decide +kernel
theorem dX8_startAnew_5 : decode cX8_startAnew 5 = .ok (.aload_n 0, 1) := by decide +kernel
theorem dX8_startAnew_6 : decode cX8_startAnew 6 = .ok (.iload_n 2, 1) := by decide +kernel
theorem dX8_startAnew_7 : decode cX8_startAnew 7 = .ok (.putfield 40, 3) := by decide +kernel
theorem dX8_startAnew_10 : decode cX8_startAnew 10 = .ok (.aload_n 0, 1) := by decide +kernel
theorem dX8_startAnew_11 : decode cX8_startAnew 11 = .ok (.iconst 0, 1) := by decide +kernel
theorem dX8_startAnew_12 : decode cX8_startAnew 12 = .ok (.putfield 43, 3) := by decide +kernel
theorem dX8_startAnew_15 : decode cX8_startAnew 15 = .ok (.aload_n 0, 1) := by decide +kernel
theorem dX8_startAnew_16 : decode cX8_startAnew 16 = .ok (.iconst 0, 1) := by decide +kernel
theorem dX8_startAnew_17 : decode cX8_startAnew 17 = .ok (.putfield 46, 3) := by decide +kernel
theorem dX8_startAnew_20 : decode cX8_startAnew 20 = .ok (.aload_n 0, 1) := by decide +kernel
theorem dX8_startAnew_21 : decode cX8_startAnew 21 = .ok (.iconst 0, 1) := by decide +kernel
theorem dX8_startAnew_22 : decode cX8_startAnew 22 = .ok (.putfield 49, 3) := by decide +kernel
theorem dX8_startAnew_25 : decode cX8_startAnew 25 = .ok (.iconst 0, 1) := by decide +kernel
theorem dX8_startAnew_26 : decode cX8_startAnew 26 = .ok (.istore_n 3, 1) := by decide +kernel
theorem dX8_startAnew_27 : decode cX8_startAnew 27 = .ok (.iload_n 3, 1) := by decide +kernel
theorem dX8_startAnew_28 : decode cX8_startAnew 28 = .ok (.bipush 24, 2) := by decide +kernel
theorem dX8_startAnew_30 : decode cX8_startAnew 30 = .ok (.if_icmp .ge 16, 3) := by decide +kernel
theorem dX8_startAnew_33 : decode cX8_startAnew 33 = .ok (.aload_n 0, 1) := by decide +kernel
theorem dX8_startAnew_34 : decode cX8_startAnew 34 = .ok (.getfield 22, 3) := by decide +kernel
theorem dX8_startAnew_37 : decode cX8_startAnew 37 = .ok (.iload_n 3, 1) := by decide +kernel
theorem dX8_startAnew_38 : decode cX8_startAnew 38 = .ok (.iconst 0, 1) := by decide +kernel
theorem dX8_startAnew_39 : decode cX8_startAnew 39 = .ok (.iastore, 1) := by decide +kernel
theorem dX8_startAnew_40 : decode cX8_startAnew 40 = .ok (.iinc 3 1, 3) := by decide +kernel
theorem dX8_startAnew_43 : decode cX8_startAnew 43 = .ok (.goto (-16), 3) := by decide +kernel
theorem dX8_startAnew_46 : decode cX8_startAnew 46 = .ok (.iconst 0, 1) := by decide +kernel
theorem dX8_startAnew_47 : decode cX8_startAnew 47 = .ok (.istore_n 3, 1) := by decide +kernel
theorem dX8_startAnew_48 : decode cX8_startAnew 48 = .ok (.iload_n 3, 1) := by decide +kernel
theorem dX8_startAnew_49 : decode cX8_startAnew 49 = .ok (.iconst 4, 1) := by decide +kernel
theorem dX8_startAnew_50 : decode cX8_startAnew 50 = .ok (.if_icmp .ge 60, 3) := by decide +kernel
theorem dX8_startAnew_53 : decode cX8_startAnew 53 = .ok (.iconst 0, 1) := by decide +kernel
theorem dX8_startAnew_54 : decode cX8_startAnew 54 = .ok (.istore 4, 2) := by decide +kernel
theorem dX8_startAnew_56 : decode cX8_startAnew 56 = .ok (.iload 4, 2) := by decide +kernel
theorem dX8_startAnew_58 : decode cX8_startAnew 58 = .ok (.bipush 24, 2) := by decide +kernel
theorem dX8_startAnew_60 : decode cX8_startAnew 60 = .ok (.if_icmp .ge 19, 3) := by decide +kernel
theorem dX8_startAnew_63 : decode cX8_startAnew 63 = .ok (.aload_n 0, 1) := by decide +kernel
theorem dX8_startAnew_64 : decode cX8_startAnew 64 = .ok (.getfield 19, 3) := by decide +kernel
theorem dX8_startAnew_67 : decode cX8_startAnew 67 = .ok (.iload_n 3, 1) := by decide +kernel
theorem dX8_startAnew_68 : decode cX8_startAnew 68 = .ok (.aaload, 1) := by decide +kernel
theorem dX8_startAnew_69 : decode cX8_startAnew 69 = .ok (.iload 4, 2) := by decide +kernel
theorem dX8_startAnew_71 : decode cX8_startAnew 71 = .ok (.iconst 0, 1) := by decide +kernel
theorem dX8_startAnew_72 : decode cX8_startAnew 72 = .ok (.iastore, 1) := by decide +kernel
theorem dX8_startAnew_73 : decode cX8_startAnew 73 = .ok (.iinc 4 1, 3) := by decide +kernel
theorem dX8_startAnew_76 : decode cX8_startAnew 76 = .ok (.goto (-20), 3) := by decide +kernel
theorem dX8_startAnew_79 : decode cX8_startAnew 79 = .ok (.aload_n 0, 1) := by decide +kernel
theorem dX8_startAnew_80 : decode cX8_startAnew 80 = .ok (.getfield 26, 3) := by decide +kernel
theorem dX8_startAnew_83 : decode cX8_startAnew 83 = .ok (.iload_n 3, 1) := by decide +kernel
theorem dX8_startAnew_84 : decode cX8_startAnew 84 = .ok (.iload_n 3, 1) := by decide +kernel
theorem dX8_startAnew_85 : decode cX8_startAnew 85 = .ok (.ifCond .ne 7, 3) := by decide +kernel
theorem dX8_startAnew_88 : decode cX8_startAnew 88 = .ok (.iconst 0, 1) := by decide +kernel
theorem dX8_startAnew_89 : decode cX8_startAnew 89 = .ok (.goto 6, 3) := by decide +kernel
theorem dX8_startAnew_92 : decode cX8_startAnew 92 = .ok (.iload_n 3, 1) := by decide +kernel
theorem dX8_startAnew_93 : decode cX8_startAnew 93 = .ok (.iconst 1, 1) := by decide +kernel
theorem dX8_startAnew_94 : decode cX8_startAnew 94 = .ok (.isub, 1) := by decide +kernel
theorem dX8_startAnew_95 : decode cX8_startAnew 95 = .ok (.iastore, 1) := by decide +kernel
theorem dX8_startAnew_96 : decode cX8_startAnew 96 = .ok (.aload_n 0, 1) := by decide +kernel
theorem dX8_startAnew_97 : decode cX8_startAnew 97 = .ok (.getfield 29, 3) := by decide +kernel
theorem dX8_startAnew_100 : decode cX8_startAnew 100 = .ok (.iload_n 3, 1) := by decide +kernel
theorem dX8_startAnew_101 : decode cX8_startAnew 101 = .ok (.bipush 100, 2) := by decide +kernel
theorem dX8_startAnew_103 : decode cX8_startAnew 103 = .ok (.iastore, 1) := by decide +kernel
theorem dX8_startAnew_104 : decode cX8_startAnew 104 = .ok (.iinc 3 1, 3) := by decide +kernel
theorem dX8_startAnew_107 : decode cX8_startAnew 107 = .ok (.goto (-59), 3) := by decide +kernel
theorem dX8_startAnew_110 : decode cX8_startAnew 110 = .ok (.return_, 1) := by decide +kernel
def LX8_startAnew_95 (Q : Option Value → az_M → Prop) (Z48 : az_T) : az_T := (s_as (s_la 0 (s_gr 9 10 (s_li 3 (s_ic (nI 100) (s_as (s_inc 3 (nI 1) (s_kp [true, false, false, true, false] Z48))))))))
theorem okLX8_startAnew_95 {X : az_X} {Q : Option Value → az_M → Prop} (C : az_C X cX8_startAnew 5 RX8 (az_ts yX8_startAnew cX8_startAnew 5 none) ({ frames := 1, cells := 0, slots := 0, locals := 100 } : Room) none Q) {Z48 : az_T} (hZ48 : az_ok X 48 Z48) : az_ok X 95 (LX8_startAnew_95 Q Z48) := by
  have h107 := az_goto (tgt := 48) C dX8_startAnew_107 (by decide) (az_keep [true, false, false, true, false] hZ48)
  have h104 := az_iinc (v := (nI 1)) C (by decide) (by decide +kernel) dX8_startAnew_104 h107
  have h103 := az_iast C dX8_startAnew_103 h104
  have h101 := az_bipush (x := (nI 100)) C dX8_startAnew_101 (by decide +kernel) h103
  have h100 := az_iload_n C 3 rfl dX8_startAnew_100 h101
  have h97 := az_getR (T := TX8) (N := 11) (j := 10) C gwRX8 rfl (by decide) (by decide) iIRX8_10 mFRX8_29 rfl dX8_startAnew_97 h100
  have h96 := az_aload_n C 0 rfl dX8_startAnew_96 h97
  have h95 := az_iast C dX8_startAnew_95 h96
  exact h95
def BX8_startAnew_56 (Q : Option Value → az_M → Prop) (Z48 : az_T) (Z56 : az_T) : az_T := (s_li 4 (s_ic (nI 24) (s_if2 d_ge (s_la 0 (s_gr 9 9 (s_li 3 (s_li 3 (s_if c_ne (s_li 3 (s_ic (nI 1) (s_bin f_sub (s_kp [true, false, false, true, false] (LX8_startAnew_95 Q Z48))))) (s_ic (nI 0) (s_kp [true, false, false, true, false] (LX8_startAnew_95 Q Z48)))))))) (s_la 0 (s_gr 9 7 (s_li 3 (s_aa 25 (s_li 4 (s_ic (nI 0) (s_as (s_inc 4 (nI 1) (s_kp [true, false, false, true, true] Z56))))))))))))
theorem okBX8_startAnew_56 {X : az_X} {Q : Option Value → az_M → Prop} (C : az_C X cX8_startAnew 5 RX8 (az_ts yX8_startAnew cX8_startAnew 5 none) ({ frames := 1, cells := 0, slots := 0, locals := 100 } : Room) none Q) {Z48 : az_T} (hZ48 : az_ok X 48 Z48) {Z56 : az_T} (hZ56 : az_ok X 56 Z56) : az_ok X 56 (BX8_startAnew_56 Q Z48 Z56) := by
  have h94 := az_isub C dX8_startAnew_94 (az_keep [true, false, false, true, false] (okLX8_startAnew_95 C hZ48))
  have h93 := az_iconst (x := (nI 1)) C dX8_startAnew_93 (by decide +kernel) h94
  have h92 := az_iload_n C 3 rfl dX8_startAnew_92 h93
  have h89 := az_goto (tgt := 95) C dX8_startAnew_89 (by decide) (az_keep [true, false, false, true, false] (okLX8_startAnew_95 C hZ48))
  have h88 := az_iconst (x := (nI 0)) C dX8_startAnew_88 (by decide +kernel) h89
  have h85 := az_if_ne (tgt := 92) C dX8_startAnew_85 (by decide) h92 h88
  have h84 := az_iload_n C 3 rfl dX8_startAnew_84 h85
  have h83 := az_iload_n C 3 rfl dX8_startAnew_83 h84
  have h80 := az_getR (T := TX8) (N := 11) (j := 9) C gwRX8 rfl (by decide) (by decide) iIRX8_9 mFRX8_26 rfl dX8_startAnew_80 h83
  have h79 := az_aload_n C 0 rfl dX8_startAnew_79 h80
  have h76 := az_goto (tgt := 56) C dX8_startAnew_76 (by decide) (az_keep [true, false, false, true, true] hZ56)
  have h73 := az_iinc (v := (nI 1)) C (by decide) (by decide +kernel) dX8_startAnew_73 h76
  have h72 := az_iast C dX8_startAnew_72 h73
  have h71 := az_iconst (x := (nI 0)) C dX8_startAnew_71 (by decide +kernel) h72
  have h69 := az_iload C dX8_startAnew_69 h71
  have h68 := az_aald2 C dX8_startAnew_68 h69
  have h67 := az_iload_n C 3 rfl dX8_startAnew_67 h68
  have h64 := az_getR (T := TX8) (N := 11) (j := 7) C gwRX8 rfl (by decide) (by decide) iIRX8_7 mFRX8_19 rfl dX8_startAnew_64 h67
  have h63 := az_aload_n C 0 rfl dX8_startAnew_63 h64
  have h60 := az_icmp_ge (tgt := 79) C dX8_startAnew_60 (by decide) h79 h63
  have h58 := az_bipush (x := (nI 24)) C dX8_startAnew_58 (by decide +kernel) h60
  have h56 := az_iload C dX8_startAnew_56 h58
  exact h56
def LX8_startAnew_56 (Q : Option Value → az_M → Prop) (Z48 : az_T) : az_T := s_lp (fun Z => BX8_startAnew_56 Q Z48 Z)
theorem okLX8_startAnew_56 {X : az_X} {Q : Option Value → az_M → Prop} (C : az_C X cX8_startAnew 5 RX8 (az_ts yX8_startAnew cX8_startAnew 5 none) ({ frames := 1, cells := 0, slots := 0, locals := 100 } : Room) none Q) {Z48 : az_T} (hZ48 : az_ok X 48 Z48) : az_ok X 56 (LX8_startAnew_56 Q Z48) := az_loop (F := fun Z => BX8_startAnew_56 Q Z48 Z) (fun _ hZ => okBX8_startAnew_56 C hZ48 hZ)
def BX8_startAnew_48 (Q : Option Value → az_M → Prop) (Z48 : az_T) : az_T := (s_li 3 (s_ic (nI 4) (s_if2 d_ge (s_rv Q) (s_ic (nI 0) (s_si 4 (s_kp [true, false, false, true, true] (LX8_startAnew_56 Q Z48)))))))
theorem okBX8_startAnew_48 {X : az_X} {Q : Option Value → az_M → Prop} (C : az_C X cX8_startAnew 5 RX8 (az_ts yX8_startAnew cX8_startAnew 5 none) ({ frames := 1, cells := 0, slots := 0, locals := 100 } : Room) none Q) {Z48 : az_T} (hZ48 : az_ok X 48 Z48) : az_ok X 48 (BX8_startAnew_48 Q Z48) := by
  have h110 := az_vreturn C rfl dX8_startAnew_110
  have h54 := az_istore C (by decide) dX8_startAnew_54 (az_keep [true, false, false, true, true] (okLX8_startAnew_56 C hZ48))
  have h53 := az_iconst (x := (nI 0)) C dX8_startAnew_53 (by decide +kernel) h54
  have h50 := az_icmp_ge (tgt := 110) C dX8_startAnew_50 (by decide) h110 h53
  have h49 := az_iconst (x := (nI 4)) C dX8_startAnew_49 (by decide +kernel) h50
  have h48 := az_iload_n C 3 rfl dX8_startAnew_48 h49
  exact h48
def LX8_startAnew_48 (Q : Option Value → az_M → Prop) : az_T := s_lp (fun Z => BX8_startAnew_48 Q Z)
theorem okLX8_startAnew_48 {X : az_X} {Q : Option Value → az_M → Prop} (C : az_C X cX8_startAnew 5 RX8 (az_ts yX8_startAnew cX8_startAnew 5 none) ({ frames := 1, cells := 0, slots := 0, locals := 100 } : Room) none Q) : az_ok X 48 (LX8_startAnew_48 Q) := az_loop (F := fun Z => BX8_startAnew_48 Q Z) (fun _ hZ => okBX8_startAnew_48 C hZ)
def BX8_startAnew_27 (Q : Option Value → az_M → Prop) (Z27 : az_T) : az_T := (s_li 3 (s_ic (nI 24) (s_if2 d_ge (s_ic (nI 0) (s_si 3 (s_kp [true, false, false, true, false] (LX8_startAnew_48 Q)))) (s_la 0 (s_gr 9 8 (s_li 3 (s_ic (nI 0) (s_as (s_inc 3 (nI 1) (s_kp [true, false, false, true, false] Z27))))))))))
theorem okBX8_startAnew_27 {X : az_X} {Q : Option Value → az_M → Prop} (C : az_C X cX8_startAnew 5 RX8 (az_ts yX8_startAnew cX8_startAnew 5 none) ({ frames := 1, cells := 0, slots := 0, locals := 100 } : Room) none Q) {Z27 : az_T} (hZ27 : az_ok X 27 Z27) : az_ok X 27 (BX8_startAnew_27 Q Z27) := by
  have h47 := az_istore_n C 3 rfl (by decide) dX8_startAnew_47 (az_keep [true, false, false, true, false] (okLX8_startAnew_48 C))
  have h46 := az_iconst (x := (nI 0)) C dX8_startAnew_46 (by decide +kernel) h47
  have h43 := az_goto (tgt := 27) C dX8_startAnew_43 (by decide) (az_keep [true, false, false, true, false] hZ27)
  have h40 := az_iinc (v := (nI 1)) C (by decide) (by decide +kernel) dX8_startAnew_40 h43
  have h39 := az_iast C dX8_startAnew_39 h40
  have h38 := az_iconst (x := (nI 0)) C dX8_startAnew_38 (by decide +kernel) h39
  have h37 := az_iload_n C 3 rfl dX8_startAnew_37 h38
  have h34 := az_getR (T := TX8) (N := 11) (j := 8) C gwRX8 rfl (by decide) (by decide) iIRX8_8 mFRX8_22 rfl dX8_startAnew_34 h37
  have h33 := az_aload_n C 0 rfl dX8_startAnew_33 h34
  have h30 := az_icmp_ge (tgt := 46) C dX8_startAnew_30 (by decide) h46 h33
  have h28 := az_bipush (x := (nI 24)) C dX8_startAnew_28 (by decide +kernel) h30
  have h27 := az_iload_n C 3 rfl dX8_startAnew_27 h28
  exact h27
def LX8_startAnew_27 (Q : Option Value → az_M → Prop) : az_T := s_lp (fun Z => BX8_startAnew_27 Q Z)
theorem okLX8_startAnew_27 {X : az_X} {Q : Option Value → az_M → Prop} (C : az_C X cX8_startAnew 5 RX8 (az_ts yX8_startAnew cX8_startAnew 5 none) ({ frames := 1, cells := 0, slots := 0, locals := 100 } : Room) none Q) : az_ok X 27 (LX8_startAnew_27 Q) := az_loop (F := fun Z => BX8_startAnew_27 Q Z) (fun _ hZ => okBX8_startAnew_27 C hZ)
def PX8_startAnew (Q : Option Value → az_M → Prop) : az_T := (s_la 0 (s_li 1 (s_pi 9 0 (s_la 0 (s_li 2 (s_pi 9 1 (s_la 0 (s_ic (nI 0) (s_pi 9 2 (s_la 0 (s_ic (nI 0) (s_pi 9 3 (s_la 0 (s_ic (nI 0) (s_pi 9 4 (s_ic (nI 0) (s_si 3 (s_kp [true, false, false, true, false] (LX8_startAnew_27 Q)))))))))))))))))))
def FX8_startAnew : az_F := az_fun [true, false, false] 5 PX8_startAnew
theorem okX8_startAnew (l : Launch) : az_met l yX8_startAnew cX8_startAnew 5 none ({ frames := 1, cells := 0, slots := 0, locals := 100 } : Room) FX8_startAnew := az_met_of (own := RX8) (by decide +kernel) rfl (by decide) (fun X Q C => by
  have h26 := az_istore_n C 3 rfl (by decide) dX8_startAnew_26 (az_keep [true, false, false, true, false] (okLX8_startAnew_27 C))
  have h25 := az_iconst (x := (nI 0)) C dX8_startAnew_25 (by decide +kernel) h26
  have h22 := az_putI (T := TX8) (N := 11) (j := 4) C gwRX8 rfl (by decide) (by decide) tyX8 tyX8_ok nmX8 iIRX8_4 (by decide +kernel) rfl mFRX8_49 rfl dX8_startAnew_22 h25
  have h21 := az_iconst (x := (nI 0)) C dX8_startAnew_21 (by decide +kernel) h22
  have h20 := az_aload_n C 0 rfl dX8_startAnew_20 h21
  have h17 := az_putI (T := TX8) (N := 11) (j := 3) C gwRX8 rfl (by decide) (by decide) tyX8 tyX8_ok nmX8 iIRX8_3 (by decide +kernel) rfl mFRX8_46 rfl dX8_startAnew_17 h20
  have h16 := az_iconst (x := (nI 0)) C dX8_startAnew_16 (by decide +kernel) h17
  have h15 := az_aload_n C 0 rfl dX8_startAnew_15 h16
  have h12 := az_putI (T := TX8) (N := 11) (j := 2) C gwRX8 rfl (by decide) (by decide) tyX8 tyX8_ok nmX8 iIRX8_2 (by decide +kernel) rfl mFRX8_43 rfl dX8_startAnew_12 h15
  have h11 := az_iconst (x := (nI 0)) C dX8_startAnew_11 (by decide +kernel) h12
  have h10 := az_aload_n C 0 rfl dX8_startAnew_10 h11
  have h7 := az_putI (T := TX8) (N := 11) (j := 1) C gwRX8 rfl (by decide) (by decide) tyX8 tyX8_ok nmX8 iIRX8_1 (by decide +kernel) rfl mFRX8_40 rfl dX8_startAnew_7 h10
  have h6 := az_iload_n C 2 rfl dX8_startAnew_6 h7
  have h5 := az_aload_n C 0 rfl dX8_startAnew_5 h6
  have h2 := az_putI (T := TX8) (N := 11) (j := 0) C gwRX8 rfl (by decide) (by decide) tyX8 tyX8_ok nmX8 iIRX8_0 (by decide +kernel) rfl mFRX8_36 rfl dX8_startAnew_2 h5
  have h1 := az_iload_n C 1 rfl dX8_startAnew_1 h2
  have h0 := az_aload_n C 0 rfl dX8_startAnew_0 h1
  exact h0) l
theorem dX8_fillUnit_0 : decode cX8_fillUnit 0 = .ok (.aload_n 0, 1) := by decide +kernel
theorem dX8_fillUnit_1 : decode cX8_fillUnit 1 = .ok (.getfield 11, 3) := by decide +kernel
theorem dX8_fillUnit_4 : decode cX8_fillUnit 4 = .ok (.iload_n 1, 1) := by decide +kernel
theorem dX8_fillUnit_5 : decode cX8_fillUnit 5 = .ok (.aaload, 1) := by decide +kernel
theorem dX8_fillUnit_6 : decode cX8_fillUnit 6 = .ok (.astore 7, 2) := by decide +kernel
theorem dX8_fillUnit_8 : decode cX8_fillUnit 8 = .ok (.aload 7, 2) := by decide +kernel
theorem dX8_fillUnit_10 : decode cX8_fillUnit 10 = .ok (.iconst 0, 1) := by decide +kernel
theorem dX8_fillUnit_11 : decode cX8_fillUnit 11 = .ok (.iconst 0, 1) := by decide +kernel
theorem dX8_fillUnit_12 : decode cX8_fillUnit 12 = .ok (.iastore, 1) := by decide +kernel
theorem dX8_fillUnit_13 : decode cX8_fillUnit 13 = .ok (.aload 7, 2) := by decide +kernel
theorem dX8_fillUnit_15 : decode cX8_fillUnit 15 = .ok (.iconst 1, 1) := by decide +kernel
theorem dX8_fillUnit_16 : decode cX8_fillUnit 16 = .ok (.iconst 0, 1) := by decide +kernel
theorem dX8_fillUnit_17 : decode cX8_fillUnit 17 = .ok (.iastore, 1) := by decide +kernel
theorem dX8_fillUnit_18 : decode cX8_fillUnit 18 = .ok (.aload 7, 2) := by decide +kernel
theorem dX8_fillUnit_20 : decode cX8_fillUnit 20 = .ok (.iconst 2, 1) := by decide +kernel
theorem dX8_fillUnit_21 : decode cX8_fillUnit 21 = .ok (.iconst 0, 1) := by decide +kernel
theorem dX8_fillUnit_22 : decode cX8_fillUnit 22 = .ok (.iastore, 1) := by decide +kernel
theorem dX8_fillUnit_23 : decode cX8_fillUnit 23 = .ok (.aload 7, 2) := by decide +kernel
theorem dX8_fillUnit_25 : decode cX8_fillUnit 25 = .ok (.iconst 3, 1) := by decide +kernel
theorem dX8_fillUnit_26 : decode cX8_fillUnit 26 = .ok (.iconst 0, 1) := by decide +kernel
theorem dX8_fillUnit_27 : decode cX8_fillUnit 27 = .ok (.iastore, 1) := by decide +kernel
theorem dX8_fillUnit_28 : decode cX8_fillUnit 28 = .ok (.aload 7, 2) := by decide +kernel
theorem dX8_fillUnit_30 : decode cX8_fillUnit 30 = .ok (.iconst 4, 1) := by decide +kernel
theorem dX8_fillUnit_31 : decode cX8_fillUnit 31 = .ok (.iconst 1, 1) := by decide +kernel
theorem dX8_fillUnit_32 : decode cX8_fillUnit 32 = .ok (.iastore, 1) := by decide +kernel
theorem dX8_fillUnit_33 : decode cX8_fillUnit 33 = .ok (.aload 7, 2) := by decide +kernel
theorem dX8_fillUnit_35 : decode cX8_fillUnit 35 = .ok (.iconst 5, 1) := by decide +kernel
theorem dX8_fillUnit_36 : decode cX8_fillUnit 36 = .ok (.iconst 1, 1) := by decide +kernel
theorem dX8_fillUnit_37 : decode cX8_fillUnit 37 = .ok (.iastore, 1) := by decide +kernel
theorem dX8_fillUnit_38 : decode cX8_fillUnit 38 = .ok (.aload 7, 2) := by decide +kernel
theorem dX8_fillUnit_40 : decode cX8_fillUnit 40 = .ok (.bipush 6, 2) := by decide +kernel
theorem dX8_fillUnit_42 : decode cX8_fillUnit 42 = .ok (.iconst (-1), 1) := by decide +kernel
theorem dX8_fillUnit_43 : decode cX8_fillUnit 43 = .ok (.iastore, 1) := by decide +kernel
theorem dX8_fillUnit_44 : decode cX8_fillUnit 44 = .ok (.aload 7, 2) := by decide +kernel
theorem dX8_fillUnit_46 : decode cX8_fillUnit 46 = .ok (.bipush 7, 2) := by decide +kernel
theorem dX8_fillUnit_48 : decode cX8_fillUnit 48 = .ok (.iconst 0, 1) := by decide +kernel
theorem dX8_fillUnit_49 : decode cX8_fillUnit 49 = .ok (.iastore, 1) := by decide +kernel
theorem dX8_fillUnit_50 : decode cX8_fillUnit 50 = .ok (.aload 7, 2) := by decide +kernel
theorem dX8_fillUnit_52 : decode cX8_fillUnit 52 = .ok (.bipush 8, 2) := by decide +kernel
theorem dX8_fillUnit_54 : decode cX8_fillUnit 54 = .ok (.iload_n 2, 1) := by decide +kernel
theorem dX8_fillUnit_55 : decode cX8_fillUnit 55 = .ok (.iastore, 1) := by decide +kernel
theorem dX8_fillUnit_56 : decode cX8_fillUnit 56 = .ok (.aload 7, 2) := by decide +kernel
theorem dX8_fillUnit_58 : decode cX8_fillUnit 58 = .ok (.bipush 9, 2) := by decide +kernel
theorem dX8_fillUnit_60 : decode cX8_fillUnit 60 = .ok (.iload_n 3, 1) := by decide +kernel
theorem dX8_fillUnit_61 : decode cX8_fillUnit 61 = .ok (.iastore, 1) := by decide +kernel
theorem dX8_fillUnit_62 : decode cX8_fillUnit 62 = .ok (.aload 7, 2) := by decide +kernel
theorem dX8_fillUnit_64 : decode cX8_fillUnit 64 = .ok (.bipush 10, 2) := by decide +kernel
theorem dX8_fillUnit_66 : decode cX8_fillUnit 66 = .ok (.iload 4, 2) := by decide +kernel
theorem dX8_fillUnit_68 : decode cX8_fillUnit 68 = .ok (.iastore, 1) := by decide +kernel
theorem dX8_fillUnit_69 : decode cX8_fillUnit 69 = .ok (.aload 7, 2) := by decide +kernel
theorem dX8_fillUnit_71 : decode cX8_fillUnit 71 = .ok (.bipush 11, 2) := by decide +kernel
theorem dX8_fillUnit_73 : decode cX8_fillUnit 73 = .ok (.iload 5, 2) := by decide +kernel
theorem dX8_fillUnit_75 : decode cX8_fillUnit 75 = .ok (.iastore, 1) := by decide +kernel
theorem dX8_fillUnit_76 : decode cX8_fillUnit 76 = .ok (.aload 7, 2) := by decide +kernel
theorem dX8_fillUnit_78 : decode cX8_fillUnit 78 = .ok (.bipush 12, 2) := by decide +kernel
theorem dX8_fillUnit_80 : decode cX8_fillUnit 80 = .ok (.iload 6, 2) := by decide +kernel
theorem dX8_fillUnit_82 : decode cX8_fillUnit 82 = .ok (.iastore, 1) := by decide +kernel
theorem dX8_fillUnit_83 : decode cX8_fillUnit 83 = .ok (.aload 7, 2) := by decide +kernel
theorem dX8_fillUnit_85 : decode cX8_fillUnit 85 = .ok (.bipush 13, 2) := by decide +kernel
theorem dX8_fillUnit_87 : decode cX8_fillUnit 87 = .ok (.iconst 0, 1) := by decide +kernel
theorem dX8_fillUnit_88 : decode cX8_fillUnit 88 = .ok (.iastore, 1) := by decide +kernel
theorem dX8_fillUnit_89 : decode cX8_fillUnit 89 = .ok (.return_, 1) := by decide +kernel
def PX8_fillUnit (Q : Option Value → az_M → Prop) : az_T := (s_la 0 (s_gr 9 5 (s_li 1 (s_aa 25 (s_sa 7 (s_la 7 (s_ic (nI 0) (s_ic (nI 0) (s_as (s_la 7 (s_ic (nI 1) (s_ic (nI 0) (s_as (s_la 7 (s_ic (nI 2) (s_ic (nI 0) (s_as (s_la 7 (s_ic (nI 3) (s_ic (nI 0) (s_as (s_la 7 (s_ic (nI 4) (s_ic (nI 1) (s_as (s_la 7 (s_ic (nI 5) (s_ic (nI 1) (s_as (s_la 7 (s_ic (nI 6) (s_ic (-1) (s_as (s_la 7 (s_ic (nI 7) (s_ic (nI 0) (s_as (s_la 7 (s_ic (nI 8) (s_li 2 (s_as (s_la 7 (s_ic (nI 9) (s_li 3 (s_as (s_la 7 (s_ic (nI 10) (s_li 4 (s_as (s_la 7 (s_ic (nI 11) (s_li 5 (s_as (s_la 7 (s_ic (nI 12) (s_li 6 (s_as (s_la 7 (s_ic (nI 13) (s_ic (nI 0) (s_as (s_rv Q))))))))))))))))))))))))))))))))))))))))))))))))))))))))))))))
def FX8_fillUnit : az_F := az_fun [true, false, false, false, false, false, false] 8 PX8_fillUnit
theorem okX8_fillUnit (l : Launch) : az_met l yX8_fillUnit cX8_fillUnit 8 none ({ frames := 1, cells := 0, slots := 0, locals := 100 } : Room) FX8_fillUnit := az_met_of (own := RX8) (by decide +kernel) rfl (by decide) (fun X Q C => by
  have h89 := az_vreturn C rfl dX8_fillUnit_89
  have h88 := az_iast C dX8_fillUnit_88 h89
  have h87 := az_iconst (x := (nI 0)) C dX8_fillUnit_87 (by decide +kernel) h88
  have h85 := az_bipush (x := (nI 13)) C dX8_fillUnit_85 (by decide +kernel) h87
  have h83 := az_aload C dX8_fillUnit_83 h85
  have h82 := az_iast C dX8_fillUnit_82 h83
  have h80 := az_iload C dX8_fillUnit_80 h82
  have h78 := az_bipush (x := (nI 12)) C dX8_fillUnit_78 (by decide +kernel) h80
  have h76 := az_aload C dX8_fillUnit_76 h78
  have h75 := az_iast C dX8_fillUnit_75 h76
  have h73 := az_iload C dX8_fillUnit_73 h75
  have h71 := az_bipush (x := (nI 11)) C dX8_fillUnit_71 (by decide +kernel) h73
  have h69 := az_aload C dX8_fillUnit_69 h71
  have h68 := az_iast C dX8_fillUnit_68 h69
  have h66 := az_iload C dX8_fillUnit_66 h68
  have h64 := az_bipush (x := (nI 10)) C dX8_fillUnit_64 (by decide +kernel) h66
  have h62 := az_aload C dX8_fillUnit_62 h64
  have h61 := az_iast C dX8_fillUnit_61 h62
  have h60 := az_iload_n C 3 rfl dX8_fillUnit_60 h61
  have h58 := az_bipush (x := (nI 9)) C dX8_fillUnit_58 (by decide +kernel) h60
  have h56 := az_aload C dX8_fillUnit_56 h58
  have h55 := az_iast C dX8_fillUnit_55 h56
  have h54 := az_iload_n C 2 rfl dX8_fillUnit_54 h55
  have h52 := az_bipush (x := (nI 8)) C dX8_fillUnit_52 (by decide +kernel) h54
  have h50 := az_aload C dX8_fillUnit_50 h52
  have h49 := az_iast C dX8_fillUnit_49 h50
  have h48 := az_iconst (x := (nI 0)) C dX8_fillUnit_48 (by decide +kernel) h49
  have h46 := az_bipush (x := (nI 7)) C dX8_fillUnit_46 (by decide +kernel) h48
  have h44 := az_aload C dX8_fillUnit_44 h46
  have h43 := az_iast C dX8_fillUnit_43 h44
  have h42 := az_iconst (x := (-1)) C dX8_fillUnit_42 (by decide +kernel) h43
  have h40 := az_bipush (x := (nI 6)) C dX8_fillUnit_40 (by decide +kernel) h42
  have h38 := az_aload C dX8_fillUnit_38 h40
  have h37 := az_iast C dX8_fillUnit_37 h38
  have h36 := az_iconst (x := (nI 1)) C dX8_fillUnit_36 (by decide +kernel) h37
  have h35 := az_iconst (x := (nI 5)) C dX8_fillUnit_35 (by decide +kernel) h36
  have h33 := az_aload C dX8_fillUnit_33 h35
  have h32 := az_iast C dX8_fillUnit_32 h33
  have h31 := az_iconst (x := (nI 1)) C dX8_fillUnit_31 (by decide +kernel) h32
  have h30 := az_iconst (x := (nI 4)) C dX8_fillUnit_30 (by decide +kernel) h31
  have h28 := az_aload C dX8_fillUnit_28 h30
  have h27 := az_iast C dX8_fillUnit_27 h28
  have h26 := az_iconst (x := (nI 0)) C dX8_fillUnit_26 (by decide +kernel) h27
  have h25 := az_iconst (x := (nI 3)) C dX8_fillUnit_25 (by decide +kernel) h26
  have h23 := az_aload C dX8_fillUnit_23 h25
  have h22 := az_iast C dX8_fillUnit_22 h23
  have h21 := az_iconst (x := (nI 0)) C dX8_fillUnit_21 (by decide +kernel) h22
  have h20 := az_iconst (x := (nI 2)) C dX8_fillUnit_20 (by decide +kernel) h21
  have h18 := az_aload C dX8_fillUnit_18 h20
  have h17 := az_iast C dX8_fillUnit_17 h18
  have h16 := az_iconst (x := (nI 0)) C dX8_fillUnit_16 (by decide +kernel) h17
  have h15 := az_iconst (x := (nI 1)) C dX8_fillUnit_15 (by decide +kernel) h16
  have h13 := az_aload C dX8_fillUnit_13 h15
  have h12 := az_iast C dX8_fillUnit_12 h13
  have h11 := az_iconst (x := (nI 0)) C dX8_fillUnit_11 (by decide +kernel) h12
  have h10 := az_iconst (x := (nI 0)) C dX8_fillUnit_10 (by decide +kernel) h11
  have h8 := az_aload C dX8_fillUnit_8 h10
  have h6 := az_astore C (by decide) dX8_fillUnit_6 h8
  have h5 := az_aald2 C dX8_fillUnit_5 h6
  have h4 := az_iload_n C 1 rfl dX8_fillUnit_4 h5
  have h1 := az_getR (T := TX8) (N := 11) (j := 5) C gwRX8 rfl (by decide) (by decide) iIRX8_5 mFRX8_11 rfl dX8_fillUnit_1 h4
  have h0 := az_aload_n C 0 rfl dX8_fillUnit_0 h1
  exact h0) l
theorem dX9_hoursRun_0 : decode cX9_hoursRun 0 = .ok (.iconst 0, 1) := by decide +kernel
theorem dX9_hoursRun_1 : decode cX9_hoursRun 1 = .ok (.istore_n 3, 1) := by decide +kernel
theorem dX9_hoursRun_2 : decode cX9_hoursRun 2 = .ok (.iconst 0, 1) := by decide +kernel
theorem dX9_hoursRun_3 : decode cX9_hoursRun 3 = .ok (.istore 4, 2) := by decide +kernel
theorem dX9_hoursRun_5 : decode cX9_hoursRun 5 = .ok (.iload 4, 2) := by decide +kernel
theorem dX9_hoursRun_7 : decode cX9_hoursRun 7 = .ok (.iload_n 2, 1) := by decide +kernel
theorem dX9_hoursRun_8 : decode cX9_hoursRun 8 = .ok (.if_icmp .ge 26, 3) := by decide +kernel
theorem dX9_hoursRun_11 : decode cX9_hoursRun 11 = .ok (.aload_n 0, 1) := by decide +kernel
theorem dX9_hoursRun_12 : decode cX9_hoursRun 12 = .ok (.iload_n 1, 1) := by decide +kernel
theorem dX9_hoursRun_13 : decode cX9_hoursRun 13 = .ok (.iload 4, 2) := by decide +kernel
theorem dX9_hoursRun_15 : decode cX9_hoursRun 15 = .ok (.invokevirtual 38, 3) := by decide +kernel
theorem dX9_hoursRun_18 : decode cX9_hoursRun 18 = .ok (.ifCond .eq 10, 3) := by decide +kernel
theorem dX9_hoursRun_21 : decode cX9_hoursRun 21 = .ok (.iload_n 3, 1) := by decide +kernel
theorem dX9_hoursRun_22 : decode cX9_hoursRun 22 = .ok (.iconst 1, 1) := by decide +kernel
theorem dX9_hoursRun_23 : decode cX9_hoursRun 23 = .ok (.iload 4, 2) := by decide +kernel
theorem dX9_hoursRun_25 : decode cX9_hoursRun 25 = .ok (.ishl, 1) := by decide +kernel
theorem dX9_hoursRun_26 : decode cX9_hoursRun 26 = .ok (.ior, 1) := by decide +kernel
theorem dX9_hoursRun_27 : decode cX9_hoursRun 27 = .ok (.istore_n 3, 1) := by decide +kernel
theorem dX9_hoursRun_28 : decode cX9_hoursRun 28 = .ok (.iinc 4 1, 3) := by decide +kernel
theorem dX9_hoursRun_31 : decode cX9_hoursRun 31 = .ok (.goto (-26), 3) := by decide +kernel
theorem dX9_hoursRun_34 : decode cX9_hoursRun 34 = .ok (.iload_n 3, 1) := by decide +kernel
theorem dX9_hoursRun_35 : decode cX9_hoursRun 35 = .ok (.ireturn, 1) := by decide +kernel
def LX9_hoursRun_28 (Q : Option Value → az_M → Prop) (Z5 : az_T) : az_T := (s_inc 4 (nI 1) (s_kp [true, true, true, true, true] Z5))
theorem okLX9_hoursRun_28 {X : az_X} {Q : Option Value → az_M → Prop} (C : az_C X cX9_hoursRun 5 RX9 (az_ts yX9_hoursRun cX9_hoursRun 5 (some .int)) ({ frames := 2, cells := 0, slots := 0, locals := 122 } : Room) (some .int) Q) {Z5 : az_T} (hZ5 : az_ok X 5 Z5) : az_ok X 28 (LX9_hoursRun_28 Q Z5) := by
  have h31 := az_goto (tgt := 5) C dX9_hoursRun_31 (by decide) (az_keep [true, true, true, true, true] hZ5)
  have h28 := az_iinc (v := (nI 1)) C (by decide) (by decide +kernel) dX9_hoursRun_28 h31
  exact h28
def BX9_hoursRun_5 (Q : Option Value → az_M → Prop) (Z5 : az_T) : az_T := (s_li 4 (s_li 2 (s_if2 d_ge (s_li 3 (s_ri Q)) (s_la 0 (s_li 1 (s_li 4 (s_cv 2 10 FX9_runs (s_if c_eq (s_kp [true, true, true, true, true] (LX9_hoursRun_28 Q Z5)) (s_li 3 (s_ic (nI 1) (s_li 4 (s_bin f_shl (s_bin f_or (s_si 3 (s_kp [true, true, true, true, true] (LX9_hoursRun_28 Q Z5))))))))))))))))
theorem okBX9_hoursRun_5 {X : az_X} {Q : Option Value → az_M → Prop} (C : az_C X cX9_hoursRun 5 RX9 (az_ts yX9_hoursRun cX9_hoursRun 5 (some .int)) ({ frames := 2, cells := 0, slots := 0, locals := 122 } : Room) (some .int) Q) {Z5 : az_T} (hZ5 : az_ok X 5 Z5) : az_ok X 5 (BX9_hoursRun_5 Q Z5) := by
  have h35 := az_ireturn C rfl dX9_hoursRun_35
  have h34 := az_iload_n C 3 rfl dX9_hoursRun_34 h35
  have h27 := az_istore_n C 3 rfl (by decide) dX9_hoursRun_27 (az_keep [true, true, true, true, true] (okLX9_hoursRun_28 C hZ5))
  have h26 := az_ior C dX9_hoursRun_26 h27
  have h25 := az_ishl C dX9_hoursRun_25 h26
  have h23 := az_iload C dX9_hoursRun_23 h25
  have h22 := az_iconst (x := (nI 1)) C dX9_hoursRun_22 (by decide +kernel) h23
  have h21 := az_iload_n C 3 rfl dX9_hoursRun_21 h22
  have h18 := az_if_eq (tgt := 28) C dX9_hoursRun_18 (by decide) (az_keep [true, true, true, true, true] (okLX9_hoursRun_28 C hZ5)) h21
  have h15 := az_callV (ci := 10) C okX9_runs knX9_runs imX9_runs seX9_runs mLRX9_38 rfl (by decide) ⟨rfl, rfl, by decide, by decide⟩ dX9_hoursRun_15 h18
  have h13 := az_iload C dX9_hoursRun_13 h15
  have h12 := az_iload_n C 1 rfl dX9_hoursRun_12 h13
  have h11 := az_aload_n C 0 rfl dX9_hoursRun_11 h12
  have h8 := az_icmp_ge (tgt := 34) C dX9_hoursRun_8 (by decide) h34 h11
  have h7 := az_iload_n C 2 rfl dX9_hoursRun_7 h8
  have h5 := az_iload C dX9_hoursRun_5 h7
  exact h5
def LX9_hoursRun_5 (Q : Option Value → az_M → Prop) : az_T := s_lp (fun Z => BX9_hoursRun_5 Q Z)
theorem okLX9_hoursRun_5 {X : az_X} {Q : Option Value → az_M → Prop} (C : az_C X cX9_hoursRun 5 RX9 (az_ts yX9_hoursRun cX9_hoursRun 5 (some .int)) ({ frames := 2, cells := 0, slots := 0, locals := 122 } : Room) (some .int) Q) : az_ok X 5 (LX9_hoursRun_5 Q) := az_loop (F := fun Z => BX9_hoursRun_5 Q Z) (fun _ hZ => okBX9_hoursRun_5 C hZ)
def PX9_hoursRun (Q : Option Value → az_M → Prop) : az_T := (s_ic (nI 0) (s_si 3 (s_ic (nI 0) (s_si 4 (s_kp [true, true, true, true, true] (LX9_hoursRun_5 Q))))))
def FX9_hoursRun : az_F := az_fun [true, false, false] 5 PX9_hoursRun
theorem okX9_hoursRun (l : Launch) : az_met l yX9_hoursRun cX9_hoursRun 5 (some .int) ({ frames := 2, cells := 0, slots := 0, locals := 122 } : Room) FX9_hoursRun := az_met_of (own := RX9) (by decide +kernel) rfl (by decide) (fun X Q C => by
  have h3 := az_istore C (by decide) dX9_hoursRun_3 (az_keep [true, true, true, true, true] (okLX9_hoursRun_5 C))
  have h2 := az_iconst (x := (nI 0)) C dX9_hoursRun_2 (by decide +kernel) h3
  have h1 := az_istore_n C 3 rfl (by decide) dX9_hoursRun_1 h2
  have h0 := az_iconst (x := (nI 0)) C dX9_hoursRun_0 (by decide +kernel) h1
  exact h0) l
theorem dX10_note_0 : decode cX10_note 0 = .ok (.iload_n 1, 1) := by decide +kernel
theorem dX10_note_1 : decode cX10_note 1 = .ok (.ifCond .eq 64, 3) := by decide +kernel
theorem dX10_note_4 : decode cX10_note 4 = .ok (.aload_n 0, 1) := by decide +kernel
theorem dX10_note_5 : decode cX10_note 5 = .ok (.getfield 24, 3) := by decide +kernel
theorem dX10_note_8 : decode cX10_note 8 = .ok (.sipush 216, 3) := by decide +kernel
theorem dX10_note_11 : decode cX10_note 11 = .ok (.if_icmp .ge 54, 3) := by decide +kernel
theorem dX10_note_14 : decode cX10_note 14 = .ok (.aload_n 0, 1) := by decide +kernel
theorem dX10_note_15 : decode cX10_note 15 = .ok (.getfield 11, 3) := by decide +kernel
theorem dX10_note_18 : decode cX10_note 18 = .ok (.aload_n 0, 1) := by decide +kernel
theorem dX10_note_19 : decode cX10_note 19 = .ok (.getfield 24, 3) := by decide +kernel
theorem dX10_note_22 : decode cX10_note 22 = .ok (.iload_n 2, 1) := by decide +kernel
theorem dX10_note_23 : decode cX10_note 23 = .ok (.iastore, 1) := by decide +kernel
theorem dX10_note_24 : decode cX10_note 24 = .ok (.aload_n 0, 1) := by decide +kernel
theorem dX10_note_25 : decode cX10_note 25 = .ok (.getfield 15, 3) := by decide +kernel
theorem dX10_note_28 : decode cX10_note 28 = .ok (.aload_n 0, 1) := by decide +kernel
theorem dX10_note_29 : decode cX10_note 29 = .ok (.getfield 24, 3) := by decide +kernel
theorem dX10_note_32 : decode cX10_note 32 = .ok (.iload_n 3, 1) := by decide +kernel
theorem dX10_note_33 : decode cX10_note 33 = .ok (.iastore, 1) := by decide +kernel
theorem dX10_note_34 : decode cX10_note 34 = .ok (.aload_n 0, 1) := by decide +kernel
theorem dX10_note_35 : decode cX10_note 35 = .ok (.getfield 18, 3) := by decide +kernel
theorem dX10_note_38 : decode cX10_note 38 = .ok (.aload_n 0, 1) := by decide +kernel
theorem dX10_note_39 : decode cX10_note 39 = .ok (.getfield 24, 3) := by decide +kernel
theorem dX10_note_42 : decode cX10_note 42 = .ok (.iload 4, 2) := by decide +kernel
theorem dX10_note_44 : decode cX10_note 44 = .ok (.iastore, 1) := by decide +kernel
theorem dX10_note_45 : decode cX10_note 45 = .ok (.aload_n 0, 1) := by decide +kernel
theorem dX10_note_46 : decode cX10_note 46 = .ok (.dup, 1) := by decide +kernel
theorem dX10_note_47 : decode cX10_note 47 = .ok (.getfield 24, 3) := by decide +kernel
theorem dX10_note_50 : decode cX10_note 50 = .ok (.iconst 1, 1) := by decide +kernel
theorem dX10_note_51 : decode cX10_note 51 = .ok (.iadd, 1) := by decide +kernel
theorem dX10_note_52 : decode cX10_note 52 = .ok (.putfield 24, 3) := by decide +kernel
theorem dX10_note_55 : decode cX10_note 55 = .ok (.aload_n 0, 1) := by decide +kernel
theorem dX10_note_56 : decode cX10_note 56 = .ok (.getfield 21, 3) := by decide +kernel
theorem dX10_note_59 : decode cX10_note 59 = .ok (.iload_n 3, 1) := by decide +kernel
theorem dX10_note_60 : decode cX10_note 60 = .ok (.dup2, 1) := by decide +kernel
theorem dX10_note_61 : decode cX10_note 61 = .ok (.iaload, 1) := by decide +kernel
theorem dX10_note_62 : decode cX10_note 62 = .ok (.iconst 1, 1) := by decide +kernel
theorem dX10_note_63 : decode cX10_note 63 = .ok (.iadd, 1) := by decide +kernel
theorem dX10_note_64 : decode cX10_note 64 = .ok (.iastore, 1) := by decide +kernel
theorem dX10_note_65 : decode cX10_note 65 = .ok (.return_, 1) := by decide +kernel
def LX10_note_65 (Q : Option Value → az_M → Prop) : az_T := (s_rv Q)
theorem okLX10_note_65 {X : az_X} {Q : Option Value → az_M → Prop} (C : az_C X cX10_note 5 RX10 (az_ts yX10_note cX10_note 5 none) ({ frames := 1, cells := 0, slots := 0, locals := 100 } : Room) none Q) : az_ok X 65 (LX10_note_65 Q) := by
  have h65 := az_vreturn C rfl dX10_note_65
  exact h65
def PX10_note (Q : Option Value → az_M → Prop) : az_T := (s_li 1 (s_if c_eq (s_kp [false, false, false, false, false] (LX10_note_65 Q)) (s_la 0 (s_gi 11 4 (s_ic (nI 216) (s_if2 d_ge (s_kp [false, false, false, false, false] (LX10_note_65 Q)) (s_la 0 (s_gr 11 0 (s_la 0 (s_gi 11 4 (s_li 2 (s_as (s_la 0 (s_gr 11 1 (s_la 0 (s_gi 11 4 (s_li 3 (s_as (s_la 0 (s_gr 11 2 (s_la 0 (s_gi 11 4 (s_li 4 (s_as (s_la 0 (s_dup (s_gi 11 4 (s_ic (nI 1) (s_bin f_add (s_pi 11 4 (s_la 0 (s_gr 11 3 (s_li 3 (s_dup2 (s_al 20 (s_ic (nI 1) (s_bin f_add (s_as (s_kp [false, false, false, false, false] (LX10_note_65 Q))))))))))))))))))))))))))))))))))))))))
def FX10_note : az_F := az_fun [true, false, false, false, false] 5 PX10_note
theorem okX10_note (l : Launch) : az_met l yX10_note cX10_note 5 none ({ frames := 1, cells := 0, slots := 0, locals := 100 } : Room) FX10_note := az_met_of (own := RX10) (by decide +kernel) rfl (by decide) (fun X Q C => by
  have h64 := az_iast C dX10_note_64 (az_keep [false, false, false, false, false] (okLX10_note_65 C))
  have h63 := az_iadd C dX10_note_63 h64
  have h62 := az_iconst (x := (nI 1)) C dX10_note_62 (by decide +kernel) h63
  have h61 := az_iald C dX10_note_61 h62
  have h60 := az_dup2 C dX10_note_60 h61
  have h59 := az_iload_n C 3 rfl dX10_note_59 h60
  have h56 := az_getR (T := TX10) (N := 5) (j := 3) C gwRX10 rfl (by decide) (by decide) iIRX10_3 mFRX10_21 rfl dX10_note_56 h59
  have h55 := az_aload_n C 0 rfl dX10_note_55 h56
  have h52 := az_putI (T := TX10) (N := 5) (j := 4) C gwRX10 rfl (by decide) (by decide) tyX10 tyX10_ok nmX10 iIRX10_4 (by decide +kernel) rfl mFRX10_24 rfl dX10_note_52 h55
  have h51 := az_iadd C dX10_note_51 h52
  have h50 := az_iconst (x := (nI 1)) C dX10_note_50 (by decide +kernel) h51
  have h47 := az_getI (T := TX10) (N := 5) (j := 4) C gwRX10 rfl (by decide) (by decide) iIRX10_4 mFRX10_24 rfl dX10_note_47 h50
  have h46 := az_dup C dX10_note_46 h47
  have h45 := az_aload_n C 0 rfl dX10_note_45 h46
  have h44 := az_iast C dX10_note_44 h45
  have h42 := az_iload C dX10_note_42 h44
  have h39 := az_getI (T := TX10) (N := 5) (j := 4) C gwRX10 rfl (by decide) (by decide) iIRX10_4 mFRX10_24 rfl dX10_note_39 h42
  have h38 := az_aload_n C 0 rfl dX10_note_38 h39
  have h35 := az_getR (T := TX10) (N := 5) (j := 2) C gwRX10 rfl (by decide) (by decide) iIRX10_2 mFRX10_18 rfl dX10_note_35 h38
  have h34 := az_aload_n C 0 rfl dX10_note_34 h35
  have h33 := az_iast C dX10_note_33 h34
  have h32 := az_iload_n C 3 rfl dX10_note_32 h33
  have h29 := az_getI (T := TX10) (N := 5) (j := 4) C gwRX10 rfl (by decide) (by decide) iIRX10_4 mFRX10_24 rfl dX10_note_29 h32
  have h28 := az_aload_n C 0 rfl dX10_note_28 h29
  have h25 := az_getR (T := TX10) (N := 5) (j := 1) C gwRX10 rfl (by decide) (by decide) iIRX10_1 mFRX10_15 rfl dX10_note_25 h28
  have h24 := az_aload_n C 0 rfl dX10_note_24 h25
  have h23 := az_iast C dX10_note_23 h24
  have h22 := az_iload_n C 2 rfl dX10_note_22 h23
  have h19 := az_getI (T := TX10) (N := 5) (j := 4) C gwRX10 rfl (by decide) (by decide) iIRX10_4 mFRX10_24 rfl dX10_note_19 h22
  have h18 := az_aload_n C 0 rfl dX10_note_18 h19
  have h15 := az_getR (T := TX10) (N := 5) (j := 0) C gwRX10 rfl (by decide) (by decide) iIRX10_0 mFRX10_11 rfl dX10_note_15 h18
  have h14 := az_aload_n C 0 rfl dX10_note_14 h15
  have h11 := az_icmp_ge (tgt := 65) C dX10_note_11 (by decide) (az_keep [false, false, false, false, false] (okLX10_note_65 C)) h14
  have h8 := az_sipush (x := (nI 216)) C dX10_note_8 (by decide +kernel) h11
  have h5 := az_getI (T := TX10) (N := 5) (j := 4) C gwRX10 rfl (by decide) (by decide) iIRX10_4 mFRX10_24 rfl dX10_note_5 h8
  have h4 := az_aload_n C 0 rfl dX10_note_4 h5
  have h1 := az_if_eq (tgt := 65) C dX10_note_1 (by decide) (az_keep [false, false, false, false, false] (okLX10_note_65 C)) h4
  have h0 := az_iload_n C 1 rfl dX10_note_0 h1
  exact h0) l
theorem dX10_listUnits_0 : decode cX10_listUnits 0 = .ok (.aload_n 1, 1) := by decide +kernel
theorem dX10_listUnits_1 : decode cX10_listUnits 1 = .ok (.iload_n 3, 1) := by decide +kernel
theorem dX10_listUnits_2 : decode cX10_listUnits 2 = .ok (.invokevirtual 50, 3) := by decide +kernel
theorem dX10_listUnits_5 : decode cX10_listUnits 5 = .ok (.istore 4, 2) := by decide +kernel
theorem dX10_listUnits_7 : decode cX10_listUnits 7 = .ok (.aload_n 2, 1) := by decide +kernel
theorem dX10_listUnits_8 : decode cX10_listUnits 8 = .ok (.getfield 54, 3) := by decide +kernel
theorem dX10_listUnits_11 : decode cX10_listUnits 11 = .ok (.getfield 58, 3) := by decide +kernel
theorem dX10_listUnits_14 : decode cX10_listUnits 14 = .ok (.iload_n 3, 1) := by decide +kernel
theorem dX10_listUnits_15 : decode cX10_listUnits 15 = .ok (.iaload, 1) := by decide +kernel
theorem dX10_listUnits_16 : decode cX10_listUnits 16 = .ok (.istore 5, 2) := by decide +kernel
theorem dX10_listUnits_18 : decode cX10_listUnits 18 = .ok (.iconst 1, 1) := by decide +kernel
theorem dX10_listUnits_19 : decode cX10_listUnits 19 = .ok (.istore 6, 2) := by decide +kernel
theorem dX10_listUnits_21 : decode cX10_listUnits 21 = .ok (.iload 6, 2) := by decide +kernel
theorem dX10_listUnits_23 : decode cX10_listUnits 23 = .ok (.iconst 3, 1) := by decide +kernel
theorem dX10_listUnits_24 : decode cX10_listUnits 24 = .ok (.if_icmp .gt 61, 3) := by decide +kernel
theorem dX10_listUnits_27 : decode cX10_listUnits 27 = .ok (.iconst 0, 1) := by decide +kernel
theorem dX10_listUnits_28 : decode cX10_listUnits 28 = .ok (.istore 7, 2) := by decide +kernel
theorem dX10_listUnits_30 : decode cX10_listUnits 30 = .ok (.iload 7, 2) := by decide +kernel
theorem dX10_listUnits_32 : decode cX10_listUnits 32 = .ok (.aload_n 1, 1) := by decide +kernel
theorem dX10_listUnits_33 : decode cX10_listUnits 33 = .ok (.getfield 63, 3) := by decide +kernel
theorem dX10_listUnits_36 : decode cX10_listUnits 36 = .ok (.if_icmp .ge 43, 3) := by decide +kernel
theorem dX10_listUnits_39 : decode cX10_listUnits 39 = .ok (.aload_n 0, 1) := by decide +kernel
theorem dX10_listUnits_40 : decode cX10_listUnits 40 = .ok (.aload_n 2, 1) := by decide +kernel
theorem dX10_listUnits_41 : decode cX10_listUnits 41 = .ok (.getfield 66, 3) := by decide +kernel
theorem dX10_listUnits_44 : decode cX10_listUnits 44 = .ok (.aload_n 1, 1) := by decide +kernel
theorem dX10_listUnits_45 : decode cX10_listUnits 45 = .ok (.iload 7, 2) := by decide +kernel
theorem dX10_listUnits_47 : decode cX10_listUnits 47 = .ok (.iload_n 3, 1) := by decide +kernel
theorem dX10_listUnits_48 : decode cX10_listUnits 48 = .ok (.iload 4, 2) := by decide +kernel
theorem dX10_listUnits_50 : decode cX10_listUnits 50 = .ok (.iload 5, 2) := by decide +kernel
theorem dX10_listUnits_52 : decode cX10_listUnits 52 = .ok (.invokevirtual 70, 3) := by decide +kernel
theorem dX10_listUnits_55 : decode cX10_listUnits 55 = .ok (.iload 6, 2) := by decide +kernel
theorem dX10_listUnits_57 : decode cX10_listUnits 57 = .ok (.if_icmp .ne 7, 3) := by decide +kernel
theorem dX10_listUnits_60 : decode cX10_listUnits 60 = .ok (.iconst 1, 1) := by decide +kernel
theorem dX10_listUnits_61 : decode cX10_listUnits 61 = .ok (.goto 4, 3) := by decide +kernel
theorem dX10_listUnits_64 : decode cX10_listUnits 64 = .ok (.iconst 0, 1) := by decide +kernel
theorem dX10_listUnits_65 : decode cX10_listUnits 65 = .ok (.iload_n 3, 1) := by decide +kernel
theorem dX10_listUnits_66 : decode cX10_listUnits 66 = .ok (.iload 6, 2) := by decide +kernel
theorem dX10_listUnits_68 : decode cX10_listUnits 68 = .ok (.iload 7, 2) := by decide +kernel
theorem dX10_listUnits_70 : decode cX10_listUnits 70 = .ok (.invokevirtual 43, 3) := by decide +kernel
theorem dX10_listUnits_73 : decode cX10_listUnits 73 = .ok (.iinc 7 1, 3) := by decide +kernel
theorem dX10_listUnits_76 : decode cX10_listUnits 76 = .ok (.goto (-46), 3) := by decide +kernel
theorem dX10_listUnits_79 : decode cX10_listUnits 79 = .ok (.iinc 6 1, 3) := by decide +kernel
theorem dX10_listUnits_82 : decode cX10_listUnits 82 = .ok (.goto (-61), 3) := by decide +kernel
theorem dX10_listUnits_85 : decode cX10_listUnits 85 = .ok (.return_, 1) := by decide +kernel
def LX10_listUnits_65 (Q : Option Value → az_M → Prop) (Z21 : az_T) (Z30 : az_T) : az_T := (s_li 3 (s_li 6 (s_li 7 (s_cv 4 11 FX10_note (s_inc 7 (nI 1) (s_kp [true, true, true, true, true, true, true, true] Z30))))))
theorem okLX10_listUnits_65 {X : az_X} {Q : Option Value → az_M → Prop} (C : az_C X cX10_listUnits 8 RX10 (az_ts yX10_listUnits cX10_listUnits 8 none) ({ frames := 4, cells := 0, slots := 0, locals := 171 } : Room) none Q) {Z21 : az_T} (hZ21 : az_ok X 21 Z21) {Z30 : az_T} (hZ30 : az_ok X 30 Z30) : az_ok X 65 (LX10_listUnits_65 Q Z21 Z30) := by
  have h76 := az_goto (tgt := 30) C dX10_listUnits_76 (by decide) (az_keep [true, true, true, true, true, true, true, true] hZ30)
  have h73 := az_iinc (v := (nI 1)) C (by decide) (by decide +kernel) dX10_listUnits_73 h76
  have h70 := az_callV (ci := 11) C okX10_note knX10_note imX10_note seX10_note mLRX10_43 rfl (by decide) ⟨rfl, rfl, by decide, by decide⟩ dX10_listUnits_70 h73
  have h68 := az_iload C dX10_listUnits_68 h70
  have h66 := az_iload C dX10_listUnits_66 h68
  have h65 := az_iload_n C 3 rfl dX10_listUnits_65 h66
  exact h65
def BX10_listUnits_30 (Q : Option Value → az_M → Prop) (Z21 : az_T) (Z30 : az_T) : az_T := (s_li 7 (s_la 1 (s_gi 9 3 (s_if2 d_ge (s_inc 6 (nI 1) (s_kp [true, true, true, true, true, true, true, false] Z21)) (s_la 0 (s_la 2 (s_gr 6 1 (s_la 1 (s_li 7 (s_li 3 (s_li 4 (s_li 5 (s_cv 5 10 FX9_breach (s_li 6 (s_if2 d_ne (s_ic (nI 0) (s_kp [true, true, true, true, true, true, true, true] (LX10_listUnits_65 Q Z21 Z30))) (s_ic (nI 1) (s_kp [true, true, true, true, true, true, true, true] (LX10_listUnits_65 Q Z21 Z30))))))))))))))))))
theorem okBX10_listUnits_30 {X : az_X} {Q : Option Value → az_M → Prop} (C : az_C X cX10_listUnits 8 RX10 (az_ts yX10_listUnits cX10_listUnits 8 none) ({ frames := 4, cells := 0, slots := 0, locals := 171 } : Room) none Q) {Z21 : az_T} (hZ21 : az_ok X 21 Z21) {Z30 : az_T} (hZ30 : az_ok X 30 Z30) : az_ok X 30 (BX10_listUnits_30 Q Z21 Z30) := by
  have h82 := az_goto (tgt := 21) C dX10_listUnits_82 (by decide) (az_keep [true, true, true, true, true, true, true, false] hZ21)
  have h79 := az_iinc (v := (nI 1)) C (by decide) (by decide +kernel) dX10_listUnits_79 h82
  have h64 := az_iconst (x := (nI 0)) C dX10_listUnits_64 (by decide +kernel) (az_keep [true, true, true, true, true, true, true, true] (okLX10_listUnits_65 C hZ21 hZ30))
  have h61 := az_goto (tgt := 65) C dX10_listUnits_61 (by decide) (az_keep [true, true, true, true, true, true, true, true] (okLX10_listUnits_65 C hZ21 hZ30))
  have h60 := az_iconst (x := (nI 1)) C dX10_listUnits_60 (by decide +kernel) h61
  have h57 := az_icmp_ne (tgt := 64) C dX10_listUnits_57 (by decide) h64 h60
  have h55 := az_iload C dX10_listUnits_55 h57
  have h52 := az_callVN (ci := 10) C okX9_breach knX9_breach imX9_breach seX9_breach mNRX10_70 rfl (by decide) ⟨rfl, rfl, by decide, by decide⟩ dX10_listUnits_52 h55
  have h50 := az_iload C dX10_listUnits_50 h52
  have h48 := az_iload C dX10_listUnits_48 h50
  have h47 := az_iload_n C 3 rfl dX10_listUnits_47 h48
  have h45 := az_iload C dX10_listUnits_45 h47
  have h44 := az_aload_n C 1 rfl dX10_listUnits_44 h45
  have h41 := az_getR (T := TX4) (N := 10) (j := 1) C gwRX4 rfl (by decide) (by decide) iIRX4_1 mFRX10_66 rfl dX10_listUnits_41 h44
  have h40 := az_aload_n C 2 rfl dX10_listUnits_40 h41
  have h39 := az_aload_n C 0 rfl dX10_listUnits_39 h40
  have h36 := az_icmp_ge (tgt := 79) C dX10_listUnits_36 (by decide) h79 h39
  have h33 := az_getI (T := TX8) (N := 11) (j := 3) C gwRX8 rfl (by decide) (by decide) iIRX8_3 mFRX10_63 rfl dX10_listUnits_33 h36
  have h32 := az_aload_n C 1 rfl dX10_listUnits_32 h33
  have h30 := az_iload C dX10_listUnits_30 h32
  exact h30
def LX10_listUnits_30 (Q : Option Value → az_M → Prop) (Z21 : az_T) : az_T := s_lp (fun Z => BX10_listUnits_30 Q Z21 Z)
theorem okLX10_listUnits_30 {X : az_X} {Q : Option Value → az_M → Prop} (C : az_C X cX10_listUnits 8 RX10 (az_ts yX10_listUnits cX10_listUnits 8 none) ({ frames := 4, cells := 0, slots := 0, locals := 171 } : Room) none Q) {Z21 : az_T} (hZ21 : az_ok X 21 Z21) : az_ok X 30 (LX10_listUnits_30 Q Z21) := az_loop (F := fun Z => BX10_listUnits_30 Q Z21 Z) (fun _ hZ => okBX10_listUnits_30 C hZ21 hZ)
def BX10_listUnits_21 (Q : Option Value → az_M → Prop) (Z21 : az_T) : az_T := (s_li 6 (s_ic (nI 3) (s_if2 d_gt (s_rv Q) (s_ic (nI 0) (s_si 7 (s_kp [true, true, true, true, true, true, true, true] (LX10_listUnits_30 Q Z21)))))))
theorem okBX10_listUnits_21 {X : az_X} {Q : Option Value → az_M → Prop} (C : az_C X cX10_listUnits 8 RX10 (az_ts yX10_listUnits cX10_listUnits 8 none) ({ frames := 4, cells := 0, slots := 0, locals := 171 } : Room) none Q) {Z21 : az_T} (hZ21 : az_ok X 21 Z21) : az_ok X 21 (BX10_listUnits_21 Q Z21) := by
  have h85 := az_vreturn C rfl dX10_listUnits_85
  have h28 := az_istore C (by decide) dX10_listUnits_28 (az_keep [true, true, true, true, true, true, true, true] (okLX10_listUnits_30 C hZ21))
  have h27 := az_iconst (x := (nI 0)) C dX10_listUnits_27 (by decide +kernel) h28
  have h24 := az_icmp_gt (tgt := 85) C dX10_listUnits_24 (by decide) h85 h27
  have h23 := az_iconst (x := (nI 3)) C dX10_listUnits_23 (by decide +kernel) h24
  have h21 := az_iload C dX10_listUnits_21 h23
  exact h21
def LX10_listUnits_21 (Q : Option Value → az_M → Prop) : az_T := s_lp (fun Z => BX10_listUnits_21 Q Z)
theorem okLX10_listUnits_21 {X : az_X} {Q : Option Value → az_M → Prop} (C : az_C X cX10_listUnits 8 RX10 (az_ts yX10_listUnits cX10_listUnits 8 none) ({ frames := 4, cells := 0, slots := 0, locals := 171 } : Room) none Q) : az_ok X 21 (LX10_listUnits_21 Q) := az_loop (F := fun Z => BX10_listUnits_21 Q Z) (fun _ hZ => okBX10_listUnits_21 C hZ)
def PX10_listUnits (Q : Option Value → az_M → Prop) : az_T := (s_la 1 (s_li 3 (s_cv 1 9 FX8_plannedIn (s_si 4 (s_la 2 (s_gr 6 0 (s_gr 2 2 (s_li 3 (s_al 20 (s_si 5 (s_ic (nI 1) (s_si 6 (s_kp [true, true, true, true, true, true, true, false] (LX10_listUnits_21 Q))))))))))))))
def FX10_listUnits : az_F := az_fun [true, true, true, false] 8 PX10_listUnits
theorem okX10_listUnits (l : Launch) : az_met l yX10_listUnits cX10_listUnits 8 none ({ frames := 4, cells := 0, slots := 0, locals := 171 } : Room) FX10_listUnits := az_met_of (own := RX10) (by decide +kernel) rfl (by decide) (fun X Q C => by
  have h19 := az_istore C (by decide) dX10_listUnits_19 (az_keep [true, true, true, true, true, true, true, false] (okLX10_listUnits_21 C))
  have h18 := az_iconst (x := (nI 1)) C dX10_listUnits_18 (by decide +kernel) h19
  have h16 := az_istore C (by decide) dX10_listUnits_16 h18
  have h15 := az_iald C dX10_listUnits_15 h16
  have h14 := az_iload_n C 3 rfl dX10_listUnits_14 h15
  have h11 := az_getR (T := TX0) (N := 3) (j := 2) C gwRX0 rfl (by decide) (by decide) iIRX0_2 mFRX10_58 rfl dX10_listUnits_11 h14
  have h8 := az_getR (T := TX4) (N := 10) (j := 0) C gwRX4 rfl (by decide) (by decide) iIRX4_0 mFRX10_54 rfl dX10_listUnits_8 h11
  have h7 := az_aload_n C 2 rfl dX10_listUnits_7 h8
  have h5 := az_istore C (by decide) dX10_listUnits_5 h7
  have h2 := az_callVN (ci := 9) C okX8_plannedIn knX8_plannedIn imX8_plannedIn seX8_plannedIn mNRX10_50 rfl (by decide) ⟨rfl, rfl, by decide, by decide⟩ dX10_listUnits_2 h5
  have h1 := az_iload_n C 3 rfl dX10_listUnits_1 h2
  have h0 := az_aload_n C 1 rfl dX10_listUnits_0 h1
  exact h0) l
theorem dX10_list_0 : decode cX10_list 0 = .ok (.aload_n 0, 1) := by decide +kernel
theorem dX10_list_1 : decode cX10_list 1 = .ok (.iconst 0, 1) := by decide +kernel
theorem dX10_list_2 : decode cX10_list 2 = .ok (.putfield 24, 3) := by decide +kernel
theorem dX10_list_5 : decode cX10_list 5 = .ok (.iconst 0, 1) := by decide +kernel
theorem dX10_list_6 : decode cX10_list 6 = .ok (.istore_n 3, 1) := by decide +kernel
theorem dX10_list_7 : decode cX10_list 7 = .ok (.iload_n 3, 1) := by decide +kernel
theorem dX10_list_8 : decode cX10_list 8 = .ok (.bipush 6, 2) := by decide +kernel
theorem dX10_list_10 : decode cX10_list 10 = .ok (.if_icmp .gt 16, 3) := by decide +kernel
theorem dX10_list_13 : decode cX10_list 13 = .ok (.aload_n 0, 1) := by decide +kernel
theorem dX10_list_14 : decode cX10_list 14 = .ok (.getfield 21, 3) := by decide +kernel
theorem dX10_list_17 : decode cX10_list 17 = .ok (.iload_n 3, 1) := by decide +kernel
theorem dX10_list_18 : decode cX10_list 18 = .ok (.iconst 0, 1) := by decide +kernel
theorem dX10_list_19 : decode cX10_list 19 = .ok (.iastore, 1) := by decide +kernel
theorem dX10_list_20 : decode cX10_list 20 = .ok (.iinc 3 1, 3) := by decide +kernel
theorem dX10_list_23 : decode cX10_list 23 = .ok (.goto (-16), 3) := by decide +kernel
theorem dX10_list_26 : decode cX10_list 26 = .ok (.iconst 0, 1) := by decide +kernel
theorem dX10_list_27 : decode cX10_list 27 = .ok (.istore_n 3, 1) := by decide +kernel
theorem dX10_list_28 : decode cX10_list 28 = .ok (.iload_n 3, 1) := by decide +kernel
theorem dX10_list_29 : decode cX10_list 29 = .ok (.aload_n 1, 1) := by decide +kernel
theorem dX10_list_30 : decode cX10_list 30 = .ok (.getfield 28, 3) := by decide +kernel
theorem dX10_list_33 : decode cX10_list 33 = .ok (.if_icmp .ge 93, 3) := by decide +kernel
theorem dX10_list_36 : decode cX10_list 36 = .ok (.aload_n 0, 1) := by decide +kernel
theorem dX10_list_37 : decode cX10_list 37 = .ok (.aload_n 1, 1) := by decide +kernel
theorem dX10_list_38 : decode cX10_list 38 = .ok (.aload_n 2, 1) := by decide +kernel
theorem dX10_list_39 : decode cX10_list 39 = .ok (.iload_n 3, 1) := by decide +kernel
theorem dX10_list_40 : decode cX10_list 40 = .ok (.invokevirtual 33, 3) := by decide +kernel
theorem dX10_list_43 : decode cX10_list 43 = .ok (.aload_n 0, 1) := by decide +kernel
theorem dX10_list_44 : decode cX10_list 44 = .ok (.aload_n 2, 1) := by decide +kernel
theorem dX10_list_45 : decode cX10_list 45 = .ok (.getfield 37, 3) := by decide +kernel
theorem dX10_list_48 : decode cX10_list 48 = .ok (.bipush 6, 2) := by decide +kernel
theorem dX10_list_50 : decode cX10_list 50 = .ok (.aaload, 1) := by decide +kernel
theorem dX10_list_51 : decode cX10_list 51 = .ok (.iload_n 3, 1) := by decide +kernel
theorem dX10_list_52 : decode cX10_list 52 = .ok (.iaload, 1) := by decide +kernel
theorem dX10_list_53 : decode cX10_list 53 = .ok (.ifCond .le 7, 3) := by decide +kernel
theorem dX10_list_56 : decode cX10_list 56 = .ok (.iconst 1, 1) := by decide +kernel
theorem dX10_list_57 : decode cX10_list 57 = .ok (.goto 4, 3) := by decide +kernel
theorem dX10_list_60 : decode cX10_list 60 = .ok (.iconst 0, 1) := by decide +kernel
theorem dX10_list_61 : decode cX10_list 61 = .ok (.iload_n 3, 1) := by decide +kernel
theorem dX10_list_62 : decode cX10_list 62 = .ok (.iconst 4, 1) := by decide +kernel
theorem dX10_list_63 : decode cX10_list 63 = .ok (.iconst (-1), 1) := by decide +kernel
theorem dX10_list_64 : decode cX10_list 64 = .ok (.invokevirtual 43, 3) := by decide +kernel
theorem dX10_list_67 : decode cX10_list 67 = .ok (.aload_n 0, 1) := by decide +kernel
theorem dX10_list_68 : decode cX10_list 68 = .ok (.aload_n 2, 1) := by decide +kernel
theorem dX10_list_69 : decode cX10_list 69 = .ok (.getfield 37, 3) := by decide +kernel
theorem dX10_list_72 : decode cX10_list 72 = .ok (.iconst 2, 1) := by decide +kernel
theorem dX10_list_73 : decode cX10_list 73 = .ok (.aaload, 1) := by decide +kernel
theorem dX10_list_74 : decode cX10_list 74 = .ok (.iload_n 3, 1) := by decide +kernel
theorem dX10_list_75 : decode cX10_list 75 = .ok (.iaload, 1) := by decide +kernel
theorem dX10_list_76 : decode cX10_list 76 = .ok (.aload_n 1, 1) := by decide +kernel
theorem dX10_list_77 : decode cX10_list 77 = .ok (.getfield 47, 3) := by decide +kernel
theorem dX10_list_80 : decode cX10_list 80 = .ok (.iload_n 3, 1) := by decide +kernel
theorem dX10_list_81 : decode cX10_list 81 = .ok (.iaload, 1) := by decide +kernel
theorem dX10_list_82 : decode cX10_list 82 = .ok (.if_icmp .ge 7, 3) := by decide +kernel
theorem dX10_list_85 : decode cX10_list 85 = .ok (.iconst 1, 1) := by decide +kernel
theorem dX10_list_86 : decode cX10_list 86 = .ok (.goto 4, 3) := by decide +kernel
theorem dX10_list_89 : decode cX10_list 89 = .ok (.iconst 0, 1) := by decide +kernel
theorem dX10_list_90 : decode cX10_list 90 = .ok (.iload_n 3, 1) := by decide +kernel
theorem dX10_list_91 : decode cX10_list 91 = .ok (.iconst 5, 1) := by decide +kernel
theorem dX10_list_92 : decode cX10_list 92 = .ok (.iconst (-1), 1) := by decide +kernel
theorem dX10_list_93 : decode cX10_list 93 = .ok (.invokevirtual 43, 3) := by decide +kernel
theorem dX10_list_96 : decode cX10_list 96 = .ok (.aload_n 0, 1) := by decide +kernel
theorem dX10_list_97 : decode cX10_list 97 = .ok (.aload_n 2, 1) := by decide +kernel
theorem dX10_list_98 : decode cX10_list 98 = .ok (.getfield 37, 3) := by decide +kernel
theorem dX10_list_101 : decode cX10_list 101 = .ok (.iconst 5, 1) := by decide +kernel
theorem dX10_list_102 : decode cX10_list 102 = .ok (.aaload, 1) := by decide +kernel
theorem dX10_list_103 : decode cX10_list 103 = .ok (.iload_n 3, 1) := by decide +kernel
theorem dX10_list_104 : decode cX10_list 104 = .ok (.iaload, 1) := by decide +kernel
theorem dX10_list_105 : decode cX10_list 105 = .ok (.ifCond .le 7, 3) := by decide +kernel
theorem dX10_list_108 : decode cX10_list 108 = .ok (.iconst 1, 1) := by decide +kernel
theorem dX10_list_109 : decode cX10_list 109 = .ok (.goto 4, 3) := by decide +kernel
theorem dX10_list_112 : decode cX10_list 112 = .ok (.iconst 0, 1) := by decide +kernel
theorem dX10_list_113 : decode cX10_list 113 = .ok (.iload_n 3, 1) := by decide +kernel
theorem dX10_list_114 : decode cX10_list 114 = .ok (.bipush 6, 2) := by decide +kernel
theorem dX10_list_116 : decode cX10_list 116 = .ok (.iconst (-1), 1) := by decide +kernel
theorem dX10_list_117 : decode cX10_list 117 = .ok (.invokevirtual 43, 3) := by decide +kernel
theorem dX10_list_120 : decode cX10_list 120 = .ok (.iinc 3 1, 3) := by decide +kernel
theorem dX10_list_123 : decode cX10_list 123 = .ok (.goto (-95), 3) := by decide +kernel
theorem dX10_list_126 : decode cX10_list 126 = .ok (.return_, 1) := by decide +kernel
def LX10_list_113 (Q : Option Value → az_M → Prop) (Z28 : az_T) : az_T := (s_li 3 (s_ic (nI 6) (s_ic (-1) (s_cv 4 11 FX10_note (s_inc 3 (nI 1) (s_kp [true, true, true, true] Z28))))))
theorem okLX10_list_113 {X : az_X} {Q : Option Value → az_M → Prop} (C : az_C X cX10_list 4 RX10 (az_ts yX10_list cX10_list 4 none) ({ frames := 5, cells := 0, slots := 0, locals := 198 } : Room) none Q) {Z28 : az_T} (hZ28 : az_ok X 28 Z28) : az_ok X 113 (LX10_list_113 Q Z28) := by
  have h123 := az_goto (tgt := 28) C dX10_list_123 (by decide) (az_keep [true, true, true, true] hZ28)
  have h120 := az_iinc (v := (nI 1)) C (by decide) (by decide +kernel) dX10_list_120 h123
  have h117 := az_callV (ci := 11) C okX10_note knX10_note imX10_note seX10_note mLRX10_43 rfl (by decide) ⟨rfl, rfl, by decide, by decide⟩ dX10_list_117 h120
  have h116 := az_iconst (x := (-1)) C dX10_list_116 (by decide +kernel) h117
  have h114 := az_bipush (x := (nI 6)) C dX10_list_114 (by decide +kernel) h116
  have h113 := az_iload_n C 3 rfl dX10_list_113 h114
  exact h113
def LX10_list_90 (Q : Option Value → az_M → Prop) (Z28 : az_T) : az_T := (s_li 3 (s_ic (nI 5) (s_ic (-1) (s_cv 4 11 FX10_note (s_la 0 (s_la 2 (s_gr 6 8 (s_ic (nI 5) (s_aa 25 (s_li 3 (s_al 20 (s_if c_le (s_ic (nI 0) (s_kp [true, true, true, true] (LX10_list_113 Q Z28))) (s_ic (nI 1) (s_kp [true, true, true, true] (LX10_list_113 Q Z28)))))))))))))))
theorem okLX10_list_90 {X : az_X} {Q : Option Value → az_M → Prop} (C : az_C X cX10_list 4 RX10 (az_ts yX10_list cX10_list 4 none) ({ frames := 5, cells := 0, slots := 0, locals := 198 } : Room) none Q) {Z28 : az_T} (hZ28 : az_ok X 28 Z28) : az_ok X 90 (LX10_list_90 Q Z28) := by
  have h112 := az_iconst (x := (nI 0)) C dX10_list_112 (by decide +kernel) (az_keep [true, true, true, true] (okLX10_list_113 C hZ28))
  have h109 := az_goto (tgt := 113) C dX10_list_109 (by decide) (az_keep [true, true, true, true] (okLX10_list_113 C hZ28))
  have h108 := az_iconst (x := (nI 1)) C dX10_list_108 (by decide +kernel) h109
  have h105 := az_if_le (tgt := 112) C dX10_list_105 (by decide) h112 h108
  have h104 := az_iald C dX10_list_104 h105
  have h103 := az_iload_n C 3 rfl dX10_list_103 h104
  have h102 := az_aald2 C dX10_list_102 h103
  have h101 := az_iconst (x := (nI 5)) C dX10_list_101 (by decide +kernel) h102
  have h98 := az_getR (T := TX4) (N := 10) (j := 8) C gwRX4 rfl (by decide) (by decide) iIRX4_8 mFRX10_37 rfl dX10_list_98 h101
  have h97 := az_aload_n C 2 rfl dX10_list_97 h98
  have h96 := az_aload_n C 0 rfl dX10_list_96 h97
  have h93 := az_callV (ci := 11) C okX10_note knX10_note imX10_note seX10_note mLRX10_43 rfl (by decide) ⟨rfl, rfl, by decide, by decide⟩ dX10_list_93 h96
  have h92 := az_iconst (x := (-1)) C dX10_list_92 (by decide +kernel) h93
  have h91 := az_iconst (x := (nI 5)) C dX10_list_91 (by decide +kernel) h92
  have h90 := az_iload_n C 3 rfl dX10_list_90 h91
  exact h90
def LX10_list_61 (Q : Option Value → az_M → Prop) (Z28 : az_T) : az_T := (s_li 3 (s_ic (nI 4) (s_ic (-1) (s_cv 4 11 FX10_note (s_la 0 (s_la 2 (s_gr 6 8 (s_ic (nI 2) (s_aa 25 (s_li 3 (s_al 20 (s_la 1 (s_gr 9 8 (s_li 3 (s_al 20 (s_if2 d_ge (s_ic (nI 0) (s_kp [true, true, true, true] (LX10_list_90 Q Z28))) (s_ic (nI 1) (s_kp [true, true, true, true] (LX10_list_90 Q Z28)))))))))))))))))))
theorem okLX10_list_61 {X : az_X} {Q : Option Value → az_M → Prop} (C : az_C X cX10_list 4 RX10 (az_ts yX10_list cX10_list 4 none) ({ frames := 5, cells := 0, slots := 0, locals := 198 } : Room) none Q) {Z28 : az_T} (hZ28 : az_ok X 28 Z28) : az_ok X 61 (LX10_list_61 Q Z28) := by
  have h89 := az_iconst (x := (nI 0)) C dX10_list_89 (by decide +kernel) (az_keep [true, true, true, true] (okLX10_list_90 C hZ28))
  have h86 := az_goto (tgt := 90) C dX10_list_86 (by decide) (az_keep [true, true, true, true] (okLX10_list_90 C hZ28))
  have h85 := az_iconst (x := (nI 1)) C dX10_list_85 (by decide +kernel) h86
  have h82 := az_icmp_ge (tgt := 89) C dX10_list_82 (by decide) h89 h85
  have h81 := az_iald C dX10_list_81 h82
  have h80 := az_iload_n C 3 rfl dX10_list_80 h81
  have h77 := az_getR (T := TX8) (N := 11) (j := 8) C gwRX8 rfl (by decide) (by decide) iIRX8_8 mFRX10_47 rfl dX10_list_77 h80
  have h76 := az_aload_n C 1 rfl dX10_list_76 h77
  have h75 := az_iald C dX10_list_75 h76
  have h74 := az_iload_n C 3 rfl dX10_list_74 h75
  have h73 := az_aald2 C dX10_list_73 h74
  have h72 := az_iconst (x := (nI 2)) C dX10_list_72 (by decide +kernel) h73
  have h69 := az_getR (T := TX4) (N := 10) (j := 8) C gwRX4 rfl (by decide) (by decide) iIRX4_8 mFRX10_37 rfl dX10_list_69 h72
  have h68 := az_aload_n C 2 rfl dX10_list_68 h69
  have h67 := az_aload_n C 0 rfl dX10_list_67 h68
  have h64 := az_callV (ci := 11) C okX10_note knX10_note imX10_note seX10_note mLRX10_43 rfl (by decide) ⟨rfl, rfl, by decide, by decide⟩ dX10_list_64 h67
  have h63 := az_iconst (x := (-1)) C dX10_list_63 (by decide +kernel) h64
  have h62 := az_iconst (x := (nI 4)) C dX10_list_62 (by decide +kernel) h63
  have h61 := az_iload_n C 3 rfl dX10_list_61 h62
  exact h61
def BX10_list_28 (Q : Option Value → az_M → Prop) (Z28 : az_T) : az_T := (s_li 3 (s_la 1 (s_gi 9 0 (s_if2 d_ge (s_rv Q) (s_la 0 (s_la 1 (s_la 2 (s_li 3 (s_cv 3 11 FX10_listUnits (s_la 0 (s_la 2 (s_gr 6 8 (s_ic (nI 6) (s_aa 25 (s_li 3 (s_al 20 (s_if c_le (s_ic (nI 0) (s_kp [true, true, true, true] (LX10_list_61 Q Z28))) (s_ic (nI 1) (s_kp [true, true, true, true] (LX10_list_61 Q Z28))))))))))))))))))))
theorem okBX10_list_28 {X : az_X} {Q : Option Value → az_M → Prop} (C : az_C X cX10_list 4 RX10 (az_ts yX10_list cX10_list 4 none) ({ frames := 5, cells := 0, slots := 0, locals := 198 } : Room) none Q) {Z28 : az_T} (hZ28 : az_ok X 28 Z28) : az_ok X 28 (BX10_list_28 Q Z28) := by
  have h126 := az_vreturn C rfl dX10_list_126
  have h60 := az_iconst (x := (nI 0)) C dX10_list_60 (by decide +kernel) (az_keep [true, true, true, true] (okLX10_list_61 C hZ28))
  have h57 := az_goto (tgt := 61) C dX10_list_57 (by decide) (az_keep [true, true, true, true] (okLX10_list_61 C hZ28))
  have h56 := az_iconst (x := (nI 1)) C dX10_list_56 (by decide +kernel) h57
  have h53 := az_if_le (tgt := 60) C dX10_list_53 (by decide) h60 h56
  have h52 := az_iald C dX10_list_52 h53
  have h51 := az_iload_n C 3 rfl dX10_list_51 h52
  have h50 := az_aald2 C dX10_list_50 h51
  have h48 := az_bipush (x := (nI 6)) C dX10_list_48 (by decide +kernel) h50
  have h45 := az_getR (T := TX4) (N := 10) (j := 8) C gwRX4 rfl (by decide) (by decide) iIRX4_8 mFRX10_37 rfl dX10_list_45 h48
  have h44 := az_aload_n C 2 rfl dX10_list_44 h45
  have h43 := az_aload_n C 0 rfl dX10_list_43 h44
  have h40 := az_callV (ci := 11) C okX10_listUnits knX10_listUnits imX10_listUnits seX10_listUnits mLRX10_33 rfl (by decide) ⟨rfl, rfl, by decide, by decide⟩ dX10_list_40 h43
  have h39 := az_iload_n C 3 rfl dX10_list_39 h40
  have h38 := az_aload_n C 2 rfl dX10_list_38 h39
  have h37 := az_aload_n C 1 rfl dX10_list_37 h38
  have h36 := az_aload_n C 0 rfl dX10_list_36 h37
  have h33 := az_icmp_ge (tgt := 126) C dX10_list_33 (by decide) h126 h36
  have h30 := az_getI (T := TX8) (N := 11) (j := 0) C gwRX8 rfl (by decide) (by decide) iIRX8_0 mFRX10_28 rfl dX10_list_30 h33
  have h29 := az_aload_n C 1 rfl dX10_list_29 h30
  have h28 := az_iload_n C 3 rfl dX10_list_28 h29
  exact h28
def LX10_list_28 (Q : Option Value → az_M → Prop) : az_T := s_lp (fun Z => BX10_list_28 Q Z)
theorem okLX10_list_28 {X : az_X} {Q : Option Value → az_M → Prop} (C : az_C X cX10_list 4 RX10 (az_ts yX10_list cX10_list 4 none) ({ frames := 5, cells := 0, slots := 0, locals := 198 } : Room) none Q) : az_ok X 28 (LX10_list_28 Q) := az_loop (F := fun Z => BX10_list_28 Q Z) (fun _ hZ => okBX10_list_28 C hZ)
def BX10_list_7 (Q : Option Value → az_M → Prop) (Z7 : az_T) : az_T := (s_li 3 (s_ic (nI 6) (s_if2 d_gt (s_ic (nI 0) (s_si 3 (s_kp [true, true, true, true] (LX10_list_28 Q)))) (s_la 0 (s_gr 11 3 (s_li 3 (s_ic (nI 0) (s_as (s_inc 3 (nI 1) (s_kp [true, true, true, true] Z7))))))))))
theorem okBX10_list_7 {X : az_X} {Q : Option Value → az_M → Prop} (C : az_C X cX10_list 4 RX10 (az_ts yX10_list cX10_list 4 none) ({ frames := 5, cells := 0, slots := 0, locals := 198 } : Room) none Q) {Z7 : az_T} (hZ7 : az_ok X 7 Z7) : az_ok X 7 (BX10_list_7 Q Z7) := by
  have h27 := az_istore_n C 3 rfl (by decide) dX10_list_27 (az_keep [true, true, true, true] (okLX10_list_28 C))
  have h26 := az_iconst (x := (nI 0)) C dX10_list_26 (by decide +kernel) h27
  have h23 := az_goto (tgt := 7) C dX10_list_23 (by decide) (az_keep [true, true, true, true] hZ7)
  have h20 := az_iinc (v := (nI 1)) C (by decide) (by decide +kernel) dX10_list_20 h23
  have h19 := az_iast C dX10_list_19 h20
  have h18 := az_iconst (x := (nI 0)) C dX10_list_18 (by decide +kernel) h19
  have h17 := az_iload_n C 3 rfl dX10_list_17 h18
  have h14 := az_getR (T := TX10) (N := 5) (j := 3) C gwRX10 rfl (by decide) (by decide) iIRX10_3 mFRX10_21 rfl dX10_list_14 h17
  have h13 := az_aload_n C 0 rfl dX10_list_13 h14
  have h10 := az_icmp_gt (tgt := 26) C dX10_list_10 (by decide) h26 h13
  have h8 := az_bipush (x := (nI 6)) C dX10_list_8 (by decide +kernel) h10
  have h7 := az_iload_n C 3 rfl dX10_list_7 h8
  exact h7
def LX10_list_7 (Q : Option Value → az_M → Prop) : az_T := s_lp (fun Z => BX10_list_7 Q Z)
theorem okLX10_list_7 {X : az_X} {Q : Option Value → az_M → Prop} (C : az_C X cX10_list 4 RX10 (az_ts yX10_list cX10_list 4 none) ({ frames := 5, cells := 0, slots := 0, locals := 198 } : Room) none Q) : az_ok X 7 (LX10_list_7 Q) := az_loop (F := fun Z => BX10_list_7 Q Z) (fun _ hZ => okBX10_list_7 C hZ)
def PX10_list (Q : Option Value → az_M → Prop) : az_T := (s_la 0 (s_ic (nI 0) (s_pi 11 4 (s_ic (nI 0) (s_si 3 (s_kp [true, true, true, true] (LX10_list_7 Q)))))))
def FX10_list : az_F := az_fun [true, true, true] 4 PX10_list
theorem okX10_list (l : Launch) : az_met l yX10_list cX10_list 4 none ({ frames := 5, cells := 0, slots := 0, locals := 198 } : Room) FX10_list := az_met_of (own := RX10) (by decide +kernel) rfl (by decide) (fun X Q C => by
  have h6 := az_istore_n C 3 rfl (by decide) dX10_list_6 (az_keep [true, true, true, true] (okLX10_list_7 C))
  have h5 := az_iconst (x := (nI 0)) C dX10_list_5 (by decide +kernel) h6
  have h2 := az_putI (T := TX10) (N := 5) (j := 4) C gwRX10 rfl (by decide) (by decide) tyX10 tyX10_ok nmX10 iIRX10_4 (by decide +kernel) rfl mFRX10_24 rfl dX10_list_2 h5
  have h1 := az_iconst (x := (nI 0)) C dX10_list_1 (by decide +kernel) h2
  have h0 := az_aload_n C 0 rfl dX10_list_0 h1
  exact h0) l
theorem dX11_beginChange_0 : decode cX11_beginChange 0 = .ok (.aload_n 0, 1) := by decide +kernel
theorem dX11_beginChange_1 : decode cX11_beginChange 1 = .ok (.getfield 22, 3) := by decide +kernel
theorem dX11_beginChange_4 : decode cX11_beginChange 4 = .ok (.aload_n 0, 1) := by decide +kernel
theorem dX11_beginChange_5 : decode cX11_beginChange 5 = .ok (.getfield 10, 3) := by decide +kernel
theorem dX11_beginChange_8 : decode cX11_beginChange 8 = .ok (.invokevirtual 306, 3) := by decide +kernel
theorem dX11_beginChange_11 : decode cX11_beginChange 11 = .ok (.aload_n 0, 1) := by decide +kernel
theorem dX11_beginChange_12 : decode cX11_beginChange 12 = .ok (.iconst 1, 1) := by decide +kernel
theorem dX11_beginChange_13 : decode cX11_beginChange 13 = .ok (.putfield 65, 3) := by decide +kernel
theorem dX11_beginChange_16 : decode cX11_beginChange 16 = .ok (.return_, 1) := by decide +kernel
def PX11_beginChange (Q : Option Value → az_M → Prop) : az_T := (s_la 0 (s_gr 12 2 (s_la 0 (s_gr 12 0 (s_cv 1 4 FX2_keep (s_la 0 (s_ic (nI 1) (s_pz 12 9 (s_rv Q)))))))))
def FX11_beginChange : az_F := az_fun [true] 1 PX11_beginChange
theorem okX11_beginChange (l : Launch) : az_met l yX11_beginChange cX11_beginChange 1 none ({ frames := 3, cells := 0, slots := 0, locals := 143 } : Room) FX11_beginChange := az_met_of (own := RX11) (by decide +kernel) rfl (by decide) (fun X Q C => by
  have h16 := az_vreturn C rfl dX11_beginChange_16
  have h13 := az_putZ (T := TX11) (N := 10) (j := 9) C gwRX11 rfl (by decide) (by decide) tyX11 tyX11_ok nmX11 iIRX11_9 (by decide +kernel) rfl mFRX11_65 rfl dX11_beginChange_13 h16
  have h12 := az_iconst (x := (nI 1)) C dX11_beginChange_12 (by decide +kernel) h13
  have h11 := az_aload_n C 0 rfl dX11_beginChange_11 h12
  have h8 := az_callVN (ci := 4) C okX2_keep knX2_keep imX2_keep seX2_keep mNRX11_306 rfl (by decide) ⟨rfl, rfl, by decide, by decide⟩ dX11_beginChange_8 h11
  have h5 := az_getR (T := TX11) (N := 10) (j := 0) C gwRX11 rfl (by decide) (by decide) iIRX11_0 mFRX11_10 rfl dX11_beginChange_5 h8
  have h4 := az_aload_n C 0 rfl dX11_beginChange_4 h5
  have h1 := az_getR (T := TX11) (N := 10) (j := 2) C gwRX11 rfl (by decide) (by decide) iIRX11_2 mFRX11_22 rfl dX11_beginChange_1 h4
  have h0 := az_aload_n C 0 rfl dX11_beginChange_0 h1
  exact h0) l
theorem dX11_planByMerit_0 : decode cX11_planByMerit 0 = .ok (.aload_n 0, 1) := by decide +kernel
theorem dX11_planByMerit_1 : decode cX11_planByMerit 1 = .ok (.invokevirtual 96, 3) := by decide +kernel
theorem dX11_planByMerit_4 : decode cX11_planByMerit 4 = .ok (.aload_n 0, 1) := by decide +kernel
theorem dX11_planByMerit_5 : decode cX11_planByMerit 5 = .ok (.getfield 43, 3) := by decide +kernel
theorem dX11_planByMerit_8 : decode cX11_planByMerit 8 = .ok (.aload_n 0, 1) := by decide +kernel
theorem dX11_planByMerit_9 : decode cX11_planByMerit 9 = .ok (.getfield 10, 3) := by decide +kernel
theorem dX11_planByMerit_12 : decode cX11_planByMerit 12 = .ok (.aload_n 0, 1) := by decide +kernel
theorem dX11_planByMerit_13 : decode cX11_planByMerit 13 = .ok (.getfield 29, 3) := by decide +kernel
theorem dX11_planByMerit_16 : decode cX11_planByMerit 16 = .ok (.invokevirtual 187, 3) := by decide +kernel
theorem dX11_planByMerit_19 : decode cX11_planByMerit 19 = .ok (.ireturn, 1) := by decide +kernel
def PX11_planByMerit (Q : Option Value → az_M → Prop) : az_T := (s_la 0 (s_cv 0 12 FX11_beginChange (s_la 0 (s_gr 12 5 (s_la 0 (s_gr 12 0 (s_la 0 (s_gr 12 3 (s_cv 2 5 FX3_makePlan (s_ri Q))))))))))
def FX11_planByMerit : az_F := az_fun [true] 1 PX11_planByMerit
theorem okX11_planByMerit (l : Launch) : az_met l yX11_planByMerit cX11_planByMerit 1 (some .int) ({ frames := 5, cells := 0, slots := 0, locals := 198 } : Room) FX11_planByMerit := az_met_of (own := RX11) (by decide +kernel) rfl (by decide) (fun X Q C => by
  have h19 := az_ireturn C rfl dX11_planByMerit_19
  have h16 := az_callVN (ci := 5) C okX3_makePlan knX3_makePlan imX3_makePlan seX3_makePlan mNRX11_187 rfl (by decide) ⟨rfl, rfl, by decide, by decide⟩ dX11_planByMerit_16 h19
  have h13 := az_getR (T := TX11) (N := 10) (j := 3) C gwRX11 rfl (by decide) (by decide) iIRX11_3 mFRX11_29 rfl dX11_planByMerit_13 h16
  have h12 := az_aload_n C 0 rfl dX11_planByMerit_12 h13
  have h9 := az_getR (T := TX11) (N := 10) (j := 0) C gwRX11 rfl (by decide) (by decide) iIRX11_0 mFRX11_10 rfl dX11_planByMerit_9 h12
  have h8 := az_aload_n C 0 rfl dX11_planByMerit_8 h9
  have h5 := az_getR (T := TX11) (N := 10) (j := 5) C gwRX11 rfl (by decide) (by decide) iIRX11_5 mFRX11_43 rfl dX11_planByMerit_5 h8
  have h4 := az_aload_n C 0 rfl dX11_planByMerit_4 h5
  have h1 := az_callV (ci := 12) C okX11_beginChange knX11_beginChange imX11_beginChange seX11_beginChange mLRX11_96 rfl (by decide) ⟨rfl, rfl, by decide, by decide⟩ dX11_planByMerit_1 h4
  have h0 := az_aload_n C 0 rfl dX11_planByMerit_0 h1
  exact h0) l
theorem dX11_refresh_0 : decode cX11_refresh 0 = .ok (.aload_n 0, 1) := by decide +kernel
theorem dX11_refresh_1 : decode cX11_refresh 1 = .ok (.getfield 65, 3) := by decide +kernel
theorem dX11_refresh_4 : decode cX11_refresh 4 = .ok (.ifCond .eq 34, 3) := by decide +kernel
theorem dX11_refresh_7 : decode cX11_refresh 7 = .ok (.aload_n 0, 1) := by decide +kernel
theorem dX11_refresh_8 : decode cX11_refresh 8 = .ok (.getfield 29, 3) := by decide +kernel
theorem dX11_refresh_11 : decode cX11_refresh 11 = .ok (.aload_n 0, 1) := by decide +kernel
theorem dX11_refresh_12 : decode cX11_refresh 12 = .ok (.getfield 10, 3) := by decide +kernel
theorem dX11_refresh_15 : decode cX11_refresh 15 = .ok (.invokevirtual 309, 3) := by decide +kernel
theorem dX11_refresh_18 : decode cX11_refresh 18 = .ok (.aload_n 0, 1) := by decide +kernel
theorem dX11_refresh_19 : decode cX11_refresh 19 = .ok (.getfield 36, 3) := by decide +kernel
theorem dX11_refresh_22 : decode cX11_refresh 22 = .ok (.aload_n 0, 1) := by decide +kernel
theorem dX11_refresh_23 : decode cX11_refresh 23 = .ok (.getfield 10, 3) := by decide +kernel
theorem dX11_refresh_26 : decode cX11_refresh 26 = .ok (.aload_n 0, 1) := by decide +kernel
theorem dX11_refresh_27 : decode cX11_refresh 27 = .ok (.getfield 29, 3) := by decide +kernel
theorem dX11_refresh_30 : decode cX11_refresh 30 = .ok (.invokevirtual 312, 3) := by decide +kernel
theorem dX11_refresh_33 : decode cX11_refresh 33 = .ok (.aload_n 0, 1) := by decide +kernel
theorem dX11_refresh_34 : decode cX11_refresh 34 = .ok (.iconst 0, 1) := by decide +kernel
theorem dX11_refresh_35 : decode cX11_refresh 35 = .ok (.putfield 65, 3) := by decide +kernel
theorem dX11_refresh_38 : decode cX11_refresh 38 = .ok (.return_, 1) := by decide +kernel
def LX11_refresh_38 (Q : Option Value → az_M → Prop) : az_T := (s_rv Q)
theorem okLX11_refresh_38 {X : az_X} {Q : Option Value → az_M → Prop} (C : az_C X cX11_refresh 1 RX11 (az_ts yX11_refresh cX11_refresh 1 none) ({ frames := 6, cells := 0, slots := 0, locals := 232 } : Room) none Q) : az_ok X 38 (LX11_refresh_38 Q) := by
  have h38 := az_vreturn C rfl dX11_refresh_38
  exact h38
def PX11_refresh (Q : Option Value → az_M → Prop) : az_T := (s_la 0 (s_gi 12 9 (s_if c_eq (s_kp [false] (LX11_refresh_38 Q)) (s_la 0 (s_gr 12 3 (s_la 0 (s_gr 12 0 (s_cv 1 6 FX4_find (s_la 0 (s_gr 12 4 (s_la 0 (s_gr 12 0 (s_la 0 (s_gr 12 3 (s_cv 2 11 FX10_list (s_la 0 (s_ic (nI 0) (s_pz 12 9 (s_kp [false] (LX11_refresh_38 Q))))))))))))))))))))
def FX11_refresh : az_F := az_fun [true] 1 PX11_refresh
theorem okX11_refresh (l : Launch) : az_met l yX11_refresh cX11_refresh 1 none ({ frames := 6, cells := 0, slots := 0, locals := 232 } : Room) FX11_refresh := az_met_of (own := RX11) (by decide +kernel) rfl (by decide) (fun X Q C => by
  have h35 := az_putZ (T := TX11) (N := 10) (j := 9) C gwRX11 rfl (by decide) (by decide) tyX11 tyX11_ok nmX11 iIRX11_9 (by decide +kernel) rfl mFRX11_65 rfl dX11_refresh_35 (az_keep [false] (okLX11_refresh_38 C))
  have h34 := az_iconst (x := (nI 0)) C dX11_refresh_34 (by decide +kernel) h35
  have h33 := az_aload_n C 0 rfl dX11_refresh_33 h34
  have h30 := az_callVN (ci := 11) C okX10_list knX10_list imX10_list seX10_list mNRX11_312 rfl (by decide) ⟨rfl, rfl, by decide, by decide⟩ dX11_refresh_30 h33
  have h27 := az_getR (T := TX11) (N := 10) (j := 3) C gwRX11 rfl (by decide) (by decide) iIRX11_3 mFRX11_29 rfl dX11_refresh_27 h30
  have h26 := az_aload_n C 0 rfl dX11_refresh_26 h27
  have h23 := az_getR (T := TX11) (N := 10) (j := 0) C gwRX11 rfl (by decide) (by decide) iIRX11_0 mFRX11_10 rfl dX11_refresh_23 h26
  have h22 := az_aload_n C 0 rfl dX11_refresh_22 h23
  have h19 := az_getR (T := TX11) (N := 10) (j := 4) C gwRX11 rfl (by decide) (by decide) iIRX11_4 mFRX11_36 rfl dX11_refresh_19 h22
  have h18 := az_aload_n C 0 rfl dX11_refresh_18 h19
  have h15 := az_callVN (ci := 6) C okX4_find knX4_find imX4_find seX4_find mNRX11_309 rfl (by decide) ⟨rfl, rfl, by decide, by decide⟩ dX11_refresh_15 h18
  have h12 := az_getR (T := TX11) (N := 10) (j := 0) C gwRX11 rfl (by decide) (by decide) iIRX11_0 mFRX11_10 rfl dX11_refresh_12 h15
  have h11 := az_aload_n C 0 rfl dX11_refresh_11 h12
  have h8 := az_getR (T := TX11) (N := 10) (j := 3) C gwRX11 rfl (by decide) (by decide) iIRX11_3 mFRX11_29 rfl dX11_refresh_8 h11
  have h7 := az_aload_n C 0 rfl dX11_refresh_7 h8
  have h4 := az_if_eq (tgt := 38) C dX11_refresh_4 (by decide) (az_keep [false] (okLX11_refresh_38 C)) h7
  have h1 := az_getI (T := TX11) (N := 10) (j := 9) C gwRX11 rfl (by decide) (by decide) iIRX11_9 mFRX11_65 rfl dX11_refresh_1 h4
  have h0 := az_aload_n C 0 rfl dX11_refresh_0 h1
  exact h0) l
theorem dX11_isConsistent_0 : decode cX11_isConsistent 0 = .ok (.aload_n 0, 1) := by decide +kernel
theorem dX11_isConsistent_1 : decode cX11_isConsistent 1 = .ok (.invokevirtual 136, 3) := by decide +kernel
theorem dX11_isConsistent_4 : decode cX11_isConsistent 4 = .ok (.iconst 0, 1) := by decide +kernel
theorem dX11_isConsistent_5 : decode cX11_isConsistent 5 = .ok (.istore_n 1, 1) := by decide +kernel
theorem dX11_isConsistent_6 : decode cX11_isConsistent 6 = .ok (.iload_n 1, 1) := by decide +kernel
theorem dX11_isConsistent_7 : decode cX11_isConsistent 7 = .ok (.aload_n 0, 1) := by decide +kernel
theorem dX11_isConsistent_8 : decode cX11_isConsistent 8 = .ok (.getfield 10, 3) := by decide +kernel
theorem dX11_isConsistent_11 : decode cX11_isConsistent 11 = .ok (.getfield 143, 3) := by decide +kernel
theorem dX11_isConsistent_14 : decode cX11_isConsistent 14 = .ok (.if_icmp .ge 26, 3) := by decide +kernel
theorem dX11_isConsistent_17 : decode cX11_isConsistent 17 = .ok (.aload_n 0, 1) := by decide +kernel
theorem dX11_isConsistent_18 : decode cX11_isConsistent 18 = .ok (.getfield 10, 3) := by decide +kernel
theorem dX11_isConsistent_21 : decode cX11_isConsistent 21 = .ok (.aload_n 0, 1) := by decide +kernel
theorem dX11_isConsistent_22 : decode cX11_isConsistent 22 = .ok (.getfield 29, 3) := by decide +kernel
theorem dX11_isConsistent_25 : decode cX11_isConsistent 25 = .ok (.iload_n 1, 1) := by decide +kernel
theorem dX11_isConsistent_26 : decode cX11_isConsistent 26 = .ok (.invokestatic 290, 3) := by decide +kernel
theorem dX11_isConsistent_29 : decode cX11_isConsistent 29 = .ok (.ifCond .ne 5, 3) := by decide +kernel
theorem dX11_isConsistent_32 : decode cX11_isConsistent 32 = .ok (.iconst 0, 1) := by decide +kernel
theorem dX11_isConsistent_33 : decode cX11_isConsistent 33 = .ok (.ireturn, 1) := by decide +kernel
theorem dX11_isConsistent_34 : decode cX11_isConsistent 34 = .ok (.iinc 1 1, 3) := by decide +kernel
theorem dX11_isConsistent_37 : decode cX11_isConsistent 37 = .ok (.goto (-31), 3) := by decide +kernel
theorem dX11_isConsistent_40 : decode cX11_isConsistent 40 = .ok (.iconst 1, 1) := by decide +kernel
theorem dX11_isConsistent_41 : decode cX11_isConsistent 41 = .ok (.ireturn, 1) := by decide +kernel
def BX11_isConsistent_6 (Q : Option Value → az_M → Prop) (Z6 : az_T) : az_T := (s_li 1 (s_la 0 (s_gr 12 0 (s_gi 9 0 (s_if2 d_ge (s_ic (nI 1) (s_rz Q)) (s_la 0 (s_gr 12 0 (s_la 0 (s_gr 12 3 (s_li 1 (s_cs 3 FX6_agrees (s_if c_ne (s_inc 1 (nI 1) (s_kp [true, true] Z6)) (s_ic (nI 0) (s_rz Q))))))))))))))
theorem okBX11_isConsistent_6 {X : az_X} {Q : Option Value → az_M → Prop} (C : az_C X cX11_isConsistent 2 RX11 (az_ts yX11_isConsistent cX11_isConsistent 2 (some .boolean)) ({ frames := 7, cells := 0, slots := 0, locals := 252 } : Room) (some .boolean) Q) {Z6 : az_T} (hZ6 : az_ok X 6 Z6) : az_ok X 6 (BX11_isConsistent_6 Q Z6) := by
  have h41 := az_zreturn C rfl dX11_isConsistent_41
  have h40 := az_iconst (x := (nI 1)) C dX11_isConsistent_40 (by decide +kernel) h41
  have h37 := az_goto (tgt := 6) C dX11_isConsistent_37 (by decide) (az_keep [true, true] hZ6)
  have h34 := az_iinc (v := (nI 1)) C (by decide) (by decide +kernel) dX11_isConsistent_34 h37
  have h33 := az_zreturn C rfl dX11_isConsistent_33
  have h32 := az_iconst (x := (nI 0)) C dX11_isConsistent_32 (by decide +kernel) h33
  have h29 := az_if_ne (tgt := 34) C dX11_isConsistent_29 (by decide) h34 h32
  have h26 := az_callSN C okX6_agrees knX6_agrees stX6_agrees mNRX11_290 ⟨rfl, rfl, by decide, by decide⟩ dX11_isConsistent_26 h29
  have h25 := az_iload_n C 1 rfl dX11_isConsistent_25 h26
  have h22 := az_getR (T := TX11) (N := 10) (j := 3) C gwRX11 rfl (by decide) (by decide) iIRX11_3 mFRX11_29 rfl dX11_isConsistent_22 h25
  have h21 := az_aload_n C 0 rfl dX11_isConsistent_21 h22
  have h18 := az_getR (T := TX11) (N := 10) (j := 0) C gwRX11 rfl (by decide) (by decide) iIRX11_0 mFRX11_10 rfl dX11_isConsistent_18 h21
  have h17 := az_aload_n C 0 rfl dX11_isConsistent_17 h18
  have h14 := az_icmp_ge (tgt := 40) C dX11_isConsistent_14 (by decide) h40 h17
  have h11 := az_getI (T := TX8) (N := 11) (j := 0) C gwRX8 rfl (by decide) (by decide) iIRX8_0 mFRX11_143 rfl dX11_isConsistent_11 h14
  have h8 := az_getR (T := TX11) (N := 10) (j := 0) C gwRX11 rfl (by decide) (by decide) iIRX11_0 mFRX11_10 rfl dX11_isConsistent_8 h11
  have h7 := az_aload_n C 0 rfl dX11_isConsistent_7 h8
  have h6 := az_iload_n C 1 rfl dX11_isConsistent_6 h7
  exact h6
def LX11_isConsistent_6 (Q : Option Value → az_M → Prop) : az_T := s_lp (fun Z => BX11_isConsistent_6 Q Z)
theorem okLX11_isConsistent_6 {X : az_X} {Q : Option Value → az_M → Prop} (C : az_C X cX11_isConsistent 2 RX11 (az_ts yX11_isConsistent cX11_isConsistent 2 (some .boolean)) ({ frames := 7, cells := 0, slots := 0, locals := 252 } : Room) (some .boolean) Q) : az_ok X 6 (LX11_isConsistent_6 Q) := az_loop (F := fun Z => BX11_isConsistent_6 Q Z) (fun _ hZ => okBX11_isConsistent_6 C hZ)
def PX11_isConsistent (Q : Option Value → az_M → Prop) : az_T := (s_la 0 (s_cv 0 12 FX11_refresh (s_ic (nI 0) (s_si 1 (s_kp [true, true] (LX11_isConsistent_6 Q))))))
def FX11_isConsistent : az_F := az_fun [true] 2 PX11_isConsistent
theorem okX11_isConsistent (l : Launch) : az_met l yX11_isConsistent cX11_isConsistent 2 (some .boolean) ({ frames := 7, cells := 0, slots := 0, locals := 252 } : Room) FX11_isConsistent := az_met_of (own := RX11) (by decide +kernel) rfl (by decide) (fun X Q C => by
  have h5 := az_istore_n C 1 rfl (by decide) dX11_isConsistent_5 (az_keep [true, true] (okLX11_isConsistent_6 C))
  have h4 := az_iconst (x := (nI 0)) C dX11_isConsistent_4 (by decide +kernel) h5
  have h1 := az_callV (ci := 12) C okX11_refresh knX11_refresh imX11_refresh seX11_refresh mLRX11_136 rfl (by decide) ⟨rfl, rfl, by decide, by decide⟩ dX11_isConsistent_1 h4
  have h0 := az_aload_n C 0 rfl dX11_isConsistent_0 h1
  exact h0) l
theorem dX11_snapshot_0 : decode cX11_snapshot 0 = .ok (.aload_n 0, 1) := by decide +kernel
theorem dX11_snapshot_1 : decode cX11_snapshot 1 = .ok (.getfield 16, 3) := by decide +kernel
theorem dX11_snapshot_4 : decode cX11_snapshot 4 = .ok (.aload_n 0, 1) := by decide +kernel
theorem dX11_snapshot_5 : decode cX11_snapshot 5 = .ok (.getfield 10, 3) := by decide +kernel
theorem dX11_snapshot_8 : decode cX11_snapshot 8 = .ok (.invokevirtual 300, 3) := by decide +kernel
theorem dX11_snapshot_11 : decode cX11_snapshot 11 = .ok (.aload_n 0, 1) := by decide +kernel
theorem dX11_snapshot_12 : decode cX11_snapshot 12 = .ok (.iconst 1, 1) := by decide +kernel
theorem dX11_snapshot_13 : decode cX11_snapshot 13 = .ok (.putfield 61, 3) := by decide +kernel
theorem dX11_snapshot_16 : decode cX11_snapshot 16 = .ok (.aload_n 0, 1) := by decide +kernel
theorem dX11_snapshot_17 : decode cX11_snapshot 17 = .ok (.getfield 10, 3) := by decide +kernel
theorem dX11_snapshot_20 : decode cX11_snapshot 20 = .ok (.getfield 75, 3) := by decide +kernel
theorem dX11_snapshot_23 : decode cX11_snapshot 23 = .ok (.ireturn, 1) := by decide +kernel
def PX11_snapshot (Q : Option Value → az_M → Prop) : az_T := (s_la 0 (s_gr 12 1 (s_la 0 (s_gr 12 0 (s_cv 1 9 FX8_copyFrom (s_la 0 (s_ic (nI 1) (s_pz 12 8 (s_la 0 (s_gr 12 0 (s_gi 9 3 (s_ri Q))))))))))))
def FX11_snapshot : az_F := az_fun [true] 1 PX11_snapshot
theorem okX11_snapshot (l : Launch) : az_met l yX11_snapshot cX11_snapshot 1 (some .int) ({ frames := 2, cells := 0, slots := 0, locals := 122 } : Room) FX11_snapshot := az_met_of (own := RX11) (by decide +kernel) rfl (by decide) (fun X Q C => by
  have h23 := az_ireturn C rfl dX11_snapshot_23
  have h20 := az_getI (T := TX8) (N := 11) (j := 3) C gwRX8 rfl (by decide) (by decide) iIRX8_3 mFRX11_75 rfl dX11_snapshot_20 h23
  have h17 := az_getR (T := TX11) (N := 10) (j := 0) C gwRX11 rfl (by decide) (by decide) iIRX11_0 mFRX11_10 rfl dX11_snapshot_17 h20
  have h16 := az_aload_n C 0 rfl dX11_snapshot_16 h17
  have h13 := az_putZ (T := TX11) (N := 10) (j := 8) C gwRX11 rfl (by decide) (by decide) tyX11 tyX11_ok nmX11 iIRX11_8 (by decide +kernel) rfl mFRX11_61 rfl dX11_snapshot_13 h16
  have h12 := az_iconst (x := (nI 1)) C dX11_snapshot_12 (by decide +kernel) h13
  have h11 := az_aload_n C 0 rfl dX11_snapshot_11 h12
  have h8 := az_callVN (ci := 9) C okX8_copyFrom knX8_copyFrom imX8_copyFrom seX8_copyFrom mNRX11_300 rfl (by decide) ⟨rfl, rfl, by decide, by decide⟩ dX11_snapshot_8 h11
  have h5 := az_getR (T := TX11) (N := 10) (j := 0) C gwRX11 rfl (by decide) (by decide) iIRX11_0 mFRX11_10 rfl dX11_snapshot_5 h8
  have h4 := az_aload_n C 0 rfl dX11_snapshot_4 h5
  have h1 := az_getR (T := TX11) (N := 10) (j := 1) C gwRX11 rfl (by decide) (by decide) iIRX11_1 mFRX11_16 rfl dX11_snapshot_1 h4
  have h0 := az_aload_n C 0 rfl dX11_snapshot_0 h1
  exact h0) l
theorem dX11_within_0 : decode cX11_within 0 = .ok (.iload_n 0, 1) := by decide +kernel
theorem dX11_within_1 : decode cX11_within 1 = .ok (.iload_n 1, 1) := by decide +kernel
theorem dX11_within_2 : decode cX11_within 2 = .ok (.if_icmp .lt 12, 3) := by decide +kernel
theorem dX11_within_5 : decode cX11_within 5 = .ok (.iload_n 0, 1) := by decide +kernel
theorem dX11_within_6 : decode cX11_within 6 = .ok (.iload_n 2, 1) := by decide +kernel
theorem dX11_within_7 : decode cX11_within 7 = .ok (.if_icmp .gt 7, 3) := by decide +kernel
theorem dX11_within_10 : decode cX11_within 10 = .ok (.iconst 1, 1) := by decide +kernel
theorem dX11_within_11 : decode cX11_within 11 = .ok (.goto 4, 3) := by decide +kernel
theorem dX11_within_14 : decode cX11_within 14 = .ok (.iconst 0, 1) := by decide +kernel
theorem dX11_within_15 : decode cX11_within 15 = .ok (.ireturn, 1) := by decide +kernel
def LX11_within_15 (Q : Option Value → az_M → Prop) : az_T := (s_rz Q)
theorem okLX11_within_15 {X : az_X} {Q : Option Value → az_M → Prop} (C : az_C X cX11_within 3 RX11 (az_ts yX11_within cX11_within 3 (some .boolean)) ({ frames := 1, cells := 0, slots := 0, locals := 100 } : Room) (some .boolean) Q) : az_ok X 15 (LX11_within_15 Q) := by
  have h15 := az_zreturn C rfl dX11_within_15
  exact h15
def LX11_within_14 (Q : Option Value → az_M → Prop) : az_T := (s_ic (nI 0) (s_kp [false, false, false] (LX11_within_15 Q)))
theorem okLX11_within_14 {X : az_X} {Q : Option Value → az_M → Prop} (C : az_C X cX11_within 3 RX11 (az_ts yX11_within cX11_within 3 (some .boolean)) ({ frames := 1, cells := 0, slots := 0, locals := 100 } : Room) (some .boolean) Q) : az_ok X 14 (LX11_within_14 Q) := by
  have h14 := az_iconst (x := (nI 0)) C dX11_within_14 (by decide +kernel) (az_keep [false, false, false] (okLX11_within_15 C))
  exact h14
def PX11_within (Q : Option Value → az_M → Prop) : az_T := (s_li 0 (s_li 1 (s_if2 d_lt (s_kp [false, false, false] (LX11_within_14 Q)) (s_li 0 (s_li 2 (s_if2 d_gt (s_kp [false, false, false] (LX11_within_14 Q)) (s_ic (nI 1) (s_kp [false, false, false] (LX11_within_15 Q)))))))))
def FX11_within : az_F := az_fun [false, false, false] 3 PX11_within
theorem okX11_within (l : Launch) : az_met l yX11_within cX11_within 3 (some .boolean) ({ frames := 1, cells := 0, slots := 0, locals := 100 } : Room) FX11_within := az_met_of (own := RX11) (by decide +kernel) rfl (by decide) (fun X Q C => by
  have h11 := az_goto (tgt := 15) C dX11_within_11 (by decide) (az_keep [false, false, false] (okLX11_within_15 C))
  have h10 := az_iconst (x := (nI 1)) C dX11_within_10 (by decide +kernel) h11
  have h7 := az_icmp_gt (tgt := 14) C dX11_within_7 (by decide) (az_keep [false, false, false] (okLX11_within_14 C)) h10
  have h6 := az_iload_n C 2 rfl dX11_within_6 h7
  have h5 := az_iload_n C 0 rfl dX11_within_5 h6
  have h2 := az_icmp_lt (tgt := 14) C dX11_within_2 (by decide) (az_keep [false, false, false] (okLX11_within_14 C)) h5
  have h1 := az_iload_n C 1 rfl dX11_within_1 h2
  have h0 := az_iload_n C 0 rfl dX11_within_0 h1
  exact h0) l
theorem dX11_isHour_0 : decode cX11_isHour 0 = .ok (.iload_n 1, 1) := by decide +kernel
theorem dX11_isHour_1 : decode cX11_isHour 1 = .ok (.iconst 0, 1) := by decide +kernel
theorem dX11_isHour_2 : decode cX11_isHour 2 = .ok (.aload_n 0, 1) := by decide +kernel
theorem dX11_isHour_3 : decode cX11_isHour 3 = .ok (.getfield 10, 3) := by decide +kernel
theorem dX11_isHour_6 : decode cX11_isHour 6 = .ok (.getfield 143, 3) := by decide +kernel
theorem dX11_isHour_9 : decode cX11_isHour 9 = .ok (.iconst 1, 1) := by decide +kernel
theorem dX11_isHour_10 : decode cX11_isHour 10 = .ok (.isub, 1) := by decide +kernel
theorem dX11_isHour_11 : decode cX11_isHour 11 = .ok (.invokestatic 68, 3) := by decide +kernel
theorem dX11_isHour_14 : decode cX11_isHour 14 = .ok (.ireturn, 1) := by decide +kernel
def PX11_isHour (Q : Option Value → az_M → Prop) : az_T := (s_li 1 (s_ic (nI 0) (s_la 0 (s_gr 12 0 (s_gi 9 0 (s_ic (nI 1) (s_bin f_sub (s_cs 3 FX11_within (s_rz Q)))))))))
def FX11_isHour : az_F := az_fun [true, false] 2 PX11_isHour
theorem okX11_isHour (l : Launch) : az_met l yX11_isHour cX11_isHour 2 (some .boolean) ({ frames := 2, cells := 0, slots := 0, locals := 122 } : Room) FX11_isHour := az_met_of (own := RX11) (by decide +kernel) rfl (by decide) (fun X Q C => by
  have h14 := az_zreturn C rfl dX11_isHour_14
  have h11 := az_callS C okX11_within knX11_within stX11_within mLRX11_68 ⟨rfl, rfl, by decide, by decide⟩ dX11_isHour_11 h14
  have h10 := az_isub C dX11_isHour_10 h11
  have h9 := az_iconst (x := (nI 1)) C dX11_isHour_9 (by decide +kernel) h10
  have h6 := az_getI (T := TX8) (N := 11) (j := 0) C gwRX8 rfl (by decide) (by decide) iIRX8_0 mFRX11_143 rfl dX11_isHour_6 h9
  have h3 := az_getR (T := TX11) (N := 10) (j := 0) C gwRX11 rfl (by decide) (by decide) iIRX11_0 mFRX11_10 rfl dX11_isHour_3 h6
  have h2 := az_aload_n C 0 rfl dX11_isHour_2 h3
  have h1 := az_iconst (x := (nI 0)) C dX11_isHour_1 (by decide +kernel) h2
  have h0 := az_iload_n C 1 rfl dX11_isHour_0 h1
  exact h0) l
theorem dX11_isBus_0 : decode cX11_isBus 0 = .ok (.iload_n 1, 1) := by decide +kernel
theorem dX11_isBus_1 : decode cX11_isBus 1 = .ok (.iconst 0, 1) := by decide +kernel
theorem dX11_isBus_2 : decode cX11_isBus 2 = .ok (.aload_n 0, 1) := by decide +kernel
theorem dX11_isBus_3 : decode cX11_isBus 3 = .ok (.getfield 10, 3) := by decide +kernel
theorem dX11_isBus_6 : decode cX11_isBus 6 = .ok (.getfield 303, 3) := by decide +kernel
theorem dX11_isBus_9 : decode cX11_isBus 9 = .ok (.iconst 1, 1) := by decide +kernel
theorem dX11_isBus_10 : decode cX11_isBus 10 = .ok (.isub, 1) := by decide +kernel
theorem dX11_isBus_11 : decode cX11_isBus 11 = .ok (.invokestatic 68, 3) := by decide +kernel
theorem dX11_isBus_14 : decode cX11_isBus 14 = .ok (.ireturn, 1) := by decide +kernel
def PX11_isBus (Q : Option Value → az_M → Prop) : az_T := (s_li 1 (s_ic (nI 0) (s_la 0 (s_gr 12 0 (s_gi 9 1 (s_ic (nI 1) (s_bin f_sub (s_cs 3 FX11_within (s_rz Q)))))))))
def FX11_isBus : az_F := az_fun [true, false] 2 PX11_isBus
theorem okX11_isBus (l : Launch) : az_met l yX11_isBus cX11_isBus 2 (some .boolean) ({ frames := 2, cells := 0, slots := 0, locals := 122 } : Room) FX11_isBus := az_met_of (own := RX11) (by decide +kernel) rfl (by decide) (fun X Q C => by
  have h14 := az_zreturn C rfl dX11_isBus_14
  have h11 := az_callS C okX11_within knX11_within stX11_within mLRX11_68 ⟨rfl, rfl, by decide, by decide⟩ dX11_isBus_11 h14
  have h10 := az_isub C dX11_isBus_10 h11
  have h9 := az_iconst (x := (nI 1)) C dX11_isBus_9 (by decide +kernel) h10
  have h6 := az_getI (T := TX8) (N := 11) (j := 1) C gwRX8 rfl (by decide) (by decide) iIRX8_1 mFRX11_303 rfl dX11_isBus_6 h9
  have h3 := az_getR (T := TX11) (N := 10) (j := 0) C gwRX11 rfl (by decide) (by decide) iIRX11_0 mFRX11_10 rfl dX11_isBus_3 h6
  have h2 := az_aload_n C 0 rfl dX11_isBus_2 h3
  have h1 := az_iconst (x := (nI 0)) C dX11_isBus_1 (by decide +kernel) h2
  have h0 := az_iload_n C 1 rfl dX11_isBus_0 h1
  exact h0) l
theorem dX11_isUnit_0 : decode cX11_isUnit 0 = .ok (.iload_n 1, 1) := by decide +kernel
theorem dX11_isUnit_1 : decode cX11_isUnit 1 = .ok (.iconst 0, 1) := by decide +kernel
theorem dX11_isUnit_2 : decode cX11_isUnit 2 = .ok (.aload_n 0, 1) := by decide +kernel
theorem dX11_isUnit_3 : decode cX11_isUnit 3 = .ok (.getfield 10, 3) := by decide +kernel
theorem dX11_isUnit_6 : decode cX11_isUnit 6 = .ok (.getfield 75, 3) := by decide +kernel
theorem dX11_isUnit_9 : decode cX11_isUnit 9 = .ok (.iconst 1, 1) := by decide +kernel
theorem dX11_isUnit_10 : decode cX11_isUnit 10 = .ok (.isub, 1) := by decide +kernel
theorem dX11_isUnit_11 : decode cX11_isUnit 11 = .ok (.invokestatic 68, 3) := by decide +kernel
theorem dX11_isUnit_14 : decode cX11_isUnit 14 = .ok (.ireturn, 1) := by decide +kernel
def PX11_isUnit (Q : Option Value → az_M → Prop) : az_T := (s_li 1 (s_ic (nI 0) (s_la 0 (s_gr 12 0 (s_gi 9 3 (s_ic (nI 1) (s_bin f_sub (s_cs 3 FX11_within (s_rz Q)))))))))
def FX11_isUnit : az_F := az_fun [true, false] 2 PX11_isUnit
theorem okX11_isUnit (l : Launch) : az_met l yX11_isUnit cX11_isUnit 2 (some .boolean) ({ frames := 2, cells := 0, slots := 0, locals := 122 } : Room) FX11_isUnit := az_met_of (own := RX11) (by decide +kernel) rfl (by decide) (fun X Q C => by
  have h14 := az_zreturn C rfl dX11_isUnit_14
  have h11 := az_callS C okX11_within knX11_within stX11_within mLRX11_68 ⟨rfl, rfl, by decide, by decide⟩ dX11_isUnit_11 h14
  have h10 := az_isub C dX11_isUnit_10 h11
  have h9 := az_iconst (x := (nI 1)) C dX11_isUnit_9 (by decide +kernel) h10
  have h6 := az_getI (T := TX8) (N := 11) (j := 3) C gwRX8 rfl (by decide) (by decide) iIRX8_3 mFRX11_75 rfl dX11_isUnit_6 h9
  have h3 := az_getR (T := TX11) (N := 10) (j := 0) C gwRX11 rfl (by decide) (by decide) iIRX11_0 mFRX11_10 rfl dX11_isUnit_3 h6
  have h2 := az_aload_n C 0 rfl dX11_isUnit_2 h3
  have h1 := az_iconst (x := (nI 0)) C dX11_isUnit_1 (by decide +kernel) h2
  have h0 := az_iload_n C 1 rfl dX11_isUnit_0 h1
  exact h0) l
theorem dX11_isOutage_0 : decode cX11_isOutage 0 = .ok (.iload_n 1, 1) := by decide +kernel
theorem dX11_isOutage_1 : decode cX11_isOutage 1 = .ok (.iconst 0, 1) := by decide +kernel
theorem dX11_isOutage_2 : decode cX11_isOutage 2 = .ok (.aload_n 0, 1) := by decide +kernel
theorem dX11_isOutage_3 : decode cX11_isOutage 3 = .ok (.getfield 10, 3) := by decide +kernel
theorem dX11_isOutage_6 : decode cX11_isOutage 6 = .ok (.getfield 157, 3) := by decide +kernel
theorem dX11_isOutage_9 : decode cX11_isOutage 9 = .ok (.iconst 1, 1) := by decide +kernel
theorem dX11_isOutage_10 : decode cX11_isOutage 10 = .ok (.isub, 1) := by decide +kernel
theorem dX11_isOutage_11 : decode cX11_isOutage 11 = .ok (.invokestatic 68, 3) := by decide +kernel
theorem dX11_isOutage_14 : decode cX11_isOutage 14 = .ok (.ireturn, 1) := by decide +kernel
def PX11_isOutage (Q : Option Value → az_M → Prop) : az_T := (s_li 1 (s_ic (nI 0) (s_la 0 (s_gr 12 0 (s_gi 9 4 (s_ic (nI 1) (s_bin f_sub (s_cs 3 FX11_within (s_rz Q)))))))))
def FX11_isOutage : az_F := az_fun [true, false] 2 PX11_isOutage
theorem okX11_isOutage (l : Launch) : az_met l yX11_isOutage cX11_isOutage 2 (some .boolean) ({ frames := 2, cells := 0, slots := 0, locals := 122 } : Room) FX11_isOutage := az_met_of (own := RX11) (by decide +kernel) rfl (by decide) (fun X Q C => by
  have h14 := az_zreturn C rfl dX11_isOutage_14
  have h11 := az_callS C okX11_within knX11_within stX11_within mLRX11_68 ⟨rfl, rfl, by decide, by decide⟩ dX11_isOutage_11 h14
  have h10 := az_isub C dX11_isOutage_10 h11
  have h9 := az_iconst (x := (nI 1)) C dX11_isOutage_9 (by decide +kernel) h10
  have h6 := az_getI (T := TX8) (N := 11) (j := 4) C gwRX8 rfl (by decide) (by decide) iIRX8_4 mFRX11_157 rfl dX11_isOutage_6 h9
  have h3 := az_getR (T := TX11) (N := 10) (j := 0) C gwRX11 rfl (by decide) (by decide) iIRX11_0 mFRX11_10 rfl dX11_isOutage_3 h6
  have h2 := az_aload_n C 0 rfl dX11_isOutage_2 h3
  have h1 := az_iconst (x := (nI 0)) C dX11_isOutage_1 (by decide +kernel) h2
  have h0 := az_iload_n C 1 rfl dX11_isOutage_0 h1
  exact h0) l
theorem dX11_fitsTerm_0 : decode cX11_fitsTerm 0 = .ok (.iload_n 1, 1) := by decide +kernel
theorem dX11_fitsTerm_1 : decode cX11_fitsTerm 1 = .ok (.tableswitch 89 0 6 #[43, 43, 43, 52, 60, 60, 68], 43) := by decide +kernel
theorem dX11_fitsTerm_44 : decode cX11_fitsTerm 44 = .ok (.iload_n 2, 1) := by decide +kernel
theorem dX11_fitsTerm_45 : decode cX11_fitsTerm 45 = .ok (.iconst 0, 1) := by decide +kernel
theorem dX11_fitsTerm_46 : decode cX11_fitsTerm 46 = .ok (.sipush 10000, 3) := by decide +kernel
theorem dX11_fitsTerm_49 : decode cX11_fitsTerm 49 = .ok (.invokestatic 68, 3) := by decide +kernel
theorem dX11_fitsTerm_52 : decode cX11_fitsTerm 52 = .ok (.ireturn, 1) := by decide +kernel
theorem dX11_fitsTerm_53 : decode cX11_fitsTerm 53 = .ok (.iload_n 2, 1) := by decide +kernel
theorem dX11_fitsTerm_54 : decode cX11_fitsTerm 54 = .ok (.iconst 0, 1) := by decide +kernel
theorem dX11_fitsTerm_55 : decode cX11_fitsTerm 55 = .ok (.bipush 24, 2) := by decide +kernel
theorem dX11_fitsTerm_57 : decode cX11_fitsTerm 57 = .ok (.invokestatic 68, 3) := by decide +kernel
theorem dX11_fitsTerm_60 : decode cX11_fitsTerm 60 = .ok (.ireturn, 1) := by decide +kernel
theorem dX11_fitsTerm_61 : decode cX11_fitsTerm 61 = .ok (.iload_n 2, 1) := by decide +kernel
theorem dX11_fitsTerm_62 : decode cX11_fitsTerm 62 = .ok (.iconst 1, 1) := by decide +kernel
theorem dX11_fitsTerm_63 : decode cX11_fitsTerm 63 = .ok (.bipush 24, 2) := by decide +kernel
theorem dX11_fitsTerm_65 : decode cX11_fitsTerm 65 = .ok (.invokestatic 68, 3) := by decide +kernel
theorem dX11_fitsTerm_68 : decode cX11_fitsTerm 68 = .ok (.ireturn, 1) := by decide +kernel
theorem dX11_fitsTerm_69 : decode cX11_fitsTerm 69 = .ok (.iload_n 2, 1) := by decide +kernel
theorem dX11_fitsTerm_70 : decode cX11_fitsTerm 70 = .ok (.ifCond .eq 18, 3) := by decide +kernel
theorem dX11_fitsTerm_73 : decode cX11_fitsTerm 73 = .ok (.iload_n 2, 1) := by decide +kernel
theorem dX11_fitsTerm_74 : decode cX11_fitsTerm 74 = .ok (.bipush (-24), 2) := by decide +kernel
theorem dX11_fitsTerm_76 : decode cX11_fitsTerm 76 = .ok (.bipush 24, 2) := by decide +kernel
theorem dX11_fitsTerm_78 : decode cX11_fitsTerm 78 = .ok (.invokestatic 68, 3) := by decide +kernel
theorem dX11_fitsTerm_81 : decode cX11_fitsTerm 81 = .ok (.ifCond .eq 7, 3) := by decide +kernel
theorem dX11_fitsTerm_84 : decode cX11_fitsTerm 84 = .ok (.iconst 1, 1) := by decide +kernel
theorem dX11_fitsTerm_85 : decode cX11_fitsTerm 85 = .ok (.goto 4, 3) := by decide +kernel
theorem dX11_fitsTerm_88 : decode cX11_fitsTerm 88 = .ok (.iconst 0, 1) := by decide +kernel
theorem dX11_fitsTerm_89 : decode cX11_fitsTerm 89 = .ok (.ireturn, 1) := by decide +kernel
theorem dX11_fitsTerm_90 : decode cX11_fitsTerm 90 = .ok (.aload_n 0, 1) := by decide +kernel
theorem dX11_fitsTerm_91 : decode cX11_fitsTerm 91 = .ok (.bipush 6, 2) := by decide +kernel
theorem dX11_fitsTerm_93 : decode cX11_fitsTerm 93 = .ok (.iaload, 1) := by decide +kernel
theorem dX11_fitsTerm_94 : decode cX11_fitsTerm 94 = .ok (.ifCond .le 18, 3) := by decide +kernel
theorem dX11_fitsTerm_97 : decode cX11_fitsTerm 97 = .ok (.iload_n 2, 1) := by decide +kernel
theorem dX11_fitsTerm_98 : decode cX11_fitsTerm 98 = .ok (.aload_n 0, 1) := by decide +kernel
theorem dX11_fitsTerm_99 : decode cX11_fitsTerm 99 = .ok (.bipush 9, 2) := by decide +kernel
theorem dX11_fitsTerm_101 : decode cX11_fitsTerm 101 = .ok (.iaload, 1) := by decide +kernel
theorem dX11_fitsTerm_102 : decode cX11_fitsTerm 102 = .ok (.aload_n 0, 1) := by decide +kernel
theorem dX11_fitsTerm_103 : decode cX11_fitsTerm 103 = .ok (.bipush 10, 2) := by decide +kernel
theorem dX11_fitsTerm_105 : decode cX11_fitsTerm 105 = .ok (.iaload, 1) := by decide +kernel
theorem dX11_fitsTerm_106 : decode cX11_fitsTerm 106 = .ok (.invokestatic 68, 3) := by decide +kernel
theorem dX11_fitsTerm_109 : decode cX11_fitsTerm 109 = .ok (.goto 12, 3) := by decide +kernel
theorem dX11_fitsTerm_112 : decode cX11_fitsTerm 112 = .ok (.iload_n 2, 1) := by decide +kernel
theorem dX11_fitsTerm_113 : decode cX11_fitsTerm 113 = .ok (.ifCond .ne 7, 3) := by decide +kernel
theorem dX11_fitsTerm_116 : decode cX11_fitsTerm 116 = .ok (.iconst 1, 1) := by decide +kernel
theorem dX11_fitsTerm_117 : decode cX11_fitsTerm 117 = .ok (.goto 4, 3) := by decide +kernel
theorem dX11_fitsTerm_120 : decode cX11_fitsTerm 120 = .ok (.iconst 0, 1) := by decide +kernel
theorem dX11_fitsTerm_121 : decode cX11_fitsTerm 121 = .ok (.ireturn, 1) := by decide +kernel
def LX11_fitsTerm_121 (Q : Option Value → az_M → Prop) : az_T := (s_rz Q)
theorem okLX11_fitsTerm_121 {X : az_X} {Q : Option Value → az_M → Prop} (C : az_C X cX11_fitsTerm 3 RX11 (az_ts yX11_fitsTerm cX11_fitsTerm 3 (some .boolean)) ({ frames := 2, cells := 0, slots := 0, locals := 122 } : Room) (some .boolean) Q) : az_ok X 121 (LX11_fitsTerm_121 Q) := by
  have h121 := az_zreturn C rfl dX11_fitsTerm_121
  exact h121
def LX11_fitsTerm_44 (Q : Option Value → az_M → Prop) : az_T := (s_li 2 (s_ic (nI 0) (s_ic (nI 10000) (s_cs 3 FX11_within (s_rz Q)))))
theorem okLX11_fitsTerm_44 {X : az_X} {Q : Option Value → az_M → Prop} (C : az_C X cX11_fitsTerm 3 RX11 (az_ts yX11_fitsTerm cX11_fitsTerm 3 (some .boolean)) ({ frames := 2, cells := 0, slots := 0, locals := 122 } : Room) (some .boolean) Q) : az_ok X 44 (LX11_fitsTerm_44 Q) := by
  have h52 := az_zreturn C rfl dX11_fitsTerm_52
  have h49 := az_callS C okX11_within knX11_within stX11_within mLRX11_68 ⟨rfl, rfl, by decide, by decide⟩ dX11_fitsTerm_49 h52
  have h46 := az_sipush (x := (nI 10000)) C dX11_fitsTerm_46 (by decide +kernel) h49
  have h45 := az_iconst (x := (nI 0)) C dX11_fitsTerm_45 (by decide +kernel) h46
  have h44 := az_iload_n C 2 rfl dX11_fitsTerm_44 h45
  exact h44
def LX11_fitsTerm_61 (Q : Option Value → az_M → Prop) : az_T := (s_li 2 (s_ic (nI 1) (s_ic (nI 24) (s_cs 3 FX11_within (s_rz Q)))))
theorem okLX11_fitsTerm_61 {X : az_X} {Q : Option Value → az_M → Prop} (C : az_C X cX11_fitsTerm 3 RX11 (az_ts yX11_fitsTerm cX11_fitsTerm 3 (some .boolean)) ({ frames := 2, cells := 0, slots := 0, locals := 122 } : Room) (some .boolean) Q) : az_ok X 61 (LX11_fitsTerm_61 Q) := by
  have h68 := az_zreturn C rfl dX11_fitsTerm_68
  have h65 := az_callS C okX11_within knX11_within stX11_within mLRX11_68 ⟨rfl, rfl, by decide, by decide⟩ dX11_fitsTerm_65 h68
  have h63 := az_bipush (x := (nI 24)) C dX11_fitsTerm_63 (by decide +kernel) h65
  have h62 := az_iconst (x := (nI 1)) C dX11_fitsTerm_62 (by decide +kernel) h63
  have h61 := az_iload_n C 2 rfl dX11_fitsTerm_61 h62
  exact h61
def LX11_fitsTerm_89 (Q : Option Value → az_M → Prop) : az_T := (s_rz Q)
theorem okLX11_fitsTerm_89 {X : az_X} {Q : Option Value → az_M → Prop} (C : az_C X cX11_fitsTerm 3 RX11 (az_ts yX11_fitsTerm cX11_fitsTerm 3 (some .boolean)) ({ frames := 2, cells := 0, slots := 0, locals := 122 } : Room) (some .boolean) Q) : az_ok X 89 (LX11_fitsTerm_89 Q) := by
  have h89 := az_zreturn C rfl dX11_fitsTerm_89
  exact h89
def LX11_fitsTerm_88 (Q : Option Value → az_M → Prop) : az_T := (s_ic (nI 0) (s_kp [false, false, false] (LX11_fitsTerm_89 Q)))
theorem okLX11_fitsTerm_88 {X : az_X} {Q : Option Value → az_M → Prop} (C : az_C X cX11_fitsTerm 3 RX11 (az_ts yX11_fitsTerm cX11_fitsTerm 3 (some .boolean)) ({ frames := 2, cells := 0, slots := 0, locals := 122 } : Room) (some .boolean) Q) : az_ok X 88 (LX11_fitsTerm_88 Q) := by
  have h88 := az_iconst (x := (nI 0)) C dX11_fitsTerm_88 (by decide +kernel) (az_keep [false, false, false] (okLX11_fitsTerm_89 C))
  exact h88
def PX11_fitsTerm (Q : Option Value → az_M → Prop) : az_T := (s_li 1 (s_sw 0 [(s_kp [false, false, true] (LX11_fitsTerm_44 Q)), (s_kp [false, false, true] (LX11_fitsTerm_44 Q)), (s_kp [false, false, true] (LX11_fitsTerm_44 Q)), (s_li 2 (s_ic (nI 0) (s_ic (nI 24) (s_cs 3 FX11_within (s_rz Q))))), (s_kp [false, false, true] (LX11_fitsTerm_61 Q)), (s_kp [false, false, true] (LX11_fitsTerm_61 Q)), (s_li 2 (s_if c_eq (s_kp [false, false, false] (LX11_fitsTerm_88 Q)) (s_li 2 (s_ic (-24) (s_ic (nI 24) (s_cs 3 FX11_within (s_if c_eq (s_kp [false, false, false] (LX11_fitsTerm_88 Q)) (s_ic (nI 1) (s_kp [false, false, false] (LX11_fitsTerm_89 Q))))))))))] (s_la 0 (s_ic (nI 6) (s_al 20 (s_if c_le (s_li 2 (s_if c_ne (s_ic (nI 0) (s_kp [false, false, false] (LX11_fitsTerm_121 Q))) (s_ic (nI 1) (s_kp [false, false, false] (LX11_fitsTerm_121 Q))))) (s_li 2 (s_la 0 (s_ic (nI 9) (s_al 20 (s_la 0 (s_ic (nI 10) (s_al 20 (s_cs 3 FX11_within (s_kp [false, false, false] (LX11_fitsTerm_121 Q))))))))))))))))
def FX11_fitsTerm : az_F := az_fun [true, false, false] 3 PX11_fitsTerm
theorem okX11_fitsTerm (l : Launch) : az_met l yX11_fitsTerm cX11_fitsTerm 3 (some .boolean) ({ frames := 2, cells := 0, slots := 0, locals := 122 } : Room) FX11_fitsTerm := az_met_of (own := RX11) (by decide +kernel) rfl (by decide) (fun X Q C => by
  have h60 := az_zreturn C rfl dX11_fitsTerm_60
  have h57 := az_callS C okX11_within knX11_within stX11_within mLRX11_68 ⟨rfl, rfl, by decide, by decide⟩ dX11_fitsTerm_57 h60
  have h55 := az_bipush (x := (nI 24)) C dX11_fitsTerm_55 (by decide +kernel) h57
  have h54 := az_iconst (x := (nI 0)) C dX11_fitsTerm_54 (by decide +kernel) h55
  have h53 := az_iload_n C 2 rfl dX11_fitsTerm_53 h54
  have h85 := az_goto (tgt := 89) C dX11_fitsTerm_85 (by decide) (az_keep [false, false, false] (okLX11_fitsTerm_89 C))
  have h84 := az_iconst (x := (nI 1)) C dX11_fitsTerm_84 (by decide +kernel) h85
  have h81 := az_if_eq (tgt := 88) C dX11_fitsTerm_81 (by decide) (az_keep [false, false, false] (okLX11_fitsTerm_88 C)) h84
  have h78 := az_callS C okX11_within knX11_within stX11_within mLRX11_68 ⟨rfl, rfl, by decide, by decide⟩ dX11_fitsTerm_78 h81
  have h76 := az_bipush (x := (nI 24)) C dX11_fitsTerm_76 (by decide +kernel) h78
  have h74 := az_bipush (x := (-24)) C dX11_fitsTerm_74 (by decide +kernel) h76
  have h73 := az_iload_n C 2 rfl dX11_fitsTerm_73 h74
  have h70 := az_if_eq (tgt := 88) C dX11_fitsTerm_70 (by decide) (az_keep [false, false, false] (okLX11_fitsTerm_88 C)) h73
  have h69 := az_iload_n C 2 rfl dX11_fitsTerm_69 h70
  have h120 := az_iconst (x := (nI 0)) C dX11_fitsTerm_120 (by decide +kernel) (az_keep [false, false, false] (okLX11_fitsTerm_121 C))
  have h117 := az_goto (tgt := 121) C dX11_fitsTerm_117 (by decide) (az_keep [false, false, false] (okLX11_fitsTerm_121 C))
  have h116 := az_iconst (x := (nI 1)) C dX11_fitsTerm_116 (by decide +kernel) h117
  have h113 := az_if_ne (tgt := 120) C dX11_fitsTerm_113 (by decide) h120 h116
  have h112 := az_iload_n C 2 rfl dX11_fitsTerm_112 h113
  have h109 := az_goto (tgt := 121) C dX11_fitsTerm_109 (by decide) (az_keep [false, false, false] (okLX11_fitsTerm_121 C))
  have h106 := az_callS C okX11_within knX11_within stX11_within mLRX11_68 ⟨rfl, rfl, by decide, by decide⟩ dX11_fitsTerm_106 h109
  have h105 := az_iald C dX11_fitsTerm_105 h106
  have h103 := az_bipush (x := (nI 10)) C dX11_fitsTerm_103 (by decide +kernel) h105
  have h102 := az_aload_n C 0 rfl dX11_fitsTerm_102 h103
  have h101 := az_iald C dX11_fitsTerm_101 h102
  have h99 := az_bipush (x := (nI 9)) C dX11_fitsTerm_99 (by decide +kernel) h101
  have h98 := az_aload_n C 0 rfl dX11_fitsTerm_98 h99
  have h97 := az_iload_n C 2 rfl dX11_fitsTerm_97 h98
  have h94 := az_if_le (tgt := 112) C dX11_fitsTerm_94 (by decide) h112 h97
  have h93 := az_iald C dX11_fitsTerm_93 h94
  have h91 := az_bipush (x := (nI 6)) C dX11_fitsTerm_91 (by decide +kernel) h93
  have h90 := az_aload_n C 0 rfl dX11_fitsTerm_90 h91
  have h1 := az_tsw (td := 90) (tgts := [44, 44, 44, 53, 61, 61, 69]) (lo := 0) C dX11_fitsTerm_1 (by decide) (by decide +kernel) (by decide) h90 (az_all_cons (az_keep [false, false, true] (okLX11_fitsTerm_44 C)) (az_all_cons (az_keep [false, false, true] (okLX11_fitsTerm_44 C)) (az_all_cons (az_keep [false, false, true] (okLX11_fitsTerm_44 C)) (az_all_cons h53 (az_all_cons (az_keep [false, false, true] (okLX11_fitsTerm_61 C)) (az_all_cons (az_keep [false, false, true] (okLX11_fitsTerm_61 C)) (az_all_cons h69 az_all_nil)))))))
  have h0 := az_iload_n C 1 rfl dX11_fitsTerm_0 h1
  exact h0) l
theorem dX11_sumOf_0 : decode cX11_sumOf 0 = .ok (.iconst 0, 1) := by decide +kernel
theorem dX11_sumOf_1 : decode cX11_sumOf 1 = .ok (.istore_n 2, 1) := by decide +kernel
theorem dX11_sumOf_2 : decode cX11_sumOf 2 = .ok (.iconst 0, 1) := by decide +kernel
theorem dX11_sumOf_3 : decode cX11_sumOf 3 = .ok (.istore_n 3, 1) := by decide +kernel
theorem dX11_sumOf_4 : decode cX11_sumOf 4 = .ok (.iload_n 3, 1) := by decide +kernel
theorem dX11_sumOf_5 : decode cX11_sumOf 5 = .ok (.aload_n 0, 1) := by decide +kernel
theorem dX11_sumOf_6 : decode cX11_sumOf 6 = .ok (.getfield 10, 3) := by decide +kernel
theorem dX11_sumOf_9 : decode cX11_sumOf 9 = .ok (.getfield 143, 3) := by decide +kernel
theorem dX11_sumOf_12 : decode cX11_sumOf 12 = .ok (.if_icmp .ge 23, 3) := by decide +kernel
theorem dX11_sumOf_15 : decode cX11_sumOf 15 = .ok (.iload_n 2, 1) := by decide +kernel
theorem dX11_sumOf_16 : decode cX11_sumOf 16 = .ok (.aload_n 0, 1) := by decide +kernel
theorem dX11_sumOf_17 : decode cX11_sumOf 17 = .ok (.getfield 29, 3) := by decide +kernel
theorem dX11_sumOf_20 : decode cX11_sumOf 20 = .ok (.getfield 267, 3) := by decide +kernel
theorem dX11_sumOf_23 : decode cX11_sumOf 23 = .ok (.iload_n 1, 1) := by decide +kernel
theorem dX11_sumOf_24 : decode cX11_sumOf 24 = .ok (.aaload, 1) := by decide +kernel
theorem dX11_sumOf_25 : decode cX11_sumOf 25 = .ok (.iload_n 3, 1) := by decide +kernel
theorem dX11_sumOf_26 : decode cX11_sumOf 26 = .ok (.iaload, 1) := by decide +kernel
theorem dX11_sumOf_27 : decode cX11_sumOf 27 = .ok (.iadd, 1) := by decide +kernel
theorem dX11_sumOf_28 : decode cX11_sumOf 28 = .ok (.istore_n 2, 1) := by decide +kernel
theorem dX11_sumOf_29 : decode cX11_sumOf 29 = .ok (.iinc 3 1, 3) := by decide +kernel
theorem dX11_sumOf_32 : decode cX11_sumOf 32 = .ok (.goto (-28), 3) := by decide +kernel
theorem dX11_sumOf_35 : decode cX11_sumOf 35 = .ok (.iload_n 2, 1) := by decide +kernel
theorem dX11_sumOf_36 : decode cX11_sumOf 36 = .ok (.ireturn, 1) := by decide +kernel
def BX11_sumOf_4 (Q : Option Value → az_M → Prop) (Z4 : az_T) : az_T := (s_li 3 (s_la 0 (s_gr 12 0 (s_gi 9 0 (s_if2 d_ge (s_li 2 (s_ri Q)) (s_li 2 (s_la 0 (s_gr 12 3 (s_gr 6 8 (s_li 1 (s_aa 25 (s_li 3 (s_al 20 (s_bin f_add (s_si 2 (s_inc 3 (nI 1) (s_kp [true, true, true, true] Z4)))))))))))))))))
theorem okBX11_sumOf_4 {X : az_X} {Q : Option Value → az_M → Prop} (C : az_C X cX11_sumOf 4 RX11 (az_ts yX11_sumOf cX11_sumOf 4 (some .int)) ({ frames := 1, cells := 0, slots := 0, locals := 100 } : Room) (some .int) Q) {Z4 : az_T} (hZ4 : az_ok X 4 Z4) : az_ok X 4 (BX11_sumOf_4 Q Z4) := by
  have h36 := az_ireturn C rfl dX11_sumOf_36
  have h35 := az_iload_n C 2 rfl dX11_sumOf_35 h36
  have h32 := az_goto (tgt := 4) C dX11_sumOf_32 (by decide) (az_keep [true, true, true, true] hZ4)
  have h29 := az_iinc (v := (nI 1)) C (by decide) (by decide +kernel) dX11_sumOf_29 h32
  have h28 := az_istore_n C 2 rfl (by decide) dX11_sumOf_28 h29
  have h27 := az_iadd C dX11_sumOf_27 h28
  have h26 := az_iald C dX11_sumOf_26 h27
  have h25 := az_iload_n C 3 rfl dX11_sumOf_25 h26
  have h24 := az_aald2 C dX11_sumOf_24 h25
  have h23 := az_iload_n C 1 rfl dX11_sumOf_23 h24
  have h20 := az_getR (T := TX4) (N := 10) (j := 8) C gwRX4 rfl (by decide) (by decide) iIRX4_8 mFRX11_267 rfl dX11_sumOf_20 h23
  have h17 := az_getR (T := TX11) (N := 10) (j := 3) C gwRX11 rfl (by decide) (by decide) iIRX11_3 mFRX11_29 rfl dX11_sumOf_17 h20
  have h16 := az_aload_n C 0 rfl dX11_sumOf_16 h17
  have h15 := az_iload_n C 2 rfl dX11_sumOf_15 h16
  have h12 := az_icmp_ge (tgt := 35) C dX11_sumOf_12 (by decide) h35 h15
  have h9 := az_getI (T := TX8) (N := 11) (j := 0) C gwRX8 rfl (by decide) (by decide) iIRX8_0 mFRX11_143 rfl dX11_sumOf_9 h12
  have h6 := az_getR (T := TX11) (N := 10) (j := 0) C gwRX11 rfl (by decide) (by decide) iIRX11_0 mFRX11_10 rfl dX11_sumOf_6 h9
  have h5 := az_aload_n C 0 rfl dX11_sumOf_5 h6
  have h4 := az_iload_n C 3 rfl dX11_sumOf_4 h5
  exact h4
def LX11_sumOf_4 (Q : Option Value → az_M → Prop) : az_T := s_lp (fun Z => BX11_sumOf_4 Q Z)
theorem okLX11_sumOf_4 {X : az_X} {Q : Option Value → az_M → Prop} (C : az_C X cX11_sumOf 4 RX11 (az_ts yX11_sumOf cX11_sumOf 4 (some .int)) ({ frames := 1, cells := 0, slots := 0, locals := 100 } : Room) (some .int) Q) : az_ok X 4 (LX11_sumOf_4 Q) := az_loop (F := fun Z => BX11_sumOf_4 Q Z) (fun _ hZ => okBX11_sumOf_4 C hZ)
def PX11_sumOf (Q : Option Value → az_M → Prop) : az_T := (s_ic (nI 0) (s_si 2 (s_ic (nI 0) (s_si 3 (s_kp [true, true, true, true] (LX11_sumOf_4 Q))))))
def FX11_sumOf : az_F := az_fun [true, false] 4 PX11_sumOf
theorem okX11_sumOf (l : Launch) : az_met l yX11_sumOf cX11_sumOf 4 (some .int) ({ frames := 1, cells := 0, slots := 0, locals := 100 } : Room) FX11_sumOf := az_met_of (own := RX11) (by decide +kernel) rfl (by decide) (fun X Q C => by
  have h3 := az_istore_n C 3 rfl (by decide) dX11_sumOf_3 (az_keep [true, true, true, true] (okLX11_sumOf_4 C))
  have h2 := az_iconst (x := (nI 0)) C dX11_sumOf_2 (by decide +kernel) h3
  have h1 := az_istore_n C 2 rfl (by decide) dX11_sumOf_1 h2
  have h0 := az_iconst (x := (nI 0)) C dX11_sumOf_0 (by decide +kernel) h1
  exact h0) l
