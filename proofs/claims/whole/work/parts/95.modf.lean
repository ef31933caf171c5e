/-! by program (wip/whole/gen95.py): the model's mean cost and load -/
def s_dc0 (P : az_T) : az_T := fun ls st q M => P ls (.double FP.dconst0 :: st) q M
theorem az_dconst0 {X : az_X} {cc : ByteArray} {nL : Nat} {own : String} {Ts : List Cond} {rm : Room} {ret : Option FieldType} {Qs : Option Value → az_M → Prop} {pc : Nat} {P : az_T} (C : az_C X cc nL own Ts rm ret Qs) (d : decode cc pc = .ok (.dconst 0, 1)) (kk : az_ok X (pc + 1) P) : az_ok X pc (s_dc0 P) := by
  obtain ⟨p, l, e, R, s, m, args, below, meth, c, D, tc, A, Q, RA⟩ := X
  obtain ⟨hx, hb, hml, hown, hts, hK, hN, hA, hlk, hr, hR, hsub, hQ⟩ := C
  intro ls st k M h ad H Ls locs hra hl hP hD hS hz
  unfold s_dc0 at h
  exact lv_dconst0 hx hb d (kk ls _ k M h ad H Ls locs hra hl hP hD hS hz)
def s_fc0 (P : az_T) : az_T := fun ls st q M => P ls (.float FP.fconst0 :: st) q M
theorem az_fconst0 {X : az_X} {cc : ByteArray} {nL : Nat} {own : String} {Ts : List Cond} {rm : Room} {ret : Option FieldType} {Qs : Option Value → az_M → Prop} {pc : Nat} {P : az_T} (C : az_C X cc nL own Ts rm ret Qs) (d : decode cc pc = .ok (.fconst 0, 1)) (kk : az_ok X (pc + 1) P) : az_ok X pc (s_fc0 P) := by
  obtain ⟨p, l, e, R, s, m, args, below, meth, c, D, tc, A, Q, RA⟩ := X
  obtain ⟨hx, hb, hml, hown, hts, hK, hN, hA, hlk, hr, hR, hsub, hQ⟩ := C
  intro ls st k M h ad H Ls locs hra hl hP hD hS hz
  unfold s_fc0 at h
  exact lv_fconst0 hx hb d (kk ls _ k M h ad H Ls locs hra hl hP hD hS hz)
theorem dX12_meanCost_0 : decode cX12_meanCost 0 = .ok (.aload_n 0, 1) := by decide +kernel
theorem dX12_meanCost_1 : decode cX12_meanCost 1 = .ok (.invokevirtual 137, 3) := by decide +kernel
theorem dX12_meanCost_4 : decode cX12_meanCost 4 = .ok (.iconst 0, 1) := by decide +kernel
theorem dX12_meanCost_5 : decode cX12_meanCost 5 = .ok (.istore_n 1, 1) := by decide +kernel
theorem dX12_meanCost_6 : decode cX12_meanCost 6 = .ok (.iconst 0, 1) := by decide +kernel
theorem dX12_meanCost_7 : decode cX12_meanCost 7 = .ok (.istore_n 2, 1) := by decide +kernel
theorem dX12_meanCost_8 : decode cX12_meanCost 8 = .ok (.iload_n 2, 1) := by decide +kernel
theorem dX12_meanCost_9 : decode cX12_meanCost 9 = .ok (.aload_n 0, 1) := by decide +kernel
theorem dX12_meanCost_10 : decode cX12_meanCost 10 = .ok (.getfield 9, 3) := by decide +kernel
theorem dX12_meanCost_13 : decode cX12_meanCost 13 = .ok (.iconst 0, 1) := by decide +kernel
theorem dX12_meanCost_14 : decode cX12_meanCost 14 = .ok (.iaload, 1) := by decide +kernel
theorem dX12_meanCost_15 : decode cX12_meanCost 15 = .ok (.if_icmp .ge 36, 3) := by decide +kernel
theorem dX12_meanCost_18 : decode cX12_meanCost 18 = .ok (.iconst 0, 1) := by decide +kernel
theorem dX12_meanCost_19 : decode cX12_meanCost 19 = .ok (.istore_n 3, 1) := by decide +kernel
theorem dX12_meanCost_20 : decode cX12_meanCost 20 = .ok (.iload_n 3, 1) := by decide +kernel
theorem dX12_meanCost_21 : decode cX12_meanCost 21 = .ok (.aload_n 0, 1) := by decide +kernel
theorem dX12_meanCost_22 : decode cX12_meanCost 22 = .ok (.getfield 9, 3) := by decide +kernel
theorem dX12_meanCost_25 : decode cX12_meanCost 25 = .ok (.iconst 2, 1) := by decide +kernel
theorem dX12_meanCost_26 : decode cX12_meanCost 26 = .ok (.iaload, 1) := by decide +kernel
theorem dX12_meanCost_27 : decode cX12_meanCost 27 = .ok (.if_icmp .ge 18, 3) := by decide +kernel
theorem dX12_meanCost_30 : decode cX12_meanCost 30 = .ok (.iload_n 1, 1) := by decide +kernel
theorem dX12_meanCost_31 : decode cX12_meanCost 31 = .ok (.aload_n 0, 1) := by decide +kernel
theorem dX12_meanCost_32 : decode cX12_meanCost 32 = .ok (.iload_n 3, 1) := by decide +kernel
theorem dX12_meanCost_33 : decode cX12_meanCost 33 = .ok (.iload_n 2, 1) := by decide +kernel
theorem dX12_meanCost_34 : decode cX12_meanCost 34 = .ok (.invokevirtual 276, 3) := by decide +kernel
theorem dX12_meanCost_37 : decode cX12_meanCost 37 = .ok (.iadd, 1) := by decide +kernel
theorem dX12_meanCost_38 : decode cX12_meanCost 38 = .ok (.istore_n 1, 1) := by decide +kernel
theorem dX12_meanCost_39 : decode cX12_meanCost 39 = .ok (.iinc 3 1, 3) := by decide +kernel
theorem dX12_meanCost_42 : decode cX12_meanCost 42 = .ok (.goto (-22), 3) := by decide +kernel
theorem dX12_meanCost_45 : decode cX12_meanCost 45 = .ok (.iinc 2 1, 3) := by decide +kernel
theorem dX12_meanCost_48 : decode cX12_meanCost 48 = .ok (.goto (-40), 3) := by decide +kernel
theorem dX12_meanCost_51 : decode cX12_meanCost 51 = .ok (.aload_n 0, 1) := by decide +kernel
theorem dX12_meanCost_52 : decode cX12_meanCost 52 = .ok (.iload_n 1, 1) := by decide +kernel
theorem dX12_meanCost_53 : decode cX12_meanCost 53 = .ok (.ifCond .ne 7, 3) := by decide +kernel
theorem dX12_meanCost_56 : decode cX12_meanCost 56 = .ok (.iconst 1, 1) := by decide +kernel
theorem dX12_meanCost_57 : decode cX12_meanCost 57 = .ok (.goto 4, 3) := by decide +kernel
theorem dX12_meanCost_60 : decode cX12_meanCost 60 = .ok (.iconst 0, 1) := by decide +kernel
theorem dX12_meanCost_61 : decode cX12_meanCost 61 = .ok (.putfield 89, 3) := by decide +kernel
theorem dX12_meanCost_64 : decode cX12_meanCost 64 = .ok (.aload_n 0, 1) := by decide +kernel
theorem dX12_meanCost_65 : decode cX12_meanCost 65 = .ok (.getfield 89, 3) := by decide +kernel
theorem dX12_meanCost_68 : decode cX12_meanCost 68 = .ok (.ifCond .le 7, 3) := by decide +kernel
theorem dX12_meanCost_71 : decode cX12_meanCost 71 = .ok (.dconst 0, 1) := by decide +kernel
theorem dX12_meanCost_72 : decode cX12_meanCost 72 = .ok (.goto 12, 3) := by decide +kernel
theorem dX12_meanCost_75 : decode cX12_meanCost 75 = .ok (.aload_n 0, 1) := by decide +kernel
theorem dX12_meanCost_76 : decode cX12_meanCost 76 = .ok (.iconst 0, 1) := by decide +kernel
theorem dX12_meanCost_77 : decode cX12_meanCost 77 = .ok (.invokevirtual 273, 3) := by decide +kernel
theorem dX12_meanCost_80 : decode cX12_meanCost 80 = .ok (.i2d, 1) := by decide +kernel
theorem dX12_meanCost_81 : decode cX12_meanCost 81 = .ok (.iload_n 1, 1) := by decide +kernel
theorem dX12_meanCost_82 : decode cX12_meanCost 82 = .ok (.i2d, 1) := by decide +kernel
theorem dX12_meanCost_83 : decode cX12_meanCost 83 = .ok (.ddiv, 1) := by decide +kernel
theorem dX12_meanCost_84 : decode cX12_meanCost 84 = .ok (.dreturn, 1) := by decide +kernel
def LX12_meanCost_84 (Q : Option Value → az_M → Prop) : az_T := (s_rd Q)
theorem okLX12_meanCost_84 {X : az_X} {Q : Option Value → az_M → Prop} (C : az_C X cX12_meanCost 4 RX12 (az_ts yX12_meanCost cX12_meanCost 4 (some .double)) ({ frames := 8, cells := 0, slots := 0, locals := 257 } : Room) (some .double) Q) : az_ok X 84 (LX12_meanCost_84 Q) := by
  have h84 := az_dreturn C rfl dX12_meanCost_84
  exact h84
def LX12_meanCost_61 (Q : Option Value → az_M → Prop) : az_T := (s_pi 13 5 (s_la 0 (s_gi 13 5 (s_if c_le (s_la 0 (s_ic (nI 0) (s_cv 1 13 FX12_totalOf (s_i2d (s_li 1 (s_i2d (s_ddiv (s_kp [false, false, false, false] (LX12_meanCost_84 Q))))))))) (s_dc0 (s_kp [false, false, false, false] (LX12_meanCost_84 Q)))))))
theorem okLX12_meanCost_61 {X : az_X} {Q : Option Value → az_M → Prop} (C : az_C X cX12_meanCost 4 RX12 (az_ts yX12_meanCost cX12_meanCost 4 (some .double)) ({ frames := 8, cells := 0, slots := 0, locals := 257 } : Room) (some .double) Q) : az_ok X 61 (LX12_meanCost_61 Q) := by
  have h83 := az_ddiv C dX12_meanCost_83 (az_keep [false, false, false, false] (okLX12_meanCost_84 C))
  have h82 := az_i2d C dX12_meanCost_82 h83
  have h81 := az_iload_n C 1 rfl dX12_meanCost_81 h82
  have h80 := az_i2d C dX12_meanCost_80 h81
  have h77 := az_callV (ci := 13) C okX12_totalOf knX12_totalOf imX12_totalOf seX12_totalOf mLRX12_273 rfl (by decide) ⟨rfl, rfl, by decide, by decide⟩ dX12_meanCost_77 h80
  have h76 := az_iconst (x := (nI 0)) C dX12_meanCost_76 (by decide +kernel) h77
  have h75 := az_aload_n C 0 rfl dX12_meanCost_75 h76
  have h72 := az_goto (tgt := 84) C dX12_meanCost_72 (by decide) (az_keep [false, false, false, false] (okLX12_meanCost_84 C))
  have h71 := az_dconst0 C dX12_meanCost_71 h72
  have h68 := az_if_le (tgt := 75) C dX12_meanCost_68 (by decide) h75 h71
  have h65 := az_getI (T := TX12) (N := 33) (j := 5) C gwRX12 rfl (by decide) (by decide) iIRX12_5 mFRX12_89 rfl dX12_meanCost_65 h68
  have h64 := az_aload_n C 0 rfl dX12_meanCost_64 h65
  have h61 := az_putI (T := TX12) (N := 33) (j := 5) C gwRX12 rfl (by decide) (by decide) tyX12 tyX12_ok nmX12 iIRX12_5 (by decide +kernel) rfl mFRX12_89 rfl dX12_meanCost_61 h64
  exact h61
def BX12_meanCost_20 (Q : Option Value → az_M → Prop) (Z8 : az_T) (Z20 : az_T) : az_T := (s_li 3 (s_la 0 (s_gr 13 0 (s_ic (nI 2) (s_al 20 (s_if2 d_ge (s_inc 2 (nI 1) (s_kp [true, true, true, false] Z8)) (s_li 1 (s_la 0 (s_li 3 (s_li 2 (s_cv 2 13 FX12_allGiven (s_bin f_add (s_si 1 (s_inc 3 (nI 1) (s_kp [true, true, true, true] Z20)))))))))))))))
theorem okBX12_meanCost_20 {X : az_X} {Q : Option Value → az_M → Prop} (C : az_C X cX12_meanCost 4 RX12 (az_ts yX12_meanCost cX12_meanCost 4 (some .double)) ({ frames := 8, cells := 0, slots := 0, locals := 257 } : Room) (some .double) Q) {Z8 : az_T} (hZ8 : az_ok X 8 Z8) {Z20 : az_T} (hZ20 : az_ok X 20 Z20) : az_ok X 20 (BX12_meanCost_20 Q Z8 Z20) := by
  have h48 := az_goto (tgt := 8) C dX12_meanCost_48 (by decide) (az_keep [true, true, true, false] hZ8)
  have h45 := az_iinc (v := (nI 1)) C (by decide) (by decide +kernel) dX12_meanCost_45 h48
  have h42 := az_goto (tgt := 20) C dX12_meanCost_42 (by decide) (az_keep [true, true, true, true] hZ20)
  have h39 := az_iinc (v := (nI 1)) C (by decide) (by decide +kernel) dX12_meanCost_39 h42
  have h38 := az_istore_n C 1 rfl (by decide) dX12_meanCost_38 h39
  have h37 := az_iadd C dX12_meanCost_37 h38
  have h34 := az_callV (ci := 13) C okX12_allGiven knX12_allGiven imX12_allGiven seX12_allGiven mLRX12_276 rfl (by decide) ⟨rfl, rfl, by decide, by decide⟩ dX12_meanCost_34 h37
  have h33 := az_iload_n C 2 rfl dX12_meanCost_33 h34
  have h32 := az_iload_n C 3 rfl dX12_meanCost_32 h33
  have h31 := az_aload_n C 0 rfl dX12_meanCost_31 h32
  have h30 := az_iload_n C 1 rfl dX12_meanCost_30 h31
  have h27 := az_icmp_ge (tgt := 45) C dX12_meanCost_27 (by decide) h45 h30
  have h26 := az_iald C dX12_meanCost_26 h27
  have h25 := az_iconst (x := (nI 2)) C dX12_meanCost_25 (by decide +kernel) h26
  have h22 := az_getR (T := TX12) (N := 33) (j := 0) C gwRX12 rfl (by decide) (by decide) iIRX12_0 mFRX12_9 rfl dX12_meanCost_22 h25
  have h21 := az_aload_n C 0 rfl dX12_meanCost_21 h22
  have h20 := az_iload_n C 3 rfl dX12_meanCost_20 h21
  exact h20
def LX12_meanCost_20 (Q : Option Value → az_M → Prop) (Z8 : az_T) : az_T := s_lp (fun Z => BX12_meanCost_20 Q Z8 Z)
theorem okLX12_meanCost_20 {X : az_X} {Q : Option Value → az_M → Prop} (C : az_C X cX12_meanCost 4 RX12 (az_ts yX12_meanCost cX12_meanCost 4 (some .double)) ({ frames := 8, cells := 0, slots := 0, locals := 257 } : Room) (some .double) Q) {Z8 : az_T} (hZ8 : az_ok X 8 Z8) : az_ok X 20 (LX12_meanCost_20 Q Z8) := az_loop (F := fun Z => BX12_meanCost_20 Q Z8 Z) (fun _ hZ => okBX12_meanCost_20 C hZ8 hZ)
def BX12_meanCost_8 (Q : Option Value → az_M → Prop) (Z8 : az_T) : az_T := (s_li 2 (s_la 0 (s_gr 13 0 (s_ic (nI 0) (s_al 20 (s_if2 d_ge (s_la 0 (s_li 1 (s_if c_ne (s_ic (nI 0) (s_kp [true, true, false, false] (LX12_meanCost_61 Q))) (s_ic (nI 1) (s_kp [true, true, false, false] (LX12_meanCost_61 Q)))))) (s_ic (nI 0) (s_si 3 (s_kp [true, true, true, true] (LX12_meanCost_20 Q Z8))))))))))
theorem okBX12_meanCost_8 {X : az_X} {Q : Option Value → az_M → Prop} (C : az_C X cX12_meanCost 4 RX12 (az_ts yX12_meanCost cX12_meanCost 4 (some .double)) ({ frames := 8, cells := 0, slots := 0, locals := 257 } : Room) (some .double) Q) {Z8 : az_T} (hZ8 : az_ok X 8 Z8) : az_ok X 8 (BX12_meanCost_8 Q Z8) := by
  have h60 := az_iconst (x := (nI 0)) C dX12_meanCost_60 (by decide +kernel) (az_keep [true, true, false, false] (okLX12_meanCost_61 C))
  have h57 := az_goto (tgt := 61) C dX12_meanCost_57 (by decide) (az_keep [true, true, false, false] (okLX12_meanCost_61 C))
  have h56 := az_iconst (x := (nI 1)) C dX12_meanCost_56 (by decide +kernel) h57
  have h53 := az_if_ne (tgt := 60) C dX12_meanCost_53 (by decide) h60 h56
  have h52 := az_iload_n C 1 rfl dX12_meanCost_52 h53
  have h51 := az_aload_n C 0 rfl dX12_meanCost_51 h52
  have h19 := az_istore_n C 3 rfl (by decide) dX12_meanCost_19 (az_keep [true, true, true, true] (okLX12_meanCost_20 C hZ8))
  have h18 := az_iconst (x := (nI 0)) C dX12_meanCost_18 (by decide +kernel) h19
  have h15 := az_icmp_ge (tgt := 51) C dX12_meanCost_15 (by decide) h51 h18
  have h14 := az_iald C dX12_meanCost_14 h15
  have h13 := az_iconst (x := (nI 0)) C dX12_meanCost_13 (by decide +kernel) h14
  have h10 := az_getR (T := TX12) (N := 33) (j := 0) C gwRX12 rfl (by decide) (by decide) iIRX12_0 mFRX12_9 rfl dX12_meanCost_10 h13
  have h9 := az_aload_n C 0 rfl dX12_meanCost_9 h10
  have h8 := az_iload_n C 2 rfl dX12_meanCost_8 h9
  exact h8
def LX12_meanCost_8 (Q : Option Value → az_M → Prop) : az_T := s_lp (fun Z => BX12_meanCost_8 Q Z)
theorem okLX12_meanCost_8 {X : az_X} {Q : Option Value → az_M → Prop} (C : az_C X cX12_meanCost 4 RX12 (az_ts yX12_meanCost cX12_meanCost 4 (some .double)) ({ frames := 8, cells := 0, slots := 0, locals := 257 } : Room) (some .double) Q) : az_ok X 8 (LX12_meanCost_8 Q) := az_loop (F := fun Z => BX12_meanCost_8 Q Z) (fun _ hZ => okBX12_meanCost_8 C hZ)
def PX12_meanCost (Q : Option Value → az_M → Prop) : az_T := (s_la 0 (s_cv 0 13 FX12_know (s_ic (nI 0) (s_si 1 (s_ic (nI 0) (s_si 2 (s_kp [true, true, true, false] (LX12_meanCost_8 Q))))))))
def FX12_meanCost : az_F := az_fun [true] 4 PX12_meanCost
theorem okX12_meanCost (l : Launch) : az_met l yX12_meanCost cX12_meanCost 4 (some .double) ({ frames := 8, cells := 0, slots := 0, locals := 257 } : Room) FX12_meanCost := az_met_of (own := RX12) (by decide +kernel) rfl (by decide) (fun X Q C => by
  have h7 := az_istore_n C 2 rfl (by decide) dX12_meanCost_7 (az_keep [true, true, true, false] (okLX12_meanCost_8 C))
  have h6 := az_iconst (x := (nI 0)) C dX12_meanCost_6 (by decide +kernel) h7
  have h5 := az_istore_n C 1 rfl (by decide) dX12_meanCost_5 h6
  have h4 := az_iconst (x := (nI 0)) C dX12_meanCost_4 (by decide +kernel) h5
  have h1 := az_callV (ci := 13) C okX12_know knX12_know imX12_know seX12_know mLRX12_137 rfl (by decide) ⟨rfl, rfl, by decide, by decide⟩ dX12_meanCost_1 h4
  have h0 := az_aload_n C 0 rfl dX12_meanCost_0 h1
  exact h0) l
theorem dX12_load_0 : decode cX12_load 0 = .ok (.aload_n 0, 1) := by decide +kernel
theorem dX12_load_1 : decode cX12_load 1 = .ok (.aload_n 0, 1) := by decide +kernel
theorem dX12_load_2 : decode cX12_load 2 = .ok (.iload_n 1, 1) := by decide +kernel
theorem dX12_load_3 : decode cX12_load 3 = .ok (.invokevirtual 131, 3) := by decide +kernel
theorem dX12_load_6 : decode cX12_load 6 = .ok (.ifCond .eq 7, 3) := by decide +kernel
theorem dX12_load_9 : decode cX12_load 9 = .ok (.iconst 0, 1) := by decide +kernel
theorem dX12_load_10 : decode cX12_load 10 = .ok (.goto 4, 3) := by decide +kernel
theorem dX12_load_13 : decode cX12_load 13 = .ok (.iconst 1, 1) := by decide +kernel
theorem dX12_load_14 : decode cX12_load 14 = .ok (.putfield 89, 3) := by decide +kernel
theorem dX12_load_17 : decode cX12_load 17 = .ok (.aload_n 0, 1) := by decide +kernel
theorem dX12_load_18 : decode cX12_load 18 = .ok (.getfield 89, 3) := by decide +kernel
theorem dX12_load_21 : decode cX12_load 21 = .ok (.ifCond .le 5, 3) := by decide +kernel
theorem dX12_load_24 : decode cX12_load 24 = .ok (.fconst 0, 1) := by decide +kernel
theorem dX12_load_25 : decode cX12_load 25 = .ok (.freturn, 1) := by decide +kernel
theorem dX12_load_26 : decode cX12_load 26 = .ok (.aload_n 0, 1) := by decide +kernel
theorem dX12_load_27 : decode cX12_load 27 = .ok (.invokevirtual 137, 3) := by decide +kernel
theorem dX12_load_30 : decode cX12_load 30 = .ok (.iconst 0, 1) := by decide +kernel
theorem dX12_load_31 : decode cX12_load 31 = .ok (.istore_n 2, 1) := by decide +kernel
theorem dX12_load_32 : decode cX12_load 32 = .ok (.iconst 0, 1) := by decide +kernel
theorem dX12_load_33 : decode cX12_load 33 = .ok (.istore_n 3, 1) := by decide +kernel
theorem dX12_load_34 : decode cX12_load 34 = .ok (.iconst 0, 1) := by decide +kernel
theorem dX12_load_35 : decode cX12_load 35 = .ok (.istore 4, 2) := by decide +kernel
theorem dX12_load_37 : decode cX12_load 37 = .ok (.iload 4, 2) := by decide +kernel
theorem dX12_load_39 : decode cX12_load 39 = .ok (.aload_n 0, 1) := by decide +kernel
theorem dX12_load_40 : decode cX12_load 40 = .ok (.getfield 9, 3) := by decide +kernel
theorem dX12_load_43 : decode cX12_load 43 = .ok (.iconst 0, 1) := by decide +kernel
theorem dX12_load_44 : decode cX12_load 44 = .ok (.iaload, 1) := by decide +kernel
theorem dX12_load_45 : decode cX12_load 45 = .ok (.if_icmp .ge 47, 3) := by decide +kernel
theorem dX12_load_48 : decode cX12_load 48 = .ok (.iload_n 2, 1) := by decide +kernel
theorem dX12_load_49 : decode cX12_load 49 = .ok (.aload_n 0, 1) := by decide +kernel
theorem dX12_load_50 : decode cX12_load 50 = .ok (.getfield 41, 3) := by decide +kernel
theorem dX12_load_53 : decode cX12_load 53 = .ok (.bipush 6, 2) := by decide +kernel
theorem dX12_load_55 : decode cX12_load 55 = .ok (.iload 4, 2) := by decide +kernel
theorem dX12_load_57 : decode cX12_load 57 = .ok (.imul, 1) := by decide +kernel
theorem dX12_load_58 : decode cX12_load 58 = .ok (.iload_n 1, 1) := by decide +kernel
theorem dX12_load_59 : decode cX12_load 59 = .ok (.iadd, 1) := by decide +kernel
theorem dX12_load_60 : decode cX12_load 60 = .ok (.iaload, 1) := by decide +kernel
theorem dX12_load_61 : decode cX12_load 61 = .ok (.iadd, 1) := by decide +kernel
theorem dX12_load_62 : decode cX12_load 62 = .ok (.istore_n 2, 1) := by decide +kernel
theorem dX12_load_63 : decode cX12_load 63 = .ok (.iload_n 3, 1) := by decide +kernel
theorem dX12_load_64 : decode cX12_load 64 = .ok (.aload_n 0, 1) := by decide +kernel
theorem dX12_load_65 : decode cX12_load 65 = .ok (.getfield 22, 3) := by decide +kernel
theorem dX12_load_68 : decode cX12_load 68 = .ok (.bipush 6, 2) := by decide +kernel
theorem dX12_load_70 : decode cX12_load 70 = .ok (.iload 4, 2) := by decide +kernel
theorem dX12_load_72 : decode cX12_load 72 = .ok (.imul, 1) := by decide +kernel
theorem dX12_load_73 : decode cX12_load 73 = .ok (.iload_n 1, 1) := by decide +kernel
theorem dX12_load_74 : decode cX12_load 74 = .ok (.iadd, 1) := by decide +kernel
theorem dX12_load_75 : decode cX12_load 75 = .ok (.baload, 1) := by decide +kernel
theorem dX12_load_76 : decode cX12_load 76 = .ok (.ifCond .eq 7, 3) := by decide +kernel
theorem dX12_load_79 : decode cX12_load 79 = .ok (.iconst 1, 1) := by decide +kernel
theorem dX12_load_80 : decode cX12_load 80 = .ok (.goto 4, 3) := by decide +kernel
theorem dX12_load_83 : decode cX12_load 83 = .ok (.iconst 0, 1) := by decide +kernel
theorem dX12_load_84 : decode cX12_load 84 = .ok (.iadd, 1) := by decide +kernel
theorem dX12_load_85 : decode cX12_load 85 = .ok (.istore_n 3, 1) := by decide +kernel
theorem dX12_load_86 : decode cX12_load 86 = .ok (.iinc 4 1, 3) := by decide +kernel
theorem dX12_load_89 : decode cX12_load 89 = .ok (.goto (-52), 3) := by decide +kernel
theorem dX12_load_92 : decode cX12_load 92 = .ok (.aload_n 0, 1) := by decide +kernel
theorem dX12_load_93 : decode cX12_load 93 = .ok (.iload_n 3, 1) := by decide +kernel
theorem dX12_load_94 : decode cX12_load 94 = .ok (.ifCond .ne 7, 3) := by decide +kernel
theorem dX12_load_97 : decode cX12_load 97 = .ok (.iconst 2, 1) := by decide +kernel
theorem dX12_load_98 : decode cX12_load 98 = .ok (.goto 4, 3) := by decide +kernel
theorem dX12_load_101 : decode cX12_load 101 = .ok (.iconst 0, 1) := by decide +kernel
theorem dX12_load_102 : decode cX12_load 102 = .ok (.putfield 89, 3) := by decide +kernel
theorem dX12_load_105 : decode cX12_load 105 = .ok (.aload_n 0, 1) := by decide +kernel
theorem dX12_load_106 : decode cX12_load 106 = .ok (.getfield 89, 3) := by decide +kernel
theorem dX12_load_109 : decode cX12_load 109 = .ok (.ifCond .le 7, 3) := by decide +kernel
theorem dX12_load_112 : decode cX12_load 112 = .ok (.fconst 0, 1) := by decide +kernel
theorem dX12_load_113 : decode cX12_load 113 = .ok (.goto 16, 3) := by decide +kernel
theorem dX12_load_116 : decode cX12_load 116 = .ok (.iload_n 2, 1) := by decide +kernel
theorem dX12_load_117 : decode cX12_load 117 = .ok (.i2f, 1) := by decide +kernel
theorem dX12_load_118 : decode cX12_load 118 = .ok (.aload_n 0, 1) := by decide +kernel
theorem dX12_load_119 : decode cX12_load 119 = .ok (.iload_n 1, 1) := by decide +kernel
theorem dX12_load_120 : decode cX12_load 120 = .ok (.bipush 10, 2) := by decide +kernel
theorem dX12_load_122 : decode cX12_load 122 = .ok (.invokevirtual 128, 3) := by decide +kernel
theorem dX12_load_125 : decode cX12_load 125 = .ok (.iload_n 3, 1) := by decide +kernel
theorem dX12_load_126 : decode cX12_load 126 = .ok (.imul, 1) := by decide +kernel
theorem dX12_load_127 : decode cX12_load 127 = .ok (.i2f, 1) := by decide +kernel
theorem dX12_load_128 : decode cX12_load 128 = .ok (.fdiv, 1) := by decide +kernel
theorem dX12_load_129 : decode cX12_load 129 = .ok (.freturn, 1) := by decide +kernel
def LX12_load_129 (Q : Option Value → az_M → Prop) : az_T := (s_rf Q)
theorem okLX12_load_129 {X : az_X} {Q : Option Value → az_M → Prop} (C : az_C X cX12_load 5 RX12 (az_ts yX12_load cX12_load 5 (some .float)) ({ frames := 8, cells := 0, slots := 0, locals := 257 } : Room) (some .float) Q) : az_ok X 129 (LX12_load_129 Q) := by
  have h129 := az_freturn C rfl dX12_load_129
  exact h129
def LX12_load_102 (Q : Option Value → az_M → Prop) : az_T := (s_pi 13 5 (s_la 0 (s_gi 13 5 (s_if c_le (s_li 2 (s_i2f (s_la 0 (s_li 1 (s_ic (nI 10) (s_cv 2 13 FX12_of (s_li 3 (s_bin f_mul (s_i2f (s_fdiv (s_kp [false, false, false, false, false] (LX12_load_129 Q)))))))))))) (s_fc0 (s_kp [false, false, false, false, false] (LX12_load_129 Q)))))))
theorem okLX12_load_102 {X : az_X} {Q : Option Value → az_M → Prop} (C : az_C X cX12_load 5 RX12 (az_ts yX12_load cX12_load 5 (some .float)) ({ frames := 8, cells := 0, slots := 0, locals := 257 } : Room) (some .float) Q) : az_ok X 102 (LX12_load_102 Q) := by
  have h128 := az_fdiv C dX12_load_128 (az_keep [false, false, false, false, false] (okLX12_load_129 C))
  have h127 := az_i2f C dX12_load_127 h128
  have h126 := az_imul C dX12_load_126 h127
  have h125 := az_iload_n C 3 rfl dX12_load_125 h126
  have h122 := az_callV (ci := 13) C okX12_of knX12_of imX12_of seX12_of mLRX12_128 rfl (by decide) ⟨rfl, rfl, by decide, by decide⟩ dX12_load_122 h125
  have h120 := az_bipush (x := (nI 10)) C dX12_load_120 (by decide +kernel) h122
  have h119 := az_iload_n C 1 rfl dX12_load_119 h120
  have h118 := az_aload_n C 0 rfl dX12_load_118 h119
  have h117 := az_i2f C dX12_load_117 h118
  have h116 := az_iload_n C 2 rfl dX12_load_116 h117
  have h113 := az_goto (tgt := 129) C dX12_load_113 (by decide) (az_keep [false, false, false, false, false] (okLX12_load_129 C))
  have h112 := az_fconst0 C dX12_load_112 h113
  have h109 := az_if_le (tgt := 116) C dX12_load_109 (by decide) h116 h112
  have h106 := az_getI (T := TX12) (N := 33) (j := 5) C gwRX12 rfl (by decide) (by decide) iIRX12_5 mFRX12_89 rfl dX12_load_106 h109
  have h105 := az_aload_n C 0 rfl dX12_load_105 h106
  have h102 := az_putI (T := TX12) (N := 33) (j := 5) C gwRX12 rfl (by decide) (by decide) tyX12 tyX12_ok nmX12 iIRX12_5 (by decide +kernel) rfl mFRX12_89 rfl dX12_load_102 h105
  exact h102
def LX12_load_84 (Q : Option Value → az_M → Prop) (Z37 : az_T) : az_T := (s_bin f_add (s_si 3 (s_inc 4 (nI 1) (s_kp [true, true, true, true, true] Z37))))
theorem okLX12_load_84 {X : az_X} {Q : Option Value → az_M → Prop} (C : az_C X cX12_load 5 RX12 (az_ts yX12_load cX12_load 5 (some .float)) ({ frames := 8, cells := 0, slots := 0, locals := 257 } : Room) (some .float) Q) {Z37 : az_T} (hZ37 : az_ok X 37 Z37) : az_ok X 84 (LX12_load_84 Q Z37) := by
  have h89 := az_goto (tgt := 37) C dX12_load_89 (by decide) (az_keep [true, true, true, true, true] hZ37)
  have h86 := az_iinc (v := (nI 1)) C (by decide) (by decide +kernel) dX12_load_86 h89
  have h85 := az_istore_n C 3 rfl (by decide) dX12_load_85 h86
  have h84 := az_iadd C dX12_load_84 h85
  exact h84
def BX12_load_37 (Q : Option Value → az_M → Prop) (Z37 : az_T) : az_T := (s_li 4 (s_la 0 (s_gr 13 0 (s_ic (nI 0) (s_al 20 (s_if2 d_ge (s_la 0 (s_li 3 (s_if c_ne (s_ic (nI 0) (s_kp [true, true, true, true, false] (LX12_load_102 Q))) (s_ic (nI 2) (s_kp [true, true, true, true, false] (LX12_load_102 Q)))))) (s_li 2 (s_la 0 (s_gr 13 14 (s_ic (nI 6) (s_li 4 (s_bin f_mul (s_li 1 (s_bin f_add (s_al 20 (s_bin f_add (s_si 2 (s_li 3 (s_la 0 (s_gr 13 8 (s_ic (nI 6) (s_li 4 (s_bin f_mul (s_li 1 (s_bin f_add (s_al 21 (s_if c_eq (s_ic (nI 0) (s_kp [true, true, true, false, true] (LX12_load_84 Q Z37))) (s_ic (nI 1) (s_kp [true, true, true, false, true] (LX12_load_84 Q Z37))))))))))))))))))))))))))))))
theorem okBX12_load_37 {X : az_X} {Q : Option Value → az_M → Prop} (C : az_C X cX12_load 5 RX12 (az_ts yX12_load cX12_load 5 (some .float)) ({ frames := 8, cells := 0, slots := 0, locals := 257 } : Room) (some .float) Q) {Z37 : az_T} (hZ37 : az_ok X 37 Z37) : az_ok X 37 (BX12_load_37 Q Z37) := by
  have h101 := az_iconst (x := (nI 0)) C dX12_load_101 (by decide +kernel) (az_keep [true, true, true, true, false] (okLX12_load_102 C))
  have h98 := az_goto (tgt := 102) C dX12_load_98 (by decide) (az_keep [true, true, true, true, false] (okLX12_load_102 C))
  have h97 := az_iconst (x := (nI 2)) C dX12_load_97 (by decide +kernel) h98
  have h94 := az_if_ne (tgt := 101) C dX12_load_94 (by decide) h101 h97
  have h93 := az_iload_n C 3 rfl dX12_load_93 h94
  have h92 := az_aload_n C 0 rfl dX12_load_92 h93
  have h83 := az_iconst (x := (nI 0)) C dX12_load_83 (by decide +kernel) (az_keep [true, true, true, false, true] (okLX12_load_84 C hZ37))
  have h80 := az_goto (tgt := 84) C dX12_load_80 (by decide) (az_keep [true, true, true, false, true] (okLX12_load_84 C hZ37))
  have h79 := az_iconst (x := (nI 1)) C dX12_load_79 (by decide +kernel) h80
  have h76 := az_if_eq (tgt := 83) C dX12_load_76 (by decide) h83 h79
  have h75 := az_zald C dX12_load_75 h76
  have h74 := az_iadd C dX12_load_74 h75
  have h73 := az_iload_n C 1 rfl dX12_load_73 h74
  have h72 := az_imul C dX12_load_72 h73
  have h70 := az_iload C dX12_load_70 h72
  have h68 := az_bipush (x := (nI 6)) C dX12_load_68 (by decide +kernel) h70
  have h65 := az_getR (T := TX12) (N := 33) (j := 8) C gwRX12 rfl (by decide) (by decide) iIRX12_8 mFRX12_22 rfl dX12_load_65 h68
  have h64 := az_aload_n C 0 rfl dX12_load_64 h65
  have h63 := az_iload_n C 3 rfl dX12_load_63 h64
  have h62 := az_istore_n C 2 rfl (by decide) dX12_load_62 h63
  have h61 := az_iadd C dX12_load_61 h62
  have h60 := az_iald C dX12_load_60 h61
  have h59 := az_iadd C dX12_load_59 h60
  have h58 := az_iload_n C 1 rfl dX12_load_58 h59
  have h57 := az_imul C dX12_load_57 h58
  have h55 := az_iload C dX12_load_55 h57
  have h53 := az_bipush (x := (nI 6)) C dX12_load_53 (by decide +kernel) h55
  have h50 := az_getR (T := TX12) (N := 33) (j := 14) C gwRX12 rfl (by decide) (by decide) iIRX12_14 mFRX12_41 rfl dX12_load_50 h53
  have h49 := az_aload_n C 0 rfl dX12_load_49 h50
  have h48 := az_iload_n C 2 rfl dX12_load_48 h49
  have h45 := az_icmp_ge (tgt := 92) C dX12_load_45 (by decide) h92 h48
  have h44 := az_iald C dX12_load_44 h45
  have h43 := az_iconst (x := (nI 0)) C dX12_load_43 (by decide +kernel) h44
  have h40 := az_getR (T := TX12) (N := 33) (j := 0) C gwRX12 rfl (by decide) (by decide) iIRX12_0 mFRX12_9 rfl dX12_load_40 h43
  have h39 := az_aload_n C 0 rfl dX12_load_39 h40
  have h37 := az_iload C dX12_load_37 h39
  exact h37
def LX12_load_37 (Q : Option Value → az_M → Prop) : az_T := s_lp (fun Z => BX12_load_37 Q Z)
theorem okLX12_load_37 {X : az_X} {Q : Option Value → az_M → Prop} (C : az_C X cX12_load 5 RX12 (az_ts yX12_load cX12_load 5 (some .float)) ({ frames := 8, cells := 0, slots := 0, locals := 257 } : Room) (some .float) Q) : az_ok X 37 (LX12_load_37 Q) := az_loop (F := fun Z => BX12_load_37 Q Z) (fun _ hZ => okBX12_load_37 C hZ)
def LX12_load_14 (Q : Option Value → az_M → Prop) : az_T := (s_pi 13 5 (s_la 0 (s_gi 13 5 (s_if c_le (s_la 0 (s_cv 0 13 FX12_know (s_ic (nI 0) (s_si 2 (s_ic (nI 0) (s_si 3 (s_ic (nI 0) (s_si 4 (s_kp [true, true, true, true, true] (LX12_load_37 Q)))))))))) (s_fc0 (s_rf Q))))))
theorem okLX12_load_14 {X : az_X} {Q : Option Value → az_M → Prop} (C : az_C X cX12_load 5 RX12 (az_ts yX12_load cX12_load 5 (some .float)) ({ frames := 8, cells := 0, slots := 0, locals := 257 } : Room) (some .float) Q) : az_ok X 14 (LX12_load_14 Q) := by
  have h35 := az_istore C (by decide) dX12_load_35 (az_keep [true, true, true, true, true] (okLX12_load_37 C))
  have h34 := az_iconst (x := (nI 0)) C dX12_load_34 (by decide +kernel) h35
  have h33 := az_istore_n C 3 rfl (by decide) dX12_load_33 h34
  have h32 := az_iconst (x := (nI 0)) C dX12_load_32 (by decide +kernel) h33
  have h31 := az_istore_n C 2 rfl (by decide) dX12_load_31 h32
  have h30 := az_iconst (x := (nI 0)) C dX12_load_30 (by decide +kernel) h31
  have h27 := az_callV (ci := 13) C okX12_know knX12_know imX12_know seX12_know mLRX12_137 rfl (by decide) ⟨rfl, rfl, by decide, by decide⟩ dX12_load_27 h30
  have h26 := az_aload_n C 0 rfl dX12_load_26 h27
  have h25 := az_freturn C rfl dX12_load_25
  have h24 := az_fconst0 C dX12_load_24 h25
  have h21 := az_if_le (tgt := 26) C dX12_load_21 (by decide) h26 h24
  have h18 := az_getI (T := TX12) (N := 33) (j := 5) C gwRX12 rfl (by decide) (by decide) iIRX12_5 mFRX12_89 rfl dX12_load_18 h21
  have h17 := az_aload_n C 0 rfl dX12_load_17 h18
  have h14 := az_putI (T := TX12) (N := 33) (j := 5) C gwRX12 rfl (by decide) (by decide) tyX12 tyX12_ok nmX12 iIRX12_5 (by decide +kernel) rfl mFRX12_89 rfl dX12_load_14 h17
  exact h14
def PX12_load (Q : Option Value → az_M → Prop) : az_T := (s_la 0 (s_la 0 (s_li 1 (s_cv 1 13 FX12_isUnit (s_if c_eq (s_ic (nI 1) (s_kp [true, true, false, false, false] (LX12_load_14 Q))) (s_ic (nI 0) (s_kp [true, true, false, false, false] (LX12_load_14 Q))))))))
def FX12_load : az_F := az_fun [true, false] 5 PX12_load
theorem okX12_load (l : Launch) : az_met l yX12_load cX12_load 5 (some .float) ({ frames := 8, cells := 0, slots := 0, locals := 257 } : Room) FX12_load := az_met_of (own := RX12) (by decide +kernel) rfl (by decide) (fun X Q C => by
  have h13 := az_iconst (x := (nI 1)) C dX12_load_13 (by decide +kernel) (az_keep [true, true, false, false, false] (okLX12_load_14 C))
  have h10 := az_goto (tgt := 14) C dX12_load_10 (by decide) (az_keep [true, true, false, false, false] (okLX12_load_14 C))
  have h9 := az_iconst (x := (nI 0)) C dX12_load_9 (by decide +kernel) h10
  have h6 := az_if_eq (tgt := 13) C dX12_load_6 (by decide) h13 h9
  have h3 := az_callV (ci := 13) C okX12_isUnit knX12_isUnit imX12_isUnit seX12_isUnit mLRX12_131 rfl (by decide) ⟨rfl, rfl, by decide, by decide⟩ dX12_load_3 h6
  have h2 := az_iload_n C 1 rfl dX12_load_2 h3
  have h1 := az_aload_n C 0 rfl dX12_load_1 h2
  have h0 := az_aload_n C 0 rfl dX12_load_0 h1
  exact h0) l
