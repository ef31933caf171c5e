/-! by program (wip/whole/run_gen.py): decode rows, predicates and contracts of 27 methods -/
theorem dL_size_0 : decode cL_size 0 = .ok (.aload_n 3, 1) := by decide +kernel
theorem dL_size_1 : decode cL_size 1 = .ok (.iconst 0, 1) := by decide +kernel
theorem dL_size_2 : decode cL_size 2 = .ok (.aload_n 0, 1) := by decide +kernel
theorem dL_size_3 : decode cL_size 3 = .ok (.iload_n 1, 1) := by decide +kernel
theorem dL_size_4 : decode cL_size 4 = .ok (.iload_n 2, 1) := by decide +kernel
theorem dL_size_5 : decode cL_size 5 = .ok (.invokevirtual 7, 3) := by decide +kernel
theorem dL_size_8 : decode cL_size 8 = .ok (.i2l, 1) := by decide +kernel
theorem dL_size_9 : decode cL_size 9 = .ok (.lastore, 1) := by decide +kernel
theorem dL_size_10 : decode cL_size 10 = .ok (.goto 7, 3) := by decide +kernel
theorem dL_size_13 : decode cL_size 13 = .ok (.astore 4, 2) := by decide +kernel
theorem dL_size_15 : decode cL_size 15 = .ok (.iconst 1, 1) := by decide +kernel
theorem dL_size_16 : decode cL_size 16 = .ok (.ireturn, 1) := by decide +kernel
theorem dL_size_17 : decode cL_size 17 = .ok (.iconst 0, 1) := by decide +kernel
theorem dL_size_18 : decode cL_size 18 = .ok (.ireturn, 1) := by decide +kernel
theorem hdL_size : az_hd cL_size 5 RL 5 [(0, 10, 13, 13)] ["java/lang/IllegalArgumentException"] := ⟨rfl, fun i q n hq hn => match i, hq, hn with | 0, hq, hn => by cases hq; cases hn; exact ⟨by decide, by decide, thkRL_13, thc_IllegalArgumentException, ⟨4, 2, by decide, Or.inl ⟨rfl, dL_size_13⟩, dL_size_15, by decide +kernel, dL_size_16⟩⟩ | k + 1, hq, hn => by simp at hq⟩
def PL_size (Q : Option Value → az_M → Prop) : az_T := (s_la 3 (s_ic (nI 0) (s_la 0 (s_li 1 (s_li 2 (s_cvX 2 12 FX11_size ["java/lang/IllegalArgumentException"] Q (s_i2l (s_lst (s_ic (nI 0) (s_ri Q))))))))))
def FL_size : az_F := az_fun [true, false, false, true] 5 PL_size
theorem okL_size (l : Launch) (hlt : l.stackTraces = false) : az_metW l yL_size cL_size 5 (some .int) [(0, 10, 13, 13)] ["java/lang/IllegalArgumentException"] ({ frames := 8, cells := 1, slots := 6, locals := 147 } : Room) FL_size := az_metW_of (own := RL) (by decide +kernel) rfl (by decide) (fun X Q C CW => by
  have h18 := az_ireturn C rfl dL_size_18
  have h17 := az_iconst (x := (nI 0)) C dL_size_17 (by decide +kernel) h18
  have h10 := az_goto (tgt := 17) C dL_size_10 (by decide) h17
  have h9 := az_last C dL_size_9 h10
  have h8 := az_i2l C dL_size_8 h9
  have h5 := az_tryV (ci := 12) C CW rfl okX11_size knX11_size imX11_size seX11_size mLRL_7 rfl (by decide) ⟨rfl, rfl, by decide, by decide⟩ ⟨rfl, rfl⟩ hdL_size dL_size_5 h8
  have h4 := az_iload_n C 2 rfl dL_size_4 h5
  have h3 := az_iload_n C 1 rfl dL_size_3 h4
  have h2 := az_aload_n C 0 rfl dL_size_2 h3
  have h1 := az_iconst (x := (nI 0)) C dL_size_1 (by decide +kernel) h2
  have h0 := az_aload_n C 3 rfl dL_size_0 h1
  exact h0) l hlt
theorem dL_setDemand_0 : decode cL_setDemand 0 = .ok (.aload 4, 2) := by decide +kernel
theorem dL_setDemand_2 : decode cL_setDemand 2 = .ok (.iconst 0, 1) := by decide +kernel
theorem dL_setDemand_3 : decode cL_setDemand 3 = .ok (.aload_n 0, 1) := by decide +kernel
theorem dL_setDemand_4 : decode cL_setDemand 4 = .ok (.iload_n 1, 1) := by decide +kernel
theorem dL_setDemand_5 : decode cL_setDemand 5 = .ok (.iload_n 2, 1) := by decide +kernel
theorem dL_setDemand_6 : decode cL_setDemand 6 = .ok (.iload_n 3, 1) := by decide +kernel
theorem dL_setDemand_7 : decode cL_setDemand 7 = .ok (.invokevirtual 15, 3) := by decide +kernel
theorem dL_setDemand_10 : decode cL_setDemand 10 = .ok (.i2l, 1) := by decide +kernel
theorem dL_setDemand_11 : decode cL_setDemand 11 = .ok (.lastore, 1) := by decide +kernel
theorem dL_setDemand_12 : decode cL_setDemand 12 = .ok (.goto 11, 3) := by decide +kernel
theorem dL_setDemand_15 : decode cL_setDemand 15 = .ok (.astore 5, 2) := by decide +kernel
theorem dL_setDemand_17 : decode cL_setDemand 17 = .ok (.iconst 1, 1) := by decide +kernel
theorem dL_setDemand_18 : decode cL_setDemand 18 = .ok (.ireturn, 1) := by decide +kernel
theorem dL_setDemand_19 : decode cL_setDemand 19 = .ok (.astore 5, 2) := by decide +kernel
theorem dL_setDemand_21 : decode cL_setDemand 21 = .ok (.iconst 2, 1) := by decide +kernel
theorem dL_setDemand_22 : decode cL_setDemand 22 = .ok (.ireturn, 1) := by decide +kernel
theorem dL_setDemand_23 : decode cL_setDemand 23 = .ok (.iconst 0, 1) := by decide +kernel
theorem dL_setDemand_24 : decode cL_setDemand 24 = .ok (.ireturn, 1) := by decide +kernel
theorem hdL_setDemand : az_hd cL_setDemand 6 RL 7 [(0, 12, 15, 19), (0, 12, 19, 13)] ["java/lang/IndexOutOfBoundsException", "java/lang/IllegalArgumentException"] := ⟨rfl, fun i q n hq hn => match i, hq, hn with | 0, hq, hn => by cases hq; cases hn; exact ⟨by decide, by decide, thkRL_19, thc_IndexOutOfBoundsException, ⟨5, 2, by decide, Or.inl ⟨rfl, dL_setDemand_15⟩, dL_setDemand_17, by decide +kernel, dL_setDemand_18⟩⟩ | 1, hq, hn => by cases hq; cases hn; exact ⟨by decide, by decide, thkRL_13, thc_IllegalArgumentException, ⟨5, 2, by decide, Or.inl ⟨rfl, dL_setDemand_19⟩, dL_setDemand_21, by decide +kernel, dL_setDemand_22⟩⟩ | k + 2, hq, hn => by simp at hq⟩
def PL_setDemand (Q : Option Value → az_M → Prop) : az_T := (s_la 4 (s_ic (nI 0) (s_la 0 (s_li 1 (s_li 2 (s_li 3 (s_cvX 3 12 FX11_setDemand ["java/lang/IndexOutOfBoundsException", "java/lang/IllegalArgumentException"] Q (s_i2l (s_lst (s_ic (nI 0) (s_ri Q)))))))))))
def FL_setDemand : az_F := az_fun [true, false, false, false, true] 6 PL_setDemand
theorem okL_setDemand (l : Launch) (hlt : l.stackTraces = false) : az_metW l yL_setDemand cL_setDemand 6 (some .int) [(0, 12, 15, 19), (0, 12, 19, 13)] ["java/lang/IndexOutOfBoundsException", "java/lang/IllegalArgumentException"] ({ frames := 8, cells := 1, slots := 6, locals := 187 } : Room) FL_setDemand := az_metW_of (own := RL) (by decide +kernel) rfl (by decide) (fun X Q C CW => by
  have h24 := az_ireturn C rfl dL_setDemand_24
  have h23 := az_iconst (x := (nI 0)) C dL_setDemand_23 (by decide +kernel) h24
  have h12 := az_goto (tgt := 23) C dL_setDemand_12 (by decide) h23
  have h11 := az_last C dL_setDemand_11 h12
  have h10 := az_i2l C dL_setDemand_10 h11
  have h7 := az_tryV (ci := 12) C CW rfl okX11_setDemand knX11_setDemand imX11_setDemand seX11_setDemand mLRL_15 rfl (by decide) ⟨rfl, rfl, by decide, by decide⟩ ⟨rfl, rfl⟩ hdL_setDemand dL_setDemand_7 h10
  have h6 := az_iload_n C 3 rfl dL_setDemand_6 h7
  have h5 := az_iload_n C 2 rfl dL_setDemand_5 h6
  have h4 := az_iload_n C 1 rfl dL_setDemand_4 h5
  have h3 := az_aload_n C 0 rfl dL_setDemand_3 h4
  have h2 := az_iconst (x := (nI 0)) C dL_setDemand_2 (by decide +kernel) h3
  have h0 := az_aload C dL_setDemand_0 h2
  exact h0) l hlt
theorem dL_setReserve_0 : decode cL_setReserve 0 = .ok (.aload_n 3, 1) := by decide +kernel
theorem dL_setReserve_1 : decode cL_setReserve 1 = .ok (.iconst 0, 1) := by decide +kernel
theorem dL_setReserve_2 : decode cL_setReserve 2 = .ok (.aload_n 0, 1) := by decide +kernel
theorem dL_setReserve_3 : decode cL_setReserve 3 = .ok (.iload_n 1, 1) := by decide +kernel
theorem dL_setReserve_4 : decode cL_setReserve 4 = .ok (.iload_n 2, 1) := by decide +kernel
theorem dL_setReserve_5 : decode cL_setReserve 5 = .ok (.invokevirtual 21, 3) := by decide +kernel
theorem dL_setReserve_8 : decode cL_setReserve 8 = .ok (.i2l, 1) := by decide +kernel
theorem dL_setReserve_9 : decode cL_setReserve 9 = .ok (.lastore, 1) := by decide +kernel
theorem dL_setReserve_10 : decode cL_setReserve 10 = .ok (.goto 11, 3) := by decide +kernel
theorem dL_setReserve_13 : decode cL_setReserve 13 = .ok (.astore 4, 2) := by decide +kernel
theorem dL_setReserve_15 : decode cL_setReserve 15 = .ok (.iconst 1, 1) := by decide +kernel
theorem dL_setReserve_16 : decode cL_setReserve 16 = .ok (.ireturn, 1) := by decide +kernel
theorem dL_setReserve_17 : decode cL_setReserve 17 = .ok (.astore 4, 2) := by decide +kernel
theorem dL_setReserve_19 : decode cL_setReserve 19 = .ok (.iconst 2, 1) := by decide +kernel
theorem dL_setReserve_20 : decode cL_setReserve 20 = .ok (.ireturn, 1) := by decide +kernel
theorem dL_setReserve_21 : decode cL_setReserve 21 = .ok (.iconst 0, 1) := by decide +kernel
theorem dL_setReserve_22 : decode cL_setReserve 22 = .ok (.ireturn, 1) := by decide +kernel
theorem hdL_setReserve : az_hd cL_setReserve 5 RL 5 [(0, 10, 13, 19), (0, 10, 17, 13)] ["java/lang/IndexOutOfBoundsException", "java/lang/IllegalArgumentException"] := ⟨rfl, fun i q n hq hn => match i, hq, hn with | 0, hq, hn => by cases hq; cases hn; exact ⟨by decide, by decide, thkRL_19, thc_IndexOutOfBoundsException, ⟨4, 2, by decide, Or.inl ⟨rfl, dL_setReserve_13⟩, dL_setReserve_15, by decide +kernel, dL_setReserve_16⟩⟩ | 1, hq, hn => by cases hq; cases hn; exact ⟨by decide, by decide, thkRL_13, thc_IllegalArgumentException, ⟨4, 2, by decide, Or.inl ⟨rfl, dL_setReserve_17⟩, dL_setReserve_19, by decide +kernel, dL_setReserve_20⟩⟩ | k + 2, hq, hn => by simp at hq⟩
def PL_setReserve (Q : Option Value → az_M → Prop) : az_T := (s_la 3 (s_ic (nI 0) (s_la 0 (s_li 1 (s_li 2 (s_cvX 2 12 FX11_setReserve ["java/lang/IndexOutOfBoundsException", "java/lang/IllegalArgumentException"] Q (s_i2l (s_lst (s_ic (nI 0) (s_ri Q))))))))))
def FL_setReserve : az_F := az_fun [true, false, false, true] 5 PL_setReserve
theorem okL_setReserve (l : Launch) (hlt : l.stackTraces = false) : az_metW l yL_setReserve cL_setReserve 5 (some .int) [(0, 10, 13, 19), (0, 10, 17, 13)] ["java/lang/IndexOutOfBoundsException", "java/lang/IllegalArgumentException"] ({ frames := 8, cells := 1, slots := 6, locals := 186 } : Room) FL_setReserve := az_metW_of (own := RL) (by decide +kernel) rfl (by decide) (fun X Q C CW => by
  have h22 := az_ireturn C rfl dL_setReserve_22
  have h21 := az_iconst (x := (nI 0)) C dL_setReserve_21 (by decide +kernel) h22
  have h10 := az_goto (tgt := 21) C dL_setReserve_10 (by decide) h21
  have h9 := az_last C dL_setReserve_9 h10
  have h8 := az_i2l C dL_setReserve_8 h9
  have h5 := az_tryV (ci := 12) C CW rfl okX11_setReserve knX11_setReserve imX11_setReserve seX11_setReserve mLRL_21 rfl (by decide) ⟨rfl, rfl, by decide, by decide⟩ ⟨rfl, rfl⟩ hdL_setReserve dL_setReserve_5 h8
  have h4 := az_iload_n C 2 rfl dL_setReserve_4 h5
  have h3 := az_iload_n C 1 rfl dL_setReserve_3 h4
  have h2 := az_aload_n C 0 rfl dL_setReserve_2 h3
  have h1 := az_iconst (x := (nI 0)) C dL_setReserve_1 (by decide +kernel) h2
  have h0 := az_aload_n C 3 rfl dL_setReserve_0 h1
  exact h0) l hlt
theorem dL_setLine_0 : decode cL_setLine 0 = .ok (.aload 4, 2) := by decide +kernel
theorem dL_setLine_2 : decode cL_setLine 2 = .ok (.iconst 0, 1) := by decide +kernel
theorem dL_setLine_3 : decode cL_setLine 3 = .ok (.aload_n 0, 1) := by decide +kernel
theorem dL_setLine_4 : decode cL_setLine 4 = .ok (.iload_n 1, 1) := by decide +kernel
theorem dL_setLine_5 : decode cL_setLine 5 = .ok (.iload_n 2, 1) := by decide +kernel
theorem dL_setLine_6 : decode cL_setLine 6 = .ok (.iload_n 3, 1) := by decide +kernel
theorem dL_setLine_7 : decode cL_setLine 7 = .ok (.invokevirtual 24, 3) := by decide +kernel
theorem dL_setLine_10 : decode cL_setLine 10 = .ok (.i2l, 1) := by decide +kernel
theorem dL_setLine_11 : decode cL_setLine 11 = .ok (.lastore, 1) := by decide +kernel
theorem dL_setLine_12 : decode cL_setLine 12 = .ok (.goto 11, 3) := by decide +kernel
theorem dL_setLine_15 : decode cL_setLine 15 = .ok (.astore 5, 2) := by decide +kernel
theorem dL_setLine_17 : decode cL_setLine 17 = .ok (.iconst 1, 1) := by decide +kernel
theorem dL_setLine_18 : decode cL_setLine 18 = .ok (.ireturn, 1) := by decide +kernel
theorem dL_setLine_19 : decode cL_setLine 19 = .ok (.astore 5, 2) := by decide +kernel
theorem dL_setLine_21 : decode cL_setLine 21 = .ok (.iconst 2, 1) := by decide +kernel
theorem dL_setLine_22 : decode cL_setLine 22 = .ok (.ireturn, 1) := by decide +kernel
theorem dL_setLine_23 : decode cL_setLine 23 = .ok (.iconst 0, 1) := by decide +kernel
theorem dL_setLine_24 : decode cL_setLine 24 = .ok (.ireturn, 1) := by decide +kernel
theorem hdL_setLine : az_hd cL_setLine 6 RL 7 [(0, 12, 15, 19), (0, 12, 19, 13)] ["java/lang/IndexOutOfBoundsException", "java/lang/IllegalArgumentException"] := ⟨rfl, fun i q n hq hn => match i, hq, hn with | 0, hq, hn => by cases hq; cases hn; exact ⟨by decide, by decide, thkRL_19, thc_IndexOutOfBoundsException, ⟨5, 2, by decide, Or.inl ⟨rfl, dL_setLine_15⟩, dL_setLine_17, by decide +kernel, dL_setLine_18⟩⟩ | 1, hq, hn => by cases hq; cases hn; exact ⟨by decide, by decide, thkRL_13, thc_IllegalArgumentException, ⟨5, 2, by decide, Or.inl ⟨rfl, dL_setLine_19⟩, dL_setLine_21, by decide +kernel, dL_setLine_22⟩⟩ | k + 2, hq, hn => by simp at hq⟩
def PL_setLine (Q : Option Value → az_M → Prop) : az_T := (s_la 4 (s_ic (nI 0) (s_la 0 (s_li 1 (s_li 2 (s_li 3 (s_cvX 3 12 FX11_setLine ["java/lang/IndexOutOfBoundsException", "java/lang/IllegalArgumentException"] Q (s_i2l (s_lst (s_ic (nI 0) (s_ri Q)))))))))))
def FL_setLine : az_F := az_fun [true, false, false, false, true] 6 PL_setLine
theorem okL_setLine (l : Launch) (hlt : l.stackTraces = false) : az_metW l yL_setLine cL_setLine 6 (some .int) [(0, 12, 15, 19), (0, 12, 19, 13)] ["java/lang/IndexOutOfBoundsException", "java/lang/IllegalArgumentException"] ({ frames := 8, cells := 1, slots := 6, locals := 187 } : Room) FL_setLine := az_metW_of (own := RL) (by decide +kernel) rfl (by decide) (fun X Q C CW => by
  have h24 := az_ireturn C rfl dL_setLine_24
  have h23 := az_iconst (x := (nI 0)) C dL_setLine_23 (by decide +kernel) h24
  have h12 := az_goto (tgt := 23) C dL_setLine_12 (by decide) h23
  have h11 := az_last C dL_setLine_11 h12
  have h10 := az_i2l C dL_setLine_10 h11
  have h7 := az_tryV (ci := 12) C CW rfl okX11_setLine knX11_setLine imX11_setLine seX11_setLine mLRL_24 rfl (by decide) ⟨rfl, rfl, by decide, by decide⟩ ⟨rfl, rfl⟩ hdL_setLine dL_setLine_7 h10
  have h6 := az_iload_n C 3 rfl dL_setLine_6 h7
  have h5 := az_iload_n C 2 rfl dL_setLine_5 h6
  have h4 := az_iload_n C 1 rfl dL_setLine_4 h5
  have h3 := az_aload_n C 0 rfl dL_setLine_3 h4
  have h2 := az_iconst (x := (nI 0)) C dL_setLine_2 (by decide +kernel) h3
  have h0 := az_aload C dL_setLine_0 h2
  exact h0) l hlt
theorem dL_addUnit_0 : decode cL_addUnit 0 = .ok (.aload 6, 2) := by decide +kernel
theorem dL_addUnit_2 : decode cL_addUnit 2 = .ok (.iconst 0, 1) := by decide +kernel
theorem dL_addUnit_3 : decode cL_addUnit 3 = .ok (.aload_n 0, 1) := by decide +kernel
theorem dL_addUnit_4 : decode cL_addUnit 4 = .ok (.iload_n 1, 1) := by decide +kernel
theorem dL_addUnit_5 : decode cL_addUnit 5 = .ok (.iload_n 2, 1) := by decide +kernel
theorem dL_addUnit_6 : decode cL_addUnit 6 = .ok (.iload_n 3, 1) := by decide +kernel
theorem dL_addUnit_7 : decode cL_addUnit 7 = .ok (.iload 4, 2) := by decide +kernel
theorem dL_addUnit_9 : decode cL_addUnit 9 = .ok (.iload 5, 2) := by decide +kernel
theorem dL_addUnit_11 : decode cL_addUnit 11 = .ok (.invokevirtual 27, 3) := by decide +kernel
theorem dL_addUnit_14 : decode cL_addUnit 14 = .ok (.i2l, 1) := by decide +kernel
theorem dL_addUnit_15 : decode cL_addUnit 15 = .ok (.lastore, 1) := by decide +kernel
theorem dL_addUnit_16 : decode cL_addUnit 16 = .ok (.goto 15, 3) := by decide +kernel
theorem dL_addUnit_19 : decode cL_addUnit 19 = .ok (.astore 7, 2) := by decide +kernel
theorem dL_addUnit_21 : decode cL_addUnit 21 = .ok (.iconst 1, 1) := by decide +kernel
theorem dL_addUnit_22 : decode cL_addUnit 22 = .ok (.ireturn, 1) := by decide +kernel
theorem dL_addUnit_23 : decode cL_addUnit 23 = .ok (.astore 7, 2) := by decide +kernel
theorem dL_addUnit_25 : decode cL_addUnit 25 = .ok (.iconst 2, 1) := by decide +kernel
theorem dL_addUnit_26 : decode cL_addUnit 26 = .ok (.ireturn, 1) := by decide +kernel
theorem dL_addUnit_27 : decode cL_addUnit 27 = .ok (.astore 7, 2) := by decide +kernel
theorem dL_addUnit_29 : decode cL_addUnit 29 = .ok (.iconst 3, 1) := by decide +kernel
theorem dL_addUnit_30 : decode cL_addUnit 30 = .ok (.ireturn, 1) := by decide +kernel
theorem dL_addUnit_31 : decode cL_addUnit 31 = .ok (.iconst 0, 1) := by decide +kernel
theorem dL_addUnit_32 : decode cL_addUnit 32 = .ok (.ireturn, 1) := by decide +kernel
theorem hdL_addUnit : az_hd cL_addUnit 8 RL 11 [(0, 16, 19, 19), (0, 16, 23, 13), (0, 16, 27, 31)] ["java/lang/IndexOutOfBoundsException", "java/lang/IllegalArgumentException", "java/lang/IllegalStateException"] := ⟨rfl, fun i q n hq hn => match i, hq, hn with | 0, hq, hn => by cases hq; cases hn; exact ⟨by decide, by decide, thkRL_19, thc_IndexOutOfBoundsException, ⟨7, 2, by decide, Or.inl ⟨rfl, dL_addUnit_19⟩, dL_addUnit_21, by decide +kernel, dL_addUnit_22⟩⟩ | 1, hq, hn => by cases hq; cases hn; exact ⟨by decide, by decide, thkRL_13, thc_IllegalArgumentException, ⟨7, 2, by decide, Or.inl ⟨rfl, dL_addUnit_23⟩, dL_addUnit_25, by decide +kernel, dL_addUnit_26⟩⟩ | 2, hq, hn => by cases hq; cases hn; exact ⟨by decide, by decide, thkRL_31, thc_IllegalStateException, ⟨7, 2, by decide, Or.inl ⟨rfl, dL_addUnit_27⟩, dL_addUnit_29, by decide +kernel, dL_addUnit_30⟩⟩ | k + 3, hq, hn => by simp at hq⟩
def PL_addUnit (Q : Option Value → az_M → Prop) : az_T := (s_la 6 (s_ic (nI 0) (s_la 0 (s_li 1 (s_li 2 (s_li 3 (s_li 4 (s_li 5 (s_cvX 5 12 FX11_addUnit ["java/lang/IndexOutOfBoundsException", "java/lang/IllegalArgumentException", "java/lang/IllegalStateException"] Q (s_i2l (s_lst (s_ic (nI 0) (s_ri Q)))))))))))))
def FL_addUnit : az_F := az_fun [true, false, false, false, false, false, true] 8 PL_addUnit
theorem okL_addUnit (l : Launch) (hlt : l.stackTraces = false) : az_metW l yL_addUnit cL_addUnit 8 (some .int) [(0, 16, 19, 19), (0, 16, 23, 13), (0, 16, 27, 31)] ["java/lang/IndexOutOfBoundsException", "java/lang/IllegalArgumentException", "java/lang/IllegalStateException"] ({ frames := 8, cells := 1, slots := 6, locals := 189 } : Room) FL_addUnit := az_metW_of (own := RL) (by decide +kernel) rfl (by decide) (fun X Q C CW => by
  have h32 := az_ireturn C rfl dL_addUnit_32
  have h31 := az_iconst (x := (nI 0)) C dL_addUnit_31 (by decide +kernel) h32
  have h16 := az_goto (tgt := 31) C dL_addUnit_16 (by decide) h31
  have h15 := az_last C dL_addUnit_15 h16
  have h14 := az_i2l C dL_addUnit_14 h15
  have h11 := az_tryV (ci := 12) C CW rfl okX11_addUnit knX11_addUnit imX11_addUnit seX11_addUnit mLRL_27 rfl (by decide) ⟨rfl, rfl, by decide, by decide⟩ ⟨rfl, rfl⟩ hdL_addUnit dL_addUnit_11 h14
  have h9 := az_iload C dL_addUnit_9 h11
  have h7 := az_iload C dL_addUnit_7 h9
  have h6 := az_iload_n C 3 rfl dL_addUnit_6 h7
  have h5 := az_iload_n C 2 rfl dL_addUnit_5 h6
  have h4 := az_iload_n C 1 rfl dL_addUnit_4 h5
  have h3 := az_aload_n C 0 rfl dL_addUnit_3 h4
  have h2 := az_iconst (x := (nI 0)) C dL_addUnit_2 (by decide +kernel) h3
  have h0 := az_aload C dL_addUnit_0 h2
  exact h0) l hlt
theorem dL_setUnit_0 : decode cL_setUnit 0 = .ok (.aload 4, 2) := by decide +kernel
theorem dL_setUnit_2 : decode cL_setUnit 2 = .ok (.iconst 0, 1) := by decide +kernel
theorem dL_setUnit_3 : decode cL_setUnit 3 = .ok (.aload_n 0, 1) := by decide +kernel
theorem dL_setUnit_4 : decode cL_setUnit 4 = .ok (.iload_n 1, 1) := by decide +kernel
theorem dL_setUnit_5 : decode cL_setUnit 5 = .ok (.iload_n 2, 1) := by decide +kernel
theorem dL_setUnit_6 : decode cL_setUnit 6 = .ok (.iload_n 3, 1) := by decide +kernel
theorem dL_setUnit_7 : decode cL_setUnit 7 = .ok (.invokevirtual 33, 3) := by decide +kernel
theorem dL_setUnit_10 : decode cL_setUnit 10 = .ok (.i2l, 1) := by decide +kernel
theorem dL_setUnit_11 : decode cL_setUnit 11 = .ok (.lastore, 1) := by decide +kernel
theorem dL_setUnit_12 : decode cL_setUnit 12 = .ok (.goto 11, 3) := by decide +kernel
theorem dL_setUnit_15 : decode cL_setUnit 15 = .ok (.astore 5, 2) := by decide +kernel
theorem dL_setUnit_17 : decode cL_setUnit 17 = .ok (.iconst 1, 1) := by decide +kernel
theorem dL_setUnit_18 : decode cL_setUnit 18 = .ok (.ireturn, 1) := by decide +kernel
theorem dL_setUnit_19 : decode cL_setUnit 19 = .ok (.astore 5, 2) := by decide +kernel
theorem dL_setUnit_21 : decode cL_setUnit 21 = .ok (.iconst 2, 1) := by decide +kernel
theorem dL_setUnit_22 : decode cL_setUnit 22 = .ok (.ireturn, 1) := by decide +kernel
theorem dL_setUnit_23 : decode cL_setUnit 23 = .ok (.iconst 0, 1) := by decide +kernel
theorem dL_setUnit_24 : decode cL_setUnit 24 = .ok (.ireturn, 1) := by decide +kernel
theorem hdL_setUnit : az_hd cL_setUnit 6 RL 7 [(0, 12, 15, 19), (0, 12, 19, 13)] ["java/lang/IndexOutOfBoundsException", "java/lang/IllegalArgumentException"] := ⟨rfl, fun i q n hq hn => match i, hq, hn with | 0, hq, hn => by cases hq; cases hn; exact ⟨by decide, by decide, thkRL_19, thc_IndexOutOfBoundsException, ⟨5, 2, by decide, Or.inl ⟨rfl, dL_setUnit_15⟩, dL_setUnit_17, by decide +kernel, dL_setUnit_18⟩⟩ | 1, hq, hn => by cases hq; cases hn; exact ⟨by decide, by decide, thkRL_13, thc_IllegalArgumentException, ⟨5, 2, by decide, Or.inl ⟨rfl, dL_setUnit_19⟩, dL_setUnit_21, by decide +kernel, dL_setUnit_22⟩⟩ | k + 2, hq, hn => by simp at hq⟩
def PL_setUnit (Q : Option Value → az_M → Prop) : az_T := (s_la 4 (s_ic (nI 0) (s_la 0 (s_li 1 (s_li 2 (s_li 3 (s_cvX 3 12 FX11_setUnit ["java/lang/IndexOutOfBoundsException", "java/lang/IllegalArgumentException"] Q (s_i2l (s_lst (s_ic (nI 0) (s_ri Q)))))))))))
def FL_setUnit : az_F := az_fun [true, false, false, false, true] 6 PL_setUnit
theorem okL_setUnit (l : Launch) (hlt : l.stackTraces = false) : az_metW l yL_setUnit cL_setUnit 6 (some .int) [(0, 12, 15, 19), (0, 12, 19, 13)] ["java/lang/IndexOutOfBoundsException", "java/lang/IllegalArgumentException"] ({ frames := 8, cells := 1, slots := 6, locals := 188 } : Room) FL_setUnit := az_metW_of (own := RL) (by decide +kernel) rfl (by decide) (fun X Q C CW => by
  have h24 := az_ireturn C rfl dL_setUnit_24
  have h23 := az_iconst (x := (nI 0)) C dL_setUnit_23 (by decide +kernel) h24
  have h12 := az_goto (tgt := 23) C dL_setUnit_12 (by decide) h23
  have h11 := az_last C dL_setUnit_11 h12
  have h10 := az_i2l C dL_setUnit_10 h11
  have h7 := az_tryV (ci := 12) C CW rfl okX11_setUnit knX11_setUnit imX11_setUnit seX11_setUnit mLRL_33 rfl (by decide) ⟨rfl, rfl, by decide, by decide⟩ ⟨rfl, rfl⟩ hdL_setUnit dL_setUnit_7 h10
  have h6 := az_iload_n C 3 rfl dL_setUnit_6 h7
  have h5 := az_iload_n C 2 rfl dL_setUnit_5 h6
  have h4 := az_iload_n C 1 rfl dL_setUnit_4 h5
  have h3 := az_aload_n C 0 rfl dL_setUnit_3 h4
  have h2 := az_iconst (x := (nI 0)) C dL_setUnit_2 (by decide +kernel) h3
  have h0 := az_aload C dL_setUnit_0 h2
  exact h0) l hlt
theorem dL_unit_0 : decode cL_unit 0 = .ok (.aload_n 3, 1) := by decide +kernel
theorem dL_unit_1 : decode cL_unit 1 = .ok (.iconst 0, 1) := by decide +kernel
theorem dL_unit_2 : decode cL_unit 2 = .ok (.aload_n 0, 1) := by decide +kernel
theorem dL_unit_3 : decode cL_unit 3 = .ok (.iload_n 1, 1) := by decide +kernel
theorem dL_unit_4 : decode cL_unit 4 = .ok (.iload_n 2, 1) := by decide +kernel
theorem dL_unit_5 : decode cL_unit 5 = .ok (.invokevirtual 36, 3) := by decide +kernel
theorem dL_unit_8 : decode cL_unit 8 = .ok (.i2l, 1) := by decide +kernel
theorem dL_unit_9 : decode cL_unit 9 = .ok (.lastore, 1) := by decide +kernel
theorem dL_unit_10 : decode cL_unit 10 = .ok (.goto 11, 3) := by decide +kernel
theorem dL_unit_13 : decode cL_unit 13 = .ok (.astore 4, 2) := by decide +kernel
theorem dL_unit_15 : decode cL_unit 15 = .ok (.iconst 1, 1) := by decide +kernel
theorem dL_unit_16 : decode cL_unit 16 = .ok (.ireturn, 1) := by decide +kernel
theorem dL_unit_17 : decode cL_unit 17 = .ok (.astore 4, 2) := by decide +kernel
theorem dL_unit_19 : decode cL_unit 19 = .ok (.iconst 2, 1) := by decide +kernel
theorem dL_unit_20 : decode cL_unit 20 = .ok (.ireturn, 1) := by decide +kernel
theorem dL_unit_21 : decode cL_unit 21 = .ok (.iconst 0, 1) := by decide +kernel
theorem dL_unit_22 : decode cL_unit 22 = .ok (.ireturn, 1) := by decide +kernel
theorem hdL_unit : az_hd cL_unit 5 RL 5 [(0, 10, 13, 19), (0, 10, 17, 13)] ["java/lang/IndexOutOfBoundsException", "java/lang/IllegalArgumentException"] := ⟨rfl, fun i q n hq hn => match i, hq, hn with | 0, hq, hn => by cases hq; cases hn; exact ⟨by decide, by decide, thkRL_19, thc_IndexOutOfBoundsException, ⟨4, 2, by decide, Or.inl ⟨rfl, dL_unit_13⟩, dL_unit_15, by decide +kernel, dL_unit_16⟩⟩ | 1, hq, hn => by cases hq; cases hn; exact ⟨by decide, by decide, thkRL_13, thc_IllegalArgumentException, ⟨4, 2, by decide, Or.inl ⟨rfl, dL_unit_17⟩, dL_unit_19, by decide +kernel, dL_unit_20⟩⟩ | k + 2, hq, hn => by simp at hq⟩
def PL_unit (Q : Option Value → az_M → Prop) : az_T := (s_la 3 (s_ic (nI 0) (s_la 0 (s_li 1 (s_li 2 (s_cvX 2 12 FX11_unit ["java/lang/IndexOutOfBoundsException", "java/lang/IllegalArgumentException"] Q (s_i2l (s_lst (s_ic (nI 0) (s_ri Q))))))))))
def FL_unit : az_F := az_fun [true, false, false, true] 5 PL_unit
theorem okL_unit (l : Launch) (hlt : l.stackTraces = false) : az_metW l yL_unit cL_unit 5 (some .int) [(0, 10, 13, 19), (0, 10, 17, 13)] ["java/lang/IndexOutOfBoundsException", "java/lang/IllegalArgumentException"] ({ frames := 8, cells := 1, slots := 6, locals := 274 } : Room) FL_unit := az_metW_of (own := RL) (by decide +kernel) rfl (by decide) (fun X Q C CW => by
  have h22 := az_ireturn C rfl dL_unit_22
  have h21 := az_iconst (x := (nI 0)) C dL_unit_21 (by decide +kernel) h22
  have h10 := az_goto (tgt := 21) C dL_unit_10 (by decide) h21
  have h9 := az_last C dL_unit_9 h10
  have h8 := az_i2l C dL_unit_8 h9
  have h5 := az_tryV (ci := 12) C CW rfl okX11_unit knX11_unit imX11_unit seX11_unit mLRL_36 rfl (by decide) ⟨rfl, rfl, by decide, by decide⟩ ⟨rfl, rfl⟩ hdL_unit dL_unit_5 h8
  have h4 := az_iload_n C 2 rfl dL_unit_4 h5
  have h3 := az_iload_n C 1 rfl dL_unit_3 h4
  have h2 := az_aload_n C 0 rfl dL_unit_2 h3
  have h1 := az_iconst (x := (nI 0)) C dL_unit_1 (by decide +kernel) h2
  have h0 := az_aload_n C 3 rfl dL_unit_0 h1
  exact h0) l hlt
theorem dL_commit_0 : decode cL_commit 0 = .ok (.aload 5, 2) := by decide +kernel
theorem dL_commit_2 : decode cL_commit 2 = .ok (.iconst 0, 1) := by decide +kernel
theorem dL_commit_3 : decode cL_commit 3 = .ok (.aload_n 0, 1) := by decide +kernel
theorem dL_commit_4 : decode cL_commit 4 = .ok (.iload_n 1, 1) := by decide +kernel
theorem dL_commit_5 : decode cL_commit 5 = .ok (.iload_n 2, 1) := by decide +kernel
theorem dL_commit_6 : decode cL_commit 6 = .ok (.iload_n 3, 1) := by decide +kernel
theorem dL_commit_7 : decode cL_commit 7 = .ok (.iload 4, 2) := by decide +kernel
theorem dL_commit_9 : decode cL_commit 9 = .ok (.invokevirtual 39, 3) := by decide +kernel
theorem dL_commit_12 : decode cL_commit 12 = .ok (.i2l, 1) := by decide +kernel
theorem dL_commit_13 : decode cL_commit 13 = .ok (.lastore, 1) := by decide +kernel
theorem dL_commit_14 : decode cL_commit 14 = .ok (.goto 11, 3) := by decide +kernel
theorem dL_commit_17 : decode cL_commit 17 = .ok (.astore 6, 2) := by decide +kernel
theorem dL_commit_19 : decode cL_commit 19 = .ok (.iconst 1, 1) := by decide +kernel
theorem dL_commit_20 : decode cL_commit 20 = .ok (.ireturn, 1) := by decide +kernel
theorem dL_commit_21 : decode cL_commit 21 = .ok (.astore 6, 2) := by decide +kernel
theorem dL_commit_23 : decode cL_commit 23 = .ok (.iconst 2, 1) := by decide +kernel
theorem dL_commit_24 : decode cL_commit 24 = .ok (.ireturn, 1) := by decide +kernel
theorem dL_commit_25 : decode cL_commit 25 = .ok (.iconst 0, 1) := by decide +kernel
theorem dL_commit_26 : decode cL_commit 26 = .ok (.ireturn, 1) := by decide +kernel
theorem hdL_commit : az_hd cL_commit 7 RL 9 [(0, 14, 17, 19), (0, 14, 21, 13)] ["java/lang/IndexOutOfBoundsException", "java/lang/IllegalArgumentException"] := ⟨rfl, fun i q n hq hn => match i, hq, hn with | 0, hq, hn => by cases hq; cases hn; exact ⟨by decide, by decide, thkRL_19, thc_IndexOutOfBoundsException, ⟨6, 2, by decide, Or.inl ⟨rfl, dL_commit_17⟩, dL_commit_19, by decide +kernel, dL_commit_20⟩⟩ | 1, hq, hn => by cases hq; cases hn; exact ⟨by decide, by decide, thkRL_13, thc_IllegalArgumentException, ⟨6, 2, by decide, Or.inl ⟨rfl, dL_commit_21⟩, dL_commit_23, by decide +kernel, dL_commit_24⟩⟩ | k + 2, hq, hn => by simp at hq⟩
def PL_commit (Q : Option Value → az_M → Prop) : az_T := (s_la 5 (s_ic (nI 0) (s_la 0 (s_li 1 (s_li 2 (s_li 3 (s_li 4 (s_cvX 4 12 FX11_commit ["java/lang/IndexOutOfBoundsException", "java/lang/IllegalArgumentException"] Q (s_i2l (s_lst (s_ic (nI 0) (s_ri Q))))))))))))
def FL_commit : az_F := az_fun [true, false, false, false, false, true] 7 PL_commit
theorem okL_commit (l : Launch) (hlt : l.stackTraces = false) : az_metW l yL_commit cL_commit 7 (some .int) [(0, 14, 17, 19), (0, 14, 21, 13)] ["java/lang/IndexOutOfBoundsException", "java/lang/IllegalArgumentException"] ({ frames := 8, cells := 1, slots := 6, locals := 190 } : Room) FL_commit := az_metW_of (own := RL) (by decide +kernel) rfl (by decide) (fun X Q C CW => by
  have h26 := az_ireturn C rfl dL_commit_26
  have h25 := az_iconst (x := (nI 0)) C dL_commit_25 (by decide +kernel) h26
  have h14 := az_goto (tgt := 25) C dL_commit_14 (by decide) h25
  have h13 := az_last C dL_commit_13 h14
  have h12 := az_i2l C dL_commit_12 h13
  have h9 := az_tryV (ci := 12) C CW rfl okX11_commit knX11_commit imX11_commit seX11_commit mLRL_39 rfl (by decide) ⟨rfl, rfl, by decide, by decide⟩ ⟨rfl, rfl⟩ hdL_commit dL_commit_9 h12
  have h7 := az_iload C dL_commit_7 h9
  have h6 := az_iload_n C 3 rfl dL_commit_6 h7
  have h5 := az_iload_n C 2 rfl dL_commit_5 h6
  have h4 := az_iload_n C 1 rfl dL_commit_4 h5
  have h3 := az_aload_n C 0 rfl dL_commit_3 h4
  have h2 := az_iconst (x := (nI 0)) C dL_commit_2 (by decide +kernel) h3
  have h0 := az_aload C dL_commit_0 h2
  exact h0) l hlt
theorem dL_addOutage_0 : decode cL_addOutage 0 = .ok (.aload 4, 2) := by decide +kernel
theorem dL_addOutage_2 : decode cL_addOutage 2 = .ok (.iconst 0, 1) := by decide +kernel
theorem dL_addOutage_3 : decode cL_addOutage 3 = .ok (.aload_n 0, 1) := by decide +kernel
theorem dL_addOutage_4 : decode cL_addOutage 4 = .ok (.iload_n 1, 1) := by decide +kernel
theorem dL_addOutage_5 : decode cL_addOutage 5 = .ok (.iload_n 2, 1) := by decide +kernel
theorem dL_addOutage_6 : decode cL_addOutage 6 = .ok (.iload_n 3, 1) := by decide +kernel
theorem dL_addOutage_7 : decode cL_addOutage 7 = .ok (.invokevirtual 43, 3) := by decide +kernel
theorem dL_addOutage_10 : decode cL_addOutage 10 = .ok (.i2l, 1) := by decide +kernel
theorem dL_addOutage_11 : decode cL_addOutage 11 = .ok (.lastore, 1) := by decide +kernel
theorem dL_addOutage_12 : decode cL_addOutage 12 = .ok (.goto 15, 3) := by decide +kernel
theorem dL_addOutage_15 : decode cL_addOutage 15 = .ok (.astore 5, 2) := by decide +kernel
theorem dL_addOutage_17 : decode cL_addOutage 17 = .ok (.iconst 1, 1) := by decide +kernel
theorem dL_addOutage_18 : decode cL_addOutage 18 = .ok (.ireturn, 1) := by decide +kernel
theorem dL_addOutage_19 : decode cL_addOutage 19 = .ok (.astore 5, 2) := by decide +kernel
theorem dL_addOutage_21 : decode cL_addOutage 21 = .ok (.iconst 2, 1) := by decide +kernel
theorem dL_addOutage_22 : decode cL_addOutage 22 = .ok (.ireturn, 1) := by decide +kernel
theorem dL_addOutage_23 : decode cL_addOutage 23 = .ok (.astore 5, 2) := by decide +kernel
theorem dL_addOutage_25 : decode cL_addOutage 25 = .ok (.iconst 3, 1) := by decide +kernel
theorem dL_addOutage_26 : decode cL_addOutage 26 = .ok (.ireturn, 1) := by decide +kernel
theorem dL_addOutage_27 : decode cL_addOutage 27 = .ok (.iconst 0, 1) := by decide +kernel
theorem dL_addOutage_28 : decode cL_addOutage 28 = .ok (.ireturn, 1) := by decide +kernel
theorem hdL_addOutage : az_hd cL_addOutage 6 RL 7 [(0, 12, 15, 19), (0, 12, 19, 13), (0, 12, 23, 31)] ["java/lang/IndexOutOfBoundsException", "java/lang/IllegalArgumentException", "java/lang/IllegalStateException"] := ⟨rfl, fun i q n hq hn => match i, hq, hn with | 0, hq, hn => by cases hq; cases hn; exact ⟨by decide, by decide, thkRL_19, thc_IndexOutOfBoundsException, ⟨5, 2, by decide, Or.inl ⟨rfl, dL_addOutage_15⟩, dL_addOutage_17, by decide +kernel, dL_addOutage_18⟩⟩ | 1, hq, hn => by cases hq; cases hn; exact ⟨by decide, by decide, thkRL_13, thc_IllegalArgumentException, ⟨5, 2, by decide, Or.inl ⟨rfl, dL_addOutage_19⟩, dL_addOutage_21, by decide +kernel, dL_addOutage_22⟩⟩ | 2, hq, hn => by cases hq; cases hn; exact ⟨by decide, by decide, thkRL_31, thc_IllegalStateException, ⟨5, 2, by decide, Or.inl ⟨rfl, dL_addOutage_23⟩, dL_addOutage_25, by decide +kernel, dL_addOutage_26⟩⟩ | k + 3, hq, hn => by simp at hq⟩
def PL_addOutage (Q : Option Value → az_M → Prop) : az_T := (s_la 4 (s_ic (nI 0) (s_la 0 (s_li 1 (s_li 2 (s_li 3 (s_cvX 3 12 FX11_addOutage ["java/lang/IndexOutOfBoundsException", "java/lang/IllegalArgumentException", "java/lang/IllegalStateException"] Q (s_i2l (s_lst (s_ic (nI 0) (s_ri Q)))))))))))
def FL_addOutage : az_F := az_fun [true, false, false, false, true] 6 PL_addOutage
theorem okL_addOutage (l : Launch) (hlt : l.stackTraces = false) : az_metW l yL_addOutage cL_addOutage 6 (some .int) [(0, 12, 15, 19), (0, 12, 19, 13), (0, 12, 23, 31)] ["java/lang/IndexOutOfBoundsException", "java/lang/IllegalArgumentException", "java/lang/IllegalStateException"] ({ frames := 8, cells := 1, slots := 6, locals := 187 } : Room) FL_addOutage := az_metW_of (own := RL) (by decide +kernel) rfl (by decide) (fun X Q C CW => by
  have h28 := az_ireturn C rfl dL_addOutage_28
  have h27 := az_iconst (x := (nI 0)) C dL_addOutage_27 (by decide +kernel) h28
  have h12 := az_goto (tgt := 27) C dL_addOutage_12 (by decide) h27
  have h11 := az_last C dL_addOutage_11 h12
  have h10 := az_i2l C dL_addOutage_10 h11
  have h7 := az_tryV (ci := 12) C CW rfl okX11_addOutage knX11_addOutage imX11_addOutage seX11_addOutage mLRL_43 rfl (by decide) ⟨rfl, rfl, by decide, by decide⟩ ⟨rfl, rfl⟩ hdL_addOutage dL_addOutage_7 h10
  have h6 := az_iload_n C 3 rfl dL_addOutage_6 h7
  have h5 := az_iload_n C 2 rfl dL_addOutage_5 h6
  have h4 := az_iload_n C 1 rfl dL_addOutage_4 h5
  have h3 := az_aload_n C 0 rfl dL_addOutage_3 h4
  have h2 := az_iconst (x := (nI 0)) C dL_addOutage_2 (by decide +kernel) h3
  have h0 := az_aload C dL_addOutage_0 h2
  exact h0) l hlt
theorem dL_removeOutage_0 : decode cL_removeOutage 0 = .ok (.aload_n 2, 1) := by decide +kernel
theorem dL_removeOutage_1 : decode cL_removeOutage 1 = .ok (.iconst 0, 1) := by decide +kernel
theorem dL_removeOutage_2 : decode cL_removeOutage 2 = .ok (.aload_n 0, 1) := by decide +kernel
theorem dL_removeOutage_3 : decode cL_removeOutage 3 = .ok (.iload_n 1, 1) := by decide +kernel
theorem dL_removeOutage_4 : decode cL_removeOutage 4 = .ok (.invokevirtual 46, 3) := by decide +kernel
theorem dL_removeOutage_7 : decode cL_removeOutage 7 = .ok (.i2l, 1) := by decide +kernel
theorem dL_removeOutage_8 : decode cL_removeOutage 8 = .ok (.lastore, 1) := by decide +kernel
theorem dL_removeOutage_9 : decode cL_removeOutage 9 = .ok (.goto 6, 3) := by decide +kernel
theorem dL_removeOutage_12 : decode cL_removeOutage 12 = .ok (.astore_n 3, 1) := by decide +kernel
theorem dL_removeOutage_13 : decode cL_removeOutage 13 = .ok (.iconst 1, 1) := by decide +kernel
theorem dL_removeOutage_14 : decode cL_removeOutage 14 = .ok (.ireturn, 1) := by decide +kernel
theorem dL_removeOutage_15 : decode cL_removeOutage 15 = .ok (.iconst 0, 1) := by decide +kernel
theorem dL_removeOutage_16 : decode cL_removeOutage 16 = .ok (.ireturn, 1) := by decide +kernel
theorem hdL_removeOutage : az_hd cL_removeOutage 4 RL 4 [(0, 9, 12, 19)] ["java/lang/IndexOutOfBoundsException"] := ⟨rfl, fun i q n hq hn => match i, hq, hn with | 0, hq, hn => by cases hq; cases hn; exact ⟨by decide, by decide, thkRL_19, thc_IndexOutOfBoundsException, ⟨3, 1, by decide, Or.inr ⟨rfl, 3, rfl, dL_removeOutage_12⟩, dL_removeOutage_13, by decide +kernel, dL_removeOutage_14⟩⟩ | k + 1, hq, hn => by simp at hq⟩
def PL_removeOutage (Q : Option Value → az_M → Prop) : az_T := (s_la 2 (s_ic (nI 0) (s_la 0 (s_li 1 (s_cvX 1 12 FX11_removeOutage ["java/lang/IndexOutOfBoundsException"] Q (s_i2l (s_lst (s_ic (nI 0) (s_ri Q)))))))))
def FL_removeOutage : az_F := az_fun [true, false, true] 4 PL_removeOutage
theorem okL_removeOutage (l : Launch) (hlt : l.stackTraces = false) : az_metW l yL_removeOutage cL_removeOutage 4 (some .int) [(0, 9, 12, 19)] ["java/lang/IndexOutOfBoundsException"] ({ frames := 8, cells := 1, slots := 6, locals := 185 } : Room) FL_removeOutage := az_metW_of (own := RL) (by decide +kernel) rfl (by decide) (fun X Q C CW => by
  have h16 := az_ireturn C rfl dL_removeOutage_16
  have h15 := az_iconst (x := (nI 0)) C dL_removeOutage_15 (by decide +kernel) h16
  have h9 := az_goto (tgt := 15) C dL_removeOutage_9 (by decide) h15
  have h8 := az_last C dL_removeOutage_8 h9
  have h7 := az_i2l C dL_removeOutage_7 h8
  have h4 := az_tryV (ci := 12) C CW rfl okX11_removeOutage knX11_removeOutage imX11_removeOutage seX11_removeOutage mLRL_46 rfl (by decide) ⟨rfl, rfl, by decide, by decide⟩ ⟨rfl, rfl⟩ hdL_removeOutage dL_removeOutage_4 h7
  have h3 := az_iload_n C 1 rfl dL_removeOutage_3 h4
  have h2 := az_aload_n C 0 rfl dL_removeOutage_2 h3
  have h1 := az_iconst (x := (nI 0)) C dL_removeOutage_1 (by decide +kernel) h2
  have h0 := az_aload_n C 2 rfl dL_removeOutage_0 h1
  exact h0) l hlt
theorem dL_setPolicy_0 : decode cL_setPolicy 0 = .ok (.aload_n 2, 1) := by decide +kernel
theorem dL_setPolicy_1 : decode cL_setPolicy 1 = .ok (.iconst 0, 1) := by decide +kernel
theorem dL_setPolicy_2 : decode cL_setPolicy 2 = .ok (.aload_n 0, 1) := by decide +kernel
theorem dL_setPolicy_3 : decode cL_setPolicy 3 = .ok (.iload_n 1, 1) := by decide +kernel
theorem dL_setPolicy_4 : decode cL_setPolicy 4 = .ok (.invokevirtual 50, 3) := by decide +kernel
theorem dL_setPolicy_7 : decode cL_setPolicy 7 = .ok (.i2l, 1) := by decide +kernel
theorem dL_setPolicy_8 : decode cL_setPolicy 8 = .ok (.lastore, 1) := by decide +kernel
theorem dL_setPolicy_9 : decode cL_setPolicy 9 = .ok (.goto 6, 3) := by decide +kernel
theorem dL_setPolicy_12 : decode cL_setPolicy 12 = .ok (.astore_n 3, 1) := by decide +kernel
theorem dL_setPolicy_13 : decode cL_setPolicy 13 = .ok (.iconst 1, 1) := by decide +kernel
theorem dL_setPolicy_14 : decode cL_setPolicy 14 = .ok (.ireturn, 1) := by decide +kernel
theorem dL_setPolicy_15 : decode cL_setPolicy 15 = .ok (.iconst 0, 1) := by decide +kernel
theorem dL_setPolicy_16 : decode cL_setPolicy 16 = .ok (.ireturn, 1) := by decide +kernel
theorem hdL_setPolicy : az_hd cL_setPolicy 4 RL 4 [(0, 9, 12, 13)] ["java/lang/IllegalArgumentException"] := ⟨rfl, fun i q n hq hn => match i, hq, hn with | 0, hq, hn => by cases hq; cases hn; exact ⟨by decide, by decide, thkRL_13, thc_IllegalArgumentException, ⟨3, 1, by decide, Or.inr ⟨rfl, 3, rfl, dL_setPolicy_12⟩, dL_setPolicy_13, by decide +kernel, dL_setPolicy_14⟩⟩ | k + 1, hq, hn => by simp at hq⟩
def PL_setPolicy (Q : Option Value → az_M → Prop) : az_T := (s_la 2 (s_ic (nI 0) (s_la 0 (s_li 1 (s_cvX 1 12 FX11_setPolicy ["java/lang/IllegalArgumentException"] Q (s_i2l (s_lst (s_ic (nI 0) (s_ri Q)))))))))
def FL_setPolicy : az_F := az_fun [true, false, true] 4 PL_setPolicy
theorem okL_setPolicy (l : Launch) (hlt : l.stackTraces = false) : az_metW l yL_setPolicy cL_setPolicy 4 (some .int) [(0, 9, 12, 13)] ["java/lang/IllegalArgumentException"] ({ frames := 8, cells := 1, slots := 6, locals := 185 } : Room) FL_setPolicy := az_metW_of (own := RL) (by decide +kernel) rfl (by decide) (fun X Q C CW => by
  have h16 := az_ireturn C rfl dL_setPolicy_16
  have h15 := az_iconst (x := (nI 0)) C dL_setPolicy_15 (by decide +kernel) h16
  have h9 := az_goto (tgt := 15) C dL_setPolicy_9 (by decide) h15
  have h8 := az_last C dL_setPolicy_8 h9
  have h7 := az_i2l C dL_setPolicy_7 h8
  have h4 := az_tryV (ci := 12) C CW rfl okX11_setPolicy knX11_setPolicy imX11_setPolicy seX11_setPolicy mLRL_50 rfl (by decide) ⟨rfl, rfl, by decide, by decide⟩ ⟨rfl, rfl⟩ hdL_setPolicy dL_setPolicy_4 h7
  have h3 := az_iload_n C 1 rfl dL_setPolicy_3 h4
  have h2 := az_aload_n C 0 rfl dL_setPolicy_2 h3
  have h1 := az_iconst (x := (nI 0)) C dL_setPolicy_1 (by decide +kernel) h2
  have h0 := az_aload_n C 2 rfl dL_setPolicy_0 h1
  exact h0) l hlt
theorem dL_outage_0 : decode cL_outage 0 = .ok (.aload_n 3, 1) := by decide +kernel
theorem dL_outage_1 : decode cL_outage 1 = .ok (.iconst 0, 1) := by decide +kernel
theorem dL_outage_2 : decode cL_outage 2 = .ok (.aload_n 0, 1) := by decide +kernel
theorem dL_outage_3 : decode cL_outage 3 = .ok (.iload_n 1, 1) := by decide +kernel
theorem dL_outage_4 : decode cL_outage 4 = .ok (.iload_n 2, 1) := by decide +kernel
theorem dL_outage_5 : decode cL_outage 5 = .ok (.invokevirtual 53, 3) := by decide +kernel
theorem dL_outage_8 : decode cL_outage 8 = .ok (.i2l, 1) := by decide +kernel
theorem dL_outage_9 : decode cL_outage 9 = .ok (.lastore, 1) := by decide +kernel
theorem dL_outage_10 : decode cL_outage 10 = .ok (.goto 11, 3) := by decide +kernel
theorem dL_outage_13 : decode cL_outage 13 = .ok (.astore 4, 2) := by decide +kernel
theorem dL_outage_15 : decode cL_outage 15 = .ok (.iconst 1, 1) := by decide +kernel
theorem dL_outage_16 : decode cL_outage 16 = .ok (.ireturn, 1) := by decide +kernel
theorem dL_outage_17 : decode cL_outage 17 = .ok (.astore 4, 2) := by decide +kernel
theorem dL_outage_19 : decode cL_outage 19 = .ok (.iconst 2, 1) := by decide +kernel
theorem dL_outage_20 : decode cL_outage 20 = .ok (.ireturn, 1) := by decide +kernel
theorem dL_outage_21 : decode cL_outage 21 = .ok (.iconst 0, 1) := by decide +kernel
theorem dL_outage_22 : decode cL_outage 22 = .ok (.ireturn, 1) := by decide +kernel
theorem hdL_outage : az_hd cL_outage 5 RL 5 [(0, 10, 13, 19), (0, 10, 17, 13)] ["java/lang/IndexOutOfBoundsException", "java/lang/IllegalArgumentException"] := ⟨rfl, fun i q n hq hn => match i, hq, hn with | 0, hq, hn => by cases hq; cases hn; exact ⟨by decide, by decide, thkRL_19, thc_IndexOutOfBoundsException, ⟨4, 2, by decide, Or.inl ⟨rfl, dL_outage_13⟩, dL_outage_15, by decide +kernel, dL_outage_16⟩⟩ | 1, hq, hn => by cases hq; cases hn; exact ⟨by decide, by decide, thkRL_13, thc_IllegalArgumentException, ⟨4, 2, by decide, Or.inl ⟨rfl, dL_outage_17⟩, dL_outage_19, by decide +kernel, dL_outage_20⟩⟩ | k + 2, hq, hn => by simp at hq⟩
def PL_outage (Q : Option Value → az_M → Prop) : az_T := (s_la 3 (s_ic (nI 0) (s_la 0 (s_li 1 (s_li 2 (s_cvX 2 12 FX11_outage ["java/lang/IndexOutOfBoundsException", "java/lang/IllegalArgumentException"] Q (s_i2l (s_lst (s_ic (nI 0) (s_ri Q))))))))))
def FL_outage : az_F := az_fun [true, false, false, true] 5 PL_outage
theorem okL_outage (l : Launch) (hlt : l.stackTraces = false) : az_metW l yL_outage cL_outage 5 (some .int) [(0, 10, 13, 19), (0, 10, 17, 13)] ["java/lang/IndexOutOfBoundsException", "java/lang/IllegalArgumentException"] ({ frames := 8, cells := 1, slots := 6, locals := 274 } : Room) FL_outage := az_metW_of (own := RL) (by decide +kernel) rfl (by decide) (fun X Q C CW => by
  have h22 := az_ireturn C rfl dL_outage_22
  have h21 := az_iconst (x := (nI 0)) C dL_outage_21 (by decide +kernel) h22
  have h10 := az_goto (tgt := 21) C dL_outage_10 (by decide) h21
  have h9 := az_last C dL_outage_9 h10
  have h8 := az_i2l C dL_outage_8 h9
  have h5 := az_tryV (ci := 12) C CW rfl okX11_outage knX11_outage imX11_outage seX11_outage mLRL_53 rfl (by decide) ⟨rfl, rfl, by decide, by decide⟩ ⟨rfl, rfl⟩ hdL_outage dL_outage_5 h8
  have h4 := az_iload_n C 2 rfl dL_outage_4 h5
  have h3 := az_iload_n C 1 rfl dL_outage_3 h4
  have h2 := az_aload_n C 0 rfl dL_outage_2 h3
  have h1 := az_iconst (x := (nI 0)) C dL_outage_1 (by decide +kernel) h2
  have h0 := az_aload_n C 3 rfl dL_outage_0 h1
  exact h0) l hlt
theorem dL_search_0 : decode cL_search 0 = .ok (.aload_n 1, 1) := by decide +kernel
theorem dL_search_1 : decode cL_search 1 = .ok (.iconst 0, 1) := by decide +kernel
theorem dL_search_2 : decode cL_search 2 = .ok (.aload_n 0, 1) := by decide +kernel
theorem dL_search_3 : decode cL_search 3 = .ok (.invokevirtual 56, 3) := by decide +kernel
theorem dL_search_6 : decode cL_search 6 = .ok (.i2l, 1) := by decide +kernel
theorem dL_search_7 : decode cL_search 7 = .ok (.lastore, 1) := by decide +kernel
theorem dL_search_8 : decode cL_search 8 = .ok (.goto 9, 3) := by decide +kernel
theorem dL_search_11 : decode cL_search 11 = .ok (.astore_n 2, 1) := by decide +kernel
theorem dL_search_12 : decode cL_search 12 = .ok (.iconst 1, 1) := by decide +kernel
theorem dL_search_13 : decode cL_search 13 = .ok (.ireturn, 1) := by decide +kernel
theorem dL_search_14 : decode cL_search 14 = .ok (.astore_n 2, 1) := by decide +kernel
theorem dL_search_15 : decode cL_search 15 = .ok (.iconst 2, 1) := by decide +kernel
theorem dL_search_16 : decode cL_search 16 = .ok (.ireturn, 1) := by decide +kernel
theorem dL_search_17 : decode cL_search 17 = .ok (.iconst 0, 1) := by decide +kernel
theorem dL_search_18 : decode cL_search 18 = .ok (.ireturn, 1) := by decide +kernel
theorem hdL_search : az_hd cL_search 3 RL 3 [(0, 8, 11, 60), (0, 8, 14, 31)] ["java/lang/UnsupportedOperationException", "java/lang/IllegalStateException"] := ⟨rfl, fun i q n hq hn => match i, hq, hn with | 0, hq, hn => by cases hq; cases hn; exact ⟨by decide, by decide, thkRL_60, thc_UnsupportedOperationException, ⟨2, 1, by decide, Or.inr ⟨rfl, 2, rfl, dL_search_11⟩, dL_search_12, by decide +kernel, dL_search_13⟩⟩ | 1, hq, hn => by cases hq; cases hn; exact ⟨by decide, by decide, thkRL_31, thc_IllegalStateException, ⟨2, 1, by decide, Or.inr ⟨rfl, 2, rfl, dL_search_14⟩, dL_search_15, by decide +kernel, dL_search_16⟩⟩ | k + 2, hq, hn => by simp at hq⟩
def PL_search (Q : Option Value → az_M → Prop) : az_T := (s_la 1 (s_ic (nI 0) (s_la 0 (s_cvX 0 12 FX11_search ["java/lang/UnsupportedOperationException", "java/lang/IllegalStateException"] Q (s_i2l (s_lst (s_ic (nI 0) (s_ri Q))))))))
def FL_search : az_F := az_fun [true, true] 3 PL_search
theorem okL_search (l : Launch) (hlt : l.stackTraces = false) : az_metW l yL_search cL_search 3 (some .int) [(0, 8, 11, 60), (0, 8, 14, 31)] ["java/lang/UnsupportedOperationException", "java/lang/IllegalStateException"] ({ frames := 8, cells := 1, slots := 6, locals := 279 } : Room) FL_search := az_metW_of (own := RL) (by decide +kernel) rfl (by decide) (fun X Q C CW => by
  have h18 := az_ireturn C rfl dL_search_18
  have h17 := az_iconst (x := (nI 0)) C dL_search_17 (by decide +kernel) h18
  have h8 := az_goto (tgt := 17) C dL_search_8 (by decide) h17
  have h7 := az_last C dL_search_7 h8
  have h6 := az_i2l C dL_search_6 h7
  have h3 := az_tryV (ci := 12) C CW rfl okX11_search knX11_search imX11_search seX11_search mLRL_56 rfl (by decide) ⟨rfl, rfl, by decide, by decide⟩ ⟨rfl, rfl⟩ hdL_search dL_search_3 h6
  have h2 := az_aload_n C 0 rfl dL_search_2 h3
  have h1 := az_iconst (x := (nI 0)) C dL_search_1 (by decide +kernel) h2
  have h0 := az_aload_n C 1 rfl dL_search_0 h1
  exact h0) l hlt
theorem dL_append_0 : decode cL_append 0 = .ok (.aload_n 2, 1) := by decide +kernel
theorem dL_append_1 : decode cL_append 1 = .ok (.iconst 0, 1) := by decide +kernel
theorem dL_append_2 : decode cL_append 2 = .ok (.aload_n 0, 1) := by decide +kernel
theorem dL_append_3 : decode cL_append 3 = .ok (.iload_n 1, 1) := by decide +kernel
theorem dL_append_4 : decode cL_append 4 = .ok (.invokevirtual 62, 3) := by decide +kernel
theorem dL_append_7 : decode cL_append 7 = .ok (.i2l, 1) := by decide +kernel
theorem dL_append_8 : decode cL_append 8 = .ok (.lastore, 1) := by decide +kernel
theorem dL_append_9 : decode cL_append 9 = .ok (.goto 9, 3) := by decide +kernel
theorem dL_append_12 : decode cL_append 12 = .ok (.astore_n 3, 1) := by decide +kernel
theorem dL_append_13 : decode cL_append 13 = .ok (.iconst 1, 1) := by decide +kernel
theorem dL_append_14 : decode cL_append 14 = .ok (.ireturn, 1) := by decide +kernel
theorem dL_append_15 : decode cL_append 15 = .ok (.astore_n 3, 1) := by decide +kernel
theorem dL_append_16 : decode cL_append 16 = .ok (.iconst 2, 1) := by decide +kernel
theorem dL_append_17 : decode cL_append 17 = .ok (.ireturn, 1) := by decide +kernel
theorem dL_append_18 : decode cL_append 18 = .ok (.iconst 0, 1) := by decide +kernel
theorem dL_append_19 : decode cL_append 19 = .ok (.ireturn, 1) := by decide +kernel
theorem hdL_append : az_hd cL_append 4 RL 4 [(0, 9, 12, 13), (0, 9, 15, 31)] ["java/lang/IllegalArgumentException", "java/lang/IllegalStateException"] := ⟨rfl, fun i q n hq hn => match i, hq, hn with | 0, hq, hn => by cases hq; cases hn; exact ⟨by decide, by decide, thkRL_13, thc_IllegalArgumentException, ⟨3, 1, by decide, Or.inr ⟨rfl, 3, rfl, dL_append_12⟩, dL_append_13, by decide +kernel, dL_append_14⟩⟩ | 1, hq, hn => by cases hq; cases hn; exact ⟨by decide, by decide, thkRL_31, thc_IllegalStateException, ⟨3, 1, by decide, Or.inr ⟨rfl, 3, rfl, dL_append_15⟩, dL_append_16, by decide +kernel, dL_append_17⟩⟩ | k + 2, hq, hn => by simp at hq⟩
def PL_append (Q : Option Value → az_M → Prop) : az_T := (s_la 2 (s_ic (nI 0) (s_la 0 (s_li 1 (s_cvX 1 12 FX11_append ["java/lang/IllegalArgumentException", "java/lang/IllegalStateException"] Q (s_i2l (s_lst (s_ic (nI 0) (s_ri Q)))))))))
def FL_append : az_F := az_fun [true, false, true] 4 PL_append
theorem okL_append (l : Launch) (hlt : l.stackTraces = false) : az_metW l yL_append cL_append 4 (some .int) [(0, 9, 12, 13), (0, 9, 15, 31)] ["java/lang/IllegalArgumentException", "java/lang/IllegalStateException"] ({ frames := 8, cells := 1, slots := 6, locals := 143 } : Room) FL_append := az_metW_of (own := RL) (by decide +kernel) rfl (by decide) (fun X Q C CW => by
  have h19 := az_ireturn C rfl dL_append_19
  have h18 := az_iconst (x := (nI 0)) C dL_append_18 (by decide +kernel) h19
  have h9 := az_goto (tgt := 18) C dL_append_9 (by decide) h18
  have h8 := az_last C dL_append_8 h9
  have h7 := az_i2l C dL_append_7 h8
  have h4 := az_tryV (ci := 12) C CW rfl okX11_append knX11_append imX11_append seX11_append mLRL_62 rfl (by decide) ⟨rfl, rfl, by decide, by decide⟩ ⟨rfl, rfl⟩ hdL_append dL_append_4 h7
  have h3 := az_iload_n C 1 rfl dL_append_3 h4
  have h2 := az_aload_n C 0 rfl dL_append_2 h3
  have h1 := az_iconst (x := (nI 0)) C dL_append_1 (by decide +kernel) h2
  have h0 := az_aload_n C 2 rfl dL_append_0 h1
  exact h0) l hlt
theorem dL_readPlan_0 : decode cL_readPlan 0 = .ok (.aload_n 1, 1) := by decide +kernel
theorem dL_readPlan_1 : decode cL_readPlan 1 = .ok (.iconst 0, 1) := by decide +kernel
theorem dL_readPlan_2 : decode cL_readPlan 2 = .ok (.aload_n 0, 1) := by decide +kernel
theorem dL_readPlan_3 : decode cL_readPlan 3 = .ok (.invokevirtual 66, 3) := by decide +kernel
theorem dL_readPlan_6 : decode cL_readPlan 6 = .ok (.i2l, 1) := by decide +kernel
theorem dL_readPlan_7 : decode cL_readPlan 7 = .ok (.lastore, 1) := by decide +kernel
theorem dL_readPlan_8 : decode cL_readPlan 8 = .ok (.goto 9, 3) := by decide +kernel
theorem dL_readPlan_11 : decode cL_readPlan 11 = .ok (.astore_n 2, 1) := by decide +kernel
theorem dL_readPlan_12 : decode cL_readPlan 12 = .ok (.iconst 1, 1) := by decide +kernel
theorem dL_readPlan_13 : decode cL_readPlan 13 = .ok (.ireturn, 1) := by decide +kernel
theorem dL_readPlan_14 : decode cL_readPlan 14 = .ok (.astore_n 2, 1) := by decide +kernel
theorem dL_readPlan_15 : decode cL_readPlan 15 = .ok (.iconst 2, 1) := by decide +kernel
theorem dL_readPlan_16 : decode cL_readPlan 16 = .ok (.ireturn, 1) := by decide +kernel
theorem dL_readPlan_17 : decode cL_readPlan 17 = .ok (.iconst 0, 1) := by decide +kernel
theorem dL_readPlan_18 : decode cL_readPlan 18 = .ok (.ireturn, 1) := by decide +kernel
theorem hdL_readPlan : az_hd cL_readPlan 3 RL 3 [(0, 8, 11, 13), (0, 8, 14, 60)] ["java/lang/IllegalArgumentException", "java/lang/UnsupportedOperationException"] := ⟨rfl, fun i q n hq hn => match i, hq, hn with | 0, hq, hn => by cases hq; cases hn; exact ⟨by decide, by decide, thkRL_13, thc_IllegalArgumentException, ⟨2, 1, by decide, Or.inr ⟨rfl, 2, rfl, dL_readPlan_11⟩, dL_readPlan_12, by decide +kernel, dL_readPlan_13⟩⟩ | 1, hq, hn => by cases hq; cases hn; exact ⟨by decide, by decide, thkRL_60, thc_UnsupportedOperationException, ⟨2, 1, by decide, Or.inr ⟨rfl, 2, rfl, dL_readPlan_14⟩, dL_readPlan_15, by decide +kernel, dL_readPlan_16⟩⟩ | k + 2, hq, hn => by simp at hq⟩
def PL_readPlan (Q : Option Value → az_M → Prop) : az_T := (s_la 1 (s_ic (nI 0) (s_la 0 (s_cvX 0 12 FX11_readPlan ["java/lang/IllegalArgumentException", "java/lang/UnsupportedOperationException"] Q (s_i2l (s_lst (s_ic (nI 0) (s_ri Q))))))))
def FL_readPlan : az_F := az_fun [true, true] 3 PL_readPlan
theorem okL_readPlan (l : Launch) (hlt : l.stackTraces = false) : az_metW l yL_readPlan cL_readPlan 3 (some .int) [(0, 8, 11, 13), (0, 8, 14, 60)] ["java/lang/IllegalArgumentException", "java/lang/UnsupportedOperationException"] ({ frames := 8, cells := 1, slots := 6, locals := 186 } : Room) FL_readPlan := az_metW_of (own := RL) (by decide +kernel) rfl (by decide) (fun X Q C CW => by
  have h18 := az_ireturn C rfl dL_readPlan_18
  have h17 := az_iconst (x := (nI 0)) C dL_readPlan_17 (by decide +kernel) h18
  have h8 := az_goto (tgt := 17) C dL_readPlan_8 (by decide) h17
  have h7 := az_last C dL_readPlan_7 h8
  have h6 := az_i2l C dL_readPlan_6 h7
  have h3 := az_tryV (ci := 12) C CW rfl okX11_readPlan knX11_readPlan imX11_readPlan seX11_readPlan mLRL_66 rfl (by decide) ⟨rfl, rfl, by decide, by decide⟩ ⟨rfl, rfl⟩ hdL_readPlan dL_readPlan_3 h6
  have h2 := az_aload_n C 0 rfl dL_readPlan_2 h3
  have h1 := az_iconst (x := (nI 0)) C dL_readPlan_1 (by decide +kernel) h2
  have h0 := az_aload_n C 1 rfl dL_readPlan_0 h1
  exact h0) l hlt
theorem dL_errorPosition_0 : decode cL_errorPosition 0 = .ok (.aload_n 1, 1) := by decide +kernel
theorem dL_errorPosition_1 : decode cL_errorPosition 1 = .ok (.iconst 0, 1) := by decide +kernel
theorem dL_errorPosition_2 : decode cL_errorPosition 2 = .ok (.aload_n 0, 1) := by decide +kernel
theorem dL_errorPosition_3 : decode cL_errorPosition 3 = .ok (.invokevirtual 69, 3) := by decide +kernel
theorem dL_errorPosition_6 : decode cL_errorPosition 6 = .ok (.i2l, 1) := by decide +kernel
theorem dL_errorPosition_7 : decode cL_errorPosition 7 = .ok (.lastore, 1) := by decide +kernel
theorem dL_errorPosition_8 : decode cL_errorPosition 8 = .ok (.goto 6, 3) := by decide +kernel
theorem dL_errorPosition_11 : decode cL_errorPosition 11 = .ok (.astore_n 2, 1) := by decide +kernel
theorem dL_errorPosition_12 : decode cL_errorPosition 12 = .ok (.iconst 1, 1) := by decide +kernel
theorem dL_errorPosition_13 : decode cL_errorPosition 13 = .ok (.ireturn, 1) := by decide +kernel
theorem dL_errorPosition_14 : decode cL_errorPosition 14 = .ok (.iconst 0, 1) := by decide +kernel
theorem dL_errorPosition_15 : decode cL_errorPosition 15 = .ok (.ireturn, 1) := by decide +kernel
theorem hdL_errorPosition : az_hd cL_errorPosition 3 RL 3 [(0, 8, 11, 72)] ["java/util/NoSuchElementException"] := ⟨rfl, fun i q n hq hn => match i, hq, hn with | 0, hq, hn => by cases hq; cases hn; exact ⟨by decide, by decide, thkRL_72, thc_NoSuchElementException, ⟨2, 1, by decide, Or.inr ⟨rfl, 2, rfl, dL_errorPosition_11⟩, dL_errorPosition_12, by decide +kernel, dL_errorPosition_13⟩⟩ | k + 1, hq, hn => by simp at hq⟩
def PL_errorPosition (Q : Option Value → az_M → Prop) : az_T := (s_la 1 (s_ic (nI 0) (s_la 0 (s_cvX 0 12 FX11_errorPosition ["java/util/NoSuchElementException"] Q (s_i2l (s_lst (s_ic (nI 0) (s_ri Q))))))))
def FL_errorPosition : az_F := az_fun [true, true] 3 PL_errorPosition
theorem okL_errorPosition (l : Launch) (hlt : l.stackTraces = false) : az_metW l yL_errorPosition cL_errorPosition 3 (some .int) [(0, 8, 11, 72)] ["java/util/NoSuchElementException"] ({ frames := 8, cells := 1, slots := 6, locals := 120 } : Room) FL_errorPosition := az_metW_of (own := RL) (by decide +kernel) rfl (by decide) (fun X Q C CW => by
  have h15 := az_ireturn C rfl dL_errorPosition_15
  have h14 := az_iconst (x := (nI 0)) C dL_errorPosition_14 (by decide +kernel) h15
  have h8 := az_goto (tgt := 14) C dL_errorPosition_8 (by decide) h14
  have h7 := az_last C dL_errorPosition_7 h8
  have h6 := az_i2l C dL_errorPosition_6 h7
  have h3 := az_tryV (ci := 12) C CW rfl okX11_errorPosition knX11_errorPosition imX11_errorPosition seX11_errorPosition mLRL_69 rfl (by decide) ⟨rfl, rfl, by decide, by decide⟩ ⟨rfl, rfl⟩ hdL_errorPosition dL_errorPosition_3 h6
  have h2 := az_aload_n C 0 rfl dL_errorPosition_2 h3
  have h1 := az_iconst (x := (nI 0)) C dL_errorPosition_1 (by decide +kernel) h2
  have h0 := az_aload_n C 1 rfl dL_errorPosition_0 h1
  exact h0) l hlt
theorem dL_output_0 : decode cL_output 0 = .ok (.aload 4, 2) := by decide +kernel
theorem dL_output_2 : decode cL_output 2 = .ok (.iconst 0, 1) := by decide +kernel
theorem dL_output_3 : decode cL_output 3 = .ok (.aload_n 0, 1) := by decide +kernel
theorem dL_output_4 : decode cL_output 4 = .ok (.iload_n 1, 1) := by decide +kernel
theorem dL_output_5 : decode cL_output 5 = .ok (.iload_n 2, 1) := by decide +kernel
theorem dL_output_6 : decode cL_output 6 = .ok (.iload_n 3, 1) := by decide +kernel
theorem dL_output_7 : decode cL_output 7 = .ok (.invokevirtual 74, 3) := by decide +kernel
theorem dL_output_10 : decode cL_output 10 = .ok (.i2l, 1) := by decide +kernel
theorem dL_output_11 : decode cL_output 11 = .ok (.lastore, 1) := by decide +kernel
theorem dL_output_12 : decode cL_output 12 = .ok (.goto 11, 3) := by decide +kernel
theorem dL_output_15 : decode cL_output 15 = .ok (.astore 5, 2) := by decide +kernel
theorem dL_output_17 : decode cL_output 17 = .ok (.iconst 1, 1) := by decide +kernel
theorem dL_output_18 : decode cL_output 18 = .ok (.ireturn, 1) := by decide +kernel
theorem dL_output_19 : decode cL_output 19 = .ok (.astore 5, 2) := by decide +kernel
theorem dL_output_21 : decode cL_output 21 = .ok (.iconst 2, 1) := by decide +kernel
theorem dL_output_22 : decode cL_output 22 = .ok (.ireturn, 1) := by decide +kernel
theorem dL_output_23 : decode cL_output 23 = .ok (.iconst 0, 1) := by decide +kernel
theorem dL_output_24 : decode cL_output 24 = .ok (.ireturn, 1) := by decide +kernel
theorem hdL_output : az_hd cL_output 6 RL 7 [(0, 12, 15, 19), (0, 12, 19, 13)] ["java/lang/IndexOutOfBoundsException", "java/lang/IllegalArgumentException"] := ⟨rfl, fun i q n hq hn => match i, hq, hn with | 0, hq, hn => by cases hq; cases hn; exact ⟨by decide, by decide, thkRL_19, thc_IndexOutOfBoundsException, ⟨5, 2, by decide, Or.inl ⟨rfl, dL_output_15⟩, dL_output_17, by decide +kernel, dL_output_18⟩⟩ | 1, hq, hn => by cases hq; cases hn; exact ⟨by decide, by decide, thkRL_13, thc_IllegalArgumentException, ⟨5, 2, by decide, Or.inl ⟨rfl, dL_output_19⟩, dL_output_21, by decide +kernel, dL_output_22⟩⟩ | k + 2, hq, hn => by simp at hq⟩
def PL_output (Q : Option Value → az_M → Prop) : az_T := (s_la 4 (s_ic (nI 0) (s_la 0 (s_li 1 (s_li 2 (s_li 3 (s_cvX 3 12 FX11_output ["java/lang/IndexOutOfBoundsException", "java/lang/IllegalArgumentException"] Q (s_i2l (s_lst (s_ic (nI 0) (s_ri Q)))))))))))
def FL_output : az_F := az_fun [true, false, false, false, true] 6 PL_output
theorem okL_output (l : Launch) (hlt : l.stackTraces = false) : az_metW l yL_output cL_output 6 (some .int) [(0, 12, 15, 19), (0, 12, 19, 13)] ["java/lang/IndexOutOfBoundsException", "java/lang/IllegalArgumentException"] ({ frames := 8, cells := 1, slots := 6, locals := 275 } : Room) FL_output := az_metW_of (own := RL) (by decide +kernel) rfl (by decide) (fun X Q C CW => by
  have h24 := az_ireturn C rfl dL_output_24
  have h23 := az_iconst (x := (nI 0)) C dL_output_23 (by decide +kernel) h24
  have h12 := az_goto (tgt := 23) C dL_output_12 (by decide) h23
  have h11 := az_last C dL_output_11 h12
  have h10 := az_i2l C dL_output_10 h11
  have h7 := az_tryV (ci := 12) C CW rfl okX11_output knX11_output imX11_output seX11_output mLRL_74 rfl (by decide) ⟨rfl, rfl, by decide, by decide⟩ ⟨rfl, rfl⟩ hdL_output dL_output_7 h10
  have h6 := az_iload_n C 3 rfl dL_output_6 h7
  have h5 := az_iload_n C 2 rfl dL_output_5 h6
  have h4 := az_iload_n C 1 rfl dL_output_4 h5
  have h3 := az_aload_n C 0 rfl dL_output_3 h4
  have h2 := az_iconst (x := (nI 0)) C dL_output_2 (by decide +kernel) h3
  have h0 := az_aload C dL_output_0 h2
  exact h0) l hlt
theorem dL_delivered_0 : decode cL_delivered 0 = .ok (.aload 4, 2) := by decide +kernel
theorem dL_delivered_2 : decode cL_delivered 2 = .ok (.iconst 0, 1) := by decide +kernel
theorem dL_delivered_3 : decode cL_delivered 3 = .ok (.aload_n 0, 1) := by decide +kernel
theorem dL_delivered_4 : decode cL_delivered 4 = .ok (.iload_n 1, 1) := by decide +kernel
theorem dL_delivered_5 : decode cL_delivered 5 = .ok (.iload_n 2, 1) := by decide +kernel
theorem dL_delivered_6 : decode cL_delivered 6 = .ok (.iload_n 3, 1) := by decide +kernel
theorem dL_delivered_7 : decode cL_delivered 7 = .ok (.invokevirtual 77, 3) := by decide +kernel
theorem dL_delivered_10 : decode cL_delivered 10 = .ok (.i2l, 1) := by decide +kernel
theorem dL_delivered_11 : decode cL_delivered 11 = .ok (.lastore, 1) := by decide +kernel
theorem dL_delivered_12 : decode cL_delivered 12 = .ok (.goto 7, 3) := by decide +kernel
theorem dL_delivered_15 : decode cL_delivered 15 = .ok (.astore 5, 2) := by decide +kernel
theorem dL_delivered_17 : decode cL_delivered 17 = .ok (.iconst 1, 1) := by decide +kernel
theorem dL_delivered_18 : decode cL_delivered 18 = .ok (.ireturn, 1) := by decide +kernel
theorem dL_delivered_19 : decode cL_delivered 19 = .ok (.iconst 0, 1) := by decide +kernel
theorem dL_delivered_20 : decode cL_delivered 20 = .ok (.ireturn, 1) := by decide +kernel
theorem hdL_delivered : az_hd cL_delivered 6 RL 7 [(0, 12, 15, 19)] ["java/lang/IndexOutOfBoundsException"] := ⟨rfl, fun i q n hq hn => match i, hq, hn with | 0, hq, hn => by cases hq; cases hn; exact ⟨by decide, by decide, thkRL_19, thc_IndexOutOfBoundsException, ⟨5, 2, by decide, Or.inl ⟨rfl, dL_delivered_15⟩, dL_delivered_17, by decide +kernel, dL_delivered_18⟩⟩ | k + 1, hq, hn => by simp at hq⟩
def PL_delivered (Q : Option Value → az_M → Prop) : az_T := (s_la 4 (s_ic (nI 0) (s_la 0 (s_li 1 (s_li 2 (s_li 3 (s_cvX 3 12 FX11_delivered ["java/lang/IndexOutOfBoundsException"] Q (s_i2l (s_lst (s_ic (nI 0) (s_ri Q)))))))))))
def FL_delivered : az_F := az_fun [true, false, false, false, true] 6 PL_delivered
theorem okL_delivered (l : Launch) (hlt : l.stackTraces = false) : az_metW l yL_delivered cL_delivered 6 (some .int) [(0, 12, 15, 19)] ["java/lang/IndexOutOfBoundsException"] ({ frames := 8, cells := 1, slots := 6, locals := 275 } : Room) FL_delivered := az_metW_of (own := RL) (by decide +kernel) rfl (by decide) (fun X Q C CW => by
  have h20 := az_ireturn C rfl dL_delivered_20
  have h19 := az_iconst (x := (nI 0)) C dL_delivered_19 (by decide +kernel) h20
  have h12 := az_goto (tgt := 19) C dL_delivered_12 (by decide) h19
  have h11 := az_last C dL_delivered_11 h12
  have h10 := az_i2l C dL_delivered_10 h11
  have h7 := az_tryV (ci := 12) C CW rfl okX11_delivered knX11_delivered imX11_delivered seX11_delivered mLRL_77 rfl (by decide) ⟨rfl, rfl, by decide, by decide⟩ ⟨rfl, rfl⟩ hdL_delivered dL_delivered_7 h10
  have h6 := az_iload_n C 3 rfl dL_delivered_6 h7
  have h5 := az_iload_n C 2 rfl dL_delivered_5 h6
  have h4 := az_iload_n C 1 rfl dL_delivered_4 h5
  have h3 := az_aload_n C 0 rfl dL_delivered_3 h4
  have h2 := az_iconst (x := (nI 0)) C dL_delivered_2 (by decide +kernel) h3
  have h0 := az_aload C dL_delivered_0 h2
  exact h0) l hlt
theorem dL_bus_0 : decode cL_bus 0 = .ok (.aload 4, 2) := by decide +kernel
theorem dL_bus_2 : decode cL_bus 2 = .ok (.iconst 0, 1) := by decide +kernel
theorem dL_bus_3 : decode cL_bus 3 = .ok (.aload_n 0, 1) := by decide +kernel
theorem dL_bus_4 : decode cL_bus 4 = .ok (.iload_n 1, 1) := by decide +kernel
theorem dL_bus_5 : decode cL_bus 5 = .ok (.iload_n 2, 1) := by decide +kernel
theorem dL_bus_6 : decode cL_bus 6 = .ok (.iload_n 3, 1) := by decide +kernel
theorem dL_bus_7 : decode cL_bus 7 = .ok (.invokevirtual 80, 3) := by decide +kernel
theorem dL_bus_10 : decode cL_bus 10 = .ok (.i2l, 1) := by decide +kernel
theorem dL_bus_11 : decode cL_bus 11 = .ok (.lastore, 1) := by decide +kernel
theorem dL_bus_12 : decode cL_bus 12 = .ok (.goto 11, 3) := by decide +kernel
theorem dL_bus_15 : decode cL_bus 15 = .ok (.astore 5, 2) := by decide +kernel
theorem dL_bus_17 : decode cL_bus 17 = .ok (.iconst 1, 1) := by decide +kernel
theorem dL_bus_18 : decode cL_bus 18 = .ok (.ireturn, 1) := by decide +kernel
theorem dL_bus_19 : decode cL_bus 19 = .ok (.astore 5, 2) := by decide +kernel
theorem dL_bus_21 : decode cL_bus 21 = .ok (.iconst 2, 1) := by decide +kernel
theorem dL_bus_22 : decode cL_bus 22 = .ok (.ireturn, 1) := by decide +kernel
theorem dL_bus_23 : decode cL_bus 23 = .ok (.iconst 0, 1) := by decide +kernel
theorem dL_bus_24 : decode cL_bus 24 = .ok (.ireturn, 1) := by decide +kernel
theorem hdL_bus : az_hd cL_bus 6 RL 7 [(0, 12, 15, 19), (0, 12, 19, 13)] ["java/lang/IndexOutOfBoundsException", "java/lang/IllegalArgumentException"] := ⟨rfl, fun i q n hq hn => match i, hq, hn with | 0, hq, hn => by cases hq; cases hn; exact ⟨by decide, by decide, thkRL_19, thc_IndexOutOfBoundsException, ⟨5, 2, by decide, Or.inl ⟨rfl, dL_bus_15⟩, dL_bus_17, by decide +kernel, dL_bus_18⟩⟩ | 1, hq, hn => by cases hq; cases hn; exact ⟨by decide, by decide, thkRL_13, thc_IllegalArgumentException, ⟨5, 2, by decide, Or.inl ⟨rfl, dL_bus_19⟩, dL_bus_21, by decide +kernel, dL_bus_22⟩⟩ | k + 2, hq, hn => by simp at hq⟩
def PL_bus (Q : Option Value → az_M → Prop) : az_T := (s_la 4 (s_ic (nI 0) (s_la 0 (s_li 1 (s_li 2 (s_li 3 (s_cvX 3 12 FX11_bus ["java/lang/IndexOutOfBoundsException", "java/lang/IllegalArgumentException"] Q (s_i2l (s_lst (s_ic (nI 0) (s_ri Q)))))))))))
def FL_bus : az_F := az_fun [true, false, false, false, true] 6 PL_bus
theorem okL_bus (l : Launch) (hlt : l.stackTraces = false) : az_metW l yL_bus cL_bus 6 (some .int) [(0, 12, 15, 19), (0, 12, 19, 13)] ["java/lang/IndexOutOfBoundsException", "java/lang/IllegalArgumentException"] ({ frames := 8, cells := 1, slots := 6, locals := 275 } : Room) FL_bus := az_metW_of (own := RL) (by decide +kernel) rfl (by decide) (fun X Q C CW => by
  have h24 := az_ireturn C rfl dL_bus_24
  have h23 := az_iconst (x := (nI 0)) C dL_bus_23 (by decide +kernel) h24
  have h12 := az_goto (tgt := 23) C dL_bus_12 (by decide) h23
  have h11 := az_last C dL_bus_11 h12
  have h10 := az_i2l C dL_bus_10 h11
  have h7 := az_tryV (ci := 12) C CW rfl okX11_bus knX11_bus imX11_bus seX11_bus mLRL_80 rfl (by decide) ⟨rfl, rfl, by decide, by decide⟩ ⟨rfl, rfl⟩ hdL_bus dL_bus_7 h10
  have h6 := az_iload_n C 3 rfl dL_bus_6 h7
  have h5 := az_iload_n C 2 rfl dL_bus_5 h6
  have h4 := az_iload_n C 1 rfl dL_bus_4 h5
  have h3 := az_aload_n C 0 rfl dL_bus_3 h4
  have h2 := az_iconst (x := (nI 0)) C dL_bus_2 (by decide +kernel) h3
  have h0 := az_aload C dL_bus_0 h2
  exact h0) l hlt
theorem dL_hour_0 : decode cL_hour 0 = .ok (.aload_n 3, 1) := by decide +kernel
theorem dL_hour_1 : decode cL_hour 1 = .ok (.iconst 0, 1) := by decide +kernel
theorem dL_hour_2 : decode cL_hour 2 = .ok (.aload_n 0, 1) := by decide +kernel
theorem dL_hour_3 : decode cL_hour 3 = .ok (.iload_n 1, 1) := by decide +kernel
theorem dL_hour_4 : decode cL_hour 4 = .ok (.iload_n 2, 1) := by decide +kernel
theorem dL_hour_5 : decode cL_hour 5 = .ok (.invokevirtual 83, 3) := by decide +kernel
theorem dL_hour_8 : decode cL_hour 8 = .ok (.i2l, 1) := by decide +kernel
theorem dL_hour_9 : decode cL_hour 9 = .ok (.lastore, 1) := by decide +kernel
theorem dL_hour_10 : decode cL_hour 10 = .ok (.goto 11, 3) := by decide +kernel
theorem dL_hour_13 : decode cL_hour 13 = .ok (.astore 4, 2) := by decide +kernel
theorem dL_hour_15 : decode cL_hour 15 = .ok (.iconst 1, 1) := by decide +kernel
theorem dL_hour_16 : decode cL_hour 16 = .ok (.ireturn, 1) := by decide +kernel
theorem dL_hour_17 : decode cL_hour 17 = .ok (.astore 4, 2) := by decide +kernel
theorem dL_hour_19 : decode cL_hour 19 = .ok (.iconst 2, 1) := by decide +kernel
theorem dL_hour_20 : decode cL_hour 20 = .ok (.ireturn, 1) := by decide +kernel
theorem dL_hour_21 : decode cL_hour 21 = .ok (.iconst 0, 1) := by decide +kernel
theorem dL_hour_22 : decode cL_hour 22 = .ok (.ireturn, 1) := by decide +kernel
theorem hdL_hour : az_hd cL_hour 5 RL 5 [(0, 10, 13, 19), (0, 10, 17, 13)] ["java/lang/IndexOutOfBoundsException", "java/lang/IllegalArgumentException"] := ⟨rfl, fun i q n hq hn => match i, hq, hn with | 0, hq, hn => by cases hq; cases hn; exact ⟨by decide, by decide, thkRL_19, thc_IndexOutOfBoundsException, ⟨4, 2, by decide, Or.inl ⟨rfl, dL_hour_13⟩, dL_hour_15, by decide +kernel, dL_hour_16⟩⟩ | 1, hq, hn => by cases hq; cases hn; exact ⟨by decide, by decide, thkRL_13, thc_IllegalArgumentException, ⟨4, 2, by decide, Or.inl ⟨rfl, dL_hour_17⟩, dL_hour_19, by decide +kernel, dL_hour_20⟩⟩ | k + 2, hq, hn => by simp at hq⟩
def PL_hour (Q : Option Value → az_M → Prop) : az_T := (s_la 3 (s_ic (nI 0) (s_la 0 (s_li 1 (s_li 2 (s_cvX 2 12 FX11_hour ["java/lang/IndexOutOfBoundsException", "java/lang/IllegalArgumentException"] Q (s_i2l (s_lst (s_ic (nI 0) (s_ri Q))))))))))
def FL_hour : az_F := az_fun [true, false, false, true] 5 PL_hour
theorem okL_hour (l : Launch) (hlt : l.stackTraces = false) : az_metW l yL_hour cL_hour 5 (some .int) [(0, 10, 13, 19), (0, 10, 17, 13)] ["java/lang/IndexOutOfBoundsException", "java/lang/IllegalArgumentException"] ({ frames := 8, cells := 1, slots := 6, locals := 274 } : Room) FL_hour := az_metW_of (own := RL) (by decide +kernel) rfl (by decide) (fun X Q C CW => by
  have h22 := az_ireturn C rfl dL_hour_22
  have h21 := az_iconst (x := (nI 0)) C dL_hour_21 (by decide +kernel) h22
  have h10 := az_goto (tgt := 21) C dL_hour_10 (by decide) h21
  have h9 := az_last C dL_hour_9 h10
  have h8 := az_i2l C dL_hour_8 h9
  have h5 := az_tryV (ci := 12) C CW rfl okX11_hour knX11_hour imX11_hour seX11_hour mLRL_83 rfl (by decide) ⟨rfl, rfl, by decide, by decide⟩ ⟨rfl, rfl⟩ hdL_hour dL_hour_5 h8
  have h4 := az_iload_n C 2 rfl dL_hour_4 h5
  have h3 := az_iload_n C 1 rfl dL_hour_3 h4
  have h2 := az_aload_n C 0 rfl dL_hour_2 h3
  have h1 := az_iconst (x := (nI 0)) C dL_hour_1 (by decide +kernel) h2
  have h0 := az_aload_n C 3 rfl dL_hour_0 h1
  exact h0) l hlt
theorem dL_total_0 : decode cL_total 0 = .ok (.aload_n 2, 1) := by decide +kernel
theorem dL_total_1 : decode cL_total 1 = .ok (.iconst 0, 1) := by decide +kernel
theorem dL_total_2 : decode cL_total 2 = .ok (.aload_n 0, 1) := by decide +kernel
theorem dL_total_3 : decode cL_total 3 = .ok (.iload_n 1, 1) := by decide +kernel
theorem dL_total_4 : decode cL_total 4 = .ok (.invokevirtual 86, 3) := by decide +kernel
theorem dL_total_7 : decode cL_total 7 = .ok (.i2l, 1) := by decide +kernel
theorem dL_total_8 : decode cL_total 8 = .ok (.lastore, 1) := by decide +kernel
theorem dL_total_9 : decode cL_total 9 = .ok (.goto 6, 3) := by decide +kernel
theorem dL_total_12 : decode cL_total 12 = .ok (.astore_n 3, 1) := by decide +kernel
theorem dL_total_13 : decode cL_total 13 = .ok (.iconst 1, 1) := by decide +kernel
theorem dL_total_14 : decode cL_total 14 = .ok (.ireturn, 1) := by decide +kernel
theorem dL_total_15 : decode cL_total 15 = .ok (.iconst 0, 1) := by decide +kernel
theorem dL_total_16 : decode cL_total 16 = .ok (.ireturn, 1) := by decide +kernel
theorem hdL_total : az_hd cL_total 4 RL 4 [(0, 9, 12, 13)] ["java/lang/IllegalArgumentException"] := ⟨rfl, fun i q n hq hn => match i, hq, hn with | 0, hq, hn => by cases hq; cases hn; exact ⟨by decide, by decide, thkRL_13, thc_IllegalArgumentException, ⟨3, 1, by decide, Or.inr ⟨rfl, 3, rfl, dL_total_12⟩, dL_total_13, by decide +kernel, dL_total_14⟩⟩ | k + 1, hq, hn => by simp at hq⟩
def PL_total (Q : Option Value → az_M → Prop) : az_T := (s_la 2 (s_ic (nI 0) (s_la 0 (s_li 1 (s_cvX 1 12 FX11_total ["java/lang/IllegalArgumentException"] Q (s_i2l (s_lst (s_ic (nI 0) (s_ri Q)))))))))
def FL_total : az_F := az_fun [true, false, true] 4 PL_total
theorem okL_total (l : Launch) (hlt : l.stackTraces = false) : az_metW l yL_total cL_total 4 (some .int) [(0, 9, 12, 13)] ["java/lang/IllegalArgumentException"] ({ frames := 8, cells := 1, slots := 6, locals := 273 } : Room) FL_total := az_metW_of (own := RL) (by decide +kernel) rfl (by decide) (fun X Q C CW => by
  have h16 := az_ireturn C rfl dL_total_16
  have h15 := az_iconst (x := (nI 0)) C dL_total_15 (by decide +kernel) h16
  have h9 := az_goto (tgt := 15) C dL_total_9 (by decide) h15
  have h8 := az_last C dL_total_8 h9
  have h7 := az_i2l C dL_total_7 h8
  have h4 := az_tryV (ci := 12) C CW rfl okX11_total knX11_total imX11_total seX11_total mLRL_86 rfl (by decide) ⟨rfl, rfl, by decide, by decide⟩ ⟨rfl, rfl⟩ hdL_total dL_total_4 h7
  have h3 := az_iload_n C 1 rfl dL_total_3 h4
  have h2 := az_aload_n C 0 rfl dL_total_2 h3
  have h1 := az_iconst (x := (nI 0)) C dL_total_1 (by decide +kernel) h2
  have h0 := az_aload_n C 2 rfl dL_total_0 h1
  exact h0) l hlt
theorem dL_violationCount_0 : decode cL_violationCount 0 = .ok (.aload_n 2, 1) := by decide +kernel
theorem dL_violationCount_1 : decode cL_violationCount 1 = .ok (.iconst 0, 1) := by decide +kernel
theorem dL_violationCount_2 : decode cL_violationCount 2 = .ok (.aload_n 0, 1) := by decide +kernel
theorem dL_violationCount_3 : decode cL_violationCount 3 = .ok (.iload_n 1, 1) := by decide +kernel
theorem dL_violationCount_4 : decode cL_violationCount 4 = .ok (.invokevirtual 89, 3) := by decide +kernel
theorem dL_violationCount_7 : decode cL_violationCount 7 = .ok (.i2l, 1) := by decide +kernel
theorem dL_violationCount_8 : decode cL_violationCount 8 = .ok (.lastore, 1) := by decide +kernel
theorem dL_violationCount_9 : decode cL_violationCount 9 = .ok (.goto 6, 3) := by decide +kernel
theorem dL_violationCount_12 : decode cL_violationCount 12 = .ok (.astore_n 3, 1) := by decide +kernel
theorem dL_violationCount_13 : decode cL_violationCount 13 = .ok (.iconst 1, 1) := by decide +kernel
theorem dL_violationCount_14 : decode cL_violationCount 14 = .ok (.ireturn, 1) := by decide +kernel
theorem dL_violationCount_15 : decode cL_violationCount 15 = .ok (.iconst 0, 1) := by decide +kernel
theorem dL_violationCount_16 : decode cL_violationCount 16 = .ok (.ireturn, 1) := by decide +kernel
theorem hdL_violationCount : az_hd cL_violationCount 4 RL 4 [(0, 9, 12, 13)] ["java/lang/IllegalArgumentException"] := ⟨rfl, fun i q n hq hn => match i, hq, hn with | 0, hq, hn => by cases hq; cases hn; exact ⟨by decide, by decide, thkRL_13, thc_IllegalArgumentException, ⟨3, 1, by decide, Or.inr ⟨rfl, 3, rfl, dL_violationCount_12⟩, dL_violationCount_13, by decide +kernel, dL_violationCount_14⟩⟩ | k + 1, hq, hn => by simp at hq⟩
def PL_violationCount (Q : Option Value → az_M → Prop) : az_T := (s_la 2 (s_ic (nI 0) (s_la 0 (s_li 1 (s_cvX 1 12 FX11_violationCount ["java/lang/IllegalArgumentException"] Q (s_i2l (s_lst (s_ic (nI 0) (s_ri Q)))))))))
def FL_violationCount : az_F := az_fun [true, false, true] 4 PL_violationCount
theorem okL_violationCount (l : Launch) (hlt : l.stackTraces = false) : az_metW l yL_violationCount cL_violationCount 4 (some .int) [(0, 9, 12, 13)] ["java/lang/IllegalArgumentException"] ({ frames := 8, cells := 1, slots := 6, locals := 273 } : Room) FL_violationCount := az_metW_of (own := RL) (by decide +kernel) rfl (by decide) (fun X Q C CW => by
  have h16 := az_ireturn C rfl dL_violationCount_16
  have h15 := az_iconst (x := (nI 0)) C dL_violationCount_15 (by decide +kernel) h16
  have h9 := az_goto (tgt := 15) C dL_violationCount_9 (by decide) h15
  have h8 := az_last C dL_violationCount_8 h9
  have h7 := az_i2l C dL_violationCount_7 h8
  have h4 := az_tryV (ci := 12) C CW rfl okX11_violationCount knX11_violationCount imX11_violationCount seX11_violationCount mLRL_89 rfl (by decide) ⟨rfl, rfl, by decide, by decide⟩ ⟨rfl, rfl⟩ hdL_violationCount dL_violationCount_4 h7
  have h3 := az_iload_n C 1 rfl dL_violationCount_3 h4
  have h2 := az_aload_n C 0 rfl dL_violationCount_2 h3
  have h1 := az_iconst (x := (nI 0)) C dL_violationCount_1 (by decide +kernel) h2
  have h0 := az_aload_n C 2 rfl dL_violationCount_0 h1
  exact h0) l hlt
theorem dL_violation_0 : decode cL_violation 0 = .ok (.aload_n 3, 1) := by decide +kernel
theorem dL_violation_1 : decode cL_violation 1 = .ok (.iconst 0, 1) := by decide +kernel
theorem dL_violation_2 : decode cL_violation 2 = .ok (.aload_n 0, 1) := by decide +kernel
theorem dL_violation_3 : decode cL_violation 3 = .ok (.iload_n 1, 1) := by decide +kernel
theorem dL_violation_4 : decode cL_violation 4 = .ok (.iload_n 2, 1) := by decide +kernel
theorem dL_violation_5 : decode cL_violation 5 = .ok (.invokevirtual 92, 3) := by decide +kernel
theorem dL_violation_8 : decode cL_violation 8 = .ok (.i2l, 1) := by decide +kernel
theorem dL_violation_9 : decode cL_violation 9 = .ok (.lastore, 1) := by decide +kernel
theorem dL_violation_10 : decode cL_violation 10 = .ok (.goto 11, 3) := by decide +kernel
theorem dL_violation_13 : decode cL_violation 13 = .ok (.astore 4, 2) := by decide +kernel
theorem dL_violation_15 : decode cL_violation 15 = .ok (.iconst 1, 1) := by decide +kernel
theorem dL_violation_16 : decode cL_violation 16 = .ok (.ireturn, 1) := by decide +kernel
theorem dL_violation_17 : decode cL_violation 17 = .ok (.astore 4, 2) := by decide +kernel
theorem dL_violation_19 : decode cL_violation 19 = .ok (.iconst 2, 1) := by decide +kernel
theorem dL_violation_20 : decode cL_violation 20 = .ok (.ireturn, 1) := by decide +kernel
theorem dL_violation_21 : decode cL_violation 21 = .ok (.iconst 0, 1) := by decide +kernel
theorem dL_violation_22 : decode cL_violation 22 = .ok (.ireturn, 1) := by decide +kernel
theorem hdL_violation : az_hd cL_violation 5 RL 5 [(0, 10, 13, 72), (0, 10, 17, 13)] ["java/util/NoSuchElementException", "java/lang/IllegalArgumentException"] := ⟨rfl, fun i q n hq hn => match i, hq, hn with | 0, hq, hn => by cases hq; cases hn; exact ⟨by decide, by decide, thkRL_72, thc_NoSuchElementException, ⟨4, 2, by decide, Or.inl ⟨rfl, dL_violation_13⟩, dL_violation_15, by decide +kernel, dL_violation_16⟩⟩ | 1, hq, hn => by cases hq; cases hn; exact ⟨by decide, by decide, thkRL_13, thc_IllegalArgumentException, ⟨4, 2, by decide, Or.inl ⟨rfl, dL_violation_17⟩, dL_violation_19, by decide +kernel, dL_violation_20⟩⟩ | k + 2, hq, hn => by simp at hq⟩
def PL_violation (Q : Option Value → az_M → Prop) : az_T := (s_la 3 (s_ic (nI 0) (s_la 0 (s_li 1 (s_li 2 (s_cvX 2 12 FX11_violation ["java/util/NoSuchElementException", "java/lang/IllegalArgumentException"] Q (s_i2l (s_lst (s_ic (nI 0) (s_ri Q))))))))))
def FL_violation : az_F := az_fun [true, false, false, true] 5 PL_violation
theorem okL_violation (l : Launch) (hlt : l.stackTraces = false) : az_metW l yL_violation cL_violation 5 (some .int) [(0, 10, 13, 72), (0, 10, 17, 13)] ["java/util/NoSuchElementException", "java/lang/IllegalArgumentException"] ({ frames := 8, cells := 1, slots := 6, locals := 274 } : Room) FL_violation := az_metW_of (own := RL) (by decide +kernel) rfl (by decide) (fun X Q C CW => by
  have h22 := az_ireturn C rfl dL_violation_22
  have h21 := az_iconst (x := (nI 0)) C dL_violation_21 (by decide +kernel) h22
  have h10 := az_goto (tgt := 21) C dL_violation_10 (by decide) h21
  have h9 := az_last C dL_violation_9 h10
  have h8 := az_i2l C dL_violation_8 h9
  have h5 := az_tryV (ci := 12) C CW rfl okX11_violation knX11_violation imX11_violation seX11_violation mLRL_92 rfl (by decide) ⟨rfl, rfl, by decide, by decide⟩ ⟨rfl, rfl⟩ hdL_violation dL_violation_5 h8
  have h4 := az_iload_n C 2 rfl dL_violation_4 h5
  have h3 := az_iload_n C 1 rfl dL_violation_3 h4
  have h2 := az_aload_n C 0 rfl dL_violation_2 h3
  have h1 := az_iconst (x := (nI 0)) C dL_violation_1 (by decide +kernel) h2
  have h0 := az_aload_n C 3 rfl dL_violation_0 h1
  exact h0) l hlt
theorem dL_meanCost_0 : decode cL_meanCost 0 = .ok (.aload_n 1, 1) := by decide +kernel
theorem dL_meanCost_1 : decode cL_meanCost 1 = .ok (.iconst 0, 1) := by decide +kernel
theorem dL_meanCost_2 : decode cL_meanCost 2 = .ok (.aload_n 0, 1) := by decide +kernel
theorem dL_meanCost_3 : decode cL_meanCost 3 = .ok (.invokevirtual 95, 3) := by decide +kernel
theorem dL_meanCost_6 : decode cL_meanCost 6 = .ok (.dastore, 1) := by decide +kernel
theorem dL_meanCost_7 : decode cL_meanCost 7 = .ok (.goto 6, 3) := by decide +kernel
theorem dL_meanCost_10 : decode cL_meanCost 10 = .ok (.astore_n 2, 1) := by decide +kernel
theorem dL_meanCost_11 : decode cL_meanCost 11 = .ok (.iconst 1, 1) := by decide +kernel
theorem dL_meanCost_12 : decode cL_meanCost 12 = .ok (.ireturn, 1) := by decide +kernel
theorem dL_meanCost_13 : decode cL_meanCost 13 = .ok (.iconst 0, 1) := by decide +kernel
theorem dL_meanCost_14 : decode cL_meanCost 14 = .ok (.ireturn, 1) := by decide +kernel
theorem hdL_meanCost : az_hd cL_meanCost 3 RL 3 [(0, 7, 10, 99)] ["java/lang/ArithmeticException"] := ⟨rfl, fun i q n hq hn => match i, hq, hn with | 0, hq, hn => by cases hq; cases hn; exact ⟨by decide, by decide, thkRL_99, thc_ArithmeticException, ⟨2, 1, by decide, Or.inr ⟨rfl, 2, rfl, dL_meanCost_10⟩, dL_meanCost_11, by decide +kernel, dL_meanCost_12⟩⟩ | k + 1, hq, hn => by simp at hq⟩
def PL_meanCost (Q : Option Value → az_M → Prop) : az_T := (s_la 1 (s_ic (nI 0) (s_la 0 (s_cvX 0 12 FX11_meanCost ["java/lang/ArithmeticException"] Q (s_dst (s_ic (nI 0) (s_ri Q)))))))
def FL_meanCost : az_F := az_fun [true, true] 3 PL_meanCost
theorem okL_meanCost (l : Launch) (hlt : l.stackTraces = false) : az_metW l yL_meanCost cL_meanCost 3 (some .int) [(0, 7, 10, 99)] ["java/lang/ArithmeticException"] ({ frames := 8, cells := 1, slots := 6, locals := 273 } : Room) FL_meanCost := az_metW_of (own := RL) (by decide +kernel) rfl (by decide) (fun X Q C CW => by
  have h14 := az_ireturn C rfl dL_meanCost_14
  have h13 := az_iconst (x := (nI 0)) C dL_meanCost_13 (by decide +kernel) h14
  have h7 := az_goto (tgt := 13) C dL_meanCost_7 (by decide) h13
  have h6 := az_dast C dL_meanCost_6 h7
  have h3 := az_tryV (ci := 12) C CW rfl okX11_meanCost knX11_meanCost imX11_meanCost seX11_meanCost mLRL_95 rfl (by decide) ⟨rfl, rfl, by decide, by decide⟩ ⟨rfl, rfl⟩ hdL_meanCost dL_meanCost_3 h6
  have h2 := az_aload_n C 0 rfl dL_meanCost_2 h3
  have h1 := az_iconst (x := (nI 0)) C dL_meanCost_1 (by decide +kernel) h2
  have h0 := az_aload_n C 1 rfl dL_meanCost_0 h1
  exact h0) l hlt
theorem dL_load_0 : decode cL_load 0 = .ok (.aload_n 2, 1) := by decide +kernel
theorem dL_load_1 : decode cL_load 1 = .ok (.iconst 0, 1) := by decide +kernel
theorem dL_load_2 : decode cL_load 2 = .ok (.aload_n 0, 1) := by decide +kernel
theorem dL_load_3 : decode cL_load 3 = .ok (.iload_n 1, 1) := by decide +kernel
theorem dL_load_4 : decode cL_load 4 = .ok (.invokevirtual 101, 3) := by decide +kernel
theorem dL_load_7 : decode cL_load 7 = .ok (.f2d, 1) := by decide +kernel
theorem dL_load_8 : decode cL_load 8 = .ok (.dastore, 1) := by decide +kernel
theorem dL_load_9 : decode cL_load 9 = .ok (.goto 9, 3) := by decide +kernel
theorem dL_load_12 : decode cL_load 12 = .ok (.astore_n 3, 1) := by decide +kernel
theorem dL_load_13 : decode cL_load 13 = .ok (.iconst 1, 1) := by decide +kernel
theorem dL_load_14 : decode cL_load 14 = .ok (.ireturn, 1) := by decide +kernel
theorem dL_load_15 : decode cL_load 15 = .ok (.astore_n 3, 1) := by decide +kernel
theorem dL_load_16 : decode cL_load 16 = .ok (.iconst 2, 1) := by decide +kernel
theorem dL_load_17 : decode cL_load 17 = .ok (.ireturn, 1) := by decide +kernel
theorem dL_load_18 : decode cL_load 18 = .ok (.iconst 0, 1) := by decide +kernel
theorem dL_load_19 : decode cL_load 19 = .ok (.ireturn, 1) := by decide +kernel
theorem hdL_load : az_hd cL_load 4 RL 4 [(0, 9, 12, 19), (0, 9, 15, 99)] ["java/lang/IndexOutOfBoundsException", "java/lang/ArithmeticException"] := ⟨rfl, fun i q n hq hn => match i, hq, hn with | 0, hq, hn => by cases hq; cases hn; exact ⟨by decide, by decide, thkRL_19, thc_IndexOutOfBoundsException, ⟨3, 1, by decide, Or.inr ⟨rfl, 3, rfl, dL_load_12⟩, dL_load_13, by decide +kernel, dL_load_14⟩⟩ | 1, hq, hn => by cases hq; cases hn; exact ⟨by decide, by decide, thkRL_99, thc_ArithmeticException, ⟨3, 1, by decide, Or.inr ⟨rfl, 3, rfl, dL_load_15⟩, dL_load_16, by decide +kernel, dL_load_17⟩⟩ | k + 2, hq, hn => by simp at hq⟩
def PL_load (Q : Option Value → az_M → Prop) : az_T := (s_la 2 (s_ic (nI 0) (s_la 0 (s_li 1 (s_cvX 1 12 FX11_load ["java/lang/IndexOutOfBoundsException", "java/lang/ArithmeticException"] Q (s_f2d (s_dst (s_ic (nI 0) (s_ri Q)))))))))
def FL_load : az_F := az_fun [true, false, true] 4 PL_load
theorem okL_load (l : Launch) (hlt : l.stackTraces = false) : az_metW l yL_load cL_load 4 (some .int) [(0, 9, 12, 19), (0, 9, 15, 99)] ["java/lang/IndexOutOfBoundsException", "java/lang/ArithmeticException"] ({ frames := 8, cells := 1, slots := 6, locals := 277 } : Room) FL_load := az_metW_of (own := RL) (by decide +kernel) rfl (by decide) (fun X Q C CW => by
  have h19 := az_ireturn C rfl dL_load_19
  have h18 := az_iconst (x := (nI 0)) C dL_load_18 (by decide +kernel) h19
  have h9 := az_goto (tgt := 18) C dL_load_9 (by decide) h18
  have h8 := az_dast C dL_load_8 h9
  have h7 := az_f2d C dL_load_7 h8
  have h4 := az_tryV (ci := 12) C CW rfl okX11_load knX11_load imX11_load seX11_load mLRL_101 rfl (by decide) ⟨rfl, rfl, by decide, by decide⟩ ⟨rfl, rfl⟩ hdL_load dL_load_4 h7
  have h3 := az_iload_n C 1 rfl dL_load_3 h4
  have h2 := az_aload_n C 0 rfl dL_load_2 h3
  have h1 := az_iconst (x := (nI 0)) C dL_load_1 (by decide +kernel) h2
  have h0 := az_aload_n C 2 rfl dL_load_0 h1
  exact h0) l hlt
theorem dL_undo_0 : decode cL_undo 0 = .ok (.aload_n 1, 1) := by decide +kernel
theorem dL_undo_1 : decode cL_undo 1 = .ok (.iconst 0, 1) := by decide +kernel
theorem dL_undo_2 : decode cL_undo 2 = .ok (.aload_n 0, 1) := by decide +kernel
theorem dL_undo_3 : decode cL_undo 3 = .ok (.invokevirtual 105, 3) := by decide +kernel
theorem dL_undo_6 : decode cL_undo 6 = .ok (.i2l, 1) := by decide +kernel
theorem dL_undo_7 : decode cL_undo 7 = .ok (.lastore, 1) := by decide +kernel
theorem dL_undo_8 : decode cL_undo 8 = .ok (.goto 6, 3) := by decide +kernel
theorem dL_undo_11 : decode cL_undo 11 = .ok (.astore_n 2, 1) := by decide +kernel
theorem dL_undo_12 : decode cL_undo 12 = .ok (.iconst 1, 1) := by decide +kernel
theorem dL_undo_13 : decode cL_undo 13 = .ok (.ireturn, 1) := by decide +kernel
theorem dL_undo_14 : decode cL_undo 14 = .ok (.iconst 0, 1) := by decide +kernel
theorem dL_undo_15 : decode cL_undo 15 = .ok (.ireturn, 1) := by decide +kernel
theorem hdL_undo : az_hd cL_undo 3 RL 3 [(0, 8, 11, 31)] ["java/lang/IllegalStateException"] := ⟨rfl, fun i q n hq hn => match i, hq, hn with | 0, hq, hn => by cases hq; cases hn; exact ⟨by decide, by decide, thkRL_31, thc_IllegalStateException, ⟨2, 1, by decide, Or.inr ⟨rfl, 2, rfl, dL_undo_11⟩, dL_undo_12, by decide +kernel, dL_undo_13⟩⟩ | k + 1, hq, hn => by simp at hq⟩
def PL_undo (Q : Option Value → az_M → Prop) : az_T := (s_la 1 (s_ic (nI 0) (s_la 0 (s_cvX 0 12 FX11_undo ["java/lang/IllegalStateException"] Q (s_i2l (s_lst (s_ic (nI 0) (s_ri Q))))))))
def FL_undo : az_F := az_fun [true, true] 3 PL_undo
theorem okL_undo (l : Launch) (hlt : l.stackTraces = false) : az_metW l yL_undo cL_undo 3 (some .int) [(0, 8, 11, 31)] ["java/lang/IllegalStateException"] ({ frames := 8, cells := 1, slots := 6, locals := 163 } : Room) FL_undo := az_metW_of (own := RL) (by decide +kernel) rfl (by decide) (fun X Q C CW => by
  have h15 := az_ireturn C rfl dL_undo_15
  have h14 := az_iconst (x := (nI 0)) C dL_undo_14 (by decide +kernel) h15
  have h8 := az_goto (tgt := 14) C dL_undo_8 (by decide) h14
  have h7 := az_last C dL_undo_7 h8
  have h6 := az_i2l C dL_undo_6 h7
  have h3 := az_tryV (ci := 12) C CW rfl okX11_undo knX11_undo imX11_undo seX11_undo mLRL_105 rfl (by decide) ⟨rfl, rfl, by decide, by decide⟩ ⟨rfl, rfl⟩ hdL_undo dL_undo_3 h6
  have h2 := az_aload_n C 0 rfl dL_undo_2 h3
  have h1 := az_iconst (x := (nI 0)) C dL_undo_1 (by decide +kernel) h2
  have h0 := az_aload_n C 1 rfl dL_undo_0 h1
  exact h0) l hlt
theorem dL_restore_0 : decode cL_restore 0 = .ok (.aload_n 1, 1) := by decide +kernel
theorem dL_restore_1 : decode cL_restore 1 = .ok (.iconst 0, 1) := by decide +kernel
theorem dL_restore_2 : decode cL_restore 2 = .ok (.aload_n 0, 1) := by decide +kernel
theorem dL_restore_3 : decode cL_restore 3 = .ok (.invokevirtual 108, 3) := by decide +kernel
theorem dL_restore_6 : decode cL_restore 6 = .ok (.i2l, 1) := by decide +kernel
theorem dL_restore_7 : decode cL_restore 7 = .ok (.lastore, 1) := by decide +kernel
theorem dL_restore_8 : decode cL_restore 8 = .ok (.goto 6, 3) := by decide +kernel
theorem dL_restore_11 : decode cL_restore 11 = .ok (.astore_n 2, 1) := by decide +kernel
theorem dL_restore_12 : decode cL_restore 12 = .ok (.iconst 1, 1) := by decide +kernel
theorem dL_restore_13 : decode cL_restore 13 = .ok (.ireturn, 1) := by decide +kernel
theorem dL_restore_14 : decode cL_restore 14 = .ok (.iconst 0, 1) := by decide +kernel
theorem dL_restore_15 : decode cL_restore 15 = .ok (.ireturn, 1) := by decide +kernel
theorem hdL_restore : az_hd cL_restore 3 RL 3 [(0, 8, 11, 31)] ["java/lang/IllegalStateException"] := ⟨rfl, fun i q n hq hn => match i, hq, hn with | 0, hq, hn => by cases hq; cases hn; exact ⟨by decide, by decide, thkRL_31, thc_IllegalStateException, ⟨2, 1, by decide, Or.inr ⟨rfl, 2, rfl, dL_restore_11⟩, dL_restore_12, by decide +kernel, dL_restore_13⟩⟩ | k + 1, hq, hn => by simp at hq⟩
def PL_restore (Q : Option Value → az_M → Prop) : az_T := (s_la 1 (s_ic (nI 0) (s_la 0 (s_cvX 0 12 FX11_restore ["java/lang/IllegalStateException"] Q (s_i2l (s_lst (s_ic (nI 0) (s_ri Q))))))))
def FL_restore : az_F := az_fun [true, true] 3 PL_restore
theorem okL_restore (l : Launch) (hlt : l.stackTraces = false) : az_metW l yL_restore cL_restore 3 (some .int) [(0, 8, 11, 31)] ["java/lang/IllegalStateException"] ({ frames := 8, cells := 1, slots := 6, locals := 142 } : Room) FL_restore := az_metW_of (own := RL) (by decide +kernel) rfl (by decide) (fun X Q C CW => by
  have h15 := az_ireturn C rfl dL_restore_15
  have h14 := az_iconst (x := (nI 0)) C dL_restore_14 (by decide +kernel) h15
  have h8 := az_goto (tgt := 14) C dL_restore_8 (by decide) h14
  have h7 := az_last C dL_restore_7 h8
  have h6 := az_i2l C dL_restore_6 h7
  have h3 := az_tryV (ci := 12) C CW rfl okX11_restore knX11_restore imX11_restore seX11_restore mLRL_108 rfl (by decide) ⟨rfl, rfl, by decide, by decide⟩ ⟨rfl, rfl⟩ hdL_restore dL_restore_3 h6
  have h2 := az_aload_n C 0 rfl dL_restore_2 h3
  have h1 := az_iconst (x := (nI 0)) C dL_restore_1 (by decide +kernel) h2
  have h0 := az_aload_n C 1 rfl dL_restore_0 h1
  exact h0) l hlt
