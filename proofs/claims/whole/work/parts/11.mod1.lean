/-! by program (wip/whole/run_gen.py): decode rows, predicates and contracts of 39 methods -/
/-! a call over more than four values, all of one word each -/
def az_c1 : List Value → Bool
  | [] => true
  | .int _ :: t => az_c1 t
  | .ref _ :: t => az_c1 t
  | _ :: _ => false
theorem az_c1_sum {ad : Nat → Nat} : ∀ {st : List Value}, az_c1 st = true → ((st.map (az_v ad)).map fun v => v.category).sum = st.length
  | [], _ => rfl
  | .int x :: t, h => by
    have := az_c1_sum (ad := ad) (st := t) h
    simp only [List.map_cons, List.sum_cons, List.length_cons, this]
    show 1 + t.length = _
    omega
  | .ref x :: t, h => by
    have := az_c1_sum (ad := ad) (st := t) h
    simp only [List.map_cons, List.sum_cons, List.length_cons, this]
    show 1 + t.length = _
    omega
theorem az_room1 {st : List Value} {ad : Nat → Nat} (h : az_c1 st = true ∧ st.length ≤ 8) : ((st.map (az_v ad)).map fun v => v.category).sum ≤ 8 := by
  rw [az_c1_sum h.1]; exact h.2
def s_cw (n ci : Nat) (F : az_F) (P : az_T) : az_T := fun ls st q M => match az_pop (n + 1) [] st with
  | some (.ref b :: as, rest) => b < M.1.1 ∧ (M.1.2.1 b).1 = ci ∧ (az_c1 rest = true ∧ rest.length ≤ 8) ∧ F (.ref b :: as) M (fun r M1 => P ls (r.toList ++ rest) q M1)
  | _ => False
theorem s_cw_o {n ci : Nat} {F : az_F} {P : az_T} {ls st q M} (h : s_cw n ci F P ls st q M) : ∃ (b : Nat) (as rest : List Value), as.length = n ∧ st = as.reverse ++ .ref b :: rest ∧ b < M.1.1 ∧ (M.1.2.1 b).1 = ci ∧ (az_c1 rest = true ∧ rest.length ≤ 8) ∧ F (.ref b :: as) M (fun r M1 => P ls (r.toList ++ rest) q M1) := by
  unfold s_cw at h
  split at h
  · rename_i b as rest heq
    obtain ⟨ps, h1, h2, h3⟩ := az_pop_eq heq
    rw [List.append_nil] at h3
    have h4 : ps = as.reverse ++ [.ref b] := by
      have := congrArg List.reverse h3
      rw [List.reverse_reverse] at this
      rw [← this]
      simp
    refine ⟨b, as, rest, ?_, ?_, h⟩
    · rw [h4] at h1
      simp at h1
      exact h1
    · rw [h2, h4]
      simp
  · exact h.elim
theorem az_callW {X : az_X} {cc : ByteArray} {nL : Nat} {own : String} {Ts : List Cond} {rm : Room} {ret : Option FieldType} {Qs : Option Value → az_M → Prop} {pc : Nat} {index ci n N : Nat} {Cn : String} {T : u_T} {y : MethodName} {bytes : ByteArray} {maxL : Nat} {ret1 : Option FieldType} {rm1 : Room} {F : az_F} {P : az_T} (C : az_C X cc nL own Ts rm ret Qs) (hM : ∀ l, az_met l y bytes maxL ret1 rm1 F) (kn : az_kn y bytes maxL ret1 n) (hin : Cond.instanceMethod y ∈ az_gw) (hse : Cond.selects Cn y y ∈ az_gw) (hlnk : Cond.methodLink own index y ∈ az_gw) (hc : vwCl[ci]? = some (Cn, T, N)) (hci : ci < 20) (hrm : az_rm rm rm1 maxL) (d : decode cc pc = .ok (.invokevirtual index, 3)) (kk : az_ok X (pc + 3) P) : az_ok X pc (s_cw n ci F P) := by
  obtain ⟨p, l, e, R, s, m, args, below, meth, c, D, tc, A, Q, RA⟩ := X
  obtain ⟨hx, hb, hml, hown, hts, hK, hN, hA, hlk, hr, hR, hsub, hQ⟩ := C
  intro ls st k M h ad H Ls locs hra hl hP hD hS hz
  obtain ⟨b, as, rest, hn, rfl, hb1, hk1, h4, hF⟩ := s_cw_o h
  have he := az_get (tc := tc) (ad := ad) hb1
  rw [az_obj hk1 hci] at he
  have Mt := hM l D tc ad H.size (.ref b :: as) M _ hF
  rw [hrm.1, hrm.2.1] at Mt
  have hrun := va_runV (e := e) (below := below) (meth := meth) (As := as.map (az_v ad)) (rest := rest.map (az_v ad)) (b := ad b) (C := Cn) (g := F0 m pc Ls ((as.reverse ++ .ref b :: rest).map (az_v ad))) (locs := locs) (cells := k.1) (slots := k.2) ⟨hx, hb, hml, hown, hts⟩ Mt ⟨callB_of n hts (az_good hsub (az_sub_ts kn.1)) rfl hrm.1 hrm.2.1 (hts _ (hsub _ kn.2.1)) (hts _ (hsub _ hlnk)) ⟨kn.2.2.1, kn.2.2.2.1, kn.2.2.2.2⟩ ⟨by rw [hR]; exact hrm.2.2.1, by rw [hR]; exact hrm.2.2.2⟩, hts _ (hsub _ hin), hts _ (hsub _ hse)⟩ ⟨(fun a U g mk q => by obtain ⟨q0, q1, qP, qK, qD, qN⟩ := q; exact ⟨q0, q1, qP, va_K.moved (u := U) (U := U.calling g mk a) (Vm.Alike.refl U.vm) qK, qD, az_nest_c (u := U) (U := U.calling g mk a) rfl qN⟩), va_recv hK hP hc he, fun U hU hW => ⟨rfl, by rw [hU], by rw [hU]; exact hP, va_K.moved hW.alike hK, hD.weaken (fun _ _ _ _ => trivial), az_nest_w hW hN⟩⟩ rfl (by rw [List.length_map]; exact hn) (hl.1.trans hml) (by simp [az_v]) (lv_room (m := m) (pc := pc) (ls := Ls) (rest := (as.reverse ++ .ref b :: rest).map (az_v ad)) (az_room1 h4)) d ⟨hz.1, hz.2⟩
  exact az_back hrun hD hS hA (fun r M1 H1 locs1 hq hnr hP1 hD1 hS1 => by
    have := kk ls _ k M1 hq ad H1 Ls locs1 hra hl hP1 hD1 hS1 hz
    rw [az_app_v hnr] at this
    exact this)

theorem dX12_thrown_0 : decode cX12_thrown 0 = .ok (.aload_n 0, 1) := by decide +kernel
theorem dX12_thrown_1 : decode cX12_thrown 1 = .ok (.getfield 89, 3) := by decide +kernel
theorem dX12_thrown_4 : decode cX12_thrown 4 = .ok (.ireturn, 1) := by decide +kernel
def PX12_thrown (Q : Option Value → az_M → Prop) : az_T := (s_la 0 (s_gi 13 5 (s_ri Q)))
def FX12_thrown : az_F := az_fun [true] 1 PX12_thrown
theorem okX12_thrown (l : Launch) : az_met l yX12_thrown cX12_thrown 1 (some .int) ({ frames := 1, cells := 0, slots := 0, locals := 100 } : Room) FX12_thrown := az_met_of (own := RX12) (by decide +kernel) rfl (by decide) (fun X Q C => by
  have h4 := az_ireturn C rfl dX12_thrown_4
  have h1 := az_getI (T := TX12) (N := 33) (j := 5) C gwRX12 rfl (by decide) (by decide) iIRX12_5 mFRX12_89 rfl dX12_thrown_1 h4
  have h0 := az_aload_n C 0 rfl dX12_thrown_0 h1
  exact h0) l
theorem dX12_in_0 : decode cX12_in 0 = .ok (.iload_n 0, 1) := by decide +kernel
theorem dX12_in_1 : decode cX12_in 1 = .ok (.iload_n 1, 1) := by decide +kernel
theorem dX12_in_2 : decode cX12_in 2 = .ok (.if_icmp .lt 12, 3) := by decide +kernel
theorem dX12_in_5 : decode cX12_in 5 = .ok (.iload_n 0, 1) := by decide +kernel
theorem dX12_in_6 : decode cX12_in 6 = .ok (.iload_n 2, 1) := by decide +kernel
theorem dX12_in_7 : decode cX12_in 7 = .ok (.if_icmp .gt 7, 3) := by decide +kernel
theorem dX12_in_10 : decode cX12_in 10 = .ok (.iconst 1, 1) := by decide +kernel
theorem dX12_in_11 : decode cX12_in 11 = .ok (.goto 4, 3) := by decide +kernel
theorem dX12_in_14 : decode cX12_in 14 = .ok (.iconst 0, 1) := by decide +kernel
theorem dX12_in_15 : decode cX12_in 15 = .ok (.ireturn, 1) := by decide +kernel
def LX12_in_15 (Q : Option Value → az_M → Prop) : az_T := (s_rz Q)
theorem okLX12_in_15 {X : az_X} {Q : Option Value → az_M → Prop} (C : az_C X cX12_in 3 RX12 (az_ts yX12_in cX12_in 3 (some .boolean)) ({ frames := 1, cells := 0, slots := 0, locals := 100 } : Room) (some .boolean) Q) : az_ok X 15 (LX12_in_15 Q) := by
  have h15 := az_zreturn C rfl dX12_in_15
  exact h15
def LX12_in_14 (Q : Option Value → az_M → Prop) : az_T := (s_ic (nI 0) (s_kp [false, false, false] (LX12_in_15 Q)))
theorem okLX12_in_14 {X : az_X} {Q : Option Value → az_M → Prop} (C : az_C X cX12_in 3 RX12 (az_ts yX12_in cX12_in 3 (some .boolean)) ({ frames := 1, cells := 0, slots := 0, locals := 100 } : Room) (some .boolean) Q) : az_ok X 14 (LX12_in_14 Q) := by
  have h14 := az_iconst (x := (nI 0)) C dX12_in_14 (by decide +kernel) (az_keep [false, false, false] (okLX12_in_15 C))
  exact h14
def PX12_in (Q : Option Value → az_M → Prop) : az_T := (s_li 0 (s_li 1 (s_if2 d_lt (s_kp [false, false, false] (LX12_in_14 Q)) (s_li 0 (s_li 2 (s_if2 d_gt (s_kp [false, false, false] (LX12_in_14 Q)) (s_ic (nI 1) (s_kp [false, false, false] (LX12_in_15 Q)))))))))
def FX12_in : az_F := az_fun [false, false, false] 3 PX12_in
theorem okX12_in (l : Launch) : az_met l yX12_in cX12_in 3 (some .boolean) ({ frames := 1, cells := 0, slots := 0, locals := 100 } : Room) FX12_in := az_met_of (own := RX12) (by decide +kernel) rfl (by decide) (fun X Q C => by
  have h11 := az_goto (tgt := 15) C dX12_in_11 (by decide) (az_keep [false, false, false] (okLX12_in_15 C))
  have h10 := az_iconst (x := (nI 1)) C dX12_in_10 (by decide +kernel) h11
  have h7 := az_icmp_gt (tgt := 14) C dX12_in_7 (by decide) (az_keep [false, false, false] (okLX12_in_14 C)) h10
  have h6 := az_iload_n C 2 rfl dX12_in_6 h7
  have h5 := az_iload_n C 0 rfl dX12_in_5 h6
  have h2 := az_icmp_lt (tgt := 14) C dX12_in_2 (by decide) (az_keep [false, false, false] (okLX12_in_14 C)) h5
  have h1 := az_iload_n C 1 rfl dX12_in_1 h2
  have h0 := az_iload_n C 0 rfl dX12_in_0 h1
  exact h0) l
theorem dX12_isHour_0 : decode cX12_isHour 0 = .ok (.iload_n 1, 1) := by decide +kernel
theorem dX12_isHour_1 : decode cX12_isHour 1 = .ok (.iconst 0, 1) := by decide +kernel
theorem dX12_isHour_2 : decode cX12_isHour 2 = .ok (.aload_n 0, 1) := by decide +kernel
theorem dX12_isHour_3 : decode cX12_isHour 3 = .ok (.getfield 9, 3) := by decide +kernel
theorem dX12_isHour_6 : decode cX12_isHour 6 = .ok (.iconst 0, 1) := by decide +kernel
theorem dX12_isHour_7 : decode cX12_isHour 7 = .ok (.iaload, 1) := by decide +kernel
theorem dX12_isHour_8 : decode cX12_isHour 8 = .ok (.iconst 1, 1) := by decide +kernel
theorem dX12_isHour_9 : decode cX12_isHour 9 = .ok (.isub, 1) := by decide +kernel
theorem dX12_isHour_10 : decode cX12_isHour 10 = .ok (.invokestatic 92, 3) := by decide +kernel
theorem dX12_isHour_13 : decode cX12_isHour 13 = .ok (.ireturn, 1) := by decide +kernel
def PX12_isHour (Q : Option Value → az_M → Prop) : az_T := (s_li 1 (s_ic (nI 0) (s_la 0 (s_gr 13 0 (s_ic (nI 0) (s_al 20 (s_ic (nI 1) (s_bin f_sub (s_cs 3 FX12_in (s_rz Q))))))))))
def FX12_isHour : az_F := az_fun [true, false] 2 PX12_isHour
theorem okX12_isHour (l : Launch) : az_met l yX12_isHour cX12_isHour 2 (some .boolean) ({ frames := 2, cells := 0, slots := 0, locals := 122 } : Room) FX12_isHour := az_met_of (own := RX12) (by decide +kernel) rfl (by decide) (fun X Q C => by
  have h13 := az_zreturn C rfl dX12_isHour_13
  have h10 := az_callS C okX12_in knX12_in stX12_in mLRX12_92 ⟨rfl, rfl, by decide, by decide⟩ dX12_isHour_10 h13
  have h9 := az_isub C dX12_isHour_9 h10
  have h8 := az_iconst (x := (nI 1)) C dX12_isHour_8 (by decide +kernel) h9
  have h7 := az_iald C dX12_isHour_7 h8
  have h6 := az_iconst (x := (nI 0)) C dX12_isHour_6 (by decide +kernel) h7
  have h3 := az_getR (T := TX12) (N := 33) (j := 0) C gwRX12 rfl (by decide) (by decide) iIRX12_0 mFRX12_9 rfl dX12_isHour_3 h6
  have h2 := az_aload_n C 0 rfl dX12_isHour_2 h3
  have h1 := az_iconst (x := (nI 0)) C dX12_isHour_1 (by decide +kernel) h2
  have h0 := az_iload_n C 1 rfl dX12_isHour_0 h1
  exact h0) l
theorem dX12_isBus_0 : decode cX12_isBus 0 = .ok (.iload_n 1, 1) := by decide +kernel
theorem dX12_isBus_1 : decode cX12_isBus 1 = .ok (.iconst 0, 1) := by decide +kernel
theorem dX12_isBus_2 : decode cX12_isBus 2 = .ok (.aload_n 0, 1) := by decide +kernel
theorem dX12_isBus_3 : decode cX12_isBus 3 = .ok (.getfield 9, 3) := by decide +kernel
theorem dX12_isBus_6 : decode cX12_isBus 6 = .ok (.iconst 1, 1) := by decide +kernel
theorem dX12_isBus_7 : decode cX12_isBus 7 = .ok (.iaload, 1) := by decide +kernel
theorem dX12_isBus_8 : decode cX12_isBus 8 = .ok (.iconst 1, 1) := by decide +kernel
theorem dX12_isBus_9 : decode cX12_isBus 9 = .ok (.isub, 1) := by decide +kernel
theorem dX12_isBus_10 : decode cX12_isBus 10 = .ok (.invokestatic 92, 3) := by decide +kernel
theorem dX12_isBus_13 : decode cX12_isBus 13 = .ok (.ireturn, 1) := by decide +kernel
def PX12_isBus (Q : Option Value → az_M → Prop) : az_T := (s_li 1 (s_ic (nI 0) (s_la 0 (s_gr 13 0 (s_ic (nI 1) (s_al 20 (s_ic (nI 1) (s_bin f_sub (s_cs 3 FX12_in (s_rz Q))))))))))
def FX12_isBus : az_F := az_fun [true, false] 2 PX12_isBus
theorem okX12_isBus (l : Launch) : az_met l yX12_isBus cX12_isBus 2 (some .boolean) ({ frames := 2, cells := 0, slots := 0, locals := 122 } : Room) FX12_isBus := az_met_of (own := RX12) (by decide +kernel) rfl (by decide) (fun X Q C => by
  have h13 := az_zreturn C rfl dX12_isBus_13
  have h10 := az_callS C okX12_in knX12_in stX12_in mLRX12_92 ⟨rfl, rfl, by decide, by decide⟩ dX12_isBus_10 h13
  have h9 := az_isub C dX12_isBus_9 h10
  have h8 := az_iconst (x := (nI 1)) C dX12_isBus_8 (by decide +kernel) h9
  have h7 := az_iald C dX12_isBus_7 h8
  have h6 := az_iconst (x := (nI 1)) C dX12_isBus_6 (by decide +kernel) h7
  have h3 := az_getR (T := TX12) (N := 33) (j := 0) C gwRX12 rfl (by decide) (by decide) iIRX12_0 mFRX12_9 rfl dX12_isBus_3 h6
  have h2 := az_aload_n C 0 rfl dX12_isBus_2 h3
  have h1 := az_iconst (x := (nI 0)) C dX12_isBus_1 (by decide +kernel) h2
  have h0 := az_iload_n C 1 rfl dX12_isBus_0 h1
  exact h0) l
theorem dX12_isUnit_0 : decode cX12_isUnit 0 = .ok (.iload_n 1, 1) := by decide +kernel
theorem dX12_isUnit_1 : decode cX12_isUnit 1 = .ok (.iconst 0, 1) := by decide +kernel
theorem dX12_isUnit_2 : decode cX12_isUnit 2 = .ok (.aload_n 0, 1) := by decide +kernel
theorem dX12_isUnit_3 : decode cX12_isUnit 3 = .ok (.getfield 9, 3) := by decide +kernel
theorem dX12_isUnit_6 : decode cX12_isUnit 6 = .ok (.iconst 2, 1) := by decide +kernel
theorem dX12_isUnit_7 : decode cX12_isUnit 7 = .ok (.iaload, 1) := by decide +kernel
theorem dX12_isUnit_8 : decode cX12_isUnit 8 = .ok (.iconst 1, 1) := by decide +kernel
theorem dX12_isUnit_9 : decode cX12_isUnit 9 = .ok (.isub, 1) := by decide +kernel
theorem dX12_isUnit_10 : decode cX12_isUnit 10 = .ok (.invokestatic 92, 3) := by decide +kernel
theorem dX12_isUnit_13 : decode cX12_isUnit 13 = .ok (.ireturn, 1) := by decide +kernel
def PX12_isUnit (Q : Option Value → az_M → Prop) : az_T := (s_li 1 (s_ic (nI 0) (s_la 0 (s_gr 13 0 (s_ic (nI 2) (s_al 20 (s_ic (nI 1) (s_bin f_sub (s_cs 3 FX12_in (s_rz Q))))))))))
def FX12_isUnit : az_F := az_fun [true, false] 2 PX12_isUnit
theorem okX12_isUnit (l : Launch) : az_met l yX12_isUnit cX12_isUnit 2 (some .boolean) ({ frames := 2, cells := 0, slots := 0, locals := 122 } : Room) FX12_isUnit := az_met_of (own := RX12) (by decide +kernel) rfl (by decide) (fun X Q C => by
  have h13 := az_zreturn C rfl dX12_isUnit_13
  have h10 := az_callS C okX12_in knX12_in stX12_in mLRX12_92 ⟨rfl, rfl, by decide, by decide⟩ dX12_isUnit_10 h13
  have h9 := az_isub C dX12_isUnit_9 h10
  have h8 := az_iconst (x := (nI 1)) C dX12_isUnit_8 (by decide +kernel) h9
  have h7 := az_iald C dX12_isUnit_7 h8
  have h6 := az_iconst (x := (nI 2)) C dX12_isUnit_6 (by decide +kernel) h7
  have h3 := az_getR (T := TX12) (N := 33) (j := 0) C gwRX12 rfl (by decide) (by decide) iIRX12_0 mFRX12_9 rfl dX12_isUnit_3 h6
  have h2 := az_aload_n C 0 rfl dX12_isUnit_2 h3
  have h1 := az_iconst (x := (nI 0)) C dX12_isUnit_1 (by decide +kernel) h2
  have h0 := az_iload_n C 1 rfl dX12_isUnit_0 h1
  exact h0) l
theorem dX12_at_0 : decode cX12_at 0 = .ok (.sipush 151, 3) := by decide +kernel
theorem dX12_at_3 : decode cX12_at 3 = .ok (.bipush 14, 2) := by decide +kernel
theorem dX12_at_5 : decode cX12_at 5 = .ok (.iload_n 0, 1) := by decide +kernel
theorem dX12_at_6 : decode cX12_at 6 = .ok (.imul, 1) := by decide +kernel
theorem dX12_at_7 : decode cX12_at 7 = .ok (.iadd, 1) := by decide +kernel
theorem dX12_at_8 : decode cX12_at 8 = .ok (.iload_n 1, 1) := by decide +kernel
theorem dX12_at_9 : decode cX12_at 9 = .ok (.iadd, 1) := by decide +kernel
theorem dX12_at_10 : decode cX12_at 10 = .ok (.ireturn, 1) := by decide +kernel
def PX12_at (Q : Option Value → az_M → Prop) : az_T := (s_ic (nI 151) (s_ic (nI 14) (s_li 0 (s_bin f_mul (s_bin f_add (s_li 1 (s_bin f_add (s_ri Q))))))))
def FX12_at : az_F := az_fun [false, false] 2 PX12_at
theorem okX12_at (l : Launch) : az_met l yX12_at cX12_at 2 (some .int) ({ frames := 1, cells := 0, slots := 0, locals := 100 } : Room) FX12_at := az_met_of (own := RX12) (by decide +kernel) rfl (by decide) (fun X Q C => by
  have h10 := az_ireturn C rfl dX12_at_10
  have h9 := az_iadd C dX12_at_9 h10
  have h8 := az_iload_n C 1 rfl dX12_at_8 h9
  have h7 := az_iadd C dX12_at_7 h8
  have h6 := az_imul C dX12_at_6 h7
  have h5 := az_iload_n C 0 rfl dX12_at_5 h6
  have h3 := az_bipush (x := (nI 14)) C dX12_at_3 (by decide +kernel) h5
  have h0 := az_sipush (x := (nI 151)) C dX12_at_0 (by decide +kernel) h3
  exact h0) l
theorem dX12_of_0 : decode cX12_of 0 = .ok (.aload_n 0, 1) := by decide +kernel
theorem dX12_of_1 : decode cX12_of 1 = .ok (.getfield 9, 3) := by decide +kernel
theorem dX12_of_4 : decode cX12_of 4 = .ok (.iload_n 1, 1) := by decide +kernel
theorem dX12_of_5 : decode cX12_of 5 = .ok (.iload_n 2, 1) := by decide +kernel
theorem dX12_of_6 : decode cX12_of 6 = .ok (.invokestatic 96, 3) := by decide +kernel
theorem dX12_of_9 : decode cX12_of 9 = .ok (.iaload, 1) := by decide +kernel
theorem dX12_of_10 : decode cX12_of 10 = .ok (.ireturn, 1) := by decide +kernel
def PX12_of (Q : Option Value → az_M → Prop) : az_T := (s_la 0 (s_gr 13 0 (s_li 1 (s_li 2 (s_cs 2 FX12_at (s_al 20 (s_ri Q)))))))
def FX12_of : az_F := az_fun [true, false, false] 3 PX12_of
theorem okX12_of (l : Launch) : az_met l yX12_of cX12_of 3 (some .int) ({ frames := 2, cells := 0, slots := 0, locals := 121 } : Room) FX12_of := az_met_of (own := RX12) (by decide +kernel) rfl (by decide) (fun X Q C => by
  have h10 := az_ireturn C rfl dX12_of_10
  have h9 := az_iald C dX12_of_9 h10
  have h6 := az_callS C okX12_at knX12_at stX12_at mLRX12_96 ⟨rfl, rfl, by decide, by decide⟩ dX12_of_6 h9
  have h5 := az_iload_n C 2 rfl dX12_of_5 h6
  have h4 := az_iload_n C 1 rfl dX12_of_4 h5
  have h1 := az_getR (T := TX12) (N := 33) (j := 0) C gwRX12 rfl (by decide) (by decide) iIRX12_0 mFRX12_9 rfl dX12_of_1 h4
  have h0 := az_aload_n C 0 rfl dX12_of_0 h1
  exact h0) l
theorem dX12_change_0 : decode cX12_change 0 = .ok (.aload_n 0, 1) := by decide +kernel
theorem dX12_change_1 : decode cX12_change 1 = .ok (.getfield 100, 3) := by decide +kernel
theorem dX12_change_4 : decode cX12_change 4 = .ok (.bipush 8, 2) := by decide +kernel
theorem dX12_change_6 : decode cX12_change 6 = .ok (.if_icmp .ne 31, 3) := by decide +kernel
theorem dX12_change_9 : decode cX12_change 9 = .ok (.aload_n 0, 1) := by decide +kernel
theorem dX12_change_10 : decode cX12_change 10 = .ok (.getfield 16, 3) := by decide +kernel
theorem dX12_change_13 : decode cX12_change 13 = .ok (.sipush 235, 3) := by decide +kernel
theorem dX12_change_16 : decode cX12_change 16 = .ok (.aload_n 0, 1) := by decide +kernel
theorem dX12_change_17 : decode cX12_change 17 = .ok (.getfield 16, 3) := by decide +kernel
theorem dX12_change_20 : decode cX12_change 20 = .ok (.iconst 0, 1) := by decide +kernel
theorem dX12_change_21 : decode cX12_change 21 = .ok (.sipush 1645, 3) := by decide +kernel
theorem dX12_change_24 : decode cX12_change 24 = .ok (.invokestatic 103, 3) := by decide +kernel
theorem dX12_change_27 : decode cX12_change 27 = .ok (.aload_n 0, 1) := by decide +kernel
theorem dX12_change_28 : decode cX12_change 28 = .ok (.dup, 1) := by decide +kernel
theorem dX12_change_29 : decode cX12_change 29 = .ok (.getfield 100, 3) := by decide +kernel
theorem dX12_change_32 : decode cX12_change 32 = .ok (.iconst 1, 1) := by decide +kernel
theorem dX12_change_33 : decode cX12_change 33 = .ok (.isub, 1) := by decide +kernel
theorem dX12_change_34 : decode cX12_change 34 = .ok (.putfield 100, 3) := by decide +kernel
theorem dX12_change_37 : decode cX12_change 37 = .ok (.aload_n 0, 1) := by decide +kernel
theorem dX12_change_38 : decode cX12_change 38 = .ok (.getfield 9, 3) := by decide +kernel
theorem dX12_change_41 : decode cX12_change 41 = .ok (.iconst 0, 1) := by decide +kernel
theorem dX12_change_42 : decode cX12_change 42 = .ok (.aload_n 0, 1) := by decide +kernel
theorem dX12_change_43 : decode cX12_change 43 = .ok (.getfield 16, 3) := by decide +kernel
theorem dX12_change_46 : decode cX12_change 46 = .ok (.sipush 235, 3) := by decide +kernel
theorem dX12_change_49 : decode cX12_change 49 = .ok (.aload_n 0, 1) := by decide +kernel
theorem dX12_change_50 : decode cX12_change 50 = .ok (.getfield 100, 3) := by decide +kernel
theorem dX12_change_53 : decode cX12_change 53 = .ok (.imul, 1) := by decide +kernel
theorem dX12_change_54 : decode cX12_change 54 = .ok (.sipush 235, 3) := by decide +kernel
theorem dX12_change_57 : decode cX12_change 57 = .ok (.invokestatic 103, 3) := by decide +kernel
theorem dX12_change_60 : decode cX12_change 60 = .ok (.aload_n 0, 1) := by decide +kernel
theorem dX12_change_61 : decode cX12_change 61 = .ok (.dup, 1) := by decide +kernel
theorem dX12_change_62 : decode cX12_change 62 = .ok (.getfield 100, 3) := by decide +kernel
theorem dX12_change_65 : decode cX12_change 65 = .ok (.iconst 1, 1) := by decide +kernel
theorem dX12_change_66 : decode cX12_change 66 = .ok (.iadd, 1) := by decide +kernel
theorem dX12_change_67 : decode cX12_change 67 = .ok (.putfield 100, 3) := by decide +kernel
theorem dX12_change_70 : decode cX12_change 70 = .ok (.aload_n 0, 1) := by decide +kernel
theorem dX12_change_71 : decode cX12_change 71 = .ok (.iconst 0, 1) := by decide +kernel
theorem dX12_change_72 : decode cX12_change 72 = .ok (.putfield 109, 3) := by decide +kernel
theorem dX12_change_75 : decode cX12_change 75 = .ok (.return_, 1) := by decide +kernel
def LX12_change_37 (Q : Option Value → az_M → Prop) : az_T := (s_la 0 (s_gr 13 0 (s_ic (nI 0) (s_la 0 (s_gr 13 3 (s_ic (nI 235) (s_la 0 (s_gi 13 4 (s_bin f_mul (s_ic (nI 235) (s_cpy (s_la 0 (s_dup (s_gi 13 4 (s_ic (nI 1) (s_bin f_add (s_pi 13 4 (s_la 0 (s_ic (nI 0) (s_pz 13 7 (s_rv Q)))))))))))))))))))))
theorem okLX12_change_37 {X : az_X} {Q : Option Value → az_M → Prop} (C : az_C X cX12_change 1 RX12 (az_ts yX12_change cX12_change 1 none) ({ frames := 1, cells := 0, slots := 0, locals := 100 } : Room) none Q) : az_ok X 37 (LX12_change_37 Q) := by
  have h75 := az_vreturn C rfl dX12_change_75
  have h72 := az_putZ (T := TX12) (N := 33) (j := 7) C gwRX12 rfl (by decide) (by decide) tyX12 tyX12_ok nmX12 iIRX12_7 (by decide +kernel) rfl mFRX12_109 rfl dX12_change_72 h75
  have h71 := az_iconst (x := (nI 0)) C dX12_change_71 (by decide +kernel) h72
  have h70 := az_aload_n C 0 rfl dX12_change_70 h71
  have h67 := az_putI (T := TX12) (N := 33) (j := 4) C gwRX12 rfl (by decide) (by decide) tyX12 tyX12_ok nmX12 iIRX12_4 (by decide +kernel) rfl mFRX12_100 rfl dX12_change_67 h70
  have h66 := az_iadd C dX12_change_66 h67
  have h65 := az_iconst (x := (nI 1)) C dX12_change_65 (by decide +kernel) h66
  have h62 := az_getI (T := TX12) (N := 33) (j := 4) C gwRX12 rfl (by decide) (by decide) iIRX12_4 mFRX12_100 rfl dX12_change_62 h65
  have h61 := az_dup C dX12_change_61 h62
  have h60 := az_aload_n C 0 rfl dX12_change_60 h61
  have h57 := az_copy C mLRX12_103 cp_nat cp_st cp_ini (by decide) (by decide +kernel) dX12_change_57 h60
  have h54 := az_sipush (x := (nI 235)) C dX12_change_54 (by decide +kernel) h57
  have h53 := az_imul C dX12_change_53 h54
  have h50 := az_getI (T := TX12) (N := 33) (j := 4) C gwRX12 rfl (by decide) (by decide) iIRX12_4 mFRX12_100 rfl dX12_change_50 h53
  have h49 := az_aload_n C 0 rfl dX12_change_49 h50
  have h46 := az_sipush (x := (nI 235)) C dX12_change_46 (by decide +kernel) h49
  have h43 := az_getR (T := TX12) (N := 33) (j := 3) C gwRX12 rfl (by decide) (by decide) iIRX12_3 mFRX12_16 rfl dX12_change_43 h46
  have h42 := az_aload_n C 0 rfl dX12_change_42 h43
  have h41 := az_iconst (x := (nI 0)) C dX12_change_41 (by decide +kernel) h42
  have h38 := az_getR (T := TX12) (N := 33) (j := 0) C gwRX12 rfl (by decide) (by decide) iIRX12_0 mFRX12_9 rfl dX12_change_38 h41
  have h37 := az_aload_n C 0 rfl dX12_change_37 h38
  exact h37
def PX12_change (Q : Option Value → az_M → Prop) : az_T := (s_la 0 (s_gi 13 4 (s_ic (nI 8) (s_if2 d_ne (s_kp [true] (LX12_change_37 Q)) (s_la 0 (s_gr 13 3 (s_ic (nI 235) (s_la 0 (s_gr 13 3 (s_ic (nI 0) (s_ic (nI 1645) (s_cpy (s_la 0 (s_dup (s_gi 13 4 (s_ic (nI 1) (s_bin f_sub (s_pi 13 4 (s_kp [true] (LX12_change_37 Q))))))))))))))))))))
def FX12_change : az_F := az_fun [true] 1 PX12_change
theorem okX12_change (l : Launch) : az_met l yX12_change cX12_change 1 none ({ frames := 1, cells := 0, slots := 0, locals := 100 } : Room) FX12_change := az_met_of (own := RX12) (by decide +kernel) rfl (by decide) (fun X Q C => by
  have h34 := az_putI (T := TX12) (N := 33) (j := 4) C gwRX12 rfl (by decide) (by decide) tyX12 tyX12_ok nmX12 iIRX12_4 (by decide +kernel) rfl mFRX12_100 rfl dX12_change_34 (az_keep [true] (okLX12_change_37 C))
  have h33 := az_isub C dX12_change_33 h34
  have h32 := az_iconst (x := (nI 1)) C dX12_change_32 (by decide +kernel) h33
  have h29 := az_getI (T := TX12) (N := 33) (j := 4) C gwRX12 rfl (by decide) (by decide) iIRX12_4 mFRX12_100 rfl dX12_change_29 h32
  have h28 := az_dup C dX12_change_28 h29
  have h27 := az_aload_n C 0 rfl dX12_change_27 h28
  have h24 := az_copy C mLRX12_103 cp_nat cp_st cp_ini (by decide) (by decide +kernel) dX12_change_24 h27
  have h21 := az_sipush (x := (nI 1645)) C dX12_change_21 (by decide +kernel) h24
  have h20 := az_iconst (x := (nI 0)) C dX12_change_20 (by decide +kernel) h21
  have h17 := az_getR (T := TX12) (N := 33) (j := 3) C gwRX12 rfl (by decide) (by decide) iIRX12_3 mFRX12_16 rfl dX12_change_17 h20
  have h16 := az_aload_n C 0 rfl dX12_change_16 h17
  have h13 := az_sipush (x := (nI 235)) C dX12_change_13 (by decide +kernel) h16
  have h10 := az_getR (T := TX12) (N := 33) (j := 3) C gwRX12 rfl (by decide) (by decide) iIRX12_3 mFRX12_16 rfl dX12_change_10 h13
  have h9 := az_aload_n C 0 rfl dX12_change_9 h10
  have h6 := az_icmp_ne (tgt := 37) C dX12_change_6 (by decide) (az_keep [true] (okLX12_change_37 C)) h9
  have h4 := az_bipush (x := (nI 8)) C dX12_change_4 (by decide +kernel) h6
  have h1 := az_getI (T := TX12) (N := 33) (j := 4) C gwRX12 rfl (by decide) (by decide) iIRX12_4 mFRX12_100 rfl dX12_change_1 h4
  have h0 := az_aload_n C 0 rfl dX12_change_0 h1
  exact h0) l
theorem dX12_start_0 : decode cX12_start 0 = .ok (.iconst 0, 1) := by decide +kernel
theorem dX12_start_1 : decode cX12_start 1 = .ok (.istore_n 3, 1) := by decide +kernel
theorem dX12_start_2 : decode cX12_start 2 = .ok (.iload_n 3, 1) := by decide +kernel
theorem dX12_start_3 : decode cX12_start 3 = .ok (.sipush 235, 3) := by decide +kernel
theorem dX12_start_6 : decode cX12_start 6 = .ok (.if_icmp .ge 16, 3) := by decide +kernel
theorem dX12_start_9 : decode cX12_start 9 = .ok (.aload_n 0, 1) := by decide +kernel
theorem dX12_start_10 : decode cX12_start 10 = .ok (.getfield 9, 3) := by decide +kernel
theorem dX12_start_13 : decode cX12_start 13 = .ok (.iload_n 3, 1) := by decide +kernel
theorem dX12_start_14 : decode cX12_start 14 = .ok (.iconst 0, 1) := by decide +kernel
theorem dX12_start_15 : decode cX12_start 15 = .ok (.iastore, 1) := by decide +kernel
theorem dX12_start_16 : decode cX12_start 16 = .ok (.iinc 3 1, 3) := by decide +kernel
theorem dX12_start_19 : decode cX12_start 19 = .ok (.goto (-17), 3) := by decide +kernel
theorem dX12_start_22 : decode cX12_start 22 = .ok (.aload_n 0, 1) := by decide +kernel
theorem dX12_start_23 : decode cX12_start 23 = .ok (.getfield 9, 3) := by decide +kernel
theorem dX12_start_26 : decode cX12_start 26 = .ok (.iconst 0, 1) := by decide +kernel
theorem dX12_start_27 : decode cX12_start 27 = .ok (.iload_n 1, 1) := by decide +kernel
theorem dX12_start_28 : decode cX12_start 28 = .ok (.iastore, 1) := by decide +kernel
theorem dX12_start_29 : decode cX12_start 29 = .ok (.aload_n 0, 1) := by decide +kernel
theorem dX12_start_30 : decode cX12_start 30 = .ok (.getfield 9, 3) := by decide +kernel
theorem dX12_start_33 : decode cX12_start 33 = .ok (.iconst 1, 1) := by decide +kernel
theorem dX12_start_34 : decode cX12_start 34 = .ok (.iload_n 2, 1) := by decide +kernel
theorem dX12_start_35 : decode cX12_start 35 = .ok (.iastore, 1) := by decide +kernel
theorem dX12_start_36 : decode cX12_start 36 = .ok (.iconst 0, 1) := by decide +kernel
theorem dX12_start_37 : decode cX12_start 37 = .ok (.istore_n 3, 1) := by decide +kernel
theorem dX12_start_38 : decode cX12_start 38 = .ok (.iload_n 3, 1) := by decide +kernel
theorem dX12_start_39 : decode cX12_start 39 = .ok (.iconst 4, 1) := by decide +kernel
theorem dX12_start_40 : decode cX12_start 40 = .ok (.if_icmp .ge 41, 3) := by decide +kernel
theorem dX12_start_43 : decode cX12_start 43 = .ok (.aload_n 0, 1) := by decide +kernel
theorem dX12_start_44 : decode cX12_start 44 = .ok (.getfield 9, 3) := by decide +kernel
theorem dX12_start_47 : decode cX12_start 47 = .ok (.bipush 125, 2) := by decide +kernel
theorem dX12_start_49 : decode cX12_start 49 = .ok (.iload_n 3, 1) := by decide +kernel
theorem dX12_start_50 : decode cX12_start 50 = .ok (.iadd, 1) := by decide +kernel
theorem dX12_start_51 : decode cX12_start 51 = .ok (.iload_n 3, 1) := by decide +kernel
theorem dX12_start_52 : decode cX12_start 52 = .ok (.iconst 1, 1) := by decide +kernel
theorem dX12_start_53 : decode cX12_start 53 = .ok (.isub, 1) := by decide +kernel
theorem dX12_start_54 : decode cX12_start 54 = .ok (.iastore, 1) := by decide +kernel
theorem dX12_start_55 : decode cX12_start 55 = .ok (.aload_n 0, 1) := by decide +kernel
theorem dX12_start_56 : decode cX12_start 56 = .ok (.getfield 9, 3) := by decide +kernel
theorem dX12_start_59 : decode cX12_start 59 = .ok (.sipush 129, 3) := by decide +kernel
theorem dX12_start_62 : decode cX12_start 62 = .ok (.iload_n 3, 1) := by decide +kernel
theorem dX12_start_63 : decode cX12_start 63 = .ok (.iadd, 1) := by decide +kernel
theorem dX12_start_64 : decode cX12_start 64 = .ok (.iload_n 3, 1) := by decide +kernel
theorem dX12_start_65 : decode cX12_start 65 = .ok (.ifCond .ne 7, 3) := by decide +kernel
theorem dX12_start_68 : decode cX12_start 68 = .ok (.iconst 0, 1) := by decide +kernel
theorem dX12_start_69 : decode cX12_start 69 = .ok (.goto 5, 3) := by decide +kernel
theorem dX12_start_72 : decode cX12_start 72 = .ok (.bipush 100, 2) := by decide +kernel
theorem dX12_start_74 : decode cX12_start 74 = .ok (.iastore, 1) := by decide +kernel
theorem dX12_start_75 : decode cX12_start 75 = .ok (.iinc 3 1, 3) := by decide +kernel
theorem dX12_start_78 : decode cX12_start 78 = .ok (.goto (-40), 3) := by decide +kernel
theorem dX12_start_81 : decode cX12_start 81 = .ok (.aload_n 0, 1) := by decide +kernel
theorem dX12_start_82 : decode cX12_start 82 = .ok (.iconst 0, 1) := by decide +kernel
theorem dX12_start_83 : decode cX12_start 83 = .ok (.putfield 100, 3) := by decide +kernel
theorem dX12_start_86 : decode cX12_start 86 = .ok (.aload_n 0, 1) := by decide +kernel
theorem dX12_start_87 : decode cX12_start 87 = .ok (.iconst 0, 1) := by decide +kernel
theorem dX12_start_88 : decode cX12_start 88 = .ok (.putfield 109, 3) := by decide +kernel
theorem dX12_start_91 : decode cX12_start 91 = .ok (.return_, 1) := by decide +kernel
def LX12_start_74 (Q : Option Value → az_M → Prop) (Z38 : az_T) : az_T := (s_as (s_inc 3 (nI 1) (s_kp [true, false, false, true] Z38)))
theorem okLX12_start_74 {X : az_X} {Q : Option Value → az_M → Prop} (C : az_C X cX12_start 4 RX12 (az_ts yX12_start cX12_start 4 none) ({ frames := 1, cells := 0, slots := 0, locals := 100 } : Room) none Q) {Z38 : az_T} (hZ38 : az_ok X 38 Z38) : az_ok X 74 (LX12_start_74 Q Z38) := by
  have h78 := az_goto (tgt := 38) C dX12_start_78 (by decide) (az_keep [true, false, false, true] hZ38)
  have h75 := az_iinc (v := (nI 1)) C (by decide) (by decide +kernel) dX12_start_75 h78
  have h74 := az_iast C dX12_start_74 h75
  exact h74
def BX12_start_38 (Q : Option Value → az_M → Prop) (Z38 : az_T) : az_T := (s_li 3 (s_ic (nI 4) (s_if2 d_ge (s_la 0 (s_ic (nI 0) (s_pi 13 4 (s_la 0 (s_ic (nI 0) (s_pz 13 7 (s_rv Q))))))) (s_la 0 (s_gr 13 0 (s_ic (nI 125) (s_li 3 (s_bin f_add (s_li 3 (s_ic (nI 1) (s_bin f_sub (s_as (s_la 0 (s_gr 13 0 (s_ic (nI 129) (s_li 3 (s_bin f_add (s_li 3 (s_if c_ne (s_ic (nI 100) (s_kp [true, false, false, true] (LX12_start_74 Q Z38))) (s_ic (nI 0) (s_kp [true, false, false, true] (LX12_start_74 Q Z38))))))))))))))))))))))
theorem okBX12_start_38 {X : az_X} {Q : Option Value → az_M → Prop} (C : az_C X cX12_start 4 RX12 (az_ts yX12_start cX12_start 4 none) ({ frames := 1, cells := 0, slots := 0, locals := 100 } : Room) none Q) {Z38 : az_T} (hZ38 : az_ok X 38 Z38) : az_ok X 38 (BX12_start_38 Q Z38) := by
  have h91 := az_vreturn C rfl dX12_start_91
  have h88 := az_putZ (T := TX12) (N := 33) (j := 7) C gwRX12 rfl (by decide) (by decide) tyX12 tyX12_ok nmX12 iIRX12_7 (by decide +kernel) rfl mFRX12_109 rfl dX12_start_88 h91
  have h87 := az_iconst (x := (nI 0)) C dX12_start_87 (by decide +kernel) h88
  have h86 := az_aload_n C 0 rfl dX12_start_86 h87
  have h83 := az_putI (T := TX12) (N := 33) (j := 4) C gwRX12 rfl (by decide) (by decide) tyX12 tyX12_ok nmX12 iIRX12_4 (by decide +kernel) rfl mFRX12_100 rfl dX12_start_83 h86
  have h82 := az_iconst (x := (nI 0)) C dX12_start_82 (by decide +kernel) h83
  have h81 := az_aload_n C 0 rfl dX12_start_81 h82
  have h72 := az_bipush (x := (nI 100)) C dX12_start_72 (by decide +kernel) (az_keep [true, false, false, true] (okLX12_start_74 C hZ38))
  have h69 := az_goto (tgt := 74) C dX12_start_69 (by decide) (az_keep [true, false, false, true] (okLX12_start_74 C hZ38))
  have h68 := az_iconst (x := (nI 0)) C dX12_start_68 (by decide +kernel) h69
  have h65 := az_if_ne (tgt := 72) C dX12_start_65 (by decide) h72 h68
  have h64 := az_iload_n C 3 rfl dX12_start_64 h65
  have h63 := az_iadd C dX12_start_63 h64
  have h62 := az_iload_n C 3 rfl dX12_start_62 h63
  have h59 := az_sipush (x := (nI 129)) C dX12_start_59 (by decide +kernel) h62
  have h56 := az_getR (T := TX12) (N := 33) (j := 0) C gwRX12 rfl (by decide) (by decide) iIRX12_0 mFRX12_9 rfl dX12_start_56 h59
  have h55 := az_aload_n C 0 rfl dX12_start_55 h56
  have h54 := az_iast C dX12_start_54 h55
  have h53 := az_isub C dX12_start_53 h54
  have h52 := az_iconst (x := (nI 1)) C dX12_start_52 (by decide +kernel) h53
  have h51 := az_iload_n C 3 rfl dX12_start_51 h52
  have h50 := az_iadd C dX12_start_50 h51
  have h49 := az_iload_n C 3 rfl dX12_start_49 h50
  have h47 := az_bipush (x := (nI 125)) C dX12_start_47 (by decide +kernel) h49
  have h44 := az_getR (T := TX12) (N := 33) (j := 0) C gwRX12 rfl (by decide) (by decide) iIRX12_0 mFRX12_9 rfl dX12_start_44 h47
  have h43 := az_aload_n C 0 rfl dX12_start_43 h44
  have h40 := az_icmp_ge (tgt := 81) C dX12_start_40 (by decide) h81 h43
  have h39 := az_iconst (x := (nI 4)) C dX12_start_39 (by decide +kernel) h40
  have h38 := az_iload_n C 3 rfl dX12_start_38 h39
  exact h38
def LX12_start_38 (Q : Option Value → az_M → Prop) : az_T := s_lp (fun Z => BX12_start_38 Q Z)
theorem okLX12_start_38 {X : az_X} {Q : Option Value → az_M → Prop} (C : az_C X cX12_start 4 RX12 (az_ts yX12_start cX12_start 4 none) ({ frames := 1, cells := 0, slots := 0, locals := 100 } : Room) none Q) : az_ok X 38 (LX12_start_38 Q) := az_loop (F := fun Z => BX12_start_38 Q Z) (fun _ hZ => okBX12_start_38 C hZ)
def BX12_start_2 (Q : Option Value → az_M → Prop) (Z2 : az_T) : az_T := (s_li 3 (s_ic (nI 235) (s_if2 d_ge (s_la 0 (s_gr 13 0 (s_ic (nI 0) (s_li 1 (s_as (s_la 0 (s_gr 13 0 (s_ic (nI 1) (s_li 2 (s_as (s_ic (nI 0) (s_si 3 (s_kp [true, false, false, true] (LX12_start_38 Q)))))))))))))) (s_la 0 (s_gr 13 0 (s_li 3 (s_ic (nI 0) (s_as (s_inc 3 (nI 1) (s_kp [true, true, true, true] Z2))))))))))
theorem okBX12_start_2 {X : az_X} {Q : Option Value → az_M → Prop} (C : az_C X cX12_start 4 RX12 (az_ts yX12_start cX12_start 4 none) ({ frames := 1, cells := 0, slots := 0, locals := 100 } : Room) none Q) {Z2 : az_T} (hZ2 : az_ok X 2 Z2) : az_ok X 2 (BX12_start_2 Q Z2) := by
  have h37 := az_istore_n C 3 rfl (by decide) dX12_start_37 (az_keep [true, false, false, true] (okLX12_start_38 C))
  have h36 := az_iconst (x := (nI 0)) C dX12_start_36 (by decide +kernel) h37
  have h35 := az_iast C dX12_start_35 h36
  have h34 := az_iload_n C 2 rfl dX12_start_34 h35
  have h33 := az_iconst (x := (nI 1)) C dX12_start_33 (by decide +kernel) h34
  have h30 := az_getR (T := TX12) (N := 33) (j := 0) C gwRX12 rfl (by decide) (by decide) iIRX12_0 mFRX12_9 rfl dX12_start_30 h33
  have h29 := az_aload_n C 0 rfl dX12_start_29 h30
  have h28 := az_iast C dX12_start_28 h29
  have h27 := az_iload_n C 1 rfl dX12_start_27 h28
  have h26 := az_iconst (x := (nI 0)) C dX12_start_26 (by decide +kernel) h27
  have h23 := az_getR (T := TX12) (N := 33) (j := 0) C gwRX12 rfl (by decide) (by decide) iIRX12_0 mFRX12_9 rfl dX12_start_23 h26
  have h22 := az_aload_n C 0 rfl dX12_start_22 h23
  have h19 := az_goto (tgt := 2) C dX12_start_19 (by decide) (az_keep [true, true, true, true] hZ2)
  have h16 := az_iinc (v := (nI 1)) C (by decide) (by decide +kernel) dX12_start_16 h19
  have h15 := az_iast C dX12_start_15 h16
  have h14 := az_iconst (x := (nI 0)) C dX12_start_14 (by decide +kernel) h15
  have h13 := az_iload_n C 3 rfl dX12_start_13 h14
  have h10 := az_getR (T := TX12) (N := 33) (j := 0) C gwRX12 rfl (by decide) (by decide) iIRX12_0 mFRX12_9 rfl dX12_start_10 h13
  have h9 := az_aload_n C 0 rfl dX12_start_9 h10
  have h6 := az_icmp_ge (tgt := 22) C dX12_start_6 (by decide) h22 h9
  have h3 := az_sipush (x := (nI 235)) C dX12_start_3 (by decide +kernel) h6
  have h2 := az_iload_n C 3 rfl dX12_start_2 h3
  exact h2
def LX12_start_2 (Q : Option Value → az_M → Prop) : az_T := s_lp (fun Z => BX12_start_2 Q Z)
theorem okLX12_start_2 {X : az_X} {Q : Option Value → az_M → Prop} (C : az_C X cX12_start 4 RX12 (az_ts yX12_start cX12_start 4 none) ({ frames := 1, cells := 0, slots := 0, locals := 100 } : Room) none Q) : az_ok X 2 (LX12_start_2 Q) := az_loop (F := fun Z => BX12_start_2 Q Z) (fun _ hZ => okBX12_start_2 C hZ)
def PX12_start (Q : Option Value → az_M → Prop) : az_T := (s_ic (nI 0) (s_si 3 (s_kp [true, true, true, true] (LX12_start_2 Q))))
def FX12_start : az_F := az_fun [true, false, false] 4 PX12_start
theorem okX12_start (l : Launch) : az_met l yX12_start cX12_start 4 none ({ frames := 1, cells := 0, slots := 0, locals := 100 } : Room) FX12_start := az_met_of (own := RX12) (by decide +kernel) rfl (by decide) (fun X Q C => by
  have h1 := az_istore_n C 3 rfl (by decide) dX12_start_1 (az_keep [true, true, true, true] (okLX12_start_2 C))
  have h0 := az_iconst (x := (nI 0)) C dX12_start_0 (by decide +kernel) h1
  exact h0) l
theorem dX12_size_0 : decode cX12_size 0 = .ok (.aload_n 0, 1) := by decide +kernel
theorem dX12_size_1 : decode cX12_size 1 = .ok (.iload_n 1, 1) := by decide +kernel
theorem dX12_size_2 : decode cX12_size 2 = .ok (.iconst 1, 1) := by decide +kernel
theorem dX12_size_3 : decode cX12_size 3 = .ok (.bipush 24, 2) := by decide +kernel
theorem dX12_size_5 : decode cX12_size 5 = .ok (.invokestatic 92, 3) := by decide +kernel
theorem dX12_size_8 : decode cX12_size 8 = .ok (.ifCond .eq 16, 3) := by decide +kernel
theorem dX12_size_11 : decode cX12_size 11 = .ok (.iload_n 2, 1) := by decide +kernel
theorem dX12_size_12 : decode cX12_size 12 = .ok (.iconst 1, 1) := by decide +kernel
theorem dX12_size_13 : decode cX12_size 13 = .ok (.iconst 4, 1) := by decide +kernel
theorem dX12_size_14 : decode cX12_size 14 = .ok (.invokestatic 92, 3) := by decide +kernel
theorem dX12_size_17 : decode cX12_size 17 = .ok (.ifCond .eq 7, 3) := by decide +kernel
theorem dX12_size_20 : decode cX12_size 20 = .ok (.iconst 0, 1) := by decide +kernel
theorem dX12_size_21 : decode cX12_size 21 = .ok (.goto 4, 3) := by decide +kernel
theorem dX12_size_24 : decode cX12_size 24 = .ok (.iconst 1, 1) := by decide +kernel
theorem dX12_size_25 : decode cX12_size 25 = .ok (.putfield 89, 3) := by decide +kernel
theorem dX12_size_28 : decode cX12_size 28 = .ok (.aload_n 0, 1) := by decide +kernel
theorem dX12_size_29 : decode cX12_size 29 = .ok (.getfield 89, 3) := by decide +kernel
theorem dX12_size_32 : decode cX12_size 32 = .ok (.ifCond .le 5, 3) := by decide +kernel
theorem dX12_size_35 : decode cX12_size 35 = .ok (.iconst 0, 1) := by decide +kernel
theorem dX12_size_36 : decode cX12_size 36 = .ok (.ireturn, 1) := by decide +kernel
theorem dX12_size_37 : decode cX12_size 37 = .ok (.aload_n 0, 1) := by decide +kernel
theorem dX12_size_38 : decode cX12_size 38 = .ok (.getfield 9, 3) := by decide +kernel
theorem dX12_size_41 : decode cX12_size 41 = .ok (.iconst 2, 1) := by decide +kernel
theorem dX12_size_42 : decode cX12_size 42 = .ok (.iaload, 1) := by decide +kernel
theorem dX12_size_43 : decode cX12_size 43 = .ok (.istore_n 3, 1) := by decide +kernel
theorem dX12_size_44 : decode cX12_size 44 = .ok (.aload_n 0, 1) := by decide +kernel
theorem dX12_size_45 : decode cX12_size 45 = .ok (.iload_n 1, 1) := by decide +kernel
theorem dX12_size_46 : decode cX12_size 46 = .ok (.iload_n 2, 1) := by decide +kernel
theorem dX12_size_47 : decode cX12_size 47 = .ok (.invokevirtual 85, 3) := by decide +kernel
theorem dX12_size_50 : decode cX12_size 50 = .ok (.iload_n 3, 1) := by decide +kernel
theorem dX12_size_51 : decode cX12_size 51 = .ok (.ireturn, 1) := by decide +kernel
def LX12_size_25 (Q : Option Value → az_M → Prop) : az_T := (s_pi 13 5 (s_la 0 (s_gi 13 5 (s_if c_le (s_la 0 (s_gr 13 0 (s_ic (nI 2) (s_al 20 (s_si 3 (s_la 0 (s_li 1 (s_li 2 (s_cv 2 13 FX12_start (s_li 3 (s_ri Q))))))))))) (s_ic (nI 0) (s_ri Q))))))
theorem okLX12_size_25 {X : az_X} {Q : Option Value → az_M → Prop} (C : az_C X cX12_size 4 RX12 (az_ts yX12_size cX12_size 4 (some .int)) ({ frames := 2, cells := 0, slots := 0, locals := 123 } : Room) (some .int) Q) : az_ok X 25 (LX12_size_25 Q) := by
  have h51 := az_ireturn C rfl dX12_size_51
  have h50 := az_iload_n C 3 rfl dX12_size_50 h51
  have h47 := az_callV (ci := 13) C okX12_start knX12_start imX12_start seX12_start mLRX12_85 rfl (by decide) ⟨rfl, rfl, by decide, by decide⟩ dX12_size_47 h50
  have h46 := az_iload_n C 2 rfl dX12_size_46 h47
  have h45 := az_iload_n C 1 rfl dX12_size_45 h46
  have h44 := az_aload_n C 0 rfl dX12_size_44 h45
  have h43 := az_istore_n C 3 rfl (by decide) dX12_size_43 h44
  have h42 := az_iald C dX12_size_42 h43
  have h41 := az_iconst (x := (nI 2)) C dX12_size_41 (by decide +kernel) h42
  have h38 := az_getR (T := TX12) (N := 33) (j := 0) C gwRX12 rfl (by decide) (by decide) iIRX12_0 mFRX12_9 rfl dX12_size_38 h41
  have h37 := az_aload_n C 0 rfl dX12_size_37 h38
  have h36 := az_ireturn C rfl dX12_size_36
  have h35 := az_iconst (x := (nI 0)) C dX12_size_35 (by decide +kernel) h36
  have h32 := az_if_le (tgt := 37) C dX12_size_32 (by decide) h37 h35
  have h29 := az_getI (T := TX12) (N := 33) (j := 5) C gwRX12 rfl (by decide) (by decide) iIRX12_5 mFRX12_89 rfl dX12_size_29 h32
  have h28 := az_aload_n C 0 rfl dX12_size_28 h29
  have h25 := az_putI (T := TX12) (N := 33) (j := 5) C gwRX12 rfl (by decide) (by decide) tyX12 tyX12_ok nmX12 iIRX12_5 (by decide +kernel) rfl mFRX12_89 rfl dX12_size_25 h28
  exact h25
def LX12_size_24 (Q : Option Value → az_M → Prop) : az_T := (s_ic (nI 1) (s_kp [true, true, true, false] (LX12_size_25 Q)))
theorem okLX12_size_24 {X : az_X} {Q : Option Value → az_M → Prop} (C : az_C X cX12_size 4 RX12 (az_ts yX12_size cX12_size 4 (some .int)) ({ frames := 2, cells := 0, slots := 0, locals := 123 } : Room) (some .int) Q) : az_ok X 24 (LX12_size_24 Q) := by
  have h24 := az_iconst (x := (nI 1)) C dX12_size_24 (by decide +kernel) (az_keep [true, true, true, false] (okLX12_size_25 C))
  exact h24
def PX12_size (Q : Option Value → az_M → Prop) : az_T := (s_la 0 (s_li 1 (s_ic (nI 1) (s_ic (nI 24) (s_cs 3 FX12_in (s_if c_eq (s_kp [true, true, true, false] (LX12_size_24 Q)) (s_li 2 (s_ic (nI 1) (s_ic (nI 4) (s_cs 3 FX12_in (s_if c_eq (s_kp [true, true, true, false] (LX12_size_24 Q)) (s_ic (nI 0) (s_kp [true, true, true, false] (LX12_size_25 Q))))))))))))))
def FX12_size : az_F := az_fun [true, false, false] 4 PX12_size
theorem okX12_size (l : Launch) : az_met l yX12_size cX12_size 4 (some .int) ({ frames := 2, cells := 0, slots := 0, locals := 123 } : Room) FX12_size := az_met_of (own := RX12) (by decide +kernel) rfl (by decide) (fun X Q C => by
  have h21 := az_goto (tgt := 25) C dX12_size_21 (by decide) (az_keep [true, true, true, false] (okLX12_size_25 C))
  have h20 := az_iconst (x := (nI 0)) C dX12_size_20 (by decide +kernel) h21
  have h17 := az_if_eq (tgt := 24) C dX12_size_17 (by decide) (az_keep [true, true, true, false] (okLX12_size_24 C)) h20
  have h14 := az_callS C okX12_in knX12_in stX12_in mLRX12_92 ⟨rfl, rfl, by decide, by decide⟩ dX12_size_14 h17
  have h13 := az_iconst (x := (nI 4)) C dX12_size_13 (by decide +kernel) h14
  have h12 := az_iconst (x := (nI 1)) C dX12_size_12 (by decide +kernel) h13
  have h11 := az_iload_n C 2 rfl dX12_size_11 h12
  have h8 := az_if_eq (tgt := 24) C dX12_size_8 (by decide) (az_keep [true, true, true, false] (okLX12_size_24 C)) h11
  have h5 := az_callS C okX12_in knX12_in stX12_in mLRX12_92 ⟨rfl, rfl, by decide, by decide⟩ dX12_size_5 h8
  have h3 := az_bipush (x := (nI 24)) C dX12_size_3 (by decide +kernel) h5
  have h2 := az_iconst (x := (nI 1)) C dX12_size_2 (by decide +kernel) h3
  have h1 := az_iload_n C 1 rfl dX12_size_1 h2
  have h0 := az_aload_n C 0 rfl dX12_size_0 h1
  exact h0) l
theorem dX12_setDemand_0 : decode cX12_setDemand 0 = .ok (.aload_n 0, 1) := by decide +kernel
theorem dX12_setDemand_1 : decode cX12_setDemand 1 = .ok (.aload_n 0, 1) := by decide +kernel
theorem dX12_setDemand_2 : decode cX12_setDemand 2 = .ok (.iload_n 1, 1) := by decide +kernel
theorem dX12_setDemand_3 : decode cX12_setDemand 3 = .ok (.invokevirtual 113, 3) := by decide +kernel
theorem dX12_setDemand_6 : decode cX12_setDemand 6 = .ok (.ifCond .eq 11, 3) := by decide +kernel
theorem dX12_setDemand_9 : decode cX12_setDemand 9 = .ok (.aload_n 0, 1) := by decide +kernel
theorem dX12_setDemand_10 : decode cX12_setDemand 10 = .ok (.iload_n 2, 1) := by decide +kernel
theorem dX12_setDemand_11 : decode cX12_setDemand 11 = .ok (.invokevirtual 117, 3) := by decide +kernel
theorem dX12_setDemand_14 : decode cX12_setDemand 14 = .ok (.ifCond .ne 7, 3) := by decide +kernel
theorem dX12_setDemand_17 : decode cX12_setDemand 17 = .ok (.iconst 1, 1) := by decide +kernel
theorem dX12_setDemand_18 : decode cX12_setDemand 18 = .ok (.goto 19, 3) := by decide +kernel
theorem dX12_setDemand_21 : decode cX12_setDemand 21 = .ok (.iload_n 3, 1) := by decide +kernel
theorem dX12_setDemand_22 : decode cX12_setDemand 22 = .ok (.iconst 0, 1) := by decide +kernel
theorem dX12_setDemand_23 : decode cX12_setDemand 23 = .ok (.sipush 500, 3) := by decide +kernel
theorem dX12_setDemand_26 : decode cX12_setDemand 26 = .ok (.invokestatic 92, 3) := by decide +kernel
theorem dX12_setDemand_29 : decode cX12_setDemand 29 = .ok (.ifCond .ne 7, 3) := by decide +kernel
theorem dX12_setDemand_32 : decode cX12_setDemand 32 = .ok (.iconst 2, 1) := by decide +kernel
theorem dX12_setDemand_33 : decode cX12_setDemand 33 = .ok (.goto 4, 3) := by decide +kernel
theorem dX12_setDemand_36 : decode cX12_setDemand 36 = .ok (.iconst 0, 1) := by decide +kernel
theorem dX12_setDemand_37 : decode cX12_setDemand 37 = .ok (.putfield 89, 3) := by decide +kernel
theorem dX12_setDemand_40 : decode cX12_setDemand 40 = .ok (.aload_n 0, 1) := by decide +kernel
theorem dX12_setDemand_41 : decode cX12_setDemand 41 = .ok (.getfield 89, 3) := by decide +kernel
theorem dX12_setDemand_44 : decode cX12_setDemand 44 = .ok (.ifCond .le 5, 3) := by decide +kernel
theorem dX12_setDemand_47 : decode cX12_setDemand 47 = .ok (.iconst 0, 1) := by decide +kernel
theorem dX12_setDemand_48 : decode cX12_setDemand 48 = .ok (.ireturn, 1) := by decide +kernel
theorem dX12_setDemand_49 : decode cX12_setDemand 49 = .ok (.aload_n 0, 1) := by decide +kernel
theorem dX12_setDemand_50 : decode cX12_setDemand 50 = .ok (.invokevirtual 120, 3) := by decide +kernel
theorem dX12_setDemand_53 : decode cX12_setDemand 53 = .ok (.iconst 5, 1) := by decide +kernel
theorem dX12_setDemand_54 : decode cX12_setDemand 54 = .ok (.bipush 24, 2) := by decide +kernel
theorem dX12_setDemand_56 : decode cX12_setDemand 56 = .ok (.iload_n 1, 1) := by decide +kernel
theorem dX12_setDemand_57 : decode cX12_setDemand 57 = .ok (.imul, 1) := by decide +kernel
theorem dX12_setDemand_58 : decode cX12_setDemand 58 = .ok (.iadd, 1) := by decide +kernel
theorem dX12_setDemand_59 : decode cX12_setDemand 59 = .ok (.iload_n 2, 1) := by decide +kernel
theorem dX12_setDemand_60 : decode cX12_setDemand 60 = .ok (.iadd, 1) := by decide +kernel
theorem dX12_setDemand_61 : decode cX12_setDemand 61 = .ok (.istore 4, 2) := by decide +kernel
theorem dX12_setDemand_63 : decode cX12_setDemand 63 = .ok (.aload_n 0, 1) := by decide +kernel
theorem dX12_setDemand_64 : decode cX12_setDemand 64 = .ok (.getfield 9, 3) := by decide +kernel
theorem dX12_setDemand_67 : decode cX12_setDemand 67 = .ok (.iload 4, 2) := by decide +kernel
theorem dX12_setDemand_69 : decode cX12_setDemand 69 = .ok (.iaload, 1) := by decide +kernel
theorem dX12_setDemand_70 : decode cX12_setDemand 70 = .ok (.istore 5, 2) := by decide +kernel
theorem dX12_setDemand_72 : decode cX12_setDemand 72 = .ok (.aload_n 0, 1) := by decide +kernel
theorem dX12_setDemand_73 : decode cX12_setDemand 73 = .ok (.getfield 9, 3) := by decide +kernel
theorem dX12_setDemand_76 : decode cX12_setDemand 76 = .ok (.iload 4, 2) := by decide +kernel
theorem dX12_setDemand_78 : decode cX12_setDemand 78 = .ok (.iload_n 3, 1) := by decide +kernel
theorem dX12_setDemand_79 : decode cX12_setDemand 79 = .ok (.iastore, 1) := by decide +kernel
theorem dX12_setDemand_80 : decode cX12_setDemand 80 = .ok (.iload 5, 2) := by decide +kernel
theorem dX12_setDemand_82 : decode cX12_setDemand 82 = .ok (.ireturn, 1) := by decide +kernel
def LX12_setDemand_37 (Q : Option Value → az_M → Prop) : az_T := (s_pi 13 5 (s_la 0 (s_gi 13 5 (s_if c_le (s_la 0 (s_cv 0 13 FX12_change (s_ic (nI 5) (s_ic (nI 24) (s_li 1 (s_bin f_mul (s_bin f_add (s_li 2 (s_bin f_add (s_si 4 (s_la 0 (s_gr 13 0 (s_li 4 (s_al 20 (s_si 5 (s_la 0 (s_gr 13 0 (s_li 4 (s_li 3 (s_as (s_li 5 (s_ri Q)))))))))))))))))))))) (s_ic (nI 0) (s_ri Q))))))
theorem okLX12_setDemand_37 {X : az_X} {Q : Option Value → az_M → Prop} (C : az_C X cX12_setDemand 6 RX12 (az_ts yX12_setDemand cX12_setDemand 6 (some .int)) ({ frames := 3, cells := 0, slots := 0, locals := 143 } : Room) (some .int) Q) : az_ok X 37 (LX12_setDemand_37 Q) := by
  have h82 := az_ireturn C rfl dX12_setDemand_82
  have h80 := az_iload C dX12_setDemand_80 h82
  have h79 := az_iast C dX12_setDemand_79 h80
  have h78 := az_iload_n C 3 rfl dX12_setDemand_78 h79
  have h76 := az_iload C dX12_setDemand_76 h78
  have h73 := az_getR (T := TX12) (N := 33) (j := 0) C gwRX12 rfl (by decide) (by decide) iIRX12_0 mFRX12_9 rfl dX12_setDemand_73 h76
  have h72 := az_aload_n C 0 rfl dX12_setDemand_72 h73
  have h70 := az_istore C (by decide) dX12_setDemand_70 h72
  have h69 := az_iald C dX12_setDemand_69 h70
  have h67 := az_iload C dX12_setDemand_67 h69
  have h64 := az_getR (T := TX12) (N := 33) (j := 0) C gwRX12 rfl (by decide) (by decide) iIRX12_0 mFRX12_9 rfl dX12_setDemand_64 h67
  have h63 := az_aload_n C 0 rfl dX12_setDemand_63 h64
  have h61 := az_istore C (by decide) dX12_setDemand_61 h63
  have h60 := az_iadd C dX12_setDemand_60 h61
  have h59 := az_iload_n C 2 rfl dX12_setDemand_59 h60
  have h58 := az_iadd C dX12_setDemand_58 h59
  have h57 := az_imul C dX12_setDemand_57 h58
  have h56 := az_iload_n C 1 rfl dX12_setDemand_56 h57
  have h54 := az_bipush (x := (nI 24)) C dX12_setDemand_54 (by decide +kernel) h56
  have h53 := az_iconst (x := (nI 5)) C dX12_setDemand_53 (by decide +kernel) h54
  have h50 := az_callV (ci := 13) C okX12_change knX12_change imX12_change seX12_change mLRX12_120 rfl (by decide) ⟨rfl, rfl, by decide, by decide⟩ dX12_setDemand_50 h53
  have h49 := az_aload_n C 0 rfl dX12_setDemand_49 h50
  have h48 := az_ireturn C rfl dX12_setDemand_48
  have h47 := az_iconst (x := (nI 0)) C dX12_setDemand_47 (by decide +kernel) h48
  have h44 := az_if_le (tgt := 49) C dX12_setDemand_44 (by decide) h49 h47
  have h41 := az_getI (T := TX12) (N := 33) (j := 5) C gwRX12 rfl (by decide) (by decide) iIRX12_5 mFRX12_89 rfl dX12_setDemand_41 h44
  have h40 := az_aload_n C 0 rfl dX12_setDemand_40 h41
  have h37 := az_putI (T := TX12) (N := 33) (j := 5) C gwRX12 rfl (by decide) (by decide) tyX12 tyX12_ok nmX12 iIRX12_5 (by decide +kernel) rfl mFRX12_89 rfl dX12_setDemand_37 h40
  exact h37
def LX12_setDemand_17 (Q : Option Value → az_M → Prop) : az_T := (s_ic (nI 1) (s_kp [true, true, true, true, false, false] (LX12_setDemand_37 Q)))
theorem okLX12_setDemand_17 {X : az_X} {Q : Option Value → az_M → Prop} (C : az_C X cX12_setDemand 6 RX12 (az_ts yX12_setDemand cX12_setDemand 6 (some .int)) ({ frames := 3, cells := 0, slots := 0, locals := 143 } : Room) (some .int) Q) : az_ok X 17 (LX12_setDemand_17 Q) := by
  have h18 := az_goto (tgt := 37) C dX12_setDemand_18 (by decide) (az_keep [true, true, true, true, false, false] (okLX12_setDemand_37 C))
  have h17 := az_iconst (x := (nI 1)) C dX12_setDemand_17 (by decide +kernel) h18
  exact h17
def PX12_setDemand (Q : Option Value → az_M → Prop) : az_T := (s_la 0 (s_la 0 (s_li 1 (s_cv 1 13 FX12_isBus (s_if c_eq (s_kp [true, true, true, true, false, false] (LX12_setDemand_17 Q)) (s_la 0 (s_li 2 (s_cv 1 13 FX12_isHour (s_if c_ne (s_li 3 (s_ic (nI 0) (s_ic (nI 500) (s_cs 3 FX12_in (s_if c_ne (s_ic (nI 0) (s_kp [true, true, true, true, false, false] (LX12_setDemand_37 Q))) (s_ic (nI 2) (s_kp [true, true, true, true, false, false] (LX12_setDemand_37 Q)))))))) (s_kp [true, true, true, true, false, false] (LX12_setDemand_17 Q)))))))))))
def FX12_setDemand : az_F := az_fun [true, false, false, false] 6 PX12_setDemand
theorem okX12_setDemand (l : Launch) : az_met l yX12_setDemand cX12_setDemand 6 (some .int) ({ frames := 3, cells := 0, slots := 0, locals := 143 } : Room) FX12_setDemand := az_met_of (own := RX12) (by decide +kernel) rfl (by decide) (fun X Q C => by
  have h36 := az_iconst (x := (nI 0)) C dX12_setDemand_36 (by decide +kernel) (az_keep [true, true, true, true, false, false] (okLX12_setDemand_37 C))
  have h33 := az_goto (tgt := 37) C dX12_setDemand_33 (by decide) (az_keep [true, true, true, true, false, false] (okLX12_setDemand_37 C))
  have h32 := az_iconst (x := (nI 2)) C dX12_setDemand_32 (by decide +kernel) h33
  have h29 := az_if_ne (tgt := 36) C dX12_setDemand_29 (by decide) h36 h32
  have h26 := az_callS C okX12_in knX12_in stX12_in mLRX12_92 ⟨rfl, rfl, by decide, by decide⟩ dX12_setDemand_26 h29
  have h23 := az_sipush (x := (nI 500)) C dX12_setDemand_23 (by decide +kernel) h26
  have h22 := az_iconst (x := (nI 0)) C dX12_setDemand_22 (by decide +kernel) h23
  have h21 := az_iload_n C 3 rfl dX12_setDemand_21 h22
  have h14 := az_if_ne (tgt := 21) C dX12_setDemand_14 (by decide) h21 (az_keep [true, true, true, true, false, false] (okLX12_setDemand_17 C))
  have h11 := az_callV (ci := 13) C okX12_isHour knX12_isHour imX12_isHour seX12_isHour mLRX12_117 rfl (by decide) ⟨rfl, rfl, by decide, by decide⟩ dX12_setDemand_11 h14
  have h10 := az_iload_n C 2 rfl dX12_setDemand_10 h11
  have h9 := az_aload_n C 0 rfl dX12_setDemand_9 h10
  have h6 := az_if_eq (tgt := 17) C dX12_setDemand_6 (by decide) (az_keep [true, true, true, true, false, false] (okLX12_setDemand_17 C)) h9
  have h3 := az_callV (ci := 13) C okX12_isBus knX12_isBus imX12_isBus seX12_isBus mLRX12_113 rfl (by decide) ⟨rfl, rfl, by decide, by decide⟩ dX12_setDemand_3 h6
  have h2 := az_iload_n C 1 rfl dX12_setDemand_2 h3
  have h1 := az_aload_n C 0 rfl dX12_setDemand_1 h2
  have h0 := az_aload_n C 0 rfl dX12_setDemand_0 h1
  exact h0) l
theorem dX12_setReserve_0 : decode cX12_setReserve 0 = .ok (.aload_n 0, 1) := by decide +kernel
theorem dX12_setReserve_1 : decode cX12_setReserve 1 = .ok (.aload_n 0, 1) := by decide +kernel
theorem dX12_setReserve_2 : decode cX12_setReserve 2 = .ok (.iload_n 1, 1) := by decide +kernel
theorem dX12_setReserve_3 : decode cX12_setReserve 3 = .ok (.invokevirtual 117, 3) := by decide +kernel
theorem dX12_setReserve_6 : decode cX12_setReserve 6 = .ok (.ifCond .ne 7, 3) := by decide +kernel
theorem dX12_setReserve_9 : decode cX12_setReserve 9 = .ok (.iconst 1, 1) := by decide +kernel
theorem dX12_setReserve_10 : decode cX12_setReserve 10 = .ok (.goto 19, 3) := by decide +kernel
theorem dX12_setReserve_13 : decode cX12_setReserve 13 = .ok (.iload_n 2, 1) := by decide +kernel
theorem dX12_setReserve_14 : decode cX12_setReserve 14 = .ok (.iconst 0, 1) := by decide +kernel
theorem dX12_setReserve_15 : decode cX12_setReserve 15 = .ok (.sipush 500, 3) := by decide +kernel
theorem dX12_setReserve_18 : decode cX12_setReserve 18 = .ok (.invokestatic 92, 3) := by decide +kernel
theorem dX12_setReserve_21 : decode cX12_setReserve 21 = .ok (.ifCond .ne 7, 3) := by decide +kernel
theorem dX12_setReserve_24 : decode cX12_setReserve 24 = .ok (.iconst 2, 1) := by decide +kernel
theorem dX12_setReserve_25 : decode cX12_setReserve 25 = .ok (.goto 4, 3) := by decide +kernel
theorem dX12_setReserve_28 : decode cX12_setReserve 28 = .ok (.iconst 0, 1) := by decide +kernel
theorem dX12_setReserve_29 : decode cX12_setReserve 29 = .ok (.putfield 89, 3) := by decide +kernel
theorem dX12_setReserve_32 : decode cX12_setReserve 32 = .ok (.aload_n 0, 1) := by decide +kernel
theorem dX12_setReserve_33 : decode cX12_setReserve 33 = .ok (.getfield 89, 3) := by decide +kernel
theorem dX12_setReserve_36 : decode cX12_setReserve 36 = .ok (.ifCond .le 5, 3) := by decide +kernel
theorem dX12_setReserve_39 : decode cX12_setReserve 39 = .ok (.iconst 0, 1) := by decide +kernel
theorem dX12_setReserve_40 : decode cX12_setReserve 40 = .ok (.ireturn, 1) := by decide +kernel
theorem dX12_setReserve_41 : decode cX12_setReserve 41 = .ok (.aload_n 0, 1) := by decide +kernel
theorem dX12_setReserve_42 : decode cX12_setReserve 42 = .ok (.invokevirtual 120, 3) := by decide +kernel
theorem dX12_setReserve_45 : decode cX12_setReserve 45 = .ok (.aload_n 0, 1) := by decide +kernel
theorem dX12_setReserve_46 : decode cX12_setReserve 46 = .ok (.getfield 9, 3) := by decide +kernel
theorem dX12_setReserve_49 : decode cX12_setReserve 49 = .ok (.bipush 101, 2) := by decide +kernel
theorem dX12_setReserve_51 : decode cX12_setReserve 51 = .ok (.iload_n 1, 1) := by decide +kernel
theorem dX12_setReserve_52 : decode cX12_setReserve 52 = .ok (.iadd, 1) := by decide +kernel
theorem dX12_setReserve_53 : decode cX12_setReserve 53 = .ok (.iaload, 1) := by decide +kernel
theorem dX12_setReserve_54 : decode cX12_setReserve 54 = .ok (.istore_n 3, 1) := by decide +kernel
theorem dX12_setReserve_55 : decode cX12_setReserve 55 = .ok (.aload_n 0, 1) := by decide +kernel
theorem dX12_setReserve_56 : decode cX12_setReserve 56 = .ok (.getfield 9, 3) := by decide +kernel
theorem dX12_setReserve_59 : decode cX12_setReserve 59 = .ok (.bipush 101, 2) := by decide +kernel
theorem dX12_setReserve_61 : decode cX12_setReserve 61 = .ok (.iload_n 1, 1) := by decide +kernel
theorem dX12_setReserve_62 : decode cX12_setReserve 62 = .ok (.iadd, 1) := by decide +kernel
theorem dX12_setReserve_63 : decode cX12_setReserve 63 = .ok (.iload_n 2, 1) := by decide +kernel
theorem dX12_setReserve_64 : decode cX12_setReserve 64 = .ok (.iastore, 1) := by decide +kernel
theorem dX12_setReserve_65 : decode cX12_setReserve 65 = .ok (.iload_n 3, 1) := by decide +kernel
theorem dX12_setReserve_66 : decode cX12_setReserve 66 = .ok (.ireturn, 1) := by decide +kernel
def LX12_setReserve_29 (Q : Option Value → az_M → Prop) : az_T := (s_pi 13 5 (s_la 0 (s_gi 13 5 (s_if c_le (s_la 0 (s_cv 0 13 FX12_change (s_la 0 (s_gr 13 0 (s_ic (nI 101) (s_li 1 (s_bin f_add (s_al 20 (s_si 3 (s_la 0 (s_gr 13 0 (s_ic (nI 101) (s_li 1 (s_bin f_add (s_li 2 (s_as (s_li 3 (s_ri Q)))))))))))))))))) (s_ic (nI 0) (s_ri Q))))))
theorem okLX12_setReserve_29 {X : az_X} {Q : Option Value → az_M → Prop} (C : az_C X cX12_setReserve 4 RX12 (az_ts yX12_setReserve cX12_setReserve 4 (some .int)) ({ frames := 3, cells := 0, slots := 0, locals := 143 } : Room) (some .int) Q) : az_ok X 29 (LX12_setReserve_29 Q) := by
  have h66 := az_ireturn C rfl dX12_setReserve_66
  have h65 := az_iload_n C 3 rfl dX12_setReserve_65 h66
  have h64 := az_iast C dX12_setReserve_64 h65
  have h63 := az_iload_n C 2 rfl dX12_setReserve_63 h64
  have h62 := az_iadd C dX12_setReserve_62 h63
  have h61 := az_iload_n C 1 rfl dX12_setReserve_61 h62
  have h59 := az_bipush (x := (nI 101)) C dX12_setReserve_59 (by decide +kernel) h61
  have h56 := az_getR (T := TX12) (N := 33) (j := 0) C gwRX12 rfl (by decide) (by decide) iIRX12_0 mFRX12_9 rfl dX12_setReserve_56 h59
  have h55 := az_aload_n C 0 rfl dX12_setReserve_55 h56
  have h54 := az_istore_n C 3 rfl (by decide) dX12_setReserve_54 h55
  have h53 := az_iald C dX12_setReserve_53 h54
  have h52 := az_iadd C dX12_setReserve_52 h53
  have h51 := az_iload_n C 1 rfl dX12_setReserve_51 h52
  have h49 := az_bipush (x := (nI 101)) C dX12_setReserve_49 (by decide +kernel) h51
  have h46 := az_getR (T := TX12) (N := 33) (j := 0) C gwRX12 rfl (by decide) (by decide) iIRX12_0 mFRX12_9 rfl dX12_setReserve_46 h49
  have h45 := az_aload_n C 0 rfl dX12_setReserve_45 h46
  have h42 := az_callV (ci := 13) C okX12_change knX12_change imX12_change seX12_change mLRX12_120 rfl (by decide) ⟨rfl, rfl, by decide, by decide⟩ dX12_setReserve_42 h45
  have h41 := az_aload_n C 0 rfl dX12_setReserve_41 h42
  have h40 := az_ireturn C rfl dX12_setReserve_40
  have h39 := az_iconst (x := (nI 0)) C dX12_setReserve_39 (by decide +kernel) h40
  have h36 := az_if_le (tgt := 41) C dX12_setReserve_36 (by decide) h41 h39
  have h33 := az_getI (T := TX12) (N := 33) (j := 5) C gwRX12 rfl (by decide) (by decide) iIRX12_5 mFRX12_89 rfl dX12_setReserve_33 h36
  have h32 := az_aload_n C 0 rfl dX12_setReserve_32 h33
  have h29 := az_putI (T := TX12) (N := 33) (j := 5) C gwRX12 rfl (by decide) (by decide) tyX12 tyX12_ok nmX12 iIRX12_5 (by decide +kernel) rfl mFRX12_89 rfl dX12_setReserve_29 h32
  exact h29
def PX12_setReserve (Q : Option Value → az_M → Prop) : az_T := (s_la 0 (s_la 0 (s_li 1 (s_cv 1 13 FX12_isHour (s_if c_ne (s_li 2 (s_ic (nI 0) (s_ic (nI 500) (s_cs 3 FX12_in (s_if c_ne (s_ic (nI 0) (s_kp [true, true, true, false] (LX12_setReserve_29 Q))) (s_ic (nI 2) (s_kp [true, true, true, false] (LX12_setReserve_29 Q)))))))) (s_ic (nI 1) (s_kp [true, true, true, false] (LX12_setReserve_29 Q))))))))
def FX12_setReserve : az_F := az_fun [true, false, false] 4 PX12_setReserve
theorem okX12_setReserve (l : Launch) : az_met l yX12_setReserve cX12_setReserve 4 (some .int) ({ frames := 3, cells := 0, slots := 0, locals := 143 } : Room) FX12_setReserve := az_met_of (own := RX12) (by decide +kernel) rfl (by decide) (fun X Q C => by
  have h28 := az_iconst (x := (nI 0)) C dX12_setReserve_28 (by decide +kernel) (az_keep [true, true, true, false] (okLX12_setReserve_29 C))
  have h25 := az_goto (tgt := 29) C dX12_setReserve_25 (by decide) (az_keep [true, true, true, false] (okLX12_setReserve_29 C))
  have h24 := az_iconst (x := (nI 2)) C dX12_setReserve_24 (by decide +kernel) h25
  have h21 := az_if_ne (tgt := 28) C dX12_setReserve_21 (by decide) h28 h24
  have h18 := az_callS C okX12_in knX12_in stX12_in mLRX12_92 ⟨rfl, rfl, by decide, by decide⟩ dX12_setReserve_18 h21
  have h15 := az_sipush (x := (nI 500)) C dX12_setReserve_15 (by decide +kernel) h18
  have h14 := az_iconst (x := (nI 0)) C dX12_setReserve_14 (by decide +kernel) h15
  have h13 := az_iload_n C 2 rfl dX12_setReserve_13 h14
  have h10 := az_goto (tgt := 29) C dX12_setReserve_10 (by decide) (az_keep [true, true, true, false] (okLX12_setReserve_29 C))
  have h9 := az_iconst (x := (nI 1)) C dX12_setReserve_9 (by decide +kernel) h10
  have h6 := az_if_ne (tgt := 13) C dX12_setReserve_6 (by decide) h13 h9
  have h3 := az_callV (ci := 13) C okX12_isHour knX12_isHour imX12_isHour seX12_isHour mLRX12_117 rfl (by decide) ⟨rfl, rfl, by decide, by decide⟩ dX12_setReserve_3 h6
  have h2 := az_iload_n C 1 rfl dX12_setReserve_2 h3
  have h1 := az_aload_n C 0 rfl dX12_setReserve_1 h2
  have h0 := az_aload_n C 0 rfl dX12_setReserve_0 h1
  exact h0) l
theorem dX12_setLine_0 : decode cX12_setLine 0 = .ok (.aload_n 0, 1) := by decide +kernel
theorem dX12_setLine_1 : decode cX12_setLine 1 = .ok (.aload_n 0, 1) := by decide +kernel
theorem dX12_setLine_2 : decode cX12_setLine 2 = .ok (.iload_n 1, 1) := by decide +kernel
theorem dX12_setLine_3 : decode cX12_setLine 3 = .ok (.invokevirtual 113, 3) := by decide +kernel
theorem dX12_setLine_6 : decode cX12_setLine 6 = .ok (.ifCond .eq 18, 3) := by decide +kernel
theorem dX12_setLine_9 : decode cX12_setLine 9 = .ok (.iload_n 1, 1) := by decide +kernel
theorem dX12_setLine_10 : decode cX12_setLine 10 = .ok (.ifCond .eq 14, 3) := by decide +kernel
theorem dX12_setLine_13 : decode cX12_setLine 13 = .ok (.iload_n 2, 1) := by decide +kernel
theorem dX12_setLine_14 : decode cX12_setLine 14 = .ok (.iconst 0, 1) := by decide +kernel
theorem dX12_setLine_15 : decode cX12_setLine 15 = .ok (.iload_n 1, 1) := by decide +kernel
theorem dX12_setLine_16 : decode cX12_setLine 16 = .ok (.iconst 1, 1) := by decide +kernel
theorem dX12_setLine_17 : decode cX12_setLine 17 = .ok (.isub, 1) := by decide +kernel
theorem dX12_setLine_18 : decode cX12_setLine 18 = .ok (.invokestatic 92, 3) := by decide +kernel
theorem dX12_setLine_21 : decode cX12_setLine 21 = .ok (.ifCond .ne 7, 3) := by decide +kernel
theorem dX12_setLine_24 : decode cX12_setLine 24 = .ok (.iconst 1, 1) := by decide +kernel
theorem dX12_setLine_25 : decode cX12_setLine 25 = .ok (.goto 19, 3) := by decide +kernel
theorem dX12_setLine_28 : decode cX12_setLine 28 = .ok (.iload_n 3, 1) := by decide +kernel
theorem dX12_setLine_29 : decode cX12_setLine 29 = .ok (.iconst 0, 1) := by decide +kernel
theorem dX12_setLine_30 : decode cX12_setLine 30 = .ok (.sipush 1000, 3) := by decide +kernel
theorem dX12_setLine_33 : decode cX12_setLine 33 = .ok (.invokestatic 92, 3) := by decide +kernel
theorem dX12_setLine_36 : decode cX12_setLine 36 = .ok (.ifCond .ne 7, 3) := by decide +kernel
theorem dX12_setLine_39 : decode cX12_setLine 39 = .ok (.iconst 2, 1) := by decide +kernel
theorem dX12_setLine_40 : decode cX12_setLine 40 = .ok (.goto 4, 3) := by decide +kernel
theorem dX12_setLine_43 : decode cX12_setLine 43 = .ok (.iconst 0, 1) := by decide +kernel
theorem dX12_setLine_44 : decode cX12_setLine 44 = .ok (.putfield 89, 3) := by decide +kernel
theorem dX12_setLine_47 : decode cX12_setLine 47 = .ok (.aload_n 0, 1) := by decide +kernel
theorem dX12_setLine_48 : decode cX12_setLine 48 = .ok (.getfield 89, 3) := by decide +kernel
theorem dX12_setLine_51 : decode cX12_setLine 51 = .ok (.ifCond .le 5, 3) := by decide +kernel
theorem dX12_setLine_54 : decode cX12_setLine 54 = .ok (.iconst 0, 1) := by decide +kernel
theorem dX12_setLine_55 : decode cX12_setLine 55 = .ok (.ireturn, 1) := by decide +kernel
theorem dX12_setLine_56 : decode cX12_setLine 56 = .ok (.aload_n 0, 1) := by decide +kernel
theorem dX12_setLine_57 : decode cX12_setLine 57 = .ok (.invokevirtual 120, 3) := by decide +kernel
theorem dX12_setLine_60 : decode cX12_setLine 60 = .ok (.aload_n 0, 1) := by decide +kernel
theorem dX12_setLine_61 : decode cX12_setLine 61 = .ok (.getfield 9, 3) := by decide +kernel
theorem dX12_setLine_64 : decode cX12_setLine 64 = .ok (.sipush 129, 3) := by decide +kernel
theorem dX12_setLine_67 : decode cX12_setLine 67 = .ok (.iload_n 1, 1) := by decide +kernel
theorem dX12_setLine_68 : decode cX12_setLine 68 = .ok (.iadd, 1) := by decide +kernel
theorem dX12_setLine_69 : decode cX12_setLine 69 = .ok (.iaload, 1) := by decide +kernel
theorem dX12_setLine_70 : decode cX12_setLine 70 = .ok (.istore 4, 2) := by decide +kernel
theorem dX12_setLine_72 : decode cX12_setLine 72 = .ok (.aload_n 0, 1) := by decide +kernel
theorem dX12_setLine_73 : decode cX12_setLine 73 = .ok (.getfield 9, 3) := by decide +kernel
theorem dX12_setLine_76 : decode cX12_setLine 76 = .ok (.bipush 125, 2) := by decide +kernel
theorem dX12_setLine_78 : decode cX12_setLine 78 = .ok (.iload_n 1, 1) := by decide +kernel
theorem dX12_setLine_79 : decode cX12_setLine 79 = .ok (.iadd, 1) := by decide +kernel
theorem dX12_setLine_80 : decode cX12_setLine 80 = .ok (.iload_n 2, 1) := by decide +kernel
theorem dX12_setLine_81 : decode cX12_setLine 81 = .ok (.iastore, 1) := by decide +kernel
theorem dX12_setLine_82 : decode cX12_setLine 82 = .ok (.aload_n 0, 1) := by decide +kernel
theorem dX12_setLine_83 : decode cX12_setLine 83 = .ok (.getfield 9, 3) := by decide +kernel
theorem dX12_setLine_86 : decode cX12_setLine 86 = .ok (.sipush 129, 3) := by decide +kernel
theorem dX12_setLine_89 : decode cX12_setLine 89 = .ok (.iload_n 1, 1) := by decide +kernel
theorem dX12_setLine_90 : decode cX12_setLine 90 = .ok (.iadd, 1) := by decide +kernel
theorem dX12_setLine_91 : decode cX12_setLine 91 = .ok (.iload_n 3, 1) := by decide +kernel
theorem dX12_setLine_92 : decode cX12_setLine 92 = .ok (.iastore, 1) := by decide +kernel
theorem dX12_setLine_93 : decode cX12_setLine 93 = .ok (.iload 4, 2) := by decide +kernel
theorem dX12_setLine_95 : decode cX12_setLine 95 = .ok (.ireturn, 1) := by decide +kernel
def LX12_setLine_44 (Q : Option Value → az_M → Prop) : az_T := (s_pi 13 5 (s_la 0 (s_gi 13 5 (s_if c_le (s_la 0 (s_cv 0 13 FX12_change (s_la 0 (s_gr 13 0 (s_ic (nI 129) (s_li 1 (s_bin f_add (s_al 20 (s_si 4 (s_la 0 (s_gr 13 0 (s_ic (nI 125) (s_li 1 (s_bin f_add (s_li 2 (s_as (s_la 0 (s_gr 13 0 (s_ic (nI 129) (s_li 1 (s_bin f_add (s_li 3 (s_as (s_li 4 (s_ri Q))))))))))))))))))))))))) (s_ic (nI 0) (s_ri Q))))))
theorem okLX12_setLine_44 {X : az_X} {Q : Option Value → az_M → Prop} (C : az_C X cX12_setLine 5 RX12 (az_ts yX12_setLine cX12_setLine 5 (some .int)) ({ frames := 3, cells := 0, slots := 0, locals := 143 } : Room) (some .int) Q) : az_ok X 44 (LX12_setLine_44 Q) := by
  have h95 := az_ireturn C rfl dX12_setLine_95
  have h93 := az_iload C dX12_setLine_93 h95
  have h92 := az_iast C dX12_setLine_92 h93
  have h91 := az_iload_n C 3 rfl dX12_setLine_91 h92
  have h90 := az_iadd C dX12_setLine_90 h91
  have h89 := az_iload_n C 1 rfl dX12_setLine_89 h90
  have h86 := az_sipush (x := (nI 129)) C dX12_setLine_86 (by decide +kernel) h89
  have h83 := az_getR (T := TX12) (N := 33) (j := 0) C gwRX12 rfl (by decide) (by decide) iIRX12_0 mFRX12_9 rfl dX12_setLine_83 h86
  have h82 := az_aload_n C 0 rfl dX12_setLine_82 h83
  have h81 := az_iast C dX12_setLine_81 h82
  have h80 := az_iload_n C 2 rfl dX12_setLine_80 h81
  have h79 := az_iadd C dX12_setLine_79 h80
  have h78 := az_iload_n C 1 rfl dX12_setLine_78 h79
  have h76 := az_bipush (x := (nI 125)) C dX12_setLine_76 (by decide +kernel) h78
  have h73 := az_getR (T := TX12) (N := 33) (j := 0) C gwRX12 rfl (by decide) (by decide) iIRX12_0 mFRX12_9 rfl dX12_setLine_73 h76
  have h72 := az_aload_n C 0 rfl dX12_setLine_72 h73
  have h70 := az_istore C (by decide) dX12_setLine_70 h72
  have h69 := az_iald C dX12_setLine_69 h70
  have h68 := az_iadd C dX12_setLine_68 h69
  have h67 := az_iload_n C 1 rfl dX12_setLine_67 h68
  have h64 := az_sipush (x := (nI 129)) C dX12_setLine_64 (by decide +kernel) h67
  have h61 := az_getR (T := TX12) (N := 33) (j := 0) C gwRX12 rfl (by decide) (by decide) iIRX12_0 mFRX12_9 rfl dX12_setLine_61 h64
  have h60 := az_aload_n C 0 rfl dX12_setLine_60 h61
  have h57 := az_callV (ci := 13) C okX12_change knX12_change imX12_change seX12_change mLRX12_120 rfl (by decide) ⟨rfl, rfl, by decide, by decide⟩ dX12_setLine_57 h60
  have h56 := az_aload_n C 0 rfl dX12_setLine_56 h57
  have h55 := az_ireturn C rfl dX12_setLine_55
  have h54 := az_iconst (x := (nI 0)) C dX12_setLine_54 (by decide +kernel) h55
  have h51 := az_if_le (tgt := 56) C dX12_setLine_51 (by decide) h56 h54
  have h48 := az_getI (T := TX12) (N := 33) (j := 5) C gwRX12 rfl (by decide) (by decide) iIRX12_5 mFRX12_89 rfl dX12_setLine_48 h51
  have h47 := az_aload_n C 0 rfl dX12_setLine_47 h48
  have h44 := az_putI (T := TX12) (N := 33) (j := 5) C gwRX12 rfl (by decide) (by decide) tyX12 tyX12_ok nmX12 iIRX12_5 (by decide +kernel) rfl mFRX12_89 rfl dX12_setLine_44 h47
  exact h44
def LX12_setLine_24 (Q : Option Value → az_M → Prop) : az_T := (s_ic (nI 1) (s_kp [true, true, true, true, false] (LX12_setLine_44 Q)))
theorem okLX12_setLine_24 {X : az_X} {Q : Option Value → az_M → Prop} (C : az_C X cX12_setLine 5 RX12 (az_ts yX12_setLine cX12_setLine 5 (some .int)) ({ frames := 3, cells := 0, slots := 0, locals := 143 } : Room) (some .int) Q) : az_ok X 24 (LX12_setLine_24 Q) := by
  have h25 := az_goto (tgt := 44) C dX12_setLine_25 (by decide) (az_keep [true, true, true, true, false] (okLX12_setLine_44 C))
  have h24 := az_iconst (x := (nI 1)) C dX12_setLine_24 (by decide +kernel) h25
  exact h24
def PX12_setLine (Q : Option Value → az_M → Prop) : az_T := (s_la 0 (s_la 0 (s_li 1 (s_cv 1 13 FX12_isBus (s_if c_eq (s_kp [true, true, true, true, false] (LX12_setLine_24 Q)) (s_li 1 (s_if c_eq (s_kp [true, true, true, true, false] (LX12_setLine_24 Q)) (s_li 2 (s_ic (nI 0) (s_li 1 (s_ic (nI 1) (s_bin f_sub (s_cs 3 FX12_in (s_if c_ne (s_li 3 (s_ic (nI 0) (s_ic (nI 1000) (s_cs 3 FX12_in (s_if c_ne (s_ic (nI 0) (s_kp [true, true, true, true, false] (LX12_setLine_44 Q))) (s_ic (nI 2) (s_kp [true, true, true, true, false] (LX12_setLine_44 Q)))))))) (s_kp [true, true, true, true, false] (LX12_setLine_24 Q))))))))))))))))
def FX12_setLine : az_F := az_fun [true, false, false, false] 5 PX12_setLine
theorem okX12_setLine (l : Launch) : az_met l yX12_setLine cX12_setLine 5 (some .int) ({ frames := 3, cells := 0, slots := 0, locals := 143 } : Room) FX12_setLine := az_met_of (own := RX12) (by decide +kernel) rfl (by decide) (fun X Q C => by
  have h43 := az_iconst (x := (nI 0)) C dX12_setLine_43 (by decide +kernel) (az_keep [true, true, true, true, false] (okLX12_setLine_44 C))
  have h40 := az_goto (tgt := 44) C dX12_setLine_40 (by decide) (az_keep [true, true, true, true, false] (okLX12_setLine_44 C))
  have h39 := az_iconst (x := (nI 2)) C dX12_setLine_39 (by decide +kernel) h40
  have h36 := az_if_ne (tgt := 43) C dX12_setLine_36 (by decide) h43 h39
  have h33 := az_callS C okX12_in knX12_in stX12_in mLRX12_92 ⟨rfl, rfl, by decide, by decide⟩ dX12_setLine_33 h36
  have h30 := az_sipush (x := (nI 1000)) C dX12_setLine_30 (by decide +kernel) h33
  have h29 := az_iconst (x := (nI 0)) C dX12_setLine_29 (by decide +kernel) h30
  have h28 := az_iload_n C 3 rfl dX12_setLine_28 h29
  have h21 := az_if_ne (tgt := 28) C dX12_setLine_21 (by decide) h28 (az_keep [true, true, true, true, false] (okLX12_setLine_24 C))
  have h18 := az_callS C okX12_in knX12_in stX12_in mLRX12_92 ⟨rfl, rfl, by decide, by decide⟩ dX12_setLine_18 h21
  have h17 := az_isub C dX12_setLine_17 h18
  have h16 := az_iconst (x := (nI 1)) C dX12_setLine_16 (by decide +kernel) h17
  have h15 := az_iload_n C 1 rfl dX12_setLine_15 h16
  have h14 := az_iconst (x := (nI 0)) C dX12_setLine_14 (by decide +kernel) h15
  have h13 := az_iload_n C 2 rfl dX12_setLine_13 h14
  have h10 := az_if_eq (tgt := 24) C dX12_setLine_10 (by decide) (az_keep [true, true, true, true, false] (okLX12_setLine_24 C)) h13
  have h9 := az_iload_n C 1 rfl dX12_setLine_9 h10
  have h6 := az_if_eq (tgt := 24) C dX12_setLine_6 (by decide) (az_keep [true, true, true, true, false] (okLX12_setLine_24 C)) h9
  have h3 := az_callV (ci := 13) C okX12_isBus knX12_isBus imX12_isBus seX12_isBus mLRX12_113 rfl (by decide) ⟨rfl, rfl, by decide, by decide⟩ dX12_setLine_3 h6
  have h2 := az_iload_n C 1 rfl dX12_setLine_2 h3
  have h1 := az_aload_n C 0 rfl dX12_setLine_1 h2
  have h0 := az_aload_n C 0 rfl dX12_setLine_0 h1
  exact h0) l
theorem dX12_addUnit_0 : decode cX12_addUnit 0 = .ok (.iload_n 2, 1) := by decide +kernel
theorem dX12_addUnit_1 : decode cX12_addUnit 1 = .ok (.iconst 0, 1) := by decide +kernel
theorem dX12_addUnit_2 : decode cX12_addUnit 2 = .ok (.sipush 500, 3) := by decide +kernel
theorem dX12_addUnit_5 : decode cX12_addUnit 5 = .ok (.invokestatic 92, 3) := by decide +kernel
theorem dX12_addUnit_8 : decode cX12_addUnit 8 = .ok (.ifCond .eq 45, 3) := by decide +kernel
theorem dX12_addUnit_11 : decode cX12_addUnit 11 = .ok (.iload_n 3, 1) := by decide +kernel
theorem dX12_addUnit_12 : decode cX12_addUnit 12 = .ok (.iconst 1, 1) := by decide +kernel
theorem dX12_addUnit_13 : decode cX12_addUnit 13 = .ok (.iload_n 2, 1) := by decide +kernel
theorem dX12_addUnit_14 : decode cX12_addUnit 14 = .ok (.invokestatic 123, 3) := by decide +kernel
theorem dX12_addUnit_17 : decode cX12_addUnit 17 = .ok (.sipush 500, 3) := by decide +kernel
theorem dX12_addUnit_20 : decode cX12_addUnit 20 = .ok (.invokestatic 92, 3) := by decide +kernel
theorem dX12_addUnit_23 : decode cX12_addUnit 23 = .ok (.ifCond .eq 30, 3) := by decide +kernel
theorem dX12_addUnit_26 : decode cX12_addUnit 26 = .ok (.iload 4, 2) := by decide +kernel
theorem dX12_addUnit_28 : decode cX12_addUnit 28 = .ok (.iconst 1, 1) := by decide +kernel
theorem dX12_addUnit_29 : decode cX12_addUnit 29 = .ok (.sipush 500, 3) := by decide +kernel
theorem dX12_addUnit_32 : decode cX12_addUnit 32 = .ok (.invokestatic 92, 3) := by decide +kernel
theorem dX12_addUnit_35 : decode cX12_addUnit 35 = .ok (.ifCond .eq 18, 3) := by decide +kernel
theorem dX12_addUnit_38 : decode cX12_addUnit 38 = .ok (.iload 5, 2) := by decide +kernel
theorem dX12_addUnit_40 : decode cX12_addUnit 40 = .ok (.iconst 0, 1) := by decide +kernel
theorem dX12_addUnit_41 : decode cX12_addUnit 41 = .ok (.bipush 100, 2) := by decide +kernel
theorem dX12_addUnit_43 : decode cX12_addUnit 43 = .ok (.invokestatic 92, 3) := by decide +kernel
theorem dX12_addUnit_46 : decode cX12_addUnit 46 = .ok (.ifCond .eq 7, 3) := by decide +kernel
theorem dX12_addUnit_49 : decode cX12_addUnit 49 = .ok (.iconst 1, 1) := by decide +kernel
theorem dX12_addUnit_50 : decode cX12_addUnit 50 = .ok (.goto 4, 3) := by decide +kernel
theorem dX12_addUnit_53 : decode cX12_addUnit 53 = .ok (.iconst 0, 1) := by decide +kernel
theorem dX12_addUnit_54 : decode cX12_addUnit 54 = .ok (.istore 6, 2) := by decide +kernel
theorem dX12_addUnit_56 : decode cX12_addUnit 56 = .ok (.aload_n 0, 1) := by decide +kernel
theorem dX12_addUnit_57 : decode cX12_addUnit 57 = .ok (.aload_n 0, 1) := by decide +kernel
theorem dX12_addUnit_58 : decode cX12_addUnit 58 = .ok (.iload_n 1, 1) := by decide +kernel
theorem dX12_addUnit_59 : decode cX12_addUnit 59 = .ok (.invokevirtual 113, 3) := by decide +kernel
theorem dX12_addUnit_62 : decode cX12_addUnit 62 = .ok (.ifCond .ne 7, 3) := by decide +kernel
theorem dX12_addUnit_65 : decode cX12_addUnit 65 = .ok (.iconst 1, 1) := by decide +kernel
theorem dX12_addUnit_66 : decode cX12_addUnit 66 = .ok (.goto 28, 3) := by decide +kernel
theorem dX12_addUnit_69 : decode cX12_addUnit 69 = .ok (.iload 6, 2) := by decide +kernel
theorem dX12_addUnit_71 : decode cX12_addUnit 71 = .ok (.ifCond .ne 7, 3) := by decide +kernel
theorem dX12_addUnit_74 : decode cX12_addUnit 74 = .ok (.iconst 2, 1) := by decide +kernel
theorem dX12_addUnit_75 : decode cX12_addUnit 75 = .ok (.goto 19, 3) := by decide +kernel
theorem dX12_addUnit_78 : decode cX12_addUnit 78 = .ok (.aload_n 0, 1) := by decide +kernel
theorem dX12_addUnit_79 : decode cX12_addUnit 79 = .ok (.getfield 9, 3) := by decide +kernel
theorem dX12_addUnit_82 : decode cX12_addUnit 82 = .ok (.iconst 2, 1) := by decide +kernel
theorem dX12_addUnit_83 : decode cX12_addUnit 83 = .ok (.iaload, 1) := by decide +kernel
theorem dX12_addUnit_84 : decode cX12_addUnit 84 = .ok (.bipush 6, 2) := by decide +kernel
theorem dX12_addUnit_86 : decode cX12_addUnit 86 = .ok (.if_icmp .ne 7, 3) := by decide +kernel
theorem dX12_addUnit_89 : decode cX12_addUnit 89 = .ok (.iconst 3, 1) := by decide +kernel
theorem dX12_addUnit_90 : decode cX12_addUnit 90 = .ok (.goto 4, 3) := by decide +kernel
theorem dX12_addUnit_93 : decode cX12_addUnit 93 = .ok (.iconst 0, 1) := by decide +kernel
theorem dX12_addUnit_94 : decode cX12_addUnit 94 = .ok (.putfield 89, 3) := by decide +kernel
theorem dX12_addUnit_97 : decode cX12_addUnit 97 = .ok (.aload_n 0, 1) := by decide +kernel
theorem dX12_addUnit_98 : decode cX12_addUnit 98 = .ok (.getfield 89, 3) := by decide +kernel
theorem dX12_addUnit_101 : decode cX12_addUnit 101 = .ok (.ifCond .le 5, 3) := by decide +kernel
theorem dX12_addUnit_104 : decode cX12_addUnit 104 = .ok (.iconst 0, 1) := by decide +kernel
theorem dX12_addUnit_105 : decode cX12_addUnit 105 = .ok (.ireturn, 1) := by decide +kernel
theorem dX12_addUnit_106 : decode cX12_addUnit 106 = .ok (.aload_n 0, 1) := by decide +kernel
theorem dX12_addUnit_107 : decode cX12_addUnit 107 = .ok (.invokevirtual 120, 3) := by decide +kernel
theorem dX12_addUnit_110 : decode cX12_addUnit 110 = .ok (.aload_n 0, 1) := by decide +kernel
theorem dX12_addUnit_111 : decode cX12_addUnit 111 = .ok (.getfield 9, 3) := by decide +kernel
theorem dX12_addUnit_114 : decode cX12_addUnit 114 = .ok (.iconst 2, 1) := by decide +kernel
theorem dX12_addUnit_115 : decode cX12_addUnit 115 = .ok (.iaload, 1) := by decide +kernel
theorem dX12_addUnit_116 : decode cX12_addUnit 116 = .ok (.istore 7, 2) := by decide +kernel
theorem dX12_addUnit_118 : decode cX12_addUnit 118 = .ok (.iconst 0, 1) := by decide +kernel
theorem dX12_addUnit_119 : decode cX12_addUnit 119 = .ok (.istore 8, 2) := by decide +kernel
theorem dX12_addUnit_121 : decode cX12_addUnit 121 = .ok (.iload 8, 2) := by decide +kernel
theorem dX12_addUnit_123 : decode cX12_addUnit 123 = .ok (.bipush 14, 2) := by decide +kernel
theorem dX12_addUnit_125 : decode cX12_addUnit 125 = .ok (.if_icmp .ge 22, 3) := by decide +kernel
theorem dX12_addUnit_128 : decode cX12_addUnit 128 = .ok (.aload_n 0, 1) := by decide +kernel
theorem dX12_addUnit_129 : decode cX12_addUnit 129 = .ok (.getfield 9, 3) := by decide +kernel
theorem dX12_addUnit_132 : decode cX12_addUnit 132 = .ok (.iload 7, 2) := by decide +kernel
theorem dX12_addUnit_134 : decode cX12_addUnit 134 = .ok (.iload 8, 2) := by decide +kernel
theorem dX12_addUnit_136 : decode cX12_addUnit 136 = .ok (.invokestatic 96, 3) := by decide +kernel
theorem dX12_addUnit_139 : decode cX12_addUnit 139 = .ok (.iconst 0, 1) := by decide +kernel
theorem dX12_addUnit_140 : decode cX12_addUnit 140 = .ok (.iastore, 1) := by decide +kernel
theorem dX12_addUnit_141 : decode cX12_addUnit 141 = .ok (.iinc 8 1, 3) := by decide +kernel
theorem dX12_addUnit_144 : decode cX12_addUnit 144 = .ok (.goto (-23), 3) := by decide +kernel
theorem dX12_addUnit_147 : decode cX12_addUnit 147 = .ok (.aload_n 0, 1) := by decide +kernel
theorem dX12_addUnit_148 : decode cX12_addUnit 148 = .ok (.getfield 9, 3) := by decide +kernel
theorem dX12_addUnit_151 : decode cX12_addUnit 151 = .ok (.iload 7, 2) := by decide +kernel
theorem dX12_addUnit_153 : decode cX12_addUnit 153 = .ok (.iconst 4, 1) := by decide +kernel
theorem dX12_addUnit_154 : decode cX12_addUnit 154 = .ok (.invokestatic 96, 3) := by decide +kernel
theorem dX12_addUnit_157 : decode cX12_addUnit 157 = .ok (.iconst 1, 1) := by decide +kernel
theorem dX12_addUnit_158 : decode cX12_addUnit 158 = .ok (.iastore, 1) := by decide +kernel
theorem dX12_addUnit_159 : decode cX12_addUnit 159 = .ok (.aload_n 0, 1) := by decide +kernel
theorem dX12_addUnit_160 : decode cX12_addUnit 160 = .ok (.getfield 9, 3) := by decide +kernel
theorem dX12_addUnit_163 : decode cX12_addUnit 163 = .ok (.iload 7, 2) := by decide +kernel
theorem dX12_addUnit_165 : decode cX12_addUnit 165 = .ok (.iconst 5, 1) := by decide +kernel
theorem dX12_addUnit_166 : decode cX12_addUnit 166 = .ok (.invokestatic 96, 3) := by decide +kernel
theorem dX12_addUnit_169 : decode cX12_addUnit 169 = .ok (.iconst 1, 1) := by decide +kernel
theorem dX12_addUnit_170 : decode cX12_addUnit 170 = .ok (.iastore, 1) := by decide +kernel
theorem dX12_addUnit_171 : decode cX12_addUnit 171 = .ok (.aload_n 0, 1) := by decide +kernel
theorem dX12_addUnit_172 : decode cX12_addUnit 172 = .ok (.getfield 9, 3) := by decide +kernel
theorem dX12_addUnit_175 : decode cX12_addUnit 175 = .ok (.iload 7, 2) := by decide +kernel
theorem dX12_addUnit_177 : decode cX12_addUnit 177 = .ok (.bipush 6, 2) := by decide +kernel
theorem dX12_addUnit_179 : decode cX12_addUnit 179 = .ok (.invokestatic 96, 3) := by decide +kernel
theorem dX12_addUnit_182 : decode cX12_addUnit 182 = .ok (.iconst (-1), 1) := by decide +kernel
theorem dX12_addUnit_183 : decode cX12_addUnit 183 = .ok (.iastore, 1) := by decide +kernel
theorem dX12_addUnit_184 : decode cX12_addUnit 184 = .ok (.aload_n 0, 1) := by decide +kernel
theorem dX12_addUnit_185 : decode cX12_addUnit 185 = .ok (.getfield 9, 3) := by decide +kernel
theorem dX12_addUnit_188 : decode cX12_addUnit 188 = .ok (.iload 7, 2) := by decide +kernel
theorem dX12_addUnit_190 : decode cX12_addUnit 190 = .ok (.bipush 8, 2) := by decide +kernel
theorem dX12_addUnit_192 : decode cX12_addUnit 192 = .ok (.invokestatic 96, 3) := by decide +kernel
theorem dX12_addUnit_195 : decode cX12_addUnit 195 = .ok (.iload_n 1, 1) := by decide +kernel
theorem dX12_addUnit_196 : decode cX12_addUnit 196 = .ok (.iastore, 1) := by decide +kernel
theorem dX12_addUnit_197 : decode cX12_addUnit 197 = .ok (.aload_n 0, 1) := by decide +kernel
theorem dX12_addUnit_198 : decode cX12_addUnit 198 = .ok (.getfield 9, 3) := by decide +kernel
theorem dX12_addUnit_201 : decode cX12_addUnit 201 = .ok (.iload 7, 2) := by decide +kernel
theorem dX12_addUnit_203 : decode cX12_addUnit 203 = .ok (.bipush 9, 2) := by decide +kernel
theorem dX12_addUnit_205 : decode cX12_addUnit 205 = .ok (.invokestatic 96, 3) := by decide +kernel
theorem dX12_addUnit_208 : decode cX12_addUnit 208 = .ok (.iload_n 2, 1) := by decide +kernel
theorem dX12_addUnit_209 : decode cX12_addUnit 209 = .ok (.iastore, 1) := by decide +kernel
theorem dX12_addUnit_210 : decode cX12_addUnit 210 = .ok (.aload_n 0, 1) := by decide +kernel
theorem dX12_addUnit_211 : decode cX12_addUnit 211 = .ok (.getfield 9, 3) := by decide +kernel
theorem dX12_addUnit_214 : decode cX12_addUnit 214 = .ok (.iload 7, 2) := by decide +kernel
theorem dX12_addUnit_216 : decode cX12_addUnit 216 = .ok (.bipush 10, 2) := by decide +kernel
theorem dX12_addUnit_218 : decode cX12_addUnit 218 = .ok (.invokestatic 96, 3) := by decide +kernel
theorem dX12_addUnit_221 : decode cX12_addUnit 221 = .ok (.iload_n 3, 1) := by decide +kernel
theorem dX12_addUnit_222 : decode cX12_addUnit 222 = .ok (.iastore, 1) := by decide +kernel
theorem dX12_addUnit_223 : decode cX12_addUnit 223 = .ok (.aload_n 0, 1) := by decide +kernel
theorem dX12_addUnit_224 : decode cX12_addUnit 224 = .ok (.getfield 9, 3) := by decide +kernel
theorem dX12_addUnit_227 : decode cX12_addUnit 227 = .ok (.iload 7, 2) := by decide +kernel
theorem dX12_addUnit_229 : decode cX12_addUnit 229 = .ok (.bipush 11, 2) := by decide +kernel
theorem dX12_addUnit_231 : decode cX12_addUnit 231 = .ok (.invokestatic 96, 3) := by decide +kernel
theorem dX12_addUnit_234 : decode cX12_addUnit 234 = .ok (.iload 4, 2) := by decide +kernel
theorem dX12_addUnit_236 : decode cX12_addUnit 236 = .ok (.iastore, 1) := by decide +kernel
theorem dX12_addUnit_237 : decode cX12_addUnit 237 = .ok (.aload_n 0, 1) := by decide +kernel
theorem dX12_addUnit_238 : decode cX12_addUnit 238 = .ok (.getfield 9, 3) := by decide +kernel
theorem dX12_addUnit_241 : decode cX12_addUnit 241 = .ok (.iload 7, 2) := by decide +kernel
theorem dX12_addUnit_243 : decode cX12_addUnit 243 = .ok (.bipush 12, 2) := by decide +kernel
theorem dX12_addUnit_245 : decode cX12_addUnit 245 = .ok (.invokestatic 96, 3) := by decide +kernel
theorem dX12_addUnit_248 : decode cX12_addUnit 248 = .ok (.iload 5, 2) := by decide +kernel
theorem dX12_addUnit_250 : decode cX12_addUnit 250 = .ok (.iastore, 1) := by decide +kernel
theorem dX12_addUnit_251 : decode cX12_addUnit 251 = .ok (.aload_n 0, 1) := by decide +kernel
theorem dX12_addUnit_252 : decode cX12_addUnit 252 = .ok (.getfield 9, 3) := by decide +kernel
theorem dX12_addUnit_255 : decode cX12_addUnit 255 = .ok (.iconst 2, 1) := by decide +kernel
theorem dX12_addUnit_256 : decode cX12_addUnit 256 = .ok (.dup2, 1) := by decide +kernel
theorem dX12_addUnit_257 : decode cX12_addUnit 257 = .ok (.iaload, 1) := by decide +kernel
theorem dX12_addUnit_258 : decode cX12_addUnit 258 = .ok (.iconst 1, 1) := by decide +kernel
theorem dX12_addUnit_259 : decode cX12_addUnit 259 = .ok (.iadd, 1) := by decide +kernel
theorem dX12_addUnit_260 : decode cX12_addUnit 260 = .ok (.iastore, 1) := by decide +kernel
theorem dX12_addUnit_261 : decode cX12_addUnit 261 = .ok (.iload 7, 2) := by decide +kernel
theorem dX12_addUnit_263 : decode cX12_addUnit 263 = .ok (.ireturn, 1) := by decide +kernel
def BX12_addUnit_121 (Q : Option Value → az_M → Prop) (Z121 : az_T) : az_T := (s_li 8 (s_ic (nI 14) (s_if2 d_ge (s_la 0 (s_gr 13 0 (s_li 7 (s_ic (nI 4) (s_cs 2 FX12_at (s_ic (nI 1) (s_as (s_la 0 (s_gr 13 0 (s_li 7 (s_ic (nI 5) (s_cs 2 FX12_at (s_ic (nI 1) (s_as (s_la 0 (s_gr 13 0 (s_li 7 (s_ic (nI 6) (s_cs 2 FX12_at (s_ic (-1) (s_as (s_la 0 (s_gr 13 0 (s_li 7 (s_ic (nI 8) (s_cs 2 FX12_at (s_li 1 (s_as (s_la 0 (s_gr 13 0 (s_li 7 (s_ic (nI 9) (s_cs 2 FX12_at (s_li 2 (s_as (s_la 0 (s_gr 13 0 (s_li 7 (s_ic (nI 10) (s_cs 2 FX12_at (s_li 3 (s_as (s_la 0 (s_gr 13 0 (s_li 7 (s_ic (nI 11) (s_cs 2 FX12_at (s_li 4 (s_as (s_la 0 (s_gr 13 0 (s_li 7 (s_ic (nI 12) (s_cs 2 FX12_at (s_li 5 (s_as (s_la 0 (s_gr 13 0 (s_ic (nI 2) (s_dup2 (s_al 20 (s_ic (nI 1) (s_bin f_add (s_as (s_li 7 (s_ri Q)))))))))))))))))))))))))))))))))))))))))))))))))))))))))))))))))) (s_la 0 (s_gr 13 0 (s_li 7 (s_li 8 (s_cs 2 FX12_at (s_ic (nI 0) (s_as (s_inc 8 (nI 1) (s_kp [true, true, true, true, true, true, false, true, true] Z121))))))))))))
theorem okBX12_addUnit_121 {X : az_X} {Q : Option Value → az_M → Prop} (C : az_C X cX12_addUnit 9 RX12 (az_ts yX12_addUnit cX12_addUnit 9 (some .int)) ({ frames := 3, cells := 0, slots := 0, locals := 143 } : Room) (some .int) Q) {Z121 : az_T} (hZ121 : az_ok X 121 Z121) : az_ok X 121 (BX12_addUnit_121 Q Z121) := by
  have h263 := az_ireturn C rfl dX12_addUnit_263
  have h261 := az_iload C dX12_addUnit_261 h263
  have h260 := az_iast C dX12_addUnit_260 h261
  have h259 := az_iadd C dX12_addUnit_259 h260
  have h258 := az_iconst (x := (nI 1)) C dX12_addUnit_258 (by decide +kernel) h259
  have h257 := az_iald C dX12_addUnit_257 h258
  have h256 := az_dup2 C dX12_addUnit_256 h257
  have h255 := az_iconst (x := (nI 2)) C dX12_addUnit_255 (by decide +kernel) h256
  have h252 := az_getR (T := TX12) (N := 33) (j := 0) C gwRX12 rfl (by decide) (by decide) iIRX12_0 mFRX12_9 rfl dX12_addUnit_252 h255
  have h251 := az_aload_n C 0 rfl dX12_addUnit_251 h252
  have h250 := az_iast C dX12_addUnit_250 h251
  have h248 := az_iload C dX12_addUnit_248 h250
  have h245 := az_callS C okX12_at knX12_at stX12_at mLRX12_96 ⟨rfl, rfl, by decide, by decide⟩ dX12_addUnit_245 h248
  have h243 := az_bipush (x := (nI 12)) C dX12_addUnit_243 (by decide +kernel) h245
  have h241 := az_iload C dX12_addUnit_241 h243
  have h238 := az_getR (T := TX12) (N := 33) (j := 0) C gwRX12 rfl (by decide) (by decide) iIRX12_0 mFRX12_9 rfl dX12_addUnit_238 h241
  have h237 := az_aload_n C 0 rfl dX12_addUnit_237 h238
  have h236 := az_iast C dX12_addUnit_236 h237
  have h234 := az_iload C dX12_addUnit_234 h236
  have h231 := az_callS C okX12_at knX12_at stX12_at mLRX12_96 ⟨rfl, rfl, by decide, by decide⟩ dX12_addUnit_231 h234
  have h229 := az_bipush (x := (nI 11)) C dX12_addUnit_229 (by decide +kernel) h231
  have h227 := az_iload C dX12_addUnit_227 h229
  have h224 := az_getR (T := TX12) (N := 33) (j := 0) C gwRX12 rfl (by decide) (by decide) iIRX12_0 mFRX12_9 rfl dX12_addUnit_224 h227
  have h223 := az_aload_n C 0 rfl dX12_addUnit_223 h224
  have h222 := az_iast C dX12_addUnit_222 h223
  have h221 := az_iload_n C 3 rfl dX12_addUnit_221 h222
  have h218 := az_callS C okX12_at knX12_at stX12_at mLRX12_96 ⟨rfl, rfl, by decide, by decide⟩ dX12_addUnit_218 h221
  have h216 := az_bipush (x := (nI 10)) C dX12_addUnit_216 (by decide +kernel) h218
  have h214 := az_iload C dX12_addUnit_214 h216
  have h211 := az_getR (T := TX12) (N := 33) (j := 0) C gwRX12 rfl (by decide) (by decide) iIRX12_0 mFRX12_9 rfl dX12_addUnit_211 h214
  have h210 := az_aload_n C 0 rfl dX12_addUnit_210 h211
  have h209 := az_iast C dX12_addUnit_209 h210
  have h208 := az_iload_n C 2 rfl dX12_addUnit_208 h209
  have h205 := az_callS C okX12_at knX12_at stX12_at mLRX12_96 ⟨rfl, rfl, by decide, by decide⟩ dX12_addUnit_205 h208
  have h203 := az_bipush (x := (nI 9)) C dX12_addUnit_203 (by decide +kernel) h205
  have h201 := az_iload C dX12_addUnit_201 h203
  have h198 := az_getR (T := TX12) (N := 33) (j := 0) C gwRX12 rfl (by decide) (by decide) iIRX12_0 mFRX12_9 rfl dX12_addUnit_198 h201
  have h197 := az_aload_n C 0 rfl dX12_addUnit_197 h198
  have h196 := az_iast C dX12_addUnit_196 h197
  have h195 := az_iload_n C 1 rfl dX12_addUnit_195 h196
  have h192 := az_callS C okX12_at knX12_at stX12_at mLRX12_96 ⟨rfl, rfl, by decide, by decide⟩ dX12_addUnit_192 h195
  have h190 := az_bipush (x := (nI 8)) C dX12_addUnit_190 (by decide +kernel) h192
  have h188 := az_iload C dX12_addUnit_188 h190
  have h185 := az_getR (T := TX12) (N := 33) (j := 0) C gwRX12 rfl (by decide) (by decide) iIRX12_0 mFRX12_9 rfl dX12_addUnit_185 h188
  have h184 := az_aload_n C 0 rfl dX12_addUnit_184 h185
  have h183 := az_iast C dX12_addUnit_183 h184
  have h182 := az_iconst (x := (-1)) C dX12_addUnit_182 (by decide +kernel) h183
  have h179 := az_callS C okX12_at knX12_at stX12_at mLRX12_96 ⟨rfl, rfl, by decide, by decide⟩ dX12_addUnit_179 h182
  have h177 := az_bipush (x := (nI 6)) C dX12_addUnit_177 (by decide +kernel) h179
  have h175 := az_iload C dX12_addUnit_175 h177
  have h172 := az_getR (T := TX12) (N := 33) (j := 0) C gwRX12 rfl (by decide) (by decide) iIRX12_0 mFRX12_9 rfl dX12_addUnit_172 h175
  have h171 := az_aload_n C 0 rfl dX12_addUnit_171 h172
  have h170 := az_iast C dX12_addUnit_170 h171
  have h169 := az_iconst (x := (nI 1)) C dX12_addUnit_169 (by decide +kernel) h170
  have h166 := az_callS C okX12_at knX12_at stX12_at mLRX12_96 ⟨rfl, rfl, by decide, by decide⟩ dX12_addUnit_166 h169
  have h165 := az_iconst (x := (nI 5)) C dX12_addUnit_165 (by decide +kernel) h166
  have h163 := az_iload C dX12_addUnit_163 h165
  have h160 := az_getR (T := TX12) (N := 33) (j := 0) C gwRX12 rfl (by decide) (by decide) iIRX12_0 mFRX12_9 rfl dX12_addUnit_160 h163
  have h159 := az_aload_n C 0 rfl dX12_addUnit_159 h160
  have h158 := az_iast C dX12_addUnit_158 h159
  have h157 := az_iconst (x := (nI 1)) C dX12_addUnit_157 (by decide +kernel) h158
  have h154 := az_callS C okX12_at knX12_at stX12_at mLRX12_96 ⟨rfl, rfl, by decide, by decide⟩ dX12_addUnit_154 h157
  have h153 := az_iconst (x := (nI 4)) C dX12_addUnit_153 (by decide +kernel) h154
  have h151 := az_iload C dX12_addUnit_151 h153
  have h148 := az_getR (T := TX12) (N := 33) (j := 0) C gwRX12 rfl (by decide) (by decide) iIRX12_0 mFRX12_9 rfl dX12_addUnit_148 h151
  have h147 := az_aload_n C 0 rfl dX12_addUnit_147 h148
  have h144 := az_goto (tgt := 121) C dX12_addUnit_144 (by decide) (az_keep [true, true, true, true, true, true, false, true, true] hZ121)
  have h141 := az_iinc (v := (nI 1)) C (by decide) (by decide +kernel) dX12_addUnit_141 h144
  have h140 := az_iast C dX12_addUnit_140 h141
  have h139 := az_iconst (x := (nI 0)) C dX12_addUnit_139 (by decide +kernel) h140
  have h136 := az_callS C okX12_at knX12_at stX12_at mLRX12_96 ⟨rfl, rfl, by decide, by decide⟩ dX12_addUnit_136 h139
  have h134 := az_iload C dX12_addUnit_134 h136
  have h132 := az_iload C dX12_addUnit_132 h134
  have h129 := az_getR (T := TX12) (N := 33) (j := 0) C gwRX12 rfl (by decide) (by decide) iIRX12_0 mFRX12_9 rfl dX12_addUnit_129 h132
  have h128 := az_aload_n C 0 rfl dX12_addUnit_128 h129
  have h125 := az_icmp_ge (tgt := 147) C dX12_addUnit_125 (by decide) h147 h128
  have h123 := az_bipush (x := (nI 14)) C dX12_addUnit_123 (by decide +kernel) h125
  have h121 := az_iload C dX12_addUnit_121 h123
  exact h121
def LX12_addUnit_121 (Q : Option Value → az_M → Prop) : az_T := s_lp (fun Z => BX12_addUnit_121 Q Z)
theorem okLX12_addUnit_121 {X : az_X} {Q : Option Value → az_M → Prop} (C : az_C X cX12_addUnit 9 RX12 (az_ts yX12_addUnit cX12_addUnit 9 (some .int)) ({ frames := 3, cells := 0, slots := 0, locals := 143 } : Room) (some .int) Q) : az_ok X 121 (LX12_addUnit_121 Q) := az_loop (F := fun Z => BX12_addUnit_121 Q Z) (fun _ hZ => okBX12_addUnit_121 C hZ)
def LX12_addUnit_94 (Q : Option Value → az_M → Prop) : az_T := (s_pi 13 5 (s_la 0 (s_gi 13 5 (s_if c_le (s_la 0 (s_cv 0 13 FX12_change (s_la 0 (s_gr 13 0 (s_ic (nI 2) (s_al 20 (s_si 7 (s_ic (nI 0) (s_si 8 (s_kp [true, true, true, true, true, true, false, true, true] (LX12_addUnit_121 Q))))))))))) (s_ic (nI 0) (s_ri Q))))))
theorem okLX12_addUnit_94 {X : az_X} {Q : Option Value → az_M → Prop} (C : az_C X cX12_addUnit 9 RX12 (az_ts yX12_addUnit cX12_addUnit 9 (some .int)) ({ frames := 3, cells := 0, slots := 0, locals := 143 } : Room) (some .int) Q) : az_ok X 94 (LX12_addUnit_94 Q) := by
  have h119 := az_istore C (by decide) dX12_addUnit_119 (az_keep [true, true, true, true, true, true, false, true, true] (okLX12_addUnit_121 C))
  have h118 := az_iconst (x := (nI 0)) C dX12_addUnit_118 (by decide +kernel) h119
  have h116 := az_istore C (by decide) dX12_addUnit_116 h118
  have h115 := az_iald C dX12_addUnit_115 h116
  have h114 := az_iconst (x := (nI 2)) C dX12_addUnit_114 (by decide +kernel) h115
  have h111 := az_getR (T := TX12) (N := 33) (j := 0) C gwRX12 rfl (by decide) (by decide) iIRX12_0 mFRX12_9 rfl dX12_addUnit_111 h114
  have h110 := az_aload_n C 0 rfl dX12_addUnit_110 h111
  have h107 := az_callV (ci := 13) C okX12_change knX12_change imX12_change seX12_change mLRX12_120 rfl (by decide) ⟨rfl, rfl, by decide, by decide⟩ dX12_addUnit_107 h110
  have h106 := az_aload_n C 0 rfl dX12_addUnit_106 h107
  have h105 := az_ireturn C rfl dX12_addUnit_105
  have h104 := az_iconst (x := (nI 0)) C dX12_addUnit_104 (by decide +kernel) h105
  have h101 := az_if_le (tgt := 106) C dX12_addUnit_101 (by decide) h106 h104
  have h98 := az_getI (T := TX12) (N := 33) (j := 5) C gwRX12 rfl (by decide) (by decide) iIRX12_5 mFRX12_89 rfl dX12_addUnit_98 h101
  have h97 := az_aload_n C 0 rfl dX12_addUnit_97 h98
  have h94 := az_putI (T := TX12) (N := 33) (j := 5) C gwRX12 rfl (by decide) (by decide) tyX12 tyX12_ok nmX12 iIRX12_5 (by decide +kernel) rfl mFRX12_89 rfl dX12_addUnit_94 h97
  exact h94
def LX12_addUnit_54 (Q : Option Value → az_M → Prop) : az_T := (s_si 6 (s_la 0 (s_la 0 (s_li 1 (s_cv 1 13 FX12_isBus (s_if c_ne (s_li 6 (s_if c_ne (s_la 0 (s_gr 13 0 (s_ic (nI 2) (s_al 20 (s_ic (nI 6) (s_if2 d_ne (s_ic (nI 0) (s_kp [true, true, true, true, true, true, false, false, false] (LX12_addUnit_94 Q))) (s_ic (nI 3) (s_kp [true, true, true, true, true, true, false, false, false] (LX12_addUnit_94 Q))))))))) (s_ic (nI 2) (s_kp [true, true, true, true, true, true, false, false, false] (LX12_addUnit_94 Q))))) (s_ic (nI 1) (s_kp [true, true, true, true, true, true, false, false, false] (LX12_addUnit_94 Q)))))))))
theorem okLX12_addUnit_54 {X : az_X} {Q : Option Value → az_M → Prop} (C : az_C X cX12_addUnit 9 RX12 (az_ts yX12_addUnit cX12_addUnit 9 (some .int)) ({ frames := 3, cells := 0, slots := 0, locals := 143 } : Room) (some .int) Q) : az_ok X 54 (LX12_addUnit_54 Q) := by
  have h93 := az_iconst (x := (nI 0)) C dX12_addUnit_93 (by decide +kernel) (az_keep [true, true, true, true, true, true, false, false, false] (okLX12_addUnit_94 C))
  have h90 := az_goto (tgt := 94) C dX12_addUnit_90 (by decide) (az_keep [true, true, true, true, true, true, false, false, false] (okLX12_addUnit_94 C))
  have h89 := az_iconst (x := (nI 3)) C dX12_addUnit_89 (by decide +kernel) h90
  have h86 := az_icmp_ne (tgt := 93) C dX12_addUnit_86 (by decide) h93 h89
  have h84 := az_bipush (x := (nI 6)) C dX12_addUnit_84 (by decide +kernel) h86
  have h83 := az_iald C dX12_addUnit_83 h84
  have h82 := az_iconst (x := (nI 2)) C dX12_addUnit_82 (by decide +kernel) h83
  have h79 := az_getR (T := TX12) (N := 33) (j := 0) C gwRX12 rfl (by decide) (by decide) iIRX12_0 mFRX12_9 rfl dX12_addUnit_79 h82
  have h78 := az_aload_n C 0 rfl dX12_addUnit_78 h79
  have h75 := az_goto (tgt := 94) C dX12_addUnit_75 (by decide) (az_keep [true, true, true, true, true, true, false, false, false] (okLX12_addUnit_94 C))
  have h74 := az_iconst (x := (nI 2)) C dX12_addUnit_74 (by decide +kernel) h75
  have h71 := az_if_ne (tgt := 78) C dX12_addUnit_71 (by decide) h78 h74
  have h69 := az_iload C dX12_addUnit_69 h71
  have h66 := az_goto (tgt := 94) C dX12_addUnit_66 (by decide) (az_keep [true, true, true, true, true, true, false, false, false] (okLX12_addUnit_94 C))
  have h65 := az_iconst (x := (nI 1)) C dX12_addUnit_65 (by decide +kernel) h66
  have h62 := az_if_ne (tgt := 69) C dX12_addUnit_62 (by decide) h69 h65
  have h59 := az_callV (ci := 13) C okX12_isBus knX12_isBus imX12_isBus seX12_isBus mLRX12_113 rfl (by decide) ⟨rfl, rfl, by decide, by decide⟩ dX12_addUnit_59 h62
  have h58 := az_iload_n C 1 rfl dX12_addUnit_58 h59
  have h57 := az_aload_n C 0 rfl dX12_addUnit_57 h58
  have h56 := az_aload_n C 0 rfl dX12_addUnit_56 h57
  have h54 := az_istore C (by decide) dX12_addUnit_54 h56
  exact h54
def LX12_addUnit_53 (Q : Option Value → az_M → Prop) : az_T := (s_ic (nI 0) (s_kp [true, true, true, true, true, true, false, false, false] (LX12_addUnit_54 Q)))
theorem okLX12_addUnit_53 {X : az_X} {Q : Option Value → az_M → Prop} (C : az_C X cX12_addUnit 9 RX12 (az_ts yX12_addUnit cX12_addUnit 9 (some .int)) ({ frames := 3, cells := 0, slots := 0, locals := 143 } : Room) (some .int) Q) : az_ok X 53 (LX12_addUnit_53 Q) := by
  have h53 := az_iconst (x := (nI 0)) C dX12_addUnit_53 (by decide +kernel) (az_keep [true, true, true, true, true, true, false, false, false] (okLX12_addUnit_54 C))
  exact h53
def PX12_addUnit (Q : Option Value → az_M → Prop) : az_T := (s_li 2 (s_ic (nI 0) (s_ic (nI 500) (s_cs 3 FX12_in (s_if c_eq (s_kp [true, true, true, true, true, true, false, false, false] (LX12_addUnit_53 Q)) (s_li 3 (s_ic (nI 1) (s_li 2 (s_mx (s_ic (nI 500) (s_cs 3 FX12_in (s_if c_eq (s_kp [true, true, true, true, true, true, false, false, false] (LX12_addUnit_53 Q)) (s_li 4 (s_ic (nI 1) (s_ic (nI 500) (s_cs 3 FX12_in (s_if c_eq (s_kp [true, true, true, true, true, true, false, false, false] (LX12_addUnit_53 Q)) (s_li 5 (s_ic (nI 0) (s_ic (nI 100) (s_cs 3 FX12_in (s_if c_eq (s_kp [true, true, true, true, true, true, false, false, false] (LX12_addUnit_53 Q)) (s_ic (nI 1) (s_kp [true, true, true, true, true, true, false, false, false] (LX12_addUnit_54 Q)))))))))))))))))))))))))
def FX12_addUnit : az_F := az_fun [true, false, false, false, false, false] 9 PX12_addUnit
theorem okX12_addUnit (l : Launch) : az_met l yX12_addUnit cX12_addUnit 9 (some .int) ({ frames := 3, cells := 0, slots := 0, locals := 143 } : Room) FX12_addUnit := az_met_of (own := RX12) (by decide +kernel) rfl (by decide) (fun X Q C => by
  have h50 := az_goto (tgt := 54) C dX12_addUnit_50 (by decide) (az_keep [true, true, true, true, true, true, false, false, false] (okLX12_addUnit_54 C))
  have h49 := az_iconst (x := (nI 1)) C dX12_addUnit_49 (by decide +kernel) h50
  have h46 := az_if_eq (tgt := 53) C dX12_addUnit_46 (by decide) (az_keep [true, true, true, true, true, true, false, false, false] (okLX12_addUnit_53 C)) h49
  have h43 := az_callS C okX12_in knX12_in stX12_in mLRX12_92 ⟨rfl, rfl, by decide, by decide⟩ dX12_addUnit_43 h46
  have h41 := az_bipush (x := (nI 100)) C dX12_addUnit_41 (by decide +kernel) h43
  have h40 := az_iconst (x := (nI 0)) C dX12_addUnit_40 (by decide +kernel) h41
  have h38 := az_iload C dX12_addUnit_38 h40
  have h35 := az_if_eq (tgt := 53) C dX12_addUnit_35 (by decide) (az_keep [true, true, true, true, true, true, false, false, false] (okLX12_addUnit_53 C)) h38
  have h32 := az_callS C okX12_in knX12_in stX12_in mLRX12_92 ⟨rfl, rfl, by decide, by decide⟩ dX12_addUnit_32 h35
  have h29 := az_sipush (x := (nI 500)) C dX12_addUnit_29 (by decide +kernel) h32
  have h28 := az_iconst (x := (nI 1)) C dX12_addUnit_28 (by decide +kernel) h29
  have h26 := az_iload C dX12_addUnit_26 h28
  have h23 := az_if_eq (tgt := 53) C dX12_addUnit_23 (by decide) (az_keep [true, true, true, true, true, true, false, false, false] (okLX12_addUnit_53 C)) h26
  have h20 := az_callS C okX12_in knX12_in stX12_in mLRX12_92 ⟨rfl, rfl, by decide, by decide⟩ dX12_addUnit_20 h23
  have h17 := az_sipush (x := (nI 500)) C dX12_addUnit_17 (by decide +kernel) h20
  have h14 := az_mmax C mLRX12_123 mx_st_max mx_ini mx_co_max (by decide) (by decide) dX12_addUnit_14 h17
  have h13 := az_iload_n C 2 rfl dX12_addUnit_13 h14
  have h12 := az_iconst (x := (nI 1)) C dX12_addUnit_12 (by decide +kernel) h13
  have h11 := az_iload_n C 3 rfl dX12_addUnit_11 h12
  have h8 := az_if_eq (tgt := 53) C dX12_addUnit_8 (by decide) (az_keep [true, true, true, true, true, true, false, false, false] (okLX12_addUnit_53 C)) h11
  have h5 := az_callS C okX12_in knX12_in stX12_in mLRX12_92 ⟨rfl, rfl, by decide, by decide⟩ dX12_addUnit_5 h8
  have h2 := az_sipush (x := (nI 500)) C dX12_addUnit_2 (by decide +kernel) h5
  have h1 := az_iconst (x := (nI 0)) C dX12_addUnit_1 (by decide +kernel) h2
  have h0 := az_iload_n C 2 rfl dX12_addUnit_0 h1
  exact h0) l
theorem dX12_isTermValue_0 : decode cX12_isTermValue 0 = .ok (.iload_n 2, 1) := by decide +kernel
theorem dX12_isTermValue_1 : decode cX12_isTermValue 1 = .ok (.tableswitch 89 0 6 #[43, 43, 43, 52, 60, 60, 68], 43) := by decide +kernel
theorem dX12_isTermValue_44 : decode cX12_isTermValue 44 = .ok (.iload_n 3, 1) := by decide +kernel
theorem dX12_isTermValue_45 : decode cX12_isTermValue 45 = .ok (.iconst 0, 1) := by decide +kernel
theorem dX12_isTermValue_46 : decode cX12_isTermValue 46 = .ok (.sipush 10000, 3) := by decide +kernel
theorem dX12_isTermValue_49 : decode cX12_isTermValue 49 = .ok (.invokestatic 92, 3) := by decide +kernel
theorem dX12_isTermValue_52 : decode cX12_isTermValue 52 = .ok (.ireturn, 1) := by decide +kernel
theorem dX12_isTermValue_53 : decode cX12_isTermValue 53 = .ok (.iload_n 3, 1) := by decide +kernel
theorem dX12_isTermValue_54 : decode cX12_isTermValue 54 = .ok (.iconst 0, 1) := by decide +kernel
theorem dX12_isTermValue_55 : decode cX12_isTermValue 55 = .ok (.bipush 24, 2) := by decide +kernel
theorem dX12_isTermValue_57 : decode cX12_isTermValue 57 = .ok (.invokestatic 92, 3) := by decide +kernel
theorem dX12_isTermValue_60 : decode cX12_isTermValue 60 = .ok (.ireturn, 1) := by decide +kernel
theorem dX12_isTermValue_61 : decode cX12_isTermValue 61 = .ok (.iload_n 3, 1) := by decide +kernel
theorem dX12_isTermValue_62 : decode cX12_isTermValue 62 = .ok (.iconst 1, 1) := by decide +kernel
theorem dX12_isTermValue_63 : decode cX12_isTermValue 63 = .ok (.bipush 24, 2) := by decide +kernel
theorem dX12_isTermValue_65 : decode cX12_isTermValue 65 = .ok (.invokestatic 92, 3) := by decide +kernel
theorem dX12_isTermValue_68 : decode cX12_isTermValue 68 = .ok (.ireturn, 1) := by decide +kernel
theorem dX12_isTermValue_69 : decode cX12_isTermValue 69 = .ok (.iload_n 3, 1) := by decide +kernel
theorem dX12_isTermValue_70 : decode cX12_isTermValue 70 = .ok (.bipush (-24), 2) := by decide +kernel
theorem dX12_isTermValue_72 : decode cX12_isTermValue 72 = .ok (.bipush 24, 2) := by decide +kernel
theorem dX12_isTermValue_74 : decode cX12_isTermValue 74 = .ok (.invokestatic 92, 3) := by decide +kernel
theorem dX12_isTermValue_77 : decode cX12_isTermValue 77 = .ok (.ifCond .eq 11, 3) := by decide +kernel
theorem dX12_isTermValue_80 : decode cX12_isTermValue 80 = .ok (.iload_n 3, 1) := by decide +kernel
theorem dX12_isTermValue_81 : decode cX12_isTermValue 81 = .ok (.ifCond .eq 7, 3) := by decide +kernel
theorem dX12_isTermValue_84 : decode cX12_isTermValue 84 = .ok (.iconst 1, 1) := by decide +kernel
theorem dX12_isTermValue_85 : decode cX12_isTermValue 85 = .ok (.goto 4, 3) := by decide +kernel
theorem dX12_isTermValue_88 : decode cX12_isTermValue 88 = .ok (.iconst 0, 1) := by decide +kernel
theorem dX12_isTermValue_89 : decode cX12_isTermValue 89 = .ok (.ireturn, 1) := by decide +kernel
theorem dX12_isTermValue_90 : decode cX12_isTermValue 90 = .ok (.aload_n 0, 1) := by decide +kernel
theorem dX12_isTermValue_91 : decode cX12_isTermValue 91 = .ok (.iload_n 1, 1) := by decide +kernel
theorem dX12_isTermValue_92 : decode cX12_isTermValue 92 = .ok (.bipush 6, 2) := by decide +kernel
theorem dX12_isTermValue_94 : decode cX12_isTermValue 94 = .ok (.invokevirtual 128, 3) := by decide +kernel
theorem dX12_isTermValue_97 : decode cX12_isTermValue 97 = .ok (.ifCond .le 24, 3) := by decide +kernel
theorem dX12_isTermValue_100 : decode cX12_isTermValue 100 = .ok (.iload_n 3, 1) := by decide +kernel
theorem dX12_isTermValue_101 : decode cX12_isTermValue 101 = .ok (.aload_n 0, 1) := by decide +kernel
theorem dX12_isTermValue_102 : decode cX12_isTermValue 102 = .ok (.iload_n 1, 1) := by decide +kernel
theorem dX12_isTermValue_103 : decode cX12_isTermValue 103 = .ok (.bipush 9, 2) := by decide +kernel
theorem dX12_isTermValue_105 : decode cX12_isTermValue 105 = .ok (.invokevirtual 128, 3) := by decide +kernel
theorem dX12_isTermValue_108 : decode cX12_isTermValue 108 = .ok (.aload_n 0, 1) := by decide +kernel
theorem dX12_isTermValue_109 : decode cX12_isTermValue 109 = .ok (.iload_n 1, 1) := by decide +kernel
theorem dX12_isTermValue_110 : decode cX12_isTermValue 110 = .ok (.bipush 10, 2) := by decide +kernel
theorem dX12_isTermValue_112 : decode cX12_isTermValue 112 = .ok (.invokevirtual 128, 3) := by decide +kernel
theorem dX12_isTermValue_115 : decode cX12_isTermValue 115 = .ok (.invokestatic 92, 3) := by decide +kernel
theorem dX12_isTermValue_118 : decode cX12_isTermValue 118 = .ok (.goto 12, 3) := by decide +kernel
theorem dX12_isTermValue_121 : decode cX12_isTermValue 121 = .ok (.iload_n 3, 1) := by decide +kernel
theorem dX12_isTermValue_122 : decode cX12_isTermValue 122 = .ok (.ifCond .ne 7, 3) := by decide +kernel
theorem dX12_isTermValue_125 : decode cX12_isTermValue 125 = .ok (.iconst 1, 1) := by decide +kernel
theorem dX12_isTermValue_126 : decode cX12_isTermValue 126 = .ok (.goto 4, 3) := by decide +kernel
theorem dX12_isTermValue_129 : decode cX12_isTermValue 129 = .ok (.iconst 0, 1) := by decide +kernel
theorem dX12_isTermValue_130 : decode cX12_isTermValue 130 = .ok (.ireturn, 1) := by decide +kernel
def LX12_isTermValue_130 (Q : Option Value → az_M → Prop) : az_T := (s_rz Q)
theorem okLX12_isTermValue_130 {X : az_X} {Q : Option Value → az_M → Prop} (C : az_C X cX12_isTermValue 4 RX12 (az_ts yX12_isTermValue cX12_isTermValue 4 (some .boolean)) ({ frames := 3, cells := 0, slots := 0, locals := 143 } : Room) (some .boolean) Q) : az_ok X 130 (LX12_isTermValue_130 Q) := by
  have h130 := az_zreturn C rfl dX12_isTermValue_130
  exact h130
def LX12_isTermValue_44 (Q : Option Value → az_M → Prop) : az_T := (s_li 3 (s_ic (nI 0) (s_ic (nI 10000) (s_cs 3 FX12_in (s_rz Q)))))
theorem okLX12_isTermValue_44 {X : az_X} {Q : Option Value → az_M → Prop} (C : az_C X cX12_isTermValue 4 RX12 (az_ts yX12_isTermValue cX12_isTermValue 4 (some .boolean)) ({ frames := 3, cells := 0, slots := 0, locals := 143 } : Room) (some .boolean) Q) : az_ok X 44 (LX12_isTermValue_44 Q) := by
  have h52 := az_zreturn C rfl dX12_isTermValue_52
  have h49 := az_callS C okX12_in knX12_in stX12_in mLRX12_92 ⟨rfl, rfl, by decide, by decide⟩ dX12_isTermValue_49 h52
  have h46 := az_sipush (x := (nI 10000)) C dX12_isTermValue_46 (by decide +kernel) h49
  have h45 := az_iconst (x := (nI 0)) C dX12_isTermValue_45 (by decide +kernel) h46
  have h44 := az_iload_n C 3 rfl dX12_isTermValue_44 h45
  exact h44
def LX12_isTermValue_61 (Q : Option Value → az_M → Prop) : az_T := (s_li 3 (s_ic (nI 1) (s_ic (nI 24) (s_cs 3 FX12_in (s_rz Q)))))
theorem okLX12_isTermValue_61 {X : az_X} {Q : Option Value → az_M → Prop} (C : az_C X cX12_isTermValue 4 RX12 (az_ts yX12_isTermValue cX12_isTermValue 4 (some .boolean)) ({ frames := 3, cells := 0, slots := 0, locals := 143 } : Room) (some .boolean) Q) : az_ok X 61 (LX12_isTermValue_61 Q) := by
  have h68 := az_zreturn C rfl dX12_isTermValue_68
  have h65 := az_callS C okX12_in knX12_in stX12_in mLRX12_92 ⟨rfl, rfl, by decide, by decide⟩ dX12_isTermValue_65 h68
  have h63 := az_bipush (x := (nI 24)) C dX12_isTermValue_63 (by decide +kernel) h65
  have h62 := az_iconst (x := (nI 1)) C dX12_isTermValue_62 (by decide +kernel) h63
  have h61 := az_iload_n C 3 rfl dX12_isTermValue_61 h62
  exact h61
def LX12_isTermValue_89 (Q : Option Value → az_M → Prop) : az_T := (s_rz Q)
theorem okLX12_isTermValue_89 {X : az_X} {Q : Option Value → az_M → Prop} (C : az_C X cX12_isTermValue 4 RX12 (az_ts yX12_isTermValue cX12_isTermValue 4 (some .boolean)) ({ frames := 3, cells := 0, slots := 0, locals := 143 } : Room) (some .boolean) Q) : az_ok X 89 (LX12_isTermValue_89 Q) := by
  have h89 := az_zreturn C rfl dX12_isTermValue_89
  exact h89
def LX12_isTermValue_88 (Q : Option Value → az_M → Prop) : az_T := (s_ic (nI 0) (s_kp [false, false, false, false] (LX12_isTermValue_89 Q)))
theorem okLX12_isTermValue_88 {X : az_X} {Q : Option Value → az_M → Prop} (C : az_C X cX12_isTermValue 4 RX12 (az_ts yX12_isTermValue cX12_isTermValue 4 (some .boolean)) ({ frames := 3, cells := 0, slots := 0, locals := 143 } : Room) (some .boolean) Q) : az_ok X 88 (LX12_isTermValue_88 Q) := by
  have h88 := az_iconst (x := (nI 0)) C dX12_isTermValue_88 (by decide +kernel) (az_keep [false, false, false, false] (okLX12_isTermValue_89 C))
  exact h88
def PX12_isTermValue (Q : Option Value → az_M → Prop) : az_T := (s_li 2 (s_sw 0 [(s_kp [false, false, false, true] (LX12_isTermValue_44 Q)), (s_kp [false, false, false, true] (LX12_isTermValue_44 Q)), (s_kp [false, false, false, true] (LX12_isTermValue_44 Q)), (s_li 3 (s_ic (nI 0) (s_ic (nI 24) (s_cs 3 FX12_in (s_rz Q))))), (s_kp [false, false, false, true] (LX12_isTermValue_61 Q)), (s_kp [false, false, false, true] (LX12_isTermValue_61 Q)), (s_li 3 (s_ic (-24) (s_ic (nI 24) (s_cs 3 FX12_in (s_if c_eq (s_kp [false, false, false, false] (LX12_isTermValue_88 Q)) (s_li 3 (s_if c_eq (s_kp [false, false, false, false] (LX12_isTermValue_88 Q)) (s_ic (nI 1) (s_kp [false, false, false, false] (LX12_isTermValue_89 Q))))))))))] (s_la 0 (s_li 1 (s_ic (nI 6) (s_cv 2 13 FX12_of (s_if c_le (s_li 3 (s_if c_ne (s_ic (nI 0) (s_kp [false, false, false, false] (LX12_isTermValue_130 Q))) (s_ic (nI 1) (s_kp [false, false, false, false] (LX12_isTermValue_130 Q))))) (s_li 3 (s_la 0 (s_li 1 (s_ic (nI 9) (s_cv 2 13 FX12_of (s_la 0 (s_li 1 (s_ic (nI 10) (s_cv 2 13 FX12_of (s_cs 3 FX12_in (s_kp [false, false, false, false] (LX12_isTermValue_130 Q)))))))))))))))))))
def FX12_isTermValue : az_F := az_fun [true, false, false, false] 4 PX12_isTermValue
theorem okX12_isTermValue (l : Launch) : az_met l yX12_isTermValue cX12_isTermValue 4 (some .boolean) ({ frames := 3, cells := 0, slots := 0, locals := 143 } : Room) FX12_isTermValue := az_met_of (own := RX12) (by decide +kernel) rfl (by decide) (fun X Q C => by
  have h60 := az_zreturn C rfl dX12_isTermValue_60
  have h57 := az_callS C okX12_in knX12_in stX12_in mLRX12_92 ⟨rfl, rfl, by decide, by decide⟩ dX12_isTermValue_57 h60
  have h55 := az_bipush (x := (nI 24)) C dX12_isTermValue_55 (by decide +kernel) h57
  have h54 := az_iconst (x := (nI 0)) C dX12_isTermValue_54 (by decide +kernel) h55
  have h53 := az_iload_n C 3 rfl dX12_isTermValue_53 h54
  have h85 := az_goto (tgt := 89) C dX12_isTermValue_85 (by decide) (az_keep [false, false, false, false] (okLX12_isTermValue_89 C))
  have h84 := az_iconst (x := (nI 1)) C dX12_isTermValue_84 (by decide +kernel) h85
  have h81 := az_if_eq (tgt := 88) C dX12_isTermValue_81 (by decide) (az_keep [false, false, false, false] (okLX12_isTermValue_88 C)) h84
  have h80 := az_iload_n C 3 rfl dX12_isTermValue_80 h81
  have h77 := az_if_eq (tgt := 88) C dX12_isTermValue_77 (by decide) (az_keep [false, false, false, false] (okLX12_isTermValue_88 C)) h80
  have h74 := az_callS C okX12_in knX12_in stX12_in mLRX12_92 ⟨rfl, rfl, by decide, by decide⟩ dX12_isTermValue_74 h77
  have h72 := az_bipush (x := (nI 24)) C dX12_isTermValue_72 (by decide +kernel) h74
  have h70 := az_bipush (x := (-24)) C dX12_isTermValue_70 (by decide +kernel) h72
  have h69 := az_iload_n C 3 rfl dX12_isTermValue_69 h70
  have h129 := az_iconst (x := (nI 0)) C dX12_isTermValue_129 (by decide +kernel) (az_keep [false, false, false, false] (okLX12_isTermValue_130 C))
  have h126 := az_goto (tgt := 130) C dX12_isTermValue_126 (by decide) (az_keep [false, false, false, false] (okLX12_isTermValue_130 C))
  have h125 := az_iconst (x := (nI 1)) C dX12_isTermValue_125 (by decide +kernel) h126
  have h122 := az_if_ne (tgt := 129) C dX12_isTermValue_122 (by decide) h129 h125
  have h121 := az_iload_n C 3 rfl dX12_isTermValue_121 h122
  have h118 := az_goto (tgt := 130) C dX12_isTermValue_118 (by decide) (az_keep [false, false, false, false] (okLX12_isTermValue_130 C))
  have h115 := az_callS C okX12_in knX12_in stX12_in mLRX12_92 ⟨rfl, rfl, by decide, by decide⟩ dX12_isTermValue_115 h118
  have h112 := az_callV (ci := 13) C okX12_of knX12_of imX12_of seX12_of mLRX12_128 rfl (by decide) ⟨rfl, rfl, by decide, by decide⟩ dX12_isTermValue_112 h115
  have h110 := az_bipush (x := (nI 10)) C dX12_isTermValue_110 (by decide +kernel) h112
  have h109 := az_iload_n C 1 rfl dX12_isTermValue_109 h110
  have h108 := az_aload_n C 0 rfl dX12_isTermValue_108 h109
  have h105 := az_callV (ci := 13) C okX12_of knX12_of imX12_of seX12_of mLRX12_128 rfl (by decide) ⟨rfl, rfl, by decide, by decide⟩ dX12_isTermValue_105 h108
  have h103 := az_bipush (x := (nI 9)) C dX12_isTermValue_103 (by decide +kernel) h105
  have h102 := az_iload_n C 1 rfl dX12_isTermValue_102 h103
  have h101 := az_aload_n C 0 rfl dX12_isTermValue_101 h102
  have h100 := az_iload_n C 3 rfl dX12_isTermValue_100 h101
  have h97 := az_if_le (tgt := 121) C dX12_isTermValue_97 (by decide) h121 h100
  have h94 := az_callV (ci := 13) C okX12_of knX12_of imX12_of seX12_of mLRX12_128 rfl (by decide) ⟨rfl, rfl, by decide, by decide⟩ dX12_isTermValue_94 h97
  have h92 := az_bipush (x := (nI 6)) C dX12_isTermValue_92 (by decide +kernel) h94
  have h91 := az_iload_n C 1 rfl dX12_isTermValue_91 h92
  have h90 := az_aload_n C 0 rfl dX12_isTermValue_90 h91
  have h1 := az_tsw (td := 90) (tgts := [44, 44, 44, 53, 61, 61, 69]) (lo := 0) C dX12_isTermValue_1 (by decide) (by decide +kernel) (by decide) h90 (az_all_cons (az_keep [false, false, false, true] (okLX12_isTermValue_44 C)) (az_all_cons (az_keep [false, false, false, true] (okLX12_isTermValue_44 C)) (az_all_cons (az_keep [false, false, false, true] (okLX12_isTermValue_44 C)) (az_all_cons h53 (az_all_cons (az_keep [false, false, false, true] (okLX12_isTermValue_61 C)) (az_all_cons (az_keep [false, false, false, true] (okLX12_isTermValue_61 C)) (az_all_cons h69 az_all_nil)))))))
  have h0 := az_iload_n C 2 rfl dX12_isTermValue_0 h1
  exact h0) l
theorem dX12_setUnit_0 : decode cX12_setUnit 0 = .ok (.aload_n 0, 1) := by decide +kernel
theorem dX12_setUnit_1 : decode cX12_setUnit 1 = .ok (.aload_n 0, 1) := by decide +kernel
theorem dX12_setUnit_2 : decode cX12_setUnit 2 = .ok (.iload_n 1, 1) := by decide +kernel
theorem dX12_setUnit_3 : decode cX12_setUnit 3 = .ok (.invokevirtual 131, 3) := by decide +kernel
theorem dX12_setUnit_6 : decode cX12_setUnit 6 = .ok (.ifCond .eq 13, 3) := by decide +kernel
theorem dX12_setUnit_9 : decode cX12_setUnit 9 = .ok (.iload_n 2, 1) := by decide +kernel
theorem dX12_setUnit_10 : decode cX12_setUnit 10 = .ok (.iconst 0, 1) := by decide +kernel
theorem dX12_setUnit_11 : decode cX12_setUnit 11 = .ok (.bipush 7, 2) := by decide +kernel
theorem dX12_setUnit_13 : decode cX12_setUnit 13 = .ok (.invokestatic 92, 3) := by decide +kernel
theorem dX12_setUnit_16 : decode cX12_setUnit 16 = .ok (.ifCond .ne 7, 3) := by decide +kernel
theorem dX12_setUnit_19 : decode cX12_setUnit 19 = .ok (.iconst 1, 1) := by decide +kernel
theorem dX12_setUnit_20 : decode cX12_setUnit 20 = .ok (.goto 18, 3) := by decide +kernel
theorem dX12_setUnit_23 : decode cX12_setUnit 23 = .ok (.aload_n 0, 1) := by decide +kernel
theorem dX12_setUnit_24 : decode cX12_setUnit 24 = .ok (.iload_n 1, 1) := by decide +kernel
theorem dX12_setUnit_25 : decode cX12_setUnit 25 = .ok (.iload_n 2, 1) := by decide +kernel
theorem dX12_setUnit_26 : decode cX12_setUnit 26 = .ok (.iload_n 3, 1) := by decide +kernel
theorem dX12_setUnit_27 : decode cX12_setUnit 27 = .ok (.invokevirtual 134, 3) := by decide +kernel
theorem dX12_setUnit_30 : decode cX12_setUnit 30 = .ok (.ifCond .ne 7, 3) := by decide +kernel
theorem dX12_setUnit_33 : decode cX12_setUnit 33 = .ok (.iconst 2, 1) := by decide +kernel
theorem dX12_setUnit_34 : decode cX12_setUnit 34 = .ok (.goto 4, 3) := by decide +kernel
theorem dX12_setUnit_37 : decode cX12_setUnit 37 = .ok (.iconst 0, 1) := by decide +kernel
theorem dX12_setUnit_38 : decode cX12_setUnit 38 = .ok (.putfield 89, 3) := by decide +kernel
theorem dX12_setUnit_41 : decode cX12_setUnit 41 = .ok (.aload_n 0, 1) := by decide +kernel
theorem dX12_setUnit_42 : decode cX12_setUnit 42 = .ok (.getfield 89, 3) := by decide +kernel
theorem dX12_setUnit_45 : decode cX12_setUnit 45 = .ok (.ifCond .le 5, 3) := by decide +kernel
theorem dX12_setUnit_48 : decode cX12_setUnit 48 = .ok (.iconst 0, 1) := by decide +kernel
theorem dX12_setUnit_49 : decode cX12_setUnit 49 = .ok (.ireturn, 1) := by decide +kernel
theorem dX12_setUnit_50 : decode cX12_setUnit 50 = .ok (.aload_n 0, 1) := by decide +kernel
theorem dX12_setUnit_51 : decode cX12_setUnit 51 = .ok (.invokevirtual 120, 3) := by decide +kernel
theorem dX12_setUnit_54 : decode cX12_setUnit 54 = .ok (.aload_n 0, 1) := by decide +kernel
theorem dX12_setUnit_55 : decode cX12_setUnit 55 = .ok (.iload_n 1, 1) := by decide +kernel
theorem dX12_setUnit_56 : decode cX12_setUnit 56 = .ok (.iload_n 2, 1) := by decide +kernel
theorem dX12_setUnit_57 : decode cX12_setUnit 57 = .ok (.invokevirtual 128, 3) := by decide +kernel
theorem dX12_setUnit_60 : decode cX12_setUnit 60 = .ok (.istore 4, 2) := by decide +kernel
theorem dX12_setUnit_62 : decode cX12_setUnit 62 = .ok (.aload_n 0, 1) := by decide +kernel
theorem dX12_setUnit_63 : decode cX12_setUnit 63 = .ok (.getfield 9, 3) := by decide +kernel
theorem dX12_setUnit_66 : decode cX12_setUnit 66 = .ok (.iload_n 1, 1) := by decide +kernel
theorem dX12_setUnit_67 : decode cX12_setUnit 67 = .ok (.iload_n 2, 1) := by decide +kernel
theorem dX12_setUnit_68 : decode cX12_setUnit 68 = .ok (.invokestatic 96, 3) := by decide +kernel
theorem dX12_setUnit_71 : decode cX12_setUnit 71 = .ok (.iload_n 3, 1) := by decide +kernel
theorem dX12_setUnit_72 : decode cX12_setUnit 72 = .ok (.iastore, 1) := by decide +kernel
theorem dX12_setUnit_73 : decode cX12_setUnit 73 = .ok (.iload_n 2, 1) := by decide +kernel
theorem dX12_setUnit_74 : decode cX12_setUnit 74 = .ok (.bipush 6, 2) := by decide +kernel
theorem dX12_setUnit_76 : decode cX12_setUnit 76 = .ok (.if_icmp .ne 22, 3) := by decide +kernel
theorem dX12_setUnit_79 : decode cX12_setUnit 79 = .ok (.iload_n 3, 1) := by decide +kernel
theorem dX12_setUnit_80 : decode cX12_setUnit 80 = .ok (.ifCond .ge 18, 3) := by decide +kernel
theorem dX12_setUnit_83 : decode cX12_setUnit 83 = .ok (.aload_n 0, 1) := by decide +kernel
theorem dX12_setUnit_84 : decode cX12_setUnit 84 = .ok (.getfield 9, 3) := by decide +kernel
theorem dX12_setUnit_87 : decode cX12_setUnit 87 = .ok (.iload_n 1, 1) := by decide +kernel
theorem dX12_setUnit_88 : decode cX12_setUnit 88 = .ok (.bipush 7, 2) := by decide +kernel
theorem dX12_setUnit_90 : decode cX12_setUnit 90 = .ok (.invokestatic 96, 3) := by decide +kernel
theorem dX12_setUnit_93 : decode cX12_setUnit 93 = .ok (.iconst 0, 1) := by decide +kernel
theorem dX12_setUnit_94 : decode cX12_setUnit 94 = .ok (.iastore, 1) := by decide +kernel
theorem dX12_setUnit_95 : decode cX12_setUnit 95 = .ok (.goto 32, 3) := by decide +kernel
theorem dX12_setUnit_98 : decode cX12_setUnit 98 = .ok (.iload_n 2, 1) := by decide +kernel
theorem dX12_setUnit_99 : decode cX12_setUnit 99 = .ok (.bipush 6, 2) := by decide +kernel
theorem dX12_setUnit_101 : decode cX12_setUnit 101 = .ok (.if_icmp .ne 26, 3) := by decide +kernel
theorem dX12_setUnit_104 : decode cX12_setUnit 104 = .ok (.iload 4, 2) := by decide +kernel
theorem dX12_setUnit_106 : decode cX12_setUnit 106 = .ok (.ifCond .ge 21, 3) := by decide +kernel
theorem dX12_setUnit_109 : decode cX12_setUnit 109 = .ok (.aload_n 0, 1) := by decide +kernel
theorem dX12_setUnit_110 : decode cX12_setUnit 110 = .ok (.getfield 9, 3) := by decide +kernel
theorem dX12_setUnit_113 : decode cX12_setUnit 113 = .ok (.iload_n 1, 1) := by decide +kernel
theorem dX12_setUnit_114 : decode cX12_setUnit 114 = .ok (.bipush 7, 2) := by decide +kernel
theorem dX12_setUnit_116 : decode cX12_setUnit 116 = .ok (.invokestatic 96, 3) := by decide +kernel
theorem dX12_setUnit_119 : decode cX12_setUnit 119 = .ok (.aload_n 0, 1) := by decide +kernel
theorem dX12_setUnit_120 : decode cX12_setUnit 120 = .ok (.iload_n 1, 1) := by decide +kernel
theorem dX12_setUnit_121 : decode cX12_setUnit 121 = .ok (.bipush 9, 2) := by decide +kernel
theorem dX12_setUnit_123 : decode cX12_setUnit 123 = .ok (.invokevirtual 128, 3) := by decide +kernel
theorem dX12_setUnit_126 : decode cX12_setUnit 126 = .ok (.iastore, 1) := by decide +kernel
theorem dX12_setUnit_127 : decode cX12_setUnit 127 = .ok (.iload 4, 2) := by decide +kernel
theorem dX12_setUnit_129 : decode cX12_setUnit 129 = .ok (.ireturn, 1) := by decide +kernel
def LX12_setUnit_127 (Q : Option Value → az_M → Prop) : az_T := (s_li 4 (s_ri Q))
theorem okLX12_setUnit_127 {X : az_X} {Q : Option Value → az_M → Prop} (C : az_C X cX12_setUnit 5 RX12 (az_ts yX12_setUnit cX12_setUnit 5 (some .int)) ({ frames := 4, cells := 0, slots := 0, locals := 166 } : Room) (some .int) Q) : az_ok X 127 (LX12_setUnit_127 Q) := by
  have h129 := az_ireturn C rfl dX12_setUnit_129
  have h127 := az_iload C dX12_setUnit_127 h129
  exact h127
def LX12_setUnit_98 (Q : Option Value → az_M → Prop) : az_T := (s_li 2 (s_ic (nI 6) (s_if2 d_ne (s_kp [false, false, false, false, true] (LX12_setUnit_127 Q)) (s_li 4 (s_if c_ge (s_kp [false, false, false, false, true] (LX12_setUnit_127 Q)) (s_la 0 (s_gr 13 0 (s_li 1 (s_ic (nI 7) (s_cs 2 FX12_at (s_la 0 (s_li 1 (s_ic (nI 9) (s_cv 2 13 FX12_of (s_as (s_kp [false, false, false, false, true] (LX12_setUnit_127 Q)))))))))))))))))
theorem okLX12_setUnit_98 {X : az_X} {Q : Option Value → az_M → Prop} (C : az_C X cX12_setUnit 5 RX12 (az_ts yX12_setUnit cX12_setUnit 5 (some .int)) ({ frames := 4, cells := 0, slots := 0, locals := 166 } : Room) (some .int) Q) : az_ok X 98 (LX12_setUnit_98 Q) := by
  have h126 := az_iast C dX12_setUnit_126 (az_keep [false, false, false, false, true] (okLX12_setUnit_127 C))
  have h123 := az_callV (ci := 13) C okX12_of knX12_of imX12_of seX12_of mLRX12_128 rfl (by decide) ⟨rfl, rfl, by decide, by decide⟩ dX12_setUnit_123 h126
  have h121 := az_bipush (x := (nI 9)) C dX12_setUnit_121 (by decide +kernel) h123
  have h120 := az_iload_n C 1 rfl dX12_setUnit_120 h121
  have h119 := az_aload_n C 0 rfl dX12_setUnit_119 h120
  have h116 := az_callS C okX12_at knX12_at stX12_at mLRX12_96 ⟨rfl, rfl, by decide, by decide⟩ dX12_setUnit_116 h119
  have h114 := az_bipush (x := (nI 7)) C dX12_setUnit_114 (by decide +kernel) h116
  have h113 := az_iload_n C 1 rfl dX12_setUnit_113 h114
  have h110 := az_getR (T := TX12) (N := 33) (j := 0) C gwRX12 rfl (by decide) (by decide) iIRX12_0 mFRX12_9 rfl dX12_setUnit_110 h113
  have h109 := az_aload_n C 0 rfl dX12_setUnit_109 h110
  have h106 := az_if_ge (tgt := 127) C dX12_setUnit_106 (by decide) (az_keep [false, false, false, false, true] (okLX12_setUnit_127 C)) h109
  have h104 := az_iload C dX12_setUnit_104 h106
  have h101 := az_icmp_ne (tgt := 127) C dX12_setUnit_101 (by decide) (az_keep [false, false, false, false, true] (okLX12_setUnit_127 C)) h104
  have h99 := az_bipush (x := (nI 6)) C dX12_setUnit_99 (by decide +kernel) h101
  have h98 := az_iload_n C 2 rfl dX12_setUnit_98 h99
  exact h98
def LX12_setUnit_38 (Q : Option Value → az_M → Prop) : az_T := (s_pi 13 5 (s_la 0 (s_gi 13 5 (s_if c_le (s_la 0 (s_cv 0 13 FX12_change (s_la 0 (s_li 1 (s_li 2 (s_cv 2 13 FX12_of (s_si 4 (s_la 0 (s_gr 13 0 (s_li 1 (s_li 2 (s_cs 2 FX12_at (s_li 3 (s_as (s_li 2 (s_ic (nI 6) (s_if2 d_ne (s_kp [true, true, true, false, true] (LX12_setUnit_98 Q)) (s_li 3 (s_if c_ge (s_kp [true, true, true, false, true] (LX12_setUnit_98 Q)) (s_la 0 (s_gr 13 0 (s_li 1 (s_ic (nI 7) (s_cs 2 FX12_at (s_ic (nI 0) (s_as (s_kp [false, false, false, false, true] (LX12_setUnit_127 Q)))))))))))))))))))))))))))) (s_ic (nI 0) (s_ri Q))))))
theorem okLX12_setUnit_38 {X : az_X} {Q : Option Value → az_M → Prop} (C : az_C X cX12_setUnit 5 RX12 (az_ts yX12_setUnit cX12_setUnit 5 (some .int)) ({ frames := 4, cells := 0, slots := 0, locals := 166 } : Room) (some .int) Q) : az_ok X 38 (LX12_setUnit_38 Q) := by
  have h95 := az_goto (tgt := 127) C dX12_setUnit_95 (by decide) (az_keep [false, false, false, false, true] (okLX12_setUnit_127 C))
  have h94 := az_iast C dX12_setUnit_94 h95
  have h93 := az_iconst (x := (nI 0)) C dX12_setUnit_93 (by decide +kernel) h94
  have h90 := az_callS C okX12_at knX12_at stX12_at mLRX12_96 ⟨rfl, rfl, by decide, by decide⟩ dX12_setUnit_90 h93
  have h88 := az_bipush (x := (nI 7)) C dX12_setUnit_88 (by decide +kernel) h90
  have h87 := az_iload_n C 1 rfl dX12_setUnit_87 h88
  have h84 := az_getR (T := TX12) (N := 33) (j := 0) C gwRX12 rfl (by decide) (by decide) iIRX12_0 mFRX12_9 rfl dX12_setUnit_84 h87
  have h83 := az_aload_n C 0 rfl dX12_setUnit_83 h84
  have h80 := az_if_ge (tgt := 98) C dX12_setUnit_80 (by decide) (az_keep [true, true, true, false, true] (okLX12_setUnit_98 C)) h83
  have h79 := az_iload_n C 3 rfl dX12_setUnit_79 h80
  have h76 := az_icmp_ne (tgt := 98) C dX12_setUnit_76 (by decide) (az_keep [true, true, true, false, true] (okLX12_setUnit_98 C)) h79
  have h74 := az_bipush (x := (nI 6)) C dX12_setUnit_74 (by decide +kernel) h76
  have h73 := az_iload_n C 2 rfl dX12_setUnit_73 h74
  have h72 := az_iast C dX12_setUnit_72 h73
  have h71 := az_iload_n C 3 rfl dX12_setUnit_71 h72
  have h68 := az_callS C okX12_at knX12_at stX12_at mLRX12_96 ⟨rfl, rfl, by decide, by decide⟩ dX12_setUnit_68 h71
  have h67 := az_iload_n C 2 rfl dX12_setUnit_67 h68
  have h66 := az_iload_n C 1 rfl dX12_setUnit_66 h67
  have h63 := az_getR (T := TX12) (N := 33) (j := 0) C gwRX12 rfl (by decide) (by decide) iIRX12_0 mFRX12_9 rfl dX12_setUnit_63 h66
  have h62 := az_aload_n C 0 rfl dX12_setUnit_62 h63
  have h60 := az_istore C (by decide) dX12_setUnit_60 h62
  have h57 := az_callV (ci := 13) C okX12_of knX12_of imX12_of seX12_of mLRX12_128 rfl (by decide) ⟨rfl, rfl, by decide, by decide⟩ dX12_setUnit_57 h60
  have h56 := az_iload_n C 2 rfl dX12_setUnit_56 h57
  have h55 := az_iload_n C 1 rfl dX12_setUnit_55 h56
  have h54 := az_aload_n C 0 rfl dX12_setUnit_54 h55
  have h51 := az_callV (ci := 13) C okX12_change knX12_change imX12_change seX12_change mLRX12_120 rfl (by decide) ⟨rfl, rfl, by decide, by decide⟩ dX12_setUnit_51 h54
  have h50 := az_aload_n C 0 rfl dX12_setUnit_50 h51
  have h49 := az_ireturn C rfl dX12_setUnit_49
  have h48 := az_iconst (x := (nI 0)) C dX12_setUnit_48 (by decide +kernel) h49
  have h45 := az_if_le (tgt := 50) C dX12_setUnit_45 (by decide) h50 h48
  have h42 := az_getI (T := TX12) (N := 33) (j := 5) C gwRX12 rfl (by decide) (by decide) iIRX12_5 mFRX12_89 rfl dX12_setUnit_42 h45
  have h41 := az_aload_n C 0 rfl dX12_setUnit_41 h42
  have h38 := az_putI (T := TX12) (N := 33) (j := 5) C gwRX12 rfl (by decide) (by decide) tyX12 tyX12_ok nmX12 iIRX12_5 (by decide +kernel) rfl mFRX12_89 rfl dX12_setUnit_38 h41
  exact h38
def LX12_setUnit_19 (Q : Option Value → az_M → Prop) : az_T := (s_ic (nI 1) (s_kp [true, true, true, true, false] (LX12_setUnit_38 Q)))
theorem okLX12_setUnit_19 {X : az_X} {Q : Option Value → az_M → Prop} (C : az_C X cX12_setUnit 5 RX12 (az_ts yX12_setUnit cX12_setUnit 5 (some .int)) ({ frames := 4, cells := 0, slots := 0, locals := 166 } : Room) (some .int) Q) : az_ok X 19 (LX12_setUnit_19 Q) := by
  have h20 := az_goto (tgt := 38) C dX12_setUnit_20 (by decide) (az_keep [true, true, true, true, false] (okLX12_setUnit_38 C))
  have h19 := az_iconst (x := (nI 1)) C dX12_setUnit_19 (by decide +kernel) h20
  exact h19
def PX12_setUnit (Q : Option Value → az_M → Prop) : az_T := (s_la 0 (s_la 0 (s_li 1 (s_cv 1 13 FX12_isUnit (s_if c_eq (s_kp [true, true, true, true, false] (LX12_setUnit_19 Q)) (s_li 2 (s_ic (nI 0) (s_ic (nI 7) (s_cs 3 FX12_in (s_if c_ne (s_la 0 (s_li 1 (s_li 2 (s_li 3 (s_cv 3 13 FX12_isTermValue (s_if c_ne (s_ic (nI 0) (s_kp [true, true, true, true, false] (LX12_setUnit_38 Q))) (s_ic (nI 2) (s_kp [true, true, true, true, false] (LX12_setUnit_38 Q))))))))) (s_kp [true, true, true, true, false] (LX12_setUnit_19 Q))))))))))))
def FX12_setUnit : az_F := az_fun [true, false, false, false] 5 PX12_setUnit
theorem okX12_setUnit (l : Launch) : az_met l yX12_setUnit cX12_setUnit 5 (some .int) ({ frames := 4, cells := 0, slots := 0, locals := 166 } : Room) FX12_setUnit := az_met_of (own := RX12) (by decide +kernel) rfl (by decide) (fun X Q C => by
  have h37 := az_iconst (x := (nI 0)) C dX12_setUnit_37 (by decide +kernel) (az_keep [true, true, true, true, false] (okLX12_setUnit_38 C))
  have h34 := az_goto (tgt := 38) C dX12_setUnit_34 (by decide) (az_keep [true, true, true, true, false] (okLX12_setUnit_38 C))
  have h33 := az_iconst (x := (nI 2)) C dX12_setUnit_33 (by decide +kernel) h34
  have h30 := az_if_ne (tgt := 37) C dX12_setUnit_30 (by decide) h37 h33
  have h27 := az_callV (ci := 13) C okX12_isTermValue knX12_isTermValue imX12_isTermValue seX12_isTermValue mLRX12_134 rfl (by decide) ⟨rfl, rfl, by decide, by decide⟩ dX12_setUnit_27 h30
  have h26 := az_iload_n C 3 rfl dX12_setUnit_26 h27
  have h25 := az_iload_n C 2 rfl dX12_setUnit_25 h26
  have h24 := az_iload_n C 1 rfl dX12_setUnit_24 h25
  have h23 := az_aload_n C 0 rfl dX12_setUnit_23 h24
  have h16 := az_if_ne (tgt := 23) C dX12_setUnit_16 (by decide) h23 (az_keep [true, true, true, true, false] (okLX12_setUnit_19 C))
  have h13 := az_callS C okX12_in knX12_in stX12_in mLRX12_92 ⟨rfl, rfl, by decide, by decide⟩ dX12_setUnit_13 h16
  have h11 := az_bipush (x := (nI 7)) C dX12_setUnit_11 (by decide +kernel) h13
  have h10 := az_iconst (x := (nI 0)) C dX12_setUnit_10 (by decide +kernel) h11
  have h9 := az_iload_n C 2 rfl dX12_setUnit_9 h10
  have h6 := az_if_eq (tgt := 19) C dX12_setUnit_6 (by decide) (az_keep [true, true, true, true, false] (okLX12_setUnit_19 C)) h9
  have h3 := az_callV (ci := 13) C okX12_isUnit knX12_isUnit imX12_isUnit seX12_isUnit mLRX12_131 rfl (by decide) ⟨rfl, rfl, by decide, by decide⟩ dX12_setUnit_3 h6
  have h2 := az_iload_n C 1 rfl dX12_setUnit_2 h3
  have h1 := az_aload_n C 0 rfl dX12_setUnit_1 h2
  have h0 := az_aload_n C 0 rfl dX12_setUnit_0 h1
  exact h0) l
theorem dX12_urgency_0 : decode cX12_urgency 0 = .ok (.sipush 133, 3) := by decide +kernel
theorem dX12_urgency_3 : decode cX12_urgency 3 = .ok (.iconst 3, 1) := by decide +kernel
theorem dX12_urgency_4 : decode cX12_urgency 4 = .ok (.iload_n 1, 1) := by decide +kernel
theorem dX12_urgency_5 : decode cX12_urgency 5 = .ok (.imul, 1) := by decide +kernel
theorem dX12_urgency_6 : decode cX12_urgency 6 = .ok (.iadd, 1) := by decide +kernel
theorem dX12_urgency_7 : decode cX12_urgency 7 = .ok (.istore_n 2, 1) := by decide +kernel
theorem dX12_urgency_8 : decode cX12_urgency 8 = .ok (.aload_n 0, 1) := by decide +kernel
theorem dX12_urgency_9 : decode cX12_urgency 9 = .ok (.getfield 9, 3) := by decide +kernel
theorem dX12_urgency_12 : decode cX12_urgency 12 = .ok (.iconst 4, 1) := by decide +kernel
theorem dX12_urgency_13 : decode cX12_urgency 13 = .ok (.iaload, 1) := by decide +kernel
theorem dX12_urgency_14 : decode cX12_urgency 14 = .ok (.ifCond .ne 14, 3) := by decide +kernel
theorem dX12_urgency_17 : decode cX12_urgency 17 = .ok (.aload_n 0, 1) := by decide +kernel
theorem dX12_urgency_18 : decode cX12_urgency 18 = .ok (.getfield 9, 3) := by decide +kernel
theorem dX12_urgency_21 : decode cX12_urgency 21 = .ok (.iload_n 2, 1) := by decide +kernel
theorem dX12_urgency_22 : decode cX12_urgency 22 = .ok (.iconst 1, 1) := by decide +kernel
theorem dX12_urgency_23 : decode cX12_urgency 23 = .ok (.iadd, 1) := by decide +kernel
theorem dX12_urgency_24 : decode cX12_urgency 24 = .ok (.iaload, 1) := by decide +kernel
theorem dX12_urgency_25 : decode cX12_urgency 25 = .ok (.goto 37, 3) := by decide +kernel
theorem dX12_urgency_28 : decode cX12_urgency 28 = .ok (.aload_n 0, 1) := by decide +kernel
theorem dX12_urgency_29 : decode cX12_urgency 29 = .ok (.getfield 9, 3) := by decide +kernel
theorem dX12_urgency_32 : decode cX12_urgency 32 = .ok (.iconst 4, 1) := by decide +kernel
theorem dX12_urgency_33 : decode cX12_urgency 33 = .ok (.iaload, 1) := by decide +kernel
theorem dX12_urgency_34 : decode cX12_urgency 34 = .ok (.iconst 1, 1) := by decide +kernel
theorem dX12_urgency_35 : decode cX12_urgency 35 = .ok (.if_icmp .ne 14, 3) := by decide +kernel
theorem dX12_urgency_38 : decode cX12_urgency 38 = .ok (.aload_n 0, 1) := by decide +kernel
theorem dX12_urgency_39 : decode cX12_urgency 39 = .ok (.getfield 9, 3) := by decide +kernel
theorem dX12_urgency_42 : decode cX12_urgency 42 = .ok (.iload_n 2, 1) := by decide +kernel
theorem dX12_urgency_43 : decode cX12_urgency 43 = .ok (.iconst 2, 1) := by decide +kernel
theorem dX12_urgency_44 : decode cX12_urgency 44 = .ok (.iadd, 1) := by decide +kernel
theorem dX12_urgency_45 : decode cX12_urgency 45 = .ok (.iaload, 1) := by decide +kernel
theorem dX12_urgency_46 : decode cX12_urgency 46 = .ok (.goto 16, 3) := by decide +kernel
theorem dX12_urgency_49 : decode cX12_urgency 49 = .ok (.aload_n 0, 1) := by decide +kernel
theorem dX12_urgency_50 : decode cX12_urgency 50 = .ok (.aload_n 0, 1) := by decide +kernel
theorem dX12_urgency_51 : decode cX12_urgency 51 = .ok (.getfield 9, 3) := by decide +kernel
theorem dX12_urgency_54 : decode cX12_urgency 54 = .ok (.iload_n 2, 1) := by decide +kernel
theorem dX12_urgency_55 : decode cX12_urgency 55 = .ok (.iaload, 1) := by decide +kernel
theorem dX12_urgency_56 : decode cX12_urgency 56 = .ok (.bipush 10, 2) := by decide +kernel
theorem dX12_urgency_58 : decode cX12_urgency 58 = .ok (.invokevirtual 128, 3) := by decide +kernel
theorem dX12_urgency_61 : decode cX12_urgency 61 = .ok (.ineg, 1) := by decide +kernel
theorem dX12_urgency_62 : decode cX12_urgency 62 = .ok (.ireturn, 1) := by decide +kernel
def LX12_urgency_62 (Q : Option Value → az_M → Prop) : az_T := (s_ri Q)
theorem okLX12_urgency_62 {X : az_X} {Q : Option Value → az_M → Prop} (C : az_C X cX12_urgency 3 RX12 (az_ts yX12_urgency cX12_urgency 3 (some .int)) ({ frames := 3, cells := 0, slots := 0, locals := 143 } : Room) (some .int) Q) : az_ok X 62 (LX12_urgency_62 Q) := by
  have h62 := az_ireturn C rfl dX12_urgency_62
  exact h62
def PX12_urgency (Q : Option Value → az_M → Prop) : az_T := (s_ic (nI 133) (s_ic (nI 3) (s_li 1 (s_bin f_mul (s_bin f_add (s_si 2 (s_la 0 (s_gr 13 0 (s_ic (nI 4) (s_al 20 (s_if c_ne (s_la 0 (s_gr 13 0 (s_ic (nI 4) (s_al 20 (s_ic (nI 1) (s_if2 d_ne (s_la 0 (s_la 0 (s_gr 13 0 (s_li 2 (s_al 20 (s_ic (nI 10) (s_cv 2 13 FX12_of (s_un f_neg (s_kp [false, false, false] (LX12_urgency_62 Q)))))))))) (s_la 0 (s_gr 13 0 (s_li 2 (s_ic (nI 2) (s_bin f_add (s_al 20 (s_kp [false, false, false] (LX12_urgency_62 Q)))))))))))))) (s_la 0 (s_gr 13 0 (s_li 2 (s_ic (nI 1) (s_bin f_add (s_al 20 (s_kp [false, false, false] (LX12_urgency_62 Q)))))))))))))))))))
def FX12_urgency : az_F := az_fun [true, false] 3 PX12_urgency
theorem okX12_urgency (l : Launch) : az_met l yX12_urgency cX12_urgency 3 (some .int) ({ frames := 3, cells := 0, slots := 0, locals := 143 } : Room) FX12_urgency := az_met_of (own := RX12) (by decide +kernel) rfl (by decide) (fun X Q C => by
  have h61 := az_ineg C dX12_urgency_61 (az_keep [false, false, false] (okLX12_urgency_62 C))
  have h58 := az_callV (ci := 13) C okX12_of knX12_of imX12_of seX12_of mLRX12_128 rfl (by decide) ⟨rfl, rfl, by decide, by decide⟩ dX12_urgency_58 h61
  have h56 := az_bipush (x := (nI 10)) C dX12_urgency_56 (by decide +kernel) h58
  have h55 := az_iald C dX12_urgency_55 h56
  have h54 := az_iload_n C 2 rfl dX12_urgency_54 h55
  have h51 := az_getR (T := TX12) (N := 33) (j := 0) C gwRX12 rfl (by decide) (by decide) iIRX12_0 mFRX12_9 rfl dX12_urgency_51 h54
  have h50 := az_aload_n C 0 rfl dX12_urgency_50 h51
  have h49 := az_aload_n C 0 rfl dX12_urgency_49 h50
  have h46 := az_goto (tgt := 62) C dX12_urgency_46 (by decide) (az_keep [false, false, false] (okLX12_urgency_62 C))
  have h45 := az_iald C dX12_urgency_45 h46
  have h44 := az_iadd C dX12_urgency_44 h45
  have h43 := az_iconst (x := (nI 2)) C dX12_urgency_43 (by decide +kernel) h44
  have h42 := az_iload_n C 2 rfl dX12_urgency_42 h43
  have h39 := az_getR (T := TX12) (N := 33) (j := 0) C gwRX12 rfl (by decide) (by decide) iIRX12_0 mFRX12_9 rfl dX12_urgency_39 h42
  have h38 := az_aload_n C 0 rfl dX12_urgency_38 h39
  have h35 := az_icmp_ne (tgt := 49) C dX12_urgency_35 (by decide) h49 h38
  have h34 := az_iconst (x := (nI 1)) C dX12_urgency_34 (by decide +kernel) h35
  have h33 := az_iald C dX12_urgency_33 h34
  have h32 := az_iconst (x := (nI 4)) C dX12_urgency_32 (by decide +kernel) h33
  have h29 := az_getR (T := TX12) (N := 33) (j := 0) C gwRX12 rfl (by decide) (by decide) iIRX12_0 mFRX12_9 rfl dX12_urgency_29 h32
  have h28 := az_aload_n C 0 rfl dX12_urgency_28 h29
  have h25 := az_goto (tgt := 62) C dX12_urgency_25 (by decide) (az_keep [false, false, false] (okLX12_urgency_62 C))
  have h24 := az_iald C dX12_urgency_24 h25
  have h23 := az_iadd C dX12_urgency_23 h24
  have h22 := az_iconst (x := (nI 1)) C dX12_urgency_22 (by decide +kernel) h23
  have h21 := az_iload_n C 2 rfl dX12_urgency_21 h22
  have h18 := az_getR (T := TX12) (N := 33) (j := 0) C gwRX12 rfl (by decide) (by decide) iIRX12_0 mFRX12_9 rfl dX12_urgency_18 h21
  have h17 := az_aload_n C 0 rfl dX12_urgency_17 h18
  have h14 := az_if_ne (tgt := 28) C dX12_urgency_14 (by decide) h28 h17
  have h13 := az_iald C dX12_urgency_13 h14
  have h12 := az_iconst (x := (nI 4)) C dX12_urgency_12 (by decide +kernel) h13
  have h9 := az_getR (T := TX12) (N := 33) (j := 0) C gwRX12 rfl (by decide) (by decide) iIRX12_0 mFRX12_9 rfl dX12_urgency_9 h12
  have h8 := az_aload_n C 0 rfl dX12_urgency_8 h9
  have h7 := az_istore_n C 2 rfl (by decide) dX12_urgency_7 h8
  have h6 := az_iadd C dX12_urgency_6 h7
  have h5 := az_imul C dX12_urgency_5 h6
  have h4 := az_iload_n C 1 rfl dX12_urgency_4 h5
  have h3 := az_iconst (x := (nI 3)) C dX12_urgency_3 (by decide +kernel) h4
  have h0 := az_sipush (x := (nI 133)) C dX12_urgency_0 (by decide +kernel) h3
  exact h0) l
theorem dX12_repair_0 : decode cX12_repair 0 = .ok (.iconst 0, 1) := by decide +kernel
theorem dX12_repair_1 : decode cX12_repair 1 = .ok (.istore_n 1, 1) := by decide +kernel
theorem dX12_repair_2 : decode cX12_repair 2 = .ok (.iload_n 1, 1) := by decide +kernel
theorem dX12_repair_3 : decode cX12_repair 3 = .ok (.bipush 6, 2) := by decide +kernel
theorem dX12_repair_5 : decode cX12_repair 5 = .ok (.if_icmp .ge 16, 3) := by decide +kernel
theorem dX12_repair_8 : decode cX12_repair 8 = .ok (.aload_n 0, 1) := by decide +kernel
theorem dX12_repair_9 : decode cX12_repair 9 = .ok (.getfield 19, 3) := by decide +kernel
theorem dX12_repair_12 : decode cX12_repair 12 = .ok (.iload_n 1, 1) := by decide +kernel
theorem dX12_repair_13 : decode cX12_repair 13 = .ok (.iconst (-1), 1) := by decide +kernel
theorem dX12_repair_14 : decode cX12_repair 14 = .ok (.iastore, 1) := by decide +kernel
theorem dX12_repair_15 : decode cX12_repair 15 = .ok (.iinc 1 1, 3) := by decide +kernel
theorem dX12_repair_18 : decode cX12_repair 18 = .ok (.goto (-16), 3) := by decide +kernel
theorem dX12_repair_21 : decode cX12_repair 21 = .ok (.aload_n 0, 1) := by decide +kernel
theorem dX12_repair_22 : decode cX12_repair 22 = .ok (.getfield 9, 3) := by decide +kernel
theorem dX12_repair_25 : decode cX12_repair 25 = .ok (.iconst 3, 1) := by decide +kernel
theorem dX12_repair_26 : decode cX12_repair 26 = .ok (.iaload, 1) := by decide +kernel
theorem dX12_repair_27 : decode cX12_repair 27 = .ok (.istore_n 1, 1) := by decide +kernel
theorem dX12_repair_28 : decode cX12_repair 28 = .ok (.iconst 0, 1) := by decide +kernel
theorem dX12_repair_29 : decode cX12_repair 29 = .ok (.istore_n 2, 1) := by decide +kernel
theorem dX12_repair_30 : decode cX12_repair 30 = .ok (.iload_n 1, 1) := by decide +kernel
theorem dX12_repair_31 : decode cX12_repair 31 = .ok (.ifCond .le 131, 3) := by decide +kernel
theorem dX12_repair_34 : decode cX12_repair 34 = .ok (.iconst (-1), 1) := by decide +kernel
theorem dX12_repair_35 : decode cX12_repair 35 = .ok (.istore_n 3, 1) := by decide +kernel
theorem dX12_repair_36 : decode cX12_repair 36 = .ok (.iconst 0, 1) := by decide +kernel
theorem dX12_repair_37 : decode cX12_repair 37 = .ok (.istore 4, 2) := by decide +kernel
theorem dX12_repair_39 : decode cX12_repair 39 = .ok (.iload 4, 2) := by decide +kernel
theorem dX12_repair_41 : decode cX12_repair 41 = .ok (.aload_n 0, 1) := by decide +kernel
theorem dX12_repair_42 : decode cX12_repair 42 = .ok (.getfield 9, 3) := by decide +kernel
theorem dX12_repair_45 : decode cX12_repair 45 = .ok (.iconst 3, 1) := by decide +kernel
theorem dX12_repair_46 : decode cX12_repair 46 = .ok (.iaload, 1) := by decide +kernel
theorem dX12_repair_47 : decode cX12_repair 47 = .ok (.if_icmp .ge 75, 3) := by decide +kernel
theorem dX12_repair_50 : decode cX12_repair 50 = .ok (.aload_n 0, 1) := by decide +kernel
theorem dX12_repair_51 : decode cX12_repair 51 = .ok (.getfield 19, 3) := by decide +kernel
theorem dX12_repair_54 : decode cX12_repair 54 = .ok (.iload 4, 2) := by decide +kernel
theorem dX12_repair_56 : decode cX12_repair 56 = .ok (.iaload, 1) := by decide +kernel
theorem dX12_repair_57 : decode cX12_repair 57 = .ok (.ifCond .ge 26, 3) := by decide +kernel
theorem dX12_repair_60 : decode cX12_repair 60 = .ok (.aload_n 0, 1) := by decide +kernel
theorem dX12_repair_61 : decode cX12_repair 61 = .ok (.getfield 9, 3) := by decide +kernel
theorem dX12_repair_64 : decode cX12_repair 64 = .ok (.sipush 133, 3) := by decide +kernel
theorem dX12_repair_67 : decode cX12_repair 67 = .ok (.iconst 3, 1) := by decide +kernel
theorem dX12_repair_68 : decode cX12_repair 68 = .ok (.iload 4, 2) := by decide +kernel
theorem dX12_repair_70 : decode cX12_repair 70 = .ok (.imul, 1) := by decide +kernel
theorem dX12_repair_71 : decode cX12_repair 71 = .ok (.iadd, 1) := by decide +kernel
theorem dX12_repair_72 : decode cX12_repair 72 = .ok (.iconst 1, 1) := by decide +kernel
theorem dX12_repair_73 : decode cX12_repair 73 = .ok (.iadd, 1) := by decide +kernel
theorem dX12_repair_74 : decode cX12_repair 74 = .ok (.iaload, 1) := by decide +kernel
theorem dX12_repair_75 : decode cX12_repair 75 = .ok (.iload_n 2, 1) := by decide +kernel
theorem dX12_repair_76 : decode cX12_repair 76 = .ok (.if_icmp .gt 7, 3) := by decide +kernel
theorem dX12_repair_79 : decode cX12_repair 79 = .ok (.iconst 1, 1) := by decide +kernel
theorem dX12_repair_80 : decode cX12_repair 80 = .ok (.goto 4, 3) := by decide +kernel
theorem dX12_repair_83 : decode cX12_repair 83 = .ok (.iconst 0, 1) := by decide +kernel
theorem dX12_repair_84 : decode cX12_repair 84 = .ok (.istore 5, 2) := by decide +kernel
theorem dX12_repair_86 : decode cX12_repair 86 = .ok (.iload 5, 2) := by decide +kernel
theorem dX12_repair_88 : decode cX12_repair 88 = .ok (.ifCond .eq 26, 3) := by decide +kernel
theorem dX12_repair_91 : decode cX12_repair 91 = .ok (.iload_n 3, 1) := by decide +kernel
theorem dX12_repair_92 : decode cX12_repair 92 = .ok (.ifCond .lt 17, 3) := by decide +kernel
theorem dX12_repair_95 : decode cX12_repair 95 = .ok (.aload_n 0, 1) := by decide +kernel
theorem dX12_repair_96 : decode cX12_repair 96 = .ok (.iload 4, 2) := by decide +kernel
theorem dX12_repair_98 : decode cX12_repair 98 = .ok (.invokevirtual 147, 3) := by decide +kernel
theorem dX12_repair_101 : decode cX12_repair 101 = .ok (.aload_n 0, 1) := by decide +kernel
theorem dX12_repair_102 : decode cX12_repair 102 = .ok (.iload_n 3, 1) := by decide +kernel
theorem dX12_repair_103 : decode cX12_repair 103 = .ok (.invokevirtual 147, 3) := by decide +kernel
theorem dX12_repair_106 : decode cX12_repair 106 = .ok (.if_icmp .ge 8, 3) := by decide +kernel
theorem dX12_repair_109 : decode cX12_repair 109 = .ok (.iload 4, 2) := by decide +kernel
theorem dX12_repair_111 : decode cX12_repair 111 = .ok (.goto 4, 3) := by decide +kernel
theorem dX12_repair_114 : decode cX12_repair 114 = .ok (.iload_n 3, 1) := by decide +kernel
theorem dX12_repair_115 : decode cX12_repair 115 = .ok (.istore_n 3, 1) := by decide +kernel
theorem dX12_repair_116 : decode cX12_repair 116 = .ok (.iinc 4 1, 3) := by decide +kernel
theorem dX12_repair_119 : decode cX12_repair 119 = .ok (.goto (-80), 3) := by decide +kernel
theorem dX12_repair_122 : decode cX12_repair 122 = .ok (.iload_n 3, 1) := by decide +kernel
theorem dX12_repair_123 : decode cX12_repair 123 = .ok (.ifCond .ge 9, 3) := by decide +kernel
theorem dX12_repair_126 : decode cX12_repair 126 = .ok (.iinc 2 1, 3) := by decide +kernel
theorem dX12_repair_129 : decode cX12_repair 129 = .ok (.goto 30, 3) := by decide +kernel
theorem dX12_repair_132 : decode cX12_repair 132 = .ok (.aload_n 0, 1) := by decide +kernel
theorem dX12_repair_133 : decode cX12_repair 133 = .ok (.getfield 19, 3) := by decide +kernel
theorem dX12_repair_136 : decode cX12_repair 136 = .ok (.iload_n 3, 1) := by decide +kernel
theorem dX12_repair_137 : decode cX12_repair 137 = .ok (.iload_n 2, 1) := by decide +kernel
theorem dX12_repair_138 : decode cX12_repair 138 = .ok (.iastore, 1) := by decide +kernel
theorem dX12_repair_139 : decode cX12_repair 139 = .ok (.iload_n 2, 1) := by decide +kernel
theorem dX12_repair_140 : decode cX12_repair 140 = .ok (.aload_n 0, 1) := by decide +kernel
theorem dX12_repair_141 : decode cX12_repair 141 = .ok (.getfield 9, 3) := by decide +kernel
theorem dX12_repair_144 : decode cX12_repair 144 = .ok (.sipush 133, 3) := by decide +kernel
theorem dX12_repair_147 : decode cX12_repair 147 = .ok (.iconst 3, 1) := by decide +kernel
theorem dX12_repair_148 : decode cX12_repair 148 = .ok (.iload_n 3, 1) := by decide +kernel
theorem dX12_repair_149 : decode cX12_repair 149 = .ok (.imul, 1) := by decide +kernel
theorem dX12_repair_150 : decode cX12_repair 150 = .ok (.iadd, 1) := by decide +kernel
theorem dX12_repair_151 : decode cX12_repair 151 = .ok (.iconst 2, 1) := by decide +kernel
theorem dX12_repair_152 : decode cX12_repair 152 = .ok (.iadd, 1) := by decide +kernel
theorem dX12_repair_153 : decode cX12_repair 153 = .ok (.iaload, 1) := by decide +kernel
theorem dX12_repair_154 : decode cX12_repair 154 = .ok (.iadd, 1) := by decide +kernel
theorem dX12_repair_155 : decode cX12_repair 155 = .ok (.istore_n 2, 1) := by decide +kernel
theorem dX12_repair_156 : decode cX12_repair 156 = .ok (.iinc 1 (-1), 3) := by decide +kernel
theorem dX12_repair_159 : decode cX12_repair 159 = .ok (.goto (-129), 3) := by decide +kernel
theorem dX12_repair_162 : decode cX12_repair 162 = .ok (.return_, 1) := by decide +kernel
def LX12_repair_159 (Q : Option Value → az_M → Prop) (Z30 : az_T) : az_T := (s_kp [true, true, true, false, false, false] Z30)
theorem okLX12_repair_159 {X : az_X} {Q : Option Value → az_M → Prop} (C : az_C X cX12_repair 6 RX12 (az_ts yX12_repair cX12_repair 6 none) ({ frames := 4, cells := 0, slots := 0, locals := 165 } : Room) none Q) {Z30 : az_T} (hZ30 : az_ok X 30 Z30) : az_ok X 159 (LX12_repair_159 Q Z30) := by
  have h159 := az_goto (tgt := 30) C dX12_repair_159 (by decide) (az_keep [true, true, true, false, false, false] hZ30)
  exact h159
def LX12_repair_115 (Q : Option Value → az_M → Prop) (Z30 : az_T) (Z39 : az_T) : az_T := (s_si 3 (s_inc 4 (nI 1) (s_kp [true, true, true, true, true, false] Z39)))
theorem okLX12_repair_115 {X : az_X} {Q : Option Value → az_M → Prop} (C : az_C X cX12_repair 6 RX12 (az_ts yX12_repair cX12_repair 6 none) ({ frames := 4, cells := 0, slots := 0, locals := 165 } : Room) none Q) {Z30 : az_T} (hZ30 : az_ok X 30 Z30) {Z39 : az_T} (hZ39 : az_ok X 39 Z39) : az_ok X 115 (LX12_repair_115 Q Z30 Z39) := by
  have h119 := az_goto (tgt := 39) C dX12_repair_119 (by decide) (az_keep [true, true, true, true, true, false] hZ39)
  have h116 := az_iinc (v := (nI 1)) C (by decide) (by decide +kernel) dX12_repair_116 h119
  have h115 := az_istore_n C 3 rfl (by decide) dX12_repair_115 h116
  exact h115
def LX12_repair_114 (Q : Option Value → az_M → Prop) (Z30 : az_T) (Z39 : az_T) : az_T := (s_li 3 (s_kp [true, true, true, false, true, false] (LX12_repair_115 Q Z30 Z39)))
theorem okLX12_repair_114 {X : az_X} {Q : Option Value → az_M → Prop} (C : az_C X cX12_repair 6 RX12 (az_ts yX12_repair cX12_repair 6 none) ({ frames := 4, cells := 0, slots := 0, locals := 165 } : Room) none Q) {Z30 : az_T} (hZ30 : az_ok X 30 Z30) {Z39 : az_T} (hZ39 : az_ok X 39 Z39) : az_ok X 114 (LX12_repair_114 Q Z30 Z39) := by
  have h114 := az_iload_n C 3 rfl dX12_repair_114 (az_keep [true, true, true, false, true, false] (okLX12_repair_115 C hZ30 hZ39))
  exact h114
def LX12_repair_109 (Q : Option Value → az_M → Prop) (Z30 : az_T) (Z39 : az_T) : az_T := (s_li 4 (s_kp [true, true, true, false, true, false] (LX12_repair_115 Q Z30 Z39)))
theorem okLX12_repair_109 {X : az_X} {Q : Option Value → az_M → Prop} (C : az_C X cX12_repair 6 RX12 (az_ts yX12_repair cX12_repair 6 none) ({ frames := 4, cells := 0, slots := 0, locals := 165 } : Room) none Q) {Z30 : az_T} (hZ30 : az_ok X 30 Z30) {Z39 : az_T} (hZ39 : az_ok X 39 Z39) : az_ok X 109 (LX12_repair_109 Q Z30 Z39) := by
  have h111 := az_goto (tgt := 115) C dX12_repair_111 (by decide) (az_keep [true, true, true, false, true, false] (okLX12_repair_115 C hZ30 hZ39))
  have h109 := az_iload C dX12_repair_109 h111
  exact h109
def LX12_repair_84 (Q : Option Value → az_M → Prop) (Z30 : az_T) (Z39 : az_T) : az_T := (s_si 5 (s_li 5 (s_if c_eq (s_kp [true, true, true, true, true, false] (LX12_repair_114 Q Z30 Z39)) (s_li 3 (s_if c_lt (s_kp [true, true, true, false, true, false] (LX12_repair_109 Q Z30 Z39)) (s_la 0 (s_li 4 (s_cv 1 13 FX12_urgency (s_la 0 (s_li 3 (s_cv 1 13 FX12_urgency (s_if2 d_ge (s_kp [true, true, true, true, true, false] (LX12_repair_114 Q Z30 Z39)) (s_kp [true, true, true, false, true, false] (LX12_repair_109 Q Z30 Z39))))))))))))))
theorem okLX12_repair_84 {X : az_X} {Q : Option Value → az_M → Prop} (C : az_C X cX12_repair 6 RX12 (az_ts yX12_repair cX12_repair 6 none) ({ frames := 4, cells := 0, slots := 0, locals := 165 } : Room) none Q) {Z30 : az_T} (hZ30 : az_ok X 30 Z30) {Z39 : az_T} (hZ39 : az_ok X 39 Z39) : az_ok X 84 (LX12_repair_84 Q Z30 Z39) := by
  have h106 := az_icmp_ge (tgt := 114) C dX12_repair_106 (by decide) (az_keep [true, true, true, true, true, false] (okLX12_repair_114 C hZ30 hZ39)) (az_keep [true, true, true, false, true, false] (okLX12_repair_109 C hZ30 hZ39))
  have h103 := az_callV (ci := 13) C okX12_urgency knX12_urgency imX12_urgency seX12_urgency mLRX12_147 rfl (by decide) ⟨rfl, rfl, by decide, by decide⟩ dX12_repair_103 h106
  have h102 := az_iload_n C 3 rfl dX12_repair_102 h103
  have h101 := az_aload_n C 0 rfl dX12_repair_101 h102
  have h98 := az_callV (ci := 13) C okX12_urgency knX12_urgency imX12_urgency seX12_urgency mLRX12_147 rfl (by decide) ⟨rfl, rfl, by decide, by decide⟩ dX12_repair_98 h101
  have h96 := az_iload C dX12_repair_96 h98
  have h95 := az_aload_n C 0 rfl dX12_repair_95 h96
  have h92 := az_if_lt (tgt := 109) C dX12_repair_92 (by decide) (az_keep [true, true, true, false, true, false] (okLX12_repair_109 C hZ30 hZ39)) h95
  have h91 := az_iload_n C 3 rfl dX12_repair_91 h92
  have h88 := az_if_eq (tgt := 114) C dX12_repair_88 (by decide) (az_keep [true, true, true, true, true, false] (okLX12_repair_114 C hZ30 hZ39)) h91
  have h86 := az_iload C dX12_repair_86 h88
  have h84 := az_istore C (by decide) dX12_repair_84 h86
  exact h84
def LX12_repair_83 (Q : Option Value → az_M → Prop) (Z30 : az_T) (Z39 : az_T) : az_T := (s_ic (nI 0) (s_kp [true, true, true, true, true, false] (LX12_repair_84 Q Z30 Z39)))
theorem okLX12_repair_83 {X : az_X} {Q : Option Value → az_M → Prop} (C : az_C X cX12_repair 6 RX12 (az_ts yX12_repair cX12_repair 6 none) ({ frames := 4, cells := 0, slots := 0, locals := 165 } : Room) none Q) {Z30 : az_T} (hZ30 : az_ok X 30 Z30) {Z39 : az_T} (hZ39 : az_ok X 39 Z39) : az_ok X 83 (LX12_repair_83 Q Z30 Z39) := by
  have h83 := az_iconst (x := (nI 0)) C dX12_repair_83 (by decide +kernel) (az_keep [true, true, true, true, true, false] (okLX12_repair_84 C hZ30 hZ39))
  exact h83
def BX12_repair_39 (Q : Option Value → az_M → Prop) (Z30 : az_T) (Z39 : az_T) : az_T := (s_li 4 (s_la 0 (s_gr 13 0 (s_ic (nI 3) (s_al 20 (s_if2 d_ge (s_li 3 (s_if c_ge (s_la 0 (s_gr 13 6 (s_li 3 (s_li 2 (s_as (s_li 2 (s_la 0 (s_gr 13 0 (s_ic (nI 133) (s_ic (nI 3) (s_li 3 (s_bin f_mul (s_bin f_add (s_ic (nI 2) (s_bin f_add (s_al 20 (s_bin f_add (s_si 2 (s_inc 1 (-1) (s_kp [true, true, true, false, false, false] (LX12_repair_159 Q Z30))))))))))))))))))))) (s_inc 2 (nI 1) (s_kp [true, true, true, false, false, false] (LX12_repair_159 Q Z30))))) (s_la 0 (s_gr 13 6 (s_li 4 (s_al 20 (s_if c_ge (s_kp [true, true, true, true, true, false] (LX12_repair_83 Q Z30 Z39)) (s_la 0 (s_gr 13 0 (s_ic (nI 133) (s_ic (nI 3) (s_li 4 (s_bin f_mul (s_bin f_add (s_ic (nI 1) (s_bin f_add (s_al 20 (s_li 2 (s_if2 d_gt (s_kp [true, true, true, true, true, false] (LX12_repair_83 Q Z30 Z39)) (s_ic (nI 1) (s_kp [true, true, true, true, true, false] (LX12_repair_84 Q Z30 Z39))))))))))))))))))))))))))
theorem okBX12_repair_39 {X : az_X} {Q : Option Value → az_M → Prop} (C : az_C X cX12_repair 6 RX12 (az_ts yX12_repair cX12_repair 6 none) ({ frames := 4, cells := 0, slots := 0, locals := 165 } : Room) none Q) {Z30 : az_T} (hZ30 : az_ok X 30 Z30) {Z39 : az_T} (hZ39 : az_ok X 39 Z39) : az_ok X 39 (BX12_repair_39 Q Z30 Z39) := by
  have h156 := az_iinc (v := (-1)) C (by decide) (by decide +kernel) dX12_repair_156 (az_keep [true, true, true, false, false, false] (okLX12_repair_159 C hZ30))
  have h155 := az_istore_n C 2 rfl (by decide) dX12_repair_155 h156
  have h154 := az_iadd C dX12_repair_154 h155
  have h153 := az_iald C dX12_repair_153 h154
  have h152 := az_iadd C dX12_repair_152 h153
  have h151 := az_iconst (x := (nI 2)) C dX12_repair_151 (by decide +kernel) h152
  have h150 := az_iadd C dX12_repair_150 h151
  have h149 := az_imul C dX12_repair_149 h150
  have h148 := az_iload_n C 3 rfl dX12_repair_148 h149
  have h147 := az_iconst (x := (nI 3)) C dX12_repair_147 (by decide +kernel) h148
  have h144 := az_sipush (x := (nI 133)) C dX12_repair_144 (by decide +kernel) h147
  have h141 := az_getR (T := TX12) (N := 33) (j := 0) C gwRX12 rfl (by decide) (by decide) iIRX12_0 mFRX12_9 rfl dX12_repair_141 h144
  have h140 := az_aload_n C 0 rfl dX12_repair_140 h141
  have h139 := az_iload_n C 2 rfl dX12_repair_139 h140
  have h138 := az_iast C dX12_repair_138 h139
  have h137 := az_iload_n C 2 rfl dX12_repair_137 h138
  have h136 := az_iload_n C 3 rfl dX12_repair_136 h137
  have h133 := az_getR (T := TX12) (N := 33) (j := 6) C gwRX12 rfl (by decide) (by decide) iIRX12_6 mFRX12_19 rfl dX12_repair_133 h136
  have h132 := az_aload_n C 0 rfl dX12_repair_132 h133
  have h129 := az_goto (tgt := 159) C dX12_repair_129 (by decide) (az_keep [true, true, true, false, false, false] (okLX12_repair_159 C hZ30))
  have h126 := az_iinc (v := (nI 1)) C (by decide) (by decide +kernel) dX12_repair_126 h129
  have h123 := az_if_ge (tgt := 132) C dX12_repair_123 (by decide) h132 h126
  have h122 := az_iload_n C 3 rfl dX12_repair_122 h123
  have h80 := az_goto (tgt := 84) C dX12_repair_80 (by decide) (az_keep [true, true, true, true, true, false] (okLX12_repair_84 C hZ30 hZ39))
  have h79 := az_iconst (x := (nI 1)) C dX12_repair_79 (by decide +kernel) h80
  have h76 := az_icmp_gt (tgt := 83) C dX12_repair_76 (by decide) (az_keep [true, true, true, true, true, false] (okLX12_repair_83 C hZ30 hZ39)) h79
  have h75 := az_iload_n C 2 rfl dX12_repair_75 h76
  have h74 := az_iald C dX12_repair_74 h75
  have h73 := az_iadd C dX12_repair_73 h74
  have h72 := az_iconst (x := (nI 1)) C dX12_repair_72 (by decide +kernel) h73
  have h71 := az_iadd C dX12_repair_71 h72
  have h70 := az_imul C dX12_repair_70 h71
  have h68 := az_iload C dX12_repair_68 h70
  have h67 := az_iconst (x := (nI 3)) C dX12_repair_67 (by decide +kernel) h68
  have h64 := az_sipush (x := (nI 133)) C dX12_repair_64 (by decide +kernel) h67
  have h61 := az_getR (T := TX12) (N := 33) (j := 0) C gwRX12 rfl (by decide) (by decide) iIRX12_0 mFRX12_9 rfl dX12_repair_61 h64
  have h60 := az_aload_n C 0 rfl dX12_repair_60 h61
  have h57 := az_if_ge (tgt := 83) C dX12_repair_57 (by decide) (az_keep [true, true, true, true, true, false] (okLX12_repair_83 C hZ30 hZ39)) h60
  have h56 := az_iald C dX12_repair_56 h57
  have h54 := az_iload C dX12_repair_54 h56
  have h51 := az_getR (T := TX12) (N := 33) (j := 6) C gwRX12 rfl (by decide) (by decide) iIRX12_6 mFRX12_19 rfl dX12_repair_51 h54
  have h50 := az_aload_n C 0 rfl dX12_repair_50 h51
  have h47 := az_icmp_ge (tgt := 122) C dX12_repair_47 (by decide) h122 h50
  have h46 := az_iald C dX12_repair_46 h47
  have h45 := az_iconst (x := (nI 3)) C dX12_repair_45 (by decide +kernel) h46
  have h42 := az_getR (T := TX12) (N := 33) (j := 0) C gwRX12 rfl (by decide) (by decide) iIRX12_0 mFRX12_9 rfl dX12_repair_42 h45
  have h41 := az_aload_n C 0 rfl dX12_repair_41 h42
  have h39 := az_iload C dX12_repair_39 h41
  exact h39
def LX12_repair_39 (Q : Option Value → az_M → Prop) (Z30 : az_T) : az_T := s_lp (fun Z => BX12_repair_39 Q Z30 Z)
theorem okLX12_repair_39 {X : az_X} {Q : Option Value → az_M → Prop} (C : az_C X cX12_repair 6 RX12 (az_ts yX12_repair cX12_repair 6 none) ({ frames := 4, cells := 0, slots := 0, locals := 165 } : Room) none Q) {Z30 : az_T} (hZ30 : az_ok X 30 Z30) : az_ok X 39 (LX12_repair_39 Q Z30) := az_loop (F := fun Z => BX12_repair_39 Q Z30 Z) (fun _ hZ => okBX12_repair_39 C hZ30 hZ)
def BX12_repair_30 (Q : Option Value → az_M → Prop) (Z30 : az_T) : az_T := (s_li 1 (s_if c_le (s_rv Q) (s_ic (-1) (s_si 3 (s_ic (nI 0) (s_si 4 (s_kp [true, true, true, true, true, false] (LX12_repair_39 Q Z30))))))))
theorem okBX12_repair_30 {X : az_X} {Q : Option Value → az_M → Prop} (C : az_C X cX12_repair 6 RX12 (az_ts yX12_repair cX12_repair 6 none) ({ frames := 4, cells := 0, slots := 0, locals := 165 } : Room) none Q) {Z30 : az_T} (hZ30 : az_ok X 30 Z30) : az_ok X 30 (BX12_repair_30 Q Z30) := by
  have h162 := az_vreturn C rfl dX12_repair_162
  have h37 := az_istore C (by decide) dX12_repair_37 (az_keep [true, true, true, true, true, false] (okLX12_repair_39 C hZ30))
  have h36 := az_iconst (x := (nI 0)) C dX12_repair_36 (by decide +kernel) h37
  have h35 := az_istore_n C 3 rfl (by decide) dX12_repair_35 h36
  have h34 := az_iconst (x := (-1)) C dX12_repair_34 (by decide +kernel) h35
  have h31 := az_if_le (tgt := 162) C dX12_repair_31 (by decide) h162 h34
  have h30 := az_iload_n C 1 rfl dX12_repair_30 h31
  exact h30
def LX12_repair_30 (Q : Option Value → az_M → Prop) : az_T := s_lp (fun Z => BX12_repair_30 Q Z)
theorem okLX12_repair_30 {X : az_X} {Q : Option Value → az_M → Prop} (C : az_C X cX12_repair 6 RX12 (az_ts yX12_repair cX12_repair 6 none) ({ frames := 4, cells := 0, slots := 0, locals := 165 } : Room) none Q) : az_ok X 30 (LX12_repair_30 Q) := az_loop (F := fun Z => BX12_repair_30 Q Z) (fun _ hZ => okBX12_repair_30 C hZ)
def BX12_repair_2 (Q : Option Value → az_M → Prop) (Z2 : az_T) : az_T := (s_li 1 (s_ic (nI 6) (s_if2 d_ge (s_la 0 (s_gr 13 0 (s_ic (nI 3) (s_al 20 (s_si 1 (s_ic (nI 0) (s_si 2 (s_kp [true, true, true, false, false, false] (LX12_repair_30 Q))))))))) (s_la 0 (s_gr 13 6 (s_li 1 (s_ic (-1) (s_as (s_inc 1 (nI 1) (s_kp [true, true, false, false, false, false] Z2))))))))))
theorem okBX12_repair_2 {X : az_X} {Q : Option Value → az_M → Prop} (C : az_C X cX12_repair 6 RX12 (az_ts yX12_repair cX12_repair 6 none) ({ frames := 4, cells := 0, slots := 0, locals := 165 } : Room) none Q) {Z2 : az_T} (hZ2 : az_ok X 2 Z2) : az_ok X 2 (BX12_repair_2 Q Z2) := by
  have h29 := az_istore_n C 2 rfl (by decide) dX12_repair_29 (az_keep [true, true, true, false, false, false] (okLX12_repair_30 C))
  have h28 := az_iconst (x := (nI 0)) C dX12_repair_28 (by decide +kernel) h29
  have h27 := az_istore_n C 1 rfl (by decide) dX12_repair_27 h28
  have h26 := az_iald C dX12_repair_26 h27
  have h25 := az_iconst (x := (nI 3)) C dX12_repair_25 (by decide +kernel) h26
  have h22 := az_getR (T := TX12) (N := 33) (j := 0) C gwRX12 rfl (by decide) (by decide) iIRX12_0 mFRX12_9 rfl dX12_repair_22 h25
  have h21 := az_aload_n C 0 rfl dX12_repair_21 h22
  have h18 := az_goto (tgt := 2) C dX12_repair_18 (by decide) (az_keep [true, true, false, false, false, false] hZ2)
  have h15 := az_iinc (v := (nI 1)) C (by decide) (by decide +kernel) dX12_repair_15 h18
  have h14 := az_iast C dX12_repair_14 h15
  have h13 := az_iconst (x := (-1)) C dX12_repair_13 (by decide +kernel) h14
  have h12 := az_iload_n C 1 rfl dX12_repair_12 h13
  have h9 := az_getR (T := TX12) (N := 33) (j := 6) C gwRX12 rfl (by decide) (by decide) iIRX12_6 mFRX12_19 rfl dX12_repair_9 h12
  have h8 := az_aload_n C 0 rfl dX12_repair_8 h9
  have h5 := az_icmp_ge (tgt := 21) C dX12_repair_5 (by decide) h21 h8
  have h3 := az_bipush (x := (nI 6)) C dX12_repair_3 (by decide +kernel) h5
  have h2 := az_iload_n C 1 rfl dX12_repair_2 h3
  exact h2
def LX12_repair_2 (Q : Option Value → az_M → Prop) : az_T := s_lp (fun Z => BX12_repair_2 Q Z)
theorem okLX12_repair_2 {X : az_X} {Q : Option Value → az_M → Prop} (C : az_C X cX12_repair 6 RX12 (az_ts yX12_repair cX12_repair 6 none) ({ frames := 4, cells := 0, slots := 0, locals := 165 } : Room) none Q) : az_ok X 2 (LX12_repair_2 Q) := az_loop (F := fun Z => BX12_repair_2 Q Z) (fun _ hZ => okBX12_repair_2 C hZ)
def PX12_repair (Q : Option Value → az_M → Prop) : az_T := (s_ic (nI 0) (s_si 1 (s_kp [true, true, false, false, false, false] (LX12_repair_2 Q))))
def FX12_repair : az_F := az_fun [true] 6 PX12_repair
theorem okX12_repair (l : Launch) : az_met l yX12_repair cX12_repair 6 none ({ frames := 4, cells := 0, slots := 0, locals := 165 } : Room) FX12_repair := az_met_of (own := RX12) (by decide +kernel) rfl (by decide) (fun X Q C => by
  have h1 := az_istore_n C 1 rfl (by decide) dX12_repair_1 (az_keep [true, true, false, false, false, false] (okLX12_repair_2 C))
  have h0 := az_iconst (x := (nI 0)) C dX12_repair_0 (by decide +kernel) h1
  exact h0) l
theorem dX12_endOf_0 : decode cX12_endOf 0 = .ok (.aload_n 0, 1) := by decide +kernel
theorem dX12_endOf_1 : decode cX12_endOf 1 = .ok (.getfield 19, 3) := by decide +kernel
theorem dX12_endOf_4 : decode cX12_endOf 4 = .ok (.iload_n 1, 1) := by decide +kernel
theorem dX12_endOf_5 : decode cX12_endOf 5 = .ok (.iaload, 1) := by decide +kernel
theorem dX12_endOf_6 : decode cX12_endOf 6 = .ok (.aload_n 0, 1) := by decide +kernel
theorem dX12_endOf_7 : decode cX12_endOf 7 = .ok (.getfield 9, 3) := by decide +kernel
theorem dX12_endOf_10 : decode cX12_endOf 10 = .ok (.sipush 133, 3) := by decide +kernel
theorem dX12_endOf_13 : decode cX12_endOf 13 = .ok (.iconst 3, 1) := by decide +kernel
theorem dX12_endOf_14 : decode cX12_endOf 14 = .ok (.iload_n 1, 1) := by decide +kernel
theorem dX12_endOf_15 : decode cX12_endOf 15 = .ok (.imul, 1) := by decide +kernel
theorem dX12_endOf_16 : decode cX12_endOf 16 = .ok (.iadd, 1) := by decide +kernel
theorem dX12_endOf_17 : decode cX12_endOf 17 = .ok (.iconst 2, 1) := by decide +kernel
theorem dX12_endOf_18 : decode cX12_endOf 18 = .ok (.iadd, 1) := by decide +kernel
theorem dX12_endOf_19 : decode cX12_endOf 19 = .ok (.iaload, 1) := by decide +kernel
theorem dX12_endOf_20 : decode cX12_endOf 20 = .ok (.iadd, 1) := by decide +kernel
theorem dX12_endOf_21 : decode cX12_endOf 21 = .ok (.iconst 1, 1) := by decide +kernel
theorem dX12_endOf_22 : decode cX12_endOf 22 = .ok (.isub, 1) := by decide +kernel
theorem dX12_endOf_23 : decode cX12_endOf 23 = .ok (.ireturn, 1) := by decide +kernel
def PX12_endOf (Q : Option Value → az_M → Prop) : az_T := (s_la 0 (s_gr 13 6 (s_li 1 (s_al 20 (s_la 0 (s_gr 13 0 (s_ic (nI 133) (s_ic (nI 3) (s_li 1 (s_bin f_mul (s_bin f_add (s_ic (nI 2) (s_bin f_add (s_al 20 (s_bin f_add (s_ic (nI 1) (s_bin f_sub (s_ri Q))))))))))))))))))
def FX12_endOf : az_F := az_fun [true, false] 2 PX12_endOf
theorem okX12_endOf (l : Launch) : az_met l yX12_endOf cX12_endOf 2 (some .int) ({ frames := 1, cells := 0, slots := 0, locals := 100 } : Room) FX12_endOf := az_met_of (own := RX12) (by decide +kernel) rfl (by decide) (fun X Q C => by
  have h23 := az_ireturn C rfl dX12_endOf_23
  have h22 := az_isub C dX12_endOf_22 h23
  have h21 := az_iconst (x := (nI 1)) C dX12_endOf_21 (by decide +kernel) h22
  have h20 := az_iadd C dX12_endOf_20 h21
  have h19 := az_iald C dX12_endOf_19 h20
  have h18 := az_iadd C dX12_endOf_18 h19
  have h17 := az_iconst (x := (nI 2)) C dX12_endOf_17 (by decide +kernel) h18
  have h16 := az_iadd C dX12_endOf_16 h17
  have h15 := az_imul C dX12_endOf_15 h16
  have h14 := az_iload_n C 1 rfl dX12_endOf_14 h15
  have h13 := az_iconst (x := (nI 3)) C dX12_endOf_13 (by decide +kernel) h14
  have h10 := az_sipush (x := (nI 133)) C dX12_endOf_10 (by decide +kernel) h13
  have h7 := az_getR (T := TX12) (N := 33) (j := 0) C gwRX12 rfl (by decide) (by decide) iIRX12_0 mFRX12_9 rfl dX12_endOf_7 h10
  have h6 := az_aload_n C 0 rfl dX12_endOf_6 h7
  have h5 := az_iald C dX12_endOf_5 h6
  have h4 := az_iload_n C 1 rfl dX12_endOf_4 h5
  have h1 := az_getR (T := TX12) (N := 33) (j := 6) C gwRX12 rfl (by decide) (by decide) iIRX12_6 mFRX12_19 rfl dX12_endOf_1 h4
  have h0 := az_aload_n C 0 rfl dX12_endOf_0 h1
  exact h0) l
theorem dX12_isAvailable_0 : decode cX12_isAvailable 0 = .ok (.iconst 1, 1) := by decide +kernel
theorem dX12_isAvailable_1 : decode cX12_isAvailable 1 = .ok (.istore_n 3, 1) := by decide +kernel
theorem dX12_isAvailable_2 : decode cX12_isAvailable 2 = .ok (.iconst 0, 1) := by decide +kernel
theorem dX12_isAvailable_3 : decode cX12_isAvailable 3 = .ok (.istore 4, 2) := by decide +kernel
theorem dX12_isAvailable_5 : decode cX12_isAvailable 5 = .ok (.iload 4, 2) := by decide +kernel
theorem dX12_isAvailable_7 : decode cX12_isAvailable 7 = .ok (.aload_n 0, 1) := by decide +kernel
theorem dX12_isAvailable_8 : decode cX12_isAvailable 8 = .ok (.getfield 9, 3) := by decide +kernel
theorem dX12_isAvailable_11 : decode cX12_isAvailable 11 = .ok (.iconst 3, 1) := by decide +kernel
theorem dX12_isAvailable_12 : decode cX12_isAvailable 12 = .ok (.iaload, 1) := by decide +kernel
theorem dX12_isAvailable_13 : decode cX12_isAvailable 13 = .ok (.if_icmp .ge 64, 3) := by decide +kernel
theorem dX12_isAvailable_16 : decode cX12_isAvailable 16 = .ok (.iload_n 3, 1) := by decide +kernel
theorem dX12_isAvailable_17 : decode cX12_isAvailable 17 = .ok (.ifCond .eq 52, 3) := by decide +kernel
theorem dX12_isAvailable_20 : decode cX12_isAvailable 20 = .ok (.aload_n 0, 1) := by decide +kernel
theorem dX12_isAvailable_21 : decode cX12_isAvailable 21 = .ok (.getfield 9, 3) := by decide +kernel
theorem dX12_isAvailable_24 : decode cX12_isAvailable 24 = .ok (.sipush 133, 3) := by decide +kernel
theorem dX12_isAvailable_27 : decode cX12_isAvailable 27 = .ok (.iconst 3, 1) := by decide +kernel
theorem dX12_isAvailable_28 : decode cX12_isAvailable 28 = .ok (.iload 4, 2) := by decide +kernel
theorem dX12_isAvailable_30 : decode cX12_isAvailable 30 = .ok (.imul, 1) := by decide +kernel
theorem dX12_isAvailable_31 : decode cX12_isAvailable 31 = .ok (.iadd, 1) := by decide +kernel
theorem dX12_isAvailable_32 : decode cX12_isAvailable 32 = .ok (.iaload, 1) := by decide +kernel
theorem dX12_isAvailable_33 : decode cX12_isAvailable 33 = .ok (.iload_n 1, 1) := by decide +kernel
theorem dX12_isAvailable_34 : decode cX12_isAvailable 34 = .ok (.if_icmp .ne 31, 3) := by decide +kernel
theorem dX12_isAvailable_37 : decode cX12_isAvailable 37 = .ok (.iload_n 2, 1) := by decide +kernel
theorem dX12_isAvailable_38 : decode cX12_isAvailable 38 = .ok (.aload_n 0, 1) := by decide +kernel
theorem dX12_isAvailable_39 : decode cX12_isAvailable 39 = .ok (.getfield 9, 3) := by decide +kernel
theorem dX12_isAvailable_42 : decode cX12_isAvailable 42 = .ok (.sipush 133, 3) := by decide +kernel
theorem dX12_isAvailable_45 : decode cX12_isAvailable 45 = .ok (.iconst 3, 1) := by decide +kernel
theorem dX12_isAvailable_46 : decode cX12_isAvailable 46 = .ok (.iload 4, 2) := by decide +kernel
theorem dX12_isAvailable_48 : decode cX12_isAvailable 48 = .ok (.imul, 1) := by decide +kernel
theorem dX12_isAvailable_49 : decode cX12_isAvailable 49 = .ok (.iadd, 1) := by decide +kernel
theorem dX12_isAvailable_50 : decode cX12_isAvailable 50 = .ok (.iconst 1, 1) := by decide +kernel
theorem dX12_isAvailable_51 : decode cX12_isAvailable 51 = .ok (.iadd, 1) := by decide +kernel
theorem dX12_isAvailable_52 : decode cX12_isAvailable 52 = .ok (.iaload, 1) := by decide +kernel
theorem dX12_isAvailable_53 : decode cX12_isAvailable 53 = .ok (.aload_n 0, 1) := by decide +kernel
theorem dX12_isAvailable_54 : decode cX12_isAvailable 54 = .ok (.iload 4, 2) := by decide +kernel
theorem dX12_isAvailable_56 : decode cX12_isAvailable 56 = .ok (.invokevirtual 151, 3) := by decide +kernel
theorem dX12_isAvailable_59 : decode cX12_isAvailable 59 = .ok (.invokestatic 92, 3) := by decide +kernel
theorem dX12_isAvailable_62 : decode cX12_isAvailable 62 = .ok (.ifCond .ne 7, 3) := by decide +kernel
theorem dX12_isAvailable_65 : decode cX12_isAvailable 65 = .ok (.iconst 1, 1) := by decide +kernel
theorem dX12_isAvailable_66 : decode cX12_isAvailable 66 = .ok (.goto 4, 3) := by decide +kernel
theorem dX12_isAvailable_69 : decode cX12_isAvailable 69 = .ok (.iconst 0, 1) := by decide +kernel
theorem dX12_isAvailable_70 : decode cX12_isAvailable 70 = .ok (.istore_n 3, 1) := by decide +kernel
theorem dX12_isAvailable_71 : decode cX12_isAvailable 71 = .ok (.iinc 4 1, 3) := by decide +kernel
theorem dX12_isAvailable_74 : decode cX12_isAvailable 74 = .ok (.goto (-69), 3) := by decide +kernel
theorem dX12_isAvailable_77 : decode cX12_isAvailable 77 = .ok (.iload_n 3, 1) := by decide +kernel
theorem dX12_isAvailable_78 : decode cX12_isAvailable 78 = .ok (.ireturn, 1) := by decide +kernel
def LX12_isAvailable_70 (Q : Option Value → az_M → Prop) (Z5 : az_T) : az_T := (s_si 3 (s_inc 4 (nI 1) (s_kp [true, true, true, true, true] Z5)))
theorem okLX12_isAvailable_70 {X : az_X} {Q : Option Value → az_M → Prop} (C : az_C X cX12_isAvailable 5 RX12 (az_ts yX12_isAvailable cX12_isAvailable 5 (some .boolean)) ({ frames := 2, cells := 0, slots := 0, locals := 122 } : Room) (some .boolean) Q) {Z5 : az_T} (hZ5 : az_ok X 5 Z5) : az_ok X 70 (LX12_isAvailable_70 Q Z5) := by
  have h74 := az_goto (tgt := 5) C dX12_isAvailable_74 (by decide) (az_keep [true, true, true, true, true] hZ5)
  have h71 := az_iinc (v := (nI 1)) C (by decide) (by decide +kernel) dX12_isAvailable_71 h74
  have h70 := az_istore_n C 3 rfl (by decide) dX12_isAvailable_70 h71
  exact h70
def LX12_isAvailable_69 (Q : Option Value → az_M → Prop) (Z5 : az_T) : az_T := (s_ic (nI 0) (s_kp [true, true, true, false, true] (LX12_isAvailable_70 Q Z5)))
theorem okLX12_isAvailable_69 {X : az_X} {Q : Option Value → az_M → Prop} (C : az_C X cX12_isAvailable 5 RX12 (az_ts yX12_isAvailable cX12_isAvailable 5 (some .boolean)) ({ frames := 2, cells := 0, slots := 0, locals := 122 } : Room) (some .boolean) Q) {Z5 : az_T} (hZ5 : az_ok X 5 Z5) : az_ok X 69 (LX12_isAvailable_69 Q Z5) := by
  have h69 := az_iconst (x := (nI 0)) C dX12_isAvailable_69 (by decide +kernel) (az_keep [true, true, true, false, true] (okLX12_isAvailable_70 C hZ5))
  exact h69
def LX12_isAvailable_65 (Q : Option Value → az_M → Prop) (Z5 : az_T) : az_T := (s_ic (nI 1) (s_kp [true, true, true, false, true] (LX12_isAvailable_70 Q Z5)))
theorem okLX12_isAvailable_65 {X : az_X} {Q : Option Value → az_M → Prop} (C : az_C X cX12_isAvailable 5 RX12 (az_ts yX12_isAvailable cX12_isAvailable 5 (some .boolean)) ({ frames := 2, cells := 0, slots := 0, locals := 122 } : Room) (some .boolean) Q) {Z5 : az_T} (hZ5 : az_ok X 5 Z5) : az_ok X 65 (LX12_isAvailable_65 Q Z5) := by
  have h66 := az_goto (tgt := 70) C dX12_isAvailable_66 (by decide) (az_keep [true, true, true, false, true] (okLX12_isAvailable_70 C hZ5))
  have h65 := az_iconst (x := (nI 1)) C dX12_isAvailable_65 (by decide +kernel) h66
  exact h65
def BX12_isAvailable_5 (Q : Option Value → az_M → Prop) (Z5 : az_T) : az_T := (s_li 4 (s_la 0 (s_gr 13 0 (s_ic (nI 3) (s_al 20 (s_if2 d_ge (s_li 3 (s_rz Q)) (s_li 3 (s_if c_eq (s_kp [true, true, true, false, true] (LX12_isAvailable_69 Q Z5)) (s_la 0 (s_gr 13 0 (s_ic (nI 133) (s_ic (nI 3) (s_li 4 (s_bin f_mul (s_bin f_add (s_al 20 (s_li 1 (s_if2 d_ne (s_kp [true, true, true, false, true] (LX12_isAvailable_65 Q Z5)) (s_li 2 (s_la 0 (s_gr 13 0 (s_ic (nI 133) (s_ic (nI 3) (s_li 4 (s_bin f_mul (s_bin f_add (s_ic (nI 1) (s_bin f_add (s_al 20 (s_la 0 (s_li 4 (s_cv 1 13 FX12_endOf (s_cs 3 FX12_in (s_if c_ne (s_kp [true, true, true, false, true] (LX12_isAvailable_69 Q Z5)) (s_kp [true, true, true, false, true] (LX12_isAvailable_65 Q Z5))))))))))))))))))))))))))))))))))))
theorem okBX12_isAvailable_5 {X : az_X} {Q : Option Value → az_M → Prop} (C : az_C X cX12_isAvailable 5 RX12 (az_ts yX12_isAvailable cX12_isAvailable 5 (some .boolean)) ({ frames := 2, cells := 0, slots := 0, locals := 122 } : Room) (some .boolean) Q) {Z5 : az_T} (hZ5 : az_ok X 5 Z5) : az_ok X 5 (BX12_isAvailable_5 Q Z5) := by
  have h78 := az_zreturn C rfl dX12_isAvailable_78
  have h77 := az_iload_n C 3 rfl dX12_isAvailable_77 h78
  have h62 := az_if_ne (tgt := 69) C dX12_isAvailable_62 (by decide) (az_keep [true, true, true, false, true] (okLX12_isAvailable_69 C hZ5)) (az_keep [true, true, true, false, true] (okLX12_isAvailable_65 C hZ5))
  have h59 := az_callS C okX12_in knX12_in stX12_in mLRX12_92 ⟨rfl, rfl, by decide, by decide⟩ dX12_isAvailable_59 h62
  have h56 := az_callV (ci := 13) C okX12_endOf knX12_endOf imX12_endOf seX12_endOf mLRX12_151 rfl (by decide) ⟨rfl, rfl, by decide, by decide⟩ dX12_isAvailable_56 h59
  have h54 := az_iload C dX12_isAvailable_54 h56
  have h53 := az_aload_n C 0 rfl dX12_isAvailable_53 h54
  have h52 := az_iald C dX12_isAvailable_52 h53
  have h51 := az_iadd C dX12_isAvailable_51 h52
  have h50 := az_iconst (x := (nI 1)) C dX12_isAvailable_50 (by decide +kernel) h51
  have h49 := az_iadd C dX12_isAvailable_49 h50
  have h48 := az_imul C dX12_isAvailable_48 h49
  have h46 := az_iload C dX12_isAvailable_46 h48
  have h45 := az_iconst (x := (nI 3)) C dX12_isAvailable_45 (by decide +kernel) h46
  have h42 := az_sipush (x := (nI 133)) C dX12_isAvailable_42 (by decide +kernel) h45
  have h39 := az_getR (T := TX12) (N := 33) (j := 0) C gwRX12 rfl (by decide) (by decide) iIRX12_0 mFRX12_9 rfl dX12_isAvailable_39 h42
  have h38 := az_aload_n C 0 rfl dX12_isAvailable_38 h39
  have h37 := az_iload_n C 2 rfl dX12_isAvailable_37 h38
  have h34 := az_icmp_ne (tgt := 65) C dX12_isAvailable_34 (by decide) (az_keep [true, true, true, false, true] (okLX12_isAvailable_65 C hZ5)) h37
  have h33 := az_iload_n C 1 rfl dX12_isAvailable_33 h34
  have h32 := az_iald C dX12_isAvailable_32 h33
  have h31 := az_iadd C dX12_isAvailable_31 h32
  have h30 := az_imul C dX12_isAvailable_30 h31
  have h28 := az_iload C dX12_isAvailable_28 h30
  have h27 := az_iconst (x := (nI 3)) C dX12_isAvailable_27 (by decide +kernel) h28
  have h24 := az_sipush (x := (nI 133)) C dX12_isAvailable_24 (by decide +kernel) h27
  have h21 := az_getR (T := TX12) (N := 33) (j := 0) C gwRX12 rfl (by decide) (by decide) iIRX12_0 mFRX12_9 rfl dX12_isAvailable_21 h24
  have h20 := az_aload_n C 0 rfl dX12_isAvailable_20 h21
  have h17 := az_if_eq (tgt := 69) C dX12_isAvailable_17 (by decide) (az_keep [true, true, true, false, true] (okLX12_isAvailable_69 C hZ5)) h20
  have h16 := az_iload_n C 3 rfl dX12_isAvailable_16 h17
  have h13 := az_icmp_ge (tgt := 77) C dX12_isAvailable_13 (by decide) h77 h16
  have h12 := az_iald C dX12_isAvailable_12 h13
  have h11 := az_iconst (x := (nI 3)) C dX12_isAvailable_11 (by decide +kernel) h12
  have h8 := az_getR (T := TX12) (N := 33) (j := 0) C gwRX12 rfl (by decide) (by decide) iIRX12_0 mFRX12_9 rfl dX12_isAvailable_8 h11
  have h7 := az_aload_n C 0 rfl dX12_isAvailable_7 h8
  have h5 := az_iload C dX12_isAvailable_5 h7
  exact h5
def LX12_isAvailable_5 (Q : Option Value → az_M → Prop) : az_T := s_lp (fun Z => BX12_isAvailable_5 Q Z)
theorem okLX12_isAvailable_5 {X : az_X} {Q : Option Value → az_M → Prop} (C : az_C X cX12_isAvailable 5 RX12 (az_ts yX12_isAvailable cX12_isAvailable 5 (some .boolean)) ({ frames := 2, cells := 0, slots := 0, locals := 122 } : Room) (some .boolean) Q) : az_ok X 5 (LX12_isAvailable_5 Q) := az_loop (F := fun Z => BX12_isAvailable_5 Q Z) (fun _ hZ => okBX12_isAvailable_5 C hZ)
def PX12_isAvailable (Q : Option Value → az_M → Prop) : az_T := (s_ic (nI 1) (s_si 3 (s_ic (nI 0) (s_si 4 (s_kp [true, true, true, true, true] (LX12_isAvailable_5 Q))))))
def FX12_isAvailable : az_F := az_fun [true, false, false] 5 PX12_isAvailable
theorem okX12_isAvailable (l : Launch) : az_met l yX12_isAvailable cX12_isAvailable 5 (some .boolean) ({ frames := 2, cells := 0, slots := 0, locals := 122 } : Room) FX12_isAvailable := az_met_of (own := RX12) (by decide +kernel) rfl (by decide) (fun X Q C => by
  have h3 := az_istore C (by decide) dX12_isAvailable_3 (az_keep [true, true, true, true, true] (okLX12_isAvailable_5 C))
  have h2 := az_iconst (x := (nI 0)) C dX12_isAvailable_2 (by decide +kernel) h3
  have h1 := az_istore_n C 3 rfl (by decide) dX12_isAvailable_1 h2
  have h0 := az_iconst (x := (nI 1)) C dX12_isAvailable_0 (by decide +kernel) h1
  exact h0) l
theorem dX12_isPlanned_0 : decode cX12_isPlanned 0 = .ok (.aload_n 0, 1) := by decide +kernel
theorem dX12_isPlanned_1 : decode cX12_isPlanned 1 = .ok (.iload_n 1, 1) := by decide +kernel
theorem dX12_isPlanned_2 : decode cX12_isPlanned 2 = .ok (.bipush 13, 2) := by decide +kernel
theorem dX12_isPlanned_4 : decode cX12_isPlanned 4 = .ok (.invokevirtual 128, 3) := by decide +kernel
theorem dX12_isPlanned_7 : decode cX12_isPlanned 7 = .ok (.iload_n 2, 1) := by decide +kernel
theorem dX12_isPlanned_8 : decode cX12_isPlanned 8 = .ok (.ishr, 1) := by decide +kernel
theorem dX12_isPlanned_9 : decode cX12_isPlanned 9 = .ok (.iconst 1, 1) := by decide +kernel
theorem dX12_isPlanned_10 : decode cX12_isPlanned 10 = .ok (.iand, 1) := by decide +kernel
theorem dX12_isPlanned_11 : decode cX12_isPlanned 11 = .ok (.iconst 1, 1) := by decide +kernel
theorem dX12_isPlanned_12 : decode cX12_isPlanned 12 = .ok (.if_icmp .ne 7, 3) := by decide +kernel
theorem dX12_isPlanned_15 : decode cX12_isPlanned 15 = .ok (.iconst 1, 1) := by decide +kernel
theorem dX12_isPlanned_16 : decode cX12_isPlanned 16 = .ok (.goto 4, 3) := by decide +kernel
theorem dX12_isPlanned_19 : decode cX12_isPlanned 19 = .ok (.iconst 0, 1) := by decide +kernel
theorem dX12_isPlanned_20 : decode cX12_isPlanned 20 = .ok (.ireturn, 1) := by decide +kernel
def LX12_isPlanned_20 (Q : Option Value → az_M → Prop) : az_T := (s_rz Q)
theorem okLX12_isPlanned_20 {X : az_X} {Q : Option Value → az_M → Prop} (C : az_C X cX12_isPlanned 3 RX12 (az_ts yX12_isPlanned cX12_isPlanned 3 (some .boolean)) ({ frames := 3, cells := 0, slots := 0, locals := 143 } : Room) (some .boolean) Q) : az_ok X 20 (LX12_isPlanned_20 Q) := by
  have h20 := az_zreturn C rfl dX12_isPlanned_20
  exact h20
def PX12_isPlanned (Q : Option Value → az_M → Prop) : az_T := (s_la 0 (s_li 1 (s_ic (nI 13) (s_cv 2 13 FX12_of (s_li 2 (s_bin f_shr (s_ic (nI 1) (s_bin f_and (s_ic (nI 1) (s_if2 d_ne (s_ic (nI 0) (s_kp [false, false, false] (LX12_isPlanned_20 Q))) (s_ic (nI 1) (s_kp [false, false, false] (LX12_isPlanned_20 Q)))))))))))))
def FX12_isPlanned : az_F := az_fun [true, false, false] 3 PX12_isPlanned
theorem okX12_isPlanned (l : Launch) : az_met l yX12_isPlanned cX12_isPlanned 3 (some .boolean) ({ frames := 3, cells := 0, slots := 0, locals := 143 } : Room) FX12_isPlanned := az_met_of (own := RX12) (by decide +kernel) rfl (by decide) (fun X Q C => by
  have h19 := az_iconst (x := (nI 0)) C dX12_isPlanned_19 (by decide +kernel) (az_keep [false, false, false] (okLX12_isPlanned_20 C))
  have h16 := az_goto (tgt := 20) C dX12_isPlanned_16 (by decide) (az_keep [false, false, false] (okLX12_isPlanned_20 C))
  have h15 := az_iconst (x := (nI 1)) C dX12_isPlanned_15 (by decide +kernel) h16
  have h12 := az_icmp_ne (tgt := 19) C dX12_isPlanned_12 (by decide) h19 h15
  have h11 := az_iconst (x := (nI 1)) C dX12_isPlanned_11 (by decide +kernel) h12
  have h10 := az_iand C dX12_isPlanned_10 h11
  have h9 := az_iconst (x := (nI 1)) C dX12_isPlanned_9 (by decide +kernel) h10
  have h8 := az_ishr C dX12_isPlanned_8 h9
  have h7 := az_iload_n C 2 rfl dX12_isPlanned_7 h8
  have h4 := az_callV (ci := 13) C okX12_of knX12_of imX12_of seX12_of mLRX12_128 rfl (by decide) ⟨rfl, rfl, by decide, by decide⟩ dX12_isPlanned_4 h7
  have h2 := az_bipush (x := (nI 13)) C dX12_isPlanned_2 (by decide +kernel) h4
  have h1 := az_iload_n C 1 rfl dX12_isPlanned_1 h2
  have h0 := az_aload_n C 0 rfl dX12_isPlanned_0 h1
  exact h0) l
theorem dX12_lookBack_0 : decode cX12_lookBack 0 = .ok (.bipush 6, 2) := by decide +kernel
theorem dX12_lookBack_2 : decode cX12_lookBack 2 = .ok (.iload_n 2, 1) := by decide +kernel
theorem dX12_lookBack_3 : decode cX12_lookBack 3 = .ok (.imul, 1) := by decide +kernel
theorem dX12_lookBack_4 : decode cX12_lookBack 4 = .ok (.iload_n 1, 1) := by decide +kernel
theorem dX12_lookBack_5 : decode cX12_lookBack 5 = .ok (.iadd, 1) := by decide +kernel
theorem dX12_lookBack_6 : decode cX12_lookBack 6 = .ok (.istore_n 3, 1) := by decide +kernel
theorem dX12_lookBack_7 : decode cX12_lookBack 7 = .ok (.iload_n 2, 1) := by decide +kernel
theorem dX12_lookBack_8 : decode cX12_lookBack 8 = .ok (.ifCond .ne 41, 3) := by decide +kernel
theorem dX12_lookBack_11 : decode cX12_lookBack 11 = .ok (.aload_n 0, 1) := by decide +kernel
theorem dX12_lookBack_12 : decode cX12_lookBack 12 = .ok (.getfield 29, 3) := by decide +kernel
theorem dX12_lookBack_15 : decode cX12_lookBack 15 = .ok (.iload_n 3, 1) := by decide +kernel
theorem dX12_lookBack_16 : decode cX12_lookBack 16 = .ok (.iconst 0, 1) := by decide +kernel
theorem dX12_lookBack_17 : decode cX12_lookBack 17 = .ok (.aload_n 0, 1) := by decide +kernel
theorem dX12_lookBack_18 : decode cX12_lookBack 18 = .ok (.iload_n 1, 1) := by decide +kernel
theorem dX12_lookBack_19 : decode cX12_lookBack 19 = .ok (.bipush 6, 2) := by decide +kernel
theorem dX12_lookBack_21 : decode cX12_lookBack 21 = .ok (.invokevirtual 128, 3) := by decide +kernel
theorem dX12_lookBack_24 : decode cX12_lookBack 24 = .ok (.invokestatic 123, 3) := by decide +kernel
theorem dX12_lookBack_27 : decode cX12_lookBack 27 = .ok (.iastore, 1) := by decide +kernel
theorem dX12_lookBack_28 : decode cX12_lookBack 28 = .ok (.aload_n 0, 1) := by decide +kernel
theorem dX12_lookBack_29 : decode cX12_lookBack 29 = .ok (.getfield 32, 3) := by decide +kernel
theorem dX12_lookBack_32 : decode cX12_lookBack 32 = .ok (.iload_n 3, 1) := by decide +kernel
theorem dX12_lookBack_33 : decode cX12_lookBack 33 = .ok (.iconst 0, 1) := by decide +kernel
theorem dX12_lookBack_34 : decode cX12_lookBack 34 = .ok (.aload_n 0, 1) := by decide +kernel
theorem dX12_lookBack_35 : decode cX12_lookBack 35 = .ok (.iload_n 1, 1) := by decide +kernel
theorem dX12_lookBack_36 : decode cX12_lookBack 36 = .ok (.bipush 6, 2) := by decide +kernel
theorem dX12_lookBack_38 : decode cX12_lookBack 38 = .ok (.invokevirtual 128, 3) := by decide +kernel
theorem dX12_lookBack_41 : decode cX12_lookBack 41 = .ok (.ineg, 1) := by decide +kernel
theorem dX12_lookBack_42 : decode cX12_lookBack 42 = .ok (.invokestatic 123, 3) := by decide +kernel
theorem dX12_lookBack_45 : decode cX12_lookBack 45 = .ok (.iastore, 1) := by decide +kernel
theorem dX12_lookBack_46 : decode cX12_lookBack 46 = .ok (.goto 66, 3) := by decide +kernel
theorem dX12_lookBack_49 : decode cX12_lookBack 49 = .ok (.aload_n 0, 1) := by decide +kernel
theorem dX12_lookBack_50 : decode cX12_lookBack 50 = .ok (.getfield 22, 3) := by decide +kernel
theorem dX12_lookBack_53 : decode cX12_lookBack 53 = .ok (.iload_n 3, 1) := by decide +kernel
theorem dX12_lookBack_54 : decode cX12_lookBack 54 = .ok (.bipush 6, 2) := by decide +kernel
theorem dX12_lookBack_56 : decode cX12_lookBack 56 = .ok (.isub, 1) := by decide +kernel
theorem dX12_lookBack_57 : decode cX12_lookBack 57 = .ok (.baload, 1) := by decide +kernel
theorem dX12_lookBack_58 : decode cX12_lookBack 58 = .ok (.istore 4, 2) := by decide +kernel
theorem dX12_lookBack_60 : decode cX12_lookBack 60 = .ok (.aload_n 0, 1) := by decide +kernel
theorem dX12_lookBack_61 : decode cX12_lookBack 61 = .ok (.getfield 29, 3) := by decide +kernel
theorem dX12_lookBack_64 : decode cX12_lookBack 64 = .ok (.iload_n 3, 1) := by decide +kernel
theorem dX12_lookBack_65 : decode cX12_lookBack 65 = .ok (.iload 4, 2) := by decide +kernel
theorem dX12_lookBack_67 : decode cX12_lookBack 67 = .ok (.ifCond .eq 17, 3) := by decide +kernel
theorem dX12_lookBack_70 : decode cX12_lookBack 70 = .ok (.aload_n 0, 1) := by decide +kernel
theorem dX12_lookBack_71 : decode cX12_lookBack 71 = .ok (.getfield 29, 3) := by decide +kernel
theorem dX12_lookBack_74 : decode cX12_lookBack 74 = .ok (.iload_n 3, 1) := by decide +kernel
theorem dX12_lookBack_75 : decode cX12_lookBack 75 = .ok (.bipush 6, 2) := by decide +kernel
theorem dX12_lookBack_77 : decode cX12_lookBack 77 = .ok (.isub, 1) := by decide +kernel
theorem dX12_lookBack_78 : decode cX12_lookBack 78 = .ok (.iaload, 1) := by decide +kernel
theorem dX12_lookBack_79 : decode cX12_lookBack 79 = .ok (.iconst 1, 1) := by decide +kernel
theorem dX12_lookBack_80 : decode cX12_lookBack 80 = .ok (.iadd, 1) := by decide +kernel
theorem dX12_lookBack_81 : decode cX12_lookBack 81 = .ok (.goto 4, 3) := by decide +kernel
theorem dX12_lookBack_84 : decode cX12_lookBack 84 = .ok (.iconst 0, 1) := by decide +kernel
theorem dX12_lookBack_85 : decode cX12_lookBack 85 = .ok (.iastore, 1) := by decide +kernel
theorem dX12_lookBack_86 : decode cX12_lookBack 86 = .ok (.aload_n 0, 1) := by decide +kernel
theorem dX12_lookBack_87 : decode cX12_lookBack 87 = .ok (.getfield 32, 3) := by decide +kernel
theorem dX12_lookBack_90 : decode cX12_lookBack 90 = .ok (.iload_n 3, 1) := by decide +kernel
theorem dX12_lookBack_91 : decode cX12_lookBack 91 = .ok (.iload 4, 2) := by decide +kernel
theorem dX12_lookBack_93 : decode cX12_lookBack 93 = .ok (.ifCond .eq 7, 3) := by decide +kernel
theorem dX12_lookBack_96 : decode cX12_lookBack 96 = .ok (.iconst 0, 1) := by decide +kernel
theorem dX12_lookBack_97 : decode cX12_lookBack 97 = .ok (.goto 14, 3) := by decide +kernel
theorem dX12_lookBack_100 : decode cX12_lookBack 100 = .ok (.aload_n 0, 1) := by decide +kernel
theorem dX12_lookBack_101 : decode cX12_lookBack 101 = .ok (.getfield 32, 3) := by decide +kernel
theorem dX12_lookBack_104 : decode cX12_lookBack 104 = .ok (.iload_n 3, 1) := by decide +kernel
theorem dX12_lookBack_105 : decode cX12_lookBack 105 = .ok (.bipush 6, 2) := by decide +kernel
theorem dX12_lookBack_107 : decode cX12_lookBack 107 = .ok (.isub, 1) := by decide +kernel
theorem dX12_lookBack_108 : decode cX12_lookBack 108 = .ok (.iaload, 1) := by decide +kernel
theorem dX12_lookBack_109 : decode cX12_lookBack 109 = .ok (.iconst 1, 1) := by decide +kernel
theorem dX12_lookBack_110 : decode cX12_lookBack 110 = .ok (.iadd, 1) := by decide +kernel
theorem dX12_lookBack_111 : decode cX12_lookBack 111 = .ok (.iastore, 1) := by decide +kernel
theorem dX12_lookBack_112 : decode cX12_lookBack 112 = .ok (.return_, 1) := by decide +kernel
def LX12_lookBack_112 (Q : Option Value → az_M → Prop) : az_T := (s_rv Q)
theorem okLX12_lookBack_112 {X : az_X} {Q : Option Value → az_M → Prop} (C : az_C X cX12_lookBack 5 RX12 (az_ts yX12_lookBack cX12_lookBack 5 none) ({ frames := 3, cells := 0, slots := 0, locals := 143 } : Room) none Q) : az_ok X 112 (LX12_lookBack_112 Q) := by
  have h112 := az_vreturn C rfl dX12_lookBack_112
  exact h112
def LX12_lookBack_111 (Q : Option Value → az_M → Prop) : az_T := (s_as (s_kp [false, false, false, false, false] (LX12_lookBack_112 Q)))
theorem okLX12_lookBack_111 {X : az_X} {Q : Option Value → az_M → Prop} (C : az_C X cX12_lookBack 5 RX12 (az_ts yX12_lookBack cX12_lookBack 5 none) ({ frames := 3, cells := 0, slots := 0, locals := 143 } : Room) none Q) : az_ok X 111 (LX12_lookBack_111 Q) := by
  have h111 := az_iast C dX12_lookBack_111 (az_keep [false, false, false, false, false] (okLX12_lookBack_112 C))
  exact h111
def LX12_lookBack_85 (Q : Option Value → az_M → Prop) : az_T := (s_as (s_la 0 (s_gr 13 11 (s_li 3 (s_li 4 (s_if c_eq (s_la 0 (s_gr 13 11 (s_li 3 (s_ic (nI 6) (s_bin f_sub (s_al 20 (s_ic (nI 1) (s_bin f_add (s_kp [false, false, false, false, false] (LX12_lookBack_111 Q)))))))))) (s_ic (nI 0) (s_kp [false, false, false, false, false] (LX12_lookBack_111 Q)))))))))
theorem okLX12_lookBack_85 {X : az_X} {Q : Option Value → az_M → Prop} (C : az_C X cX12_lookBack 5 RX12 (az_ts yX12_lookBack cX12_lookBack 5 none) ({ frames := 3, cells := 0, slots := 0, locals := 143 } : Room) none Q) : az_ok X 85 (LX12_lookBack_85 Q) := by
  have h110 := az_iadd C dX12_lookBack_110 (az_keep [false, false, false, false, false] (okLX12_lookBack_111 C))
  have h109 := az_iconst (x := (nI 1)) C dX12_lookBack_109 (by decide +kernel) h110
  have h108 := az_iald C dX12_lookBack_108 h109
  have h107 := az_isub C dX12_lookBack_107 h108
  have h105 := az_bipush (x := (nI 6)) C dX12_lookBack_105 (by decide +kernel) h107
  have h104 := az_iload_n C 3 rfl dX12_lookBack_104 h105
  have h101 := az_getR (T := TX12) (N := 33) (j := 11) C gwRX12 rfl (by decide) (by decide) iIRX12_11 mFRX12_32 rfl dX12_lookBack_101 h104
  have h100 := az_aload_n C 0 rfl dX12_lookBack_100 h101
  have h97 := az_goto (tgt := 111) C dX12_lookBack_97 (by decide) (az_keep [false, false, false, false, false] (okLX12_lookBack_111 C))
  have h96 := az_iconst (x := (nI 0)) C dX12_lookBack_96 (by decide +kernel) h97
  have h93 := az_if_eq (tgt := 100) C dX12_lookBack_93 (by decide) h100 h96
  have h91 := az_iload C dX12_lookBack_91 h93
  have h90 := az_iload_n C 3 rfl dX12_lookBack_90 h91
  have h87 := az_getR (T := TX12) (N := 33) (j := 11) C gwRX12 rfl (by decide) (by decide) iIRX12_11 mFRX12_32 rfl dX12_lookBack_87 h90
  have h86 := az_aload_n C 0 rfl dX12_lookBack_86 h87
  have h85 := az_iast C dX12_lookBack_85 h86
  exact h85
def PX12_lookBack (Q : Option Value → az_M → Prop) : az_T := (s_ic (nI 6) (s_li 2 (s_bin f_mul (s_li 1 (s_bin f_add (s_si 3 (s_li 2 (s_if c_ne (s_la 0 (s_gr 13 8 (s_li 3 (s_ic (nI 6) (s_bin f_sub (s_al 21 (s_si 4 (s_la 0 (s_gr 13 10 (s_li 3 (s_li 4 (s_if c_eq (s_ic (nI 0) (s_kp [true, false, false, true, true] (LX12_lookBack_85 Q))) (s_la 0 (s_gr 13 10 (s_li 3 (s_ic (nI 6) (s_bin f_sub (s_al 20 (s_ic (nI 1) (s_bin f_add (s_kp [true, false, false, true, true] (LX12_lookBack_85 Q)))))))))))))))))))))) (s_la 0 (s_gr 13 10 (s_li 3 (s_ic (nI 0) (s_la 0 (s_li 1 (s_ic (nI 6) (s_cv 2 13 FX12_of (s_mx (s_as (s_la 0 (s_gr 13 11 (s_li 3 (s_ic (nI 0) (s_la 0 (s_li 1 (s_ic (nI 6) (s_cv 2 13 FX12_of (s_un f_neg (s_mx (s_as (s_kp [false, false, false, false, false] (LX12_lookBack_112 Q)))))))))))))))))))))))))))))))
def FX12_lookBack : az_F := az_fun [true, false, false] 5 PX12_lookBack
theorem okX12_lookBack (l : Launch) : az_met l yX12_lookBack cX12_lookBack 5 none ({ frames := 3, cells := 0, slots := 0, locals := 143 } : Room) FX12_lookBack := az_met_of (own := RX12) (by decide +kernel) rfl (by decide) (fun X Q C => by
  have h84 := az_iconst (x := (nI 0)) C dX12_lookBack_84 (by decide +kernel) (az_keep [true, false, false, true, true] (okLX12_lookBack_85 C))
  have h81 := az_goto (tgt := 85) C dX12_lookBack_81 (by decide) (az_keep [true, false, false, true, true] (okLX12_lookBack_85 C))
  have h80 := az_iadd C dX12_lookBack_80 h81
  have h79 := az_iconst (x := (nI 1)) C dX12_lookBack_79 (by decide +kernel) h80
  have h78 := az_iald C dX12_lookBack_78 h79
  have h77 := az_isub C dX12_lookBack_77 h78
  have h75 := az_bipush (x := (nI 6)) C dX12_lookBack_75 (by decide +kernel) h77
  have h74 := az_iload_n C 3 rfl dX12_lookBack_74 h75
  have h71 := az_getR (T := TX12) (N := 33) (j := 10) C gwRX12 rfl (by decide) (by decide) iIRX12_10 mFRX12_29 rfl dX12_lookBack_71 h74
  have h70 := az_aload_n C 0 rfl dX12_lookBack_70 h71
  have h67 := az_if_eq (tgt := 84) C dX12_lookBack_67 (by decide) h84 h70
  have h65 := az_iload C dX12_lookBack_65 h67
  have h64 := az_iload_n C 3 rfl dX12_lookBack_64 h65
  have h61 := az_getR (T := TX12) (N := 33) (j := 10) C gwRX12 rfl (by decide) (by decide) iIRX12_10 mFRX12_29 rfl dX12_lookBack_61 h64
  have h60 := az_aload_n C 0 rfl dX12_lookBack_60 h61
  have h58 := az_istore C (by decide) dX12_lookBack_58 h60
  have h57 := az_zald C dX12_lookBack_57 h58
  have h56 := az_isub C dX12_lookBack_56 h57
  have h54 := az_bipush (x := (nI 6)) C dX12_lookBack_54 (by decide +kernel) h56
  have h53 := az_iload_n C 3 rfl dX12_lookBack_53 h54
  have h50 := az_getR (T := TX12) (N := 33) (j := 8) C gwRX12 rfl (by decide) (by decide) iIRX12_8 mFRX12_22 rfl dX12_lookBack_50 h53
  have h49 := az_aload_n C 0 rfl dX12_lookBack_49 h50
  have h46 := az_goto (tgt := 112) C dX12_lookBack_46 (by decide) (az_keep [false, false, false, false, false] (okLX12_lookBack_112 C))
  have h45 := az_iast C dX12_lookBack_45 h46
  have h42 := az_mmax C mLRX12_123 mx_st_max mx_ini mx_co_max (by decide) (by decide) dX12_lookBack_42 h45
  have h41 := az_ineg C dX12_lookBack_41 h42
  have h38 := az_callV (ci := 13) C okX12_of knX12_of imX12_of seX12_of mLRX12_128 rfl (by decide) ⟨rfl, rfl, by decide, by decide⟩ dX12_lookBack_38 h41
  have h36 := az_bipush (x := (nI 6)) C dX12_lookBack_36 (by decide +kernel) h38
  have h35 := az_iload_n C 1 rfl dX12_lookBack_35 h36
  have h34 := az_aload_n C 0 rfl dX12_lookBack_34 h35
  have h33 := az_iconst (x := (nI 0)) C dX12_lookBack_33 (by decide +kernel) h34
  have h32 := az_iload_n C 3 rfl dX12_lookBack_32 h33
  have h29 := az_getR (T := TX12) (N := 33) (j := 11) C gwRX12 rfl (by decide) (by decide) iIRX12_11 mFRX12_32 rfl dX12_lookBack_29 h32
  have h28 := az_aload_n C 0 rfl dX12_lookBack_28 h29
  have h27 := az_iast C dX12_lookBack_27 h28
  have h24 := az_mmax C mLRX12_123 mx_st_max mx_ini mx_co_max (by decide) (by decide) dX12_lookBack_24 h27
  have h21 := az_callV (ci := 13) C okX12_of knX12_of imX12_of seX12_of mLRX12_128 rfl (by decide) ⟨rfl, rfl, by decide, by decide⟩ dX12_lookBack_21 h24
  have h19 := az_bipush (x := (nI 6)) C dX12_lookBack_19 (by decide +kernel) h21
  have h18 := az_iload_n C 1 rfl dX12_lookBack_18 h19
  have h17 := az_aload_n C 0 rfl dX12_lookBack_17 h18
  have h16 := az_iconst (x := (nI 0)) C dX12_lookBack_16 (by decide +kernel) h17
  have h15 := az_iload_n C 3 rfl dX12_lookBack_15 h16
  have h12 := az_getR (T := TX12) (N := 33) (j := 10) C gwRX12 rfl (by decide) (by decide) iIRX12_10 mFRX12_29 rfl dX12_lookBack_12 h15
  have h11 := az_aload_n C 0 rfl dX12_lookBack_11 h12
  have h8 := az_if_ne (tgt := 49) C dX12_lookBack_8 (by decide) h49 h11
  have h7 := az_iload_n C 2 rfl dX12_lookBack_7 h8
  have h6 := az_istore_n C 3 rfl (by decide) dX12_lookBack_6 h7
  have h5 := az_iadd C dX12_lookBack_5 h6
  have h4 := az_iload_n C 1 rfl dX12_lookBack_4 h5
  have h3 := az_imul C dX12_lookBack_3 h4
  have h2 := az_iload_n C 2 rfl dX12_lookBack_2 h3
  have h0 := az_bipush (x := (nI 6)) C dX12_lookBack_0 (by decide +kernel) h2
  exact h0) l
theorem dX12_ranBefore_0 : decode cX12_ranBefore 0 = .ok (.iload_n 2, 1) := by decide +kernel
theorem dX12_ranBefore_1 : decode cX12_ranBefore 1 = .ok (.ifCond .ne 21, 3) := by decide +kernel
theorem dX12_ranBefore_4 : decode cX12_ranBefore 4 = .ok (.aload_n 0, 1) := by decide +kernel
theorem dX12_ranBefore_5 : decode cX12_ranBefore 5 = .ok (.iload_n 1, 1) := by decide +kernel
theorem dX12_ranBefore_6 : decode cX12_ranBefore 6 = .ok (.bipush 6, 2) := by decide +kernel
theorem dX12_ranBefore_8 : decode cX12_ranBefore 8 = .ok (.invokevirtual 128, 3) := by decide +kernel
theorem dX12_ranBefore_11 : decode cX12_ranBefore 11 = .ok (.ifCond .le 7, 3) := by decide +kernel
theorem dX12_ranBefore_14 : decode cX12_ranBefore 14 = .ok (.iconst 1, 1) := by decide +kernel
theorem dX12_ranBefore_15 : decode cX12_ranBefore 15 = .ok (.goto 20, 3) := by decide +kernel
theorem dX12_ranBefore_18 : decode cX12_ranBefore 18 = .ok (.iconst 0, 1) := by decide +kernel
theorem dX12_ranBefore_19 : decode cX12_ranBefore 19 = .ok (.goto 16, 3) := by decide +kernel
theorem dX12_ranBefore_22 : decode cX12_ranBefore 22 = .ok (.aload_n 0, 1) := by decide +kernel
theorem dX12_ranBefore_23 : decode cX12_ranBefore 23 = .ok (.getfield 22, 3) := by decide +kernel
theorem dX12_ranBefore_26 : decode cX12_ranBefore 26 = .ok (.bipush 6, 2) := by decide +kernel
theorem dX12_ranBefore_28 : decode cX12_ranBefore 28 = .ok (.iload_n 2, 1) := by decide +kernel
theorem dX12_ranBefore_29 : decode cX12_ranBefore 29 = .ok (.iconst 1, 1) := by decide +kernel
theorem dX12_ranBefore_30 : decode cX12_ranBefore 30 = .ok (.isub, 1) := by decide +kernel
theorem dX12_ranBefore_31 : decode cX12_ranBefore 31 = .ok (.imul, 1) := by decide +kernel
theorem dX12_ranBefore_32 : decode cX12_ranBefore 32 = .ok (.iload_n 1, 1) := by decide +kernel
theorem dX12_ranBefore_33 : decode cX12_ranBefore 33 = .ok (.iadd, 1) := by decide +kernel
theorem dX12_ranBefore_34 : decode cX12_ranBefore 34 = .ok (.baload, 1) := by decide +kernel
theorem dX12_ranBefore_35 : decode cX12_ranBefore 35 = .ok (.ireturn, 1) := by decide +kernel
def LX12_ranBefore_35 (Q : Option Value → az_M → Prop) : az_T := (s_rz Q)
theorem okLX12_ranBefore_35 {X : az_X} {Q : Option Value → az_M → Prop} (C : az_C X cX12_ranBefore 3 RX12 (az_ts yX12_ranBefore cX12_ranBefore 3 (some .boolean)) ({ frames := 3, cells := 0, slots := 0, locals := 143 } : Room) (some .boolean) Q) : az_ok X 35 (LX12_ranBefore_35 Q) := by
  have h35 := az_zreturn C rfl dX12_ranBefore_35
  exact h35
def PX12_ranBefore (Q : Option Value → az_M → Prop) : az_T := (s_li 2 (s_if c_ne (s_la 0 (s_gr 13 8 (s_ic (nI 6) (s_li 2 (s_ic (nI 1) (s_bin f_sub (s_bin f_mul (s_li 1 (s_bin f_add (s_al 21 (s_kp [false, false, false] (LX12_ranBefore_35 Q)))))))))))) (s_la 0 (s_li 1 (s_ic (nI 6) (s_cv 2 13 FX12_of (s_if c_le (s_ic (nI 0) (s_kp [false, false, false] (LX12_ranBefore_35 Q))) (s_ic (nI 1) (s_kp [false, false, false] (LX12_ranBefore_35 Q))))))))))
def FX12_ranBefore : az_F := az_fun [true, false, false] 3 PX12_ranBefore
theorem okX12_ranBefore (l : Launch) : az_met l yX12_ranBefore cX12_ranBefore 3 (some .boolean) ({ frames := 3, cells := 0, slots := 0, locals := 143 } : Room) FX12_ranBefore := az_met_of (own := RX12) (by decide +kernel) rfl (by decide) (fun X Q C => by
  have h34 := az_zald C dX12_ranBefore_34 (az_keep [false, false, false] (okLX12_ranBefore_35 C))
  have h33 := az_iadd C dX12_ranBefore_33 h34
  have h32 := az_iload_n C 1 rfl dX12_ranBefore_32 h33
  have h31 := az_imul C dX12_ranBefore_31 h32
  have h30 := az_isub C dX12_ranBefore_30 h31
  have h29 := az_iconst (x := (nI 1)) C dX12_ranBefore_29 (by decide +kernel) h30
  have h28 := az_iload_n C 2 rfl dX12_ranBefore_28 h29
  have h26 := az_bipush (x := (nI 6)) C dX12_ranBefore_26 (by decide +kernel) h28
  have h23 := az_getR (T := TX12) (N := 33) (j := 8) C gwRX12 rfl (by decide) (by decide) iIRX12_8 mFRX12_22 rfl dX12_ranBefore_23 h26
  have h22 := az_aload_n C 0 rfl dX12_ranBefore_22 h23
  have h19 := az_goto (tgt := 35) C dX12_ranBefore_19 (by decide) (az_keep [false, false, false] (okLX12_ranBefore_35 C))
  have h18 := az_iconst (x := (nI 0)) C dX12_ranBefore_18 (by decide +kernel) h19
  have h15 := az_goto (tgt := 35) C dX12_ranBefore_15 (by decide) (az_keep [false, false, false] (okLX12_ranBefore_35 C))
  have h14 := az_iconst (x := (nI 1)) C dX12_ranBefore_14 (by decide +kernel) h15
  have h11 := az_if_le (tgt := 18) C dX12_ranBefore_11 (by decide) h18 h14
  have h8 := az_callV (ci := 13) C okX12_of knX12_of imX12_of seX12_of mLRX12_128 rfl (by decide) ⟨rfl, rfl, by decide, by decide⟩ dX12_ranBefore_8 h11
  have h6 := az_bipush (x := (nI 6)) C dX12_ranBefore_6 (by decide +kernel) h8
  have h5 := az_iload_n C 1 rfl dX12_ranBefore_5 h6
  have h4 := az_aload_n C 0 rfl dX12_ranBefore_4 h5
  have h1 := az_if_ne (tgt := 22) C dX12_ranBefore_1 (by decide) h22 h4
  have h0 := az_iload_n C 2 rfl dX12_ranBefore_0 h1
  exact h0) l
theorem dX12_bound_0 : decode cX12_bound 0 = .ok (.bipush 6, 2) := by decide +kernel
theorem dX12_bound_2 : decode cX12_bound 2 = .ok (.iload_n 2, 1) := by decide +kernel
theorem dX12_bound_3 : decode cX12_bound 3 = .ok (.imul, 1) := by decide +kernel
theorem dX12_bound_4 : decode cX12_bound 4 = .ok (.iload_n 1, 1) := by decide +kernel
theorem dX12_bound_5 : decode cX12_bound 5 = .ok (.iadd, 1) := by decide +kernel
theorem dX12_bound_6 : decode cX12_bound 6 = .ok (.istore_n 3, 1) := by decide +kernel
theorem dX12_bound_7 : decode cX12_bound 7 = .ok (.aload_n 0, 1) := by decide +kernel
theorem dX12_bound_8 : decode cX12_bound 8 = .ok (.getfield 35, 3) := by decide +kernel
theorem dX12_bound_11 : decode cX12_bound 11 = .ok (.iload_n 3, 1) := by decide +kernel
theorem dX12_bound_12 : decode cX12_bound 12 = .ok (.iconst 0, 1) := by decide +kernel
theorem dX12_bound_13 : decode cX12_bound 13 = .ok (.iastore, 1) := by decide +kernel
theorem dX12_bound_14 : decode cX12_bound 14 = .ok (.aload_n 0, 1) := by decide +kernel
theorem dX12_bound_15 : decode cX12_bound 15 = .ok (.getfield 38, 3) := by decide +kernel
theorem dX12_bound_18 : decode cX12_bound 18 = .ok (.iload_n 3, 1) := by decide +kernel
theorem dX12_bound_19 : decode cX12_bound 19 = .ok (.iconst 0, 1) := by decide +kernel
theorem dX12_bound_20 : decode cX12_bound 20 = .ok (.iastore, 1) := by decide +kernel
theorem dX12_bound_21 : decode cX12_bound 21 = .ok (.aload_n 0, 1) := by decide +kernel
theorem dX12_bound_22 : decode cX12_bound 22 = .ok (.getfield 47, 3) := by decide +kernel
theorem dX12_bound_25 : decode cX12_bound 25 = .ok (.iload_n 3, 1) := by decide +kernel
theorem dX12_bound_26 : decode cX12_bound 26 = .ok (.iconst 0, 1) := by decide +kernel
theorem dX12_bound_27 : decode cX12_bound 27 = .ok (.iastore, 1) := by decide +kernel
theorem dX12_bound_28 : decode cX12_bound 28 = .ok (.aload_n 0, 1) := by decide +kernel
theorem dX12_bound_29 : decode cX12_bound 29 = .ok (.getfield 22, 3) := by decide +kernel
theorem dX12_bound_32 : decode cX12_bound 32 = .ok (.iload_n 3, 1) := by decide +kernel
theorem dX12_bound_33 : decode cX12_bound 33 = .ok (.baload, 1) := by decide +kernel
theorem dX12_bound_34 : decode cX12_bound 34 = .ok (.ifCond .ne 4, 3) := by decide +kernel
theorem dX12_bound_37 : decode cX12_bound 37 = .ok (.return_, 1) := by decide +kernel
theorem dX12_bound_38 : decode cX12_bound 38 = .ok (.aload_n 0, 1) := by decide +kernel
theorem dX12_bound_39 : decode cX12_bound 39 = .ok (.iload_n 1, 1) := by decide +kernel
theorem dX12_bound_40 : decode cX12_bound 40 = .ok (.iload_n 2, 1) := by decide +kernel
theorem dX12_bound_41 : decode cX12_bound 41 = .ok (.invokevirtual 157, 3) := by decide +kernel
theorem dX12_bound_44 : decode cX12_bound 44 = .ok (.ifCond .eq 83, 3) := by decide +kernel
theorem dX12_bound_47 : decode cX12_bound 47 = .ok (.iload_n 2, 1) := by decide +kernel
theorem dX12_bound_48 : decode cX12_bound 48 = .ok (.ifCond .ne 13, 3) := by decide +kernel
theorem dX12_bound_51 : decode cX12_bound 51 = .ok (.aload_n 0, 1) := by decide +kernel
theorem dX12_bound_52 : decode cX12_bound 52 = .ok (.iload_n 1, 1) := by decide +kernel
theorem dX12_bound_53 : decode cX12_bound 53 = .ok (.bipush 7, 2) := by decide +kernel
theorem dX12_bound_55 : decode cX12_bound 55 = .ok (.invokevirtual 128, 3) := by decide +kernel
theorem dX12_bound_58 : decode cX12_bound 58 = .ok (.goto 12, 3) := by decide +kernel
theorem dX12_bound_61 : decode cX12_bound 61 = .ok (.aload_n 0, 1) := by decide +kernel
theorem dX12_bound_62 : decode cX12_bound 62 = .ok (.getfield 41, 3) := by decide +kernel
theorem dX12_bound_65 : decode cX12_bound 65 = .ok (.iload_n 3, 1) := by decide +kernel
theorem dX12_bound_66 : decode cX12_bound 66 = .ok (.bipush 6, 2) := by decide +kernel
theorem dX12_bound_68 : decode cX12_bound 68 = .ok (.isub, 1) := by decide +kernel
theorem dX12_bound_69 : decode cX12_bound 69 = .ok (.iaload, 1) := by decide +kernel
theorem dX12_bound_70 : decode cX12_bound 70 = .ok (.istore 4, 2) := by decide +kernel
theorem dX12_bound_72 : decode cX12_bound 72 = .ok (.aload_n 0, 1) := by decide +kernel
theorem dX12_bound_73 : decode cX12_bound 73 = .ok (.getfield 35, 3) := by decide +kernel
theorem dX12_bound_76 : decode cX12_bound 76 = .ok (.iload_n 3, 1) := by decide +kernel
theorem dX12_bound_77 : decode cX12_bound 77 = .ok (.aload_n 0, 1) := by decide +kernel
theorem dX12_bound_78 : decode cX12_bound 78 = .ok (.iload_n 1, 1) := by decide +kernel
theorem dX12_bound_79 : decode cX12_bound 79 = .ok (.bipush 9, 2) := by decide +kernel
theorem dX12_bound_81 : decode cX12_bound 81 = .ok (.invokevirtual 128, 3) := by decide +kernel
theorem dX12_bound_84 : decode cX12_bound 84 = .ok (.iload 4, 2) := by decide +kernel
theorem dX12_bound_86 : decode cX12_bound 86 = .ok (.aload_n 0, 1) := by decide +kernel
theorem dX12_bound_87 : decode cX12_bound 87 = .ok (.iload_n 1, 1) := by decide +kernel
theorem dX12_bound_88 : decode cX12_bound 88 = .ok (.bipush 11, 2) := by decide +kernel
theorem dX12_bound_90 : decode cX12_bound 90 = .ok (.invokevirtual 128, 3) := by decide +kernel
theorem dX12_bound_93 : decode cX12_bound 93 = .ok (.isub, 1) := by decide +kernel
theorem dX12_bound_94 : decode cX12_bound 94 = .ok (.invokestatic 123, 3) := by decide +kernel
theorem dX12_bound_97 : decode cX12_bound 97 = .ok (.iastore, 1) := by decide +kernel
theorem dX12_bound_98 : decode cX12_bound 98 = .ok (.aload_n 0, 1) := by decide +kernel
theorem dX12_bound_99 : decode cX12_bound 99 = .ok (.getfield 38, 3) := by decide +kernel
theorem dX12_bound_102 : decode cX12_bound 102 = .ok (.iload_n 3, 1) := by decide +kernel
theorem dX12_bound_103 : decode cX12_bound 103 = .ok (.aload_n 0, 1) := by decide +kernel
theorem dX12_bound_104 : decode cX12_bound 104 = .ok (.iload_n 1, 1) := by decide +kernel
theorem dX12_bound_105 : decode cX12_bound 105 = .ok (.bipush 10, 2) := by decide +kernel
theorem dX12_bound_107 : decode cX12_bound 107 = .ok (.invokevirtual 128, 3) := by decide +kernel
theorem dX12_bound_110 : decode cX12_bound 110 = .ok (.iload 4, 2) := by decide +kernel
theorem dX12_bound_112 : decode cX12_bound 112 = .ok (.aload_n 0, 1) := by decide +kernel
theorem dX12_bound_113 : decode cX12_bound 113 = .ok (.iload_n 1, 1) := by decide +kernel
theorem dX12_bound_114 : decode cX12_bound 114 = .ok (.bipush 11, 2) := by decide +kernel
theorem dX12_bound_116 : decode cX12_bound 116 = .ok (.invokevirtual 128, 3) := by decide +kernel
theorem dX12_bound_119 : decode cX12_bound 119 = .ok (.iadd, 1) := by decide +kernel
theorem dX12_bound_120 : decode cX12_bound 120 = .ok (.invokestatic 160, 3) := by decide +kernel
theorem dX12_bound_123 : decode cX12_bound 123 = .ok (.iastore, 1) := by decide +kernel
theorem dX12_bound_124 : decode cX12_bound 124 = .ok (.goto 80, 3) := by decide +kernel
theorem dX12_bound_127 : decode cX12_bound 127 = .ok (.aload_n 0, 1) := by decide +kernel
theorem dX12_bound_128 : decode cX12_bound 128 = .ok (.getfield 35, 3) := by decide +kernel
theorem dX12_bound_131 : decode cX12_bound 131 = .ok (.iload_n 3, 1) := by decide +kernel
theorem dX12_bound_132 : decode cX12_bound 132 = .ok (.aload_n 0, 1) := by decide +kernel
theorem dX12_bound_133 : decode cX12_bound 133 = .ok (.iload_n 1, 1) := by decide +kernel
theorem dX12_bound_134 : decode cX12_bound 134 = .ok (.bipush 9, 2) := by decide +kernel
theorem dX12_bound_136 : decode cX12_bound 136 = .ok (.invokevirtual 128, 3) := by decide +kernel
theorem dX12_bound_139 : decode cX12_bound 139 = .ok (.iastore, 1) := by decide +kernel
theorem dX12_bound_140 : decode cX12_bound 140 = .ok (.aload_n 0, 1) := by decide +kernel
theorem dX12_bound_141 : decode cX12_bound 141 = .ok (.getfield 38, 3) := by decide +kernel
theorem dX12_bound_144 : decode cX12_bound 144 = .ok (.iload_n 3, 1) := by decide +kernel
theorem dX12_bound_145 : decode cX12_bound 145 = .ok (.aload_n 0, 1) := by decide +kernel
theorem dX12_bound_146 : decode cX12_bound 146 = .ok (.iload_n 1, 1) := by decide +kernel
theorem dX12_bound_147 : decode cX12_bound 147 = .ok (.bipush 10, 2) := by decide +kernel
theorem dX12_bound_149 : decode cX12_bound 149 = .ok (.invokevirtual 128, 3) := by decide +kernel
theorem dX12_bound_152 : decode cX12_bound 152 = .ok (.aload_n 0, 1) := by decide +kernel
theorem dX12_bound_153 : decode cX12_bound 153 = .ok (.iload_n 1, 1) := by decide +kernel
theorem dX12_bound_154 : decode cX12_bound 154 = .ok (.bipush 9, 2) := by decide +kernel
theorem dX12_bound_156 : decode cX12_bound 156 = .ok (.invokevirtual 128, 3) := by decide +kernel
theorem dX12_bound_159 : decode cX12_bound 159 = .ok (.aload_n 0, 1) := by decide +kernel
theorem dX12_bound_160 : decode cX12_bound 160 = .ok (.iload_n 1, 1) := by decide +kernel
theorem dX12_bound_161 : decode cX12_bound 161 = .ok (.bipush 11, 2) := by decide +kernel
theorem dX12_bound_163 : decode cX12_bound 163 = .ok (.invokevirtual 128, 3) := by decide +kernel
theorem dX12_bound_166 : decode cX12_bound 166 = .ok (.invokestatic 123, 3) := by decide +kernel
theorem dX12_bound_169 : decode cX12_bound 169 = .ok (.invokestatic 160, 3) := by decide +kernel
theorem dX12_bound_172 : decode cX12_bound 172 = .ok (.iastore, 1) := by decide +kernel
theorem dX12_bound_173 : decode cX12_bound 173 = .ok (.aload_n 0, 1) := by decide +kernel
theorem dX12_bound_174 : decode cX12_bound 174 = .ok (.getfield 47, 3) := by decide +kernel
theorem dX12_bound_177 : decode cX12_bound 177 = .ok (.iload_n 3, 1) := by decide +kernel
theorem dX12_bound_178 : decode cX12_bound 178 = .ok (.aload_n 0, 1) := by decide +kernel
theorem dX12_bound_179 : decode cX12_bound 179 = .ok (.iload_n 1, 1) := by decide +kernel
theorem dX12_bound_180 : decode cX12_bound 180 = .ok (.aload_n 0, 1) := by decide +kernel
theorem dX12_bound_181 : decode cX12_bound 181 = .ok (.getfield 32, 3) := by decide +kernel
theorem dX12_bound_184 : decode cX12_bound 184 = .ok (.iload_n 3, 1) := by decide +kernel
theorem dX12_bound_185 : decode cX12_bound 185 = .ok (.iaload, 1) := by decide +kernel
theorem dX12_bound_186 : decode cX12_bound 186 = .ok (.aload_n 0, 1) := by decide +kernel
theorem dX12_bound_187 : decode cX12_bound 187 = .ok (.iload_n 1, 1) := by decide +kernel
theorem dX12_bound_188 : decode cX12_bound 188 = .ok (.iconst 3, 1) := by decide +kernel
theorem dX12_bound_189 : decode cX12_bound 189 = .ok (.invokevirtual 128, 3) := by decide +kernel
theorem dX12_bound_192 : decode cX12_bound 192 = .ok (.if_icmp .gt 7, 3) := by decide +kernel
theorem dX12_bound_195 : decode cX12_bound 195 = .ok (.iconst 1, 1) := by decide +kernel
theorem dX12_bound_196 : decode cX12_bound 196 = .ok (.goto 4, 3) := by decide +kernel
theorem dX12_bound_199 : decode cX12_bound 199 = .ok (.iconst 2, 1) := by decide +kernel
theorem dX12_bound_200 : decode cX12_bound 200 = .ok (.invokevirtual 128, 3) := by decide +kernel
theorem dX12_bound_203 : decode cX12_bound 203 = .ok (.iastore, 1) := by decide +kernel
theorem dX12_bound_204 : decode cX12_bound 204 = .ok (.return_, 1) := by decide +kernel
def LX12_bound_204 (Q : Option Value → az_M → Prop) : az_T := (s_rv Q)
theorem okLX12_bound_204 {X : az_X} {Q : Option Value → az_M → Prop} (C : az_C X cX12_bound 5 RX12 (az_ts yX12_bound cX12_bound 5 none) ({ frames := 4, cells := 0, slots := 0, locals := 165 } : Room) none Q) : az_ok X 204 (LX12_bound_204 Q) := by
  have h204 := az_vreturn C rfl dX12_bound_204
  exact h204
def LX12_bound_200 (Q : Option Value → az_M → Prop) : az_T := (s_cv 2 13 FX12_of (s_as (s_kp [false, false, false, false, false] (LX12_bound_204 Q))))
theorem okLX12_bound_200 {X : az_X} {Q : Option Value → az_M → Prop} (C : az_C X cX12_bound 5 RX12 (az_ts yX12_bound cX12_bound 5 none) ({ frames := 4, cells := 0, slots := 0, locals := 165 } : Room) none Q) : az_ok X 200 (LX12_bound_200 Q) := by
  have h203 := az_iast C dX12_bound_203 (az_keep [false, false, false, false, false] (okLX12_bound_204 C))
  have h200 := az_callV (ci := 13) C okX12_of knX12_of imX12_of seX12_of mLRX12_128 rfl (by decide) ⟨rfl, rfl, by decide, by decide⟩ dX12_bound_200 h203
  exact h200
def LX12_bound_70 (Q : Option Value → az_M → Prop) : az_T := (s_si 4 (s_la 0 (s_gr 13 12 (s_li 3 (s_la 0 (s_li 1 (s_ic (nI 9) (s_cv 2 13 FX12_of (s_li 4 (s_la 0 (s_li 1 (s_ic (nI 11) (s_cv 2 13 FX12_of (s_bin f_sub (s_mx (s_as (s_la 0 (s_gr 13 13 (s_li 3 (s_la 0 (s_li 1 (s_ic (nI 10) (s_cv 2 13 FX12_of (s_li 4 (s_la 0 (s_li 1 (s_ic (nI 11) (s_cv 2 13 FX12_of (s_bin f_add (s_mn (s_as (s_kp [false, false, false, false, false] (LX12_bound_204 Q)))))))))))))))))))))))))))))))))
theorem okLX12_bound_70 {X : az_X} {Q : Option Value → az_M → Prop} (C : az_C X cX12_bound 5 RX12 (az_ts yX12_bound cX12_bound 5 none) ({ frames := 4, cells := 0, slots := 0, locals := 165 } : Room) none Q) : az_ok X 70 (LX12_bound_70 Q) := by
  have h124 := az_goto (tgt := 204) C dX12_bound_124 (by decide) (az_keep [false, false, false, false, false] (okLX12_bound_204 C))
  have h123 := az_iast C dX12_bound_123 h124
  have h120 := az_mmin C mLRX12_160 mx_st_min mx_ini mx_co_min (by decide) (by decide) dX12_bound_120 h123
  have h119 := az_iadd C dX12_bound_119 h120
  have h116 := az_callV (ci := 13) C okX12_of knX12_of imX12_of seX12_of mLRX12_128 rfl (by decide) ⟨rfl, rfl, by decide, by decide⟩ dX12_bound_116 h119
  have h114 := az_bipush (x := (nI 11)) C dX12_bound_114 (by decide +kernel) h116
  have h113 := az_iload_n C 1 rfl dX12_bound_113 h114
  have h112 := az_aload_n C 0 rfl dX12_bound_112 h113
  have h110 := az_iload C dX12_bound_110 h112
  have h107 := az_callV (ci := 13) C okX12_of knX12_of imX12_of seX12_of mLRX12_128 rfl (by decide) ⟨rfl, rfl, by decide, by decide⟩ dX12_bound_107 h110
  have h105 := az_bipush (x := (nI 10)) C dX12_bound_105 (by decide +kernel) h107
  have h104 := az_iload_n C 1 rfl dX12_bound_104 h105
  have h103 := az_aload_n C 0 rfl dX12_bound_103 h104
  have h102 := az_iload_n C 3 rfl dX12_bound_102 h103
  have h99 := az_getR (T := TX12) (N := 33) (j := 13) C gwRX12 rfl (by decide) (by decide) iIRX12_13 mFRX12_38 rfl dX12_bound_99 h102
  have h98 := az_aload_n C 0 rfl dX12_bound_98 h99
  have h97 := az_iast C dX12_bound_97 h98
  have h94 := az_mmax C mLRX12_123 mx_st_max mx_ini mx_co_max (by decide) (by decide) dX12_bound_94 h97
  have h93 := az_isub C dX12_bound_93 h94
  have h90 := az_callV (ci := 13) C okX12_of knX12_of imX12_of seX12_of mLRX12_128 rfl (by decide) ⟨rfl, rfl, by decide, by decide⟩ dX12_bound_90 h93
  have h88 := az_bipush (x := (nI 11)) C dX12_bound_88 (by decide +kernel) h90
  have h87 := az_iload_n C 1 rfl dX12_bound_87 h88
  have h86 := az_aload_n C 0 rfl dX12_bound_86 h87
  have h84 := az_iload C dX12_bound_84 h86
  have h81 := az_callV (ci := 13) C okX12_of knX12_of imX12_of seX12_of mLRX12_128 rfl (by decide) ⟨rfl, rfl, by decide, by decide⟩ dX12_bound_81 h84
  have h79 := az_bipush (x := (nI 9)) C dX12_bound_79 (by decide +kernel) h81
  have h78 := az_iload_n C 1 rfl dX12_bound_78 h79
  have h77 := az_aload_n C 0 rfl dX12_bound_77 h78
  have h76 := az_iload_n C 3 rfl dX12_bound_76 h77
  have h73 := az_getR (T := TX12) (N := 33) (j := 12) C gwRX12 rfl (by decide) (by decide) iIRX12_12 mFRX12_35 rfl dX12_bound_73 h76
  have h72 := az_aload_n C 0 rfl dX12_bound_72 h73
  have h70 := az_istore C (by decide) dX12_bound_70 h72
  exact h70
def PX12_bound (Q : Option Value → az_M → Prop) : az_T := (s_ic (nI 6) (s_li 2 (s_bin f_mul (s_li 1 (s_bin f_add (s_si 3 (s_la 0 (s_gr 13 12 (s_li 3 (s_ic (nI 0) (s_as (s_la 0 (s_gr 13 13 (s_li 3 (s_ic (nI 0) (s_as (s_la 0 (s_gr 13 16 (s_li 3 (s_ic (nI 0) (s_as (s_la 0 (s_gr 13 8 (s_li 3 (s_al 21 (s_if c_ne (s_la 0 (s_li 1 (s_li 2 (s_cv 2 13 FX12_ranBefore (s_if c_eq (s_la 0 (s_gr 13 12 (s_li 3 (s_la 0 (s_li 1 (s_ic (nI 9) (s_cv 2 13 FX12_of (s_as (s_la 0 (s_gr 13 13 (s_li 3 (s_la 0 (s_li 1 (s_ic (nI 10) (s_cv 2 13 FX12_of (s_la 0 (s_li 1 (s_ic (nI 9) (s_cv 2 13 FX12_of (s_la 0 (s_li 1 (s_ic (nI 11) (s_cv 2 13 FX12_of (s_mx (s_mn (s_as (s_la 0 (s_gr 13 16 (s_li 3 (s_la 0 (s_li 1 (s_la 0 (s_gr 13 11 (s_li 3 (s_al 20 (s_la 0 (s_li 1 (s_ic (nI 3) (s_cw 2 13 FX12_of (s_if2 d_gt (s_ic (nI 2) (s_kp [false, false, false, false, false] (LX12_bound_200 Q))) (s_ic (nI 1) (s_kp [false, false, false, false, false] (LX12_bound_200 Q))))))))))))))))))))))))))))))))))))))))))) (s_li 2 (s_if c_ne (s_la 0 (s_gr 13 14 (s_li 3 (s_ic (nI 6) (s_bin f_sub (s_al 20 (s_kp [true, true, false, true, false] (LX12_bound_70 Q)))))))) (s_la 0 (s_li 1 (s_ic (nI 7) (s_cv 2 13 FX12_of (s_kp [true, true, false, true, false] (LX12_bound_70 Q))))))))))))) (s_rv Q)))))))))))))))))))))))))))
def FX12_bound : az_F := az_fun [true, false, false] 5 PX12_bound
theorem okX12_bound (l : Launch) : az_met l yX12_bound cX12_bound 5 none ({ frames := 4, cells := 0, slots := 0, locals := 165 } : Room) FX12_bound := az_met_of (own := RX12) (by decide +kernel) rfl (by decide) (fun X Q C => by
  have h199 := az_iconst (x := (nI 2)) C dX12_bound_199 (by decide +kernel) (az_keep [false, false, false, false, false] (okLX12_bound_200 C))
  have h196 := az_goto (tgt := 200) C dX12_bound_196 (by decide) (az_keep [false, false, false, false, false] (okLX12_bound_200 C))
  have h195 := az_iconst (x := (nI 1)) C dX12_bound_195 (by decide +kernel) h196
  have h192 := az_icmp_gt (tgt := 199) C dX12_bound_192 (by decide) h199 h195
  have h189 := az_callW (ci := 13) C okX12_of knX12_of imX12_of seX12_of mLRX12_128 rfl (by decide) ⟨rfl, rfl, by decide, by decide⟩ dX12_bound_189 h192
  have h188 := az_iconst (x := (nI 3)) C dX12_bound_188 (by decide +kernel) h189
  have h187 := az_iload_n C 1 rfl dX12_bound_187 h188
  have h186 := az_aload_n C 0 rfl dX12_bound_186 h187
  have h185 := az_iald C dX12_bound_185 h186
  have h184 := az_iload_n C 3 rfl dX12_bound_184 h185
  have h181 := az_getR (T := TX12) (N := 33) (j := 11) C gwRX12 rfl (by decide) (by decide) iIRX12_11 mFRX12_32 rfl dX12_bound_181 h184
  have h180 := az_aload_n C 0 rfl dX12_bound_180 h181
  have h179 := az_iload_n C 1 rfl dX12_bound_179 h180
  have h178 := az_aload_n C 0 rfl dX12_bound_178 h179
  have h177 := az_iload_n C 3 rfl dX12_bound_177 h178
  have h174 := az_getR (T := TX12) (N := 33) (j := 16) C gwRX12 rfl (by decide) (by decide) iIRX12_16 mFRX12_47 rfl dX12_bound_174 h177
  have h173 := az_aload_n C 0 rfl dX12_bound_173 h174
  have h172 := az_iast C dX12_bound_172 h173
  have h169 := az_mmin C mLRX12_160 mx_st_min mx_ini mx_co_min (by decide) (by decide) dX12_bound_169 h172
  have h166 := az_mmax C mLRX12_123 mx_st_max mx_ini mx_co_max (by decide) (by decide) dX12_bound_166 h169
  have h163 := az_callV (ci := 13) C okX12_of knX12_of imX12_of seX12_of mLRX12_128 rfl (by decide) ⟨rfl, rfl, by decide, by decide⟩ dX12_bound_163 h166
  have h161 := az_bipush (x := (nI 11)) C dX12_bound_161 (by decide +kernel) h163
  have h160 := az_iload_n C 1 rfl dX12_bound_160 h161
  have h159 := az_aload_n C 0 rfl dX12_bound_159 h160
  have h156 := az_callV (ci := 13) C okX12_of knX12_of imX12_of seX12_of mLRX12_128 rfl (by decide) ⟨rfl, rfl, by decide, by decide⟩ dX12_bound_156 h159
  have h154 := az_bipush (x := (nI 9)) C dX12_bound_154 (by decide +kernel) h156
  have h153 := az_iload_n C 1 rfl dX12_bound_153 h154
  have h152 := az_aload_n C 0 rfl dX12_bound_152 h153
  have h149 := az_callV (ci := 13) C okX12_of knX12_of imX12_of seX12_of mLRX12_128 rfl (by decide) ⟨rfl, rfl, by decide, by decide⟩ dX12_bound_149 h152
  have h147 := az_bipush (x := (nI 10)) C dX12_bound_147 (by decide +kernel) h149
  have h146 := az_iload_n C 1 rfl dX12_bound_146 h147
  have h145 := az_aload_n C 0 rfl dX12_bound_145 h146
  have h144 := az_iload_n C 3 rfl dX12_bound_144 h145
  have h141 := az_getR (T := TX12) (N := 33) (j := 13) C gwRX12 rfl (by decide) (by decide) iIRX12_13 mFRX12_38 rfl dX12_bound_141 h144
  have h140 := az_aload_n C 0 rfl dX12_bound_140 h141
  have h139 := az_iast C dX12_bound_139 h140
  have h136 := az_callV (ci := 13) C okX12_of knX12_of imX12_of seX12_of mLRX12_128 rfl (by decide) ⟨rfl, rfl, by decide, by decide⟩ dX12_bound_136 h139
  have h134 := az_bipush (x := (nI 9)) C dX12_bound_134 (by decide +kernel) h136
  have h133 := az_iload_n C 1 rfl dX12_bound_133 h134
  have h132 := az_aload_n C 0 rfl dX12_bound_132 h133
  have h131 := az_iload_n C 3 rfl dX12_bound_131 h132
  have h128 := az_getR (T := TX12) (N := 33) (j := 12) C gwRX12 rfl (by decide) (by decide) iIRX12_12 mFRX12_35 rfl dX12_bound_128 h131
  have h127 := az_aload_n C 0 rfl dX12_bound_127 h128
  have h69 := az_iald C dX12_bound_69 (az_keep [true, true, false, true, false] (okLX12_bound_70 C))
  have h68 := az_isub C dX12_bound_68 h69
  have h66 := az_bipush (x := (nI 6)) C dX12_bound_66 (by decide +kernel) h68
  have h65 := az_iload_n C 3 rfl dX12_bound_65 h66
  have h62 := az_getR (T := TX12) (N := 33) (j := 14) C gwRX12 rfl (by decide) (by decide) iIRX12_14 mFRX12_41 rfl dX12_bound_62 h65
  have h61 := az_aload_n C 0 rfl dX12_bound_61 h62
  have h58 := az_goto (tgt := 70) C dX12_bound_58 (by decide) (az_keep [true, true, false, true, false] (okLX12_bound_70 C))
  have h55 := az_callV (ci := 13) C okX12_of knX12_of imX12_of seX12_of mLRX12_128 rfl (by decide) ⟨rfl, rfl, by decide, by decide⟩ dX12_bound_55 h58
  have h53 := az_bipush (x := (nI 7)) C dX12_bound_53 (by decide +kernel) h55
  have h52 := az_iload_n C 1 rfl dX12_bound_52 h53
  have h51 := az_aload_n C 0 rfl dX12_bound_51 h52
  have h48 := az_if_ne (tgt := 61) C dX12_bound_48 (by decide) h61 h51
  have h47 := az_iload_n C 2 rfl dX12_bound_47 h48
  have h44 := az_if_eq (tgt := 127) C dX12_bound_44 (by decide) h127 h47
  have h41 := az_callV (ci := 13) C okX12_ranBefore knX12_ranBefore imX12_ranBefore seX12_ranBefore mLRX12_157 rfl (by decide) ⟨rfl, rfl, by decide, by decide⟩ dX12_bound_41 h44
  have h40 := az_iload_n C 2 rfl dX12_bound_40 h41
  have h39 := az_iload_n C 1 rfl dX12_bound_39 h40
  have h38 := az_aload_n C 0 rfl dX12_bound_38 h39
  have h37 := az_vreturn C rfl dX12_bound_37
  have h34 := az_if_ne (tgt := 38) C dX12_bound_34 (by decide) h38 h37
  have h33 := az_zald C dX12_bound_33 h34
  have h32 := az_iload_n C 3 rfl dX12_bound_32 h33
  have h29 := az_getR (T := TX12) (N := 33) (j := 8) C gwRX12 rfl (by decide) (by decide) iIRX12_8 mFRX12_22 rfl dX12_bound_29 h32
  have h28 := az_aload_n C 0 rfl dX12_bound_28 h29
  have h27 := az_iast C dX12_bound_27 h28
  have h26 := az_iconst (x := (nI 0)) C dX12_bound_26 (by decide +kernel) h27
  have h25 := az_iload_n C 3 rfl dX12_bound_25 h26
  have h22 := az_getR (T := TX12) (N := 33) (j := 16) C gwRX12 rfl (by decide) (by decide) iIRX12_16 mFRX12_47 rfl dX12_bound_22 h25
  have h21 := az_aload_n C 0 rfl dX12_bound_21 h22
  have h20 := az_iast C dX12_bound_20 h21
  have h19 := az_iconst (x := (nI 0)) C dX12_bound_19 (by decide +kernel) h20
  have h18 := az_iload_n C 3 rfl dX12_bound_18 h19
  have h15 := az_getR (T := TX12) (N := 33) (j := 13) C gwRX12 rfl (by decide) (by decide) iIRX12_13 mFRX12_38 rfl dX12_bound_15 h18
  have h14 := az_aload_n C 0 rfl dX12_bound_14 h15
  have h13 := az_iast C dX12_bound_13 h14
  have h12 := az_iconst (x := (nI 0)) C dX12_bound_12 (by decide +kernel) h13
  have h11 := az_iload_n C 3 rfl dX12_bound_11 h12
  have h8 := az_getR (T := TX12) (N := 33) (j := 12) C gwRX12 rfl (by decide) (by decide) iIRX12_12 mFRX12_35 rfl dX12_bound_8 h11
  have h7 := az_aload_n C 0 rfl dX12_bound_7 h8
  have h6 := az_istore_n C 3 rfl (by decide) dX12_bound_6 h7
  have h5 := az_iadd C dX12_bound_5 h6
  have h4 := az_iload_n C 1 rfl dX12_bound_4 h5
  have h3 := az_imul C dX12_bound_3 h4
  have h2 := az_iload_n C 2 rfl dX12_bound_2 h3
  have h0 := az_bipush (x := (nI 6)) C dX12_bound_0 (by decide +kernel) h2
  exact h0) l
theorem dX12_findWay_0 : decode cX12_findWay 0 = .ok (.iconst 0, 1) := by decide +kernel
theorem dX12_findWay_1 : decode cX12_findWay 1 = .ok (.istore_n 3, 1) := by decide +kernel
theorem dX12_findWay_2 : decode cX12_findWay 2 = .ok (.iload_n 3, 1) := by decide +kernel
theorem dX12_findWay_3 : decode cX12_findWay 3 = .ok (.iconst 4, 1) := by decide +kernel
theorem dX12_findWay_4 : decode cX12_findWay 4 = .ok (.if_icmp .ge 16, 3) := by decide +kernel
theorem dX12_findWay_7 : decode cX12_findWay 7 = .ok (.aload_n 0, 1) := by decide +kernel
theorem dX12_findWay_8 : decode cX12_findWay 8 = .ok (.getfield 59, 3) := by decide +kernel
theorem dX12_findWay_11 : decode cX12_findWay 11 = .ok (.iload_n 3, 1) := by decide +kernel
theorem dX12_findWay_12 : decode cX12_findWay 12 = .ok (.iconst 0, 1) := by decide +kernel
theorem dX12_findWay_13 : decode cX12_findWay 13 = .ok (.iastore, 1) := by decide +kernel
theorem dX12_findWay_14 : decode cX12_findWay 14 = .ok (.iinc 3 1, 3) := by decide +kernel
theorem dX12_findWay_17 : decode cX12_findWay 17 = .ok (.goto (-15), 3) := by decide +kernel
theorem dX12_findWay_20 : decode cX12_findWay 20 = .ok (.iload_n 1, 1) := by decide +kernel
theorem dX12_findWay_21 : decode cX12_findWay 21 = .ok (.istore_n 3, 1) := by decide +kernel
theorem dX12_findWay_22 : decode cX12_findWay 22 = .ok (.iload_n 3, 1) := by decide +kernel
theorem dX12_findWay_23 : decode cX12_findWay 23 = .ok (.ifCond .le 26, 3) := by decide +kernel
theorem dX12_findWay_26 : decode cX12_findWay 26 = .ok (.aload_n 0, 1) := by decide +kernel
theorem dX12_findWay_27 : decode cX12_findWay 27 = .ok (.getfield 59, 3) := by decide +kernel
theorem dX12_findWay_30 : decode cX12_findWay 30 = .ok (.iload_n 3, 1) := by decide +kernel
theorem dX12_findWay_31 : decode cX12_findWay 31 = .ok (.dup2, 1) := by decide +kernel
theorem dX12_findWay_32 : decode cX12_findWay 32 = .ok (.iaload, 1) := by decide +kernel
theorem dX12_findWay_33 : decode cX12_findWay 33 = .ok (.iconst 1, 1) := by decide +kernel
theorem dX12_findWay_34 : decode cX12_findWay 34 = .ok (.iadd, 1) := by decide +kernel
theorem dX12_findWay_35 : decode cX12_findWay 35 = .ok (.iastore, 1) := by decide +kernel
theorem dX12_findWay_36 : decode cX12_findWay 36 = .ok (.aload_n 0, 1) := by decide +kernel
theorem dX12_findWay_37 : decode cX12_findWay 37 = .ok (.getfield 9, 3) := by decide +kernel
theorem dX12_findWay_40 : decode cX12_findWay 40 = .ok (.bipush 125, 2) := by decide +kernel
theorem dX12_findWay_42 : decode cX12_findWay 42 = .ok (.iload_n 3, 1) := by decide +kernel
theorem dX12_findWay_43 : decode cX12_findWay 43 = .ok (.iadd, 1) := by decide +kernel
theorem dX12_findWay_44 : decode cX12_findWay 44 = .ok (.iaload, 1) := by decide +kernel
theorem dX12_findWay_45 : decode cX12_findWay 45 = .ok (.istore_n 3, 1) := by decide +kernel
theorem dX12_findWay_46 : decode cX12_findWay 46 = .ok (.goto (-24), 3) := by decide +kernel
theorem dX12_findWay_49 : decode cX12_findWay 49 = .ok (.iload_n 2, 1) := by decide +kernel
theorem dX12_findWay_50 : decode cX12_findWay 50 = .ok (.istore_n 3, 1) := by decide +kernel
theorem dX12_findWay_51 : decode cX12_findWay 51 = .ok (.iload_n 3, 1) := by decide +kernel
theorem dX12_findWay_52 : decode cX12_findWay 52 = .ok (.ifCond .le 26, 3) := by decide +kernel
theorem dX12_findWay_55 : decode cX12_findWay 55 = .ok (.aload_n 0, 1) := by decide +kernel
theorem dX12_findWay_56 : decode cX12_findWay 56 = .ok (.getfield 59, 3) := by decide +kernel
theorem dX12_findWay_59 : decode cX12_findWay 59 = .ok (.iload_n 3, 1) := by decide +kernel
theorem dX12_findWay_60 : decode cX12_findWay 60 = .ok (.dup2, 1) := by decide +kernel
theorem dX12_findWay_61 : decode cX12_findWay 61 = .ok (.iaload, 1) := by decide +kernel
theorem dX12_findWay_62 : decode cX12_findWay 62 = .ok (.iconst 1, 1) := by decide +kernel
theorem dX12_findWay_63 : decode cX12_findWay 63 = .ok (.isub, 1) := by decide +kernel
theorem dX12_findWay_64 : decode cX12_findWay 64 = .ok (.iastore, 1) := by decide +kernel
theorem dX12_findWay_65 : decode cX12_findWay 65 = .ok (.aload_n 0, 1) := by decide +kernel
theorem dX12_findWay_66 : decode cX12_findWay 66 = .ok (.getfield 9, 3) := by decide +kernel
theorem dX12_findWay_69 : decode cX12_findWay 69 = .ok (.bipush 125, 2) := by decide +kernel
theorem dX12_findWay_71 : decode cX12_findWay 71 = .ok (.iload_n 3, 1) := by decide +kernel
theorem dX12_findWay_72 : decode cX12_findWay 72 = .ok (.iadd, 1) := by decide +kernel
theorem dX12_findWay_73 : decode cX12_findWay 73 = .ok (.iaload, 1) := by decide +kernel
theorem dX12_findWay_74 : decode cX12_findWay 74 = .ok (.istore_n 3, 1) := by decide +kernel
theorem dX12_findWay_75 : decode cX12_findWay 75 = .ok (.goto (-24), 3) := by decide +kernel
theorem dX12_findWay_78 : decode cX12_findWay 78 = .ok (.return_, 1) := by decide +kernel
def BX12_findWay_51 (Q : Option Value → az_M → Prop) (Z51 : az_T) : az_T := (s_li 3 (s_if c_le (s_rv Q) (s_la 0 (s_gr 13 20 (s_li 3 (s_dup2 (s_al 20 (s_ic (nI 1) (s_bin f_sub (s_as (s_la 0 (s_gr 13 0 (s_ic (nI 125) (s_li 3 (s_bin f_add (s_al 20 (s_si 3 (s_kp [true, false, false, true] Z51))))))))))))))))))
theorem okBX12_findWay_51 {X : az_X} {Q : Option Value → az_M → Prop} (C : az_C X cX12_findWay 4 RX12 (az_ts yX12_findWay cX12_findWay 4 none) ({ frames := 1, cells := 0, slots := 0, locals := 100 } : Room) none Q) {Z51 : az_T} (hZ51 : az_ok X 51 Z51) : az_ok X 51 (BX12_findWay_51 Q Z51) := by
  have h78 := az_vreturn C rfl dX12_findWay_78
  have h75 := az_goto (tgt := 51) C dX12_findWay_75 (by decide) (az_keep [true, false, false, true] hZ51)
  have h74 := az_istore_n C 3 rfl (by decide) dX12_findWay_74 h75
  have h73 := az_iald C dX12_findWay_73 h74
  have h72 := az_iadd C dX12_findWay_72 h73
  have h71 := az_iload_n C 3 rfl dX12_findWay_71 h72
  have h69 := az_bipush (x := (nI 125)) C dX12_findWay_69 (by decide +kernel) h71
  have h66 := az_getR (T := TX12) (N := 33) (j := 0) C gwRX12 rfl (by decide) (by decide) iIRX12_0 mFRX12_9 rfl dX12_findWay_66 h69
  have h65 := az_aload_n C 0 rfl dX12_findWay_65 h66
  have h64 := az_iast C dX12_findWay_64 h65
  have h63 := az_isub C dX12_findWay_63 h64
  have h62 := az_iconst (x := (nI 1)) C dX12_findWay_62 (by decide +kernel) h63
  have h61 := az_iald C dX12_findWay_61 h62
  have h60 := az_dup2 C dX12_findWay_60 h61
  have h59 := az_iload_n C 3 rfl dX12_findWay_59 h60
  have h56 := az_getR (T := TX12) (N := 33) (j := 20) C gwRX12 rfl (by decide) (by decide) iIRX12_20 mFRX12_59 rfl dX12_findWay_56 h59
  have h55 := az_aload_n C 0 rfl dX12_findWay_55 h56
  have h52 := az_if_le (tgt := 78) C dX12_findWay_52 (by decide) h78 h55
  have h51 := az_iload_n C 3 rfl dX12_findWay_51 h52
  exact h51
def LX12_findWay_51 (Q : Option Value → az_M → Prop) : az_T := s_lp (fun Z => BX12_findWay_51 Q Z)
theorem okLX12_findWay_51 {X : az_X} {Q : Option Value → az_M → Prop} (C : az_C X cX12_findWay 4 RX12 (az_ts yX12_findWay cX12_findWay 4 none) ({ frames := 1, cells := 0, slots := 0, locals := 100 } : Room) none Q) : az_ok X 51 (LX12_findWay_51 Q) := az_loop (F := fun Z => BX12_findWay_51 Q Z) (fun _ hZ => okBX12_findWay_51 C hZ)
def BX12_findWay_22 (Q : Option Value → az_M → Prop) (Z22 : az_T) : az_T := (s_li 3 (s_if c_le (s_li 2 (s_si 3 (s_kp [true, false, false, true] (LX12_findWay_51 Q)))) (s_la 0 (s_gr 13 20 (s_li 3 (s_dup2 (s_al 20 (s_ic (nI 1) (s_bin f_add (s_as (s_la 0 (s_gr 13 0 (s_ic (nI 125) (s_li 3 (s_bin f_add (s_al 20 (s_si 3 (s_kp [true, false, true, true] Z22))))))))))))))))))
theorem okBX12_findWay_22 {X : az_X} {Q : Option Value → az_M → Prop} (C : az_C X cX12_findWay 4 RX12 (az_ts yX12_findWay cX12_findWay 4 none) ({ frames := 1, cells := 0, slots := 0, locals := 100 } : Room) none Q) {Z22 : az_T} (hZ22 : az_ok X 22 Z22) : az_ok X 22 (BX12_findWay_22 Q Z22) := by
  have h50 := az_istore_n C 3 rfl (by decide) dX12_findWay_50 (az_keep [true, false, false, true] (okLX12_findWay_51 C))
  have h49 := az_iload_n C 2 rfl dX12_findWay_49 h50
  have h46 := az_goto (tgt := 22) C dX12_findWay_46 (by decide) (az_keep [true, false, true, true] hZ22)
  have h45 := az_istore_n C 3 rfl (by decide) dX12_findWay_45 h46
  have h44 := az_iald C dX12_findWay_44 h45
  have h43 := az_iadd C dX12_findWay_43 h44
  have h42 := az_iload_n C 3 rfl dX12_findWay_42 h43
  have h40 := az_bipush (x := (nI 125)) C dX12_findWay_40 (by decide +kernel) h42
  have h37 := az_getR (T := TX12) (N := 33) (j := 0) C gwRX12 rfl (by decide) (by decide) iIRX12_0 mFRX12_9 rfl dX12_findWay_37 h40
  have h36 := az_aload_n C 0 rfl dX12_findWay_36 h37
  have h35 := az_iast C dX12_findWay_35 h36
  have h34 := az_iadd C dX12_findWay_34 h35
  have h33 := az_iconst (x := (nI 1)) C dX12_findWay_33 (by decide +kernel) h34
  have h32 := az_iald C dX12_findWay_32 h33
  have h31 := az_dup2 C dX12_findWay_31 h32
  have h30 := az_iload_n C 3 rfl dX12_findWay_30 h31
  have h27 := az_getR (T := TX12) (N := 33) (j := 20) C gwRX12 rfl (by decide) (by decide) iIRX12_20 mFRX12_59 rfl dX12_findWay_27 h30
  have h26 := az_aload_n C 0 rfl dX12_findWay_26 h27
  have h23 := az_if_le (tgt := 49) C dX12_findWay_23 (by decide) h49 h26
  have h22 := az_iload_n C 3 rfl dX12_findWay_22 h23
  exact h22
def LX12_findWay_22 (Q : Option Value → az_M → Prop) : az_T := s_lp (fun Z => BX12_findWay_22 Q Z)
theorem okLX12_findWay_22 {X : az_X} {Q : Option Value → az_M → Prop} (C : az_C X cX12_findWay 4 RX12 (az_ts yX12_findWay cX12_findWay 4 none) ({ frames := 1, cells := 0, slots := 0, locals := 100 } : Room) none Q) : az_ok X 22 (LX12_findWay_22 Q) := az_loop (F := fun Z => BX12_findWay_22 Q Z) (fun _ hZ => okBX12_findWay_22 C hZ)
def BX12_findWay_2 (Q : Option Value → az_M → Prop) (Z2 : az_T) : az_T := (s_li 3 (s_ic (nI 4) (s_if2 d_ge (s_li 1 (s_si 3 (s_kp [true, false, true, true] (LX12_findWay_22 Q)))) (s_la 0 (s_gr 13 20 (s_li 3 (s_ic (nI 0) (s_as (s_inc 3 (nI 1) (s_kp [true, true, true, true] Z2))))))))))
theorem okBX12_findWay_2 {X : az_X} {Q : Option Value → az_M → Prop} (C : az_C X cX12_findWay 4 RX12 (az_ts yX12_findWay cX12_findWay 4 none) ({ frames := 1, cells := 0, slots := 0, locals := 100 } : Room) none Q) {Z2 : az_T} (hZ2 : az_ok X 2 Z2) : az_ok X 2 (BX12_findWay_2 Q Z2) := by
  have h21 := az_istore_n C 3 rfl (by decide) dX12_findWay_21 (az_keep [true, false, true, true] (okLX12_findWay_22 C))
  have h20 := az_iload_n C 1 rfl dX12_findWay_20 h21
  have h17 := az_goto (tgt := 2) C dX12_findWay_17 (by decide) (az_keep [true, true, true, true] hZ2)
  have h14 := az_iinc (v := (nI 1)) C (by decide) (by decide +kernel) dX12_findWay_14 h17
  have h13 := az_iast C dX12_findWay_13 h14
  have h12 := az_iconst (x := (nI 0)) C dX12_findWay_12 (by decide +kernel) h13
  have h11 := az_iload_n C 3 rfl dX12_findWay_11 h12
  have h8 := az_getR (T := TX12) (N := 33) (j := 20) C gwRX12 rfl (by decide) (by decide) iIRX12_20 mFRX12_59 rfl dX12_findWay_8 h11
  have h7 := az_aload_n C 0 rfl dX12_findWay_7 h8
  have h4 := az_icmp_ge (tgt := 20) C dX12_findWay_4 (by decide) h20 h7
  have h3 := az_iconst (x := (nI 4)) C dX12_findWay_3 (by decide +kernel) h4
  have h2 := az_iload_n C 3 rfl dX12_findWay_2 h3
  exact h2
def LX12_findWay_2 (Q : Option Value → az_M → Prop) : az_T := s_lp (fun Z => BX12_findWay_2 Q Z)
theorem okLX12_findWay_2 {X : az_X} {Q : Option Value → az_M → Prop} (C : az_C X cX12_findWay 4 RX12 (az_ts yX12_findWay cX12_findWay 4 none) ({ frames := 1, cells := 0, slots := 0, locals := 100 } : Room) none Q) : az_ok X 2 (LX12_findWay_2 Q) := az_loop (F := fun Z => BX12_findWay_2 Q Z) (fun _ hZ => okBX12_findWay_2 C hZ)
def PX12_findWay (Q : Option Value → az_M → Prop) : az_T := (s_ic (nI 0) (s_si 3 (s_kp [true, true, true, true] (LX12_findWay_2 Q))))
def FX12_findWay : az_F := az_fun [true, false, false] 4 PX12_findWay
theorem okX12_findWay (l : Launch) : az_met l yX12_findWay cX12_findWay 4 none ({ frames := 1, cells := 0, slots := 0, locals := 100 } : Room) FX12_findWay := az_met_of (own := RX12) (by decide +kernel) rfl (by decide) (fun X Q C => by
  have h1 := az_istore_n C 3 rfl (by decide) dX12_findWay_1 (az_keep [true, true, true, true] (okLX12_findWay_2 C))
  have h0 := az_iconst (x := (nI 0)) C dX12_findWay_0 (by decide +kernel) h1
  exact h0) l
theorem dX12_deliver_0 : decode cX12_deliver 0 = .ok (.iload_n 3, 1) := by decide +kernel
theorem dX12_deliver_1 : decode cX12_deliver 1 = .ok (.istore 4, 2) := by decide +kernel
theorem dX12_deliver_3 : decode cX12_deliver 3 = .ok (.aload_n 0, 1) := by decide +kernel
theorem dX12_deliver_4 : decode cX12_deliver 4 = .ok (.iload_n 1, 1) := by decide +kernel
theorem dX12_deliver_5 : decode cX12_deliver 5 = .ok (.bipush 8, 2) := by decide +kernel
theorem dX12_deliver_7 : decode cX12_deliver 7 = .ok (.invokevirtual 128, 3) := by decide +kernel
theorem dX12_deliver_10 : decode cX12_deliver 10 = .ok (.istore 5, 2) := by decide +kernel
theorem dX12_deliver_12 : decode cX12_deliver 12 = .ok (.iconst 0, 1) := by decide +kernel
theorem dX12_deliver_13 : decode cX12_deliver 13 = .ok (.istore 6, 2) := by decide +kernel
theorem dX12_deliver_15 : decode cX12_deliver 15 = .ok (.iload 6, 2) := by decide +kernel
theorem dX12_deliver_17 : decode cX12_deliver 17 = .ok (.aload_n 0, 1) := by decide +kernel
theorem dX12_deliver_18 : decode cX12_deliver 18 = .ok (.getfield 9, 3) := by decide +kernel
theorem dX12_deliver_21 : decode cX12_deliver 21 = .ok (.iconst 1, 1) := by decide +kernel
theorem dX12_deliver_22 : decode cX12_deliver 22 = .ok (.iaload, 1) := by decide +kernel
theorem dX12_deliver_23 : decode cX12_deliver 23 = .ok (.if_icmp .ge 224, 3) := by decide +kernel
theorem dX12_deliver_26 : decode cX12_deliver 26 = .ok (.iload 6, 2) := by decide +kernel
theorem dX12_deliver_28 : decode cX12_deliver 28 = .ok (.ifCond .ne 8, 3) := by decide +kernel
theorem dX12_deliver_31 : decode cX12_deliver 31 = .ok (.iload 5, 2) := by decide +kernel
theorem dX12_deliver_33 : decode cX12_deliver 33 = .ok (.goto 19, 3) := by decide +kernel
theorem dX12_deliver_36 : decode cX12_deliver 36 = .ok (.iload 6, 2) := by decide +kernel
theorem dX12_deliver_38 : decode cX12_deliver 38 = .ok (.iload 5, 2) := by decide +kernel
theorem dX12_deliver_40 : decode cX12_deliver 40 = .ok (.if_icmp .gt 10, 3) := by decide +kernel
theorem dX12_deliver_43 : decode cX12_deliver 43 = .ok (.iload 6, 2) := by decide +kernel
theorem dX12_deliver_45 : decode cX12_deliver 45 = .ok (.iconst 1, 1) := by decide +kernel
theorem dX12_deliver_46 : decode cX12_deliver 46 = .ok (.isub, 1) := by decide +kernel
theorem dX12_deliver_47 : decode cX12_deliver 47 = .ok (.goto 5, 3) := by decide +kernel
theorem dX12_deliver_50 : decode cX12_deliver 50 = .ok (.iload 6, 2) := by decide +kernel
theorem dX12_deliver_52 : decode cX12_deliver 52 = .ok (.istore 7, 2) := by decide +kernel
theorem dX12_deliver_54 : decode cX12_deliver 54 = .ok (.aload_n 0, 1) := by decide +kernel
theorem dX12_deliver_55 : decode cX12_deliver 55 = .ok (.iload 5, 2) := by decide +kernel
theorem dX12_deliver_57 : decode cX12_deliver 57 = .ok (.iload 7, 2) := by decide +kernel
theorem dX12_deliver_59 : decode cX12_deliver 59 = .ok (.invokevirtual 163, 3) := by decide +kernel
theorem dX12_deliver_62 : decode cX12_deliver 62 = .ok (.iload 4, 2) := by decide +kernel
theorem dX12_deliver_64 : decode cX12_deliver 64 = .ok (.aload_n 0, 1) := by decide +kernel
theorem dX12_deliver_65 : decode cX12_deliver 65 = .ok (.getfield 53, 3) := by decide +kernel
theorem dX12_deliver_68 : decode cX12_deliver 68 = .ok (.iconst 4, 1) := by decide +kernel
theorem dX12_deliver_69 : decode cX12_deliver 69 = .ok (.iload_n 2, 1) := by decide +kernel
theorem dX12_deliver_70 : decode cX12_deliver 70 = .ok (.imul, 1) := by decide +kernel
theorem dX12_deliver_71 : decode cX12_deliver 71 = .ok (.iload 7, 2) := by decide +kernel
theorem dX12_deliver_73 : decode cX12_deliver 73 = .ok (.iadd, 1) := by decide +kernel
theorem dX12_deliver_74 : decode cX12_deliver 74 = .ok (.iaload, 1) := by decide +kernel
theorem dX12_deliver_75 : decode cX12_deliver 75 = .ok (.invokestatic 160, 3) := by decide +kernel
theorem dX12_deliver_78 : decode cX12_deliver 78 = .ok (.istore 8, 2) := by decide +kernel
theorem dX12_deliver_80 : decode cX12_deliver 80 = .ok (.iconst 1, 1) := by decide +kernel
theorem dX12_deliver_81 : decode cX12_deliver 81 = .ok (.istore 9, 2) := by decide +kernel
theorem dX12_deliver_83 : decode cX12_deliver 83 = .ok (.iload 9, 2) := by decide +kernel
theorem dX12_deliver_85 : decode cX12_deliver 85 = .ok (.aload_n 0, 1) := by decide +kernel
theorem dX12_deliver_86 : decode cX12_deliver 86 = .ok (.getfield 9, 3) := by decide +kernel
theorem dX12_deliver_89 : decode cX12_deliver 89 = .ok (.iconst 1, 1) := by decide +kernel
theorem dX12_deliver_90 : decode cX12_deliver 90 = .ok (.iaload, 1) := by decide +kernel
theorem dX12_deliver_91 : decode cX12_deliver 91 = .ok (.if_icmp .ge 62, 3) := by decide +kernel
theorem dX12_deliver_94 : decode cX12_deliver 94 = .ok (.aload_n 0, 1) := by decide +kernel
theorem dX12_deliver_95 : decode cX12_deliver 95 = .ok (.getfield 59, 3) := by decide +kernel
theorem dX12_deliver_98 : decode cX12_deliver 98 = .ok (.iload 9, 2) := by decide +kernel
theorem dX12_deliver_100 : decode cX12_deliver 100 = .ok (.iaload, 1) := by decide +kernel
theorem dX12_deliver_101 : decode cX12_deliver 101 = .ok (.ifCond .ne 8, 3) := by decide +kernel
theorem dX12_deliver_104 : decode cX12_deliver 104 = .ok (.iload 8, 2) := by decide +kernel
theorem dX12_deliver_106 : decode cX12_deliver 106 = .ok (.goto 39, 3) := by decide +kernel
theorem dX12_deliver_109 : decode cX12_deliver 109 = .ok (.iload 8, 2) := by decide +kernel
theorem dX12_deliver_111 : decode cX12_deliver 111 = .ok (.aload_n 0, 1) := by decide +kernel
theorem dX12_deliver_112 : decode cX12_deliver 112 = .ok (.getfield 9, 3) := by decide +kernel
theorem dX12_deliver_115 : decode cX12_deliver 115 = .ok (.sipush 129, 3) := by decide +kernel
theorem dX12_deliver_118 : decode cX12_deliver 118 = .ok (.iload 9, 2) := by decide +kernel
theorem dX12_deliver_120 : decode cX12_deliver 120 = .ok (.iadd, 1) := by decide +kernel
theorem dX12_deliver_121 : decode cX12_deliver 121 = .ok (.iaload, 1) := by decide +kernel
theorem dX12_deliver_122 : decode cX12_deliver 122 = .ok (.aload_n 0, 1) := by decide +kernel
theorem dX12_deliver_123 : decode cX12_deliver 123 = .ok (.getfield 59, 3) := by decide +kernel
theorem dX12_deliver_126 : decode cX12_deliver 126 = .ok (.iload 9, 2) := by decide +kernel
theorem dX12_deliver_128 : decode cX12_deliver 128 = .ok (.iaload, 1) := by decide +kernel
theorem dX12_deliver_129 : decode cX12_deliver 129 = .ok (.aload_n 0, 1) := by decide +kernel
theorem dX12_deliver_130 : decode cX12_deliver 130 = .ok (.getfield 56, 3) := by decide +kernel
theorem dX12_deliver_133 : decode cX12_deliver 133 = .ok (.iconst 4, 1) := by decide +kernel
theorem dX12_deliver_134 : decode cX12_deliver 134 = .ok (.iload_n 2, 1) := by decide +kernel
theorem dX12_deliver_135 : decode cX12_deliver 135 = .ok (.imul, 1) := by decide +kernel
theorem dX12_deliver_136 : decode cX12_deliver 136 = .ok (.iload 9, 2) := by decide +kernel
theorem dX12_deliver_138 : decode cX12_deliver 138 = .ok (.iadd, 1) := by decide +kernel
theorem dX12_deliver_139 : decode cX12_deliver 139 = .ok (.iaload, 1) := by decide +kernel
theorem dX12_deliver_140 : decode cX12_deliver 140 = .ok (.imul, 1) := by decide +kernel
theorem dX12_deliver_141 : decode cX12_deliver 141 = .ok (.isub, 1) := by decide +kernel
theorem dX12_deliver_142 : decode cX12_deliver 142 = .ok (.invokestatic 160, 3) := by decide +kernel
theorem dX12_deliver_145 : decode cX12_deliver 145 = .ok (.istore 8, 2) := by decide +kernel
theorem dX12_deliver_147 : decode cX12_deliver 147 = .ok (.iinc 9 1, 3) := by decide +kernel
theorem dX12_deliver_150 : decode cX12_deliver 150 = .ok (.goto (-67), 3) := by decide +kernel
theorem dX12_deliver_153 : decode cX12_deliver 153 = .ok (.iconst 1, 1) := by decide +kernel
theorem dX12_deliver_154 : decode cX12_deliver 154 = .ok (.istore 9, 2) := by decide +kernel
theorem dX12_deliver_156 : decode cX12_deliver 156 = .ok (.iload 9, 2) := by decide +kernel
theorem dX12_deliver_158 : decode cX12_deliver 158 = .ok (.aload_n 0, 1) := by decide +kernel
theorem dX12_deliver_159 : decode cX12_deliver 159 = .ok (.getfield 9, 3) := by decide +kernel
theorem dX12_deliver_162 : decode cX12_deliver 162 = .ok (.iconst 1, 1) := by decide +kernel
theorem dX12_deliver_163 : decode cX12_deliver 163 = .ok (.iaload, 1) := by decide +kernel
theorem dX12_deliver_164 : decode cX12_deliver 164 = .ok (.if_icmp .ge 33, 3) := by decide +kernel
theorem dX12_deliver_167 : decode cX12_deliver 167 = .ok (.aload_n 0, 1) := by decide +kernel
theorem dX12_deliver_168 : decode cX12_deliver 168 = .ok (.getfield 56, 3) := by decide +kernel
theorem dX12_deliver_171 : decode cX12_deliver 171 = .ok (.iconst 4, 1) := by decide +kernel
theorem dX12_deliver_172 : decode cX12_deliver 172 = .ok (.iload_n 2, 1) := by decide +kernel
theorem dX12_deliver_173 : decode cX12_deliver 173 = .ok (.imul, 1) := by decide +kernel
theorem dX12_deliver_174 : decode cX12_deliver 174 = .ok (.iload 9, 2) := by decide +kernel
theorem dX12_deliver_176 : decode cX12_deliver 176 = .ok (.iadd, 1) := by decide +kernel
theorem dX12_deliver_177 : decode cX12_deliver 177 = .ok (.dup2, 1) := by decide +kernel
theorem dX12_deliver_178 : decode cX12_deliver 178 = .ok (.iaload, 1) := by decide +kernel
theorem dX12_deliver_179 : decode cX12_deliver 179 = .ok (.aload_n 0, 1) := by decide +kernel
theorem dX12_deliver_180 : decode cX12_deliver 180 = .ok (.getfield 59, 3) := by decide +kernel
theorem dX12_deliver_183 : decode cX12_deliver 183 = .ok (.iload 9, 2) := by decide +kernel
theorem dX12_deliver_185 : decode cX12_deliver 185 = .ok (.iaload, 1) := by decide +kernel
theorem dX12_deliver_186 : decode cX12_deliver 186 = .ok (.iload 8, 2) := by decide +kernel
theorem dX12_deliver_188 : decode cX12_deliver 188 = .ok (.imul, 1) := by decide +kernel
theorem dX12_deliver_189 : decode cX12_deliver 189 = .ok (.iadd, 1) := by decide +kernel
theorem dX12_deliver_190 : decode cX12_deliver 190 = .ok (.iastore, 1) := by decide +kernel
theorem dX12_deliver_191 : decode cX12_deliver 191 = .ok (.iinc 9 1, 3) := by decide +kernel
theorem dX12_deliver_194 : decode cX12_deliver 194 = .ok (.goto (-38), 3) := by decide +kernel
theorem dX12_deliver_197 : decode cX12_deliver 197 = .ok (.aload_n 0, 1) := by decide +kernel
theorem dX12_deliver_198 : decode cX12_deliver 198 = .ok (.getfield 53, 3) := by decide +kernel
theorem dX12_deliver_201 : decode cX12_deliver 201 = .ok (.iconst 4, 1) := by decide +kernel
theorem dX12_deliver_202 : decode cX12_deliver 202 = .ok (.iload_n 2, 1) := by decide +kernel
theorem dX12_deliver_203 : decode cX12_deliver 203 = .ok (.imul, 1) := by decide +kernel
theorem dX12_deliver_204 : decode cX12_deliver 204 = .ok (.iload 7, 2) := by decide +kernel
theorem dX12_deliver_206 : decode cX12_deliver 206 = .ok (.iadd, 1) := by decide +kernel
theorem dX12_deliver_207 : decode cX12_deliver 207 = .ok (.dup2, 1) := by decide +kernel
theorem dX12_deliver_208 : decode cX12_deliver 208 = .ok (.iaload, 1) := by decide +kernel
theorem dX12_deliver_209 : decode cX12_deliver 209 = .ok (.iload 8, 2) := by decide +kernel
theorem dX12_deliver_211 : decode cX12_deliver 211 = .ok (.isub, 1) := by decide +kernel
theorem dX12_deliver_212 : decode cX12_deliver 212 = .ok (.iastore, 1) := by decide +kernel
theorem dX12_deliver_213 : decode cX12_deliver 213 = .ok (.aload_n 0, 1) := by decide +kernel
theorem dX12_deliver_214 : decode cX12_deliver 214 = .ok (.getfield 50, 3) := by decide +kernel
theorem dX12_deliver_217 : decode cX12_deliver 217 = .ok (.iconst 4, 1) := by decide +kernel
theorem dX12_deliver_218 : decode cX12_deliver 218 = .ok (.bipush 6, 2) := by decide +kernel
theorem dX12_deliver_220 : decode cX12_deliver 220 = .ok (.iload_n 2, 1) := by decide +kernel
theorem dX12_deliver_221 : decode cX12_deliver 221 = .ok (.imul, 1) := by decide +kernel
theorem dX12_deliver_222 : decode cX12_deliver 222 = .ok (.iload_n 1, 1) := by decide +kernel
theorem dX12_deliver_223 : decode cX12_deliver 223 = .ok (.iadd, 1) := by decide +kernel
theorem dX12_deliver_224 : decode cX12_deliver 224 = .ok (.imul, 1) := by decide +kernel
theorem dX12_deliver_225 : decode cX12_deliver 225 = .ok (.iload 7, 2) := by decide +kernel
theorem dX12_deliver_227 : decode cX12_deliver 227 = .ok (.iadd, 1) := by decide +kernel
theorem dX12_deliver_228 : decode cX12_deliver 228 = .ok (.dup2, 1) := by decide +kernel
theorem dX12_deliver_229 : decode cX12_deliver 229 = .ok (.iaload, 1) := by decide +kernel
theorem dX12_deliver_230 : decode cX12_deliver 230 = .ok (.iload 8, 2) := by decide +kernel
theorem dX12_deliver_232 : decode cX12_deliver 232 = .ok (.iadd, 1) := by decide +kernel
theorem dX12_deliver_233 : decode cX12_deliver 233 = .ok (.iastore, 1) := by decide +kernel
theorem dX12_deliver_234 : decode cX12_deliver 234 = .ok (.iload 4, 2) := by decide +kernel
theorem dX12_deliver_236 : decode cX12_deliver 236 = .ok (.iload 8, 2) := by decide +kernel
theorem dX12_deliver_238 : decode cX12_deliver 238 = .ok (.isub, 1) := by decide +kernel
theorem dX12_deliver_239 : decode cX12_deliver 239 = .ok (.istore 4, 2) := by decide +kernel
theorem dX12_deliver_241 : decode cX12_deliver 241 = .ok (.iinc 6 1, 3) := by decide +kernel
theorem dX12_deliver_244 : decode cX12_deliver 244 = .ok (.goto (-229), 3) := by decide +kernel
theorem dX12_deliver_247 : decode cX12_deliver 247 = .ok (.iload 4, 2) := by decide +kernel
theorem dX12_deliver_249 : decode cX12_deliver 249 = .ok (.ireturn, 1) := by decide +kernel
def BX12_deliver_156 (Q : Option Value → az_M → Prop) (Z15 : az_T) (Z156 : az_T) : az_T := (s_li 9 (s_la 0 (s_gr 13 0 (s_ic (nI 1) (s_al 20 (s_if2 d_ge (s_la 0 (s_gr 13 18 (s_ic (nI 4) (s_li 2 (s_bin f_mul (s_li 7 (s_bin f_add (s_dup2 (s_al 20 (s_li 8 (s_bin f_sub (s_as (s_la 0 (s_gr 13 17 (s_ic (nI 4) (s_ic (nI 6) (s_li 2 (s_bin f_mul (s_li 1 (s_bin f_add (s_bin f_mul (s_li 7 (s_bin f_add (s_dup2 (s_al 20 (s_li 8 (s_bin f_add (s_as (s_li 4 (s_li 8 (s_bin f_sub (s_si 4 (s_inc 6 (nI 1) (s_kp [true, true, true, false, true, true, true, false, false, false] Z15)))))))))))))))))))))))))))))))))) (s_la 0 (s_gr 13 19 (s_ic (nI 4) (s_li 2 (s_bin f_mul (s_li 9 (s_bin f_add (s_dup2 (s_al 20 (s_la 0 (s_gr 13 20 (s_li 9 (s_al 20 (s_li 8 (s_bin f_mul (s_bin f_add (s_as (s_inc 9 (nI 1) (s_kp [true, true, true, false, true, true, true, true, true, true] Z156)))))))))))))))))))))))))
theorem okBX12_deliver_156 {X : az_X} {Q : Option Value → az_M → Prop} (C : az_C X cX12_deliver 10 RX12 (az_ts yX12_deliver cX12_deliver 10 (some .int)) ({ frames := 3, cells := 0, slots := 0, locals := 143 } : Room) (some .int) Q) {Z15 : az_T} (hZ15 : az_ok X 15 Z15) {Z156 : az_T} (hZ156 : az_ok X 156 Z156) : az_ok X 156 (BX12_deliver_156 Q Z15 Z156) := by
  have h244 := az_goto (tgt := 15) C dX12_deliver_244 (by decide) (az_keep [true, true, true, false, true, true, true, false, false, false] hZ15)
  have h241 := az_iinc (v := (nI 1)) C (by decide) (by decide +kernel) dX12_deliver_241 h244
  have h239 := az_istore C (by decide) dX12_deliver_239 h241
  have h238 := az_isub C dX12_deliver_238 h239
  have h236 := az_iload C dX12_deliver_236 h238
  have h234 := az_iload C dX12_deliver_234 h236
  have h233 := az_iast C dX12_deliver_233 h234
  have h232 := az_iadd C dX12_deliver_232 h233
  have h230 := az_iload C dX12_deliver_230 h232
  have h229 := az_iald C dX12_deliver_229 h230
  have h228 := az_dup2 C dX12_deliver_228 h229
  have h227 := az_iadd C dX12_deliver_227 h228
  have h225 := az_iload C dX12_deliver_225 h227
  have h224 := az_imul C dX12_deliver_224 h225
  have h223 := az_iadd C dX12_deliver_223 h224
  have h222 := az_iload_n C 1 rfl dX12_deliver_222 h223
  have h221 := az_imul C dX12_deliver_221 h222
  have h220 := az_iload_n C 2 rfl dX12_deliver_220 h221
  have h218 := az_bipush (x := (nI 6)) C dX12_deliver_218 (by decide +kernel) h220
  have h217 := az_iconst (x := (nI 4)) C dX12_deliver_217 (by decide +kernel) h218
  have h214 := az_getR (T := TX12) (N := 33) (j := 17) C gwRX12 rfl (by decide) (by decide) iIRX12_17 mFRX12_50 rfl dX12_deliver_214 h217
  have h213 := az_aload_n C 0 rfl dX12_deliver_213 h214
  have h212 := az_iast C dX12_deliver_212 h213
  have h211 := az_isub C dX12_deliver_211 h212
  have h209 := az_iload C dX12_deliver_209 h211
  have h208 := az_iald C dX12_deliver_208 h209
  have h207 := az_dup2 C dX12_deliver_207 h208
  have h206 := az_iadd C dX12_deliver_206 h207
  have h204 := az_iload C dX12_deliver_204 h206
  have h203 := az_imul C dX12_deliver_203 h204
  have h202 := az_iload_n C 2 rfl dX12_deliver_202 h203
  have h201 := az_iconst (x := (nI 4)) C dX12_deliver_201 (by decide +kernel) h202
  have h198 := az_getR (T := TX12) (N := 33) (j := 18) C gwRX12 rfl (by decide) (by decide) iIRX12_18 mFRX12_53 rfl dX12_deliver_198 h201
  have h197 := az_aload_n C 0 rfl dX12_deliver_197 h198
  have h194 := az_goto (tgt := 156) C dX12_deliver_194 (by decide) (az_keep [true, true, true, false, true, true, true, true, true, true] hZ156)
  have h191 := az_iinc (v := (nI 1)) C (by decide) (by decide +kernel) dX12_deliver_191 h194
  have h190 := az_iast C dX12_deliver_190 h191
  have h189 := az_iadd C dX12_deliver_189 h190
  have h188 := az_imul C dX12_deliver_188 h189
  have h186 := az_iload C dX12_deliver_186 h188
  have h185 := az_iald C dX12_deliver_185 h186
  have h183 := az_iload C dX12_deliver_183 h185
  have h180 := az_getR (T := TX12) (N := 33) (j := 20) C gwRX12 rfl (by decide) (by decide) iIRX12_20 mFRX12_59 rfl dX12_deliver_180 h183
  have h179 := az_aload_n C 0 rfl dX12_deliver_179 h180
  have h178 := az_iald C dX12_deliver_178 h179
  have h177 := az_dup2 C dX12_deliver_177 h178
  have h176 := az_iadd C dX12_deliver_176 h177
  have h174 := az_iload C dX12_deliver_174 h176
  have h173 := az_imul C dX12_deliver_173 h174
  have h172 := az_iload_n C 2 rfl dX12_deliver_172 h173
  have h171 := az_iconst (x := (nI 4)) C dX12_deliver_171 (by decide +kernel) h172
  have h168 := az_getR (T := TX12) (N := 33) (j := 19) C gwRX12 rfl (by decide) (by decide) iIRX12_19 mFRX12_56 rfl dX12_deliver_168 h171
  have h167 := az_aload_n C 0 rfl dX12_deliver_167 h168
  have h164 := az_icmp_ge (tgt := 197) C dX12_deliver_164 (by decide) h197 h167
  have h163 := az_iald C dX12_deliver_163 h164
  have h162 := az_iconst (x := (nI 1)) C dX12_deliver_162 (by decide +kernel) h163
  have h159 := az_getR (T := TX12) (N := 33) (j := 0) C gwRX12 rfl (by decide) (by decide) iIRX12_0 mFRX12_9 rfl dX12_deliver_159 h162
  have h158 := az_aload_n C 0 rfl dX12_deliver_158 h159
  have h156 := az_iload C dX12_deliver_156 h158
  exact h156
def LX12_deliver_156 (Q : Option Value → az_M → Prop) (Z15 : az_T) : az_T := s_lp (fun Z => BX12_deliver_156 Q Z15 Z)
theorem okLX12_deliver_156 {X : az_X} {Q : Option Value → az_M → Prop} (C : az_C X cX12_deliver 10 RX12 (az_ts yX12_deliver cX12_deliver 10 (some .int)) ({ frames := 3, cells := 0, slots := 0, locals := 143 } : Room) (some .int) Q) {Z15 : az_T} (hZ15 : az_ok X 15 Z15) : az_ok X 156 (LX12_deliver_156 Q Z15) := az_loop (F := fun Z => BX12_deliver_156 Q Z15 Z) (fun _ hZ => okBX12_deliver_156 C hZ15 hZ)
def LX12_deliver_145 (Q : Option Value → az_M → Prop) (Z15 : az_T) (Z83 : az_T) : az_T := (s_si 8 (s_inc 9 (nI 1) (s_kp [true, true, true, false, true, true, true, true, true, true] Z83)))
theorem okLX12_deliver_145 {X : az_X} {Q : Option Value → az_M → Prop} (C : az_C X cX12_deliver 10 RX12 (az_ts yX12_deliver cX12_deliver 10 (some .int)) ({ frames := 3, cells := 0, slots := 0, locals := 143 } : Room) (some .int) Q) {Z15 : az_T} (hZ15 : az_ok X 15 Z15) {Z83 : az_T} (hZ83 : az_ok X 83 Z83) : az_ok X 145 (LX12_deliver_145 Q Z15 Z83) := by
  have h150 := az_goto (tgt := 83) C dX12_deliver_150 (by decide) (az_keep [true, true, true, false, true, true, true, true, true, true] hZ83)
  have h147 := az_iinc (v := (nI 1)) C (by decide) (by decide +kernel) dX12_deliver_147 h150
  have h145 := az_istore C (by decide) dX12_deliver_145 h147
  exact h145
def BX12_deliver_83 (Q : Option Value → az_M → Prop) (Z15 : az_T) (Z83 : az_T) : az_T := (s_li 9 (s_la 0 (s_gr 13 0 (s_ic (nI 1) (s_al 20 (s_if2 d_ge (s_ic (nI 1) (s_si 9 (s_kp [true, true, true, false, true, true, true, true, true, true] (LX12_deliver_156 Q Z15)))) (s_la 0 (s_gr 13 20 (s_li 9 (s_al 20 (s_if c_ne (s_li 8 (s_la 0 (s_gr 13 0 (s_ic (nI 129) (s_li 9 (s_bin f_add (s_al 20 (s_la 0 (s_gr 13 20 (s_li 9 (s_al 20 (s_la 0 (s_gr 13 19 (s_ic (nI 4) (s_li 2 (s_bin f_mul (s_li 9 (s_bin f_add (s_al 20 (s_bin f_mul (s_bin f_sub (s_mn (s_kp [true, true, true, false, true, true, true, true, false, true] (LX12_deliver_145 Q Z15 Z83)))))))))))))))))))))))) (s_li 8 (s_kp [true, true, true, false, true, true, true, true, false, true] (LX12_deliver_145 Q Z15 Z83))))))))))))))
theorem okBX12_deliver_83 {X : az_X} {Q : Option Value → az_M → Prop} (C : az_C X cX12_deliver 10 RX12 (az_ts yX12_deliver cX12_deliver 10 (some .int)) ({ frames := 3, cells := 0, slots := 0, locals := 143 } : Room) (some .int) Q) {Z15 : az_T} (hZ15 : az_ok X 15 Z15) {Z83 : az_T} (hZ83 : az_ok X 83 Z83) : az_ok X 83 (BX12_deliver_83 Q Z15 Z83) := by
  have h154 := az_istore C (by decide) dX12_deliver_154 (az_keep [true, true, true, false, true, true, true, true, true, true] (okLX12_deliver_156 C hZ15))
  have h153 := az_iconst (x := (nI 1)) C dX12_deliver_153 (by decide +kernel) h154
  have h142 := az_mmin C mLRX12_160 mx_st_min mx_ini mx_co_min (by decide) (by decide) dX12_deliver_142 (az_keep [true, true, true, false, true, true, true, true, false, true] (okLX12_deliver_145 C hZ15 hZ83))
  have h141 := az_isub C dX12_deliver_141 h142
  have h140 := az_imul C dX12_deliver_140 h141
  have h139 := az_iald C dX12_deliver_139 h140
  have h138 := az_iadd C dX12_deliver_138 h139
  have h136 := az_iload C dX12_deliver_136 h138
  have h135 := az_imul C dX12_deliver_135 h136
  have h134 := az_iload_n C 2 rfl dX12_deliver_134 h135
  have h133 := az_iconst (x := (nI 4)) C dX12_deliver_133 (by decide +kernel) h134
  have h130 := az_getR (T := TX12) (N := 33) (j := 19) C gwRX12 rfl (by decide) (by decide) iIRX12_19 mFRX12_56 rfl dX12_deliver_130 h133
  have h129 := az_aload_n C 0 rfl dX12_deliver_129 h130
  have h128 := az_iald C dX12_deliver_128 h129
  have h126 := az_iload C dX12_deliver_126 h128
  have h123 := az_getR (T := TX12) (N := 33) (j := 20) C gwRX12 rfl (by decide) (by decide) iIRX12_20 mFRX12_59 rfl dX12_deliver_123 h126
  have h122 := az_aload_n C 0 rfl dX12_deliver_122 h123
  have h121 := az_iald C dX12_deliver_121 h122
  have h120 := az_iadd C dX12_deliver_120 h121
  have h118 := az_iload C dX12_deliver_118 h120
  have h115 := az_sipush (x := (nI 129)) C dX12_deliver_115 (by decide +kernel) h118
  have h112 := az_getR (T := TX12) (N := 33) (j := 0) C gwRX12 rfl (by decide) (by decide) iIRX12_0 mFRX12_9 rfl dX12_deliver_112 h115
  have h111 := az_aload_n C 0 rfl dX12_deliver_111 h112
  have h109 := az_iload C dX12_deliver_109 h111
  have h106 := az_goto (tgt := 145) C dX12_deliver_106 (by decide) (az_keep [true, true, true, false, true, true, true, true, false, true] (okLX12_deliver_145 C hZ15 hZ83))
  have h104 := az_iload C dX12_deliver_104 h106
  have h101 := az_if_ne (tgt := 109) C dX12_deliver_101 (by decide) h109 h104
  have h100 := az_iald C dX12_deliver_100 h101
  have h98 := az_iload C dX12_deliver_98 h100
  have h95 := az_getR (T := TX12) (N := 33) (j := 20) C gwRX12 rfl (by decide) (by decide) iIRX12_20 mFRX12_59 rfl dX12_deliver_95 h98
  have h94 := az_aload_n C 0 rfl dX12_deliver_94 h95
  have h91 := az_icmp_ge (tgt := 153) C dX12_deliver_91 (by decide) h153 h94
  have h90 := az_iald C dX12_deliver_90 h91
  have h89 := az_iconst (x := (nI 1)) C dX12_deliver_89 (by decide +kernel) h90
  have h86 := az_getR (T := TX12) (N := 33) (j := 0) C gwRX12 rfl (by decide) (by decide) iIRX12_0 mFRX12_9 rfl dX12_deliver_86 h89
  have h85 := az_aload_n C 0 rfl dX12_deliver_85 h86
  have h83 := az_iload C dX12_deliver_83 h85
  exact h83
def LX12_deliver_83 (Q : Option Value → az_M → Prop) (Z15 : az_T) : az_T := s_lp (fun Z => BX12_deliver_83 Q Z15 Z)
theorem okLX12_deliver_83 {X : az_X} {Q : Option Value → az_M → Prop} (C : az_C X cX12_deliver 10 RX12 (az_ts yX12_deliver cX12_deliver 10 (some .int)) ({ frames := 3, cells := 0, slots := 0, locals := 143 } : Room) (some .int) Q) {Z15 : az_T} (hZ15 : az_ok X 15 Z15) : az_ok X 83 (LX12_deliver_83 Q Z15) := az_loop (F := fun Z => BX12_deliver_83 Q Z15 Z) (fun _ hZ => okBX12_deliver_83 C hZ15 hZ)
def LX12_deliver_52 (Q : Option Value → az_M → Prop) (Z15 : az_T) : az_T := (s_si 7 (s_la 0 (s_li 5 (s_li 7 (s_cv 2 13 FX12_findWay (s_li 4 (s_la 0 (s_gr 13 18 (s_ic (nI 4) (s_li 2 (s_bin f_mul (s_li 7 (s_bin f_add (s_al 20 (s_mn (s_si 8 (s_ic (nI 1) (s_si 9 (s_kp [true, true, true, false, true, true, true, true, true, true] (LX12_deliver_83 Q Z15))))))))))))))))))))
theorem okLX12_deliver_52 {X : az_X} {Q : Option Value → az_M → Prop} (C : az_C X cX12_deliver 10 RX12 (az_ts yX12_deliver cX12_deliver 10 (some .int)) ({ frames := 3, cells := 0, slots := 0, locals := 143 } : Room) (some .int) Q) {Z15 : az_T} (hZ15 : az_ok X 15 Z15) : az_ok X 52 (LX12_deliver_52 Q Z15) := by
  have h81 := az_istore C (by decide) dX12_deliver_81 (az_keep [true, true, true, false, true, true, true, true, true, true] (okLX12_deliver_83 C hZ15))
  have h80 := az_iconst (x := (nI 1)) C dX12_deliver_80 (by decide +kernel) h81
  have h78 := az_istore C (by decide) dX12_deliver_78 h80
  have h75 := az_mmin C mLRX12_160 mx_st_min mx_ini mx_co_min (by decide) (by decide) dX12_deliver_75 h78
  have h74 := az_iald C dX12_deliver_74 h75
  have h73 := az_iadd C dX12_deliver_73 h74
  have h71 := az_iload C dX12_deliver_71 h73
  have h70 := az_imul C dX12_deliver_70 h71
  have h69 := az_iload_n C 2 rfl dX12_deliver_69 h70
  have h68 := az_iconst (x := (nI 4)) C dX12_deliver_68 (by decide +kernel) h69
  have h65 := az_getR (T := TX12) (N := 33) (j := 18) C gwRX12 rfl (by decide) (by decide) iIRX12_18 mFRX12_53 rfl dX12_deliver_65 h68
  have h64 := az_aload_n C 0 rfl dX12_deliver_64 h65
  have h62 := az_iload C dX12_deliver_62 h64
  have h59 := az_callV (ci := 13) C okX12_findWay knX12_findWay imX12_findWay seX12_findWay mLRX12_163 rfl (by decide) ⟨rfl, rfl, by decide, by decide⟩ dX12_deliver_59 h62
  have h57 := az_iload C dX12_deliver_57 h59
  have h55 := az_iload C dX12_deliver_55 h57
  have h54 := az_aload_n C 0 rfl dX12_deliver_54 h55
  have h52 := az_istore C (by decide) dX12_deliver_52 h54
  exact h52
def BX12_deliver_15 (Q : Option Value → az_M → Prop) (Z15 : az_T) : az_T := (s_li 6 (s_la 0 (s_gr 13 0 (s_ic (nI 1) (s_al 20 (s_if2 d_ge (s_li 4 (s_ri Q)) (s_li 6 (s_if c_ne (s_li 6 (s_li 5 (s_if2 d_gt (s_li 6 (s_kp [true, true, true, false, true, true, true, false, false, false] (LX12_deliver_52 Q Z15))) (s_li 6 (s_ic (nI 1) (s_bin f_sub (s_kp [true, true, true, false, true, true, true, false, false, false] (LX12_deliver_52 Q Z15)))))))) (s_li 5 (s_kp [true, true, true, false, true, true, true, false, false, false] (LX12_deliver_52 Q Z15)))))))))))
theorem okBX12_deliver_15 {X : az_X} {Q : Option Value → az_M → Prop} (C : az_C X cX12_deliver 10 RX12 (az_ts yX12_deliver cX12_deliver 10 (some .int)) ({ frames := 3, cells := 0, slots := 0, locals := 143 } : Room) (some .int) Q) {Z15 : az_T} (hZ15 : az_ok X 15 Z15) : az_ok X 15 (BX12_deliver_15 Q Z15) := by
  have h249 := az_ireturn C rfl dX12_deliver_249
  have h247 := az_iload C dX12_deliver_247 h249
  have h50 := az_iload C dX12_deliver_50 (az_keep [true, true, true, false, true, true, true, false, false, false] (okLX12_deliver_52 C hZ15))
  have h47 := az_goto (tgt := 52) C dX12_deliver_47 (by decide) (az_keep [true, true, true, false, true, true, true, false, false, false] (okLX12_deliver_52 C hZ15))
  have h46 := az_isub C dX12_deliver_46 h47
  have h45 := az_iconst (x := (nI 1)) C dX12_deliver_45 (by decide +kernel) h46
  have h43 := az_iload C dX12_deliver_43 h45
  have h40 := az_icmp_gt (tgt := 50) C dX12_deliver_40 (by decide) h50 h43
  have h38 := az_iload C dX12_deliver_38 h40
  have h36 := az_iload C dX12_deliver_36 h38
  have h33 := az_goto (tgt := 52) C dX12_deliver_33 (by decide) (az_keep [true, true, true, false, true, true, true, false, false, false] (okLX12_deliver_52 C hZ15))
  have h31 := az_iload C dX12_deliver_31 h33
  have h28 := az_if_ne (tgt := 36) C dX12_deliver_28 (by decide) h36 h31
  have h26 := az_iload C dX12_deliver_26 h28
  have h23 := az_icmp_ge (tgt := 247) C dX12_deliver_23 (by decide) h247 h26
  have h22 := az_iald C dX12_deliver_22 h23
  have h21 := az_iconst (x := (nI 1)) C dX12_deliver_21 (by decide +kernel) h22
  have h18 := az_getR (T := TX12) (N := 33) (j := 0) C gwRX12 rfl (by decide) (by decide) iIRX12_0 mFRX12_9 rfl dX12_deliver_18 h21
  have h17 := az_aload_n C 0 rfl dX12_deliver_17 h18
  have h15 := az_iload C dX12_deliver_15 h17
  exact h15
def LX12_deliver_15 (Q : Option Value → az_M → Prop) : az_T := s_lp (fun Z => BX12_deliver_15 Q Z)
theorem okLX12_deliver_15 {X : az_X} {Q : Option Value → az_M → Prop} (C : az_C X cX12_deliver 10 RX12 (az_ts yX12_deliver cX12_deliver 10 (some .int)) ({ frames := 3, cells := 0, slots := 0, locals := 143 } : Room) (some .int) Q) : az_ok X 15 (LX12_deliver_15 Q) := az_loop (F := fun Z => BX12_deliver_15 Q Z) (fun _ hZ => okBX12_deliver_15 C hZ)
def PX12_deliver (Q : Option Value → az_M → Prop) : az_T := (s_li 3 (s_si 4 (s_la 0 (s_li 1 (s_ic (nI 8) (s_cv 2 13 FX12_of (s_si 5 (s_ic (nI 0) (s_si 6 (s_kp [true, true, true, false, true, true, true, false, false, false] (LX12_deliver_15 Q)))))))))))
def FX12_deliver : az_F := az_fun [true, false, false, false] 10 PX12_deliver
theorem okX12_deliver (l : Launch) : az_met l yX12_deliver cX12_deliver 10 (some .int) ({ frames := 3, cells := 0, slots := 0, locals := 143 } : Room) FX12_deliver := az_met_of (own := RX12) (by decide +kernel) rfl (by decide) (fun X Q C => by
  have h13 := az_istore C (by decide) dX12_deliver_13 (az_keep [true, true, true, false, true, true, true, false, false, false] (okLX12_deliver_15 C))
  have h12 := az_iconst (x := (nI 0)) C dX12_deliver_12 (by decide +kernel) h13
  have h10 := az_istore C (by decide) dX12_deliver_10 h12
  have h7 := az_callV (ci := 13) C okX12_of knX12_of imX12_of seX12_of mLRX12_128 rfl (by decide) ⟨rfl, rfl, by decide, by decide⟩ dX12_deliver_7 h10
  have h5 := az_bipush (x := (nI 8)) C dX12_deliver_5 (by decide +kernel) h7
  have h4 := az_iload_n C 1 rfl dX12_deliver_4 h5
  have h3 := az_aload_n C 0 rfl dX12_deliver_3 h4
  have h1 := az_istore C (by decide) dX12_deliver_1 h3
  have h0 := az_iload_n C 3 rfl dX12_deliver_0 h1
  exact h0) l
theorem dX12_dispatch_0 : decode cX12_dispatch 0 = .ok (.iconst 0, 1) := by decide +kernel
theorem dX12_dispatch_1 : decode cX12_dispatch 1 = .ok (.istore_n 2, 1) := by decide +kernel
theorem dX12_dispatch_2 : decode cX12_dispatch 2 = .ok (.iload_n 2, 1) := by decide +kernel
theorem dX12_dispatch_3 : decode cX12_dispatch 3 = .ok (.iconst 4, 1) := by decide +kernel
theorem dX12_dispatch_4 : decode cX12_dispatch 4 = .ok (.if_icmp .ge 57, 3) := by decide +kernel
theorem dX12_dispatch_7 : decode cX12_dispatch 7 = .ok (.aload_n 0, 1) := by decide +kernel
theorem dX12_dispatch_8 : decode cX12_dispatch 8 = .ok (.getfield 53, 3) := by decide +kernel
theorem dX12_dispatch_11 : decode cX12_dispatch 11 = .ok (.iconst 4, 1) := by decide +kernel
theorem dX12_dispatch_12 : decode cX12_dispatch 12 = .ok (.iload_n 1, 1) := by decide +kernel
theorem dX12_dispatch_13 : decode cX12_dispatch 13 = .ok (.imul, 1) := by decide +kernel
theorem dX12_dispatch_14 : decode cX12_dispatch 14 = .ok (.iload_n 2, 1) := by decide +kernel
theorem dX12_dispatch_15 : decode cX12_dispatch 15 = .ok (.iadd, 1) := by decide +kernel
theorem dX12_dispatch_16 : decode cX12_dispatch 16 = .ok (.iload_n 2, 1) := by decide +kernel
theorem dX12_dispatch_17 : decode cX12_dispatch 17 = .ok (.aload_n 0, 1) := by decide +kernel
theorem dX12_dispatch_18 : decode cX12_dispatch 18 = .ok (.getfield 9, 3) := by decide +kernel
theorem dX12_dispatch_21 : decode cX12_dispatch 21 = .ok (.iconst 1, 1) := by decide +kernel
theorem dX12_dispatch_22 : decode cX12_dispatch 22 = .ok (.iaload, 1) := by decide +kernel
theorem dX12_dispatch_23 : decode cX12_dispatch 23 = .ok (.if_icmp .ge 19, 3) := by decide +kernel
theorem dX12_dispatch_26 : decode cX12_dispatch 26 = .ok (.aload_n 0, 1) := by decide +kernel
theorem dX12_dispatch_27 : decode cX12_dispatch 27 = .ok (.getfield 9, 3) := by decide +kernel
theorem dX12_dispatch_30 : decode cX12_dispatch 30 = .ok (.iconst 5, 1) := by decide +kernel
theorem dX12_dispatch_31 : decode cX12_dispatch 31 = .ok (.bipush 24, 2) := by decide +kernel
theorem dX12_dispatch_33 : decode cX12_dispatch 33 = .ok (.iload_n 2, 1) := by decide +kernel
theorem dX12_dispatch_34 : decode cX12_dispatch 34 = .ok (.imul, 1) := by decide +kernel
theorem dX12_dispatch_35 : decode cX12_dispatch 35 = .ok (.iadd, 1) := by decide +kernel
theorem dX12_dispatch_36 : decode cX12_dispatch 36 = .ok (.iload_n 1, 1) := by decide +kernel
theorem dX12_dispatch_37 : decode cX12_dispatch 37 = .ok (.iadd, 1) := by decide +kernel
theorem dX12_dispatch_38 : decode cX12_dispatch 38 = .ok (.iaload, 1) := by decide +kernel
theorem dX12_dispatch_39 : decode cX12_dispatch 39 = .ok (.goto 4, 3) := by decide +kernel
theorem dX12_dispatch_42 : decode cX12_dispatch 42 = .ok (.iconst 0, 1) := by decide +kernel
theorem dX12_dispatch_43 : decode cX12_dispatch 43 = .ok (.iastore, 1) := by decide +kernel
theorem dX12_dispatch_44 : decode cX12_dispatch 44 = .ok (.aload_n 0, 1) := by decide +kernel
theorem dX12_dispatch_45 : decode cX12_dispatch 45 = .ok (.getfield 56, 3) := by decide +kernel
theorem dX12_dispatch_48 : decode cX12_dispatch 48 = .ok (.iconst 4, 1) := by decide +kernel
theorem dX12_dispatch_49 : decode cX12_dispatch 49 = .ok (.iload_n 1, 1) := by decide +kernel
theorem dX12_dispatch_50 : decode cX12_dispatch 50 = .ok (.imul, 1) := by decide +kernel
theorem dX12_dispatch_51 : decode cX12_dispatch 51 = .ok (.iload_n 2, 1) := by decide +kernel
theorem dX12_dispatch_52 : decode cX12_dispatch 52 = .ok (.iadd, 1) := by decide +kernel
theorem dX12_dispatch_53 : decode cX12_dispatch 53 = .ok (.iconst 0, 1) := by decide +kernel
theorem dX12_dispatch_54 : decode cX12_dispatch 54 = .ok (.iastore, 1) := by decide +kernel
theorem dX12_dispatch_55 : decode cX12_dispatch 55 = .ok (.iinc 2 1, 3) := by decide +kernel
theorem dX12_dispatch_58 : decode cX12_dispatch 58 = .ok (.goto (-56), 3) := by decide +kernel
theorem dX12_dispatch_61 : decode cX12_dispatch 61 = .ok (.iconst 0, 1) := by decide +kernel
theorem dX12_dispatch_62 : decode cX12_dispatch 62 = .ok (.istore_n 2, 1) := by decide +kernel
theorem dX12_dispatch_63 : decode cX12_dispatch 63 = .ok (.iload_n 2, 1) := by decide +kernel
theorem dX12_dispatch_64 : decode cX12_dispatch 64 = .ok (.aload_n 0, 1) := by decide +kernel
theorem dX12_dispatch_65 : decode cX12_dispatch 65 = .ok (.getfield 9, 3) := by decide +kernel
theorem dX12_dispatch_68 : decode cX12_dispatch 68 = .ok (.iconst 2, 1) := by decide +kernel
theorem dX12_dispatch_69 : decode cX12_dispatch 69 = .ok (.iaload, 1) := by decide +kernel
theorem dX12_dispatch_70 : decode cX12_dispatch 70 = .ok (.if_icmp .ge 112, 3) := by decide +kernel
theorem dX12_dispatch_73 : decode cX12_dispatch 73 = .ok (.bipush 6, 2) := by decide +kernel
theorem dX12_dispatch_75 : decode cX12_dispatch 75 = .ok (.iload_n 1, 1) := by decide +kernel
theorem dX12_dispatch_76 : decode cX12_dispatch 76 = .ok (.imul, 1) := by decide +kernel
theorem dX12_dispatch_77 : decode cX12_dispatch 77 = .ok (.iload_n 2, 1) := by decide +kernel
theorem dX12_dispatch_78 : decode cX12_dispatch 78 = .ok (.iadd, 1) := by decide +kernel
theorem dX12_dispatch_79 : decode cX12_dispatch 79 = .ok (.istore_n 3, 1) := by decide +kernel
theorem dX12_dispatch_80 : decode cX12_dispatch 80 = .ok (.iconst 0, 1) := by decide +kernel
theorem dX12_dispatch_81 : decode cX12_dispatch 81 = .ok (.istore 4, 2) := by decide +kernel
theorem dX12_dispatch_83 : decode cX12_dispatch 83 = .ok (.iload 4, 2) := by decide +kernel
theorem dX12_dispatch_85 : decode cX12_dispatch 85 = .ok (.iconst 4, 1) := by decide +kernel
theorem dX12_dispatch_86 : decode cX12_dispatch 86 = .ok (.if_icmp .ge 21, 3) := by decide +kernel
theorem dX12_dispatch_89 : decode cX12_dispatch 89 = .ok (.aload_n 0, 1) := by decide +kernel
theorem dX12_dispatch_90 : decode cX12_dispatch 90 = .ok (.getfield 50, 3) := by decide +kernel
theorem dX12_dispatch_93 : decode cX12_dispatch 93 = .ok (.iconst 4, 1) := by decide +kernel
theorem dX12_dispatch_94 : decode cX12_dispatch 94 = .ok (.iload_n 3, 1) := by decide +kernel
theorem dX12_dispatch_95 : decode cX12_dispatch 95 = .ok (.imul, 1) := by decide +kernel
theorem dX12_dispatch_96 : decode cX12_dispatch 96 = .ok (.iload 4, 2) := by decide +kernel
theorem dX12_dispatch_98 : decode cX12_dispatch 98 = .ok (.iadd, 1) := by decide +kernel
theorem dX12_dispatch_99 : decode cX12_dispatch 99 = .ok (.iconst 0, 1) := by decide +kernel
theorem dX12_dispatch_100 : decode cX12_dispatch 100 = .ok (.iastore, 1) := by decide +kernel
theorem dX12_dispatch_101 : decode cX12_dispatch 101 = .ok (.iinc 4 1, 3) := by decide +kernel
theorem dX12_dispatch_104 : decode cX12_dispatch 104 = .ok (.goto (-21), 3) := by decide +kernel
theorem dX12_dispatch_107 : decode cX12_dispatch 107 = .ok (.aload_n 0, 1) := by decide +kernel
theorem dX12_dispatch_108 : decode cX12_dispatch 108 = .ok (.iload_n 2, 1) := by decide +kernel
theorem dX12_dispatch_109 : decode cX12_dispatch 109 = .ok (.iload_n 1, 1) := by decide +kernel
theorem dX12_dispatch_110 : decode cX12_dispatch 110 = .ok (.invokevirtual 166, 3) := by decide +kernel
theorem dX12_dispatch_113 : decode cX12_dispatch 113 = .ok (.aload_n 0, 1) := by decide +kernel
theorem dX12_dispatch_114 : decode cX12_dispatch 114 = .ok (.getfield 41, 3) := by decide +kernel
theorem dX12_dispatch_117 : decode cX12_dispatch 117 = .ok (.iload_n 3, 1) := by decide +kernel
theorem dX12_dispatch_118 : decode cX12_dispatch 118 = .ok (.aload_n 0, 1) := by decide +kernel
theorem dX12_dispatch_119 : decode cX12_dispatch 119 = .ok (.getfield 35, 3) := by decide +kernel
theorem dX12_dispatch_122 : decode cX12_dispatch 122 = .ok (.iload_n 3, 1) := by decide +kernel
theorem dX12_dispatch_123 : decode cX12_dispatch 123 = .ok (.iaload, 1) := by decide +kernel
theorem dX12_dispatch_124 : decode cX12_dispatch 124 = .ok (.iastore, 1) := by decide +kernel
theorem dX12_dispatch_125 : decode cX12_dispatch 125 = .ok (.aload_n 0, 1) := by decide +kernel
theorem dX12_dispatch_126 : decode cX12_dispatch 126 = .ok (.getfield 44, 3) := by decide +kernel
theorem dX12_dispatch_129 : decode cX12_dispatch 129 = .ok (.iload_n 3, 1) := by decide +kernel
theorem dX12_dispatch_130 : decode cX12_dispatch 130 = .ok (.aload_n 0, 1) := by decide +kernel
theorem dX12_dispatch_131 : decode cX12_dispatch 131 = .ok (.getfield 22, 3) := by decide +kernel
theorem dX12_dispatch_134 : decode cX12_dispatch 134 = .ok (.iload_n 3, 1) := by decide +kernel
theorem dX12_dispatch_135 : decode cX12_dispatch 135 = .ok (.baload, 1) := by decide +kernel
theorem dX12_dispatch_136 : decode cX12_dispatch 136 = .ok (.ifCond .eq 18, 3) := by decide +kernel
theorem dX12_dispatch_139 : decode cX12_dispatch 139 = .ok (.aload_n 0, 1) := by decide +kernel
theorem dX12_dispatch_140 : decode cX12_dispatch 140 = .ok (.iload_n 2, 1) := by decide +kernel
theorem dX12_dispatch_141 : decode cX12_dispatch 141 = .ok (.iload_n 1, 1) := by decide +kernel
theorem dX12_dispatch_142 : decode cX12_dispatch 142 = .ok (.aload_n 0, 1) := by decide +kernel
theorem dX12_dispatch_143 : decode cX12_dispatch 143 = .ok (.getfield 35, 3) := by decide +kernel
theorem dX12_dispatch_146 : decode cX12_dispatch 146 = .ok (.iload_n 3, 1) := by decide +kernel
theorem dX12_dispatch_147 : decode cX12_dispatch 147 = .ok (.iaload, 1) := by decide +kernel
theorem dX12_dispatch_148 : decode cX12_dispatch 148 = .ok (.invokevirtual 169, 3) := by decide +kernel
theorem dX12_dispatch_151 : decode cX12_dispatch 151 = .ok (.goto 4, 3) := by decide +kernel
theorem dX12_dispatch_154 : decode cX12_dispatch 154 = .ok (.iconst 0, 1) := by decide +kernel
theorem dX12_dispatch_155 : decode cX12_dispatch 155 = .ok (.iastore, 1) := by decide +kernel
theorem dX12_dispatch_156 : decode cX12_dispatch 156 = .ok (.aload_n 0, 1) := by decide +kernel
theorem dX12_dispatch_157 : decode cX12_dispatch 157 = .ok (.getfield 62, 3) := by decide +kernel
theorem dX12_dispatch_160 : decode cX12_dispatch 160 = .ok (.iload_n 2, 1) := by decide +kernel
theorem dX12_dispatch_161 : decode cX12_dispatch 161 = .ok (.aload_n 0, 1) := by decide +kernel
theorem dX12_dispatch_162 : decode cX12_dispatch 162 = .ok (.getfield 22, 3) := by decide +kernel
theorem dX12_dispatch_165 : decode cX12_dispatch 165 = .ok (.iload_n 3, 1) := by decide +kernel
theorem dX12_dispatch_166 : decode cX12_dispatch 166 = .ok (.baload, 1) := by decide +kernel
theorem dX12_dispatch_167 : decode cX12_dispatch 167 = .ok (.ifCond .ne 7, 3) := by decide +kernel
theorem dX12_dispatch_170 : decode cX12_dispatch 170 = .ok (.iconst 1, 1) := by decide +kernel
theorem dX12_dispatch_171 : decode cX12_dispatch 171 = .ok (.goto 4, 3) := by decide +kernel
theorem dX12_dispatch_174 : decode cX12_dispatch 174 = .ok (.iconst 0, 1) := by decide +kernel
theorem dX12_dispatch_175 : decode cX12_dispatch 175 = .ok (.bastore, 1) := by decide +kernel
theorem dX12_dispatch_176 : decode cX12_dispatch 176 = .ok (.iinc 2 1, 3) := by decide +kernel
theorem dX12_dispatch_179 : decode cX12_dispatch 179 = .ok (.goto (-116), 3) := by decide +kernel
theorem dX12_dispatch_182 : decode cX12_dispatch 182 = .ok (.iconst 0, 1) := by decide +kernel
theorem dX12_dispatch_183 : decode cX12_dispatch 183 = .ok (.istore_n 2, 1) := by decide +kernel
theorem dX12_dispatch_184 : decode cX12_dispatch 184 = .ok (.iload_n 2, 1) := by decide +kernel
theorem dX12_dispatch_185 : decode cX12_dispatch 185 = .ok (.aload_n 0, 1) := by decide +kernel
theorem dX12_dispatch_186 : decode cX12_dispatch 186 = .ok (.getfield 9, 3) := by decide +kernel
theorem dX12_dispatch_189 : decode cX12_dispatch 189 = .ok (.iconst 2, 1) := by decide +kernel
theorem dX12_dispatch_190 : decode cX12_dispatch 190 = .ok (.iaload, 1) := by decide +kernel
theorem dX12_dispatch_191 : decode cX12_dispatch 191 = .ok (.if_icmp .ge 127, 3) := by decide +kernel
theorem dX12_dispatch_194 : decode cX12_dispatch 194 = .ok (.iconst (-1), 1) := by decide +kernel
theorem dX12_dispatch_195 : decode cX12_dispatch 195 = .ok (.istore_n 3, 1) := by decide +kernel
theorem dX12_dispatch_196 : decode cX12_dispatch 196 = .ok (.iconst 0, 1) := by decide +kernel
theorem dX12_dispatch_197 : decode cX12_dispatch 197 = .ok (.istore 4, 2) := by decide +kernel
theorem dX12_dispatch_199 : decode cX12_dispatch 199 = .ok (.iload 4, 2) := by decide +kernel
theorem dX12_dispatch_201 : decode cX12_dispatch 201 = .ok (.aload_n 0, 1) := by decide +kernel
theorem dX12_dispatch_202 : decode cX12_dispatch 202 = .ok (.getfield 9, 3) := by decide +kernel
theorem dX12_dispatch_205 : decode cX12_dispatch 205 = .ok (.iconst 2, 1) := by decide +kernel
theorem dX12_dispatch_206 : decode cX12_dispatch 206 = .ok (.iaload, 1) := by decide +kernel
theorem dX12_dispatch_207 : decode cX12_dispatch 207 = .ok (.if_icmp .ge 48, 3) := by decide +kernel
theorem dX12_dispatch_210 : decode cX12_dispatch 210 = .ok (.aload_n 0, 1) := by decide +kernel
theorem dX12_dispatch_211 : decode cX12_dispatch 211 = .ok (.getfield 62, 3) := by decide +kernel
theorem dX12_dispatch_214 : decode cX12_dispatch 214 = .ok (.iload 4, 2) := by decide +kernel
theorem dX12_dispatch_216 : decode cX12_dispatch 216 = .ok (.baload, 1) := by decide +kernel
theorem dX12_dispatch_217 : decode cX12_dispatch 217 = .ok (.ifCond .ne 30, 3) := by decide +kernel
theorem dX12_dispatch_220 : decode cX12_dispatch 220 = .ok (.iload_n 3, 1) := by decide +kernel
theorem dX12_dispatch_221 : decode cX12_dispatch 221 = .ok (.ifCond .lt 21, 3) := by decide +kernel
theorem dX12_dispatch_224 : decode cX12_dispatch 224 = .ok (.aload_n 0, 1) := by decide +kernel
theorem dX12_dispatch_225 : decode cX12_dispatch 225 = .ok (.iload 4, 2) := by decide +kernel
theorem dX12_dispatch_227 : decode cX12_dispatch 227 = .ok (.bipush 12, 2) := by decide +kernel
theorem dX12_dispatch_229 : decode cX12_dispatch 229 = .ok (.invokevirtual 128, 3) := by decide +kernel
theorem dX12_dispatch_232 : decode cX12_dispatch 232 = .ok (.aload_n 0, 1) := by decide +kernel
theorem dX12_dispatch_233 : decode cX12_dispatch 233 = .ok (.iload_n 3, 1) := by decide +kernel
theorem dX12_dispatch_234 : decode cX12_dispatch 234 = .ok (.bipush 12, 2) := by decide +kernel
theorem dX12_dispatch_236 : decode cX12_dispatch 236 = .ok (.invokevirtual 128, 3) := by decide +kernel
theorem dX12_dispatch_239 : decode cX12_dispatch 239 = .ok (.if_icmp .ge 8, 3) := by decide +kernel
theorem dX12_dispatch_242 : decode cX12_dispatch 242 = .ok (.iload 4, 2) := by decide +kernel
theorem dX12_dispatch_244 : decode cX12_dispatch 244 = .ok (.goto 4, 3) := by decide +kernel
theorem dX12_dispatch_247 : decode cX12_dispatch 247 = .ok (.iload_n 3, 1) := by decide +kernel
theorem dX12_dispatch_248 : decode cX12_dispatch 248 = .ok (.istore_n 3, 1) := by decide +kernel
theorem dX12_dispatch_249 : decode cX12_dispatch 249 = .ok (.iinc 4 1, 3) := by decide +kernel
theorem dX12_dispatch_252 : decode cX12_dispatch 252 = .ok (.goto (-53), 3) := by decide +kernel
theorem dX12_dispatch_255 : decode cX12_dispatch 255 = .ok (.iload_n 3, 1) := by decide +kernel
theorem dX12_dispatch_256 : decode cX12_dispatch 256 = .ok (.ifCond .lt 56, 3) := by decide +kernel
theorem dX12_dispatch_259 : decode cX12_dispatch 259 = .ok (.bipush 6, 2) := by decide +kernel
theorem dX12_dispatch_261 : decode cX12_dispatch 261 = .ok (.iload_n 1, 1) := by decide +kernel
theorem dX12_dispatch_262 : decode cX12_dispatch 262 = .ok (.imul, 1) := by decide +kernel
theorem dX12_dispatch_263 : decode cX12_dispatch 263 = .ok (.iload_n 3, 1) := by decide +kernel
theorem dX12_dispatch_264 : decode cX12_dispatch 264 = .ok (.iadd, 1) := by decide +kernel
theorem dX12_dispatch_265 : decode cX12_dispatch 265 = .ok (.istore 4, 2) := by decide +kernel
theorem dX12_dispatch_267 : decode cX12_dispatch 267 = .ok (.aload_n 0, 1) := by decide +kernel
theorem dX12_dispatch_268 : decode cX12_dispatch 268 = .ok (.getfield 38, 3) := by decide +kernel
theorem dX12_dispatch_271 : decode cX12_dispatch 271 = .ok (.iload 4, 2) := by decide +kernel
theorem dX12_dispatch_273 : decode cX12_dispatch 273 = .ok (.iaload, 1) := by decide +kernel
theorem dX12_dispatch_274 : decode cX12_dispatch 274 = .ok (.aload_n 0, 1) := by decide +kernel
theorem dX12_dispatch_275 : decode cX12_dispatch 275 = .ok (.getfield 35, 3) := by decide +kernel
theorem dX12_dispatch_278 : decode cX12_dispatch 278 = .ok (.iload 4, 2) := by decide +kernel
theorem dX12_dispatch_280 : decode cX12_dispatch 280 = .ok (.iaload, 1) := by decide +kernel
theorem dX12_dispatch_281 : decode cX12_dispatch 281 = .ok (.isub, 1) := by decide +kernel
theorem dX12_dispatch_282 : decode cX12_dispatch 282 = .ok (.istore 5, 2) := by decide +kernel
theorem dX12_dispatch_284 : decode cX12_dispatch 284 = .ok (.aload_n 0, 1) := by decide +kernel
theorem dX12_dispatch_285 : decode cX12_dispatch 285 = .ok (.getfield 41, 3) := by decide +kernel
theorem dX12_dispatch_288 : decode cX12_dispatch 288 = .ok (.iload 4, 2) := by decide +kernel
theorem dX12_dispatch_290 : decode cX12_dispatch 290 = .ok (.dup2, 1) := by decide +kernel
theorem dX12_dispatch_291 : decode cX12_dispatch 291 = .ok (.iaload, 1) := by decide +kernel
theorem dX12_dispatch_292 : decode cX12_dispatch 292 = .ok (.iload 5, 2) := by decide +kernel
theorem dX12_dispatch_294 : decode cX12_dispatch 294 = .ok (.aload_n 0, 1) := by decide +kernel
theorem dX12_dispatch_295 : decode cX12_dispatch 295 = .ok (.iload_n 3, 1) := by decide +kernel
theorem dX12_dispatch_296 : decode cX12_dispatch 296 = .ok (.iload_n 1, 1) := by decide +kernel
theorem dX12_dispatch_297 : decode cX12_dispatch 297 = .ok (.iload 5, 2) := by decide +kernel
theorem dX12_dispatch_299 : decode cX12_dispatch 299 = .ok (.invokevirtual 169, 3) := by decide +kernel
theorem dX12_dispatch_302 : decode cX12_dispatch 302 = .ok (.isub, 1) := by decide +kernel
theorem dX12_dispatch_303 : decode cX12_dispatch 303 = .ok (.iadd, 1) := by decide +kernel
theorem dX12_dispatch_304 : decode cX12_dispatch 304 = .ok (.iastore, 1) := by decide +kernel
theorem dX12_dispatch_305 : decode cX12_dispatch 305 = .ok (.aload_n 0, 1) := by decide +kernel
theorem dX12_dispatch_306 : decode cX12_dispatch 306 = .ok (.getfield 62, 3) := by decide +kernel
theorem dX12_dispatch_309 : decode cX12_dispatch 309 = .ok (.iload_n 3, 1) := by decide +kernel
theorem dX12_dispatch_310 : decode cX12_dispatch 310 = .ok (.iconst 1, 1) := by decide +kernel
theorem dX12_dispatch_311 : decode cX12_dispatch 311 = .ok (.bastore, 1) := by decide +kernel
theorem dX12_dispatch_312 : decode cX12_dispatch 312 = .ok (.iinc 2 1, 3) := by decide +kernel
theorem dX12_dispatch_315 : decode cX12_dispatch 315 = .ok (.goto (-131), 3) := by decide +kernel
theorem dX12_dispatch_318 : decode cX12_dispatch 318 = .ok (.return_, 1) := by decide +kernel
def LX12_dispatch_312 (Q : Option Value → az_M → Prop) (Z184 : az_T) : az_T := (s_inc 2 (nI 1) (s_kp [true, true, true, false, false, false] Z184))
theorem okLX12_dispatch_312 {X : az_X} {Q : Option Value → az_M → Prop} (C : az_C X cX12_dispatch 6 RX12 (az_ts yX12_dispatch cX12_dispatch 6 none) ({ frames := 5, cells := 0, slots := 0, locals := 189 } : Room) none Q) {Z184 : az_T} (hZ184 : az_ok X 184 Z184) : az_ok X 312 (LX12_dispatch_312 Q Z184) := by
  have h315 := az_goto (tgt := 184) C dX12_dispatch_315 (by decide) (az_keep [true, true, true, false, false, false] hZ184)
  have h312 := az_iinc (v := (nI 1)) C (by decide) (by decide +kernel) dX12_dispatch_312 h315
  exact h312
def LX12_dispatch_248 (Q : Option Value → az_M → Prop) (Z184 : az_T) (Z199 : az_T) : az_T := (s_si 3 (s_inc 4 (nI 1) (s_kp [true, true, true, true, true, false] Z199)))
theorem okLX12_dispatch_248 {X : az_X} {Q : Option Value → az_M → Prop} (C : az_C X cX12_dispatch 6 RX12 (az_ts yX12_dispatch cX12_dispatch 6 none) ({ frames := 5, cells := 0, slots := 0, locals := 189 } : Room) none Q) {Z184 : az_T} (hZ184 : az_ok X 184 Z184) {Z199 : az_T} (hZ199 : az_ok X 199 Z199) : az_ok X 248 (LX12_dispatch_248 Q Z184 Z199) := by
  have h252 := az_goto (tgt := 199) C dX12_dispatch_252 (by decide) (az_keep [true, true, true, true, true, false] hZ199)
  have h249 := az_iinc (v := (nI 1)) C (by decide) (by decide +kernel) dX12_dispatch_249 h252
  have h248 := az_istore_n C 3 rfl (by decide) dX12_dispatch_248 h249
  exact h248
def LX12_dispatch_247 (Q : Option Value → az_M → Prop) (Z184 : az_T) (Z199 : az_T) : az_T := (s_li 3 (s_kp [true, true, true, false, true, false] (LX12_dispatch_248 Q Z184 Z199)))
theorem okLX12_dispatch_247 {X : az_X} {Q : Option Value → az_M → Prop} (C : az_C X cX12_dispatch 6 RX12 (az_ts yX12_dispatch cX12_dispatch 6 none) ({ frames := 5, cells := 0, slots := 0, locals := 189 } : Room) none Q) {Z184 : az_T} (hZ184 : az_ok X 184 Z184) {Z199 : az_T} (hZ199 : az_ok X 199 Z199) : az_ok X 247 (LX12_dispatch_247 Q Z184 Z199) := by
  have h247 := az_iload_n C 3 rfl dX12_dispatch_247 (az_keep [true, true, true, false, true, false] (okLX12_dispatch_248 C hZ184 hZ199))
  exact h247
def LX12_dispatch_242 (Q : Option Value → az_M → Prop) (Z184 : az_T) (Z199 : az_T) : az_T := (s_li 4 (s_kp [true, true, true, false, true, false] (LX12_dispatch_248 Q Z184 Z199)))
theorem okLX12_dispatch_242 {X : az_X} {Q : Option Value → az_M → Prop} (C : az_C X cX12_dispatch 6 RX12 (az_ts yX12_dispatch cX12_dispatch 6 none) ({ frames := 5, cells := 0, slots := 0, locals := 189 } : Room) none Q) {Z184 : az_T} (hZ184 : az_ok X 184 Z184) {Z199 : az_T} (hZ199 : az_ok X 199 Z199) : az_ok X 242 (LX12_dispatch_242 Q Z184 Z199) := by
  have h244 := az_goto (tgt := 248) C dX12_dispatch_244 (by decide) (az_keep [true, true, true, false, true, false] (okLX12_dispatch_248 C hZ184 hZ199))
  have h242 := az_iload C dX12_dispatch_242 h244
  exact h242
def BX12_dispatch_199 (Q : Option Value → az_M → Prop) (Z184 : az_T) (Z199 : az_T) : az_T := (s_li 4 (s_la 0 (s_gr 13 0 (s_ic (nI 2) (s_al 20 (s_if2 d_ge (s_li 3 (s_if c_lt (s_kp [true, true, true, false, false, false] (LX12_dispatch_312 Q Z184)) (s_ic (nI 6) (s_li 1 (s_bin f_mul (s_li 3 (s_bin f_add (s_si 4 (s_la 0 (s_gr 13 13 (s_li 4 (s_al 20 (s_la 0 (s_gr 13 12 (s_li 4 (s_al 20 (s_bin f_sub (s_si 5 (s_la 0 (s_gr 13 14 (s_li 4 (s_dup2 (s_al 20 (s_li 5 (s_la 0 (s_li 3 (s_li 1 (s_li 5 (s_cv 3 13 FX12_deliver (s_bin f_sub (s_bin f_add (s_as (s_la 0 (s_gr 13 21 (s_li 3 (s_ic (nI 1) (s_az (s_kp [true, true, true, false, false, false] (LX12_dispatch_312 Q Z184))))))))))))))))))))))))))))))))))))))) (s_la 0 (s_gr 13 21 (s_li 4 (s_al 21 (s_if c_ne (s_kp [true, true, true, true, true, false] (LX12_dispatch_247 Q Z184 Z199)) (s_li 3 (s_if c_lt (s_kp [true, true, true, false, true, false] (LX12_dispatch_242 Q Z184 Z199)) (s_la 0 (s_li 4 (s_ic (nI 12) (s_cv 2 13 FX12_of (s_la 0 (s_li 3 (s_ic (nI 12) (s_cv 2 13 FX12_of (s_if2 d_ge (s_kp [true, true, true, true, true, false] (LX12_dispatch_247 Q Z184 Z199)) (s_kp [true, true, true, false, true, false] (LX12_dispatch_242 Q Z184 Z199))))))))))))))))))))))))
theorem okBX12_dispatch_199 {X : az_X} {Q : Option Value → az_M → Prop} (C : az_C X cX12_dispatch 6 RX12 (az_ts yX12_dispatch cX12_dispatch 6 none) ({ frames := 5, cells := 0, slots := 0, locals := 189 } : Room) none Q) {Z184 : az_T} (hZ184 : az_ok X 184 Z184) {Z199 : az_T} (hZ199 : az_ok X 199 Z199) : az_ok X 199 (BX12_dispatch_199 Q Z184 Z199) := by
  have h311 := az_zast C dX12_dispatch_311 (az_keep [true, true, true, false, false, false] (okLX12_dispatch_312 C hZ184))
  have h310 := az_iconst (x := (nI 1)) C dX12_dispatch_310 (by decide +kernel) h311
  have h309 := az_iload_n C 3 rfl dX12_dispatch_309 h310
  have h306 := az_getR (T := TX12) (N := 33) (j := 21) C gwRX12 rfl (by decide) (by decide) iIRX12_21 mFRX12_62 rfl dX12_dispatch_306 h309
  have h305 := az_aload_n C 0 rfl dX12_dispatch_305 h306
  have h304 := az_iast C dX12_dispatch_304 h305
  have h303 := az_iadd C dX12_dispatch_303 h304
  have h302 := az_isub C dX12_dispatch_302 h303
  have h299 := az_callV (ci := 13) C okX12_deliver knX12_deliver imX12_deliver seX12_deliver mLRX12_169 rfl (by decide) ⟨rfl, rfl, by decide, by decide⟩ dX12_dispatch_299 h302
  have h297 := az_iload C dX12_dispatch_297 h299
  have h296 := az_iload_n C 1 rfl dX12_dispatch_296 h297
  have h295 := az_iload_n C 3 rfl dX12_dispatch_295 h296
  have h294 := az_aload_n C 0 rfl dX12_dispatch_294 h295
  have h292 := az_iload C dX12_dispatch_292 h294
  have h291 := az_iald C dX12_dispatch_291 h292
  have h290 := az_dup2 C dX12_dispatch_290 h291
  have h288 := az_iload C dX12_dispatch_288 h290
  have h285 := az_getR (T := TX12) (N := 33) (j := 14) C gwRX12 rfl (by decide) (by decide) iIRX12_14 mFRX12_41 rfl dX12_dispatch_285 h288
  have h284 := az_aload_n C 0 rfl dX12_dispatch_284 h285
  have h282 := az_istore C (by decide) dX12_dispatch_282 h284
  have h281 := az_isub C dX12_dispatch_281 h282
  have h280 := az_iald C dX12_dispatch_280 h281
  have h278 := az_iload C dX12_dispatch_278 h280
  have h275 := az_getR (T := TX12) (N := 33) (j := 12) C gwRX12 rfl (by decide) (by decide) iIRX12_12 mFRX12_35 rfl dX12_dispatch_275 h278
  have h274 := az_aload_n C 0 rfl dX12_dispatch_274 h275
  have h273 := az_iald C dX12_dispatch_273 h274
  have h271 := az_iload C dX12_dispatch_271 h273
  have h268 := az_getR (T := TX12) (N := 33) (j := 13) C gwRX12 rfl (by decide) (by decide) iIRX12_13 mFRX12_38 rfl dX12_dispatch_268 h271
  have h267 := az_aload_n C 0 rfl dX12_dispatch_267 h268
  have h265 := az_istore C (by decide) dX12_dispatch_265 h267
  have h264 := az_iadd C dX12_dispatch_264 h265
  have h263 := az_iload_n C 3 rfl dX12_dispatch_263 h264
  have h262 := az_imul C dX12_dispatch_262 h263
  have h261 := az_iload_n C 1 rfl dX12_dispatch_261 h262
  have h259 := az_bipush (x := (nI 6)) C dX12_dispatch_259 (by decide +kernel) h261
  have h256 := az_if_lt (tgt := 312) C dX12_dispatch_256 (by decide) (az_keep [true, true, true, false, false, false] (okLX12_dispatch_312 C hZ184)) h259
  have h255 := az_iload_n C 3 rfl dX12_dispatch_255 h256
  have h239 := az_icmp_ge (tgt := 247) C dX12_dispatch_239 (by decide) (az_keep [true, true, true, true, true, false] (okLX12_dispatch_247 C hZ184 hZ199)) (az_keep [true, true, true, false, true, false] (okLX12_dispatch_242 C hZ184 hZ199))
  have h236 := az_callV (ci := 13) C okX12_of knX12_of imX12_of seX12_of mLRX12_128 rfl (by decide) ⟨rfl, rfl, by decide, by decide⟩ dX12_dispatch_236 h239
  have h234 := az_bipush (x := (nI 12)) C dX12_dispatch_234 (by decide +kernel) h236
  have h233 := az_iload_n C 3 rfl dX12_dispatch_233 h234
  have h232 := az_aload_n C 0 rfl dX12_dispatch_232 h233
  have h229 := az_callV (ci := 13) C okX12_of knX12_of imX12_of seX12_of mLRX12_128 rfl (by decide) ⟨rfl, rfl, by decide, by decide⟩ dX12_dispatch_229 h232
  have h227 := az_bipush (x := (nI 12)) C dX12_dispatch_227 (by decide +kernel) h229
  have h225 := az_iload C dX12_dispatch_225 h227
  have h224 := az_aload_n C 0 rfl dX12_dispatch_224 h225
  have h221 := az_if_lt (tgt := 242) C dX12_dispatch_221 (by decide) (az_keep [true, true, true, false, true, false] (okLX12_dispatch_242 C hZ184 hZ199)) h224
  have h220 := az_iload_n C 3 rfl dX12_dispatch_220 h221
  have h217 := az_if_ne (tgt := 247) C dX12_dispatch_217 (by decide) (az_keep [true, true, true, true, true, false] (okLX12_dispatch_247 C hZ184 hZ199)) h220
  have h216 := az_zald C dX12_dispatch_216 h217
  have h214 := az_iload C dX12_dispatch_214 h216
  have h211 := az_getR (T := TX12) (N := 33) (j := 21) C gwRX12 rfl (by decide) (by decide) iIRX12_21 mFRX12_62 rfl dX12_dispatch_211 h214
  have h210 := az_aload_n C 0 rfl dX12_dispatch_210 h211
  have h207 := az_icmp_ge (tgt := 255) C dX12_dispatch_207 (by decide) h255 h210
  have h206 := az_iald C dX12_dispatch_206 h207
  have h205 := az_iconst (x := (nI 2)) C dX12_dispatch_205 (by decide +kernel) h206
  have h202 := az_getR (T := TX12) (N := 33) (j := 0) C gwRX12 rfl (by decide) (by decide) iIRX12_0 mFRX12_9 rfl dX12_dispatch_202 h205
  have h201 := az_aload_n C 0 rfl dX12_dispatch_201 h202
  have h199 := az_iload C dX12_dispatch_199 h201
  exact h199
def LX12_dispatch_199 (Q : Option Value → az_M → Prop) (Z184 : az_T) : az_T := s_lp (fun Z => BX12_dispatch_199 Q Z184 Z)
theorem okLX12_dispatch_199 {X : az_X} {Q : Option Value → az_M → Prop} (C : az_C X cX12_dispatch 6 RX12 (az_ts yX12_dispatch cX12_dispatch 6 none) ({ frames := 5, cells := 0, slots := 0, locals := 189 } : Room) none Q) {Z184 : az_T} (hZ184 : az_ok X 184 Z184) : az_ok X 199 (LX12_dispatch_199 Q Z184) := az_loop (F := fun Z => BX12_dispatch_199 Q Z184 Z) (fun _ hZ => okBX12_dispatch_199 C hZ184 hZ)
def BX12_dispatch_184 (Q : Option Value → az_M → Prop) (Z184 : az_T) : az_T := (s_li 2 (s_la 0 (s_gr 13 0 (s_ic (nI 2) (s_al 20 (s_if2 d_ge (s_rv Q) (s_ic (-1) (s_si 3 (s_ic (nI 0) (s_si 4 (s_kp [true, true, true, true, true, false] (LX12_dispatch_199 Q Z184))))))))))))
theorem okBX12_dispatch_184 {X : az_X} {Q : Option Value → az_M → Prop} (C : az_C X cX12_dispatch 6 RX12 (az_ts yX12_dispatch cX12_dispatch 6 none) ({ frames := 5, cells := 0, slots := 0, locals := 189 } : Room) none Q) {Z184 : az_T} (hZ184 : az_ok X 184 Z184) : az_ok X 184 (BX12_dispatch_184 Q Z184) := by
  have h318 := az_vreturn C rfl dX12_dispatch_318
  have h197 := az_istore C (by decide) dX12_dispatch_197 (az_keep [true, true, true, true, true, false] (okLX12_dispatch_199 C hZ184))
  have h196 := az_iconst (x := (nI 0)) C dX12_dispatch_196 (by decide +kernel) h197
  have h195 := az_istore_n C 3 rfl (by decide) dX12_dispatch_195 h196
  have h194 := az_iconst (x := (-1)) C dX12_dispatch_194 (by decide +kernel) h195
  have h191 := az_icmp_ge (tgt := 318) C dX12_dispatch_191 (by decide) h318 h194
  have h190 := az_iald C dX12_dispatch_190 h191
  have h189 := az_iconst (x := (nI 2)) C dX12_dispatch_189 (by decide +kernel) h190
  have h186 := az_getR (T := TX12) (N := 33) (j := 0) C gwRX12 rfl (by decide) (by decide) iIRX12_0 mFRX12_9 rfl dX12_dispatch_186 h189
  have h185 := az_aload_n C 0 rfl dX12_dispatch_185 h186
  have h184 := az_iload_n C 2 rfl dX12_dispatch_184 h185
  exact h184
def LX12_dispatch_184 (Q : Option Value → az_M → Prop) : az_T := s_lp (fun Z => BX12_dispatch_184 Q Z)
theorem okLX12_dispatch_184 {X : az_X} {Q : Option Value → az_M → Prop} (C : az_C X cX12_dispatch 6 RX12 (az_ts yX12_dispatch cX12_dispatch 6 none) ({ frames := 5, cells := 0, slots := 0, locals := 189 } : Room) none Q) : az_ok X 184 (LX12_dispatch_184 Q) := az_loop (F := fun Z => BX12_dispatch_184 Q Z) (fun _ hZ => okBX12_dispatch_184 C hZ)
def LX12_dispatch_175 (Q : Option Value → az_M → Prop) (Z63 : az_T) : az_T := (s_az (s_inc 2 (nI 1) (s_kp [true, true, true, false, false, false] Z63)))
theorem okLX12_dispatch_175 {X : az_X} {Q : Option Value → az_M → Prop} (C : az_C X cX12_dispatch 6 RX12 (az_ts yX12_dispatch cX12_dispatch 6 none) ({ frames := 5, cells := 0, slots := 0, locals := 189 } : Room) none Q) {Z63 : az_T} (hZ63 : az_ok X 63 Z63) : az_ok X 175 (LX12_dispatch_175 Q Z63) := by
  have h179 := az_goto (tgt := 63) C dX12_dispatch_179 (by decide) (az_keep [true, true, true, false, false, false] hZ63)
  have h176 := az_iinc (v := (nI 1)) C (by decide) (by decide +kernel) dX12_dispatch_176 h179
  have h175 := az_zast C dX12_dispatch_175 h176
  exact h175
def LX12_dispatch_155 (Q : Option Value → az_M → Prop) (Z63 : az_T) : az_T := (s_as (s_la 0 (s_gr 13 21 (s_li 2 (s_la 0 (s_gr 13 8 (s_li 3 (s_al 21 (s_if c_ne (s_ic (nI 0) (s_kp [true, true, true, false, false, false] (LX12_dispatch_175 Q Z63))) (s_ic (nI 1) (s_kp [true, true, true, false, false, false] (LX12_dispatch_175 Q Z63))))))))))))
theorem okLX12_dispatch_155 {X : az_X} {Q : Option Value → az_M → Prop} (C : az_C X cX12_dispatch 6 RX12 (az_ts yX12_dispatch cX12_dispatch 6 none) ({ frames := 5, cells := 0, slots := 0, locals := 189 } : Room) none Q) {Z63 : az_T} (hZ63 : az_ok X 63 Z63) : az_ok X 155 (LX12_dispatch_155 Q Z63) := by
  have h174 := az_iconst (x := (nI 0)) C dX12_dispatch_174 (by decide +kernel) (az_keep [true, true, true, false, false, false] (okLX12_dispatch_175 C hZ63))
  have h171 := az_goto (tgt := 175) C dX12_dispatch_171 (by decide) (az_keep [true, true, true, false, false, false] (okLX12_dispatch_175 C hZ63))
  have h170 := az_iconst (x := (nI 1)) C dX12_dispatch_170 (by decide +kernel) h171
  have h167 := az_if_ne (tgt := 174) C dX12_dispatch_167 (by decide) h174 h170
  have h166 := az_zald C dX12_dispatch_166 h167
  have h165 := az_iload_n C 3 rfl dX12_dispatch_165 h166
  have h162 := az_getR (T := TX12) (N := 33) (j := 8) C gwRX12 rfl (by decide) (by decide) iIRX12_8 mFRX12_22 rfl dX12_dispatch_162 h165
  have h161 := az_aload_n C 0 rfl dX12_dispatch_161 h162
  have h160 := az_iload_n C 2 rfl dX12_dispatch_160 h161
  have h157 := az_getR (T := TX12) (N := 33) (j := 21) C gwRX12 rfl (by decide) (by decide) iIRX12_21 mFRX12_62 rfl dX12_dispatch_157 h160
  have h156 := az_aload_n C 0 rfl dX12_dispatch_156 h157
  have h155 := az_iast C dX12_dispatch_155 h156
  exact h155
def BX12_dispatch_83 (Q : Option Value → az_M → Prop) (Z63 : az_T) (Z83 : az_T) : az_T := (s_li 4 (s_ic (nI 4) (s_if2 d_ge (s_la 0 (s_li 2 (s_li 1 (s_cv 2 13 FX12_bound (s_la 0 (s_gr 13 14 (s_li 3 (s_la 0 (s_gr 13 12 (s_li 3 (s_al 20 (s_as (s_la 0 (s_gr 13 15 (s_li 3 (s_la 0 (s_gr 13 8 (s_li 3 (s_al 21 (s_if c_eq (s_ic (nI 0) (s_kp [true, true, true, true, false, false] (LX12_dispatch_155 Q Z63))) (s_la 0 (s_li 2 (s_li 1 (s_la 0 (s_gr 13 12 (s_li 3 (s_al 20 (s_cv 3 13 FX12_deliver (s_kp [true, true, true, true, false, false] (LX12_dispatch_155 Q Z63)))))))))))))))))))))))))))))) (s_la 0 (s_gr 13 17 (s_ic (nI 4) (s_li 3 (s_bin f_mul (s_li 4 (s_bin f_add (s_ic (nI 0) (s_as (s_inc 4 (nI 1) (s_kp [true, true, true, true, true, false] Z83))))))))))))))
theorem okBX12_dispatch_83 {X : az_X} {Q : Option Value → az_M → Prop} (C : az_C X cX12_dispatch 6 RX12 (az_ts yX12_dispatch cX12_dispatch 6 none) ({ frames := 5, cells := 0, slots := 0, locals := 189 } : Room) none Q) {Z63 : az_T} (hZ63 : az_ok X 63 Z63) {Z83 : az_T} (hZ83 : az_ok X 83 Z83) : az_ok X 83 (BX12_dispatch_83 Q Z63 Z83) := by
  have h154 := az_iconst (x := (nI 0)) C dX12_dispatch_154 (by decide +kernel) (az_keep [true, true, true, true, false, false] (okLX12_dispatch_155 C hZ63))
  have h151 := az_goto (tgt := 155) C dX12_dispatch_151 (by decide) (az_keep [true, true, true, true, false, false] (okLX12_dispatch_155 C hZ63))
  have h148 := az_callV (ci := 13) C okX12_deliver knX12_deliver imX12_deliver seX12_deliver mLRX12_169 rfl (by decide) ⟨rfl, rfl, by decide, by decide⟩ dX12_dispatch_148 h151
  have h147 := az_iald C dX12_dispatch_147 h148
  have h146 := az_iload_n C 3 rfl dX12_dispatch_146 h147
  have h143 := az_getR (T := TX12) (N := 33) (j := 12) C gwRX12 rfl (by decide) (by decide) iIRX12_12 mFRX12_35 rfl dX12_dispatch_143 h146
  have h142 := az_aload_n C 0 rfl dX12_dispatch_142 h143
  have h141 := az_iload_n C 1 rfl dX12_dispatch_141 h142
  have h140 := az_iload_n C 2 rfl dX12_dispatch_140 h141
  have h139 := az_aload_n C 0 rfl dX12_dispatch_139 h140
  have h136 := az_if_eq (tgt := 154) C dX12_dispatch_136 (by decide) h154 h139
  have h135 := az_zald C dX12_dispatch_135 h136
  have h134 := az_iload_n C 3 rfl dX12_dispatch_134 h135
  have h131 := az_getR (T := TX12) (N := 33) (j := 8) C gwRX12 rfl (by decide) (by decide) iIRX12_8 mFRX12_22 rfl dX12_dispatch_131 h134
  have h130 := az_aload_n C 0 rfl dX12_dispatch_130 h131
  have h129 := az_iload_n C 3 rfl dX12_dispatch_129 h130
  have h126 := az_getR (T := TX12) (N := 33) (j := 15) C gwRX12 rfl (by decide) (by decide) iIRX12_15 mFRX12_44 rfl dX12_dispatch_126 h129
  have h125 := az_aload_n C 0 rfl dX12_dispatch_125 h126
  have h124 := az_iast C dX12_dispatch_124 h125
  have h123 := az_iald C dX12_dispatch_123 h124
  have h122 := az_iload_n C 3 rfl dX12_dispatch_122 h123
  have h119 := az_getR (T := TX12) (N := 33) (j := 12) C gwRX12 rfl (by decide) (by decide) iIRX12_12 mFRX12_35 rfl dX12_dispatch_119 h122
  have h118 := az_aload_n C 0 rfl dX12_dispatch_118 h119
  have h117 := az_iload_n C 3 rfl dX12_dispatch_117 h118
  have h114 := az_getR (T := TX12) (N := 33) (j := 14) C gwRX12 rfl (by decide) (by decide) iIRX12_14 mFRX12_41 rfl dX12_dispatch_114 h117
  have h113 := az_aload_n C 0 rfl dX12_dispatch_113 h114
  have h110 := az_callV (ci := 13) C okX12_bound knX12_bound imX12_bound seX12_bound mLRX12_166 rfl (by decide) ⟨rfl, rfl, by decide, by decide⟩ dX12_dispatch_110 h113
  have h109 := az_iload_n C 1 rfl dX12_dispatch_109 h110
  have h108 := az_iload_n C 2 rfl dX12_dispatch_108 h109
  have h107 := az_aload_n C 0 rfl dX12_dispatch_107 h108
  have h104 := az_goto (tgt := 83) C dX12_dispatch_104 (by decide) (az_keep [true, true, true, true, true, false] hZ83)
  have h101 := az_iinc (v := (nI 1)) C (by decide) (by decide +kernel) dX12_dispatch_101 h104
  have h100 := az_iast C dX12_dispatch_100 h101
  have h99 := az_iconst (x := (nI 0)) C dX12_dispatch_99 (by decide +kernel) h100
  have h98 := az_iadd C dX12_dispatch_98 h99
  have h96 := az_iload C dX12_dispatch_96 h98
  have h95 := az_imul C dX12_dispatch_95 h96
  have h94 := az_iload_n C 3 rfl dX12_dispatch_94 h95
  have h93 := az_iconst (x := (nI 4)) C dX12_dispatch_93 (by decide +kernel) h94
  have h90 := az_getR (T := TX12) (N := 33) (j := 17) C gwRX12 rfl (by decide) (by decide) iIRX12_17 mFRX12_50 rfl dX12_dispatch_90 h93
  have h89 := az_aload_n C 0 rfl dX12_dispatch_89 h90
  have h86 := az_icmp_ge (tgt := 107) C dX12_dispatch_86 (by decide) h107 h89
  have h85 := az_iconst (x := (nI 4)) C dX12_dispatch_85 (by decide +kernel) h86
  have h83 := az_iload C dX12_dispatch_83 h85
  exact h83
def LX12_dispatch_83 (Q : Option Value → az_M → Prop) (Z63 : az_T) : az_T := s_lp (fun Z => BX12_dispatch_83 Q Z63 Z)
theorem okLX12_dispatch_83 {X : az_X} {Q : Option Value → az_M → Prop} (C : az_C X cX12_dispatch 6 RX12 (az_ts yX12_dispatch cX12_dispatch 6 none) ({ frames := 5, cells := 0, slots := 0, locals := 189 } : Room) none Q) {Z63 : az_T} (hZ63 : az_ok X 63 Z63) : az_ok X 83 (LX12_dispatch_83 Q Z63) := az_loop (F := fun Z => BX12_dispatch_83 Q Z63 Z) (fun _ hZ => okBX12_dispatch_83 C hZ63 hZ)
def BX12_dispatch_63 (Q : Option Value → az_M → Prop) (Z63 : az_T) : az_T := (s_li 2 (s_la 0 (s_gr 13 0 (s_ic (nI 2) (s_al 20 (s_if2 d_ge (s_ic (nI 0) (s_si 2 (s_kp [true, true, true, false, false, false] (LX12_dispatch_184 Q)))) (s_ic (nI 6) (s_li 1 (s_bin f_mul (s_li 2 (s_bin f_add (s_si 3 (s_ic (nI 0) (s_si 4 (s_kp [true, true, true, true, true, false] (LX12_dispatch_83 Q Z63))))))))))))))))
theorem okBX12_dispatch_63 {X : az_X} {Q : Option Value → az_M → Prop} (C : az_C X cX12_dispatch 6 RX12 (az_ts yX12_dispatch cX12_dispatch 6 none) ({ frames := 5, cells := 0, slots := 0, locals := 189 } : Room) none Q) {Z63 : az_T} (hZ63 : az_ok X 63 Z63) : az_ok X 63 (BX12_dispatch_63 Q Z63) := by
  have h183 := az_istore_n C 2 rfl (by decide) dX12_dispatch_183 (az_keep [true, true, true, false, false, false] (okLX12_dispatch_184 C))
  have h182 := az_iconst (x := (nI 0)) C dX12_dispatch_182 (by decide +kernel) h183
  have h81 := az_istore C (by decide) dX12_dispatch_81 (az_keep [true, true, true, true, true, false] (okLX12_dispatch_83 C hZ63))
  have h80 := az_iconst (x := (nI 0)) C dX12_dispatch_80 (by decide +kernel) h81
  have h79 := az_istore_n C 3 rfl (by decide) dX12_dispatch_79 h80
  have h78 := az_iadd C dX12_dispatch_78 h79
  have h77 := az_iload_n C 2 rfl dX12_dispatch_77 h78
  have h76 := az_imul C dX12_dispatch_76 h77
  have h75 := az_iload_n C 1 rfl dX12_dispatch_75 h76
  have h73 := az_bipush (x := (nI 6)) C dX12_dispatch_73 (by decide +kernel) h75
  have h70 := az_icmp_ge (tgt := 182) C dX12_dispatch_70 (by decide) h182 h73
  have h69 := az_iald C dX12_dispatch_69 h70
  have h68 := az_iconst (x := (nI 2)) C dX12_dispatch_68 (by decide +kernel) h69
  have h65 := az_getR (T := TX12) (N := 33) (j := 0) C gwRX12 rfl (by decide) (by decide) iIRX12_0 mFRX12_9 rfl dX12_dispatch_65 h68
  have h64 := az_aload_n C 0 rfl dX12_dispatch_64 h65
  have h63 := az_iload_n C 2 rfl dX12_dispatch_63 h64
  exact h63
def LX12_dispatch_63 (Q : Option Value → az_M → Prop) : az_T := s_lp (fun Z => BX12_dispatch_63 Q Z)
theorem okLX12_dispatch_63 {X : az_X} {Q : Option Value → az_M → Prop} (C : az_C X cX12_dispatch 6 RX12 (az_ts yX12_dispatch cX12_dispatch 6 none) ({ frames := 5, cells := 0, slots := 0, locals := 189 } : Room) none Q) : az_ok X 63 (LX12_dispatch_63 Q) := az_loop (F := fun Z => BX12_dispatch_63 Q Z) (fun _ hZ => okBX12_dispatch_63 C hZ)
def LX12_dispatch_43 (Q : Option Value → az_M → Prop) (Z2 : az_T) : az_T := (s_as (s_la 0 (s_gr 13 19 (s_ic (nI 4) (s_li 1 (s_bin f_mul (s_li 2 (s_bin f_add (s_ic (nI 0) (s_as (s_inc 2 (nI 1) (s_kp [true, true, true, false, false, false] Z2))))))))))))
theorem okLX12_dispatch_43 {X : az_X} {Q : Option Value → az_M → Prop} (C : az_C X cX12_dispatch 6 RX12 (az_ts yX12_dispatch cX12_dispatch 6 none) ({ frames := 5, cells := 0, slots := 0, locals := 189 } : Room) none Q) {Z2 : az_T} (hZ2 : az_ok X 2 Z2) : az_ok X 43 (LX12_dispatch_43 Q Z2) := by
  have h58 := az_goto (tgt := 2) C dX12_dispatch_58 (by decide) (az_keep [true, true, true, false, false, false] hZ2)
  have h55 := az_iinc (v := (nI 1)) C (by decide) (by decide +kernel) dX12_dispatch_55 h58
  have h54 := az_iast C dX12_dispatch_54 h55
  have h53 := az_iconst (x := (nI 0)) C dX12_dispatch_53 (by decide +kernel) h54
  have h52 := az_iadd C dX12_dispatch_52 h53
  have h51 := az_iload_n C 2 rfl dX12_dispatch_51 h52
  have h50 := az_imul C dX12_dispatch_50 h51
  have h49 := az_iload_n C 1 rfl dX12_dispatch_49 h50
  have h48 := az_iconst (x := (nI 4)) C dX12_dispatch_48 (by decide +kernel) h49
  have h45 := az_getR (T := TX12) (N := 33) (j := 19) C gwRX12 rfl (by decide) (by decide) iIRX12_19 mFRX12_56 rfl dX12_dispatch_45 h48
  have h44 := az_aload_n C 0 rfl dX12_dispatch_44 h45
  have h43 := az_iast C dX12_dispatch_43 h44
  exact h43
def BX12_dispatch_2 (Q : Option Value → az_M → Prop) (Z2 : az_T) : az_T := (s_li 2 (s_ic (nI 4) (s_if2 d_ge (s_ic (nI 0) (s_si 2 (s_kp [true, true, true, false, false, false] (LX12_dispatch_63 Q)))) (s_la 0 (s_gr 13 18 (s_ic (nI 4) (s_li 1 (s_bin f_mul (s_li 2 (s_bin f_add (s_li 2 (s_la 0 (s_gr 13 0 (s_ic (nI 1) (s_al 20 (s_if2 d_ge (s_ic (nI 0) (s_kp [true, true, true, false, false, false] (LX12_dispatch_43 Q Z2))) (s_la 0 (s_gr 13 0 (s_ic (nI 5) (s_ic (nI 24) (s_li 2 (s_bin f_mul (s_bin f_add (s_li 1 (s_bin f_add (s_al 20 (s_kp [true, true, true, false, false, false] (LX12_dispatch_43 Q Z2))))))))))))))))))))))))))))
theorem okBX12_dispatch_2 {X : az_X} {Q : Option Value → az_M → Prop} (C : az_C X cX12_dispatch 6 RX12 (az_ts yX12_dispatch cX12_dispatch 6 none) ({ frames := 5, cells := 0, slots := 0, locals := 189 } : Room) none Q) {Z2 : az_T} (hZ2 : az_ok X 2 Z2) : az_ok X 2 (BX12_dispatch_2 Q Z2) := by
  have h62 := az_istore_n C 2 rfl (by decide) dX12_dispatch_62 (az_keep [true, true, true, false, false, false] (okLX12_dispatch_63 C))
  have h61 := az_iconst (x := (nI 0)) C dX12_dispatch_61 (by decide +kernel) h62
  have h42 := az_iconst (x := (nI 0)) C dX12_dispatch_42 (by decide +kernel) (az_keep [true, true, true, false, false, false] (okLX12_dispatch_43 C hZ2))
  have h39 := az_goto (tgt := 43) C dX12_dispatch_39 (by decide) (az_keep [true, true, true, false, false, false] (okLX12_dispatch_43 C hZ2))
  have h38 := az_iald C dX12_dispatch_38 h39
  have h37 := az_iadd C dX12_dispatch_37 h38
  have h36 := az_iload_n C 1 rfl dX12_dispatch_36 h37
  have h35 := az_iadd C dX12_dispatch_35 h36
  have h34 := az_imul C dX12_dispatch_34 h35
  have h33 := az_iload_n C 2 rfl dX12_dispatch_33 h34
  have h31 := az_bipush (x := (nI 24)) C dX12_dispatch_31 (by decide +kernel) h33
  have h30 := az_iconst (x := (nI 5)) C dX12_dispatch_30 (by decide +kernel) h31
  have h27 := az_getR (T := TX12) (N := 33) (j := 0) C gwRX12 rfl (by decide) (by decide) iIRX12_0 mFRX12_9 rfl dX12_dispatch_27 h30
  have h26 := az_aload_n C 0 rfl dX12_dispatch_26 h27
  have h23 := az_icmp_ge (tgt := 42) C dX12_dispatch_23 (by decide) h42 h26
  have h22 := az_iald C dX12_dispatch_22 h23
  have h21 := az_iconst (x := (nI 1)) C dX12_dispatch_21 (by decide +kernel) h22
  have h18 := az_getR (T := TX12) (N := 33) (j := 0) C gwRX12 rfl (by decide) (by decide) iIRX12_0 mFRX12_9 rfl dX12_dispatch_18 h21
  have h17 := az_aload_n C 0 rfl dX12_dispatch_17 h18
  have h16 := az_iload_n C 2 rfl dX12_dispatch_16 h17
  have h15 := az_iadd C dX12_dispatch_15 h16
  have h14 := az_iload_n C 2 rfl dX12_dispatch_14 h15
  have h13 := az_imul C dX12_dispatch_13 h14
  have h12 := az_iload_n C 1 rfl dX12_dispatch_12 h13
  have h11 := az_iconst (x := (nI 4)) C dX12_dispatch_11 (by decide +kernel) h12
  have h8 := az_getR (T := TX12) (N := 33) (j := 18) C gwRX12 rfl (by decide) (by decide) iIRX12_18 mFRX12_53 rfl dX12_dispatch_8 h11
  have h7 := az_aload_n C 0 rfl dX12_dispatch_7 h8
  have h4 := az_icmp_ge (tgt := 61) C dX12_dispatch_4 (by decide) h61 h7
  have h3 := az_iconst (x := (nI 4)) C dX12_dispatch_3 (by decide +kernel) h4
  have h2 := az_iload_n C 2 rfl dX12_dispatch_2 h3
  exact h2
def LX12_dispatch_2 (Q : Option Value → az_M → Prop) : az_T := s_lp (fun Z => BX12_dispatch_2 Q Z)
theorem okLX12_dispatch_2 {X : az_X} {Q : Option Value → az_M → Prop} (C : az_C X cX12_dispatch 6 RX12 (az_ts yX12_dispatch cX12_dispatch 6 none) ({ frames := 5, cells := 0, slots := 0, locals := 189 } : Room) none Q) : az_ok X 2 (LX12_dispatch_2 Q) := az_loop (F := fun Z => BX12_dispatch_2 Q Z) (fun _ hZ => okBX12_dispatch_2 C hZ)
def PX12_dispatch (Q : Option Value → az_M → Prop) : az_T := (s_ic (nI 0) (s_si 2 (s_kp [true, true, true, false, false, false] (LX12_dispatch_2 Q))))
def FX12_dispatch : az_F := az_fun [true, false] 6 PX12_dispatch
theorem okX12_dispatch (l : Launch) : az_met l yX12_dispatch cX12_dispatch 6 none ({ frames := 5, cells := 0, slots := 0, locals := 189 } : Room) FX12_dispatch := az_met_of (own := RX12) (by decide +kernel) rfl (by decide) (fun X Q C => by
  have h1 := az_istore_n C 2 rfl (by decide) dX12_dispatch_1 (az_keep [true, true, true, false, false, false] (okLX12_dispatch_2 C))
  have h0 := az_iconst (x := (nI 0)) C dX12_dispatch_0 (by decide +kernel) h1
  exact h0) l
theorem dX12_violates_0 : decode cX12_violates 0 = .ok (.bipush 6, 2) := by decide +kernel
theorem dX12_violates_2 : decode cX12_violates 2 = .ok (.iload_n 3, 1) := by decide +kernel
theorem dX12_violates_3 : decode cX12_violates 3 = .ok (.imul, 1) := by decide +kernel
theorem dX12_violates_4 : decode cX12_violates 4 = .ok (.iload_n 2, 1) := by decide +kernel
theorem dX12_violates_5 : decode cX12_violates 5 = .ok (.iadd, 1) := by decide +kernel
theorem dX12_violates_6 : decode cX12_violates 6 = .ok (.istore 4, 2) := by decide +kernel
theorem dX12_violates_8 : decode cX12_violates 8 = .ok (.aload_n 0, 1) := by decide +kernel
theorem dX12_violates_9 : decode cX12_violates 9 = .ok (.iload_n 2, 1) := by decide +kernel
theorem dX12_violates_10 : decode cX12_violates 10 = .ok (.iload_n 3, 1) := by decide +kernel
theorem dX12_violates_11 : decode cX12_violates 11 = .ok (.invokevirtual 157, 3) := by decide +kernel
theorem dX12_violates_14 : decode cX12_violates 14 = .ok (.istore 5, 2) := by decide +kernel
theorem dX12_violates_16 : decode cX12_violates 16 = .ok (.iload_n 1, 1) := by decide +kernel
theorem dX12_violates_17 : decode cX12_violates 17 = .ok (.iconst 1, 1) := by decide +kernel
theorem dX12_violates_18 : decode cX12_violates 18 = .ok (.if_icmp .ne 50, 3) := by decide +kernel
theorem dX12_violates_21 : decode cX12_violates 21 = .ok (.aload_n 0, 1) := by decide +kernel
theorem dX12_violates_22 : decode cX12_violates 22 = .ok (.getfield 26, 3) := by decide +kernel
theorem dX12_violates_25 : decode cX12_violates 25 = .ok (.iload 4, 2) := by decide +kernel
theorem dX12_violates_27 : decode cX12_violates 27 = .ok (.baload, 1) := by decide +kernel
theorem dX12_violates_28 : decode cX12_violates 28 = .ok (.ifCond .eq 38, 3) := by decide +kernel
theorem dX12_violates_31 : decode cX12_violates 31 = .ok (.aload_n 0, 1) := by decide +kernel
theorem dX12_violates_32 : decode cX12_violates 32 = .ok (.getfield 22, 3) := by decide +kernel
theorem dX12_violates_35 : decode cX12_violates 35 = .ok (.iload 4, 2) := by decide +kernel
theorem dX12_violates_37 : decode cX12_violates 37 = .ok (.baload, 1) := by decide +kernel
theorem dX12_violates_38 : decode cX12_violates 38 = .ok (.ifCond .ne 28, 3) := by decide +kernel
theorem dX12_violates_41 : decode cX12_violates 41 = .ok (.iload 5, 2) := by decide +kernel
theorem dX12_violates_43 : decode cX12_violates 43 = .ok (.ifCond .eq 23, 3) := by decide +kernel
theorem dX12_violates_46 : decode cX12_violates 46 = .ok (.aload_n 0, 1) := by decide +kernel
theorem dX12_violates_47 : decode cX12_violates 47 = .ok (.getfield 29, 3) := by decide +kernel
theorem dX12_violates_50 : decode cX12_violates 50 = .ok (.iload 4, 2) := by decide +kernel
theorem dX12_violates_52 : decode cX12_violates 52 = .ok (.iaload, 1) := by decide +kernel
theorem dX12_violates_53 : decode cX12_violates 53 = .ok (.aload_n 0, 1) := by decide +kernel
theorem dX12_violates_54 : decode cX12_violates 54 = .ok (.iload_n 2, 1) := by decide +kernel
theorem dX12_violates_55 : decode cX12_violates 55 = .ok (.iconst 4, 1) := by decide +kernel
theorem dX12_violates_56 : decode cX12_violates 56 = .ok (.invokevirtual 128, 3) := by decide +kernel
theorem dX12_violates_59 : decode cX12_violates 59 = .ok (.if_icmp .ge 7, 3) := by decide +kernel
theorem dX12_violates_62 : decode cX12_violates 62 = .ok (.iconst 1, 1) := by decide +kernel
theorem dX12_violates_63 : decode cX12_violates 63 = .ok (.goto 4, 3) := by decide +kernel
theorem dX12_violates_66 : decode cX12_violates 66 = .ok (.iconst 0, 1) := by decide +kernel
theorem dX12_violates_67 : decode cX12_violates 67 = .ok (.ireturn, 1) := by decide +kernel
theorem dX12_violates_68 : decode cX12_violates 68 = .ok (.iload_n 1, 1) := by decide +kernel
theorem dX12_violates_69 : decode cX12_violates 69 = .ok (.iconst 2, 1) := by decide +kernel
theorem dX12_violates_70 : decode cX12_violates 70 = .ok (.if_icmp .ne 42, 3) := by decide +kernel
theorem dX12_violates_73 : decode cX12_violates 73 = .ok (.aload_n 0, 1) := by decide +kernel
theorem dX12_violates_74 : decode cX12_violates 74 = .ok (.getfield 22, 3) := by decide +kernel
theorem dX12_violates_77 : decode cX12_violates 77 = .ok (.iload 4, 2) := by decide +kernel
theorem dX12_violates_79 : decode cX12_violates 79 = .ok (.baload, 1) := by decide +kernel
theorem dX12_violates_80 : decode cX12_violates 80 = .ok (.ifCond .eq 28, 3) := by decide +kernel
theorem dX12_violates_83 : decode cX12_violates 83 = .ok (.iload 5, 2) := by decide +kernel
theorem dX12_violates_85 : decode cX12_violates 85 = .ok (.ifCond .ne 23, 3) := by decide +kernel
theorem dX12_violates_88 : decode cX12_violates 88 = .ok (.aload_n 0, 1) := by decide +kernel
theorem dX12_violates_89 : decode cX12_violates 89 = .ok (.getfield 32, 3) := by decide +kernel
theorem dX12_violates_92 : decode cX12_violates 92 = .ok (.iload 4, 2) := by decide +kernel
theorem dX12_violates_94 : decode cX12_violates 94 = .ok (.iaload, 1) := by decide +kernel
theorem dX12_violates_95 : decode cX12_violates 95 = .ok (.aload_n 0, 1) := by decide +kernel
theorem dX12_violates_96 : decode cX12_violates 96 = .ok (.iload_n 2, 1) := by decide +kernel
theorem dX12_violates_97 : decode cX12_violates 97 = .ok (.iconst 5, 1) := by decide +kernel
theorem dX12_violates_98 : decode cX12_violates 98 = .ok (.invokevirtual 128, 3) := by decide +kernel
theorem dX12_violates_101 : decode cX12_violates 101 = .ok (.if_icmp .ge 7, 3) := by decide +kernel
theorem dX12_violates_104 : decode cX12_violates 104 = .ok (.iconst 1, 1) := by decide +kernel
theorem dX12_violates_105 : decode cX12_violates 105 = .ok (.goto 31, 3) := by decide +kernel
theorem dX12_violates_108 : decode cX12_violates 108 = .ok (.iconst 0, 1) := by decide +kernel
theorem dX12_violates_109 : decode cX12_violates 109 = .ok (.goto 27, 3) := by decide +kernel
theorem dX12_violates_112 : decode cX12_violates 112 = .ok (.aload_n 0, 1) := by decide +kernel
theorem dX12_violates_113 : decode cX12_violates 113 = .ok (.iload_n 2, 1) := by decide +kernel
theorem dX12_violates_114 : decode cX12_violates 114 = .ok (.iload_n 3, 1) := by decide +kernel
theorem dX12_violates_115 : decode cX12_violates 115 = .ok (.invokevirtual 140, 3) := by decide +kernel
theorem dX12_violates_118 : decode cX12_violates 118 = .ok (.ifCond .eq 17, 3) := by decide +kernel
theorem dX12_violates_121 : decode cX12_violates 121 = .ok (.aload_n 0, 1) := by decide +kernel
theorem dX12_violates_122 : decode cX12_violates 122 = .ok (.getfield 26, 3) := by decide +kernel
theorem dX12_violates_125 : decode cX12_violates 125 = .ok (.iload 4, 2) := by decide +kernel
theorem dX12_violates_127 : decode cX12_violates 127 = .ok (.baload, 1) := by decide +kernel
theorem dX12_violates_128 : decode cX12_violates 128 = .ok (.ifCond .ne 7, 3) := by decide +kernel
theorem dX12_violates_131 : decode cX12_violates 131 = .ok (.iconst 1, 1) := by decide +kernel
theorem dX12_violates_132 : decode cX12_violates 132 = .ok (.goto 4, 3) := by decide +kernel
theorem dX12_violates_135 : decode cX12_violates 135 = .ok (.iconst 0, 1) := by decide +kernel
theorem dX12_violates_136 : decode cX12_violates 136 = .ok (.ireturn, 1) := by decide +kernel
def LX12_violates_136 (Q : Option Value → az_M → Prop) : az_T := (s_rz Q)
theorem okLX12_violates_136 {X : az_X} {Q : Option Value → az_M → Prop} (C : az_C X cX12_violates 6 RX12 (az_ts yX12_violates cX12_violates 6 (some .boolean)) ({ frames := 4, cells := 0, slots := 0, locals := 165 } : Room) (some .boolean) Q) : az_ok X 136 (LX12_violates_136 Q) := by
  have h136 := az_zreturn C rfl dX12_violates_136
  exact h136
def LX12_violates_135 (Q : Option Value → az_M → Prop) : az_T := (s_ic (nI 0) (s_kp [false, false, false, false, false, false] (LX12_violates_136 Q)))
theorem okLX12_violates_135 {X : az_X} {Q : Option Value → az_M → Prop} (C : az_C X cX12_violates 6 RX12 (az_ts yX12_violates cX12_violates 6 (some .boolean)) ({ frames := 4, cells := 0, slots := 0, locals := 165 } : Room) (some .boolean) Q) : az_ok X 135 (LX12_violates_135 Q) := by
  have h135 := az_iconst (x := (nI 0)) C dX12_violates_135 (by decide +kernel) (az_keep [false, false, false, false, false, false] (okLX12_violates_136 C))
  exact h135
def LX12_violates_108 (Q : Option Value → az_M → Prop) : az_T := (s_ic (nI 0) (s_kp [false, false, false, false, false, false] (LX12_violates_136 Q)))
theorem okLX12_violates_108 {X : az_X} {Q : Option Value → az_M → Prop} (C : az_C X cX12_violates 6 RX12 (az_ts yX12_violates cX12_violates 6 (some .boolean)) ({ frames := 4, cells := 0, slots := 0, locals := 165 } : Room) (some .boolean) Q) : az_ok X 108 (LX12_violates_108 Q) := by
  have h109 := az_goto (tgt := 136) C dX12_violates_109 (by decide) (az_keep [false, false, false, false, false, false] (okLX12_violates_136 C))
  have h108 := az_iconst (x := (nI 0)) C dX12_violates_108 (by decide +kernel) h109
  exact h108
def LX12_violates_67 (Q : Option Value → az_M → Prop) : az_T := (s_rz Q)
theorem okLX12_violates_67 {X : az_X} {Q : Option Value → az_M → Prop} (C : az_C X cX12_violates 6 RX12 (az_ts yX12_violates cX12_violates 6 (some .boolean)) ({ frames := 4, cells := 0, slots := 0, locals := 165 } : Room) (some .boolean) Q) : az_ok X 67 (LX12_violates_67 Q) := by
  have h67 := az_zreturn C rfl dX12_violates_67
  exact h67
def LX12_violates_66 (Q : Option Value → az_M → Prop) : az_T := (s_ic (nI 0) (s_kp [false, false, false, false, false, false] (LX12_violates_67 Q)))
theorem okLX12_violates_66 {X : az_X} {Q : Option Value → az_M → Prop} (C : az_C X cX12_violates 6 RX12 (az_ts yX12_violates cX12_violates 6 (some .boolean)) ({ frames := 4, cells := 0, slots := 0, locals := 165 } : Room) (some .boolean) Q) : az_ok X 66 (LX12_violates_66 Q) := by
  have h66 := az_iconst (x := (nI 0)) C dX12_violates_66 (by decide +kernel) (az_keep [false, false, false, false, false, false] (okLX12_violates_67 C))
  exact h66
def PX12_violates (Q : Option Value → az_M → Prop) : az_T := (s_ic (nI 6) (s_li 3 (s_bin f_mul (s_li 2 (s_bin f_add (s_si 4 (s_la 0 (s_li 2 (s_li 3 (s_cv 2 13 FX12_ranBefore (s_si 5 (s_li 1 (s_ic (nI 1) (s_if2 d_ne (s_li 1 (s_ic (nI 2) (s_if2 d_ne (s_la 0 (s_li 2 (s_li 3 (s_cv 2 13 FX12_isPlanned (s_if c_eq (s_kp [false, false, false, false, false, false] (LX12_violates_135 Q)) (s_la 0 (s_gr 13 9 (s_li 4 (s_al 21 (s_if c_ne (s_kp [false, false, false, false, false, false] (LX12_violates_135 Q)) (s_ic (nI 1) (s_kp [false, false, false, false, false, false] (LX12_violates_136 Q))))))))))))) (s_la 0 (s_gr 13 8 (s_li 4 (s_al 21 (s_if c_eq (s_kp [false, false, false, false, false, false] (LX12_violates_108 Q)) (s_li 5 (s_if c_ne (s_kp [false, false, false, false, false, false] (LX12_violates_108 Q)) (s_la 0 (s_gr 13 11 (s_li 4 (s_al 20 (s_la 0 (s_li 2 (s_ic (nI 5) (s_cv 2 13 FX12_of (s_if2 d_ge (s_kp [false, false, false, false, false, false] (LX12_violates_108 Q)) (s_ic (nI 1) (s_kp [false, false, false, false, false, false] (LX12_violates_136 Q)))))))))))))))))))))) (s_la 0 (s_gr 13 9 (s_li 4 (s_al 21 (s_if c_eq (s_kp [false, false, false, false, false, false] (LX12_violates_66 Q)) (s_la 0 (s_gr 13 8 (s_li 4 (s_al 21 (s_if c_ne (s_kp [false, false, false, false, false, false] (LX12_violates_66 Q)) (s_li 5 (s_if c_eq (s_kp [false, false, false, false, false, false] (LX12_violates_66 Q)) (s_la 0 (s_gr 13 10 (s_li 4 (s_al 20 (s_la 0 (s_li 2 (s_ic (nI 4) (s_cv 2 13 FX12_of (s_if2 d_ge (s_kp [false, false, false, false, false, false] (LX12_violates_66 Q)) (s_ic (nI 1) (s_kp [false, false, false, false, false, false] (LX12_violates_67 Q))))))))))))))))))))))))))))))))))))))
def FX12_violates : az_F := az_fun [true, false, false, false] 6 PX12_violates
theorem okX12_violates (l : Launch) : az_met l yX12_violates cX12_violates 6 (some .boolean) ({ frames := 4, cells := 0, slots := 0, locals := 165 } : Room) FX12_violates := az_met_of (own := RX12) (by decide +kernel) rfl (by decide) (fun X Q C => by
  have h132 := az_goto (tgt := 136) C dX12_violates_132 (by decide) (az_keep [false, false, false, false, false, false] (okLX12_violates_136 C))
  have h131 := az_iconst (x := (nI 1)) C dX12_violates_131 (by decide +kernel) h132
  have h128 := az_if_ne (tgt := 135) C dX12_violates_128 (by decide) (az_keep [false, false, false, false, false, false] (okLX12_violates_135 C)) h131
  have h127 := az_zald C dX12_violates_127 h128
  have h125 := az_iload C dX12_violates_125 h127
  have h122 := az_getR (T := TX12) (N := 33) (j := 9) C gwRX12 rfl (by decide) (by decide) iIRX12_9 mFRX12_26 rfl dX12_violates_122 h125
  have h121 := az_aload_n C 0 rfl dX12_violates_121 h122
  have h118 := az_if_eq (tgt := 135) C dX12_violates_118 (by decide) (az_keep [false, false, false, false, false, false] (okLX12_violates_135 C)) h121
  have h115 := az_callV (ci := 13) C okX12_isPlanned knX12_isPlanned imX12_isPlanned seX12_isPlanned mLRX12_140 rfl (by decide) ⟨rfl, rfl, by decide, by decide⟩ dX12_violates_115 h118
  have h114 := az_iload_n C 3 rfl dX12_violates_114 h115
  have h113 := az_iload_n C 2 rfl dX12_violates_113 h114
  have h112 := az_aload_n C 0 rfl dX12_violates_112 h113
  have h105 := az_goto (tgt := 136) C dX12_violates_105 (by decide) (az_keep [false, false, false, false, false, false] (okLX12_violates_136 C))
  have h104 := az_iconst (x := (nI 1)) C dX12_violates_104 (by decide +kernel) h105
  have h101 := az_icmp_ge (tgt := 108) C dX12_violates_101 (by decide) (az_keep [false, false, false, false, false, false] (okLX12_violates_108 C)) h104
  have h98 := az_callV (ci := 13) C okX12_of knX12_of imX12_of seX12_of mLRX12_128 rfl (by decide) ⟨rfl, rfl, by decide, by decide⟩ dX12_violates_98 h101
  have h97 := az_iconst (x := (nI 5)) C dX12_violates_97 (by decide +kernel) h98
  have h96 := az_iload_n C 2 rfl dX12_violates_96 h97
  have h95 := az_aload_n C 0 rfl dX12_violates_95 h96
  have h94 := az_iald C dX12_violates_94 h95
  have h92 := az_iload C dX12_violates_92 h94
  have h89 := az_getR (T := TX12) (N := 33) (j := 11) C gwRX12 rfl (by decide) (by decide) iIRX12_11 mFRX12_32 rfl dX12_violates_89 h92
  have h88 := az_aload_n C 0 rfl dX12_violates_88 h89
  have h85 := az_if_ne (tgt := 108) C dX12_violates_85 (by decide) (az_keep [false, false, false, false, false, false] (okLX12_violates_108 C)) h88
  have h83 := az_iload C dX12_violates_83 h85
  have h80 := az_if_eq (tgt := 108) C dX12_violates_80 (by decide) (az_keep [false, false, false, false, false, false] (okLX12_violates_108 C)) h83
  have h79 := az_zald C dX12_violates_79 h80
  have h77 := az_iload C dX12_violates_77 h79
  have h74 := az_getR (T := TX12) (N := 33) (j := 8) C gwRX12 rfl (by decide) (by decide) iIRX12_8 mFRX12_22 rfl dX12_violates_74 h77
  have h73 := az_aload_n C 0 rfl dX12_violates_73 h74
  have h70 := az_icmp_ne (tgt := 112) C dX12_violates_70 (by decide) h112 h73
  have h69 := az_iconst (x := (nI 2)) C dX12_violates_69 (by decide +kernel) h70
  have h68 := az_iload_n C 1 rfl dX12_violates_68 h69
  have h63 := az_goto (tgt := 67) C dX12_violates_63 (by decide) (az_keep [false, false, false, false, false, false] (okLX12_violates_67 C))
  have h62 := az_iconst (x := (nI 1)) C dX12_violates_62 (by decide +kernel) h63
  have h59 := az_icmp_ge (tgt := 66) C dX12_violates_59 (by decide) (az_keep [false, false, false, false, false, false] (okLX12_violates_66 C)) h62
  have h56 := az_callV (ci := 13) C okX12_of knX12_of imX12_of seX12_of mLRX12_128 rfl (by decide) ⟨rfl, rfl, by decide, by decide⟩ dX12_violates_56 h59
  have h55 := az_iconst (x := (nI 4)) C dX12_violates_55 (by decide +kernel) h56
  have h54 := az_iload_n C 2 rfl dX12_violates_54 h55
  have h53 := az_aload_n C 0 rfl dX12_violates_53 h54
  have h52 := az_iald C dX12_violates_52 h53
  have h50 := az_iload C dX12_violates_50 h52
  have h47 := az_getR (T := TX12) (N := 33) (j := 10) C gwRX12 rfl (by decide) (by decide) iIRX12_10 mFRX12_29 rfl dX12_violates_47 h50
  have h46 := az_aload_n C 0 rfl dX12_violates_46 h47
  have h43 := az_if_eq (tgt := 66) C dX12_violates_43 (by decide) (az_keep [false, false, false, false, false, false] (okLX12_violates_66 C)) h46
  have h41 := az_iload C dX12_violates_41 h43
  have h38 := az_if_ne (tgt := 66) C dX12_violates_38 (by decide) (az_keep [false, false, false, false, false, false] (okLX12_violates_66 C)) h41
  have h37 := az_zald C dX12_violates_37 h38
  have h35 := az_iload C dX12_violates_35 h37
  have h32 := az_getR (T := TX12) (N := 33) (j := 8) C gwRX12 rfl (by decide) (by decide) iIRX12_8 mFRX12_22 rfl dX12_violates_32 h35
  have h31 := az_aload_n C 0 rfl dX12_violates_31 h32
  have h28 := az_if_eq (tgt := 66) C dX12_violates_28 (by decide) (az_keep [false, false, false, false, false, false] (okLX12_violates_66 C)) h31
  have h27 := az_zald C dX12_violates_27 h28
  have h25 := az_iload C dX12_violates_25 h27
  have h22 := az_getR (T := TX12) (N := 33) (j := 9) C gwRX12 rfl (by decide) (by decide) iIRX12_9 mFRX12_26 rfl dX12_violates_22 h25
  have h21 := az_aload_n C 0 rfl dX12_violates_21 h22
  have h18 := az_icmp_ne (tgt := 68) C dX12_violates_18 (by decide) h68 h21
  have h17 := az_iconst (x := (nI 1)) C dX12_violates_17 (by decide +kernel) h18
  have h16 := az_iload_n C 1 rfl dX12_violates_16 h17
  have h14 := az_istore C (by decide) dX12_violates_14 h16
  have h11 := az_callV (ci := 13) C okX12_ranBefore knX12_ranBefore imX12_ranBefore seX12_ranBefore mLRX12_157 rfl (by decide) ⟨rfl, rfl, by decide, by decide⟩ dX12_violates_11 h14
  have h10 := az_iload_n C 3 rfl dX12_violates_10 h11
  have h9 := az_iload_n C 2 rfl dX12_violates_9 h10
  have h8 := az_aload_n C 0 rfl dX12_violates_8 h9
  have h6 := az_istore C (by decide) dX12_violates_6 h8
  have h5 := az_iadd C dX12_violates_5 h6
  have h4 := az_iload_n C 2 rfl dX12_violates_4 h5
  have h3 := az_imul C dX12_violates_3 h4
  have h2 := az_iload_n C 3 rfl dX12_violates_2 h3
  have h0 := az_bipush (x := (nI 6)) C dX12_violates_0 (by decide +kernel) h2
  exact h0) l
theorem dX12_tellViolation_0 : decode cX12_tellViolation 0 = .ok (.aload_n 0, 1) := by decide +kernel
theorem dX12_tellViolation_1 : decode cX12_tellViolation 1 = .ok (.getfield 65, 3) := by decide +kernel
theorem dX12_tellViolation_4 : decode cX12_tellViolation 4 = .ok (.iconst 3, 1) := by decide +kernel
theorem dX12_tellViolation_5 : decode cX12_tellViolation 5 = .ok (.aload_n 0, 1) := by decide +kernel
theorem dX12_tellViolation_6 : decode cX12_tellViolation 6 = .ok (.getfield 208, 3) := by decide +kernel
theorem dX12_tellViolation_9 : decode cX12_tellViolation 9 = .ok (.imul, 1) := by decide +kernel
theorem dX12_tellViolation_10 : decode cX12_tellViolation 10 = .ok (.iload_n 1, 1) := by decide +kernel
theorem dX12_tellViolation_11 : decode cX12_tellViolation 11 = .ok (.iastore, 1) := by decide +kernel
theorem dX12_tellViolation_12 : decode cX12_tellViolation 12 = .ok (.aload_n 0, 1) := by decide +kernel
theorem dX12_tellViolation_13 : decode cX12_tellViolation 13 = .ok (.getfield 65, 3) := by decide +kernel
theorem dX12_tellViolation_16 : decode cX12_tellViolation 16 = .ok (.iconst 3, 1) := by decide +kernel
theorem dX12_tellViolation_17 : decode cX12_tellViolation 17 = .ok (.aload_n 0, 1) := by decide +kernel
theorem dX12_tellViolation_18 : decode cX12_tellViolation 18 = .ok (.getfield 208, 3) := by decide +kernel
theorem dX12_tellViolation_21 : decode cX12_tellViolation 21 = .ok (.imul, 1) := by decide +kernel
theorem dX12_tellViolation_22 : decode cX12_tellViolation 22 = .ok (.iconst 1, 1) := by decide +kernel
theorem dX12_tellViolation_23 : decode cX12_tellViolation 23 = .ok (.iadd, 1) := by decide +kernel
theorem dX12_tellViolation_24 : decode cX12_tellViolation 24 = .ok (.iload_n 2, 1) := by decide +kernel
theorem dX12_tellViolation_25 : decode cX12_tellViolation 25 = .ok (.iastore, 1) := by decide +kernel
theorem dX12_tellViolation_26 : decode cX12_tellViolation 26 = .ok (.aload_n 0, 1) := by decide +kernel
theorem dX12_tellViolation_27 : decode cX12_tellViolation 27 = .ok (.getfield 65, 3) := by decide +kernel
theorem dX12_tellViolation_30 : decode cX12_tellViolation 30 = .ok (.iconst 3, 1) := by decide +kernel
theorem dX12_tellViolation_31 : decode cX12_tellViolation 31 = .ok (.aload_n 0, 1) := by decide +kernel
theorem dX12_tellViolation_32 : decode cX12_tellViolation 32 = .ok (.getfield 208, 3) := by decide +kernel
theorem dX12_tellViolation_35 : decode cX12_tellViolation 35 = .ok (.imul, 1) := by decide +kernel
theorem dX12_tellViolation_36 : decode cX12_tellViolation 36 = .ok (.iconst 2, 1) := by decide +kernel
theorem dX12_tellViolation_37 : decode cX12_tellViolation 37 = .ok (.iadd, 1) := by decide +kernel
theorem dX12_tellViolation_38 : decode cX12_tellViolation 38 = .ok (.iload_n 3, 1) := by decide +kernel
theorem dX12_tellViolation_39 : decode cX12_tellViolation 39 = .ok (.iastore, 1) := by decide +kernel
theorem dX12_tellViolation_40 : decode cX12_tellViolation 40 = .ok (.aload_n 0, 1) := by decide +kernel
theorem dX12_tellViolation_41 : decode cX12_tellViolation 41 = .ok (.dup, 1) := by decide +kernel
theorem dX12_tellViolation_42 : decode cX12_tellViolation 42 = .ok (.getfield 208, 3) := by decide +kernel
theorem dX12_tellViolation_45 : decode cX12_tellViolation 45 = .ok (.iconst 1, 1) := by decide +kernel
theorem dX12_tellViolation_46 : decode cX12_tellViolation 46 = .ok (.iadd, 1) := by decide +kernel
theorem dX12_tellViolation_47 : decode cX12_tellViolation 47 = .ok (.putfield 208, 3) := by decide +kernel
theorem dX12_tellViolation_50 : decode cX12_tellViolation 50 = .ok (.return_, 1) := by decide +kernel
def PX12_tellViolation (Q : Option Value → az_M → Prop) : az_T := (s_la 0 (s_gr 13 22 (s_ic (nI 3) (s_la 0 (s_gi 13 23 (s_bin f_mul (s_li 1 (s_as (s_la 0 (s_gr 13 22 (s_ic (nI 3) (s_la 0 (s_gi 13 23 (s_bin f_mul (s_ic (nI 1) (s_bin f_add (s_li 2 (s_as (s_la 0 (s_gr 13 22 (s_ic (nI 3) (s_la 0 (s_gi 13 23 (s_bin f_mul (s_ic (nI 2) (s_bin f_add (s_li 3 (s_as (s_la 0 (s_dup (s_gi 13 23 (s_ic (nI 1) (s_bin f_add (s_pi 13 23 (s_rv Q)))))))))))))))))))))))))))))))))))
def FX12_tellViolation : az_F := az_fun [true, false, false, false] 4 PX12_tellViolation
theorem okX12_tellViolation (l : Launch) : az_met l yX12_tellViolation cX12_tellViolation 4 none ({ frames := 1, cells := 0, slots := 0, locals := 100 } : Room) FX12_tellViolation := az_met_of (own := RX12) (by decide +kernel) rfl (by decide) (fun X Q C => by
  have h50 := az_vreturn C rfl dX12_tellViolation_50
  have h47 := az_putI (T := TX12) (N := 33) (j := 23) C gwRX12 rfl (by decide) (by decide) tyX12 tyX12_ok nmX12 iIRX12_23 (by decide +kernel) rfl mFRX12_208 rfl dX12_tellViolation_47 h50
  have h46 := az_iadd C dX12_tellViolation_46 h47
  have h45 := az_iconst (x := (nI 1)) C dX12_tellViolation_45 (by decide +kernel) h46
  have h42 := az_getI (T := TX12) (N := 33) (j := 23) C gwRX12 rfl (by decide) (by decide) iIRX12_23 mFRX12_208 rfl dX12_tellViolation_42 h45
  have h41 := az_dup C dX12_tellViolation_41 h42
  have h40 := az_aload_n C 0 rfl dX12_tellViolation_40 h41
  have h39 := az_iast C dX12_tellViolation_39 h40
  have h38 := az_iload_n C 3 rfl dX12_tellViolation_38 h39
  have h37 := az_iadd C dX12_tellViolation_37 h38
  have h36 := az_iconst (x := (nI 2)) C dX12_tellViolation_36 (by decide +kernel) h37
  have h35 := az_imul C dX12_tellViolation_35 h36
  have h32 := az_getI (T := TX12) (N := 33) (j := 23) C gwRX12 rfl (by decide) (by decide) iIRX12_23 mFRX12_208 rfl dX12_tellViolation_32 h35
  have h31 := az_aload_n C 0 rfl dX12_tellViolation_31 h32
  have h30 := az_iconst (x := (nI 3)) C dX12_tellViolation_30 (by decide +kernel) h31
  have h27 := az_getR (T := TX12) (N := 33) (j := 22) C gwRX12 rfl (by decide) (by decide) iIRX12_22 mFRX12_65 rfl dX12_tellViolation_27 h30
  have h26 := az_aload_n C 0 rfl dX12_tellViolation_26 h27
  have h25 := az_iast C dX12_tellViolation_25 h26
  have h24 := az_iload_n C 2 rfl dX12_tellViolation_24 h25
  have h23 := az_iadd C dX12_tellViolation_23 h24
  have h22 := az_iconst (x := (nI 1)) C dX12_tellViolation_22 (by decide +kernel) h23
  have h21 := az_imul C dX12_tellViolation_21 h22
  have h18 := az_getI (T := TX12) (N := 33) (j := 23) C gwRX12 rfl (by decide) (by decide) iIRX12_23 mFRX12_208 rfl dX12_tellViolation_18 h21
  have h17 := az_aload_n C 0 rfl dX12_tellViolation_17 h18
  have h16 := az_iconst (x := (nI 3)) C dX12_tellViolation_16 (by decide +kernel) h17
  have h13 := az_getR (T := TX12) (N := 33) (j := 22) C gwRX12 rfl (by decide) (by decide) iIRX12_22 mFRX12_65 rfl dX12_tellViolation_13 h16
  have h12 := az_aload_n C 0 rfl dX12_tellViolation_12 h13
  have h11 := az_iast C dX12_tellViolation_11 h12
  have h10 := az_iload_n C 1 rfl dX12_tellViolation_10 h11
  have h9 := az_imul C dX12_tellViolation_9 h10
  have h6 := az_getI (T := TX12) (N := 33) (j := 23) C gwRX12 rfl (by decide) (by decide) iIRX12_23 mFRX12_208 rfl dX12_tellViolation_6 h9
  have h5 := az_aload_n C 0 rfl dX12_tellViolation_5 h6
  have h4 := az_iconst (x := (nI 3)) C dX12_tellViolation_4 (by decide +kernel) h5
  have h1 := az_getR (T := TX12) (N := 33) (j := 22) C gwRX12 rfl (by decide) (by decide) iIRX12_22 mFRX12_65 rfl dX12_tellViolation_1 h4
  have h0 := az_aload_n C 0 rfl dX12_tellViolation_0 h1
  exact h0) l
theorem dX12_sum_0 : decode cX12_sum 0 = .ok (.iconst 0, 1) := by decide +kernel
theorem dX12_sum_1 : decode cX12_sum 1 = .ok (.istore 5, 2) := by decide +kernel
theorem dX12_sum_3 : decode cX12_sum 3 = .ok (.iconst 0, 1) := by decide +kernel
theorem dX12_sum_4 : decode cX12_sum 4 = .ok (.istore 6, 2) := by decide +kernel
theorem dX12_sum_6 : decode cX12_sum 6 = .ok (.iload 6, 2) := by decide +kernel
theorem dX12_sum_8 : decode cX12_sum 8 = .ok (.iload 4, 2) := by decide +kernel
theorem dX12_sum_10 : decode cX12_sum 10 = .ok (.if_icmp .ge 22, 3) := by decide +kernel
theorem dX12_sum_13 : decode cX12_sum 13 = .ok (.iload 5, 2) := by decide +kernel
theorem dX12_sum_15 : decode cX12_sum 15 = .ok (.aload_n 1, 1) := by decide +kernel
theorem dX12_sum_16 : decode cX12_sum 16 = .ok (.iload_n 3, 1) := by decide +kernel
theorem dX12_sum_17 : decode cX12_sum 17 = .ok (.iload_n 2, 1) := by decide +kernel
theorem dX12_sum_18 : decode cX12_sum 18 = .ok (.imul, 1) := by decide +kernel
theorem dX12_sum_19 : decode cX12_sum 19 = .ok (.iload 6, 2) := by decide +kernel
theorem dX12_sum_21 : decode cX12_sum 21 = .ok (.iadd, 1) := by decide +kernel
theorem dX12_sum_22 : decode cX12_sum 22 = .ok (.iaload, 1) := by decide +kernel
theorem dX12_sum_23 : decode cX12_sum 23 = .ok (.iadd, 1) := by decide +kernel
theorem dX12_sum_24 : decode cX12_sum 24 = .ok (.istore 5, 2) := by decide +kernel
theorem dX12_sum_26 : decode cX12_sum 26 = .ok (.iinc 6 1, 3) := by decide +kernel
theorem dX12_sum_29 : decode cX12_sum 29 = .ok (.goto (-23), 3) := by decide +kernel
theorem dX12_sum_32 : decode cX12_sum 32 = .ok (.iload 5, 2) := by decide +kernel
theorem dX12_sum_34 : decode cX12_sum 34 = .ok (.ireturn, 1) := by decide +kernel
def BX12_sum_6 (Q : Option Value → az_M → Prop) (Z6 : az_T) : az_T := (s_li 6 (s_li 4 (s_if2 d_ge (s_li 5 (s_ri Q)) (s_li 5 (s_la 1 (s_li 3 (s_li 2 (s_bin f_mul (s_li 6 (s_bin f_add (s_al 20 (s_bin f_add (s_si 5 (s_inc 6 (nI 1) (s_kp [false, true, true, true, true, true, true] Z6)))))))))))))))
theorem okBX12_sum_6 {X : az_X} {Q : Option Value → az_M → Prop} (C : az_C X cX12_sum 7 RX12 (az_ts yX12_sum cX12_sum 7 (some .int)) ({ frames := 1, cells := 0, slots := 0, locals := 100 } : Room) (some .int) Q) {Z6 : az_T} (hZ6 : az_ok X 6 Z6) : az_ok X 6 (BX12_sum_6 Q Z6) := by
  have h34 := az_ireturn C rfl dX12_sum_34
  have h32 := az_iload C dX12_sum_32 h34
  have h29 := az_goto (tgt := 6) C dX12_sum_29 (by decide) (az_keep [false, true, true, true, true, true, true] hZ6)
  have h26 := az_iinc (v := (nI 1)) C (by decide) (by decide +kernel) dX12_sum_26 h29
  have h24 := az_istore C (by decide) dX12_sum_24 h26
  have h23 := az_iadd C dX12_sum_23 h24
  have h22 := az_iald C dX12_sum_22 h23
  have h21 := az_iadd C dX12_sum_21 h22
  have h19 := az_iload C dX12_sum_19 h21
  have h18 := az_imul C dX12_sum_18 h19
  have h17 := az_iload_n C 2 rfl dX12_sum_17 h18
  have h16 := az_iload_n C 3 rfl dX12_sum_16 h17
  have h15 := az_aload_n C 1 rfl dX12_sum_15 h16
  have h13 := az_iload C dX12_sum_13 h15
  have h10 := az_icmp_ge (tgt := 32) C dX12_sum_10 (by decide) h32 h13
  have h8 := az_iload C dX12_sum_8 h10
  have h6 := az_iload C dX12_sum_6 h8
  exact h6
def LX12_sum_6 (Q : Option Value → az_M → Prop) : az_T := s_lp (fun Z => BX12_sum_6 Q Z)
theorem okLX12_sum_6 {X : az_X} {Q : Option Value → az_M → Prop} (C : az_C X cX12_sum 7 RX12 (az_ts yX12_sum cX12_sum 7 (some .int)) ({ frames := 1, cells := 0, slots := 0, locals := 100 } : Room) (some .int) Q) : az_ok X 6 (LX12_sum_6 Q) := az_loop (F := fun Z => BX12_sum_6 Q Z) (fun _ hZ => okBX12_sum_6 C hZ)
def PX12_sum (Q : Option Value → az_M → Prop) : az_T := (s_ic (nI 0) (s_si 5 (s_ic (nI 0) (s_si 6 (s_kp [false, true, true, true, true, true, true] (LX12_sum_6 Q))))))
def FX12_sum : az_F := az_fun [true, true, false, false, false] 7 PX12_sum
theorem okX12_sum (l : Launch) : az_met l yX12_sum cX12_sum 7 (some .int) ({ frames := 1, cells := 0, slots := 0, locals := 100 } : Room) FX12_sum := az_met_of (own := RX12) (by decide +kernel) rfl (by decide) (fun X Q C => by
  have h4 := az_istore C (by decide) dX12_sum_4 (az_keep [false, true, true, true, true, true, true] (okLX12_sum_6 C))
  have h3 := az_iconst (x := (nI 0)) C dX12_sum_3 (by decide +kernel) h4
  have h1 := az_istore C (by decide) dX12_sum_1 h3
  have h0 := az_iconst (x := (nI 0)) C dX12_sum_0 (by decide +kernel) h1
  exact h0) l
theorem dX12_shedIn_0 : decode cX12_shedIn 0 = .ok (.aload_n 0, 1) := by decide +kernel
theorem dX12_shedIn_1 : decode cX12_shedIn 1 = .ok (.aload_n 0, 1) := by decide +kernel
theorem dX12_shedIn_2 : decode cX12_shedIn 2 = .ok (.getfield 53, 3) := by decide +kernel
theorem dX12_shedIn_5 : decode cX12_shedIn 5 = .ok (.iload_n 1, 1) := by decide +kernel
theorem dX12_shedIn_6 : decode cX12_shedIn 6 = .ok (.iconst 4, 1) := by decide +kernel
theorem dX12_shedIn_7 : decode cX12_shedIn 7 = .ok (.aload_n 0, 1) := by decide +kernel
theorem dX12_shedIn_8 : decode cX12_shedIn 8 = .ok (.getfield 9, 3) := by decide +kernel
theorem dX12_shedIn_11 : decode cX12_shedIn 11 = .ok (.iconst 1, 1) := by decide +kernel
theorem dX12_shedIn_12 : decode cX12_shedIn 12 = .ok (.iaload, 1) := by decide +kernel
theorem dX12_shedIn_13 : decode cX12_shedIn 13 = .ok (.invokevirtual 189, 3) := by decide +kernel
theorem dX12_shedIn_16 : decode cX12_shedIn 16 = .ok (.ireturn, 1) := by decide +kernel
def PX12_shedIn (Q : Option Value → az_M → Prop) : az_T := (s_la 0 (s_la 0 (s_gr 13 18 (s_li 1 (s_ic (nI 4) (s_la 0 (s_gr 13 0 (s_ic (nI 1) (s_al 20 (s_cv 4 13 FX12_sum (s_ri Q)))))))))))
def FX12_shedIn : az_F := az_fun [true, false] 2 PX12_shedIn
theorem okX12_shedIn (l : Launch) : az_met l yX12_shedIn cX12_shedIn 2 (some .int) ({ frames := 2, cells := 0, slots := 0, locals := 126 } : Room) FX12_shedIn := az_met_of (own := RX12) (by decide +kernel) rfl (by decide) (fun X Q C => by
  have h16 := az_ireturn C rfl dX12_shedIn_16
  have h13 := az_callV (ci := 13) C okX12_sum knX12_sum imX12_sum seX12_sum mLRX12_189 rfl (by decide) ⟨rfl, rfl, by decide, by decide⟩ dX12_shedIn_13 h16
  have h12 := az_iald C dX12_shedIn_12 h13
  have h11 := az_iconst (x := (nI 1)) C dX12_shedIn_11 (by decide +kernel) h12
  have h8 := az_getR (T := TX12) (N := 33) (j := 0) C gwRX12 rfl (by decide) (by decide) iIRX12_0 mFRX12_9 rfl dX12_shedIn_8 h11
  have h7 := az_aload_n C 0 rfl dX12_shedIn_7 h8
  have h6 := az_iconst (x := (nI 4)) C dX12_shedIn_6 (by decide +kernel) h7
  have h5 := az_iload_n C 1 rfl dX12_shedIn_5 h6
  have h2 := az_getR (T := TX12) (N := 33) (j := 18) C gwRX12 rfl (by decide) (by decide) iIRX12_18 mFRX12_53 rfl dX12_shedIn_2 h5
  have h1 := az_aload_n C 0 rfl dX12_shedIn_1 h2
  have h0 := az_aload_n C 0 rfl dX12_shedIn_0 h1
  exact h0) l
theorem dX12_reserveOf_0 : decode cX12_reserveOf 0 = .ok (.aload_n 0, 1) := by decide +kernel
theorem dX12_reserveOf_1 : decode cX12_reserveOf 1 = .ok (.aload_n 0, 1) := by decide +kernel
theorem dX12_reserveOf_2 : decode cX12_reserveOf 2 = .ok (.getfield 38, 3) := by decide +kernel
theorem dX12_reserveOf_5 : decode cX12_reserveOf 5 = .ok (.iload_n 1, 1) := by decide +kernel
theorem dX12_reserveOf_6 : decode cX12_reserveOf 6 = .ok (.bipush 6, 2) := by decide +kernel
theorem dX12_reserveOf_8 : decode cX12_reserveOf 8 = .ok (.aload_n 0, 1) := by decide +kernel
theorem dX12_reserveOf_9 : decode cX12_reserveOf 9 = .ok (.getfield 9, 3) := by decide +kernel
theorem dX12_reserveOf_12 : decode cX12_reserveOf 12 = .ok (.iconst 2, 1) := by decide +kernel
theorem dX12_reserveOf_13 : decode cX12_reserveOf 13 = .ok (.iaload, 1) := by decide +kernel
theorem dX12_reserveOf_14 : decode cX12_reserveOf 14 = .ok (.invokevirtual 189, 3) := by decide +kernel
theorem dX12_reserveOf_17 : decode cX12_reserveOf 17 = .ok (.aload_n 0, 1) := by decide +kernel
theorem dX12_reserveOf_18 : decode cX12_reserveOf 18 = .ok (.aload_n 0, 1) := by decide +kernel
theorem dX12_reserveOf_19 : decode cX12_reserveOf 19 = .ok (.getfield 41, 3) := by decide +kernel
theorem dX12_reserveOf_22 : decode cX12_reserveOf 22 = .ok (.iload_n 1, 1) := by decide +kernel
theorem dX12_reserveOf_23 : decode cX12_reserveOf 23 = .ok (.bipush 6, 2) := by decide +kernel
theorem dX12_reserveOf_25 : decode cX12_reserveOf 25 = .ok (.aload_n 0, 1) := by decide +kernel
theorem dX12_reserveOf_26 : decode cX12_reserveOf 26 = .ok (.getfield 9, 3) := by decide +kernel
theorem dX12_reserveOf_29 : decode cX12_reserveOf 29 = .ok (.iconst 2, 1) := by decide +kernel
theorem dX12_reserveOf_30 : decode cX12_reserveOf 30 = .ok (.iaload, 1) := by decide +kernel
theorem dX12_reserveOf_31 : decode cX12_reserveOf 31 = .ok (.invokevirtual 189, 3) := by decide +kernel
theorem dX12_reserveOf_34 : decode cX12_reserveOf 34 = .ok (.isub, 1) := by decide +kernel
theorem dX12_reserveOf_35 : decode cX12_reserveOf 35 = .ok (.ireturn, 1) := by decide +kernel
def PX12_reserveOf (Q : Option Value → az_M → Prop) : az_T := (s_la 0 (s_la 0 (s_gr 13 13 (s_li 1 (s_ic (nI 6) (s_la 0 (s_gr 13 0 (s_ic (nI 2) (s_al 20 (s_cv 4 13 FX12_sum (s_la 0 (s_la 0 (s_gr 13 14 (s_li 1 (s_ic (nI 6) (s_la 0 (s_gr 13 0 (s_ic (nI 2) (s_al 20 (s_cv 4 13 FX12_sum (s_bin f_sub (s_ri Q))))))))))))))))))))))
def FX12_reserveOf : az_F := az_fun [true, false] 2 PX12_reserveOf
theorem okX12_reserveOf (l : Launch) : az_met l yX12_reserveOf cX12_reserveOf 2 (some .int) ({ frames := 2, cells := 0, slots := 0, locals := 126 } : Room) FX12_reserveOf := az_met_of (own := RX12) (by decide +kernel) rfl (by decide) (fun X Q C => by
  have h35 := az_ireturn C rfl dX12_reserveOf_35
  have h34 := az_isub C dX12_reserveOf_34 h35
  have h31 := az_callV (ci := 13) C okX12_sum knX12_sum imX12_sum seX12_sum mLRX12_189 rfl (by decide) ⟨rfl, rfl, by decide, by decide⟩ dX12_reserveOf_31 h34
  have h30 := az_iald C dX12_reserveOf_30 h31
  have h29 := az_iconst (x := (nI 2)) C dX12_reserveOf_29 (by decide +kernel) h30
  have h26 := az_getR (T := TX12) (N := 33) (j := 0) C gwRX12 rfl (by decide) (by decide) iIRX12_0 mFRX12_9 rfl dX12_reserveOf_26 h29
  have h25 := az_aload_n C 0 rfl dX12_reserveOf_25 h26
  have h23 := az_bipush (x := (nI 6)) C dX12_reserveOf_23 (by decide +kernel) h25
  have h22 := az_iload_n C 1 rfl dX12_reserveOf_22 h23
  have h19 := az_getR (T := TX12) (N := 33) (j := 14) C gwRX12 rfl (by decide) (by decide) iIRX12_14 mFRX12_41 rfl dX12_reserveOf_19 h22
  have h18 := az_aload_n C 0 rfl dX12_reserveOf_18 h19
  have h17 := az_aload_n C 0 rfl dX12_reserveOf_17 h18
  have h14 := az_callV (ci := 13) C okX12_sum knX12_sum imX12_sum seX12_sum mLRX12_189 rfl (by decide) ⟨rfl, rfl, by decide, by decide⟩ dX12_reserveOf_14 h17
  have h13 := az_iald C dX12_reserveOf_13 h14
  have h12 := az_iconst (x := (nI 2)) C dX12_reserveOf_12 (by decide +kernel) h13
  have h9 := az_getR (T := TX12) (N := 33) (j := 0) C gwRX12 rfl (by decide) (by decide) iIRX12_0 mFRX12_9 rfl dX12_reserveOf_9 h12
  have h8 := az_aload_n C 0 rfl dX12_reserveOf_8 h9
  have h6 := az_bipush (x := (nI 6)) C dX12_reserveOf_6 (by decide +kernel) h8
  have h5 := az_iload_n C 1 rfl dX12_reserveOf_5 h6
  have h2 := az_getR (T := TX12) (N := 33) (j := 13) C gwRX12 rfl (by decide) (by decide) iIRX12_13 mFRX12_38 rfl dX12_reserveOf_2 h5
  have h1 := az_aload_n C 0 rfl dX12_reserveOf_1 h2
  have h0 := az_aload_n C 0 rfl dX12_reserveOf_0 h1
  exact h0) l
theorem dX12_findViolations_0 : decode cX12_findViolations 0 = .ok (.aload_n 0, 1) := by decide +kernel
theorem dX12_findViolations_1 : decode cX12_findViolations 1 = .ok (.iconst 0, 1) := by decide +kernel
theorem dX12_findViolations_2 : decode cX12_findViolations 2 = .ok (.putfield 208, 3) := by decide +kernel
theorem dX12_findViolations_5 : decode cX12_findViolations 5 = .ok (.iconst 0, 1) := by decide +kernel
theorem dX12_findViolations_6 : decode cX12_findViolations 6 = .ok (.istore_n 1, 1) := by decide +kernel
theorem dX12_findViolations_7 : decode cX12_findViolations 7 = .ok (.iload_n 1, 1) := by decide +kernel
theorem dX12_findViolations_8 : decode cX12_findViolations 8 = .ok (.aload_n 0, 1) := by decide +kernel
theorem dX12_findViolations_9 : decode cX12_findViolations 9 = .ok (.getfield 9, 3) := by decide +kernel
theorem dX12_findViolations_12 : decode cX12_findViolations 12 = .ok (.iconst 0, 1) := by decide +kernel
theorem dX12_findViolations_13 : decode cX12_findViolations 13 = .ok (.iaload, 1) := by decide +kernel
theorem dX12_findViolations_14 : decode cX12_findViolations 14 = .ok (.if_icmp .ge 124, 3) := by decide +kernel
theorem dX12_findViolations_17 : decode cX12_findViolations 17 = .ok (.iconst 1, 1) := by decide +kernel
theorem dX12_findViolations_18 : decode cX12_findViolations 18 = .ok (.istore_n 2, 1) := by decide +kernel
theorem dX12_findViolations_19 : decode cX12_findViolations 19 = .ok (.iload_n 2, 1) := by decide +kernel
theorem dX12_findViolations_20 : decode cX12_findViolations 20 = .ok (.iconst 3, 1) := by decide +kernel
theorem dX12_findViolations_21 : decode cX12_findViolations 21 = .ok (.if_icmp .gt 44, 3) := by decide +kernel
theorem dX12_findViolations_24 : decode cX12_findViolations 24 = .ok (.iconst 0, 1) := by decide +kernel
theorem dX12_findViolations_25 : decode cX12_findViolations 25 = .ok (.istore_n 3, 1) := by decide +kernel
theorem dX12_findViolations_26 : decode cX12_findViolations 26 = .ok (.iload_n 3, 1) := by decide +kernel
theorem dX12_findViolations_27 : decode cX12_findViolations 27 = .ok (.aload_n 0, 1) := by decide +kernel
theorem dX12_findViolations_28 : decode cX12_findViolations 28 = .ok (.getfield 9, 3) := by decide +kernel
theorem dX12_findViolations_31 : decode cX12_findViolations 31 = .ok (.iconst 2, 1) := by decide +kernel
theorem dX12_findViolations_32 : decode cX12_findViolations 32 = .ok (.iaload, 1) := by decide +kernel
theorem dX12_findViolations_33 : decode cX12_findViolations 33 = .ok (.if_icmp .ge 26, 3) := by decide +kernel
theorem dX12_findViolations_36 : decode cX12_findViolations 36 = .ok (.aload_n 0, 1) := by decide +kernel
theorem dX12_findViolations_37 : decode cX12_findViolations 37 = .ok (.iload_n 2, 1) := by decide +kernel
theorem dX12_findViolations_38 : decode cX12_findViolations 38 = .ok (.iload_n 3, 1) := by decide +kernel
theorem dX12_findViolations_39 : decode cX12_findViolations 39 = .ok (.iload_n 1, 1) := by decide +kernel
theorem dX12_findViolations_40 : decode cX12_findViolations 40 = .ok (.invokevirtual 211, 3) := by decide +kernel
theorem dX12_findViolations_43 : decode cX12_findViolations 43 = .ok (.ifCond .eq 10, 3) := by decide +kernel
theorem dX12_findViolations_46 : decode cX12_findViolations 46 = .ok (.aload_n 0, 1) := by decide +kernel
theorem dX12_findViolations_47 : decode cX12_findViolations 47 = .ok (.iload_n 1, 1) := by decide +kernel
theorem dX12_findViolations_48 : decode cX12_findViolations 48 = .ok (.iload_n 2, 1) := by decide +kernel
theorem dX12_findViolations_49 : decode cX12_findViolations 49 = .ok (.iload_n 3, 1) := by decide +kernel
theorem dX12_findViolations_50 : decode cX12_findViolations 50 = .ok (.invokevirtual 214, 3) := by decide +kernel
theorem dX12_findViolations_53 : decode cX12_findViolations 53 = .ok (.iinc 3 1, 3) := by decide +kernel
theorem dX12_findViolations_56 : decode cX12_findViolations 56 = .ok (.goto (-30), 3) := by decide +kernel
theorem dX12_findViolations_59 : decode cX12_findViolations 59 = .ok (.iinc 2 1, 3) := by decide +kernel
theorem dX12_findViolations_62 : decode cX12_findViolations 62 = .ok (.goto (-43), 3) := by decide +kernel
theorem dX12_findViolations_65 : decode cX12_findViolations 65 = .ok (.aload_n 0, 1) := by decide +kernel
theorem dX12_findViolations_66 : decode cX12_findViolations 66 = .ok (.iload_n 1, 1) := by decide +kernel
theorem dX12_findViolations_67 : decode cX12_findViolations 67 = .ok (.invokevirtual 202, 3) := by decide +kernel
theorem dX12_findViolations_70 : decode cX12_findViolations 70 = .ok (.ifCond .le 10, 3) := by decide +kernel
theorem dX12_findViolations_73 : decode cX12_findViolations 73 = .ok (.aload_n 0, 1) := by decide +kernel
theorem dX12_findViolations_74 : decode cX12_findViolations 74 = .ok (.iload_n 1, 1) := by decide +kernel
theorem dX12_findViolations_75 : decode cX12_findViolations 75 = .ok (.iconst 4, 1) := by decide +kernel
theorem dX12_findViolations_76 : decode cX12_findViolations 76 = .ok (.iconst (-1), 1) := by decide +kernel
theorem dX12_findViolations_77 : decode cX12_findViolations 77 = .ok (.invokevirtual 214, 3) := by decide +kernel
theorem dX12_findViolations_80 : decode cX12_findViolations 80 = .ok (.aload_n 0, 1) := by decide +kernel
theorem dX12_findViolations_81 : decode cX12_findViolations 81 = .ok (.iload_n 1, 1) := by decide +kernel
theorem dX12_findViolations_82 : decode cX12_findViolations 82 = .ok (.invokevirtual 205, 3) := by decide +kernel
theorem dX12_findViolations_85 : decode cX12_findViolations 85 = .ok (.aload_n 0, 1) := by decide +kernel
theorem dX12_findViolations_86 : decode cX12_findViolations 86 = .ok (.getfield 9, 3) := by decide +kernel
theorem dX12_findViolations_89 : decode cX12_findViolations 89 = .ok (.bipush 101, 2) := by decide +kernel
theorem dX12_findViolations_91 : decode cX12_findViolations 91 = .ok (.iload_n 1, 1) := by decide +kernel
theorem dX12_findViolations_92 : decode cX12_findViolations 92 = .ok (.iadd, 1) := by decide +kernel
theorem dX12_findViolations_93 : decode cX12_findViolations 93 = .ok (.iaload, 1) := by decide +kernel
theorem dX12_findViolations_94 : decode cX12_findViolations 94 = .ok (.if_icmp .ge 10, 3) := by decide +kernel
theorem dX12_findViolations_97 : decode cX12_findViolations 97 = .ok (.aload_n 0, 1) := by decide +kernel
theorem dX12_findViolations_98 : decode cX12_findViolations 98 = .ok (.iload_n 1, 1) := by decide +kernel
theorem dX12_findViolations_99 : decode cX12_findViolations 99 = .ok (.iconst 5, 1) := by decide +kernel
theorem dX12_findViolations_100 : decode cX12_findViolations 100 = .ok (.iconst (-1), 1) := by decide +kernel
theorem dX12_findViolations_101 : decode cX12_findViolations 101 = .ok (.invokevirtual 214, 3) := by decide +kernel
theorem dX12_findViolations_104 : decode cX12_findViolations 104 = .ok (.aload_n 0, 1) := by decide +kernel
theorem dX12_findViolations_105 : decode cX12_findViolations 105 = .ok (.aload_n 0, 1) := by decide +kernel
theorem dX12_findViolations_106 : decode cX12_findViolations 106 = .ok (.getfield 44, 3) := by decide +kernel
theorem dX12_findViolations_109 : decode cX12_findViolations 109 = .ok (.iload_n 1, 1) := by decide +kernel
theorem dX12_findViolations_110 : decode cX12_findViolations 110 = .ok (.bipush 6, 2) := by decide +kernel
theorem dX12_findViolations_112 : decode cX12_findViolations 112 = .ok (.aload_n 0, 1) := by decide +kernel
theorem dX12_findViolations_113 : decode cX12_findViolations 113 = .ok (.getfield 9, 3) := by decide +kernel
theorem dX12_findViolations_116 : decode cX12_findViolations 116 = .ok (.iconst 2, 1) := by decide +kernel
theorem dX12_findViolations_117 : decode cX12_findViolations 117 = .ok (.iaload, 1) := by decide +kernel
theorem dX12_findViolations_118 : decode cX12_findViolations 118 = .ok (.invokevirtual 189, 3) := by decide +kernel
theorem dX12_findViolations_121 : decode cX12_findViolations 121 = .ok (.ifCond .le 11, 3) := by decide +kernel
theorem dX12_findViolations_124 : decode cX12_findViolations 124 = .ok (.aload_n 0, 1) := by decide +kernel
theorem dX12_findViolations_125 : decode cX12_findViolations 125 = .ok (.iload_n 1, 1) := by decide +kernel
theorem dX12_findViolations_126 : decode cX12_findViolations 126 = .ok (.bipush 6, 2) := by decide +kernel
theorem dX12_findViolations_128 : decode cX12_findViolations 128 = .ok (.iconst (-1), 1) := by decide +kernel
theorem dX12_findViolations_129 : decode cX12_findViolations 129 = .ok (.invokevirtual 214, 3) := by decide +kernel
theorem dX12_findViolations_132 : decode cX12_findViolations 132 = .ok (.iinc 1 1, 3) := by decide +kernel
theorem dX12_findViolations_135 : decode cX12_findViolations 135 = .ok (.goto (-128), 3) := by decide +kernel
theorem dX12_findViolations_138 : decode cX12_findViolations 138 = .ok (.return_, 1) := by decide +kernel
def LX12_findViolations_132 (Q : Option Value → az_M → Prop) (Z7 : az_T) : az_T := (s_inc 1 (nI 1) (s_kp [true, true, false, false] Z7))
theorem okLX12_findViolations_132 {X : az_X} {Q : Option Value → az_M → Prop} (C : az_C X cX12_findViolations 4 RX12 (az_ts yX12_findViolations cX12_findViolations 4 none) ({ frames := 5, cells := 0, slots := 0, locals := 190 } : Room) none Q) {Z7 : az_T} (hZ7 : az_ok X 7 Z7) : az_ok X 132 (LX12_findViolations_132 Q Z7) := by
  have h135 := az_goto (tgt := 7) C dX12_findViolations_135 (by decide) (az_keep [true, true, false, false] hZ7)
  have h132 := az_iinc (v := (nI 1)) C (by decide) (by decide +kernel) dX12_findViolations_132 h135
  exact h132
def LX12_findViolations_104 (Q : Option Value → az_M → Prop) (Z7 : az_T) : az_T := (s_la 0 (s_la 0 (s_gr 13 15 (s_li 1 (s_ic (nI 6) (s_la 0 (s_gr 13 0 (s_ic (nI 2) (s_al 20 (s_cv 4 13 FX12_sum (s_if c_le (s_kp [true, true, false, false] (LX12_findViolations_132 Q Z7)) (s_la 0 (s_li 1 (s_ic (nI 6) (s_ic (-1) (s_cv 3 13 FX12_tellViolation (s_kp [true, true, false, false] (LX12_findViolations_132 Q Z7))))))))))))))))))
theorem okLX12_findViolations_104 {X : az_X} {Q : Option Value → az_M → Prop} (C : az_C X cX12_findViolations 4 RX12 (az_ts yX12_findViolations cX12_findViolations 4 none) ({ frames := 5, cells := 0, slots := 0, locals := 190 } : Room) none Q) {Z7 : az_T} (hZ7 : az_ok X 7 Z7) : az_ok X 104 (LX12_findViolations_104 Q Z7) := by
  have h129 := az_callV (ci := 13) C okX12_tellViolation knX12_tellViolation imX12_tellViolation seX12_tellViolation mLRX12_214 rfl (by decide) ⟨rfl, rfl, by decide, by decide⟩ dX12_findViolations_129 (az_keep [true, true, false, false] (okLX12_findViolations_132 C hZ7))
  have h128 := az_iconst (x := (-1)) C dX12_findViolations_128 (by decide +kernel) h129
  have h126 := az_bipush (x := (nI 6)) C dX12_findViolations_126 (by decide +kernel) h128
  have h125 := az_iload_n C 1 rfl dX12_findViolations_125 h126
  have h124 := az_aload_n C 0 rfl dX12_findViolations_124 h125
  have h121 := az_if_le (tgt := 132) C dX12_findViolations_121 (by decide) (az_keep [true, true, false, false] (okLX12_findViolations_132 C hZ7)) h124
  have h118 := az_callV (ci := 13) C okX12_sum knX12_sum imX12_sum seX12_sum mLRX12_189 rfl (by decide) ⟨rfl, rfl, by decide, by decide⟩ dX12_findViolations_118 h121
  have h117 := az_iald C dX12_findViolations_117 h118
  have h116 := az_iconst (x := (nI 2)) C dX12_findViolations_116 (by decide +kernel) h117
  have h113 := az_getR (T := TX12) (N := 33) (j := 0) C gwRX12 rfl (by decide) (by decide) iIRX12_0 mFRX12_9 rfl dX12_findViolations_113 h116
  have h112 := az_aload_n C 0 rfl dX12_findViolations_112 h113
  have h110 := az_bipush (x := (nI 6)) C dX12_findViolations_110 (by decide +kernel) h112
  have h109 := az_iload_n C 1 rfl dX12_findViolations_109 h110
  have h106 := az_getR (T := TX12) (N := 33) (j := 15) C gwRX12 rfl (by decide) (by decide) iIRX12_15 mFRX12_44 rfl dX12_findViolations_106 h109
  have h105 := az_aload_n C 0 rfl dX12_findViolations_105 h106
  have h104 := az_aload_n C 0 rfl dX12_findViolations_104 h105
  exact h104
def LX12_findViolations_80 (Q : Option Value → az_M → Prop) (Z7 : az_T) : az_T := (s_la 0 (s_li 1 (s_cv 1 13 FX12_reserveOf (s_la 0 (s_gr 13 0 (s_ic (nI 101) (s_li 1 (s_bin f_add (s_al 20 (s_if2 d_ge (s_kp [true, true, false, false] (LX12_findViolations_104 Q Z7)) (s_la 0 (s_li 1 (s_ic (nI 5) (s_ic (-1) (s_cv 3 13 FX12_tellViolation (s_kp [true, true, false, false] (LX12_findViolations_104 Q Z7)))))))))))))))))
theorem okLX12_findViolations_80 {X : az_X} {Q : Option Value → az_M → Prop} (C : az_C X cX12_findViolations 4 RX12 (az_ts yX12_findViolations cX12_findViolations 4 none) ({ frames := 5, cells := 0, slots := 0, locals := 190 } : Room) none Q) {Z7 : az_T} (hZ7 : az_ok X 7 Z7) : az_ok X 80 (LX12_findViolations_80 Q Z7) := by
  have h101 := az_callV (ci := 13) C okX12_tellViolation knX12_tellViolation imX12_tellViolation seX12_tellViolation mLRX12_214 rfl (by decide) ⟨rfl, rfl, by decide, by decide⟩ dX12_findViolations_101 (az_keep [true, true, false, false] (okLX12_findViolations_104 C hZ7))
  have h100 := az_iconst (x := (-1)) C dX12_findViolations_100 (by decide +kernel) h101
  have h99 := az_iconst (x := (nI 5)) C dX12_findViolations_99 (by decide +kernel) h100
  have h98 := az_iload_n C 1 rfl dX12_findViolations_98 h99
  have h97 := az_aload_n C 0 rfl dX12_findViolations_97 h98
  have h94 := az_icmp_ge (tgt := 104) C dX12_findViolations_94 (by decide) (az_keep [true, true, false, false] (okLX12_findViolations_104 C hZ7)) h97
  have h93 := az_iald C dX12_findViolations_93 h94
  have h92 := az_iadd C dX12_findViolations_92 h93
  have h91 := az_iload_n C 1 rfl dX12_findViolations_91 h92
  have h89 := az_bipush (x := (nI 101)) C dX12_findViolations_89 (by decide +kernel) h91
  have h86 := az_getR (T := TX12) (N := 33) (j := 0) C gwRX12 rfl (by decide) (by decide) iIRX12_0 mFRX12_9 rfl dX12_findViolations_86 h89
  have h85 := az_aload_n C 0 rfl dX12_findViolations_85 h86
  have h82 := az_callV (ci := 13) C okX12_reserveOf knX12_reserveOf imX12_reserveOf seX12_reserveOf mLRX12_205 rfl (by decide) ⟨rfl, rfl, by decide, by decide⟩ dX12_findViolations_82 h85
  have h81 := az_iload_n C 1 rfl dX12_findViolations_81 h82
  have h80 := az_aload_n C 0 rfl dX12_findViolations_80 h81
  exact h80
def LX12_findViolations_53 (Q : Option Value → az_M → Prop) (Z7 : az_T) (Z19 : az_T) (Z26 : az_T) : az_T := (s_inc 3 (nI 1) (s_kp [true, true, true, true] Z26))
theorem okLX12_findViolations_53 {X : az_X} {Q : Option Value → az_M → Prop} (C : az_C X cX12_findViolations 4 RX12 (az_ts yX12_findViolations cX12_findViolations 4 none) ({ frames := 5, cells := 0, slots := 0, locals := 190 } : Room) none Q) {Z7 : az_T} (hZ7 : az_ok X 7 Z7) {Z19 : az_T} (hZ19 : az_ok X 19 Z19) {Z26 : az_T} (hZ26 : az_ok X 26 Z26) : az_ok X 53 (LX12_findViolations_53 Q Z7 Z19 Z26) := by
  have h56 := az_goto (tgt := 26) C dX12_findViolations_56 (by decide) (az_keep [true, true, true, true] hZ26)
  have h53 := az_iinc (v := (nI 1)) C (by decide) (by decide +kernel) dX12_findViolations_53 h56
  exact h53
def BX12_findViolations_26 (Q : Option Value → az_M → Prop) (Z7 : az_T) (Z19 : az_T) (Z26 : az_T) : az_T := (s_li 3 (s_la 0 (s_gr 13 0 (s_ic (nI 2) (s_al 20 (s_if2 d_ge (s_inc 2 (nI 1) (s_kp [true, true, true, false] Z19)) (s_la 0 (s_li 2 (s_li 3 (s_li 1 (s_cv 3 13 FX12_violates (s_if c_eq (s_kp [true, true, true, true] (LX12_findViolations_53 Q Z7 Z19 Z26)) (s_la 0 (s_li 1 (s_li 2 (s_li 3 (s_cv 3 13 FX12_tellViolation (s_kp [true, true, true, true] (LX12_findViolations_53 Q Z7 Z19 Z26)))))))))))))))))))
theorem okBX12_findViolations_26 {X : az_X} {Q : Option Value → az_M → Prop} (C : az_C X cX12_findViolations 4 RX12 (az_ts yX12_findViolations cX12_findViolations 4 none) ({ frames := 5, cells := 0, slots := 0, locals := 190 } : Room) none Q) {Z7 : az_T} (hZ7 : az_ok X 7 Z7) {Z19 : az_T} (hZ19 : az_ok X 19 Z19) {Z26 : az_T} (hZ26 : az_ok X 26 Z26) : az_ok X 26 (BX12_findViolations_26 Q Z7 Z19 Z26) := by
  have h62 := az_goto (tgt := 19) C dX12_findViolations_62 (by decide) (az_keep [true, true, true, false] hZ19)
  have h59 := az_iinc (v := (nI 1)) C (by decide) (by decide +kernel) dX12_findViolations_59 h62
  have h50 := az_callV (ci := 13) C okX12_tellViolation knX12_tellViolation imX12_tellViolation seX12_tellViolation mLRX12_214 rfl (by decide) ⟨rfl, rfl, by decide, by decide⟩ dX12_findViolations_50 (az_keep [true, true, true, true] (okLX12_findViolations_53 C hZ7 hZ19 hZ26))
  have h49 := az_iload_n C 3 rfl dX12_findViolations_49 h50
  have h48 := az_iload_n C 2 rfl dX12_findViolations_48 h49
  have h47 := az_iload_n C 1 rfl dX12_findViolations_47 h48
  have h46 := az_aload_n C 0 rfl dX12_findViolations_46 h47
  have h43 := az_if_eq (tgt := 53) C dX12_findViolations_43 (by decide) (az_keep [true, true, true, true] (okLX12_findViolations_53 C hZ7 hZ19 hZ26)) h46
  have h40 := az_callV (ci := 13) C okX12_violates knX12_violates imX12_violates seX12_violates mLRX12_211 rfl (by decide) ⟨rfl, rfl, by decide, by decide⟩ dX12_findViolations_40 h43
  have h39 := az_iload_n C 1 rfl dX12_findViolations_39 h40
  have h38 := az_iload_n C 3 rfl dX12_findViolations_38 h39
  have h37 := az_iload_n C 2 rfl dX12_findViolations_37 h38
  have h36 := az_aload_n C 0 rfl dX12_findViolations_36 h37
  have h33 := az_icmp_ge (tgt := 59) C dX12_findViolations_33 (by decide) h59 h36
  have h32 := az_iald C dX12_findViolations_32 h33
  have h31 := az_iconst (x := (nI 2)) C dX12_findViolations_31 (by decide +kernel) h32
  have h28 := az_getR (T := TX12) (N := 33) (j := 0) C gwRX12 rfl (by decide) (by decide) iIRX12_0 mFRX12_9 rfl dX12_findViolations_28 h31
  have h27 := az_aload_n C 0 rfl dX12_findViolations_27 h28
  have h26 := az_iload_n C 3 rfl dX12_findViolations_26 h27
  exact h26
def LX12_findViolations_26 (Q : Option Value → az_M → Prop) (Z7 : az_T) (Z19 : az_T) : az_T := s_lp (fun Z => BX12_findViolations_26 Q Z7 Z19 Z)
theorem okLX12_findViolations_26 {X : az_X} {Q : Option Value → az_M → Prop} (C : az_C X cX12_findViolations 4 RX12 (az_ts yX12_findViolations cX12_findViolations 4 none) ({ frames := 5, cells := 0, slots := 0, locals := 190 } : Room) none Q) {Z7 : az_T} (hZ7 : az_ok X 7 Z7) {Z19 : az_T} (hZ19 : az_ok X 19 Z19) : az_ok X 26 (LX12_findViolations_26 Q Z7 Z19) := az_loop (F := fun Z => BX12_findViolations_26 Q Z7 Z19 Z) (fun _ hZ => okBX12_findViolations_26 C hZ7 hZ19 hZ)
def BX12_findViolations_19 (Q : Option Value → az_M → Prop) (Z7 : az_T) (Z19 : az_T) : az_T := (s_li 2 (s_ic (nI 3) (s_if2 d_gt (s_la 0 (s_li 1 (s_cv 1 13 FX12_shedIn (s_if c_le (s_kp [true, true, false, false] (LX12_findViolations_80 Q Z7)) (s_la 0 (s_li 1 (s_ic (nI 4) (s_ic (-1) (s_cv 3 13 FX12_tellViolation (s_kp [true, true, false, false] (LX12_findViolations_80 Q Z7))))))))))) (s_ic (nI 0) (s_si 3 (s_kp [true, true, true, true] (LX12_findViolations_26 Q Z7 Z19)))))))
theorem okBX12_findViolations_19 {X : az_X} {Q : Option Value → az_M → Prop} (C : az_C X cX12_findViolations 4 RX12 (az_ts yX12_findViolations cX12_findViolations 4 none) ({ frames := 5, cells := 0, slots := 0, locals := 190 } : Room) none Q) {Z7 : az_T} (hZ7 : az_ok X 7 Z7) {Z19 : az_T} (hZ19 : az_ok X 19 Z19) : az_ok X 19 (BX12_findViolations_19 Q Z7 Z19) := by
  have h77 := az_callV (ci := 13) C okX12_tellViolation knX12_tellViolation imX12_tellViolation seX12_tellViolation mLRX12_214 rfl (by decide) ⟨rfl, rfl, by decide, by decide⟩ dX12_findViolations_77 (az_keep [true, true, false, false] (okLX12_findViolations_80 C hZ7))
  have h76 := az_iconst (x := (-1)) C dX12_findViolations_76 (by decide +kernel) h77
  have h75 := az_iconst (x := (nI 4)) C dX12_findViolations_75 (by decide +kernel) h76
  have h74 := az_iload_n C 1 rfl dX12_findViolations_74 h75
  have h73 := az_aload_n C 0 rfl dX12_findViolations_73 h74
  have h70 := az_if_le (tgt := 80) C dX12_findViolations_70 (by decide) (az_keep [true, true, false, false] (okLX12_findViolations_80 C hZ7)) h73
  have h67 := az_callV (ci := 13) C okX12_shedIn knX12_shedIn imX12_shedIn seX12_shedIn mLRX12_202 rfl (by decide) ⟨rfl, rfl, by decide, by decide⟩ dX12_findViolations_67 h70
  have h66 := az_iload_n C 1 rfl dX12_findViolations_66 h67
  have h65 := az_aload_n C 0 rfl dX12_findViolations_65 h66
  have h25 := az_istore_n C 3 rfl (by decide) dX12_findViolations_25 (az_keep [true, true, true, true] (okLX12_findViolations_26 C hZ7 hZ19))
  have h24 := az_iconst (x := (nI 0)) C dX12_findViolations_24 (by decide +kernel) h25
  have h21 := az_icmp_gt (tgt := 65) C dX12_findViolations_21 (by decide) h65 h24
  have h20 := az_iconst (x := (nI 3)) C dX12_findViolations_20 (by decide +kernel) h21
  have h19 := az_iload_n C 2 rfl dX12_findViolations_19 h20
  exact h19
def LX12_findViolations_19 (Q : Option Value → az_M → Prop) (Z7 : az_T) : az_T := s_lp (fun Z => BX12_findViolations_19 Q Z7 Z)
theorem okLX12_findViolations_19 {X : az_X} {Q : Option Value → az_M → Prop} (C : az_C X cX12_findViolations 4 RX12 (az_ts yX12_findViolations cX12_findViolations 4 none) ({ frames := 5, cells := 0, slots := 0, locals := 190 } : Room) none Q) {Z7 : az_T} (hZ7 : az_ok X 7 Z7) : az_ok X 19 (LX12_findViolations_19 Q Z7) := az_loop (F := fun Z => BX12_findViolations_19 Q Z7 Z) (fun _ hZ => okBX12_findViolations_19 C hZ7 hZ)
def BX12_findViolations_7 (Q : Option Value → az_M → Prop) (Z7 : az_T) : az_T := (s_li 1 (s_la 0 (s_gr 13 0 (s_ic (nI 0) (s_al 20 (s_if2 d_ge (s_rv Q) (s_ic (nI 1) (s_si 2 (s_kp [true, true, true, false] (LX12_findViolations_19 Q Z7))))))))))
theorem okBX12_findViolations_7 {X : az_X} {Q : Option Value → az_M → Prop} (C : az_C X cX12_findViolations 4 RX12 (az_ts yX12_findViolations cX12_findViolations 4 none) ({ frames := 5, cells := 0, slots := 0, locals := 190 } : Room) none Q) {Z7 : az_T} (hZ7 : az_ok X 7 Z7) : az_ok X 7 (BX12_findViolations_7 Q Z7) := by
  have h138 := az_vreturn C rfl dX12_findViolations_138
  have h18 := az_istore_n C 2 rfl (by decide) dX12_findViolations_18 (az_keep [true, true, true, false] (okLX12_findViolations_19 C hZ7))
  have h17 := az_iconst (x := (nI 1)) C dX12_findViolations_17 (by decide +kernel) h18
  have h14 := az_icmp_ge (tgt := 138) C dX12_findViolations_14 (by decide) h138 h17
  have h13 := az_iald C dX12_findViolations_13 h14
  have h12 := az_iconst (x := (nI 0)) C dX12_findViolations_12 (by decide +kernel) h13
  have h9 := az_getR (T := TX12) (N := 33) (j := 0) C gwRX12 rfl (by decide) (by decide) iIRX12_0 mFRX12_9 rfl dX12_findViolations_9 h12
  have h8 := az_aload_n C 0 rfl dX12_findViolations_8 h9
  have h7 := az_iload_n C 1 rfl dX12_findViolations_7 h8
  exact h7
def LX12_findViolations_7 (Q : Option Value → az_M → Prop) : az_T := s_lp (fun Z => BX12_findViolations_7 Q Z)
theorem okLX12_findViolations_7 {X : az_X} {Q : Option Value → az_M → Prop} (C : az_C X cX12_findViolations 4 RX12 (az_ts yX12_findViolations cX12_findViolations 4 none) ({ frames := 5, cells := 0, slots := 0, locals := 190 } : Room) none Q) : az_ok X 7 (LX12_findViolations_7 Q) := az_loop (F := fun Z => BX12_findViolations_7 Q Z) (fun _ hZ => okBX12_findViolations_7 C hZ)
def PX12_findViolations (Q : Option Value → az_M → Prop) : az_T := (s_la 0 (s_ic (nI 0) (s_pi 13 23 (s_ic (nI 0) (s_si 1 (s_kp [true, true, false, false] (LX12_findViolations_7 Q)))))))
def FX12_findViolations : az_F := az_fun [true] 4 PX12_findViolations
theorem okX12_findViolations (l : Launch) : az_met l yX12_findViolations cX12_findViolations 4 none ({ frames := 5, cells := 0, slots := 0, locals := 190 } : Room) FX12_findViolations := az_met_of (own := RX12) (by decide +kernel) rfl (by decide) (fun X Q C => by
  have h6 := az_istore_n C 1 rfl (by decide) dX12_findViolations_6 (az_keep [true, true, false, false] (okLX12_findViolations_7 C))
  have h5 := az_iconst (x := (nI 0)) C dX12_findViolations_5 (by decide +kernel) h6
  have h2 := az_putI (T := TX12) (N := 33) (j := 23) C gwRX12 rfl (by decide) (by decide) tyX12 tyX12_ok nmX12 iIRX12_23 (by decide +kernel) rfl mFRX12_208 rfl dX12_findViolations_2 h5
  have h1 := az_iconst (x := (nI 0)) C dX12_findViolations_1 (by decide +kernel) h2
  have h0 := az_aload_n C 0 rfl dX12_findViolations_0 h1
  exact h0) l
theorem dX12_workOut_0 : decode cX12_workOut 0 = .ok (.aload_n 0, 1) := by decide +kernel
theorem dX12_workOut_1 : decode cX12_workOut 1 = .ok (.invokevirtual 154, 3) := by decide +kernel
theorem dX12_workOut_4 : decode cX12_workOut 4 = .ok (.iconst 0, 1) := by decide +kernel
theorem dX12_workOut_5 : decode cX12_workOut 5 = .ok (.istore_n 1, 1) := by decide +kernel
theorem dX12_workOut_6 : decode cX12_workOut 6 = .ok (.iload_n 1, 1) := by decide +kernel
theorem dX12_workOut_7 : decode cX12_workOut 7 = .ok (.aload_n 0, 1) := by decide +kernel
theorem dX12_workOut_8 : decode cX12_workOut 8 = .ok (.getfield 9, 3) := by decide +kernel
theorem dX12_workOut_11 : decode cX12_workOut 11 = .ok (.iconst 0, 1) := by decide +kernel
theorem dX12_workOut_12 : decode cX12_workOut 12 = .ok (.iaload, 1) := by decide +kernel
theorem dX12_workOut_13 : decode cX12_workOut 13 = .ok (.if_icmp .ge 86, 3) := by decide +kernel
theorem dX12_workOut_16 : decode cX12_workOut 16 = .ok (.iconst 0, 1) := by decide +kernel
theorem dX12_workOut_17 : decode cX12_workOut 17 = .ok (.istore_n 2, 1) := by decide +kernel
theorem dX12_workOut_18 : decode cX12_workOut 18 = .ok (.iload_n 2, 1) := by decide +kernel
theorem dX12_workOut_19 : decode cX12_workOut 19 = .ok (.aload_n 0, 1) := by decide +kernel
theorem dX12_workOut_20 : decode cX12_workOut 20 = .ok (.getfield 9, 3) := by decide +kernel
theorem dX12_workOut_23 : decode cX12_workOut 23 = .ok (.iconst 2, 1) := by decide +kernel
theorem dX12_workOut_24 : decode cX12_workOut 24 = .ok (.iaload, 1) := by decide +kernel
theorem dX12_workOut_25 : decode cX12_workOut 25 = .ok (.if_icmp .ge 63, 3) := by decide +kernel
theorem dX12_workOut_28 : decode cX12_workOut 28 = .ok (.bipush 6, 2) := by decide +kernel
theorem dX12_workOut_30 : decode cX12_workOut 30 = .ok (.iload_n 1, 1) := by decide +kernel
theorem dX12_workOut_31 : decode cX12_workOut 31 = .ok (.imul, 1) := by decide +kernel
theorem dX12_workOut_32 : decode cX12_workOut 32 = .ok (.iload_n 2, 1) := by decide +kernel
theorem dX12_workOut_33 : decode cX12_workOut 33 = .ok (.iadd, 1) := by decide +kernel
theorem dX12_workOut_34 : decode cX12_workOut 34 = .ok (.istore_n 3, 1) := by decide +kernel
theorem dX12_workOut_35 : decode cX12_workOut 35 = .ok (.aload_n 0, 1) := by decide +kernel
theorem dX12_workOut_36 : decode cX12_workOut 36 = .ok (.getfield 26, 3) := by decide +kernel
theorem dX12_workOut_39 : decode cX12_workOut 39 = .ok (.iload_n 3, 1) := by decide +kernel
theorem dX12_workOut_40 : decode cX12_workOut 40 = .ok (.aload_n 0, 1) := by decide +kernel
theorem dX12_workOut_41 : decode cX12_workOut 41 = .ok (.iload_n 2, 1) := by decide +kernel
theorem dX12_workOut_42 : decode cX12_workOut 42 = .ok (.iload_n 1, 1) := by decide +kernel
theorem dX12_workOut_43 : decode cX12_workOut 43 = .ok (.invokevirtual 173, 3) := by decide +kernel
theorem dX12_workOut_46 : decode cX12_workOut 46 = .ok (.bastore, 1) := by decide +kernel
theorem dX12_workOut_47 : decode cX12_workOut 47 = .ok (.aload_n 0, 1) := by decide +kernel
theorem dX12_workOut_48 : decode cX12_workOut 48 = .ok (.getfield 22, 3) := by decide +kernel
theorem dX12_workOut_51 : decode cX12_workOut 51 = .ok (.iload_n 3, 1) := by decide +kernel
theorem dX12_workOut_52 : decode cX12_workOut 52 = .ok (.aload_n 0, 1) := by decide +kernel
theorem dX12_workOut_53 : decode cX12_workOut 53 = .ok (.getfield 26, 3) := by decide +kernel
theorem dX12_workOut_56 : decode cX12_workOut 56 = .ok (.iload_n 3, 1) := by decide +kernel
theorem dX12_workOut_57 : decode cX12_workOut 57 = .ok (.baload, 1) := by decide +kernel
theorem dX12_workOut_58 : decode cX12_workOut 58 = .ok (.ifCond .eq 16, 3) := by decide +kernel
theorem dX12_workOut_61 : decode cX12_workOut 61 = .ok (.aload_n 0, 1) := by decide +kernel
theorem dX12_workOut_62 : decode cX12_workOut 62 = .ok (.iload_n 2, 1) := by decide +kernel
theorem dX12_workOut_63 : decode cX12_workOut 63 = .ok (.iload_n 1, 1) := by decide +kernel
theorem dX12_workOut_64 : decode cX12_workOut 64 = .ok (.invokevirtual 140, 3) := by decide +kernel
theorem dX12_workOut_67 : decode cX12_workOut 67 = .ok (.ifCond .eq 7, 3) := by decide +kernel
theorem dX12_workOut_70 : decode cX12_workOut 70 = .ok (.iconst 1, 1) := by decide +kernel
theorem dX12_workOut_71 : decode cX12_workOut 71 = .ok (.goto 4, 3) := by decide +kernel
theorem dX12_workOut_74 : decode cX12_workOut 74 = .ok (.iconst 0, 1) := by decide +kernel
theorem dX12_workOut_75 : decode cX12_workOut 75 = .ok (.bastore, 1) := by decide +kernel
theorem dX12_workOut_76 : decode cX12_workOut 76 = .ok (.aload_n 0, 1) := by decide +kernel
theorem dX12_workOut_77 : decode cX12_workOut 77 = .ok (.iload_n 2, 1) := by decide +kernel
theorem dX12_workOut_78 : decode cX12_workOut 78 = .ok (.iload_n 1, 1) := by decide +kernel
theorem dX12_workOut_79 : decode cX12_workOut 79 = .ok (.invokevirtual 176, 3) := by decide +kernel
theorem dX12_workOut_82 : decode cX12_workOut 82 = .ok (.iinc 2 1, 3) := by decide +kernel
theorem dX12_workOut_85 : decode cX12_workOut 85 = .ok (.goto (-67), 3) := by decide +kernel
theorem dX12_workOut_88 : decode cX12_workOut 88 = .ok (.aload_n 0, 1) := by decide +kernel
theorem dX12_workOut_89 : decode cX12_workOut 89 = .ok (.iload_n 1, 1) := by decide +kernel
theorem dX12_workOut_90 : decode cX12_workOut 90 = .ok (.invokevirtual 179, 3) := by decide +kernel
theorem dX12_workOut_93 : decode cX12_workOut 93 = .ok (.iinc 1 1, 3) := by decide +kernel
theorem dX12_workOut_96 : decode cX12_workOut 96 = .ok (.goto (-90), 3) := by decide +kernel
theorem dX12_workOut_99 : decode cX12_workOut 99 = .ok (.aload_n 0, 1) := by decide +kernel
theorem dX12_workOut_100 : decode cX12_workOut 100 = .ok (.invokevirtual 183, 3) := by decide +kernel
theorem dX12_workOut_103 : decode cX12_workOut 103 = .ok (.return_, 1) := by decide +kernel
def LX12_workOut_75 (Q : Option Value → az_M → Prop) (Z6 : az_T) (Z18 : az_T) : az_T := (s_az (s_la 0 (s_li 2 (s_li 1 (s_cv 2 13 FX12_lookBack (s_inc 2 (nI 1) (s_kp [true, true, true, false] Z18)))))))
theorem okLX12_workOut_75 {X : az_X} {Q : Option Value → az_M → Prop} (C : az_C X cX12_workOut 4 RX12 (az_ts yX12_workOut cX12_workOut 4 none) ({ frames := 6, cells := 0, slots := 0, locals := 214 } : Room) none Q) {Z6 : az_T} (hZ6 : az_ok X 6 Z6) {Z18 : az_T} (hZ18 : az_ok X 18 Z18) : az_ok X 75 (LX12_workOut_75 Q Z6 Z18) := by
  have h85 := az_goto (tgt := 18) C dX12_workOut_85 (by decide) (az_keep [true, true, true, false] hZ18)
  have h82 := az_iinc (v := (nI 1)) C (by decide) (by decide +kernel) dX12_workOut_82 h85
  have h79 := az_callV (ci := 13) C okX12_lookBack knX12_lookBack imX12_lookBack seX12_lookBack mLRX12_176 rfl (by decide) ⟨rfl, rfl, by decide, by decide⟩ dX12_workOut_79 h82
  have h78 := az_iload_n C 1 rfl dX12_workOut_78 h79
  have h77 := az_iload_n C 2 rfl dX12_workOut_77 h78
  have h76 := az_aload_n C 0 rfl dX12_workOut_76 h77
  have h75 := az_zast C dX12_workOut_75 h76
  exact h75
def LX12_workOut_74 (Q : Option Value → az_M → Prop) (Z6 : az_T) (Z18 : az_T) : az_T := (s_ic (nI 0) (s_kp [true, true, true, false] (LX12_workOut_75 Q Z6 Z18)))
theorem okLX12_workOut_74 {X : az_X} {Q : Option Value → az_M → Prop} (C : az_C X cX12_workOut 4 RX12 (az_ts yX12_workOut cX12_workOut 4 none) ({ frames := 6, cells := 0, slots := 0, locals := 214 } : Room) none Q) {Z6 : az_T} (hZ6 : az_ok X 6 Z6) {Z18 : az_T} (hZ18 : az_ok X 18 Z18) : az_ok X 74 (LX12_workOut_74 Q Z6 Z18) := by
  have h74 := az_iconst (x := (nI 0)) C dX12_workOut_74 (by decide +kernel) (az_keep [true, true, true, false] (okLX12_workOut_75 C hZ6 hZ18))
  exact h74
def BX12_workOut_18 (Q : Option Value → az_M → Prop) (Z6 : az_T) (Z18 : az_T) : az_T := (s_li 2 (s_la 0 (s_gr 13 0 (s_ic (nI 2) (s_al 20 (s_if2 d_ge (s_la 0 (s_li 1 (s_cv 1 13 FX12_dispatch (s_inc 1 (nI 1) (s_kp [true, true, false, false] Z6))))) (s_ic (nI 6) (s_li 1 (s_bin f_mul (s_li 2 (s_bin f_add (s_si 3 (s_la 0 (s_gr 13 9 (s_li 3 (s_la 0 (s_li 2 (s_li 1 (s_cv 2 13 FX12_isAvailable (s_az (s_la 0 (s_gr 13 8 (s_li 3 (s_la 0 (s_gr 13 9 (s_li 3 (s_al 21 (s_if c_eq (s_kp [true, true, true, false] (LX12_workOut_74 Q Z6 Z18)) (s_la 0 (s_li 2 (s_li 1 (s_cv 2 13 FX12_isPlanned (s_if c_eq (s_kp [true, true, true, false] (LX12_workOut_74 Q Z6 Z18)) (s_ic (nI 1) (s_kp [true, true, true, false] (LX12_workOut_75 Q Z6 Z18))))))))))))))))))))))))))))))))))))
theorem okBX12_workOut_18 {X : az_X} {Q : Option Value → az_M → Prop} (C : az_C X cX12_workOut 4 RX12 (az_ts yX12_workOut cX12_workOut 4 none) ({ frames := 6, cells := 0, slots := 0, locals := 214 } : Room) none Q) {Z6 : az_T} (hZ6 : az_ok X 6 Z6) {Z18 : az_T} (hZ18 : az_ok X 18 Z18) : az_ok X 18 (BX12_workOut_18 Q Z6 Z18) := by
  have h96 := az_goto (tgt := 6) C dX12_workOut_96 (by decide) (az_keep [true, true, false, false] hZ6)
  have h93 := az_iinc (v := (nI 1)) C (by decide) (by decide +kernel) dX12_workOut_93 h96
  have h90 := az_callV (ci := 13) C okX12_dispatch knX12_dispatch imX12_dispatch seX12_dispatch mLRX12_179 rfl (by decide) ⟨rfl, rfl, by decide, by decide⟩ dX12_workOut_90 h93
  have h89 := az_iload_n C 1 rfl dX12_workOut_89 h90
  have h88 := az_aload_n C 0 rfl dX12_workOut_88 h89
  have h71 := az_goto (tgt := 75) C dX12_workOut_71 (by decide) (az_keep [true, true, true, false] (okLX12_workOut_75 C hZ6 hZ18))
  have h70 := az_iconst (x := (nI 1)) C dX12_workOut_70 (by decide +kernel) h71
  have h67 := az_if_eq (tgt := 74) C dX12_workOut_67 (by decide) (az_keep [true, true, true, false] (okLX12_workOut_74 C hZ6 hZ18)) h70
  have h64 := az_callV (ci := 13) C okX12_isPlanned knX12_isPlanned imX12_isPlanned seX12_isPlanned mLRX12_140 rfl (by decide) ⟨rfl, rfl, by decide, by decide⟩ dX12_workOut_64 h67
  have h63 := az_iload_n C 1 rfl dX12_workOut_63 h64
  have h62 := az_iload_n C 2 rfl dX12_workOut_62 h63
  have h61 := az_aload_n C 0 rfl dX12_workOut_61 h62
  have h58 := az_if_eq (tgt := 74) C dX12_workOut_58 (by decide) (az_keep [true, true, true, false] (okLX12_workOut_74 C hZ6 hZ18)) h61
  have h57 := az_zald C dX12_workOut_57 h58
  have h56 := az_iload_n C 3 rfl dX12_workOut_56 h57
  have h53 := az_getR (T := TX12) (N := 33) (j := 9) C gwRX12 rfl (by decide) (by decide) iIRX12_9 mFRX12_26 rfl dX12_workOut_53 h56
  have h52 := az_aload_n C 0 rfl dX12_workOut_52 h53
  have h51 := az_iload_n C 3 rfl dX12_workOut_51 h52
  have h48 := az_getR (T := TX12) (N := 33) (j := 8) C gwRX12 rfl (by decide) (by decide) iIRX12_8 mFRX12_22 rfl dX12_workOut_48 h51
  have h47 := az_aload_n C 0 rfl dX12_workOut_47 h48
  have h46 := az_zast C dX12_workOut_46 h47
  have h43 := az_callV (ci := 13) C okX12_isAvailable knX12_isAvailable imX12_isAvailable seX12_isAvailable mLRX12_173 rfl (by decide) ⟨rfl, rfl, by decide, by decide⟩ dX12_workOut_43 h46
  have h42 := az_iload_n C 1 rfl dX12_workOut_42 h43
  have h41 := az_iload_n C 2 rfl dX12_workOut_41 h42
  have h40 := az_aload_n C 0 rfl dX12_workOut_40 h41
  have h39 := az_iload_n C 3 rfl dX12_workOut_39 h40
  have h36 := az_getR (T := TX12) (N := 33) (j := 9) C gwRX12 rfl (by decide) (by decide) iIRX12_9 mFRX12_26 rfl dX12_workOut_36 h39
  have h35 := az_aload_n C 0 rfl dX12_workOut_35 h36
  have h34 := az_istore_n C 3 rfl (by decide) dX12_workOut_34 h35
  have h33 := az_iadd C dX12_workOut_33 h34
  have h32 := az_iload_n C 2 rfl dX12_workOut_32 h33
  have h31 := az_imul C dX12_workOut_31 h32
  have h30 := az_iload_n C 1 rfl dX12_workOut_30 h31
  have h28 := az_bipush (x := (nI 6)) C dX12_workOut_28 (by decide +kernel) h30
  have h25 := az_icmp_ge (tgt := 88) C dX12_workOut_25 (by decide) h88 h28
  have h24 := az_iald C dX12_workOut_24 h25
  have h23 := az_iconst (x := (nI 2)) C dX12_workOut_23 (by decide +kernel) h24
  have h20 := az_getR (T := TX12) (N := 33) (j := 0) C gwRX12 rfl (by decide) (by decide) iIRX12_0 mFRX12_9 rfl dX12_workOut_20 h23
  have h19 := az_aload_n C 0 rfl dX12_workOut_19 h20
  have h18 := az_iload_n C 2 rfl dX12_workOut_18 h19
  exact h18
def LX12_workOut_18 (Q : Option Value → az_M → Prop) (Z6 : az_T) : az_T := s_lp (fun Z => BX12_workOut_18 Q Z6 Z)
theorem okLX12_workOut_18 {X : az_X} {Q : Option Value → az_M → Prop} (C : az_C X cX12_workOut 4 RX12 (az_ts yX12_workOut cX12_workOut 4 none) ({ frames := 6, cells := 0, slots := 0, locals := 214 } : Room) none Q) {Z6 : az_T} (hZ6 : az_ok X 6 Z6) : az_ok X 18 (LX12_workOut_18 Q Z6) := az_loop (F := fun Z => BX12_workOut_18 Q Z6 Z) (fun _ hZ => okBX12_workOut_18 C hZ6 hZ)
def BX12_workOut_6 (Q : Option Value → az_M → Prop) (Z6 : az_T) : az_T := (s_li 1 (s_la 0 (s_gr 13 0 (s_ic (nI 0) (s_al 20 (s_if2 d_ge (s_la 0 (s_cv 0 13 FX12_findViolations (s_rv Q))) (s_ic (nI 0) (s_si 2 (s_kp [true, true, true, false] (LX12_workOut_18 Q Z6))))))))))
theorem okBX12_workOut_6 {X : az_X} {Q : Option Value → az_M → Prop} (C : az_C X cX12_workOut 4 RX12 (az_ts yX12_workOut cX12_workOut 4 none) ({ frames := 6, cells := 0, slots := 0, locals := 214 } : Room) none Q) {Z6 : az_T} (hZ6 : az_ok X 6 Z6) : az_ok X 6 (BX12_workOut_6 Q Z6) := by
  have h103 := az_vreturn C rfl dX12_workOut_103
  have h100 := az_callV (ci := 13) C okX12_findViolations knX12_findViolations imX12_findViolations seX12_findViolations mLRX12_183 rfl (by decide) ⟨rfl, rfl, by decide, by decide⟩ dX12_workOut_100 h103
  have h99 := az_aload_n C 0 rfl dX12_workOut_99 h100
  have h17 := az_istore_n C 2 rfl (by decide) dX12_workOut_17 (az_keep [true, true, true, false] (okLX12_workOut_18 C hZ6))
  have h16 := az_iconst (x := (nI 0)) C dX12_workOut_16 (by decide +kernel) h17
  have h13 := az_icmp_ge (tgt := 99) C dX12_workOut_13 (by decide) h99 h16
  have h12 := az_iald C dX12_workOut_12 h13
  have h11 := az_iconst (x := (nI 0)) C dX12_workOut_11 (by decide +kernel) h12
  have h8 := az_getR (T := TX12) (N := 33) (j := 0) C gwRX12 rfl (by decide) (by decide) iIRX12_0 mFRX12_9 rfl dX12_workOut_8 h11
  have h7 := az_aload_n C 0 rfl dX12_workOut_7 h8
  have h6 := az_iload_n C 1 rfl dX12_workOut_6 h7
  exact h6
def LX12_workOut_6 (Q : Option Value → az_M → Prop) : az_T := s_lp (fun Z => BX12_workOut_6 Q Z)
theorem okLX12_workOut_6 {X : az_X} {Q : Option Value → az_M → Prop} (C : az_C X cX12_workOut 4 RX12 (az_ts yX12_workOut cX12_workOut 4 none) ({ frames := 6, cells := 0, slots := 0, locals := 214 } : Room) none Q) : az_ok X 6 (LX12_workOut_6 Q) := az_loop (F := fun Z => BX12_workOut_6 Q Z) (fun _ hZ => okBX12_workOut_6 C hZ)
def PX12_workOut (Q : Option Value → az_M → Prop) : az_T := (s_la 0 (s_cv 0 13 FX12_repair (s_ic (nI 0) (s_si 1 (s_kp [true, true, false, false] (LX12_workOut_6 Q))))))
def FX12_workOut : az_F := az_fun [true] 4 PX12_workOut
theorem okX12_workOut (l : Launch) : az_met l yX12_workOut cX12_workOut 4 none ({ frames := 6, cells := 0, slots := 0, locals := 214 } : Room) FX12_workOut := az_met_of (own := RX12) (by decide +kernel) rfl (by decide) (fun X Q C => by
  have h5 := az_istore_n C 1 rfl (by decide) dX12_workOut_5 (az_keep [true, true, false, false] (okLX12_workOut_6 C))
  have h4 := az_iconst (x := (nI 0)) C dX12_workOut_4 (by decide +kernel) h5
  have h1 := az_callV (ci := 13) C okX12_repair knX12_repair imX12_repair seX12_repair mLRX12_154 rfl (by decide) ⟨rfl, rfl, by decide, by decide⟩ dX12_workOut_1 h4
  have h0 := az_aload_n C 0 rfl dX12_workOut_0 h1
  exact h0) l
theorem dX12_know_0 : decode cX12_know 0 = .ok (.aload_n 0, 1) := by decide +kernel
theorem dX12_know_1 : decode cX12_know 1 = .ok (.getfield 109, 3) := by decide +kernel
theorem dX12_know_4 : decode cX12_know 4 = .ok (.ifCond .ne 12, 3) := by decide +kernel
theorem dX12_know_7 : decode cX12_know 7 = .ok (.aload_n 0, 1) := by decide +kernel
theorem dX12_know_8 : decode cX12_know 8 = .ok (.invokevirtual 186, 3) := by decide +kernel
theorem dX12_know_11 : decode cX12_know 11 = .ok (.aload_n 0, 1) := by decide +kernel
theorem dX12_know_12 : decode cX12_know 12 = .ok (.iconst 1, 1) := by decide +kernel
theorem dX12_know_13 : decode cX12_know 13 = .ok (.putfield 109, 3) := by decide +kernel
theorem dX12_know_16 : decode cX12_know 16 = .ok (.return_, 1) := by decide +kernel
def LX12_know_16 (Q : Option Value → az_M → Prop) : az_T := (s_rv Q)
theorem okLX12_know_16 {X : az_X} {Q : Option Value → az_M → Prop} (C : az_C X cX12_know 1 RX12 (az_ts yX12_know cX12_know 1 none) ({ frames := 7, cells := 0, slots := 0, locals := 237 } : Room) none Q) : az_ok X 16 (LX12_know_16 Q) := by
  have h16 := az_vreturn C rfl dX12_know_16
  exact h16
def PX12_know (Q : Option Value → az_M → Prop) : az_T := (s_la 0 (s_gi 13 7 (s_if c_ne (s_kp [false] (LX12_know_16 Q)) (s_la 0 (s_cv 0 13 FX12_workOut (s_la 0 (s_ic (nI 1) (s_pz 13 7 (s_kp [false] (LX12_know_16 Q))))))))))
def FX12_know : az_F := az_fun [true] 1 PX12_know
theorem okX12_know (l : Launch) : az_met l yX12_know cX12_know 1 none ({ frames := 7, cells := 0, slots := 0, locals := 237 } : Room) FX12_know := az_met_of (own := RX12) (by decide +kernel) rfl (by decide) (fun X Q C => by
  have h13 := az_putZ (T := TX12) (N := 33) (j := 7) C gwRX12 rfl (by decide) (by decide) tyX12 tyX12_ok nmX12 iIRX12_7 (by decide +kernel) rfl mFRX12_109 rfl dX12_know_13 (az_keep [false] (okLX12_know_16 C))
  have h12 := az_iconst (x := (nI 1)) C dX12_know_12 (by decide +kernel) h13
  have h11 := az_aload_n C 0 rfl dX12_know_11 h12
  have h8 := az_callV (ci := 13) C okX12_workOut knX12_workOut imX12_workOut seX12_workOut mLRX12_186 rfl (by decide) ⟨rfl, rfl, by decide, by decide⟩ dX12_know_8 h11
  have h7 := az_aload_n C 0 rfl dX12_know_7 h8
  have h4 := az_if_ne (tgt := 16) C dX12_know_4 (by decide) (az_keep [false] (okLX12_know_16 C)) h7
  have h1 := az_getI (T := TX12) (N := 33) (j := 7) C gwRX12 rfl (by decide) (by decide) iIRX12_7 mFRX12_109 rfl dX12_know_1 h4
  have h0 := az_aload_n C 0 rfl dX12_know_0 h1
  exact h0) l
theorem dX12_unit_0 : decode cX12_unit 0 = .ok (.aload_n 0, 1) := by decide +kernel
theorem dX12_unit_1 : decode cX12_unit 1 = .ok (.aload_n 0, 1) := by decide +kernel
theorem dX12_unit_2 : decode cX12_unit 2 = .ok (.iload_n 1, 1) := by decide +kernel
theorem dX12_unit_3 : decode cX12_unit 3 = .ok (.invokevirtual 131, 3) := by decide +kernel
theorem dX12_unit_6 : decode cX12_unit 6 = .ok (.ifCond .ne 7, 3) := by decide +kernel
theorem dX12_unit_9 : decode cX12_unit 9 = .ok (.iconst 1, 1) := by decide +kernel
theorem dX12_unit_10 : decode cX12_unit 10 = .ok (.goto 18, 3) := by decide +kernel
theorem dX12_unit_13 : decode cX12_unit 13 = .ok (.iload_n 2, 1) := by decide +kernel
theorem dX12_unit_14 : decode cX12_unit 14 = .ok (.iconst 0, 1) := by decide +kernel
theorem dX12_unit_15 : decode cX12_unit 15 = .ok (.bipush 14, 2) := by decide +kernel
theorem dX12_unit_17 : decode cX12_unit 17 = .ok (.invokestatic 92, 3) := by decide +kernel
theorem dX12_unit_20 : decode cX12_unit 20 = .ok (.ifCond .ne 7, 3) := by decide +kernel
theorem dX12_unit_23 : decode cX12_unit 23 = .ok (.iconst 2, 1) := by decide +kernel
theorem dX12_unit_24 : decode cX12_unit 24 = .ok (.goto 4, 3) := by decide +kernel
theorem dX12_unit_27 : decode cX12_unit 27 = .ok (.iconst 0, 1) := by decide +kernel
theorem dX12_unit_28 : decode cX12_unit 28 = .ok (.putfield 89, 3) := by decide +kernel
theorem dX12_unit_31 : decode cX12_unit 31 = .ok (.aload_n 0, 1) := by decide +kernel
theorem dX12_unit_32 : decode cX12_unit 32 = .ok (.getfield 89, 3) := by decide +kernel
theorem dX12_unit_35 : decode cX12_unit 35 = .ok (.ifCond .le 5, 3) := by decide +kernel
theorem dX12_unit_38 : decode cX12_unit 38 = .ok (.iconst 0, 1) := by decide +kernel
theorem dX12_unit_39 : decode cX12_unit 39 = .ok (.ireturn, 1) := by decide +kernel
theorem dX12_unit_40 : decode cX12_unit 40 = .ok (.iload_n 2, 1) := by decide +kernel
theorem dX12_unit_41 : decode cX12_unit 41 = .ok (.bipush 14, 2) := by decide +kernel
theorem dX12_unit_43 : decode cX12_unit 43 = .ok (.if_icmp .ge 10, 3) := by decide +kernel
theorem dX12_unit_46 : decode cX12_unit 46 = .ok (.aload_n 0, 1) := by decide +kernel
theorem dX12_unit_47 : decode cX12_unit 47 = .ok (.iload_n 1, 1) := by decide +kernel
theorem dX12_unit_48 : decode cX12_unit 48 = .ok (.iload_n 2, 1) := by decide +kernel
theorem dX12_unit_49 : decode cX12_unit 49 = .ok (.invokevirtual 128, 3) := by decide +kernel
theorem dX12_unit_52 : decode cX12_unit 52 = .ok (.ireturn, 1) := by decide +kernel
theorem dX12_unit_53 : decode cX12_unit 53 = .ok (.aload_n 0, 1) := by decide +kernel
theorem dX12_unit_54 : decode cX12_unit 54 = .ok (.invokevirtual 137, 3) := by decide +kernel
theorem dX12_unit_57 : decode cX12_unit 57 = .ok (.iconst 0, 1) := by decide +kernel
theorem dX12_unit_58 : decode cX12_unit 58 = .ok (.istore_n 3, 1) := by decide +kernel
theorem dX12_unit_59 : decode cX12_unit 59 = .ok (.iconst 0, 1) := by decide +kernel
theorem dX12_unit_60 : decode cX12_unit 60 = .ok (.istore 4, 2) := by decide +kernel
theorem dX12_unit_62 : decode cX12_unit 62 = .ok (.iload 4, 2) := by decide +kernel
theorem dX12_unit_64 : decode cX12_unit 64 = .ok (.aload_n 0, 1) := by decide +kernel
theorem dX12_unit_65 : decode cX12_unit 65 = .ok (.getfield 9, 3) := by decide +kernel
theorem dX12_unit_68 : decode cX12_unit 68 = .ok (.iconst 0, 1) := by decide +kernel
theorem dX12_unit_69 : decode cX12_unit 69 = .ok (.iaload, 1) := by decide +kernel
theorem dX12_unit_70 : decode cX12_unit 70 = .ok (.if_icmp .ge 35, 3) := by decide +kernel
theorem dX12_unit_73 : decode cX12_unit 73 = .ok (.iload_n 3, 1) := by decide +kernel
theorem dX12_unit_74 : decode cX12_unit 74 = .ok (.aload_n 0, 1) := by decide +kernel
theorem dX12_unit_75 : decode cX12_unit 75 = .ok (.getfield 22, 3) := by decide +kernel
theorem dX12_unit_78 : decode cX12_unit 78 = .ok (.bipush 6, 2) := by decide +kernel
theorem dX12_unit_80 : decode cX12_unit 80 = .ok (.iload 4, 2) := by decide +kernel
theorem dX12_unit_82 : decode cX12_unit 82 = .ok (.imul, 1) := by decide +kernel
theorem dX12_unit_83 : decode cX12_unit 83 = .ok (.iload_n 1, 1) := by decide +kernel
theorem dX12_unit_84 : decode cX12_unit 84 = .ok (.iadd, 1) := by decide +kernel
theorem dX12_unit_85 : decode cX12_unit 85 = .ok (.baload, 1) := by decide +kernel
theorem dX12_unit_86 : decode cX12_unit 86 = .ok (.ifCond .eq 10, 3) := by decide +kernel
theorem dX12_unit_89 : decode cX12_unit 89 = .ok (.iconst 1, 1) := by decide +kernel
theorem dX12_unit_90 : decode cX12_unit 90 = .ok (.iload 4, 2) := by decide +kernel
theorem dX12_unit_92 : decode cX12_unit 92 = .ok (.ishl, 1) := by decide +kernel
theorem dX12_unit_93 : decode cX12_unit 93 = .ok (.goto 4, 3) := by decide +kernel
theorem dX12_unit_96 : decode cX12_unit 96 = .ok (.iconst 0, 1) := by decide +kernel
theorem dX12_unit_97 : decode cX12_unit 97 = .ok (.ior, 1) := by decide +kernel
theorem dX12_unit_98 : decode cX12_unit 98 = .ok (.istore_n 3, 1) := by decide +kernel
theorem dX12_unit_99 : decode cX12_unit 99 = .ok (.iinc 4 1, 3) := by decide +kernel
theorem dX12_unit_102 : decode cX12_unit 102 = .ok (.goto (-40), 3) := by decide +kernel
theorem dX12_unit_105 : decode cX12_unit 105 = .ok (.iload_n 3, 1) := by decide +kernel
theorem dX12_unit_106 : decode cX12_unit 106 = .ok (.ireturn, 1) := by decide +kernel
def LX12_unit_97 (Q : Option Value → az_M → Prop) (Z62 : az_T) : az_T := (s_bin f_or (s_si 3 (s_inc 4 (nI 1) (s_kp [true, true, false, true, true] Z62))))
theorem okLX12_unit_97 {X : az_X} {Q : Option Value → az_M → Prop} (C : az_C X cX12_unit 5 RX12 (az_ts yX12_unit cX12_unit 5 (some .int)) ({ frames := 8, cells := 0, slots := 0, locals := 257 } : Room) (some .int) Q) {Z62 : az_T} (hZ62 : az_ok X 62 Z62) : az_ok X 97 (LX12_unit_97 Q Z62) := by
  have h102 := az_goto (tgt := 62) C dX12_unit_102 (by decide) (az_keep [true, true, false, true, true] hZ62)
  have h99 := az_iinc (v := (nI 1)) C (by decide) (by decide +kernel) dX12_unit_99 h102
  have h98 := az_istore_n C 3 rfl (by decide) dX12_unit_98 h99
  have h97 := az_ior C dX12_unit_97 h98
  exact h97
def BX12_unit_62 (Q : Option Value → az_M → Prop) (Z62 : az_T) : az_T := (s_li 4 (s_la 0 (s_gr 13 0 (s_ic (nI 0) (s_al 20 (s_if2 d_ge (s_li 3 (s_ri Q)) (s_li 3 (s_la 0 (s_gr 13 8 (s_ic (nI 6) (s_li 4 (s_bin f_mul (s_li 1 (s_bin f_add (s_al 21 (s_if c_eq (s_ic (nI 0) (s_kp [true, true, false, false, true] (LX12_unit_97 Q Z62))) (s_ic (nI 1) (s_li 4 (s_bin f_shl (s_kp [true, true, false, false, true] (LX12_unit_97 Q Z62)))))))))))))))))))))
theorem okBX12_unit_62 {X : az_X} {Q : Option Value → az_M → Prop} (C : az_C X cX12_unit 5 RX12 (az_ts yX12_unit cX12_unit 5 (some .int)) ({ frames := 8, cells := 0, slots := 0, locals := 257 } : Room) (some .int) Q) {Z62 : az_T} (hZ62 : az_ok X 62 Z62) : az_ok X 62 (BX12_unit_62 Q Z62) := by
  have h106 := az_ireturn C rfl dX12_unit_106
  have h105 := az_iload_n C 3 rfl dX12_unit_105 h106
  have h96 := az_iconst (x := (nI 0)) C dX12_unit_96 (by decide +kernel) (az_keep [true, true, false, false, true] (okLX12_unit_97 C hZ62))
  have h93 := az_goto (tgt := 97) C dX12_unit_93 (by decide) (az_keep [true, true, false, false, true] (okLX12_unit_97 C hZ62))
  have h92 := az_ishl C dX12_unit_92 h93
  have h90 := az_iload C dX12_unit_90 h92
  have h89 := az_iconst (x := (nI 1)) C dX12_unit_89 (by decide +kernel) h90
  have h86 := az_if_eq (tgt := 96) C dX12_unit_86 (by decide) h96 h89
  have h85 := az_zald C dX12_unit_85 h86
  have h84 := az_iadd C dX12_unit_84 h85
  have h83 := az_iload_n C 1 rfl dX12_unit_83 h84
  have h82 := az_imul C dX12_unit_82 h83
  have h80 := az_iload C dX12_unit_80 h82
  have h78 := az_bipush (x := (nI 6)) C dX12_unit_78 (by decide +kernel) h80
  have h75 := az_getR (T := TX12) (N := 33) (j := 8) C gwRX12 rfl (by decide) (by decide) iIRX12_8 mFRX12_22 rfl dX12_unit_75 h78
  have h74 := az_aload_n C 0 rfl dX12_unit_74 h75
  have h73 := az_iload_n C 3 rfl dX12_unit_73 h74
  have h70 := az_icmp_ge (tgt := 105) C dX12_unit_70 (by decide) h105 h73
  have h69 := az_iald C dX12_unit_69 h70
  have h68 := az_iconst (x := (nI 0)) C dX12_unit_68 (by decide +kernel) h69
  have h65 := az_getR (T := TX12) (N := 33) (j := 0) C gwRX12 rfl (by decide) (by decide) iIRX12_0 mFRX12_9 rfl dX12_unit_65 h68
  have h64 := az_aload_n C 0 rfl dX12_unit_64 h65
  have h62 := az_iload C dX12_unit_62 h64
  exact h62
def LX12_unit_62 (Q : Option Value → az_M → Prop) : az_T := s_lp (fun Z => BX12_unit_62 Q Z)
theorem okLX12_unit_62 {X : az_X} {Q : Option Value → az_M → Prop} (C : az_C X cX12_unit 5 RX12 (az_ts yX12_unit cX12_unit 5 (some .int)) ({ frames := 8, cells := 0, slots := 0, locals := 257 } : Room) (some .int) Q) : az_ok X 62 (LX12_unit_62 Q) := az_loop (F := fun Z => BX12_unit_62 Q Z) (fun _ hZ => okBX12_unit_62 C hZ)
def LX12_unit_28 (Q : Option Value → az_M → Prop) : az_T := (s_pi 13 5 (s_la 0 (s_gi 13 5 (s_if c_le (s_li 2 (s_ic (nI 14) (s_if2 d_ge (s_la 0 (s_cv 0 13 FX12_know (s_ic (nI 0) (s_si 3 (s_ic (nI 0) (s_si 4 (s_kp [true, true, false, true, true] (LX12_unit_62 Q)))))))) (s_la 0 (s_li 1 (s_li 2 (s_cv 2 13 FX12_of (s_ri Q)))))))) (s_ic (nI 0) (s_ri Q))))))
theorem okLX12_unit_28 {X : az_X} {Q : Option Value → az_M → Prop} (C : az_C X cX12_unit 5 RX12 (az_ts yX12_unit cX12_unit 5 (some .int)) ({ frames := 8, cells := 0, slots := 0, locals := 257 } : Room) (some .int) Q) : az_ok X 28 (LX12_unit_28 Q) := by
  have h60 := az_istore C (by decide) dX12_unit_60 (az_keep [true, true, false, true, true] (okLX12_unit_62 C))
  have h59 := az_iconst (x := (nI 0)) C dX12_unit_59 (by decide +kernel) h60
  have h58 := az_istore_n C 3 rfl (by decide) dX12_unit_58 h59
  have h57 := az_iconst (x := (nI 0)) C dX12_unit_57 (by decide +kernel) h58
  have h54 := az_callV (ci := 13) C okX12_know knX12_know imX12_know seX12_know mLRX12_137 rfl (by decide) ⟨rfl, rfl, by decide, by decide⟩ dX12_unit_54 h57
  have h53 := az_aload_n C 0 rfl dX12_unit_53 h54
  have h52 := az_ireturn C rfl dX12_unit_52
  have h49 := az_callV (ci := 13) C okX12_of knX12_of imX12_of seX12_of mLRX12_128 rfl (by decide) ⟨rfl, rfl, by decide, by decide⟩ dX12_unit_49 h52
  have h48 := az_iload_n C 2 rfl dX12_unit_48 h49
  have h47 := az_iload_n C 1 rfl dX12_unit_47 h48
  have h46 := az_aload_n C 0 rfl dX12_unit_46 h47
  have h43 := az_icmp_ge (tgt := 53) C dX12_unit_43 (by decide) h53 h46
  have h41 := az_bipush (x := (nI 14)) C dX12_unit_41 (by decide +kernel) h43
  have h40 := az_iload_n C 2 rfl dX12_unit_40 h41
  have h39 := az_ireturn C rfl dX12_unit_39
  have h38 := az_iconst (x := (nI 0)) C dX12_unit_38 (by decide +kernel) h39
  have h35 := az_if_le (tgt := 40) C dX12_unit_35 (by decide) h40 h38
  have h32 := az_getI (T := TX12) (N := 33) (j := 5) C gwRX12 rfl (by decide) (by decide) iIRX12_5 mFRX12_89 rfl dX12_unit_32 h35
  have h31 := az_aload_n C 0 rfl dX12_unit_31 h32
  have h28 := az_putI (T := TX12) (N := 33) (j := 5) C gwRX12 rfl (by decide) (by decide) tyX12 tyX12_ok nmX12 iIRX12_5 (by decide +kernel) rfl mFRX12_89 rfl dX12_unit_28 h31
  exact h28
def PX12_unit (Q : Option Value → az_M → Prop) : az_T := (s_la 0 (s_la 0 (s_li 1 (s_cv 1 13 FX12_isUnit (s_if c_ne (s_li 2 (s_ic (nI 0) (s_ic (nI 14) (s_cs 3 FX12_in (s_if c_ne (s_ic (nI 0) (s_kp [true, true, true, false, false] (LX12_unit_28 Q))) (s_ic (nI 2) (s_kp [true, true, true, false, false] (LX12_unit_28 Q)))))))) (s_ic (nI 1) (s_kp [true, true, true, false, false] (LX12_unit_28 Q))))))))
def FX12_unit : az_F := az_fun [true, false, false] 5 PX12_unit
theorem okX12_unit (l : Launch) : az_met l yX12_unit cX12_unit 5 (some .int) ({ frames := 8, cells := 0, slots := 0, locals := 257 } : Room) FX12_unit := az_met_of (own := RX12) (by decide +kernel) rfl (by decide) (fun X Q C => by
  have h27 := az_iconst (x := (nI 0)) C dX12_unit_27 (by decide +kernel) (az_keep [true, true, true, false, false] (okLX12_unit_28 C))
  have h24 := az_goto (tgt := 28) C dX12_unit_24 (by decide) (az_keep [true, true, true, false, false] (okLX12_unit_28 C))
  have h23 := az_iconst (x := (nI 2)) C dX12_unit_23 (by decide +kernel) h24
  have h20 := az_if_ne (tgt := 27) C dX12_unit_20 (by decide) h27 h23
  have h17 := az_callS C okX12_in knX12_in stX12_in mLRX12_92 ⟨rfl, rfl, by decide, by decide⟩ dX12_unit_17 h20
  have h15 := az_bipush (x := (nI 14)) C dX12_unit_15 (by decide +kernel) h17
  have h14 := az_iconst (x := (nI 0)) C dX12_unit_14 (by decide +kernel) h15
  have h13 := az_iload_n C 2 rfl dX12_unit_13 h14
  have h10 := az_goto (tgt := 28) C dX12_unit_10 (by decide) (az_keep [true, true, true, false, false] (okLX12_unit_28 C))
  have h9 := az_iconst (x := (nI 1)) C dX12_unit_9 (by decide +kernel) h10
  have h6 := az_if_ne (tgt := 13) C dX12_unit_6 (by decide) h13 h9
  have h3 := az_callV (ci := 13) C okX12_isUnit knX12_isUnit imX12_isUnit seX12_isUnit mLRX12_131 rfl (by decide) ⟨rfl, rfl, by decide, by decide⟩ dX12_unit_3 h6
  have h2 := az_iload_n C 1 rfl dX12_unit_2 h3
  have h1 := az_aload_n C 0 rfl dX12_unit_1 h2
  have h0 := az_aload_n C 0 rfl dX12_unit_0 h1
  exact h0) l
theorem dX12_commit_0 : decode cX12_commit 0 = .ok (.aload_n 0, 1) := by decide +kernel
theorem dX12_commit_1 : decode cX12_commit 1 = .ok (.aload_n 0, 1) := by decide +kernel
theorem dX12_commit_2 : decode cX12_commit 2 = .ok (.iload_n 1, 1) := by decide +kernel
theorem dX12_commit_3 : decode cX12_commit 3 = .ok (.invokevirtual 131, 3) := by decide +kernel
theorem dX12_commit_6 : decode cX12_commit 6 = .ok (.ifCond .eq 19, 3) := by decide +kernel
theorem dX12_commit_9 : decode cX12_commit 9 = .ok (.aload_n 0, 1) := by decide +kernel
theorem dX12_commit_10 : decode cX12_commit 10 = .ok (.iload_n 2, 1) := by decide +kernel
theorem dX12_commit_11 : decode cX12_commit 11 = .ok (.invokevirtual 117, 3) := by decide +kernel
theorem dX12_commit_14 : decode cX12_commit 14 = .ok (.ifCond .eq 11, 3) := by decide +kernel
theorem dX12_commit_17 : decode cX12_commit 17 = .ok (.aload_n 0, 1) := by decide +kernel
theorem dX12_commit_18 : decode cX12_commit 18 = .ok (.iload_n 3, 1) := by decide +kernel
theorem dX12_commit_19 : decode cX12_commit 19 = .ok (.invokevirtual 117, 3) := by decide +kernel
theorem dX12_commit_22 : decode cX12_commit 22 = .ok (.ifCond .ne 7, 3) := by decide +kernel
theorem dX12_commit_25 : decode cX12_commit 25 = .ok (.iconst 1, 1) := by decide +kernel
theorem dX12_commit_26 : decode cX12_commit 26 = .ok (.goto 13, 3) := by decide +kernel
theorem dX12_commit_29 : decode cX12_commit 29 = .ok (.iload_n 2, 1) := by decide +kernel
theorem dX12_commit_30 : decode cX12_commit 30 = .ok (.iload_n 3, 1) := by decide +kernel
theorem dX12_commit_31 : decode cX12_commit 31 = .ok (.if_icmp .le 7, 3) := by decide +kernel
theorem dX12_commit_34 : decode cX12_commit 34 = .ok (.iconst 2, 1) := by decide +kernel
theorem dX12_commit_35 : decode cX12_commit 35 = .ok (.goto 4, 3) := by decide +kernel
theorem dX12_commit_38 : decode cX12_commit 38 = .ok (.iconst 0, 1) := by decide +kernel
theorem dX12_commit_39 : decode cX12_commit 39 = .ok (.putfield 89, 3) := by decide +kernel
theorem dX12_commit_42 : decode cX12_commit 42 = .ok (.aload_n 0, 1) := by decide +kernel
theorem dX12_commit_43 : decode cX12_commit 43 = .ok (.getfield 89, 3) := by decide +kernel
theorem dX12_commit_46 : decode cX12_commit 46 = .ok (.ifCond .le 5, 3) := by decide +kernel
theorem dX12_commit_49 : decode cX12_commit 49 = .ok (.iconst 0, 1) := by decide +kernel
theorem dX12_commit_50 : decode cX12_commit 50 = .ok (.ireturn, 1) := by decide +kernel
theorem dX12_commit_51 : decode cX12_commit 51 = .ok (.aload_n 0, 1) := by decide +kernel
theorem dX12_commit_52 : decode cX12_commit 52 = .ok (.invokevirtual 120, 3) := by decide +kernel
theorem dX12_commit_55 : decode cX12_commit 55 = .ok (.iconst 0, 1) := by decide +kernel
theorem dX12_commit_56 : decode cX12_commit 56 = .ok (.istore 5, 2) := by decide +kernel
theorem dX12_commit_58 : decode cX12_commit 58 = .ok (.iload_n 2, 1) := by decide +kernel
theorem dX12_commit_59 : decode cX12_commit 59 = .ok (.istore 6, 2) := by decide +kernel
theorem dX12_commit_61 : decode cX12_commit 61 = .ok (.iload 6, 2) := by decide +kernel
theorem dX12_commit_63 : decode cX12_commit 63 = .ok (.iload_n 3, 1) := by decide +kernel
theorem dX12_commit_64 : decode cX12_commit 64 = .ok (.if_icmp .gt 75, 3) := by decide +kernel
theorem dX12_commit_67 : decode cX12_commit 67 = .ok (.iload 5, 2) := by decide +kernel
theorem dX12_commit_69 : decode cX12_commit 69 = .ok (.aload_n 0, 1) := by decide +kernel
theorem dX12_commit_70 : decode cX12_commit 70 = .ok (.iload_n 1, 1) := by decide +kernel
theorem dX12_commit_71 : decode cX12_commit 71 = .ok (.iload 6, 2) := by decide +kernel
theorem dX12_commit_73 : decode cX12_commit 73 = .ok (.invokevirtual 140, 3) := by decide +kernel
theorem dX12_commit_76 : decode cX12_commit 76 = .ok (.iload 4, 2) := by decide +kernel
theorem dX12_commit_78 : decode cX12_commit 78 = .ok (.if_icmp .eq 7, 3) := by decide +kernel
theorem dX12_commit_81 : decode cX12_commit 81 = .ok (.iconst 1, 1) := by decide +kernel
theorem dX12_commit_82 : decode cX12_commit 82 = .ok (.goto 4, 3) := by decide +kernel
theorem dX12_commit_85 : decode cX12_commit 85 = .ok (.iconst 0, 1) := by decide +kernel
theorem dX12_commit_86 : decode cX12_commit 86 = .ok (.iadd, 1) := by decide +kernel
theorem dX12_commit_87 : decode cX12_commit 87 = .ok (.istore 5, 2) := by decide +kernel
theorem dX12_commit_89 : decode cX12_commit 89 = .ok (.aload_n 0, 1) := by decide +kernel
theorem dX12_commit_90 : decode cX12_commit 90 = .ok (.iload_n 1, 1) := by decide +kernel
theorem dX12_commit_91 : decode cX12_commit 91 = .ok (.bipush 13, 2) := by decide +kernel
theorem dX12_commit_93 : decode cX12_commit 93 = .ok (.invokevirtual 128, 3) := by decide +kernel
theorem dX12_commit_96 : decode cX12_commit 96 = .ok (.iconst 1, 1) := by decide +kernel
theorem dX12_commit_97 : decode cX12_commit 97 = .ok (.iload 6, 2) := by decide +kernel
theorem dX12_commit_99 : decode cX12_commit 99 = .ok (.ishl, 1) := by decide +kernel
theorem dX12_commit_100 : decode cX12_commit 100 = .ok (.iconst (-1), 1) := by decide +kernel
theorem dX12_commit_101 : decode cX12_commit 101 = .ok (.ixor, 1) := by decide +kernel
theorem dX12_commit_102 : decode cX12_commit 102 = .ok (.iand, 1) := by decide +kernel
theorem dX12_commit_103 : decode cX12_commit 103 = .ok (.istore 7, 2) := by decide +kernel
theorem dX12_commit_105 : decode cX12_commit 105 = .ok (.aload_n 0, 1) := by decide +kernel
theorem dX12_commit_106 : decode cX12_commit 106 = .ok (.getfield 9, 3) := by decide +kernel
theorem dX12_commit_109 : decode cX12_commit 109 = .ok (.iload_n 1, 1) := by decide +kernel
theorem dX12_commit_110 : decode cX12_commit 110 = .ok (.bipush 13, 2) := by decide +kernel
theorem dX12_commit_112 : decode cX12_commit 112 = .ok (.invokestatic 96, 3) := by decide +kernel
theorem dX12_commit_115 : decode cX12_commit 115 = .ok (.iload 4, 2) := by decide +kernel
theorem dX12_commit_117 : decode cX12_commit 117 = .ok (.ifCond .eq 13, 3) := by decide +kernel
theorem dX12_commit_120 : decode cX12_commit 120 = .ok (.iload 7, 2) := by decide +kernel
theorem dX12_commit_122 : decode cX12_commit 122 = .ok (.iconst 1, 1) := by decide +kernel
theorem dX12_commit_123 : decode cX12_commit 123 = .ok (.iload 6, 2) := by decide +kernel
theorem dX12_commit_125 : decode cX12_commit 125 = .ok (.ishl, 1) := by decide +kernel
theorem dX12_commit_126 : decode cX12_commit 126 = .ok (.ior, 1) := by decide +kernel
theorem dX12_commit_127 : decode cX12_commit 127 = .ok (.goto 5, 3) := by decide +kernel
theorem dX12_commit_130 : decode cX12_commit 130 = .ok (.iload 7, 2) := by decide +kernel
theorem dX12_commit_132 : decode cX12_commit 132 = .ok (.iastore, 1) := by decide +kernel
theorem dX12_commit_133 : decode cX12_commit 133 = .ok (.iinc 6 1, 3) := by decide +kernel
theorem dX12_commit_136 : decode cX12_commit 136 = .ok (.goto (-75), 3) := by decide +kernel
theorem dX12_commit_139 : decode cX12_commit 139 = .ok (.iload 5, 2) := by decide +kernel
theorem dX12_commit_141 : decode cX12_commit 141 = .ok (.ireturn, 1) := by decide +kernel
def LX12_commit_132 (Q : Option Value → az_M → Prop) (Z61 : az_T) : az_T := (s_as (s_inc 6 (nI 1) (s_kp [true, true, false, true, true, true, true, false] Z61)))
theorem okLX12_commit_132 {X : az_X} {Q : Option Value → az_M → Prop} (C : az_C X cX12_commit 8 RX12 (az_ts yX12_commit cX12_commit 8 (some .int)) ({ frames := 4, cells := 0, slots := 0, locals := 165 } : Room) (some .int) Q) {Z61 : az_T} (hZ61 : az_ok X 61 Z61) : az_ok X 132 (LX12_commit_132 Q Z61) := by
  have h136 := az_goto (tgt := 61) C dX12_commit_136 (by decide) (az_keep [true, true, false, true, true, true, true, false] hZ61)
  have h133 := az_iinc (v := (nI 1)) C (by decide) (by decide +kernel) dX12_commit_133 h136
  have h132 := az_iast C dX12_commit_132 h133
  exact h132
def LX12_commit_86 (Q : Option Value → az_M → Prop) (Z61 : az_T) : az_T := (s_bin f_add (s_si 5 (s_la 0 (s_li 1 (s_ic (nI 13) (s_cv 2 13 FX12_of (s_ic (nI 1) (s_li 6 (s_bin f_shl (s_ic (-1) (s_bin f_xor (s_bin f_and (s_si 7 (s_la 0 (s_gr 13 0 (s_li 1 (s_ic (nI 13) (s_cs 2 FX12_at (s_li 4 (s_if c_eq (s_li 7 (s_kp [true, true, false, true, true, true, true, false] (LX12_commit_132 Q Z61))) (s_li 7 (s_ic (nI 1) (s_li 6 (s_bin f_shl (s_bin f_or (s_kp [true, true, false, true, true, true, true, false] (LX12_commit_132 Q Z61)))))))))))))))))))))))))))
theorem okLX12_commit_86 {X : az_X} {Q : Option Value → az_M → Prop} (C : az_C X cX12_commit 8 RX12 (az_ts yX12_commit cX12_commit 8 (some .int)) ({ frames := 4, cells := 0, slots := 0, locals := 165 } : Room) (some .int) Q) {Z61 : az_T} (hZ61 : az_ok X 61 Z61) : az_ok X 86 (LX12_commit_86 Q Z61) := by
  have h130 := az_iload C dX12_commit_130 (az_keep [true, true, false, true, true, true, true, false] (okLX12_commit_132 C hZ61))
  have h127 := az_goto (tgt := 132) C dX12_commit_127 (by decide) (az_keep [true, true, false, true, true, true, true, false] (okLX12_commit_132 C hZ61))
  have h126 := az_ior C dX12_commit_126 h127
  have h125 := az_ishl C dX12_commit_125 h126
  have h123 := az_iload C dX12_commit_123 h125
  have h122 := az_iconst (x := (nI 1)) C dX12_commit_122 (by decide +kernel) h123
  have h120 := az_iload C dX12_commit_120 h122
  have h117 := az_if_eq (tgt := 130) C dX12_commit_117 (by decide) h130 h120
  have h115 := az_iload C dX12_commit_115 h117
  have h112 := az_callS C okX12_at knX12_at stX12_at mLRX12_96 ⟨rfl, rfl, by decide, by decide⟩ dX12_commit_112 h115
  have h110 := az_bipush (x := (nI 13)) C dX12_commit_110 (by decide +kernel) h112
  have h109 := az_iload_n C 1 rfl dX12_commit_109 h110
  have h106 := az_getR (T := TX12) (N := 33) (j := 0) C gwRX12 rfl (by decide) (by decide) iIRX12_0 mFRX12_9 rfl dX12_commit_106 h109
  have h105 := az_aload_n C 0 rfl dX12_commit_105 h106
  have h103 := az_istore C (by decide) dX12_commit_103 h105
  have h102 := az_iand C dX12_commit_102 h103
  have h101 := az_ixor C dX12_commit_101 h102
  have h100 := az_iconst (x := (-1)) C dX12_commit_100 (by decide +kernel) h101
  have h99 := az_ishl C dX12_commit_99 h100
  have h97 := az_iload C dX12_commit_97 h99
  have h96 := az_iconst (x := (nI 1)) C dX12_commit_96 (by decide +kernel) h97
  have h93 := az_callV (ci := 13) C okX12_of knX12_of imX12_of seX12_of mLRX12_128 rfl (by decide) ⟨rfl, rfl, by decide, by decide⟩ dX12_commit_93 h96
  have h91 := az_bipush (x := (nI 13)) C dX12_commit_91 (by decide +kernel) h93
  have h90 := az_iload_n C 1 rfl dX12_commit_90 h91
  have h89 := az_aload_n C 0 rfl dX12_commit_89 h90
  have h87 := az_istore C (by decide) dX12_commit_87 h89
  have h86 := az_iadd C dX12_commit_86 h87
  exact h86
def BX12_commit_61 (Q : Option Value → az_M → Prop) (Z61 : az_T) : az_T := (s_li 6 (s_li 3 (s_if2 d_gt (s_li 5 (s_ri Q)) (s_li 5 (s_la 0 (s_li 1 (s_li 6 (s_cv 2 13 FX12_isPlanned (s_li 4 (s_if2 d_eq (s_ic (nI 0) (s_kp [true, true, false, true, true, false, true, false] (LX12_commit_86 Q Z61))) (s_ic (nI 1) (s_kp [true, true, false, true, true, false, true, false] (LX12_commit_86 Q Z61)))))))))))))
theorem okBX12_commit_61 {X : az_X} {Q : Option Value → az_M → Prop} (C : az_C X cX12_commit 8 RX12 (az_ts yX12_commit cX12_commit 8 (some .int)) ({ frames := 4, cells := 0, slots := 0, locals := 165 } : Room) (some .int) Q) {Z61 : az_T} (hZ61 : az_ok X 61 Z61) : az_ok X 61 (BX12_commit_61 Q Z61) := by
  have h141 := az_ireturn C rfl dX12_commit_141
  have h139 := az_iload C dX12_commit_139 h141
  have h85 := az_iconst (x := (nI 0)) C dX12_commit_85 (by decide +kernel) (az_keep [true, true, false, true, true, false, true, false] (okLX12_commit_86 C hZ61))
  have h82 := az_goto (tgt := 86) C dX12_commit_82 (by decide) (az_keep [true, true, false, true, true, false, true, false] (okLX12_commit_86 C hZ61))
  have h81 := az_iconst (x := (nI 1)) C dX12_commit_81 (by decide +kernel) h82
  have h78 := az_icmp_eq (tgt := 85) C dX12_commit_78 (by decide) h85 h81
  have h76 := az_iload C dX12_commit_76 h78
  have h73 := az_callV (ci := 13) C okX12_isPlanned knX12_isPlanned imX12_isPlanned seX12_isPlanned mLRX12_140 rfl (by decide) ⟨rfl, rfl, by decide, by decide⟩ dX12_commit_73 h76
  have h71 := az_iload C dX12_commit_71 h73
  have h70 := az_iload_n C 1 rfl dX12_commit_70 h71
  have h69 := az_aload_n C 0 rfl dX12_commit_69 h70
  have h67 := az_iload C dX12_commit_67 h69
  have h64 := az_icmp_gt (tgt := 139) C dX12_commit_64 (by decide) h139 h67
  have h63 := az_iload_n C 3 rfl dX12_commit_63 h64
  have h61 := az_iload C dX12_commit_61 h63
  exact h61
def LX12_commit_61 (Q : Option Value → az_M → Prop) : az_T := s_lp (fun Z => BX12_commit_61 Q Z)
theorem okLX12_commit_61 {X : az_X} {Q : Option Value → az_M → Prop} (C : az_C X cX12_commit 8 RX12 (az_ts yX12_commit cX12_commit 8 (some .int)) ({ frames := 4, cells := 0, slots := 0, locals := 165 } : Room) (some .int) Q) : az_ok X 61 (LX12_commit_61 Q) := az_loop (F := fun Z => BX12_commit_61 Q Z) (fun _ hZ => okBX12_commit_61 C hZ)
def LX12_commit_39 (Q : Option Value → az_M → Prop) : az_T := (s_pi 13 5 (s_la 0 (s_gi 13 5 (s_if c_le (s_la 0 (s_cv 0 13 FX12_change (s_ic (nI 0) (s_si 5 (s_li 2 (s_si 6 (s_kp [true, true, false, true, true, true, true, false] (LX12_commit_61 Q)))))))) (s_ic (nI 0) (s_ri Q))))))
theorem okLX12_commit_39 {X : az_X} {Q : Option Value → az_M → Prop} (C : az_C X cX12_commit 8 RX12 (az_ts yX12_commit cX12_commit 8 (some .int)) ({ frames := 4, cells := 0, slots := 0, locals := 165 } : Room) (some .int) Q) : az_ok X 39 (LX12_commit_39 Q) := by
  have h59 := az_istore C (by decide) dX12_commit_59 (az_keep [true, true, false, true, true, true, true, false] (okLX12_commit_61 C))
  have h58 := az_iload_n C 2 rfl dX12_commit_58 h59
  have h56 := az_istore C (by decide) dX12_commit_56 h58
  have h55 := az_iconst (x := (nI 0)) C dX12_commit_55 (by decide +kernel) h56
  have h52 := az_callV (ci := 13) C okX12_change knX12_change imX12_change seX12_change mLRX12_120 rfl (by decide) ⟨rfl, rfl, by decide, by decide⟩ dX12_commit_52 h55
  have h51 := az_aload_n C 0 rfl dX12_commit_51 h52
  have h50 := az_ireturn C rfl dX12_commit_50
  have h49 := az_iconst (x := (nI 0)) C dX12_commit_49 (by decide +kernel) h50
  have h46 := az_if_le (tgt := 51) C dX12_commit_46 (by decide) h51 h49
  have h43 := az_getI (T := TX12) (N := 33) (j := 5) C gwRX12 rfl (by decide) (by decide) iIRX12_5 mFRX12_89 rfl dX12_commit_43 h46
  have h42 := az_aload_n C 0 rfl dX12_commit_42 h43
  have h39 := az_putI (T := TX12) (N := 33) (j := 5) C gwRX12 rfl (by decide) (by decide) tyX12 tyX12_ok nmX12 iIRX12_5 (by decide +kernel) rfl mFRX12_89 rfl dX12_commit_39 h42
  exact h39
def LX12_commit_25 (Q : Option Value → az_M → Prop) : az_T := (s_ic (nI 1) (s_kp [true, true, true, true, true, false, false, false] (LX12_commit_39 Q)))
theorem okLX12_commit_25 {X : az_X} {Q : Option Value → az_M → Prop} (C : az_C X cX12_commit 8 RX12 (az_ts yX12_commit cX12_commit 8 (some .int)) ({ frames := 4, cells := 0, slots := 0, locals := 165 } : Room) (some .int) Q) : az_ok X 25 (LX12_commit_25 Q) := by
  have h26 := az_goto (tgt := 39) C dX12_commit_26 (by decide) (az_keep [true, true, true, true, true, false, false, false] (okLX12_commit_39 C))
  have h25 := az_iconst (x := (nI 1)) C dX12_commit_25 (by decide +kernel) h26
  exact h25
def PX12_commit (Q : Option Value → az_M → Prop) : az_T := (s_la 0 (s_la 0 (s_li 1 (s_cv 1 13 FX12_isUnit (s_if c_eq (s_kp [true, true, true, true, true, false, false, false] (LX12_commit_25 Q)) (s_la 0 (s_li 2 (s_cv 1 13 FX12_isHour (s_if c_eq (s_kp [true, true, true, true, true, false, false, false] (LX12_commit_25 Q)) (s_la 0 (s_li 3 (s_cv 1 13 FX12_isHour (s_if c_ne (s_li 2 (s_li 3 (s_if2 d_le (s_ic (nI 0) (s_kp [true, true, true, true, true, false, false, false] (LX12_commit_39 Q))) (s_ic (nI 2) (s_kp [true, true, true, true, true, false, false, false] (LX12_commit_39 Q)))))) (s_kp [true, true, true, true, true, false, false, false] (LX12_commit_25 Q)))))))))))))))
def FX12_commit : az_F := az_fun [true, false, false, false, false] 8 PX12_commit
theorem okX12_commit (l : Launch) : az_met l yX12_commit cX12_commit 8 (some .int) ({ frames := 4, cells := 0, slots := 0, locals := 165 } : Room) FX12_commit := az_met_of (own := RX12) (by decide +kernel) rfl (by decide) (fun X Q C => by
  have h38 := az_iconst (x := (nI 0)) C dX12_commit_38 (by decide +kernel) (az_keep [true, true, true, true, true, false, false, false] (okLX12_commit_39 C))
  have h35 := az_goto (tgt := 39) C dX12_commit_35 (by decide) (az_keep [true, true, true, true, true, false, false, false] (okLX12_commit_39 C))
  have h34 := az_iconst (x := (nI 2)) C dX12_commit_34 (by decide +kernel) h35
  have h31 := az_icmp_le (tgt := 38) C dX12_commit_31 (by decide) h38 h34
  have h30 := az_iload_n C 3 rfl dX12_commit_30 h31
  have h29 := az_iload_n C 2 rfl dX12_commit_29 h30
  have h22 := az_if_ne (tgt := 29) C dX12_commit_22 (by decide) h29 (az_keep [true, true, true, true, true, false, false, false] (okLX12_commit_25 C))
  have h19 := az_callV (ci := 13) C okX12_isHour knX12_isHour imX12_isHour seX12_isHour mLRX12_117 rfl (by decide) ⟨rfl, rfl, by decide, by decide⟩ dX12_commit_19 h22
  have h18 := az_iload_n C 3 rfl dX12_commit_18 h19
  have h17 := az_aload_n C 0 rfl dX12_commit_17 h18
  have h14 := az_if_eq (tgt := 25) C dX12_commit_14 (by decide) (az_keep [true, true, true, true, true, false, false, false] (okLX12_commit_25 C)) h17
  have h11 := az_callV (ci := 13) C okX12_isHour knX12_isHour imX12_isHour seX12_isHour mLRX12_117 rfl (by decide) ⟨rfl, rfl, by decide, by decide⟩ dX12_commit_11 h14
  have h10 := az_iload_n C 2 rfl dX12_commit_10 h11
  have h9 := az_aload_n C 0 rfl dX12_commit_9 h10
  have h6 := az_if_eq (tgt := 25) C dX12_commit_6 (by decide) (az_keep [true, true, true, true, true, false, false, false] (okLX12_commit_25 C)) h9
  have h3 := az_callV (ci := 13) C okX12_isUnit knX12_isUnit imX12_isUnit seX12_isUnit mLRX12_131 rfl (by decide) ⟨rfl, rfl, by decide, by decide⟩ dX12_commit_3 h6
  have h2 := az_iload_n C 1 rfl dX12_commit_2 h3
  have h1 := az_aload_n C 0 rfl dX12_commit_1 h2
  have h0 := az_aload_n C 0 rfl dX12_commit_0 h1
  exact h0) l
theorem dX12_addOutage_0 : decode cX12_addOutage 0 = .ok (.aload_n 0, 1) := by decide +kernel
theorem dX12_addOutage_1 : decode cX12_addOutage 1 = .ok (.aload_n 0, 1) := by decide +kernel
theorem dX12_addOutage_2 : decode cX12_addOutage 2 = .ok (.iload_n 1, 1) := by decide +kernel
theorem dX12_addOutage_3 : decode cX12_addOutage 3 = .ok (.invokevirtual 131, 3) := by decide +kernel
theorem dX12_addOutage_6 : decode cX12_addOutage 6 = .ok (.ifCond .eq 11, 3) := by decide +kernel
theorem dX12_addOutage_9 : decode cX12_addOutage 9 = .ok (.aload_n 0, 1) := by decide +kernel
theorem dX12_addOutage_10 : decode cX12_addOutage 10 = .ok (.iload_n 2, 1) := by decide +kernel
theorem dX12_addOutage_11 : decode cX12_addOutage 11 = .ok (.invokevirtual 117, 3) := by decide +kernel
theorem dX12_addOutage_14 : decode cX12_addOutage 14 = .ok (.ifCond .ne 7, 3) := by decide +kernel
theorem dX12_addOutage_17 : decode cX12_addOutage 17 = .ok (.iconst 1, 1) := by decide +kernel
theorem dX12_addOutage_18 : decode cX12_addOutage 18 = .ok (.goto 33, 3) := by decide +kernel
theorem dX12_addOutage_21 : decode cX12_addOutage 21 = .ok (.iload_n 3, 1) := by decide +kernel
theorem dX12_addOutage_22 : decode cX12_addOutage 22 = .ok (.iconst 1, 1) := by decide +kernel
theorem dX12_addOutage_23 : decode cX12_addOutage 23 = .ok (.bipush 24, 2) := by decide +kernel
theorem dX12_addOutage_25 : decode cX12_addOutage 25 = .ok (.invokestatic 92, 3) := by decide +kernel
theorem dX12_addOutage_28 : decode cX12_addOutage 28 = .ok (.ifCond .ne 7, 3) := by decide +kernel
theorem dX12_addOutage_31 : decode cX12_addOutage 31 = .ok (.iconst 2, 1) := by decide +kernel
theorem dX12_addOutage_32 : decode cX12_addOutage 32 = .ok (.goto 19, 3) := by decide +kernel
theorem dX12_addOutage_35 : decode cX12_addOutage 35 = .ok (.aload_n 0, 1) := by decide +kernel
theorem dX12_addOutage_36 : decode cX12_addOutage 36 = .ok (.getfield 9, 3) := by decide +kernel
theorem dX12_addOutage_39 : decode cX12_addOutage 39 = .ok (.iconst 3, 1) := by decide +kernel
theorem dX12_addOutage_40 : decode cX12_addOutage 40 = .ok (.iaload, 1) := by decide +kernel
theorem dX12_addOutage_41 : decode cX12_addOutage 41 = .ok (.bipush 6, 2) := by decide +kernel
theorem dX12_addOutage_43 : decode cX12_addOutage 43 = .ok (.if_icmp .ne 7, 3) := by decide +kernel
theorem dX12_addOutage_46 : decode cX12_addOutage 46 = .ok (.iconst 3, 1) := by decide +kernel
theorem dX12_addOutage_47 : decode cX12_addOutage 47 = .ok (.goto 4, 3) := by decide +kernel
theorem dX12_addOutage_50 : decode cX12_addOutage 50 = .ok (.iconst 0, 1) := by decide +kernel
theorem dX12_addOutage_51 : decode cX12_addOutage 51 = .ok (.putfield 89, 3) := by decide +kernel
theorem dX12_addOutage_54 : decode cX12_addOutage 54 = .ok (.aload_n 0, 1) := by decide +kernel
theorem dX12_addOutage_55 : decode cX12_addOutage 55 = .ok (.getfield 89, 3) := by decide +kernel
theorem dX12_addOutage_58 : decode cX12_addOutage 58 = .ok (.ifCond .le 5, 3) := by decide +kernel
theorem dX12_addOutage_61 : decode cX12_addOutage 61 = .ok (.iconst 0, 1) := by decide +kernel
theorem dX12_addOutage_62 : decode cX12_addOutage 62 = .ok (.ireturn, 1) := by decide +kernel
theorem dX12_addOutage_63 : decode cX12_addOutage 63 = .ok (.aload_n 0, 1) := by decide +kernel
theorem dX12_addOutage_64 : decode cX12_addOutage 64 = .ok (.invokevirtual 120, 3) := by decide +kernel
theorem dX12_addOutage_67 : decode cX12_addOutage 67 = .ok (.aload_n 0, 1) := by decide +kernel
theorem dX12_addOutage_68 : decode cX12_addOutage 68 = .ok (.getfield 9, 3) := by decide +kernel
theorem dX12_addOutage_71 : decode cX12_addOutage 71 = .ok (.iconst 3, 1) := by decide +kernel
theorem dX12_addOutage_72 : decode cX12_addOutage 72 = .ok (.iaload, 1) := by decide +kernel
theorem dX12_addOutage_73 : decode cX12_addOutage 73 = .ok (.istore 4, 2) := by decide +kernel
theorem dX12_addOutage_75 : decode cX12_addOutage 75 = .ok (.aload_n 0, 1) := by decide +kernel
theorem dX12_addOutage_76 : decode cX12_addOutage 76 = .ok (.getfield 9, 3) := by decide +kernel
theorem dX12_addOutage_79 : decode cX12_addOutage 79 = .ok (.sipush 133, 3) := by decide +kernel
theorem dX12_addOutage_82 : decode cX12_addOutage 82 = .ok (.iconst 3, 1) := by decide +kernel
theorem dX12_addOutage_83 : decode cX12_addOutage 83 = .ok (.iload 4, 2) := by decide +kernel
theorem dX12_addOutage_85 : decode cX12_addOutage 85 = .ok (.imul, 1) := by decide +kernel
theorem dX12_addOutage_86 : decode cX12_addOutage 86 = .ok (.iadd, 1) := by decide +kernel
theorem dX12_addOutage_87 : decode cX12_addOutage 87 = .ok (.iload_n 1, 1) := by decide +kernel
theorem dX12_addOutage_88 : decode cX12_addOutage 88 = .ok (.iastore, 1) := by decide +kernel
theorem dX12_addOutage_89 : decode cX12_addOutage 89 = .ok (.aload_n 0, 1) := by decide +kernel
theorem dX12_addOutage_90 : decode cX12_addOutage 90 = .ok (.getfield 9, 3) := by decide +kernel
theorem dX12_addOutage_93 : decode cX12_addOutage 93 = .ok (.sipush 133, 3) := by decide +kernel
theorem dX12_addOutage_96 : decode cX12_addOutage 96 = .ok (.iconst 3, 1) := by decide +kernel
theorem dX12_addOutage_97 : decode cX12_addOutage 97 = .ok (.iload 4, 2) := by decide +kernel
theorem dX12_addOutage_99 : decode cX12_addOutage 99 = .ok (.imul, 1) := by decide +kernel
theorem dX12_addOutage_100 : decode cX12_addOutage 100 = .ok (.iadd, 1) := by decide +kernel
theorem dX12_addOutage_101 : decode cX12_addOutage 101 = .ok (.iconst 1, 1) := by decide +kernel
theorem dX12_addOutage_102 : decode cX12_addOutage 102 = .ok (.iadd, 1) := by decide +kernel
theorem dX12_addOutage_103 : decode cX12_addOutage 103 = .ok (.iload_n 2, 1) := by decide +kernel
theorem dX12_addOutage_104 : decode cX12_addOutage 104 = .ok (.iastore, 1) := by decide +kernel
theorem dX12_addOutage_105 : decode cX12_addOutage 105 = .ok (.aload_n 0, 1) := by decide +kernel
theorem dX12_addOutage_106 : decode cX12_addOutage 106 = .ok (.getfield 9, 3) := by decide +kernel
theorem dX12_addOutage_109 : decode cX12_addOutage 109 = .ok (.sipush 133, 3) := by decide +kernel
theorem dX12_addOutage_112 : decode cX12_addOutage 112 = .ok (.iconst 3, 1) := by decide +kernel
theorem dX12_addOutage_113 : decode cX12_addOutage 113 = .ok (.iload 4, 2) := by decide +kernel
theorem dX12_addOutage_115 : decode cX12_addOutage 115 = .ok (.imul, 1) := by decide +kernel
theorem dX12_addOutage_116 : decode cX12_addOutage 116 = .ok (.iadd, 1) := by decide +kernel
theorem dX12_addOutage_117 : decode cX12_addOutage 117 = .ok (.iconst 2, 1) := by decide +kernel
theorem dX12_addOutage_118 : decode cX12_addOutage 118 = .ok (.iadd, 1) := by decide +kernel
theorem dX12_addOutage_119 : decode cX12_addOutage 119 = .ok (.iload_n 3, 1) := by decide +kernel
theorem dX12_addOutage_120 : decode cX12_addOutage 120 = .ok (.iastore, 1) := by decide +kernel
theorem dX12_addOutage_121 : decode cX12_addOutage 121 = .ok (.aload_n 0, 1) := by decide +kernel
theorem dX12_addOutage_122 : decode cX12_addOutage 122 = .ok (.getfield 9, 3) := by decide +kernel
theorem dX12_addOutage_125 : decode cX12_addOutage 125 = .ok (.iconst 3, 1) := by decide +kernel
theorem dX12_addOutage_126 : decode cX12_addOutage 126 = .ok (.dup2, 1) := by decide +kernel
theorem dX12_addOutage_127 : decode cX12_addOutage 127 = .ok (.iaload, 1) := by decide +kernel
theorem dX12_addOutage_128 : decode cX12_addOutage 128 = .ok (.iconst 1, 1) := by decide +kernel
theorem dX12_addOutage_129 : decode cX12_addOutage 129 = .ok (.iadd, 1) := by decide +kernel
theorem dX12_addOutage_130 : decode cX12_addOutage 130 = .ok (.iastore, 1) := by decide +kernel
theorem dX12_addOutage_131 : decode cX12_addOutage 131 = .ok (.iload 4, 2) := by decide +kernel
theorem dX12_addOutage_133 : decode cX12_addOutage 133 = .ok (.ireturn, 1) := by decide +kernel
def LX12_addOutage_51 (Q : Option Value → az_M → Prop) : az_T := (s_pi 13 5 (s_la 0 (s_gi 13 5 (s_if c_le (s_la 0 (s_cv 0 13 FX12_change (s_la 0 (s_gr 13 0 (s_ic (nI 3) (s_al 20 (s_si 4 (s_la 0 (s_gr 13 0 (s_ic (nI 133) (s_ic (nI 3) (s_li 4 (s_bin f_mul (s_bin f_add (s_li 1 (s_as (s_la 0 (s_gr 13 0 (s_ic (nI 133) (s_ic (nI 3) (s_li 4 (s_bin f_mul (s_bin f_add (s_ic (nI 1) (s_bin f_add (s_li 2 (s_as (s_la 0 (s_gr 13 0 (s_ic (nI 133) (s_ic (nI 3) (s_li 4 (s_bin f_mul (s_bin f_add (s_ic (nI 2) (s_bin f_add (s_li 3 (s_as (s_la 0 (s_gr 13 0 (s_ic (nI 3) (s_dup2 (s_al 20 (s_ic (nI 1) (s_bin f_add (s_as (s_li 4 (s_ri Q)))))))))))))))))))))))))))))))))))))))))))))))) (s_ic (nI 0) (s_ri Q))))))
theorem okLX12_addOutage_51 {X : az_X} {Q : Option Value → az_M → Prop} (C : az_C X cX12_addOutage 5 RX12 (az_ts yX12_addOutage cX12_addOutage 5 (some .int)) ({ frames := 3, cells := 0, slots := 0, locals := 143 } : Room) (some .int) Q) : az_ok X 51 (LX12_addOutage_51 Q) := by
  have h133 := az_ireturn C rfl dX12_addOutage_133
  have h131 := az_iload C dX12_addOutage_131 h133
  have h130 := az_iast C dX12_addOutage_130 h131
  have h129 := az_iadd C dX12_addOutage_129 h130
  have h128 := az_iconst (x := (nI 1)) C dX12_addOutage_128 (by decide +kernel) h129
  have h127 := az_iald C dX12_addOutage_127 h128
  have h126 := az_dup2 C dX12_addOutage_126 h127
  have h125 := az_iconst (x := (nI 3)) C dX12_addOutage_125 (by decide +kernel) h126
  have h122 := az_getR (T := TX12) (N := 33) (j := 0) C gwRX12 rfl (by decide) (by decide) iIRX12_0 mFRX12_9 rfl dX12_addOutage_122 h125
  have h121 := az_aload_n C 0 rfl dX12_addOutage_121 h122
  have h120 := az_iast C dX12_addOutage_120 h121
  have h119 := az_iload_n C 3 rfl dX12_addOutage_119 h120
  have h118 := az_iadd C dX12_addOutage_118 h119
  have h117 := az_iconst (x := (nI 2)) C dX12_addOutage_117 (by decide +kernel) h118
  have h116 := az_iadd C dX12_addOutage_116 h117
  have h115 := az_imul C dX12_addOutage_115 h116
  have h113 := az_iload C dX12_addOutage_113 h115
  have h112 := az_iconst (x := (nI 3)) C dX12_addOutage_112 (by decide +kernel) h113
  have h109 := az_sipush (x := (nI 133)) C dX12_addOutage_109 (by decide +kernel) h112
  have h106 := az_getR (T := TX12) (N := 33) (j := 0) C gwRX12 rfl (by decide) (by decide) iIRX12_0 mFRX12_9 rfl dX12_addOutage_106 h109
  have h105 := az_aload_n C 0 rfl dX12_addOutage_105 h106
  have h104 := az_iast C dX12_addOutage_104 h105
  have h103 := az_iload_n C 2 rfl dX12_addOutage_103 h104
  have h102 := az_iadd C dX12_addOutage_102 h103
  have h101 := az_iconst (x := (nI 1)) C dX12_addOutage_101 (by decide +kernel) h102
  have h100 := az_iadd C dX12_addOutage_100 h101
  have h99 := az_imul C dX12_addOutage_99 h100
  have h97 := az_iload C dX12_addOutage_97 h99
  have h96 := az_iconst (x := (nI 3)) C dX12_addOutage_96 (by decide +kernel) h97
  have h93 := az_sipush (x := (nI 133)) C dX12_addOutage_93 (by decide +kernel) h96
  have h90 := az_getR (T := TX12) (N := 33) (j := 0) C gwRX12 rfl (by decide) (by decide) iIRX12_0 mFRX12_9 rfl dX12_addOutage_90 h93
  have h89 := az_aload_n C 0 rfl dX12_addOutage_89 h90
  have h88 := az_iast C dX12_addOutage_88 h89
  have h87 := az_iload_n C 1 rfl dX12_addOutage_87 h88
  have h86 := az_iadd C dX12_addOutage_86 h87
  have h85 := az_imul C dX12_addOutage_85 h86
  have h83 := az_iload C dX12_addOutage_83 h85
  have h82 := az_iconst (x := (nI 3)) C dX12_addOutage_82 (by decide +kernel) h83
  have h79 := az_sipush (x := (nI 133)) C dX12_addOutage_79 (by decide +kernel) h82
  have h76 := az_getR (T := TX12) (N := 33) (j := 0) C gwRX12 rfl (by decide) (by decide) iIRX12_0 mFRX12_9 rfl dX12_addOutage_76 h79
  have h75 := az_aload_n C 0 rfl dX12_addOutage_75 h76
  have h73 := az_istore C (by decide) dX12_addOutage_73 h75
  have h72 := az_iald C dX12_addOutage_72 h73
  have h71 := az_iconst (x := (nI 3)) C dX12_addOutage_71 (by decide +kernel) h72
  have h68 := az_getR (T := TX12) (N := 33) (j := 0) C gwRX12 rfl (by decide) (by decide) iIRX12_0 mFRX12_9 rfl dX12_addOutage_68 h71
  have h67 := az_aload_n C 0 rfl dX12_addOutage_67 h68
  have h64 := az_callV (ci := 13) C okX12_change knX12_change imX12_change seX12_change mLRX12_120 rfl (by decide) ⟨rfl, rfl, by decide, by decide⟩ dX12_addOutage_64 h67
  have h63 := az_aload_n C 0 rfl dX12_addOutage_63 h64
  have h62 := az_ireturn C rfl dX12_addOutage_62
  have h61 := az_iconst (x := (nI 0)) C dX12_addOutage_61 (by decide +kernel) h62
  have h58 := az_if_le (tgt := 63) C dX12_addOutage_58 (by decide) h63 h61
  have h55 := az_getI (T := TX12) (N := 33) (j := 5) C gwRX12 rfl (by decide) (by decide) iIRX12_5 mFRX12_89 rfl dX12_addOutage_55 h58
  have h54 := az_aload_n C 0 rfl dX12_addOutage_54 h55
  have h51 := az_putI (T := TX12) (N := 33) (j := 5) C gwRX12 rfl (by decide) (by decide) tyX12 tyX12_ok nmX12 iIRX12_5 (by decide +kernel) rfl mFRX12_89 rfl dX12_addOutage_51 h54
  exact h51
def LX12_addOutage_17 (Q : Option Value → az_M → Prop) : az_T := (s_ic (nI 1) (s_kp [true, true, true, true, false] (LX12_addOutage_51 Q)))
theorem okLX12_addOutage_17 {X : az_X} {Q : Option Value → az_M → Prop} (C : az_C X cX12_addOutage 5 RX12 (az_ts yX12_addOutage cX12_addOutage 5 (some .int)) ({ frames := 3, cells := 0, slots := 0, locals := 143 } : Room) (some .int) Q) : az_ok X 17 (LX12_addOutage_17 Q) := by
  have h18 := az_goto (tgt := 51) C dX12_addOutage_18 (by decide) (az_keep [true, true, true, true, false] (okLX12_addOutage_51 C))
  have h17 := az_iconst (x := (nI 1)) C dX12_addOutage_17 (by decide +kernel) h18
  exact h17
def PX12_addOutage (Q : Option Value → az_M → Prop) : az_T := (s_la 0 (s_la 0 (s_li 1 (s_cv 1 13 FX12_isUnit (s_if c_eq (s_kp [true, true, true, true, false] (LX12_addOutage_17 Q)) (s_la 0 (s_li 2 (s_cv 1 13 FX12_isHour (s_if c_ne (s_li 3 (s_ic (nI 1) (s_ic (nI 24) (s_cs 3 FX12_in (s_if c_ne (s_la 0 (s_gr 13 0 (s_ic (nI 3) (s_al 20 (s_ic (nI 6) (s_if2 d_ne (s_ic (nI 0) (s_kp [true, true, true, true, false] (LX12_addOutage_51 Q))) (s_ic (nI 3) (s_kp [true, true, true, true, false] (LX12_addOutage_51 Q))))))))) (s_ic (nI 2) (s_kp [true, true, true, true, false] (LX12_addOutage_51 Q)))))))) (s_kp [true, true, true, true, false] (LX12_addOutage_17 Q)))))))))))
def FX12_addOutage : az_F := az_fun [true, false, false, false] 5 PX12_addOutage
theorem okX12_addOutage (l : Launch) : az_met l yX12_addOutage cX12_addOutage 5 (some .int) ({ frames := 3, cells := 0, slots := 0, locals := 143 } : Room) FX12_addOutage := az_met_of (own := RX12) (by decide +kernel) rfl (by decide) (fun X Q C => by
  have h50 := az_iconst (x := (nI 0)) C dX12_addOutage_50 (by decide +kernel) (az_keep [true, true, true, true, false] (okLX12_addOutage_51 C))
  have h47 := az_goto (tgt := 51) C dX12_addOutage_47 (by decide) (az_keep [true, true, true, true, false] (okLX12_addOutage_51 C))
  have h46 := az_iconst (x := (nI 3)) C dX12_addOutage_46 (by decide +kernel) h47
  have h43 := az_icmp_ne (tgt := 50) C dX12_addOutage_43 (by decide) h50 h46
  have h41 := az_bipush (x := (nI 6)) C dX12_addOutage_41 (by decide +kernel) h43
  have h40 := az_iald C dX12_addOutage_40 h41
  have h39 := az_iconst (x := (nI 3)) C dX12_addOutage_39 (by decide +kernel) h40
  have h36 := az_getR (T := TX12) (N := 33) (j := 0) C gwRX12 rfl (by decide) (by decide) iIRX12_0 mFRX12_9 rfl dX12_addOutage_36 h39
  have h35 := az_aload_n C 0 rfl dX12_addOutage_35 h36
  have h32 := az_goto (tgt := 51) C dX12_addOutage_32 (by decide) (az_keep [true, true, true, true, false] (okLX12_addOutage_51 C))
  have h31 := az_iconst (x := (nI 2)) C dX12_addOutage_31 (by decide +kernel) h32
  have h28 := az_if_ne (tgt := 35) C dX12_addOutage_28 (by decide) h35 h31
  have h25 := az_callS C okX12_in knX12_in stX12_in mLRX12_92 ⟨rfl, rfl, by decide, by decide⟩ dX12_addOutage_25 h28
  have h23 := az_bipush (x := (nI 24)) C dX12_addOutage_23 (by decide +kernel) h25
  have h22 := az_iconst (x := (nI 1)) C dX12_addOutage_22 (by decide +kernel) h23
  have h21 := az_iload_n C 3 rfl dX12_addOutage_21 h22
  have h14 := az_if_ne (tgt := 21) C dX12_addOutage_14 (by decide) h21 (az_keep [true, true, true, true, false] (okLX12_addOutage_17 C))
  have h11 := az_callV (ci := 13) C okX12_isHour knX12_isHour imX12_isHour seX12_isHour mLRX12_117 rfl (by decide) ⟨rfl, rfl, by decide, by decide⟩ dX12_addOutage_11 h14
  have h10 := az_iload_n C 2 rfl dX12_addOutage_10 h11
  have h9 := az_aload_n C 0 rfl dX12_addOutage_9 h10
  have h6 := az_if_eq (tgt := 17) C dX12_addOutage_6 (by decide) (az_keep [true, true, true, true, false] (okLX12_addOutage_17 C)) h9
  have h3 := az_callV (ci := 13) C okX12_isUnit knX12_isUnit imX12_isUnit seX12_isUnit mLRX12_131 rfl (by decide) ⟨rfl, rfl, by decide, by decide⟩ dX12_addOutage_3 h6
  have h2 := az_iload_n C 1 rfl dX12_addOutage_2 h3
  have h1 := az_aload_n C 0 rfl dX12_addOutage_1 h2
  have h0 := az_aload_n C 0 rfl dX12_addOutage_0 h1
  exact h0) l
theorem dX12_isOutage_0 : decode cX12_isOutage 0 = .ok (.iload_n 1, 1) := by decide +kernel
theorem dX12_isOutage_1 : decode cX12_isOutage 1 = .ok (.iconst 0, 1) := by decide +kernel
theorem dX12_isOutage_2 : decode cX12_isOutage 2 = .ok (.aload_n 0, 1) := by decide +kernel
theorem dX12_isOutage_3 : decode cX12_isOutage 3 = .ok (.getfield 9, 3) := by decide +kernel
theorem dX12_isOutage_6 : decode cX12_isOutage 6 = .ok (.iconst 3, 1) := by decide +kernel
theorem dX12_isOutage_7 : decode cX12_isOutage 7 = .ok (.iaload, 1) := by decide +kernel
theorem dX12_isOutage_8 : decode cX12_isOutage 8 = .ok (.iconst 1, 1) := by decide +kernel
theorem dX12_isOutage_9 : decode cX12_isOutage 9 = .ok (.isub, 1) := by decide +kernel
theorem dX12_isOutage_10 : decode cX12_isOutage 10 = .ok (.invokestatic 92, 3) := by decide +kernel
theorem dX12_isOutage_13 : decode cX12_isOutage 13 = .ok (.ireturn, 1) := by decide +kernel
def PX12_isOutage (Q : Option Value → az_M → Prop) : az_T := (s_li 1 (s_ic (nI 0) (s_la 0 (s_gr 13 0 (s_ic (nI 3) (s_al 20 (s_ic (nI 1) (s_bin f_sub (s_cs 3 FX12_in (s_rz Q))))))))))
def FX12_isOutage : az_F := az_fun [true, false] 2 PX12_isOutage
theorem okX12_isOutage (l : Launch) : az_met l yX12_isOutage cX12_isOutage 2 (some .boolean) ({ frames := 2, cells := 0, slots := 0, locals := 122 } : Room) FX12_isOutage := az_met_of (own := RX12) (by decide +kernel) rfl (by decide) (fun X Q C => by
  have h13 := az_zreturn C rfl dX12_isOutage_13
  have h10 := az_callS C okX12_in knX12_in stX12_in mLRX12_92 ⟨rfl, rfl, by decide, by decide⟩ dX12_isOutage_10 h13
  have h9 := az_isub C dX12_isOutage_9 h10
  have h8 := az_iconst (x := (nI 1)) C dX12_isOutage_8 (by decide +kernel) h9
  have h7 := az_iald C dX12_isOutage_7 h8
  have h6 := az_iconst (x := (nI 3)) C dX12_isOutage_6 (by decide +kernel) h7
  have h3 := az_getR (T := TX12) (N := 33) (j := 0) C gwRX12 rfl (by decide) (by decide) iIRX12_0 mFRX12_9 rfl dX12_isOutage_3 h6
  have h2 := az_aload_n C 0 rfl dX12_isOutage_2 h3
  have h1 := az_iconst (x := (nI 0)) C dX12_isOutage_1 (by decide +kernel) h2
  have h0 := az_iload_n C 1 rfl dX12_isOutage_0 h1
  exact h0) l
