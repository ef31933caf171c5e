/-! the law: what stands behind the model's call in every case -/
def lt_tail (Z : az_T) : az_T := (s_si 7 (s_la 2 (s_cv 0 13 FX12_thrown (s_li 6 (s_if2 d_eq (s_li 6 (s_if c_ne Z (s_la 3 (s_ic (nI 0) (s_lal (s_li 7 (s_i2l (s_lcmp (s_if c_eq Z sF))))))))) sF)))))
def lt_tailF (Z : az_T) : az_T := (s_fst 7 (s_la 2 (s_cv 0 13 FX12_thrown (s_li 6 (s_if2 d_eq (s_li 6 (s_if c_ne Z (s_la 4 (s_ic (nI 0) (s_dal (s_fld 7 (s_f2d (s_dcmp .l (s_if c_eq Z sF))))))))) sF)))))
def lt_mk : List Bool := [true, true, true, true, true, true, true, false, false]
/-- a mean cost of the model's in places 7 and 8 -/
def s_mean (Z : az_T) : az_T := fun ls st q M => match st with
  | .double x :: st => st = [] ∧ az_gl ls 2 = some (.ref 354) ∧ 354 < M.1.1 ∧ (M.1.2.1 354).1 = 13 ∧ az_gl ls 4 = some (.ref 379) ∧ ∃ k, az_gl ls 6 = some (.int k) ∧ FX12_thrown [.ref 354] M (fun r M1 => r = some (.int k) ∧ (k = 0 → 379 < M1.1.1 ∧ (M1.1.2.1 379).1 = 24 ∧ vp_in 0 (M1.1.2.1 379).2 ∧ M1.2.2.2 379 0 = x ∧ Op.cmpValue (FP.dcmp x x) .l = 0) ∧ Z (az_kp lt_mk ls) [] q M1)
  | _ => False
set_option maxHeartbeats 1000000 in
theorem az_mean {X : az_X} {Q : Option Value → az_M → Prop} (C : az_C X cL_law 9 RL lw_tbl room_1 ret Q) {Z : az_T} (hZ : az_ok X 2044 Z) : az_ok X 1799 (s_mean Z) := by
  obtain ⟨p, l, e, R, s, m, args, below, meth, c, D, tc, A, Qf, RA⟩ := X
  obtain ⟨hx, hb, hml, hown, hts, hK, hN, hA, hlk, hr, hR, hsub, hQ⟩ := C
  intro ls st k M h ad H Ls locs hra hl hP hD hS hz
  unfold s_mean at h
  split at h
  · rename_i x st1
    obtain ⟨rfl, h2, hb1, hk1, h4, kz, h6, hF⟩ := h
    refine lv_dstore hx hb dL_law_1799 hl (by rw [hml]; decide) rfl (fun Ls1 hl1 => ?_)
    have g7 : Ls1[7]? = some (.val (.double x)) := hl1.2.2 (7, .double x) List.mem_cons_self
    have hcat : ∀ u : Value, u.category = 1 → (az_v ad u).category = 1 := fun u hu => by cases u <;> first | rfl | exact hu
    have hfil : ∀ (i : Nat) (v : Value), ls[i]? = some (some v) → v.category = 1 → i < 7 → (i, az_v ad v) ∈ ((7, Value.double x) :: (az_lv ad ls).filter (fun q => !(q.1 == 7) && (!(q.1 == 7 + 1) && !(q.1 + 1 == 7 && q.2.category == 2)))) := fun i v hg hc hi => by
      refine List.mem_cons_of_mem _ (List.mem_filter.mpr ⟨az_lv_mem.mpr ⟨v, hg, hc, rfl⟩, ?_⟩)
      have e1 : (i == 7) = false := by simp; omega
      have e2 : (i == 7 + 1) = false := by simp; omega
      simp [e1, e2, hcat v hc]
    have hin : ∀ (i : Nat) (v : Value), az_gl ls i = some v → v.category = 1 → i < 7 → Ls1[i]? = some (.val (az_v ad v)) := fun i v hg hc hi => hl1.2.2 (i, az_v ad v) (hfil i v (az_gl_some hg) hc hi)
    have hm : lv_has Ls1 c.maxLocals (az_lv ad (az_kp lt_mk ls)) := by
      refine ⟨hl1.1, hl1.2.1, ?_⟩
      rintro ⟨j, w⟩ hj
      obtain ⟨u, hu, hcu, rfl⟩ := az_lv_mem.mp hj
      have hj7 : j < 7 := by
        rcases Nat.lt_or_ge j 7 with q | q
        · exact q
        · exfalso
          have : ∀ (bs : List Bool) (l : List (Option Value)) (n : Nat) (v : Value), (az_kp bs l)[n]? = some (some v) → bs[n]? = some true := by
            intro bs
            induction bs with
            | nil => intro l n v hv; cases l <;> cases hv
            | cons b bs ih =>
              intro l n v hv
              cases l with
              | nil => cases b <;> cases hv
              | cons a t =>
                cases n with
                | zero => cases b with
                  | true => rfl
                  | false => cases hv
                | succ n => cases b <;> (rw [List.getElem?_cons_succ]; exact ih t n v hv)
          have h9 := this _ _ _ _ hu
          have : j = 7 ∨ j = 8 ∨ 9 ≤ j := by omega
          rcases this with rfl | rfl | h
          · cases h9
          · cases h9
          · rw [List.getElem?_eq_none (by exact h)] at h9
            cases h9
      exact hl1.2.2 _ (hfil j u (az_kp_mem hu) hcu hj7)
    refine lv_aload_n hx hb dL_law_1801 rfl (hin 2 _ h2 rfl (by decide)) ?_
    have he := az_get (tc := tc) (ad := ad) hb1
    rw [az_obj hk1 (by decide)] at he
    have Mt := okX12_thrown l D tc ad H.size [.ref 354] M _ hF
    have hrun := va_runV (e := e) (below := below) (meth := meth) (As := []) (rest := []) (b := ad 354) (C := RX12) (g := F0 m 1802 Ls1 [.ref (ad 354)]) (locs := locs) (cells := k.1) (slots := k.2) (mc := 0) (ms := 0) ⟨hx, hb, hml, hown, hts⟩ Mt ⟨callB_of 0 hts (az_good hsub (az_sub_ts knX12_thrown.1)) rfl rfl rfl (hts _ (hsub _ knX12_thrown.2.1)) (hts _ (hsub _ mLRL_121)) ⟨knX12_thrown.2.2.1, knX12_thrown.2.2.2.1, knX12_thrown.2.2.2.2⟩ ⟨by rw [hR]; decide +kernel, by rw [hR]; decide +kernel⟩, hts _ (hsub _ imX12_thrown), hts _ (hsub _ seX12_thrown)⟩ ⟨(fun a U g mk q => by obtain ⟨q0, q1, qP, qK, qD, qN⟩ := q; exact ⟨q0, q1, qP, va_K.moved (u := U) (U := U.calling g mk a) (Vm.Alike.refl U.vm) qK, qD, az_nest_c (u := U) (U := U.calling g mk a) rfl qN⟩), va_recv hK hP (show vwCl[13]? = some (RX12, TX12, 33) from rfl) he, fun U hU hW => ⟨rfl, by rw [hU], by rw [hU]; exact hP, va_K.moved hW.alike hK, hD.weaken (fun _ _ _ _ => trivial), az_nest_w hW hN⟩⟩ rfl rfl (hl1.1.trans hml) rfl (lv_room (m := m) (pc := 1802) (ls := Ls1) (rest := [.ref (ad 354)]) (by decide)) dL_law_1802 ⟨hz.1, hz.2⟩
    refine az_back hrun hD hS hA (fun r M1 H1 locs1 hq hnr hP1 hD1 hS1 => ?_)
    obtain ⟨rfl, hkz, hZZ⟩ := hq
    refine lv_iload hx hb dL_law_1805 (hin 6 _ h6 rfl (by decide)) ?_
    refine lv_icmp_eq (tgt := 1812) hx hb dL_law_1807 (by decide) (fun _ => ?_) (fun z => absurd rfl z)
    refine lv_iload hx hb dL_law_1812 (hin 6 _ h6 rfl (by decide)) ?_
    have hend : W p l e R s m args below meth c H1 locs1 k.1 k.2 Qf (F0 m 1849 Ls1 []) := lv_goto (tgt := 2044) hx hb dL_law_1849 (by decide) (hZ _ [] k M1 hZZ ad H1 Ls1 locs1 hra hm hP1 hD1 hS1 hz)
    refine lv_if_ne (tgt := 1849) hx hb dL_law_1814 (by decide) (fun _ => hend) (fun z => ?_)
    obtain ⟨a1, a2, a3, a4, a5⟩ := hkz z
    refine lv_aload hx hb dL_law_1817 (hin 4 _ h4 rfl (by decide)) ?_
    refine lv_iconst (v := 0) hx hb dL_law_1819 (by decide) ?_
    have he2 := az_get (tc := tc) (ad := ad) a1
    rw [az_row a2 (by decide), az_arrD] at he2
    refine va_dald hx hb hK hP1 379 4 he2 rfl a3 dL_law_1820 ?_
    refine lv_dload hx hb dL_law_1821 g7 ?_
    refine lv_dcmp hx hb dL_law_1823 ?_
    rw [show M1.2.2.2 379 (0 : Int32).toNatClampNeg = x from a4, a5]
    exact lv_if_eq (tgt := 1849) hx hb dL_law_1824 (by decide) (fun _ => hend) (fun z => absurd rfl z)
  · exact h.elim
