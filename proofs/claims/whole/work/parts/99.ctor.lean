/-! constructors: their rows and their contract -/
def az_I (X : az_X) : Prop := match X with
  | (_, _, _, _, _, _, _, _, meth, _, _, _, _, _, _) => meth.name = "<init>"
/-- a constructor's contract: what was there before keeps its number and its place -/
def az_metI (l : Launch) (y : MethodName) (cc : ByteArray) (nL : Nat) (rm : Room) (F : az_F) : Prop := ∀ (D : va_G) (tc : Nat → ClassId) (ad : Nat → Nat) (sz : Nat) (as : List Value) (M : az_M) (Q : Option Value → az_M → Prop), F as M Q →
  Met l y (az_ts y cc nL none) rm (va_Pc (as.map (az_v ad)) (fun U => U.heap.size = sz ∧ va_P D vwCl (az_ws tc ad M) U.heap ∧ va_K D vwCl (az_tys tc) U ∧ va_D (fun _ => True) (az_ws tc ad M) ∧ (∀ w ∈ az_nest, va_Nw w U) ∧ az_o U)) (az_Q D tc (fun ad' => ∀ k, az_old M.1.1 k → ad' k = ad k) (va_A (az_ws tc ad M) sz) Q) rm.cells rm.slots (va_A (az_ws tc ad M) sz)
def az_funI (ps : List Bool) (nL : Nat) (Pm : Nat → (Option Value → az_M → Prop) → az_T) : az_F := fun as M Q => az_pat ps as = true ∧ Pm M.1.1 Q (az_in nL as) [] (0, 0) M
theorem az_metI_of {y : MethodName} {cc : ByteArray} {nL : Nat} {own : String} {rm : Room} {ps : List Bool} {Pm : Nat → (Option Value → az_M → Prop) → az_T} (hy : plainName y.cls = true) (hown : y.cls = own) (hyn : y.name = "<init>") (hps : ps.length ≤ nL)
    (body : ∀ (X : az_X) (Qs : Option Value → az_M → Prop) (n0 : Nat), az_C X cc nL own (az_ts y cc nL none) rm none Qs → az_G X n0 → az_I X → az_O X → az_ok X 0 (Pm n0 Qs)) (l : Launch) : az_metI l y cc nL rm (az_funI ps nL Pm) := by
  intro D tc ad sz as M Q hF
  obtain ⟨hpat, hQ⟩ := hF
  have hcat := az_pat_cat hpat
  have hlen := az_pat_len hpat
  refine Met.ofW (cc := cc) (maxL := nL) (ret := none) hy rfl ?_
  intro p e s m args below meth c s₁ B hml hv
  obtain ⟨rfl, hsz, hP, hK, hD0, hN, hO⟩ := hv
  subst hsz
  have hD := hD0.self (sz := s.heap.size)
  have hcat2 : ∀ u ∈ as.map (az_v ad), u.category = 1 := fun u hu => by
    obtain ⟨w, hw, rfl⟩ := List.mem_map.mp hu
    exact az_cat_v (hcat w hw)
  have hlg : (lg_sl (as.map (az_v ad))).length ≤ nL := by
    rw [az_lg_len _ hcat2, List.length_map, hlen]
    exact hps
  have hl := lv_entry (as.map (az_v ad)) (n := nL) hlg
  rw [lg_entry_eq]
  generalize (lg_sl (as.map (az_v ad)) ++ List.replicate (nL - (lg_sl (as.map (az_v ad))).length) Slot.unset).toArray = Ls at hl ⊢
  have hown2 : s.vm.findClass own = some m.cls := by
    rw [← hown]
    exact findClass_of_methodNamed B.named
  have hnm : meth.name = "<init>" := ((name_of_methodNamed B.named B.method).1).trans hyn
  have C : az_C (p, l, e, (headSpec (az_ts y cc nL none) rm).room, s, m, (as.map (az_v ad)).toArray, below, meth, c, D, tc, va_A (az_ws tc ad M) s.heap.size, MQ below (az_Q D tc (fun ad' => ∀ k, az_old M.1.1 k → ad' k = ad k) (va_A (az_ws tc ad M) s.heap.size) Q) (as.map (az_v ad)).toArray s rm.cells rm.slots (va_A (az_ws tc ad M) s.heap.size), (fun ad' => ∀ k, az_old M.1.1 k → ad' k = ad k)) cc nL own (az_ts y cc nL none) rm none Q :=
    ⟨B.exec, B.bytes, hml, hown2, atoms_spec (ws := az_ts y cc nL none) B.pre, hK, hN, fun q h => Or.inr h, B.notSynchronized, B.returns, rfl, fun w h => List.mem_cons_of_mem _ h, fun _ _ _ k => k⟩
  have hin := az_in_has (ad := ad) (nL := nL) hcat hl
  exact body _ Q M.1.1 C (fun ad1 ad2 h1 h2 k hk => (h2 k hk).trans (h1 k hk)) hnm hO (az_in nL as) [] (0, 0) M hQ ad s.heap Ls [] (fun _ _ => rfl) (by rw [hml]; exact hin) hP hD va_S.rf ⟨Nat.zero_le _, Nat.zero_le _⟩
/-- Object.<init> -/
def s_obj (P : az_T) : az_T := fun ls st k M => match st with
  | .ref a :: st => st.length ≤ 4 ∧ P ls st k M
  | _ => False
theorem az_obji {X : az_X} {cc : ByteArray} {nL : Nat} {own : String} {Ts : List Cond} {rm : Room} {ret : Option FieldType} {Qs : Option Value → az_M → Prop} {pc idx : Nat} {P : az_T} (C : az_C X cc nL own Ts rm ret Qs) (hlink : Cond.methodLink own idx Lib.objectInit ∈ az_gw) (hinst : Cond.instanceMethod Lib.objectInit ∈ az_gw) (hcode : Cond.code Lib.objectInit ⟨#[0xb1]⟩ 1 none ∈ az_gw) (hrm : 1 ≤ rm.frames ∧ 20 ≤ rm.locals) (d : decode cc pc = .ok (.invokespecial idx, 3)) (kk : az_ok X (pc + 3) P) : az_ok X pc (s_obj P) := by
  obtain ⟨p, l, e, R, s, m, args, below, meth, c, D, tc, A, Q, RA⟩ := X
  obtain ⟨hx, hb, hml, hown, hts, hK, hN, hA, hlk, hr, hR, hsub, hQ⟩ := C
  intro ls st k M h ad H Ls locs hra hl hP hD hS hz
  unfold s_obj at h
  split at h
  · rename_i a st1
    obtain ⟨h4, h⟩ := h
    subst hR
    have hroom := az_room (ad := ad) h4
    rw [List.map_cons]
    exact W.objInit hx hb hown (hts _ (hsub _ hlink)) (hts _ (hsub _ hinst)) (hts _ (hsub _ hcode)) rfl hl.1 rfl d hrm.1 (by show 2 * 0 + _ + 12 ≤ _; omega) (kk ls st1 k M h ad H Ls locs hra hl hP hD hS hz)
  · exact h.elim
/-- a final field of a constructor's own object that holds an object -/
def s_pr (ci j : Nat) (P : az_T) : az_T := fun ls st q M => match st with
  | .ref b :: .ref a :: st => a < M.1.1 ∧ (M.1.2.1 a).1 = ci ∧ P ls st q (az_setR M a j (some b))
  | _ => False
theorem az_putR {X : az_X} {cc : ByteArray} {nL : Nat} {own : String} {Ts : List Cond} {rm : Room} {ret : Option FieldType} {Qs : Option Value → az_M → Prop} {pc : Nat} {Cn ref : String} {T : u_T} {N ci j index : Nat} {ty : FieldType} {P : az_T} (C : az_C X cc nL own Ts rm ret Qs) (CI : az_I X) (hin : ∀ w ∈ u_ws Cn T N, w ∈ az_gw) (hc : vwCl[ci]? = some (Cn, T, N)) (hci : ci < 20) (hj : j < N) (ty0 : Nat → FieldType) (hty : ∀ k, k < N → parseFieldDescriptor (T k).2.2.1 = some (ty0 k)) (hnm : ∀ a, a < N → ∀ b, b < N → a ≠ b → (T a).2.1 ≠ (T b).2.1) (hi : az_isI ci j = false) (hd : parseFieldDescriptor (T j).2.2.1 = some ty) (hnar : ∀ v : Nat, narrow ty (.ref v) = .ref v ∧ fits ty (.ref v) = true) (hfin : (T j).2.2.2 = true) (hdecl : (T j).1 = own) (hlink : Cond.fieldLink own index ref (T j).2.1 (T j).2.2.1 ∈ az_gw) (href : ref = (T j).1) (d : decode cc pc = .ok (.putfield index, 3)) (kk : az_ok X (pc + 3) P) : az_ok X pc (s_pr ci j P) := by
  obtain ⟨p, l, e, R, s, m, args, below, meth, c, D, tc, A, Q, RA⟩ := X
  obtain ⟨hx, hb, hml, hown, hts, hK, hN, hA, hlk, hr, hR, hsub, hQ⟩ := C
  intro ls st k M h ad H Ls locs hra hl hP hD hS hz
  unfold s_pr at h
  split at h
  · rename_i b a st1
    obtain ⟨ha, hk, h⟩ := h
    have he := az_get (tc := tc) (ad := ad) ha
    rw [az_obj hk hci] at he
    rw [List.map_cons, List.map_cons]
    refine va_putF hx hb hts (fun w hw => hsub w (hin w hw)) ty0 hty hnm hown hK hP hD hS a he hc j hj (hts _ (hsub _ hlink)) (fun x hx => by rw [href]; exact hx) hfin CI hdecl (ty := ty) (v := .ref (ad b)) hd (hnar _).1 (hnar _).2 (by rw [az_flen, az_nf_of hc]; exact hj) d (fun H1 locs1 hP1 hD1 hS1 => ?_)
    rw [show (Value.ref (ad b)) = az_rf ad (some b) from rfl, az_fsetR hi, az_set (M' := az_setR M a j (some b)) (by rfl) (az_obj (M := az_setR M a j (some b)) hk hci) az_otherR] at hP1 hD1
    exact kk ls st1 k _ h ad H1 Ls locs1 hra hl hP1 hD1 hS1 hz
  · exact h.elim
theorem az_backI {p : Program} {l : Launch} {e : Env} {R : Room} {s : State} {m : MethodId} {args a : Array Value} {below : List Frame} {meth : Method} {c : Code} {H : Heap} {locs : List Loc} {cells slots mc ms pc : Nat} {D : va_G} {tc ad : Nat → Nat} {A : Nat → Prop} {Qf : State → Prop} {M : az_M} {Ls : Array Slot} {st0 rest : List Value} {Qs : Option Value → az_M → Prop}
    (hr : va_Run p l e R s m args below meth c H locs cells slots mc ms (F0 m pc Ls st0) rest (az_Q D tc (fun ad' => ∀ k, az_old M.1.1 k → ad' k = ad k) (va_A (az_ws tc ad M) H.size) Qs a) (va_A (az_ws tc ad M) H.size)) (hD : va_D A (az_ws tc ad M)) (hS : va_S A s.heap H locs) (hA : ∀ q, s.heap.size ≤ q → A q)
    (kk : ∀ (r : Option Value) (M1 : az_M) (ad1 : Nat → Nat) (H1 : Heap) (locs1 : List Loc), Qs r M1 → (∀ b : Nat, r ≠ some (.ref b)) → (∀ k, az_old M.1.1 k → ad1 k = ad k) → va_P D vwCl (az_ws tc ad1 M1) H1 → va_D A (az_ws tc ad1 M1) → va_S A s.heap H1 locs1 → W p l e R s m args below meth c H1 locs1 (cells + mc) (slots + ms) Qf (F0 m (pc + 3) Ls (r.toList ++ rest))) : W p l e R s m args below meth c H locs cells slots Qf (F0 m pc Ls st0) := by
  have hin : ∀ q, va_A (az_ws tc ad M) H.size q → A q := by
    rintro q (⟨k, x, hx⟩ | hx)
    · exact hD.2 k _ hx
    · exact hA q (Nat.le_trans hS.1 hx)
  intro T hT Xs
  obtain ⟨v, st₀, t, T', L, h0, X', hL, e1, e2, ⟨⟨r, M1, hv, hq, hnr, ad1, had, hP1, hD1⟩, hz, hk⟩, st⟩ := hr T hT Xs
  cases hv
  rw [h0] at hz hk
  have hS1 : va_S A s.heap T'.heap (locs ++ L) := ⟨Nat.le_trans hS.1 (by rw [e1]; exact hz), fun q h1 h2 => by rw [e1, hk q (Nat.lt_of_lt_of_le h1 hS.1) (fun z => h2 (hin q z))]; exact hS.2.1 q h1 h2, fun q hq => by
    rcases List.mem_append.mp hq with h | h
    · exact hS.2.2 q h
    · exact hin _ (hL q h)⟩
  obtain ⟨t2, a1, b1⟩ := kk v M1 ad1 T'.heap (locs ++ L) hq hnr had (by rw [e1]; exact hP1) (hD1.weaken (fun _ _ _ h => hin _ h)) hS1 T' rfl X'
  exact ⟨t2, st t2 a1, b1⟩
def s_ci (n0 cm sm c1 s1 n ci : Nat) (F : az_F) (P : az_T) : az_T := fun ls st q M => match az_pop (n + 1) [] st with
  | some (.ref b :: as, rest) => b < M.1.1 ∧ (M.1.2.1 b).1 = ci ∧ rest.length ≤ 4 ∧ n0 ≤ M.1.1 ∧ az_rl M.1.1 ls rest ∧ q.1 + c1 ≤ cm ∧ q.2 + s1 ≤ sm ∧ F (.ref b :: as) M (fun r M1 => P ls (r.toList ++ rest) (q.1 + c1, q.2 + s1) M1)
  | _ => False
theorem s_ci_o {n0 cm sm c1 s1 n ci : Nat} {F : az_F} {P : az_T} {ls st q M} (h : s_ci n0 cm sm c1 s1 n ci F P ls st q M) : ∃ (b : Nat) (as rest : List Value), as.length = n ∧ st = as.reverse ++ .ref b :: rest ∧ b < M.1.1 ∧ (M.1.2.1 b).1 = ci ∧ rest.length ≤ 4 ∧ n0 ≤ M.1.1 ∧ az_rl M.1.1 ls rest ∧ q.1 + c1 ≤ cm ∧ q.2 + s1 ≤ sm ∧ F (.ref b :: as) M (fun r M1 => P ls (r.toList ++ rest) (q.1 + c1, q.2 + s1) M1) := by
  unfold s_ci at h
  split at h
  · rename_i b as rest heq
    obtain ⟨ps, h1, h2, h3⟩ := az_pop_eq heq
    rw [List.append_nil] at h3
    have h4 : ps = as.reverse ++ [.ref b] := by
      have := congrArg List.reverse h3
      rw [List.reverse_reverse] at this
      rw [← this]
      simp
    refine ⟨b, as, rest, ?_, ?_, h⟩
    · rw [h4] at h1
      simp at h1
      exact h1
    · rw [h2, h4]
      simp
  · exact h.elim
theorem az_callI {X : az_X} {cc : ByteArray} {nL : Nat} {own : String} {Ts : List Cond} {rm : Room} {ret : Option FieldType} {Qs : Option Value → az_M → Prop} {pc n0 cm sm : Nat} {index ci n : Nat} {y : MethodName} {bytes : ByteArray} {maxL : Nat} {rm1 : Room} {F : az_F} {P : az_T} (C : az_C X cc nL own Ts rm ret Qs) (G : az_G X n0) (hcm : cm ≤ rm.cells) (hsm : sm ≤ rm.slots) (O : az_O X) (hM : ∀ l, az_metI l y bytes maxL rm1 F) (kn : az_kn y bytes maxL none n) (hyn : y.name = "<init>") (hin : Cond.instanceMethod y ∈ az_gw) (hlnk : Cond.methodLink own index y ∈ az_gw) (hrm : rm1.frames + 1 ≤ rm.frames ∧ 8 + (maxL + 11) + rm1.locals ≤ rm.locals) (d : decode cc pc = .ok (.invokespecial index, 3)) (kk : az_ok X (pc + 3) P) : az_ok X pc (s_ci n0 cm sm rm1.cells rm1.slots n ci F P) := by
  obtain ⟨p, l, e, R, s, m, args, below, meth, c, D, tc, A, Q, RA⟩ := X
  obtain ⟨hx, hb, hml, hown, hts, hK, hN, hA, hlk, hr, hR, hsub, hQ⟩ := C
  intro ls st k M h ad H Ls locs hra hl hP hD hS hz
  obtain ⟨b, as, rest, hn, rfl, hb1, hk1, h4, hn0, hrl, hc1, hc2, hF⟩ := s_ci_o h
  subst hR
  have Mt := hM l D tc ad H.size (.ref b :: as) M _ hF
  have hrun := va_runI (e := e) (below := below) (meth := meth) (As := as.map (az_v ad)) (rest := rest.map (az_v ad)) (b := ad b) (g := F0 m pc Ls ((as.reverse ++ .ref b :: rest).map (az_v ad))) (locs := locs) (cells := k.1) (slots := k.2) ⟨hx, hb, hml, hown, hts⟩ Mt (cwI n hts (az_good hsub (az_sub_ts kn.1)) rfl rfl rfl (hts _ (hsub _ kn.2.1)) (hts _ (hsub _ hlnk)) (hts _ (hsub _ hin)) hyn ⟨kn.2.2.1, kn.2.2.2.1, kn.2.2.2.2⟩ hrm) ⟨(fun a U g mk q => by obtain ⟨q0, q1, qP, qK, qD, qN, qO⟩ := q; exact ⟨q0, q1, qP, va_K.moved (u := U) (U := U.calling g mk a) (Vm.Alike.refl U.vm) qK, qD, az_nest_c (u := U) (U := U.calling g mk a) rfl qN, az_o.moved (u := U) (U := U.calling g mk a) (Vm.Alike.refl U.vm) qO⟩), fun U hU hW => ⟨rfl, by rw [hU], by rw [hU]; exact hP, va_K.moved hW.alike hK, hD.weaken (fun _ _ _ _ => trivial), az_nest_w hW hN, az_o.moved hW.alike O⟩⟩ rfl (by rw [List.length_map]; exact hn) (hl.1.trans hml) (by simp [az_v]) (lv_room (m := m) (pc := pc) (ls := Ls) (rest := (as.reverse ++ .ref b :: rest).map (az_v ad)) (az_room h4)) d ⟨by omega, by omega⟩
  exact az_backI hrun hD hS hA (fun r M1 ad1 H1 locs1 hq hnr had hP1 hD1 hS1 => by
    have := kk ls _ (k.1 + rm1.cells, k.2 + rm1.slots) M1 hq ad1 H1 Ls locs1 (G ad ad1 hra (fun i hi => had i (hi.imp_left (fun z => Nat.lt_of_lt_of_le z hn0)))) (by rw [az_lv_ad had hrl.1]; exact hl) hP1 hD1 hS1 ⟨by show k.1 + rm1.cells ≤ _; omega, by show k.2 + rm1.slots ≤ _; omega⟩
    rw [az_app_v hnr, az_st_ad had hrl.2] at this
    exact this)
theorem az_callIN {X : az_X} {cc : ByteArray} {nL : Nat} {own : String} {Ts : List Cond} {rm : Room} {ret : Option FieldType} {Qs : Option Value → az_M → Prop} {pc n0 cm sm : Nat} {index ci n : Nat} {y : MethodName} {bytes : ByteArray} {maxL : Nat} {rm1 : Room} {F : az_F} {P : az_T} {host : String} (C : az_C X cc nL own Ts rm ret Qs) (G : az_G X n0) (hcm : cm ≤ rm.cells) (hsm : sm ≤ rm.slots) (O : az_O X) (hM : ∀ l, az_metI l y bytes maxL rm1 F) (kn : az_kn y bytes maxL none n) (hyn : y.name = "<init>") (hin : Cond.instanceMethod y ∈ az_gw) (hlnk : Cond.methodLinkNest own index y host ∈ az_nest) (hrm : rm1.frames + 1 ≤ rm.frames ∧ 8 + (maxL + 11) + rm1.locals ≤ rm.locals) (d : decode cc pc = .ok (.invokespecial index, 3)) (kk : az_ok X (pc + 3) P) : az_ok X pc (s_ci n0 cm sm rm1.cells rm1.slots n ci F P) := by
  obtain ⟨p, l, e, R, s, m, args, below, meth, c, D, tc, A, Q, RA⟩ := X
  obtain ⟨hx, hb, hml, hown, hts, hK, hN, hA, hlk, hr, hR, hsub, hQ⟩ := C
  intro ls st k M h ad H Ls locs hra hl hP hD hS hz
  obtain ⟨b, as, rest, hn, rfl, hb1, hk1, h4, hn0, hrl, hc1, hc2, hF⟩ := s_ci_o h
  subst hR
  have Mt := hM l D tc ad H.size (.ref b :: as) M _ hF
  have hrun := va_runIN (e := e) (below := below) (meth := meth) (As := as.map (az_v ad)) (rest := rest.map (az_v ad)) (b := ad b) (g := F0 m pc Ls ((as.reverse ++ .ref b :: rest).map (az_v ad))) (locs := locs) (cells := k.1) (slots := k.2) ⟨hx, hb, hml, hown, hts⟩ Mt ⟨va_cnB n hts (az_good hsub (az_sub_ts kn.1)) rfl rfl rfl (hN _ hlnk) (hts _ (hsub _ kn.2.1)) ⟨kn.2.2.1, kn.2.2.2.1, kn.2.2.2.2⟩ hrm, hyn, hts _ (hsub _ hin)⟩ ⟨(fun a U g mk q => by obtain ⟨q0, q1, qP, qK, qD, qN, qO⟩ := q; exact ⟨q0, q1, qP, va_K.moved (u := U) (U := U.calling g mk a) (Vm.Alike.refl U.vm) qK, qD, az_nest_c (u := U) (U := U.calling g mk a) rfl qN, az_o.moved (u := U) (U := U.calling g mk a) (Vm.Alike.refl U.vm) qO⟩), fun U hU hW => ⟨rfl, by rw [hU], by rw [hU]; exact hP, va_K.moved hW.alike hK, hD.weaken (fun _ _ _ _ => trivial), az_nest_w hW hN, az_o.moved hW.alike O⟩⟩ rfl (by rw [List.length_map]; exact hn) (hl.1.trans hml) (by simp [az_v]) (lv_room (m := m) (pc := pc) (ls := Ls) (rest := (as.reverse ++ .ref b :: rest).map (az_v ad)) (az_room h4)) d ⟨by omega, by omega⟩
  exact az_backI hrun hD hS hA (fun r M1 ad1 H1 locs1 hq hnr had hP1 hD1 hS1 => by
    have := kk ls _ (k.1 + rm1.cells, k.2 + rm1.slots) M1 hq ad1 H1 Ls locs1 (G ad ad1 hra (fun i hi => had i (hi.imp_left (fun z => Nat.lt_of_lt_of_le z hn0)))) (by rw [az_lv_ad had hrl.1]; exact hl) hP1 hD1 hS1 ⟨by show k.1 + rm1.cells ≤ _; omega, by show k.2 + rm1.slots ≤ _; omega⟩
    rw [az_app_v hnr, az_st_ad had hrl.2] at this
    exact this)
/-- a row of objects of class ce -/
def s_anq (n0 cm sm : Nat) (P : az_T) : az_T := fun ls st k M => match st with
  | .int n :: st => (n0 ≤ M.1.1 ∧ M.1.1 < 1000) ∧ az_cl M ∧ az_rl M.1.1 ls st ∧ M.1.2.1 M.1.1 = (26, n.toNatClampNeg) ∧ ¬ n < 0 ∧ n.toNatClampNeg ≤ 10000 ∧ (∀ j, M.1.2.2 M.1.1 j = none) ∧ k.1 + 1 ≤ cm ∧ k.2 + n.toNatClampNeg ≤ sm ∧ P ls (.ref M.1.1 :: st) (k.1 + 1, k.2 + n.toNatClampNeg) (az_grow M 1)
  | _ => False
theorem az_anq {X : az_X} {cc : ByteArray} {nL : Nat} {own : String} {Ts : List Cond} {rm : Room} {ret : Option FieldType} {Qs : Option Value → az_M → Prop} {pc n0 cm sm index : Nat} {P : az_T} (C : az_C X cc nL own Ts rm ret Qs) (G : az_G X n0) (hcm : cm ≤ rm.cells) (hsm : sm ≤ rm.slots) (hcl : Cond.classLink own index "UnitCommitment$State" ∈ az_gw) (O : az_O X) (d : decode cc pc = .ok (.anewarray index, 3)) (kk : az_ok X (pc + 3) P) : az_ok X pc (s_anq n0 cm sm P) := by
  obtain ⟨p, l, e, R, s, m, args, below, meth, c, D, tc, A, Q, RA⟩ := X
  obtain ⟨hx, hb, hml, hown, hts, hK, hN, hA, hlk, hr, hR, hsub, hQ⟩ := C
  intro ls st k M h ad H Ls locs hra hl hP hD hS hz
  unfold s_anq at h
  split at h
  · rename_i n st1
    obtain ⟨⟨h0, h1000⟩, hcl2, hrl, hk, hn0, hnb, hRf, hc1, hc2, h⟩ := h
    subst hR
    rw [List.map_cons]
    refine va_newq hx hb hown (hts _ (hsub _ hcl)) O.2 hK hP hD hS hA hn0 rfl (by omega) (by omega) (by omega) d (fun q cA H1 hK1 hP1 hD1 hS1 => ?_)
    have hcA : cA = tc 26 := by
      obtain ⟨kA, comp, -, -, -, e1⟩ := (hK1.2 7 (cA, .object "UnitCommitment$State") rfl).2
      obtain ⟨kA2, comp2, -, -, -, e2⟩ := (hK.2 6 (tc 26, .object "UnitCommitment$State") rfl).2
      rw [e1] at e2
      exact Option.some.inj e2
    subst hcA
    have hup := az_up_lt (ad := ad) (m := M.1.1) (q := q) h1000
    have hw : az_ws tc (va_up ad M.1.1 q) (az_grow M 1) = az_ws tc ad M ++ [(q, .inl (tc 26, n.toNatClampNeg, .inr (.inr (.inr (.inr (fun _ => none))))))] := by
      rw [az_ws_g, az_ws_ad hcl2 hup, az_cell_ad hup (fun j b hb => by rw [hRf j] at hb; cases hb), show va_up ad M.1.1 q M.1.1 = q from if_pos rfl]
      unfold az_cell
      rw [hk]
      dsimp only
      rw [if_neg (show ¬ (26 : Nat) < 20 by decide), az_arrR (show 24 < (26 : Nat) by decide), show (fun j => (M.1.2.2 M.1.1 j).map ad) = fun _ => none from funext (fun j => by rw [hRf j]; rfl)]
    have kk1 := kk ls (.ref M.1.1 :: st1) (k.1 + 1, k.2 + n.toNatClampNeg) (az_grow M 1) h (va_up ad M.1.1 q) H1 Ls locs (G ad _ hra (fun i hi => hup i (hi.imp_left (fun z => Nat.lt_of_lt_of_le z h0)))) (by rw [az_lv_ad hup hrl.1]; exact hl) (by rw [hw]; exact hP1) (by rw [hw]; exact hD1) hS1 ⟨by show k.1 + 1 ≤ _; omega, by show k.2 + _ ≤ _; omega⟩
    rw [List.map_cons, az_st_ad hup hrl.2, show az_v (va_up ad M.1.1 q) (.ref M.1.1) = .ref q from congrArg Value.ref (if_pos rfl)] at kk1
    exact kk1
  · exact h.elim
/-- an object into a row of objects -/
def s_ast (P : az_T) : az_T := fun ls st q M => match st with
  | .ref v :: .int i :: .ref a :: st => a < M.1.1 ∧ v < M.1.1 ∧ (M.1.2.1 a).1 = 26 ∧ (M.1.2.1 v).1 = 9 ∧ vp_in i (M.1.2.1 a).2 ∧ P ls st q (az_setR M a i.toNatClampNeg (some v))
  | _ => False
theorem az_astst {X : az_X} {cc : ByteArray} {nL : Nat} {own : String} {Ts : List Cond} {rm : Room} {ret : Option FieldType} {Qs : Option Value → az_M → Prop} {pc N : Nat} {T : u_T} {P : az_T} (C : az_C X cc nL own Ts rm ret Qs) (hc : vwCl[9]? = some ("UnitCommitment$State", T, N)) (d : decode cc pc = .ok (.aastore, 1)) (kk : az_ok X (pc + 1) P) : az_ok X pc (s_ast P) := by
  obtain ⟨p, l, e, R, s, m, args, below, meth, c, D, tc, A, Q, RA⟩ := X
  obtain ⟨hx, hb, hml, hown, hts, hK, hN, hA, hlk, hr, hR, hsub, hQ⟩ := C
  intro ls st k M h ad H Ls locs hra hl hP hD hS hz
  unfold s_ast at h
  split at h
  · rename_i v i a st1
    obtain ⟨ha, hv, hk, hkv, hin, h⟩ := h
    have he := az_get (tc := tc) (ad := ad) ha
    rw [az_row hk (by decide), az_arrR (by decide)] at he
    have hev := az_get (tc := tc) (ad := ad) hv
    rw [az_obj hkv (by decide)] at hev
    rw [List.map_cons, List.map_cons, List.map_cons]
    refine va_astq hx hb hK hP hD hS a 6 v 9 he rfl hev hc hin d (fun H1 locs1 hP1 hD1 hS1 => ?_)
    have hcell : az_cell tc ad (az_setR M a i.toNatClampNeg (some v)) a = .inl (tc 26, (M.1.2.1 a).2, .inr (.inr (.inr (.inr (va_up (fun j => (M.1.2.2 a j).map ad) i.toNatClampNeg (some (ad v))))))) := by
      rw [az_row (M := az_setR M a i.toNatClampNeg (some v)) hk (by decide), az_arrR (by decide)]
      have : (fun j => ((az_setR M a i.toNatClampNeg (some v)).1.2.2 a j).map ad) = va_up (fun j => (M.1.2.2 a j).map ad) i.toNatClampNeg (some (ad v)) := funext (fun j => by
        show (if a = a ∧ j = i.toNatClampNeg then some v else M.1.2.2 a j).map ad = if j = i.toNatClampNeg then some (ad v) else (M.1.2.2 a j).map ad
        by_cases hj : j = i.toNatClampNeg
        · rw [if_pos ⟨rfl, hj⟩, if_pos hj]; rfl
        · rw [if_neg (fun z => hj z.2), if_neg hj])
      rw [this]
    rw [az_set (M' := az_setR M a i.toNatClampNeg (some v)) (by rfl) hcell az_otherR] at hP1 hD1
    exact kk ls st1 k _ h ad H1 Ls locs1 hra hl hP1 hD1 hS1 hz
  · exact h.elim

theorem az_zI {kd : Nat} {ty : FieldType} (hkd : kd < 23) (hd : defaultValue ty = .int 0) (ad : Nat → Nat) (M : az_M) (a n : Nat) (h : ∀ j, M.2.1 a j = 0) (_ : ∀ j, M.2.2.1 a j = 0) (_ : ∀ j, M.2.2.2 a j = 0) (cA : ClassId) : vp_cell cA (az_arr ad M a kd n) = arrV cA n (fun _ => defaultValue ty) := by
  rw [az_arrI hkd, hd]
  show arrV cA n (fun j => .int (M.2.1 a j)) = _
  rw [show (fun j => Value.int (M.2.1 a j)) = fun _ => .int 0 from funext (fun j => by rw [h j])]
