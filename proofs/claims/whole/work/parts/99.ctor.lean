/-! constructors: their rows and their contract -/
def az_I (X : az_X) : Prop := match X with
  | (_, _, _, _, _, _, _, _, meth, _, _, _, _, _, _) => meth.name = "<init>"
/-- a constructor's contract: what was there before keeps its number and its place -/
def az_metI (l : Launch) (y : MethodName) (cc : ByteArray) (nL : Nat) (rm : Room) (F : az_F) : Prop := ∀ (D : va_G) (tc : Nat → ClassId) (ad : Nat → Nat) (sz : Nat) (as : List Value) (M : az_M) (Q : Option Value → az_M → Prop), F as M Q →
  Met l y (az_ts y cc nL none) rm (va_Pc (as.map (az_v ad)) (fun U => U.heap.size = sz ∧ va_P D vwCl (az_ws tc ad M) U.heap ∧ va_K D vwCl (az_tys tc) U ∧ va_D (fun _ => True) (az_ws tc ad M) ∧ ∀ w ∈ az_nest, va_Nw w U)) (az_Q D tc (fun ad' => ∀ k, k < M.1.1 → ad' k = ad k) (va_A (az_ws tc ad M) sz) Q) rm.cells rm.slots (va_A (az_ws tc ad M) sz)
def az_funI (ps : List Bool) (nL : Nat) (Pm : Nat → (Option Value → az_M → Prop) → az_T) : az_F := fun as M Q => az_pat ps as = true ∧ Pm M.1.1 Q (az_in nL as) [] (0, 0) M
theorem az_metI_of {y : MethodName} {cc : ByteArray} {nL : Nat} {own : String} {rm : Room} {ps : List Bool} {Pm : Nat → (Option Value → az_M → Prop) → az_T} (hy : plainName y.cls = true) (hown : y.cls = own) (hyn : y.name = "<init>") (hps : ps.length ≤ nL)
    (body : ∀ (X : az_X) (Qs : Option Value → az_M → Prop) (n0 : Nat), az_C X cc nL own (az_ts y cc nL none) rm none Qs → az_G X n0 → az_I X → az_ok X 0 (Pm n0 Qs)) (l : Launch) : az_metI l y cc nL rm (az_funI ps nL Pm) := by
  intro D tc ad sz as M Q hF
  obtain ⟨hpat, hQ⟩ := hF
  have hcat := az_pat_cat hpat
  have hlen := az_pat_len hpat
  refine Met.ofW (cc := cc) (maxL := nL) (ret := none) hy rfl ?_
  intro p e s m args below meth c s₁ B hml hv
  obtain ⟨rfl, hsz, hP, hK, hD0, hN⟩ := hv
  subst hsz
  have hD := hD0.self (sz := s.heap.size)
  have hcat2 : ∀ u ∈ as.map (az_v ad), u.category = 1 := fun u hu => by
    obtain ⟨w, hw, rfl⟩ := List.mem_map.mp hu
    exact az_cat_v (hcat w hw)
  have hlg : (lg_sl (as.map (az_v ad))).length ≤ nL := by
    rw [az_lg_len _ hcat2, List.length_map, hlen]
    exact hps
  have hl := lv_entry (as.map (az_v ad)) (n := nL) hlg
  rw [lg_entry_eq]
  generalize (lg_sl (as.map (az_v ad)) ++ List.replicate (nL - (lg_sl (as.map (az_v ad))).length) Slot.unset).toArray = Ls at hl ⊢
  have hown2 : s.vm.findClass own = some m.cls := by
    rw [← hown]
    exact findClass_of_methodNamed B.named
  have hnm : meth.name = "<init>" := ((name_of_methodNamed B.named B.method).1).trans hyn
  have C : az_C (p, l, e, (headSpec (az_ts y cc nL none) rm).room, s, m, (as.map (az_v ad)).toArray, below, meth, c, D, tc, va_A (az_ws tc ad M) s.heap.size, MQ below (az_Q D tc (fun ad' => ∀ k, k < M.1.1 → ad' k = ad k) (va_A (az_ws tc ad M) s.heap.size) Q) (as.map (az_v ad)).toArray s rm.cells rm.slots (va_A (az_ws tc ad M) s.heap.size), (fun ad' => ∀ k, k < M.1.1 → ad' k = ad k)) cc nL own (az_ts y cc nL none) rm none Q :=
    ⟨B.exec, B.bytes, hml, hown2, atoms_spec (ws := az_ts y cc nL none) B.pre, hK, hN, fun q h => Or.inr h, B.notSynchronized, B.returns, rfl, fun w h => List.mem_cons_of_mem _ h, fun _ _ _ k => k⟩
  have hin := az_in_has (ad := ad) (nL := nL) hcat hl
  exact body _ Q M.1.1 C (fun ad1 ad2 h1 h2 k hk => (h2 k hk).trans (h1 k hk)) hnm (az_in nL as) [] (0, 0) M hQ ad s.heap Ls [] (fun _ _ => rfl) (by rw [hml]; exact hin) hP hD va_S.rf ⟨Nat.zero_le _, Nat.zero_le _⟩
/-- Object.<init> -/
def s_obj (P : az_T) : az_T := fun ls st k M => match st with
  | .ref a :: st => st.length ≤ 4 ∧ P ls st k M
  | _ => False
theorem az_obji {X : az_X} {cc : ByteArray} {nL : Nat} {own : String} {Ts : List Cond} {rm : Room} {ret : Option FieldType} {Qs : Option Value → az_M → Prop} {pc idx : Nat} {P : az_T} (C : az_C X cc nL own Ts rm ret Qs) (hlink : Cond.methodLink own idx Lib.objectInit ∈ az_gw) (hinst : Cond.instanceMethod Lib.objectInit ∈ az_gw) (hcode : Cond.code Lib.objectInit ⟨#[0xb1]⟩ 1 none ∈ az_gw) (hrm : 1 ≤ rm.frames ∧ 20 ≤ rm.locals) (d : decode cc pc = .ok (.invokespecial idx, 3)) (kk : az_ok X (pc + 3) P) : az_ok X pc (s_obj P) := by
  obtain ⟨p, l, e, R, s, m, args, below, meth, c, D, tc, A, Q, RA⟩ := X
  obtain ⟨hx, hb, hml, hown, hts, hK, hN, hA, hlk, hr, hR, hsub, hQ⟩ := C
  intro ls st k M h ad H Ls locs hra hl hP hD hS hz
  unfold s_obj at h
  split at h
  · rename_i a st1
    obtain ⟨h4, h⟩ := h
    subst hR
    have hroom := az_room (ad := ad) h4
    rw [List.map_cons]
    exact W.objInit hx hb hown (hts _ (hsub _ hlink)) (hts _ (hsub _ hinst)) (hts _ (hsub _ hcode)) rfl hl.1 rfl d hrm.1 (by show 2 * 0 + _ + 12 ≤ _; omega) (kk ls st1 k M h ad H Ls locs hra hl hP hD hS hz)
  · exact h.elim
/-- a final field of a constructor's own object that holds an object -/
def s_pr (ci j : Nat) (P : az_T) : az_T := fun ls st q M => match st with
  | .ref b :: .ref a :: st => a < M.1.1 ∧ (M.1.2.1 a).1 = ci ∧ P ls st q (az_setR M a j (some b))
  | _ => False
theorem az_putR {X : az_X} {cc : ByteArray} {nL : Nat} {own : String} {Ts : List Cond} {rm : Room} {ret : Option FieldType} {Qs : Option Value → az_M → Prop} {pc : Nat} {Cn ref : String} {T : u_T} {N ci j index : Nat} {ty : FieldType} {P : az_T} (C : az_C X cc nL own Ts rm ret Qs) (CI : az_I X) (hin : ∀ w ∈ u_ws Cn T N, w ∈ az_gw) (hc : vwCl[ci]? = some (Cn, T, N)) (hci : ci < 20) (hj : j < N) (ty0 : Nat → FieldType) (hty : ∀ k, k < N → parseFieldDescriptor (T k).2.2.1 = some (ty0 k)) (hnm : ∀ a, a < N → ∀ b, b < N → a ≠ b → (T a).2.1 ≠ (T b).2.1) (hi : az_isI ci j = false) (hd : parseFieldDescriptor (T j).2.2.1 = some ty) (hnar : ∀ v : Nat, narrow ty (.ref v) = .ref v ∧ fits ty (.ref v) = true) (hfin : (T j).2.2.2 = true) (hdecl : (T j).1 = own) (hlink : Cond.fieldLink own index ref (T j).2.1 (T j).2.2.1 ∈ az_gw) (href : ref = (T j).1) (d : decode cc pc = .ok (.putfield index, 3)) (kk : az_ok X (pc + 3) P) : az_ok X pc (s_pr ci j P) := by
  obtain ⟨p, l, e, R, s, m, args, below, meth, c, D, tc, A, Q, RA⟩ := X
  obtain ⟨hx, hb, hml, hown, hts, hK, hN, hA, hlk, hr, hR, hsub, hQ⟩ := C
  intro ls st k M h ad H Ls locs hra hl hP hD hS hz
  unfold s_pr at h
  split at h
  · rename_i b a st1
    obtain ⟨ha, hk, h⟩ := h
    have he := az_get (tc := tc) (ad := ad) ha
    rw [az_obj hk hci] at he
    rw [List.map_cons, List.map_cons]
    refine va_putF hx hb hts (fun w hw => hsub w (hin w hw)) ty0 hty hnm hown hK hP hD hS a he hc j hj (hts _ (hsub _ hlink)) (fun x hx => by rw [href]; exact hx) hfin CI hdecl (ty := ty) (v := .ref (ad b)) hd (hnar _).1 (hnar _).2 (by rw [az_flen, az_nf_of hc]; exact hj) d (fun H1 locs1 hP1 hD1 hS1 => ?_)
    rw [show (Value.ref (ad b)) = az_rf ad (some b) from rfl, az_fsetR hi, az_set (M' := az_setR M a j (some b)) (by rfl) (az_obj (M := az_setR M a j (some b)) hk hci) az_otherR] at hP1 hD1
    exact kk ls st1 k _ h ad H1 Ls locs1 hra hl hP1 hD1 hS1 hz
  · exact h.elim
