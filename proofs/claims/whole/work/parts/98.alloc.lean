/-! what makes objects: the numbers of objects grow, the contents of what is not made yet are zero -/
/-- a number that keeps its place while objects from m on are made; numbers from 1000 on name what the caller has beside the world -/
def az_old (m k : Nat) : Prop := k < m ∨ 1000 ≤ k
def az_lt (m : Nat) : Value → Prop
  | .ref a => a < m ∨ 1000 ≤ a
  | _ => True
def az_rl (m : Nat) (ls : List (Option Value)) (st : List Value) : Prop := (∀ v, some v ∈ ls → az_lt m v) ∧ ∀ v ∈ st, az_lt m v
def az_cl (M : az_M) : Prop := ∀ a j b, a < M.1.1 → M.1.2.2 a j = some b → b < M.1.1
abbrev az_grow (M : az_M) (n : Nat) : az_M := ((M.1.1 + n, M.1.2), M.2)
def az_G (X : az_X) (n0 : Nat) : Prop := match X with
  | (_, _, _, _, _, _, _, _, _, _, _, _, _, _, RA) => ∀ ad ad' : Nat → Nat, RA ad → (∀ k, az_old n0 k → ad' k = ad k) → RA ad'
theorem az_v_ad {ad ad' : Nat → Nat} {m : Nat} {v : Value} (h : ∀ k, az_old m k → ad' k = ad k) (hv : az_lt m v) : az_v ad' v = az_v ad v := by
  cases v <;> first | rfl | exact congrArg Value.ref (h _ hv)
theorem az_st_ad {ad ad' : Nat → Nat} {m : Nat} {st : List Value} (h : ∀ k, az_old m k → ad' k = ad k) (hs : ∀ v ∈ st, az_lt m v) : st.map (az_v ad') = st.map (az_v ad) := List.map_congr_left (fun v hv => az_v_ad h (hs v hv))
theorem az_lv_ad {ad ad' : Nat → Nat} {m : Nat} {ls : List (Option Value)} (h : ∀ k, az_old m k → ad' k = ad k) (hl : ∀ v, some v ∈ ls → az_lt m v) : az_lv ad' ls = az_lv ad ls := by
  unfold az_lv
  refine congrArg (fun f => List.filterMap f (List.range ls.length)) (funext fun i => ?_)
  cases hq : ls[i]? with
  | none => rfl
  | some o =>
    cases o with
    | none => rfl
    | some v =>
      dsimp only
      rw [az_v_ad h (hl v (List.mem_of_getElem? hq))]
theorem az_rf_ad {ad ad' : Nat → Nat} {m : Nat} {r : Option Nat} (h : ∀ k, az_old m k → ad' k = ad k) (hr : ∀ b, r = some b → b < m) : az_rf ad' r = az_rf ad r := by
  cases r with
  | none => rfl
  | some b => exact congrArg Value.ref (h _ (Or.inl (hr b rfl)))
theorem az_cell_ad {tc : Nat → ClassId} {ad ad' : Nat → Nat} {M : az_M} {a m : Nat} (h : ∀ k, az_old m k → ad' k = ad k) (hr : ∀ j b, M.1.2.2 a j = some b → b < m) : az_cell tc ad' M a = az_cell tc ad M a := by
  have e1 : ∀ k, az_fs ad' M a k = az_fs ad M a k := fun k => by
    unfold az_fs
    refine List.map_congr_left (fun j _ => ?_)
    split
    · rfl
    · exact az_rf_ad h (hr j)
  have e2 : ∀ k n, az_arr ad' M a k n = az_arr ad M a k n := fun k n => by
    have : (fun j => (M.1.2.2 a j).map ad') = fun j => (M.1.2.2 a j).map ad := funext (fun j => by
      cases hq : M.1.2.2 a j with
      | none => rfl
      | some b => exact congrArg some (h b (Or.inl (hr j b hq))))
    unfold az_arr
    rw [this]
  unfold az_cell
  rw [e1, e2]
theorem az_ws_ad {tc : Nat → ClassId} {ad ad' : Nat → Nat} {M : az_M} (hc : az_cl M) (h : ∀ k, az_old M.1.1 k → ad' k = ad k) : az_ws tc ad' M = az_ws tc ad M := by
  unfold az_ws
  refine List.map_congr_left (fun a ha => ?_)
  have ha := List.mem_range.mp ha
  rw [h a (Or.inl ha), az_cell_ad h (fun j b => hc a j b ha)]
theorem az_ws_g {tc : Nat → ClassId} {ad : Nat → Nat} {M : az_M} : az_ws tc ad (az_grow M 1) = az_ws tc ad M ++ [(ad M.1.1, az_cell tc ad M M.1.1)] := by
  unfold az_ws
  show (List.range (M.1.1 + 1)).map _ = _
  rw [List.range_succ, List.map_append]; rfl
theorem az_up_lt {ad : Nat → Nat} {m q : Nat} (hm : m < 1000) : ∀ k, az_old m k → va_up ad m q k = ad k := fun k hk => by
  unfold az_old at hk
  show (if k = m then q else ad k) = ad k
  rw [if_neg (by omega)]
theorem va_AOA.moved {t : FieldType} {u U : State} (hvm : u.vm.Alike U.vm) (h : va_AOA t u) : va_AOA t U := by
  obtain ⟨comp, cA, kA, e1, e2, e3, e4, e5⟩ := arrayOverA_spec h
  obtain ⟨kB, q1, q2⟩ := hvm.2.2 _ _ e3
  have g1 : U.vm.findClass (FieldType.array t).toString = some comp := by rw [hvm.findClass]; exact e1
  have g2 : U.vm.findClass ("[" ++ (FieldType.array t).toString) = some cA := by rw [hvm.findClass]; exact e5
  have g3 : (U.vm.classes.findIdx? fun (x : Class) => match x.kind with | .array component _ => component == comp | _ => false) = some cA := by
    refine (va_idx_bare U.vm comp).symm.trans ?_
    first | rw [hvm.bare_eq] | rw [← hvm.bare_eq]
    exact (va_idx_bare u.vm comp).trans e2
  have g4 : kB.kind = .array comp (.array t) := by rw [q2]; exact e4
  show (Cond.arrayOver (.array t)).before #[] U = true
  unfold Cond.before Cond.holds
  simp only [Cond.value]
  rw [g1, Option.bind_some]
  refine (congrArg (fun z : Option Nat => (z.bind (fun i => (U.vm.classes[i]?).map fun (x : Class) => match x.kind with | .array _ ty => decide (ty = FieldType.array t) && decide (U.vm.findClass ("[" ++ (FieldType.array t).toString) = some i) | _ => false)) == some true) g3).trans ?_
  simp [q1, g4, g2]
/-- what the tables say of rows of rows, of rows of states -/
def az_o (U : State) : Prop := va_AOA .int U ∧ va_AO "UnitCommitment$State" U
theorem az_o.moved {u U : State} (hvm : u.vm.Alike U.vm) (h : az_o u) : az_o U := ⟨h.1.moved hvm, h.2.moved hvm⟩
def az_O (X : az_X) : Prop := match X with
  | (_, _, _, _, s, _, _, _, _, _, _, _, _, _, _) => az_o s
def s_new (n0 cm sm ci N : Nat) (P : az_T) : az_T := fun ls st k M => (n0 ≤ M.1.1 ∧ M.1.1 < 1000) ∧ az_cl M ∧ az_rl M.1.1 ls st ∧ (M.1.2.1 M.1.1).1 = ci ∧ (∀ j, j < N → M.2.1 M.1.1 j = 0) ∧ (∀ j, M.1.2.2 M.1.1 j = none) ∧ k.1 + 1 ≤ cm ∧ k.2 + N ≤ sm ∧ P ls (.ref M.1.1 :: st) (k.1 + 1, k.2 + N) (az_grow M 1)
theorem az_new {X : az_X} {cc : ByteArray} {nL : Nat} {own : String} {Ts : List Cond} {rm : Room} {ret : Option FieldType} {Qs : Option Value → az_M → Prop} {pc n0 cm sm : Nat} {Cn : String} {T : u_T} {N ci index : Nat} {P : az_T} (C : az_C X cc nL own Ts rm ret Qs) (G : az_G X n0) (hcm : cm ≤ rm.cells) (hsm : sm ≤ rm.slots) (hin : ∀ w ∈ u_ws Cn T N, w ∈ az_gw) (hc : vwCl[ci]? = some (Cn, T, N)) (hci : ci < 20) (ty0 : Nat → FieldType) (hty : ∀ k, k < N → parseFieldDescriptor (T k).2.2.1 = some (ty0 k))
    (hdv : ∀ j, j < N → defaultValue (ty0 j) = if az_isI ci j = true then .int 0 else .null) (hcl : Cond.classLink own index Cn ∈ az_gw) (hinst : Cond.instantiable Cn N ∈ az_gw) (hini : Cond.initialized Cn ∈ az_gw) (d : decode cc pc = .ok (.new index, 3)) (kk : az_ok X (pc + 3) P) : az_ok X pc (s_new n0 cm sm ci N P) := by
  obtain ⟨p, l, e, R, s, m, args, below, meth, c, D, tc, A, Q, RA⟩ := X
  obtain ⟨hx, hb, hml, hown, hts, hK, hN, hA, hlk, hr, hR, hsub, hQ⟩ := C
  intro ls st k M h ad H Ls locs hra hl hP hD hS hz
  obtain ⟨⟨h0, h1000⟩, hcl2, hrl, hk, hI, hRf, hc1, hc2, h⟩ := h
  subst hR
  refine va_new hx hb hts (fun w hw => hsub w (hin w hw)) ty0 hty hown (hts _ (hsub _ hcl)) (hts _ (hsub _ hinst)) (hts _ (hsub _ hini)) hK hP hD hS hA hc (fs := az_fs ad M M.1.1 ci) (fun j hj => ?_) (by omega) (by omega) d (fun q H1 hP1 hD1 hS1 => ?_)
  · unfold vp_V
    rw [hdv j hj, List.getD_eq_getElem?_getD, az_fget (by rw [az_nf_of hc]; exact hj), hI j hj, hRf j]; rfl
  · have hup := az_up_lt (ad := ad) (m := M.1.1) (q := q) h1000
    have hw : az_ws tc (va_up ad M.1.1 q) (az_grow M 1) = az_ws tc ad M ++ [(q, .inr (ci, az_fs ad M M.1.1 ci))] := by
      rw [az_ws_g, az_ws_ad hcl2 hup, az_cell_ad hup (fun j b hb => by rw [hRf j] at hb; cases hb), show va_up ad M.1.1 q M.1.1 = q from if_pos rfl]
      unfold az_cell
      rw [if_pos (by rw [hk]; exact hci), hk]
    have kk1 := kk ls (.ref M.1.1 :: st) (k.1 + 1, k.2 + N) (az_grow M 1) h (va_up ad M.1.1 q) H1 Ls locs (G ad _ hra (fun i hi => hup i (hi.imp_left (fun z => Nat.lt_of_lt_of_le z h0)))) (by rw [az_lv_ad hup hrl.1]; exact hl) (by rw [hw]; exact hP1) (by rw [hw]; exact hD1) hS1 ⟨by show k.1 + 1 ≤ _; omega, by show k.2 + N ≤ _; omega⟩
    rw [List.map_cons, az_st_ad hup hrl.2, show az_v (va_up ad M.1.1 q) (.ref M.1.1) = .ref q from congrArg Value.ref (if_pos rfl)] at kk1
    exact kk1
/-- a row of numbers -/
def s_nar (n0 cm sm kd : Nat) (P : az_T) : az_T := fun ls st k M => match st with
  | .int n :: st => (n0 ≤ M.1.1 ∧ M.1.1 < 1000) ∧ az_cl M ∧ az_rl M.1.1 ls st ∧ M.1.2.1 M.1.1 = (kd, n.toNatClampNeg) ∧ ¬ n < 0 ∧ n.toNatClampNeg ≤ 10000 ∧ ((∀ j, M.2.1 M.1.1 j = 0) ∧ (∀ j, M.2.2.1 M.1.1 j = 0) ∧ ∀ j, M.2.2.2 M.1.1 j = 0) ∧ (∀ j, M.1.2.2 M.1.1 j = none) ∧ k.1 + 1 ≤ cm ∧ k.2 + n.toNatClampNeg ≤ sm ∧ P ls (.ref M.1.1 :: st) (k.1 + 1, k.2 + n.toNatClampNeg) (az_grow M 1)
  | _ => False
theorem az_nar {X : az_X} {cc : ByteArray} {nL : Nat} {own : String} {Ts : List Cond} {rm : Room} {ret : Option FieldType} {Qs : Option Value → az_M → Prop} {pc n0 cm sm kd : Nat} {atype : ArrayType} {ty : FieldType} {P : az_T} (C : az_C X cc nL own Ts rm ret Qs) (G : az_G X n0) (hcm : cm ≤ rm.cells) (hsm : sm ≤ rm.slots) (hty : newarray.typeOf atype = ty) (hkd : ¬ kd < 20) (hk1 : ∀ tc : Nat → ClassId, (az_tys tc)[kd - 20]? = some (tc kd, ty)) (hk2 : ∀ (U : State) (cA : ClassId), va_RA U cA ty → U.vm.findClass ("[" ++ ty.toString) = some cA) (hcb : componentBytes ty ≤ 8)
    (hk3 : ∀ (ad : Nat → Nat) (M : az_M) (a n : Nat), (∀ j, M.2.1 a j = 0) → (∀ j, M.2.2.1 a j = 0) → (∀ j, M.2.2.2 a j = 0) → ∀ cA : ClassId, vp_cell cA (az_arr ad M a kd n) = arrV cA n (fun _ => defaultValue ty)) (harr : Cond.arrayClass ty ∈ az_gw) (d : decode cc pc = .ok (.newarray atype, 2)) (kk : az_ok X (pc + 2) P) : az_ok X pc (s_nar n0 cm sm kd P) := by
  obtain ⟨p, l, e, R, s, m, args, below, meth, c, D, tc, A, Q, RA⟩ := X
  obtain ⟨hx, hb, hml, hown, hts, hK, hN, hA, hlk, hr, hR, hsub, hQ⟩ := C
  intro ls st k M h ad H Ls locs hra hl hP hD hS hz
  unfold s_nar at h
  split at h
  · rename_i n st1
    obtain ⟨⟨h0, h1000⟩, hcl2, hrl, hk, hn0, hnb, hI, hRf, hc1, hc2, h⟩ := h
    subst hR
    have hbytes : n.toNatClampNeg * componentBytes ty ≤ 536870912 := Nat.le_trans (Nat.mul_le_mul hnb hcb) (by decide)
    rw [List.map_cons]
    refine va_newa hx hb (by rw [hty]; exact hts _ (hsub _ harr)) hty hK hP hD hS hA (a0 := az_arr ad M M.1.1 kd n.toNatClampNeg) (hk3 ad M M.1.1 _ hI.1 hI.2.1 hI.2.2) hn0 rfl hbytes (by omega) (by omega) d (fun q cA H1 hK1 hP1 hD1 hS1 => ?_)
    have hcA : cA = tc kd := by
      have e1 := hk2 s cA (hK1.2 7 (cA, ty) rfl).2
      have e2 := hk2 s (tc kd) (hK.2 (kd - 20) (tc kd, ty) (hk1 tc)).2
      rw [e1] at e2
      exact Option.some.inj e2
    subst hcA
    have hup := az_up_lt (ad := ad) (m := M.1.1) (q := q) h1000
    have hw : az_ws tc (va_up ad M.1.1 q) (az_grow M 1) = az_ws tc ad M ++ [(q, .inl (tc kd, az_arr ad M M.1.1 kd n.toNatClampNeg))] := by
      rw [az_ws_g, az_ws_ad hcl2 hup, az_cell_ad hup (fun j b hb => by rw [hRf j] at hb; cases hb), show va_up ad M.1.1 q M.1.1 = q from if_pos rfl]
      unfold az_cell
      rw [if_neg (by rw [hk]; exact hkd), hk]
    have kk1 := kk ls (.ref M.1.1 :: st1) (k.1 + 1, k.2 + n.toNatClampNeg) (az_grow M 1) h (va_up ad M.1.1 q) H1 Ls locs (G ad _ hra (fun i hi => hup i (hi.imp_left (fun z => Nat.lt_of_lt_of_le z h0)))) (by rw [az_lv_ad hup hrl.1]; exact hl) (by rw [hw]; exact hP1) (by rw [hw]; exact hD1) hS1 ⟨by show k.1 + 1 ≤ _; omega, by show k.2 + _ ≤ _; omega⟩
    rw [List.map_cons, az_st_ad hup hrl.2, show az_v (va_up ad M.1.1 q) (.ref M.1.1) = .ref q from congrArg Value.ref (if_pos rfl)] at kk1
    exact kk1
  · exact h.elim

/-- rows of a table -/
abbrev az_tab (M : az_M) (N : Nat) : az_M := ((M.1.1 + 1 + N, M.1.2.1, fun a j => if a = M.1.1 then (if j < N then some (M.1.1 + 1 + j) else none) else M.1.2.2 a j), M.2)
theorem az_cell_eq {tc : Nat → ClassId} {ad : Nat → Nat} {M M' : az_M} {a : Nat} (h1 : M'.1.2.1 a = M.1.2.1 a) (h2 : M'.2 = M.2) (h3 : ∀ j, M'.1.2.2 a j = M.1.2.2 a j) : az_cell tc ad M' a = az_cell tc ad M a := by
  have e : M'.1.2.2 a = M.1.2.2 a := funext h3
  unfold az_cell az_fs az_arr
  rw [h1, h2, e]
theorem az_ws_tab {tc : Nat → ClassId} {ad : Nat → Nat} {M : az_M} {N K q : Nat} {r : Nat → Nat} (hc : az_cl M) (hk : M.1.2.1 M.1.1 = (25, N)) (hr : ∀ i, i < N → M.1.2.1 (M.1.1 + 1 + i) = (20, K) ∧ (∀ j, M.2.1 (M.1.1 + 1 + i) j = 0) ∧ ∀ j, M.1.2.2 (M.1.1 + 1 + i) j = none) {ad' : Nat → Nat} (had : ∀ k, az_old M.1.1 k → ad' k = ad k) (hq : ad' M.1.1 = q) (hrr : ∀ i, i < N → ad' (M.1.1 + 1 + i) = r i) (f : Nat → va_E) :
    az_ws tc ad' (az_tab M N) = (az_ws tc ad M ++ [(q, .inl (tc 25, N, .inr (.inr (.inr (.inr (fun i => if i < N then some (r i) else none))))))]) ++ va_pl ((List.range N).map r) (vr_up f ((List.range N).map r) (.inl (tc 20, (K, .inl (fun _ => 0))))) := by
  have e0 : az_ws tc ad' (az_tab M N) = ((List.range M.1.1).map (fun a => (ad' a, az_cell tc ad' (az_tab M N) a)) ++ [(ad' M.1.1, az_cell tc ad' (az_tab M N) M.1.1)]) ++ (List.range N).map (fun i => (ad' (M.1.1 + 1 + i), az_cell tc ad' (az_tab M N) (M.1.1 + 1 + i))) := by
    unfold az_ws
    show (List.range (M.1.1 + 1 + N)).map _ = _
    rw [List.range_add, List.map_append, List.range_succ, List.map_append, List.map_map]; rfl
  have e1 : (List.range M.1.1).map (fun a => (ad' a, az_cell tc ad' (az_tab M N) a)) = az_ws tc ad M := by
    unfold az_ws
    refine List.map_congr_left (fun a ha => ?_)
    have ha := List.mem_range.mp ha
    rw [had a (Or.inl ha), az_cell_eq (M := M) (M' := az_tab M N) rfl rfl (fun j => if_neg (by omega)), az_cell_ad had (fun j b => hc a j b ha)]
  have e2 : az_cell tc ad' (az_tab M N) M.1.1 = .inl (tc 25, N, .inr (.inr (.inr (.inr (fun i => if i < N then some (r i) else none))))) := by
    have hs : (az_tab M N).1.2.1 M.1.1 = (25, N) := hk
    unfold az_cell
    rw [hs]
    dsimp only
    rw [if_neg (show ¬ (25 : Nat) < 20 by decide), az_arrR (show 24 < (25 : Nat) by decide)]
    have : (fun j => ((az_tab M N).1.2.2 M.1.1 j).map ad') = fun i => if i < N then some (r i) else none := funext (fun j => by
      show (if M.1.1 = M.1.1 then (if j < N then some (M.1.1 + 1 + j) else none) else M.1.2.2 M.1.1 j).map ad' = _
      rw [if_pos rfl]
      by_cases hj : j < N
      · rw [if_pos hj, if_pos hj]; exact congrArg some (hrr j hj)
      · rw [if_neg hj, if_neg hj]; rfl)
    rw [this]
  have e3 : (List.range N).map (fun i => (ad' (M.1.1 + 1 + i), az_cell tc ad' (az_tab M N) (M.1.1 + 1 + i))) = va_pl ((List.range N).map r) (vr_up f ((List.range N).map r) (.inl (tc 20, (K, .inl (fun _ => 0))))) := by
    unfold va_pl
    rw [List.map_map]
    refine List.map_congr_left (fun i hi => ?_)
    have hiN := List.mem_range.mp hi
    obtain ⟨k1, k2, k3⟩ := hr i hiN
    have hs : (az_tab M N).1.2.1 (M.1.1 + 1 + i) = (20, K) := k1
    have hz : (az_tab M N).2.1 (M.1.1 + 1 + i) = fun _ => 0 := funext k2
    have hcell : az_cell tc ad' (az_tab M N) (M.1.1 + 1 + i) = .inl (tc 20, (K, .inl (fun _ => 0))) := by
      unfold az_cell
      rw [hs]
      dsimp only
      rw [if_neg (show ¬ (20 : Nat) < 20 by decide), az_arrI (show (20 : Nat) < 23 by decide), hz]
    rw [hrr i hiN, hcell]
    show _ = (r i, vr_up f ((List.range N).map r) (.inl (tc 20, (K, .inl (fun _ => 0)))) (r i))
    rw [vr_up_in (List.mem_map.mpr ⟨i, hi, rfl⟩)]
  rw [e0, e1, e2, e3, hq]
def s_mna (n0 cm sm : Nat) (P : az_T) : az_T := fun ls st k M => match st with
  | .int w :: .int n :: st => (n0 ≤ M.1.1 ∧ M.1.1 + 1 + n.toNatClampNeg ≤ 1000) ∧ az_cl M ∧ az_rl M.1.1 ls st ∧ (¬ n < 0 ∧ ¬ w < 0 ∧ n.toNatClampNeg ≤ 1000 ∧ w.toNatClampNeg ≤ 1000) ∧ M.1.2.1 M.1.1 = (25, n.toNatClampNeg) ∧ (∀ i, i < n.toNatClampNeg → M.1.2.1 (M.1.1 + 1 + i) = (20, w.toNatClampNeg) ∧ (∀ j, M.2.1 (M.1.1 + 1 + i) j = 0) ∧ ∀ j, M.1.2.2 (M.1.1 + 1 + i) j = none) ∧
      k.1 + (1 + n.toNatClampNeg) ≤ cm ∧ k.2 + (n.toNatClampNeg + n.toNatClampNeg * w.toNatClampNeg) ≤ sm ∧ P ls (.ref M.1.1 :: st) (k.1 + 1 + n.toNatClampNeg, k.2 + n.toNatClampNeg + n.toNatClampNeg * w.toNatClampNeg) (az_tab M n.toNatClampNeg)
  | _ => False
theorem az_mna {X : az_X} {cc : ByteArray} {nL : Nat} {own : String} {Ts : List Cond} {rm : Room} {ret : Option FieldType} {Qs : Option Value → az_M → Prop} {pc n0 cm sm index : Nat} {P : az_T} (C : az_C X cc nL own Ts rm ret Qs) (G : az_G X n0) (hcm : cm ≤ rm.cells) (hsm : sm ≤ rm.slots) (hcl : Cond.classLink own index "[[I" ∈ az_gw) (O : az_O X) (harr : Cond.arrayClass .int ∈ az_gw) (d : decode cc pc = .ok (.multianewarray index 2, 4)) (kk : az_ok X (pc + 4) P) : az_ok X pc (s_mna n0 cm sm P) := by
  obtain ⟨p, l, e, R, s, m, args, below, meth, c, D, tc, A, Q, RA⟩ := X
  obtain ⟨hx, hb, hml, hown, hts, hK, hN, hA, hlk, hr, hR, hsub, hQ⟩ := C
  intro ls st k M h ad H Ls locs hra hl hP hD hS hz
  unfold s_mna at h
  split at h
  · rename_i w n st1
    obtain ⟨⟨h0, h1000⟩, hcl2, hrl, ⟨hn0, hw0, hnb, hwb⟩, hk, hrw, hc1, hc2, h⟩ := h
    subst hR
    have hcy : s.vm.findClass (FieldType.array FieldType.int).toString = some (tc 20) := (hK.2 0 (tc 20, .int) rfl).2
    rw [List.map_cons, List.map_cons]
    refine va_mna (X := az_ws tc ad M) (L := []) (f := fun _ => .inr (0, [])) (ty := .int) (z := (w.toNatClampNeg, .inl (fun _ => 0))) hx hb hown (hts _ (hsub _ hcl)) O.1 (hts _ (hsub _ harr)) hcy hK (by rw [show az_ws tc ad M ++ va_pl [] _ = az_ws tc ad M from List.append_nil _]; exact hP) (by rw [show az_ws tc ad M ++ va_pl [] _ = az_ws tc ad M from List.append_nil _]; exact hD) hS hA hn0 hw0 rfl rfl (by omega) (by show w.toNatClampNeg * 4 ≤ _; omega) (by omega) rfl rfl (by omega) (by omega) (fun c => arrV_new c w.toNatClampNeg (.int 0)) d (fun q r cA H1 hinj hnm hK1 hP1 hD1 hS1 => ?_)
    have hcA : cA = tc 25 := by
      have e1 := (hK1.2 7 (cA, .array .int) rfl).2
      have e2 := (hK.2 5 (tc 25, .array .int) rfl).2
      have e1 : s.vm.findClass ("[" ++ (FieldType.array FieldType.int).toString) = some cA := e1
      have e2 : s.vm.findClass ("[" ++ (FieldType.array FieldType.int).toString) = some (tc 25) := e2
      rw [e1] at e2
      exact Option.some.inj e2
    subst hcA
    obtain ⟨ad', had'⟩ : ∃ ad' : Nat → Nat, ad' = fun k => if k < M.1.1 ∨ 1000 ≤ k then ad k else if k = M.1.1 then q else r (k - M.1.1 - 1) := ⟨_, rfl⟩
    have hup : ∀ k, az_old M.1.1 k → ad' k = ad k := fun k hk => by rw [had']; exact if_pos hk
    have hq : ad' M.1.1 = q := by
      rw [had']
      show (if M.1.1 < M.1.1 ∨ 1000 ≤ M.1.1 then _ else if M.1.1 = M.1.1 then q else _) = q
      rw [if_neg (by omega), if_pos rfl]
    have hrr : ∀ i, i < n.toNatClampNeg → ad' (M.1.1 + 1 + i) = r i := fun i hi => by
      rw [had']
      show (if M.1.1 + 1 + i < M.1.1 ∨ 1000 ≤ M.1.1 + 1 + i then _ else if M.1.1 + 1 + i = M.1.1 then q else r (M.1.1 + 1 + i - M.1.1 - 1)) = r i
      rw [if_neg (by omega), if_neg (by omega), show M.1.1 + 1 + i - M.1.1 - 1 = i by omega]
    have hw := az_ws_tab (tc := tc) (ad := ad) (q := q) (r := r) hcl2 hk hrw hup hq hrr (fun _ => .inr (0, []))
    rw [List.nil_append, ← hw] at hP1 hD1
    have kk1 := kk ls (.ref M.1.1 :: st1) (k.1 + 1 + n.toNatClampNeg, k.2 + n.toNatClampNeg + n.toNatClampNeg * w.toNatClampNeg) (az_tab M n.toNatClampNeg) h ad' H1 Ls locs (G ad _ hra (fun i hi => hup i (hi.imp_left (fun z => Nat.lt_of_lt_of_le z h0)))) (by rw [az_lv_ad hup hrl.1]; exact hl) hP1 hD1 hS1 ⟨by show k.1 + 1 + _ ≤ _; omega, by show k.2 + _ + _ ≤ _; omega⟩
    rw [List.map_cons, az_st_ad hup hrl.2, show az_v ad' (.ref M.1.1) = .ref q from congrArg Value.ref hq] at kk1
    exact kk1
  · exact h.elim
