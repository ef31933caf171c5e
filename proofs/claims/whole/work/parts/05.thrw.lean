/-! methods that throw; the wrappers that catch; longs, doubles, floats -/
def s_i2l (P : az_T) : az_T := fun ls st q M => match st with
  | .int x :: st => P ls (.long x.toInt64 :: st) q M
  | _ => False
theorem az_i2l {X : az_X} {cc : ByteArray} {nL : Nat} {own : String} {Ts : List Cond} {rm : Room} {ret : Option FieldType} {Qs : Option Value → az_M → Prop} {pc : Nat} {P : az_T} (C : az_C X cc nL own Ts rm ret Qs) (d : decode cc pc = .ok (.i2l, 1)) (kk : az_ok X (pc + 1) P) : az_ok X pc (s_i2l P) := by
  obtain ⟨p, l, e, R, s, m, args, below, meth, c, D, tc, A, Q, RA⟩ := X
  obtain ⟨hx, hb, hml, hown, hts, hK, hN, hA, hlk, hr, hR, hsub, hQ⟩ := C
  intro ls st k M h ad H Ls locs hra hl hP hD hS hz
  unfold s_i2l at h
  split at h
  · skip
    exact lv_i2l hx hb d rfl (kk ls _ k M h ad H Ls locs hra hl hP hD hS hz)
  · exact h.elim
def s_i2d (P : az_T) : az_T := fun ls st q M => match st with
  | .int x :: st => P ls (.double (FP.i2d x) :: st) q M
  | _ => False
theorem az_i2d {X : az_X} {cc : ByteArray} {nL : Nat} {own : String} {Ts : List Cond} {rm : Room} {ret : Option FieldType} {Qs : Option Value → az_M → Prop} {pc : Nat} {P : az_T} (C : az_C X cc nL own Ts rm ret Qs) (d : decode cc pc = .ok (.i2d, 1)) (kk : az_ok X (pc + 1) P) : az_ok X pc (s_i2d P) := by
  obtain ⟨p, l, e, R, s, m, args, below, meth, c, D, tc, A, Q, RA⟩ := X
  obtain ⟨hx, hb, hml, hown, hts, hK, hN, hA, hlk, hr, hR, hsub, hQ⟩ := C
  intro ls st k M h ad H Ls locs hra hl hP hD hS hz
  unfold s_i2d at h
  split at h
  · skip
    exact lv_i2d hx hb d (kk ls _ k M h ad H Ls locs hra hl hP hD hS hz)
  · exact h.elim
def s_i2f (P : az_T) : az_T := fun ls st q M => match st with
  | .int x :: st => P ls (.float (FP.i2f x) :: st) q M
  | _ => False
theorem az_i2f {X : az_X} {cc : ByteArray} {nL : Nat} {own : String} {Ts : List Cond} {rm : Room} {ret : Option FieldType} {Qs : Option Value → az_M → Prop} {pc : Nat} {P : az_T} (C : az_C X cc nL own Ts rm ret Qs) (d : decode cc pc = .ok (.i2f, 1)) (kk : az_ok X (pc + 1) P) : az_ok X pc (s_i2f P) := by
  obtain ⟨p, l, e, R, s, m, args, below, meth, c, D, tc, A, Q, RA⟩ := X
  obtain ⟨hx, hb, hml, hown, hts, hK, hN, hA, hlk, hr, hR, hsub, hQ⟩ := C
  intro ls st k M h ad H Ls locs hra hl hP hD hS hz
  unfold s_i2f at h
  split at h
  · skip
    exact lv_i2f hx hb d (kk ls _ k M h ad H Ls locs hra hl hP hD hS hz)
  · exact h.elim
def s_f2d (P : az_T) : az_T := fun ls st q M => match st with
  | .float x :: st => vf_n64 (FP.f2d x) ∧ P ls (.double (FP.f2d x) :: st) q M
  | _ => False
theorem az_f2d {X : az_X} {cc : ByteArray} {nL : Nat} {own : String} {Ts : List Cond} {rm : Room} {ret : Option FieldType} {Qs : Option Value → az_M → Prop} {pc : Nat} {P : az_T} (C : az_C X cc nL own Ts rm ret Qs) (d : decode cc pc = .ok (.f2d, 1)) (kk : az_ok X (pc + 1) P) : az_ok X pc (s_f2d P) := by
  obtain ⟨p, l, e, R, s, m, args, below, meth, c, D, tc, A, Q, RA⟩ := X
  obtain ⟨hx, hb, hml, hown, hts, hK, hN, hA, hlk, hr, hR, hsub, hQ⟩ := C
  intro ls st k M h ad H Ls locs hra hl hP hD hS hz
  unfold s_f2d at h
  split at h
  · obtain ⟨hc, h⟩ := h
    exact lv_f2d hx hb d hc (kk ls _ k M h ad H Ls locs hra hl hP hD hS hz)
  · exact h.elim
def s_ddiv (P : az_T) : az_T := fun ls st q M => match st with
  | .double y :: .double x :: st => vf_n64 (FP.ddiv x y) ∧ P ls (.double (FP.ddiv x y) :: st) q M
  | _ => False
theorem az_ddiv {X : az_X} {cc : ByteArray} {nL : Nat} {own : String} {Ts : List Cond} {rm : Room} {ret : Option FieldType} {Qs : Option Value → az_M → Prop} {pc : Nat} {P : az_T} (C : az_C X cc nL own Ts rm ret Qs) (d : decode cc pc = .ok (.ddiv, 1)) (kk : az_ok X (pc + 1) P) : az_ok X pc (s_ddiv P) := by
  obtain ⟨p, l, e, R, s, m, args, below, meth, c, D, tc, A, Q, RA⟩ := X
  obtain ⟨hx, hb, hml, hown, hts, hK, hN, hA, hlk, hr, hR, hsub, hQ⟩ := C
  intro ls st k M h ad H Ls locs hra hl hP hD hS hz
  unfold s_ddiv at h
  split at h
  · obtain ⟨hc, h⟩ := h
    exact lv_ddiv hx hb d hc (kk ls _ k M h ad H Ls locs hra hl hP hD hS hz)
  · exact h.elim
def s_fdiv (P : az_T) : az_T := fun ls st q M => match st with
  | .float y :: .float x :: st => vf_n32 (FP.fdiv x y) ∧ P ls (.float (FP.fdiv x y) :: st) q M
  | _ => False
theorem az_fdiv {X : az_X} {cc : ByteArray} {nL : Nat} {own : String} {Ts : List Cond} {rm : Room} {ret : Option FieldType} {Qs : Option Value → az_M → Prop} {pc : Nat} {P : az_T} (C : az_C X cc nL own Ts rm ret Qs) (d : decode cc pc = .ok (.fdiv, 1)) (kk : az_ok X (pc + 1) P) : az_ok X pc (s_fdiv P) := by
  obtain ⟨p, l, e, R, s, m, args, below, meth, c, D, tc, A, Q, RA⟩ := X
  obtain ⟨hx, hb, hml, hown, hts, hK, hN, hA, hlk, hr, hR, hsub, hQ⟩ := C
  intro ls st k M h ad H Ls locs hra hl hP hD hS hz
  unfold s_fdiv at h
  split at h
  · obtain ⟨hc, h⟩ := h
    exact lv_fdiv hx hb d hc (kk ls _ k M h ad H Ls locs hra hl hP hD hS hz)
  · exact h.elim
def s_lcmp (P : az_T) : az_T := fun ls st q M => match st with
  | .long y :: .long x :: st => P ls (.int (lg_cmp x y) :: st) q M
  | _ => False
theorem az_lcmp {X : az_X} {cc : ByteArray} {nL : Nat} {own : String} {Ts : List Cond} {rm : Room} {ret : Option FieldType} {Qs : Option Value → az_M → Prop} {pc : Nat} {P : az_T} (C : az_C X cc nL own Ts rm ret Qs) (d : decode cc pc = .ok (.lcmp, 1)) (kk : az_ok X (pc + 1) P) : az_ok X pc (s_lcmp P) := by
  obtain ⟨p, l, e, R, s, m, args, below, meth, c, D, tc, A, Q, RA⟩ := X
  obtain ⟨hx, hb, hml, hown, hts, hK, hN, hA, hlk, hr, hR, hsub, hQ⟩ := C
  intro ls st k M h ad H Ls locs hra hl hP hD hS hz
  unfold s_lcmp at h
  split at h
  · skip
    exact W.lcmp hx hb d (kk ls _ k M h ad H Ls locs hra hl hP hD hS hz)
  · exact h.elim
def s_dcmp (o : CmpOp) (P : az_T) : az_T := fun ls st q M => match st with
  | .double y :: .double x :: st => P ls (.int (Op.cmpValue (FP.dcmp x y) o) :: st) q M
  | _ => False
theorem az_dcmp {X : az_X} {cc : ByteArray} {nL : Nat} {own : String} {Ts : List Cond} {rm : Room} {ret : Option FieldType} {Qs : Option Value → az_M → Prop} {pc : Nat} {o : CmpOp} {P : az_T} (C : az_C X cc nL own Ts rm ret Qs) (d : decode cc pc = .ok (.dcmp o, 1)) (kk : az_ok X (pc + 1) P) : az_ok X pc (s_dcmp o P) := by
  obtain ⟨p, l, e, R, s, m, args, below, meth, c, D, tc, A, Q, RA⟩ := X
  obtain ⟨hx, hb, hml, hown, hts, hK, hN, hA, hlk, hr, hR, hsub, hQ⟩ := C
  intro ls st k M h ad H Ls locs hra hl hP hD hS hz
  unfold s_dcmp at h
  split at h
  · exact lv_dcmp hx hb d (kk ls _ k M h ad H Ls locs hra hl hP hD hS hz)
  · exact h.elim
theorem az_arrL {ad : Nat → Nat} {M : az_M} {a n : Nat} : az_arr ad M a 23 n = (n, .inr (.inl (M.2.2.1 a))) := by
  unfold az_arr
  rw [if_neg (by decide)]
  rw [if_pos rfl]
def s_lal (P : az_T) : az_T := fun ls st q M => match st with
  | .int i :: .ref a :: st => a < M.1.1 ∧ (M.1.2.1 a).1 = 23 ∧ vp_in i (M.1.2.1 a).2 ∧ P ls (.long (M.2.2.1 a i.toNatClampNeg) :: st) q M
  | _ => False
theorem az_lald {X : az_X} {cc : ByteArray} {nL : Nat} {own : String} {Ts : List Cond} {rm : Room} {ret : Option FieldType} {Qs : Option Value → az_M → Prop} {pc : Nat} {P : az_T} (C : az_C X cc nL own Ts rm ret Qs) (d : decode cc pc = .ok (.laload, 1)) (kk : az_ok X (pc + 1) P) : az_ok X pc (s_lal P) := by
  obtain ⟨p, l, e, R, s, m, args, below, meth, c, D, tc, A, Q, RA⟩ := X
  obtain ⟨hx, hb, hml, hown, hts, hK, hN, hA, hlk, hr, hR, hsub, hQ⟩ := C
  intro ls st k M h ad H Ls locs hra hl hP hD hS hz
  unfold s_lal at h
  split at h
  · rename_i i a st1
    obtain ⟨ha, hk, hi, h⟩ := h
    have he := az_get (tc := tc) (ad := ad) ha
    rw [az_row hk (by decide), az_arrL] at he
    exact va_lald hx hb hK hP a 3 he rfl hi d (kk ls _ k M h ad H Ls locs hra hl hP hD hS hz)
  · exact h.elim
def s_lst (P : az_T) : az_T := fun ls st q M => match st with
  | .long x :: .int i :: .ref a :: st => a < M.1.1 ∧ (M.1.2.1 a).1 = 23 ∧ vp_in i (M.1.2.1 a).2 ∧ P ls st q (az_setL M a i.toNatClampNeg x)
  | _ => False
theorem az_last {X : az_X} {cc : ByteArray} {nL : Nat} {own : String} {Ts : List Cond} {rm : Room} {ret : Option FieldType} {Qs : Option Value → az_M → Prop} {pc : Nat} {P : az_T} (C : az_C X cc nL own Ts rm ret Qs) (d : decode cc pc = .ok (.lastore, 1)) (kk : az_ok X (pc + 1) P) : az_ok X pc (s_lst P) := by
  obtain ⟨p, l, e, R, s, m, args, below, meth, c, D, tc, A, Q, RA⟩ := X
  obtain ⟨hx, hb, hml, hown, hts, hK, hN, hA, hlk, hr, hR, hsub, hQ⟩ := C
  intro ls st k M h ad H Ls locs hra hl hP hD hS hz
  unfold s_lst at h
  split at h
  · rename_i x i a st1
    obtain ⟨ha, hk, hi, h⟩ := h
    have he := az_get (tc := tc) (ad := ad) ha
    rw [az_row hk (by decide), az_arrL] at he
    refine va_last hx hb hK hP hD hS a 3 he rfl hi d (fun H1 locs1 hP1 hD1 hS1 => ?_)
    rw [az_set (M' := az_setL M a i.toNatClampNeg x) (by rfl) (by rw [az_row (M := az_setL M a i.toNatClampNeg x) hk (by decide), az_arrL]; show Sum.inl (tc 23, (M.1.2.1 a).2, Sum.inr (Sum.inl (az_up M.2.2.1 a i.toNatClampNeg x a))) = _; rw [az_upL]) az_otherL] at hP1 hD1
    exact kk ls _ k _ h ad H1 Ls locs1 hra hl hP1 hD1 hS1 hz
  · exact h.elim
theorem az_arrD {ad : Nat → Nat} {M : az_M} {a n : Nat} : az_arr ad M a 24 n = (n, .inr (.inr (.inr (.inl (M.2.2.2 a))))) := by
  unfold az_arr
  rw [if_neg (by decide)]
  rw [if_neg (by decide), if_pos rfl]
def s_dal (P : az_T) : az_T := fun ls st q M => match st with
  | .int i :: .ref a :: st => a < M.1.1 ∧ (M.1.2.1 a).1 = 24 ∧ vp_in i (M.1.2.1 a).2 ∧ P ls (.double (M.2.2.2 a i.toNatClampNeg) :: st) q M
  | _ => False
theorem az_dald {X : az_X} {cc : ByteArray} {nL : Nat} {own : String} {Ts : List Cond} {rm : Room} {ret : Option FieldType} {Qs : Option Value → az_M → Prop} {pc : Nat} {P : az_T} (C : az_C X cc nL own Ts rm ret Qs) (d : decode cc pc = .ok (.daload, 1)) (kk : az_ok X (pc + 1) P) : az_ok X pc (s_dal P) := by
  obtain ⟨p, l, e, R, s, m, args, below, meth, c, D, tc, A, Q, RA⟩ := X
  obtain ⟨hx, hb, hml, hown, hts, hK, hN, hA, hlk, hr, hR, hsub, hQ⟩ := C
  intro ls st k M h ad H Ls locs hra hl hP hD hS hz
  unfold s_dal at h
  split at h
  · rename_i i a st1
    obtain ⟨ha, hk, hi, h⟩ := h
    have he := az_get (tc := tc) (ad := ad) ha
    rw [az_row hk (by decide), az_arrD] at he
    exact va_dald hx hb hK hP a 4 he rfl hi d (kk ls _ k M h ad H Ls locs hra hl hP hD hS hz)
  · exact h.elim
def s_dst (P : az_T) : az_T := fun ls st q M => match st with
  | .double x :: .int i :: .ref a :: st => a < M.1.1 ∧ (M.1.2.1 a).1 = 24 ∧ vp_in i (M.1.2.1 a).2 ∧ P ls st q (az_setD M a i.toNatClampNeg x)
  | _ => False
theorem az_dast {X : az_X} {cc : ByteArray} {nL : Nat} {own : String} {Ts : List Cond} {rm : Room} {ret : Option FieldType} {Qs : Option Value → az_M → Prop} {pc : Nat} {P : az_T} (C : az_C X cc nL own Ts rm ret Qs) (d : decode cc pc = .ok (.dastore, 1)) (kk : az_ok X (pc + 1) P) : az_ok X pc (s_dst P) := by
  obtain ⟨p, l, e, R, s, m, args, below, meth, c, D, tc, A, Q, RA⟩ := X
  obtain ⟨hx, hb, hml, hown, hts, hK, hN, hA, hlk, hr, hR, hsub, hQ⟩ := C
  intro ls st k M h ad H Ls locs hra hl hP hD hS hz
  unfold s_dst at h
  split at h
  · rename_i x i a st1
    obtain ⟨ha, hk, hi, h⟩ := h
    have he := az_get (tc := tc) (ad := ad) ha
    rw [az_row hk (by decide), az_arrD] at he
    refine va_dast hx hb hK hP hD hS a 4 he rfl hi d (fun H1 locs1 hP1 hD1 hS1 => ?_)
    rw [az_set (M' := az_setD M a i.toNatClampNeg x) (by rfl) (by rw [az_row (M := az_setD M a i.toNatClampNeg x) hk (by decide), az_arrD]; show Sum.inl (tc 24, (M.1.2.1 a).2, Sum.inr (Sum.inr (Sum.inr (Sum.inl (az_up M.2.2.2 a i.toNatClampNeg x a))))) = _; rw [az_upD]) az_otherD] at hP1 hD1
    exact kk ls _ k _ h ad H1 Ls locs1 hra hl hP1 hD1 hS1 hz
  · exact h.elim
/-! throwing -/
def az_isN : Cond → Bool
  | .methodLinkNest .. => true
  | .declares .. => true
  | .castable .. => true
  | _ => false
theorem az_isN_mem {w : Cond} (h : w ∈ tables_1) (g : az_isN w = true) : w ∈ az_nest := List.mem_filter.mpr ⟨h, by cases w <;> first | rfl | cases g⟩
theorem az_isN_use {w : Cond} (g : az_isN w = true) {args : Array Value} {s : State} (h : va_Nw w s) : w.before args s = true := by cases w <;> first | exact va_Nw.use rfl h | cases g
def az_listed (L : List Cond) : Bool := L.all fun w => decide (w ∈ tables_1) && (goodWord w || az_isN w)
theorem az_hat {args : Array Value} {s : State} {Ts L : List Cond} (hsub : ∀ w ∈ az_gw, w ∈ Ts) (hts : ∀ w ∈ Ts, w.before args s = true) (hN : ∀ w ∈ az_nest, va_Nw w s) (h : az_listed L = true) : ∀ w ∈ L, w.before args s = true := by
  intro w hw
  have h1 := List.all_eq_true.mp h w hw
  simp only [Bool.and_eq_true, Bool.or_eq_true, decide_eq_true_eq] at h1
  rcases h1.2 with g | g
  · exact hts w (hsub w (List.mem_filter.mpr ⟨List.mem_append_right _ h1.1, g⟩))
  · exact az_isN_use g (hN w (az_isN_mem h1.1 g))
def az_zq (A : Nat → Prop) (U : State) (H : Heap) : Prop := vx_Zq Bundle.tN "UNASSIGNED_STACK" Bundle.steD A U H ∧ vx_Zq Bundle.tN "SUPPRESSED_SENTINEL" Bundle.listD A U H
abbrev az_FX : Type := List Value → az_M → (Option Value → az_M → Prop) → (String → az_M → Prop) → Prop
def az_XC (D : va_G) (tc : Nat → ClassId) (RA : (Nat → Nat) → Prop) (A : Nat → Prop) (Xs : String → az_M → Prop) : String → State → State → Prop := fun E st t =>
  (∃ M : az_M, Xs E M ∧ ∃ ad : Nat → Nat, RA ad ∧ va_P D vwCl (az_ws tc ad M) t.heap ∧ va_D A (az_ws tc ad M)) ∧ va_F A st t
def az_metX (l : Launch) (y : MethodName) (cc : ByteArray) (nL : Nat) (ret : Option FieldType) (rm : Room) (F : az_FX) : Prop := ∀ (D : va_G) (tc : Nat → ClassId) (ad : Nat → Nat) (sz : Nat) (as : List Value) (M : az_M) (Q : Option Value → az_M → Prop) (Xs : String → az_M → Prop), F as M Q Xs →
  vx_Met l y (az_ts y cc nL ret) rm (va_Pc (as.map (az_v ad)) (fun U => U.heap.size = sz ∧ va_P D vwCl (az_ws tc ad M) U.heap ∧ va_K D vwCl (az_tys tc) U ∧ va_D (fun _ => True) (az_ws tc ad M) ∧ (∀ w ∈ az_nest, va_Nw w U) ∧ az_zq (va_A (az_ws tc ad M) sz) U U.heap)) (az_Q D tc (fun ad' => ad' = ad) (va_A (az_ws tc ad M) sz) Q) (az_XC D tc (fun ad' => ad' = ad) (va_A (az_ws tc ad M) sz) Xs) rm.cells rm.slots (va_A (az_ws tc ad M) sz)
def az_CX (X : az_X) (rm : Room) (Qs : Option Value → az_M → Prop) (Xs : String → az_M → Prop) : Prop := match X with
  | (_, l, _, _, s, _, args, below, _, c, D, tc, A, Q, RA) => Q = vx_MQ below (az_Q D tc RA A Qs) (az_XC D tc RA A Xs) args s rm.cells rm.slots A ∧ l.stackTraces = false ∧ az_zq A s s.heap ∧ (∀ x ∈ c.exceptionTable.toList, False)
def s_thr (E : String) (Xs : String → az_M → Prop) : az_T := fun _ st q M => q.1 = 0 ∧ q.2 = 0 ∧ st.length ≤ 4 ∧ Xs E M
theorem az_throw {X : az_X} {cc : ByteArray} {nL : Nat} {own : String} {Ts : List Cond} {rm : Room} {ret : Option FieldType} {Qs : Option Value → az_M → Prop} {pc : Nat} {Xs : String → az_M → Prop} (C : az_C X cc nL own Ts rm ret Qs) (CX : az_CX X rm Qs Xs) {cls : String} {names : List String} {ik ic : Nat} (hcls : Bundle.fit cls = true) (hnames : names.all Bundle.fit = true) (hk : Cond.classLink own ik cls ∈ az_gw) (hini : Cond.initialized cls ∈ az_gw) (hat : az_listed (vx_at0 own ic cls names) = true) (hgood : (Cond.classLink own ik cls :: Cond.initialized cls :: vx_at0 own ic cls names).all vx_ot = true)
    (d0 : decode cc pc = .ok (.new ik, 3)) (d3 : decode cc (pc + 3) = .ok (.dup, 1)) (d4 : decode cc (pc + 4) = .ok (.invokespecial ic, 3)) (d7 : decode cc (pc + 7) = .ok (.athrow, 1)) (hrm : 1 ≤ rm.cells ∧ 6 ≤ rm.slots ∧ names.length + 3 < rm.frames ∧ 8 + (13 * (names.length + 1) + 42) ≤ rm.locals) : az_ok X pc (s_thr cls Xs) := by
  obtain ⟨p, l, e, R, s, m, args, below, meth, c, D, tc, A, Q, RA⟩ := X
  obtain ⟨hx, hb, hml, hown, hts, hK, hN, hA, hlk, hr, hR, hsub, hQ⟩ := C
  intro ls st k M h ad H Ls locs hra hl hP hD hS hz
  obtain ⟨hQe, hlt, ⟨hU, hNs⟩, htab⟩ := CX
  obtain ⟨hk1, hk2, h4, hX⟩ := h
  subst hQe
  subst hR
  have hroom := az_room (ad := ad) h4
  obtain ⟨k1, k2⟩ := k
  have hk1 : k1 = 0 := hk1
  have hk2 : k2 = 0 := hk2
  subst hk1; subst hk2
  exact vx_throw0 hx hb hlt hown hcls (List.all_eq_true.mp hnames) (hts _ (hsub _ hk)) (hts _ (hsub _ hini)) (az_hat hsub hts hN hat) (List.all_eq_true.mp hgood) hU hNs hS hl.1 d0 d3 d4 d7 (fun x hx1 => (htab x hx1).elim) hrm.2.2.1 (by omega) (by omega) (by omega) hlk
    (fun t ht hsz hq => ⟨⟨M, hX, ad, hra, hP.kept (fun k9 q9 h9 => hq q9.1 ((hP k9 q9 h9).lt)), hD⟩, Nat.le_trans hS.1 hsz, fun q h1 h2 => (hq q (Nat.lt_of_lt_of_le h1 hS.1)).trans (hS.2.1 q h1 h2)⟩) hS.2.2 (by omega) (by omega)
def az_funX (ps : List Bool) (nL : Nat) (Pm : (Option Value → az_M → Prop) → (String → az_M → Prop) → az_T) : az_FX := fun as M Q Xs => az_pat ps as = true ∧ Pm Q Xs (az_in nL as) [] (0, 0) M
theorem az_metX_of {y : MethodName} {cc : ByteArray} {nL : Nat} {ret : Option FieldType} {own : String} {rm : Room} {ps : List Bool} {Pm : (Option Value → az_M → Prop) → (String → az_M → Prop) → az_T} (hy : plainName y.cls = true) (hown : y.cls = own) (hps : ps.length ≤ nL)
    (body : ∀ (X : az_X) (Qs : Option Value → az_M → Prop) (Xs : String → az_M → Prop), az_C X cc nL own (az_ts y cc nL ret) rm ret Qs → az_CX X rm Qs Xs → az_ok X 0 (Pm Qs Xs)) (l : Launch) (hlt : l.stackTraces = false) : az_metX l y cc nL ret rm (az_funX ps nL Pm) := by
  intro D tc ad sz as M Q Xs hF
  obtain ⟨hpat, hQ⟩ := hF
  have hcat := az_pat_cat hpat
  have hlen := az_pat_len hpat
  refine vx_ofW (cc := cc) (maxL := nL) (ret := ret) hy rfl ?_
  intro p e s m args below meth c s₁ B hml htab hv
  obtain ⟨rfl, hsz, hP, hK, hD0, hN, hzq⟩ := hv
  subst hsz
  have hD := hD0.self (sz := s.heap.size)
  have hcat2 : ∀ u ∈ as.map (az_v ad), u.category = 1 := fun u hu => by
    obtain ⟨w, hw, rfl⟩ := List.mem_map.mp hu
    exact az_cat_v (hcat w hw)
  have hlg : (lg_sl (as.map (az_v ad))).length ≤ nL := by
    rw [az_lg_len _ hcat2, List.length_map, hlen]
    exact hps
  have hl := lv_entry (as.map (az_v ad)) (n := nL) hlg
  rw [lg_entry_eq]
  generalize (lg_sl (as.map (az_v ad)) ++ List.replicate (nL - (lg_sl (as.map (az_v ad))).length) Slot.unset).toArray = Ls at hl ⊢
  have hown2 : s.vm.findClass own = some m.cls := by
    rw [← hown]
    exact findClass_of_methodNamed B.named
  have hin := az_in_has (ad := ad) (nL := nL) hcat hl
  refine body (p, l, e, (headSpec (az_ts y cc nL ret) rm).room, s, m, (as.map (az_v ad)).toArray, below, meth, c, D, tc, va_A (az_ws tc ad M) s.heap.size, vx_MQ below (az_Q D tc (fun ad' => ad' = ad) (va_A (az_ws tc ad M) s.heap.size) Q) (az_XC D tc (fun ad' => ad' = ad) (va_A (az_ws tc ad M) s.heap.size) Xs) (as.map (az_v ad)).toArray s rm.cells rm.slots (va_A (az_ws tc ad M) s.heap.size), (fun ad' => ad' = ad)) Q Xs
    ⟨B.exec, B.bytes, hml, hown2, atoms_spec (ws := az_ts y cc nL ret) B.pre, hK, hN, fun q h => Or.inr h, B.notSynchronized, B.returns, rfl, fun w h => List.mem_cons_of_mem _ h, fun _ _ _ k => vx_ret k⟩ ⟨rfl, hlt, hzq, htab⟩ (az_in nL as) [] (0, 0) M hQ ad s.heap Ls [] rfl (by rw [hml]; exact hin) hP hD va_S.rf ⟨Nat.zero_le _, Nat.zero_le _⟩
/-! catching: the wrappers -/
def az_idx : List String → String → Nat → Option Nat
  | [], _, _ => none
  | n :: t, E, i => if E = n then some i else az_idx t E (i + 1)
def az_nc : List String → List String → State → Prop := fun all ns s => ∀ E ∈ all, ∀ n ∈ ns, E ≠ n → va_Nc E n s
/-- the handlers of a wrapper: the i-th name's handler answers i (from 1 on) -/
def az_CW (X : az_X) (hh : List (Nat × Nat × Nat × Nat)) (names : List String) : Prop := match X with
  | (_, l, _, _, s, _, _, _, _, c, _, _, A, _, _) => c.exceptionTable.toList = tableOf hh ∧ l.stackTraces = false ∧ az_zq A s s.heap ∧ az_nc names names s
def s_cvX (n ci : Nat) (F : az_FX) (names : List String) (Qs : Option Value → az_M → Prop) (P : az_T) : az_T := fun ls st q M => match az_pop (n + 1) [] st with
  | some (.ref b :: as, rest) => b < M.1.1 ∧ (M.1.2.1 b).1 = ci ∧ rest.length ≤ 4 ∧ q.1 = 0 ∧ q.2 = 0 ∧ F (.ref b :: as) M (fun r M1 => P ls (r.toList ++ rest) (1, 6) M1) (fun E M1 => match az_idx names E 1 with
    | some i => Qs (some (.int (nI i))) M1
    | none => False)
  | _ => False
theorem s_cvX_o {n ci : Nat} {F : az_FX} {names : List String} {Qs : Option Value → az_M → Prop} {P : az_T} {ls st q M} (h : s_cvX n ci F names Qs P ls st q M) : ∃ (b : Nat) (as rest : List Value), as.length = n ∧ st = as.reverse ++ .ref b :: rest ∧ b < M.1.1 ∧ (M.1.2.1 b).1 = ci ∧ rest.length ≤ 4 ∧ q.1 = 0 ∧ q.2 = 0 ∧ F (.ref b :: as) M (fun r M1 => P ls (r.toList ++ rest) (1, 6) M1) (fun E M1 => match az_idx names E 1 with
    | some i => Qs (some (.int (nI i))) M1
    | none => False) := by
  unfold s_cvX at h
  split at h
  · rename_i b as rest heq
    obtain ⟨ps, h1, h2, h3⟩ := az_pop_eq heq
    rw [List.append_nil] at h3
    have h4 : ps = as.reverse ++ [.ref b] := by
      have := congrArg List.reverse h3
      rw [List.reverse_reverse] at this
      rw [← this]
      simp
    refine ⟨b, as, rest, ?_, ?_, h⟩
    · rw [h4] at h1
      simp at h1
      exact h1
    · rw [h2, h4]
      simp
  · exact h.elim
theorem az_idx_at : ∀ {ns : List String} {E : String} {i0 i : Nat}, az_idx ns E i0 = some i → ∃ k, i = i0 + k ∧ ns[k]? = some E ∧ ∀ j, j < k → ∀ n, ns[j]? = some n → E ≠ n
  | [], _, _, _, h => by cases h
  | n :: t, E, i0, i, h => by
    unfold az_idx at h
    split at h
    · rename_i he
      cases h
      exact ⟨0, rfl, by rw [he]; rfl, fun j hj => absurd hj (Nat.not_lt_zero j)⟩
    · rename_i hne
      obtain ⟨k, hk, hn, hb⟩ := az_idx_at h
      refine ⟨k + 1, by omega, by rw [List.getElem?_cons_succ]; exact hn, fun j hj n' hn' => ?_⟩
      cases j with
      | zero => cases hn'; exact hne
      | succ j => rw [List.getElem?_cons_succ] at hn'; exact hb j (by omega) n' hn'
theorem az_zq_at {A0 A1 : Nat → Prop} {s U : State} {H : Heap} {locs : List Loc} (h : az_zq A0 s s.heap) (hS : va_S A0 s.heap H locs) (hin : ∀ q, A1 q → A0 q) (hvm : s.vm.Alike U.vm) : az_zq A1 U H :=
  ⟨((h.1.kept hS.2.1).moved hvm).narrow hin, ((h.2.kept hS.2.1).moved hvm).narrow hin⟩
/-- what is said of the i-th handler: its row in the table, its name's words, its code (astore, iconst, ireturn) -/
def az_hd (cc : ByteArray) (nL : Nat) (own : String) (pc : Nat) (hh : List (Nat × Nat × Nat × Nat)) (names : List String) : Prop :=
  hh.length = names.length ∧ ∀ (i : Nat) (q : Nat × Nat × Nat × Nat) (n : String), hh[i]? = some q → names[i]? = some n → covers ⟨q.1, q.2.1, q.2.2.1, q.2.2.2⟩ pc = true ∧ q.2.2.2 ≠ 0 ∧ Cond.classLink own q.2.2.2 n ∈ az_gw ∧ Cond.castable n n ∈ az_nest ∧
    ∃ (a k : Nat), a < nL ∧ ((k = 2 ∧ decode cc q.2.2.1 = .ok (.astore a, 2)) ∨ (k = 1 ∧ ∃ f : Fin 4, (f : Nat) = a ∧ decode cc q.2.2.1 = .ok (.astore_n f, 1))) ∧ decode cc (q.2.2.1 + k) = .ok (.iconst (i + 1 : Nat), 1) ∧ Int32.ofInt ((i + 1 : Nat) : Int) = nI (i + 1) ∧ decode cc (q.2.2.1 + k + 1) = .ok (.ireturn, 1)
theorem az_tryV {X : az_X} {cc : ByteArray} {nL : Nat} {own : String} {Ts : List Cond} {rm : Room} {ret : Option FieldType} {Qs : Option Value → az_M → Prop} {pc : Nat} {index ci n N : Nat} {Cn : String} {T : u_T} {y : MethodName} {bytes : ByteArray} {maxL : Nat} {ret1 : Option FieldType} {rm1 : Room} {F : az_FX} {P : az_T} {hh : List (Nat × Nat × Nat × Nat)} {names : List String} (C : az_C X cc nL own Ts rm ret Qs) (CW : az_CW X hh names) (hret : ret = some .int) (hM : ∀ l : Launch, l.stackTraces = false → az_metX l y bytes maxL ret1 rm1 F) (kn : az_kn y bytes maxL ret1 n) (hin0 : Cond.instanceMethod y ∈ az_gw) (hse : Cond.selects Cn y y ∈ az_gw) (hlnk : Cond.methodLink own index y ∈ az_gw) (hc : vwCl[ci]? = some (Cn, T, N)) (hci : ci < 20) (hrm : rm1.cells = 1 ∧ rm1.slots = 6 ∧ rm1.frames + 1 ≤ rm.frames ∧ 8 + (maxL + 11) + rm1.locals ≤ rm.locals) (hcs : rm.cells = 1 ∧ rm.slots = 6) (hhd : az_hd cc nL own pc hh names) (d : decode cc pc = .ok (.invokevirtual index, 3)) (kk : az_ok X (pc + 3) P) : az_ok X pc (s_cvX n ci F names Qs P) := by
  obtain ⟨p, l, e, R, s, m, args, below, meth, c, D, tc, A, Q, RA⟩ := X
  obtain ⟨hx, hb, hml, hown, hts, hK, hN, hA, hlk, hr, hR, hsub, hQ⟩ := C
  intro ls st k M h ad H Ls locs hra hl hP hD hS hz
  obtain ⟨b, as, rest, hn, rfl, hb1, hk1, h4, hq1, hq2, hF⟩ := s_cvX_o h
  obtain ⟨htab, hlt, hzq, hnc⟩ := CW
  obtain ⟨k1, k2⟩ := k
  have hq1 : k1 = 0 := hq1
  have hq2 : k2 = 0 := hq2
  subst hq1; subst hq2
  subst hR
  have he := az_get (tc := tc) (ad := ad) hb1
  rw [az_obj hk1 hci] at he
  have hin : ∀ q, va_A (az_ws tc ad M) H.size q → A q := by
    rintro q (⟨k, x, hx⟩ | hx)
    · exact hD.2 k _ hx
    · exact hA q (Nat.le_trans hS.1 hx)
  have Mt := hM l hlt D tc ad H.size (.ref b :: as) M _ _ hF
  rw [hrm.1, hrm.2.1] at Mt
  have hrun := vx_runV (e := e) (below := below) (meth := meth) (As := as.map (az_v ad)) (rest := rest.map (az_v ad)) (b := ad b) (C := Cn) (g := F0 m pc Ls ((as.reverse ++ .ref b :: rest).map (az_v ad))) (locs := locs) (cells := 0) (slots := 0) ⟨hx, hb, hml, hown, hts⟩ Mt ⟨callB_of n hts (az_good hsub (az_sub_ts kn.1)) rfl hrm.1 hrm.2.1 (hts _ (hsub _ kn.2.1)) (hts _ (hsub _ hlnk)) ⟨kn.2.2.1, kn.2.2.2.1, kn.2.2.2.2⟩ ⟨hrm.2.2.1, hrm.2.2.2⟩, hts _ (hsub _ hin0), hts _ (hsub _ hse)⟩ ⟨(fun a U g mk q => by obtain ⟨q0, q1, qP, qK, qD, qN, qZ⟩ := q; exact ⟨q0, q1, qP, va_K.moved (u := U) (U := U.calling g mk a) (Vm.Alike.refl U.vm) qK, qD, az_nest_c (u := U) (U := U.calling g mk a) rfl qN, ⟨vx_Zq.moved (u := U) (U := U.calling g mk a) (Vm.Alike.refl U.vm) qZ.1, vx_Zq.moved (u := U) (U := U.calling g mk a) (Vm.Alike.refl U.vm) qZ.2⟩⟩), va_recv hK hP hc he, fun U hU hW => ⟨rfl, by rw [hU], by rw [hU]; exact hP, va_K.moved hW.alike hK, hD.weaken (fun _ _ _ _ => trivial), az_nest_w hW hN, by rw [hU]; exact az_zq_at hzq hS hin hW.alike⟩⟩ rfl (by rw [List.length_map]; exact hn) (hl.1.trans hml) (by simp [az_v]) (lv_room (m := m) (pc := pc) (ls := Ls) (rest := (as.reverse ++ .ref b :: rest).map (az_v ad)) (az_room h4)) d ⟨by rw [hcs.1]; exact Nat.le_refl _, by rw [hcs.2]; exact Nat.le_refl _⟩
  intro T0 hT Xs
  have keep : ∀ {st₀ t T' : State} {L : List Loc}, st₀.heap = H → T'.heap = t.heap → (∀ q ∈ L, va_A (az_ws tc ad M) H.size q.base) → va_F (va_A (az_ws tc ad M) H.size) st₀ t → va_S A s.heap T'.heap (locs ++ L) := by
    intro st₀ t T' L h0 e1 hL hF1
    obtain ⟨hz1, hk2⟩ := hF1
    rw [h0] at hz1 hk2
    exact ⟨Nat.le_trans hS.1 (by rw [e1]; exact hz1), fun q h1 h2 => by rw [e1, hk2 q (Nat.lt_of_lt_of_le h1 hS.1) (fun z => h2 (hin q z))]; exact hS.2.1 q h1 h2, fun q hq => by
      rcases List.mem_append.mp hq with h | h
      · exact hS.2.2 q h
      · exact hin _ (hL q h)⟩
  rcases hrun T0 hT Xs with ⟨v, st₀, t, T', L, h0, X', hL, e1, e2, ⟨⟨r, M1, hv, hq, hnr, ad1, had, hP1, hD1⟩, hF1⟩, sx⟩ | ⟨qq, st₀, t, T', L, E, ce, h0, X', hL, e1, e2, ⟨⟨M1, hXs, ad1, had, hP1, hD1⟩, hF1⟩, hce, hcv, hcl, sx⟩
  · cases hv
    cases had
    have hS1 := keep h0 e1 hL hF1
    have kk1 := kk ls _ (1, 6) M1 hq ad T'.heap Ls (locs ++ L) hra hl (by rw [e1]; exact hP1) (hD1.weaken (fun _ _ _ h => hin _ h)) hS1 ⟨by rw [hcs.1]; exact Nat.le_refl _, by rw [hcs.2]; exact Nat.le_refl _⟩
    rw [az_app_v hnr] at kk1
    obtain ⟨t2, a1, b1⟩ := kk1 T' rfl X'
    exact ⟨t2, sx t2 a1, b1⟩
  · cases had
    have hS1 := keep h0 e1 hL hF1
    have hXs1 := hXs
    split at hXs1
    · rename_i i hidx
      obtain ⟨j, rfl, hnj, hbef⟩ := az_idx_at hidx
      obtain ⟨hlen, hall⟩ := hhd
      have hjl : j < names.length := (List.getElem?_eq_some_iff.mp hnj).1
      obtain ⟨qh, hqh⟩ : ∃ qh, hh[j]? = some qh := ⟨_, List.getElem?_eq_getElem (by omega)⟩
      obtain ⟨hcov, hct, hcl1, hcast, a, kk2, han, hast, hic, hicv, hir⟩ := hall j qh E hqh hnj
      have hsplit : c.exceptionTable.toList = (tableOf hh).take j ++ ⟨qh.1, qh.2.1, qh.2.2.1, qh.2.2.2⟩ :: (tableOf hh).drop (j + 1) := by
        rw [htab]
        have hg : (tableOf hh)[j]? = some ⟨qh.1, qh.2.1, qh.2.2.1, qh.2.2.2⟩ := by
          unfold tableOf
          rw [List.getElem?_map, hqh]
          rfl
        have hlt2 := (List.getElem?_eq_some_iff.mp hg).1
        have heq2 := (List.getElem?_eq_some_iff.mp hg).2
        rw [← heq2, ← List.drop_eq_getElem_cons hlt2, List.take_append_drop]
      have hpass : ∀ z ∈ (tableOf hh).take j, covers z pc = false ∨ (z.catchType ≠ 0 ∧ ∃ nm : String, (Cond.classLink own z.catchType nm).before args s = true ∧ va_Nc E nm s) := by
        intro z hz9
        obtain ⟨i2, hi2⟩ := List.getElem?_of_mem hz9
        have hij : i2 < j := by
          have h8 := (List.getElem?_eq_some_iff.mp hi2).1
          rw [List.length_take] at h8
          omega
        rw [List.getElem?_take_of_lt hij] at hi2
        unfold tableOf at hi2
        rw [List.getElem?_map] at hi2
        obtain ⟨q2, hq2⟩ : ∃ q2, hh[i2]? = some q2 := ⟨_, List.getElem?_eq_getElem (by omega)⟩
        obtain ⟨n2, hn2⟩ : ∃ n2, names[i2]? = some n2 := ⟨_, List.getElem?_eq_getElem (by omega)⟩
        rw [hq2] at hi2
        cases hi2
        obtain ⟨-, g2, g3, -, -⟩ := hall i2 q2 n2 hq2 hn2
        exact Or.inr ⟨g2, n2, hts _ (hsub _ g3), hnc E (List.mem_of_getElem? hnj) n2 (List.mem_of_getElem? hn2) (hbef i2 hij n2 hn2)⟩
      have hdone : W p l e R s m args below meth c T'.heap (locs ++ L) 1 6 Q (F0 m qh.2.2.1 Ls [.ref qq]) := by
        have hfin : ∀ (pc2 : Nat) (Ls2 : Array Slot), decode cc pc2 = .ok (.iconst (j + 1 : Nat), 1) → decode cc (pc2 + 1) = .ok (.ireturn, 1) → W p l e R s m args below meth c T'.heap (locs ++ L) 1 6 Q (F0 m pc2 Ls2 []) := by
          intro pc2 Ls2 dd1 dd2
          refine lv_iconst hx hb dd1 hicv ?_
          refine W.widen (k := R.cells) (n := R.slots) (by rw [hcs.1]; exact Nat.le_refl _) (by rw [hcs.2]; exact Nat.le_refl _) ?_
          exact hQ T'.heap (locs ++ L) _ (W.iret hx hb (hr.trans hret) (fun t9 ht9 hW9 => ⟨⟨_, M1, rfl, by rw [show j + 1 = 1 + j by omega]; exact hXs1, (fun _ hq => by cases hq), ad, hra, by rw [ht9, e1]; exact hP1, hD1.weaken (fun _ _ _ h => hin _ h)⟩, hS1.F ht9⟩) hS1.2.2 dd2 hlk)
        rcases hast with ⟨rfl, da⟩ | ⟨rfl, f, hf, da⟩
        · exact lv_astore hx hb da hl (by rw [hml]; exact han) rfl (fun Ls2 _ => hfin _ Ls2 hic hir)
        · exact lv_astore_n hx hb da hf hl (by rw [hml]; exact han) rfl (fun Ls2 _ => hfin _ Ls2 hic hir)
      have hcat := vx_catch (pc := pc) (ls := Ls) (rest := rest.map (az_v ad)) hown _ _ _ hsplit hpass hcov hct (hts _ (hsub _ hcl1)) (va_Nw.use rfl (hN _ hcast)) (by rw [e1]; exact hce) hcv hcl hdone
      obtain ⟨t2, a1, b1⟩ := hcat T' rfl X'
      exact ⟨t2, sx.trans a1, b1⟩
    · exact hXs1.elim
/-- a wrapper's contract -/
def az_metW (l : Launch) (y : MethodName) (cc : ByteArray) (nL : Nat) (ret : Option FieldType) (hh : List (Nat × Nat × Nat × Nat)) (names : List String) (rm : Room) (F : az_F) : Prop := ∀ (D : va_G) (tc : Nat → ClassId) (ad : Nat → Nat) (sz : Nat) (as : List Value) (M : az_M) (Q : Option Value → az_M → Prop), F as M Q →
  Met l y (.codeWith y cc nL ret hh :: az_gw) rm (va_Pc (as.map (az_v ad)) (fun U => U.heap.size = sz ∧ va_P D vwCl (az_ws tc ad M) U.heap ∧ va_K D vwCl (az_tys tc) U ∧ va_D (fun _ => True) (az_ws tc ad M) ∧ (∀ w ∈ az_nest, va_Nw w U) ∧ az_zq (va_A (az_ws tc ad M) sz) U U.heap ∧ az_nc names names U)) (az_Q D tc (fun ad' => ad' = ad) (va_A (az_ws tc ad M) sz) Q) rm.cells rm.slots (va_A (az_ws tc ad M) sz)
theorem az_ofWH {l : Launch} {y : MethodName} {ws ws' : List Cond} {rm : Room} {Pc : Array Value → State → Prop} {Qc : Array Value → State → Outcome → State → Prop} {mc ms : Nat} {free : Addr → Prop} {cc : ByteArray} {maxL : Nat} {ret : Option FieldType} {hh : List (Nat × Nat × Nat × Nat)}
    (hy : plainName y.cls = true) (hw : ws = Cond.codeWith y cc maxL ret hh :: ws')
    (body : ∀ p e s m args below meth c s₁, BodyLoose p l y (headSpec ws rm) cc maxL ret e s m args below meth c s₁ → c.maxLocals = maxL → Pc args s →
      W p l e (headSpec ws rm).room s m args below meth c s.heap [] 0 0 (MQ below Qc args s mc ms free) (entryFrame m args maxL)) : Met l y ws rm Pc Qc mc ms free := by
  refine MetFree.of_bodyS (code := cc) (maxLocals := maxL) (ret := ret) hy ?_ ?_
  · intro args s m h hn
    obtain ⟨m9, meth, c, hn9, h1, h2, h3, h4, -, h5, h6, -⟩ := Cond.codeWith_spec (atoms_spec (ws := ws) h _ (by rw [hw]; exact List.mem_cons_self))
    cases hn.symm.trans hn9
    exact ⟨meth, c, h1, h2, h3, h4, h5, h6⟩
  · intro p e s m args below meth c s₁ B hml hP _
    have hh0 : s₁.heap = s.heap := by rw [B.state]; rfl
    obtain ⟨t, a1, o, b1, b2, b3⟩ := body p e s m args below meth c s₁ B hml hP s₁ hh0 (Stand.of_body B)
    exact ⟨t, o, a1, b1, b2, ⟨b3.1, b3.2⟩⟩
theorem az_metW_of {y : MethodName} {cc : ByteArray} {nL : Nat} {ret : Option FieldType} {own : String} {rm : Room} {ps : List Bool} {hh : List (Nat × Nat × Nat × Nat)} {names : List String} {Pm : (Option Value → az_M → Prop) → az_T} (hy : plainName y.cls = true) (hown : y.cls = own) (hps : ps.length ≤ nL)
    (body : ∀ (X : az_X) (Qs : Option Value → az_M → Prop), az_C X cc nL own (.codeWith y cc nL ret hh :: az_gw) rm ret Qs → az_CW X hh names → az_ok X 0 (Pm Qs)) (l : Launch) (hlt : l.stackTraces = false) : az_metW l y cc nL ret hh names rm (az_fun ps nL Pm) := by
  intro D tc ad sz as M Q hF
  obtain ⟨hpat, hQ⟩ := hF
  have hcat := az_pat_cat hpat
  have hlen := az_pat_len hpat
  refine az_ofWH (cc := cc) (maxL := nL) (ret := ret) (hh := hh) hy rfl ?_
  intro p e s m args below meth c s₁ B hml hv
  obtain ⟨rfl, hsz, hP, hK, hD0, hN, hzq, hnc⟩ := hv
  subst hsz
  have hD := hD0.self (sz := s.heap.size)
  have hcat2 : ∀ u ∈ as.map (az_v ad), u.category = 1 := fun u hu => by
    obtain ⟨w, hw, rfl⟩ := List.mem_map.mp hu
    exact az_cat_v (hcat w hw)
  have hlg : (lg_sl (as.map (az_v ad))).length ≤ nL := by
    rw [az_lg_len _ hcat2, List.length_map, hlen]
    exact hps
  have hl := lv_entry (as.map (az_v ad)) (n := nL) hlg
  rw [lg_entry_eq]
  generalize (lg_sl (as.map (az_v ad)) ++ List.replicate (nL - (lg_sl (as.map (az_v ad))).length) Slot.unset).toArray = Ls at hl ⊢
  have hown2 : s.vm.findClass own = some m.cls := by
    rw [← hown]
    exact findClass_of_methodNamed B.named
  have hin := az_in_has (ad := ad) (nL := nL) hcat hl
  have hts := atoms_spec (ws := Cond.codeWith y cc nL ret hh :: az_gw) B.pre
  have htab := vx_table (x := y) B (hts _ List.mem_cons_self)
  refine body (p, l, e, (headSpec (Cond.codeWith y cc nL ret hh :: az_gw) rm).room, s, m, (as.map (az_v ad)).toArray, below, meth, c, D, tc, va_A (az_ws tc ad M) s.heap.size, MQ below (az_Q D tc (fun ad' => ad' = ad) (va_A (az_ws tc ad M) s.heap.size) Q) (as.map (az_v ad)).toArray s rm.cells rm.slots (va_A (az_ws tc ad M) s.heap.size), (fun ad' => ad' = ad)) Q
    ⟨B.exec, B.bytes, hml, hown2, hts, hK, hN, fun q h => Or.inr h, B.notSynchronized, B.returns, rfl, fun w h => List.mem_cons_of_mem _ h, fun _ _ _ k => k⟩ ⟨htab, hlt, hzq, hnc⟩ (az_in nL as) [] (0, 0) M hQ ad s.heap Ls [] rfl (by rw [hml]; exact hin) hP hD va_S.rf ⟨Nat.zero_le _, Nat.zero_le _⟩
theorem az_lk2 {X : az_X} {cc : ByteArray} {nL : Nat} {own : String} {Ts : List Cond} {rm : Room} {ret : Option FieldType} {Qs : Option Value → az_M → Prop} {pc : Nat} {dflt o0 o1 : Int} {len td t0 t1 : Nat} {P0 P1 Pd : az_T} (C : az_C X cc nL own Ts rm ret Qs) (d : decode cc pc = .ok (.lookupswitch dflt #[(0, o0), (1, o1)], len)) (hd : (pc : Int) + dflt = (td : Int)) (h0 : (pc : Int) + o0 = (t0 : Int)) (h1 : (pc : Int) + o1 = (t1 : Int)) (kd : az_ok X td Pd) (k0 : az_ok X t0 P0) (k1 : az_ok X t1 P1) : az_ok X pc (s_sw 0 [P0, P1] Pd) := by
  obtain ⟨p, l, e, R, s, m, args, below, meth, c, D, tc, A, Q, RA⟩ := X
  obtain ⟨hx, hb, hml, hown, hts, hK, hN, hA, hlk, hr, hR, hsub, hQ⟩ := C
  intro ls st k M h ad H Ls locs hra hl hP hD hS hz
  unfold s_sw at h
  split at h
  · rename_i x st1
    obtain ⟨g1, g2⟩ := h
    by_cases e0 : x.toInt = 0
    · exact lv_lookup hx hb d (by simp) (off := o0) (by rw [e0]; rfl) h0 (k0 ls st1 k M (g2 0 P0 rfl (by simp [e0])) ad H Ls locs hra hl hP hD hS hz)
    · by_cases e1 : x.toInt = 1
      · exact lv_lookup hx hb d (by simp) (off := o1) (by rw [e1]; rfl) h1 (k1 ls st1 k M (g2 1 P1 rfl (by simp [e1])) ad H Ls locs hra hl hP hD hS hz)
      · exact lv_lookup hx hb d (by simp) (off := dflt) (by simp [Op.lookupswitch.offset, Ne.symm e0, Ne.symm e1]) hd (kd ls st1 k M (g1 (by simp only [List.length_cons, List.length_nil]; omega)) ad H Ls locs hra hl hP hD hS hz)
  · exact h.elim
