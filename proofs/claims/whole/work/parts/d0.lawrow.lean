/-! the law's own rows: its script, the wrappers, floats in locals -/
def exN : List String := ["java/lang/ArithmeticException", "java/lang/IllegalArgumentException", "java/lang/IllegalStateException", "java/lang/IndexOutOfBoundsException", "java/lang/UnsupportedOperationException", "java/util/NoSuchElementException"]
def az_LX (X : az_X) (L : Nat) (xs : Nat → Int32) : Prop := match X with
  | (_, l, _, _, s, _, _, _, _, _, _, _, A, _, RA) => l.stackTraces = false ∧ az_zq A s s.heap ∧ az_nc exN exN s ∧ ∃ b : Nat, va_X b L xs s s.heap ∧ b < s.heap.size ∧ ¬ A b ∧ ∀ ad, RA ad → ad 1000 = b
def sF : az_T := fun _ _ _ _ => False
theorem az_sF {X : az_X} {pc : Nat} : az_ok X pc sF := fun _ _ _ _ h => h.elim
def s_sln (L : Nat) (P : az_T) : az_T := fun ls st q M => match st with
  | .ref a :: st => a = 1000 ∧ P ls (.int (Int32.ofNat L) :: st) q M
  | _ => False
theorem az_sln {X : az_X} {cc : ByteArray} {nL : Nat} {own : String} {Ts : List Cond} {rm : Room} {ret : Option FieldType} {Qs : Option Value → az_M → Prop} {pc L : Nat} {xs : Nat → Int32} {P : az_T} (C : az_C X cc nL own Ts rm ret Qs) (LX : az_LX X L xs) (d : decode cc pc = .ok (.arraylength, 1)) (kk : az_ok X (pc + 1) P) : az_ok X pc (s_sln L P) := by
  obtain ⟨p, l, e, R, s, m, args, below, meth, c, D, tc, A, Q, RA⟩ := X
  obtain ⟨hx, hb, hml, hown, hts, hK, hN, hA, hlk, hr, hR, hsub, hQ⟩ := C
  obtain ⟨-, -, -, b, hX, hbl, hbA, hb2⟩ := LX
  intro ls st k M h ad H Ls locs hra hl hP hD hS hz
  unfold s_sln at h
  split at h
  · rename_i a st1
    obtain ⟨rfl, h⟩ := h
    rw [List.map_cons, show az_v ad (.ref 1000) = .ref b from congrArg Value.ref (hb2 ad hra)]
    exact va_slen hx hb hX hbl hbA hS d (kk ls _ k M h ad H Ls locs hra hl hP hD hS hz)
  · exact h.elim
def s_sx (L : Nat) (xs : Nat → Int32) (P : az_T) : az_T := fun ls st q M => match st with
  | .int i :: .ref a :: st => a = 1000 ∧ vp_in i L ∧ P ls (.int (xs i.toNatClampNeg) :: st) q M
  | _ => False
theorem az_sx {X : az_X} {cc : ByteArray} {nL : Nat} {own : String} {Ts : List Cond} {rm : Room} {ret : Option FieldType} {Qs : Option Value → az_M → Prop} {pc L : Nat} {xs : Nat → Int32} {P : az_T} (C : az_C X cc nL own Ts rm ret Qs) (LX : az_LX X L xs) (d : decode cc pc = .ok (.iaload, 1)) (kk : az_ok X (pc + 1) P) : az_ok X pc (s_sx L xs P) := by
  obtain ⟨p, l, e, R, s, m, args, below, meth, c, D, tc, A, Q, RA⟩ := X
  obtain ⟨hx, hb, hml, hown, hts, hK, hN, hA, hlk, hr, hR, hsub, hQ⟩ := C
  obtain ⟨-, -, -, b, hX, hbl, hbA, hb2⟩ := LX
  intro ls st k M h ad H Ls locs hra hl hP hD hS hz
  unfold s_sx at h
  split at h
  · rename_i i a st1
    obtain ⟨rfl, hin, h⟩ := h
    rw [List.map_cons, List.map_cons, show az_v ad (.ref 1000) = .ref b from congrArg Value.ref (hb2 ad hra)]
    exact va_sld hx hb hX hbl hbA hS hin d (kk ls _ k M h ad H Ls locs hra hl hP hD hS hz)
  · exact h.elim
/-- a place of the script behind the position -/
def s_ar (L : Nat) (xs : Nat → Int32) (j : Nat) (P : az_T) : az_T := s_la 0 (s_li 5 (s_ic (nI j) (s_bin f_add (s_sx L xs P))))
theorem az_ar {X : az_X} {cc : ByteArray} {nL : Nat} {own : String} {Ts : List Cond} {rm : Room} {ret : Option FieldType} {Qs : Option Value → az_M → Prop} {pc L j : Nat} {xs : Nat → Int32} {P : az_T} {n : Int} (C : az_C X cc nL own Ts rm ret Qs) (LX : az_LX X L xs) (d0 : decode cc pc = .ok (.aload_n 0, 1)) (d1 : decode cc (pc + 1) = .ok (.iload 5, 2)) (d2 : decode cc (pc + 1 + 2) = .ok (.iconst n, 1)) (hn : Int32.ofInt n = nI j) (d3 : decode cc (pc + 1 + 2 + 1) = .ok (.iadd, 1)) (d4 : decode cc (pc + 1 + 2 + 1 + 1) = .ok (.iaload, 1)) (kk : az_ok X (pc + 6) P) : az_ok X pc (s_ar L xs j P) :=
  az_aload_n C 0 rfl d0 (az_iload C d1 (az_iconst (x := nI j) C d2 hn (az_iadd C d3 (az_sx C LX d4 kk))))
def s_fst (i : Nat) (P : az_T) : az_T := fun ls st k M => match st with
  | .float x :: st => P (az_sl ls i (.float x)) st k M
  | _ => False
theorem az_fstore {X : az_X} {cc : ByteArray} {nL : Nat} {own : String} {Ts : List Cond} {rm : Room} {ret : Option FieldType} {Qs : Option Value → az_M → Prop} {pc : Nat} {i : Nat} {P : az_T} (C : az_C X cc nL own Ts rm ret Qs) (hi : i < nL) (d : decode cc pc = .ok (.fstore i, 2)) (kk : az_ok X (pc + 2) P) : az_ok X pc (s_fst i P) := by
  obtain ⟨p, l, e, R, s, m, args, below, meth, c, D, tc, A, Q, RA⟩ := X
  obtain ⟨hx, hb, hml, hown, hts, hK, hN, hA, hlk, hr, hR, hsub, hQ⟩ := C
  intro ls st k M h ad H Ls locs hra hl hP hD hS hz
  unfold s_fst at h
  split at h
  · rename_i x st1
    exact lv_fstore hx hb d hl (by rw [hml]; exact hi) rfl (fun Ls1 hl1 => kk _ st1 k M h ad H Ls1 locs hra (az_lv_put (v := .float x) rfl hl1) hP hD hS hz)
  · exact h.elim
def s_fld (i : Nat) (P : az_T) : az_T := fun ls st k M => match az_gl ls i with
  | some (.float x) => P ls (.float x :: st) k M
  | _ => False
theorem az_fload {X : az_X} {cc : ByteArray} {nL : Nat} {own : String} {Ts : List Cond} {rm : Room} {ret : Option FieldType} {Qs : Option Value → az_M → Prop} {pc : Nat} {i : Nat} {P : az_T} (C : az_C X cc nL own Ts rm ret Qs) (d : decode cc pc = .ok (.fload i, 2)) (kk : az_ok X (pc + 2) P) : az_ok X pc (s_fld i P) := by
  obtain ⟨p, l, e, R, s, m, args, below, meth, c, D, tc, A, Q, RA⟩ := X
  obtain ⟨hx, hb, hml, hown, hts, hK, hN, hA, hlk, hr, hR, hsub, hQ⟩ := C
  intro ls st k M h ad H Ls locs hra hl hP hD hS hz
  unfold s_fld at h
  split at h
  · rename_i x hg
    exact lv_fload hx hb d (az_lv_at hl hg rfl) (kk ls (.float x :: st) k M h ad H Ls locs hra hl hP hD hS hz)
  · exact h.elim
/-- behind a call of a method that throws and catches at its own cost -/
theorem az_backW {p : Program} {l : Launch} {e : Env} {R : Room} {s : State} {m : MethodId} {args a : Array Value} {below : List Frame} {meth : Method} {c : Code} {H : Heap} {locs : List Loc} {cells slots mc ms pc : Nat} {D : va_G} {tc ad : Nat → Nat} {A : Nat → Prop} {Qf : State → Prop} {M : az_M} {Ls : Array Slot} {st0 rest : List Value} {Qs : Option Value → az_M → Prop}
    (hr : va_Run p l e R s m args below meth c H locs cells slots mc ms (F0 m pc Ls st0) rest (az_Q D tc (fun ad' => ad' = ad) (va_A (az_ws tc ad M) H.size) Qs a) (va_A (az_ws tc ad M) H.size)) (hD : va_D A (az_ws tc ad M)) (hS : va_S A s.heap H locs) (hA : ∀ q, s.heap.size ≤ q → A q)
    (kk : ∀ (r : Option Value) (M1 : az_M) (H1 : Heap) (locs1 : List Loc), Qs r M1 → (∀ b : Nat, r ≠ some (.ref b)) → va_P D vwCl (az_ws tc ad M1) H1 → va_D A (az_ws tc ad M1) → va_S A s.heap H1 locs1 → W p l e R s m args below meth c H1 locs1 (cells + mc) (slots + ms) Qf (F0 m (pc + 3) Ls (r.toList ++ rest))) : W p l e R s m args below meth c H locs cells slots Qf (F0 m pc Ls st0) := by
  have hin : ∀ q, va_A (az_ws tc ad M) H.size q → A q := by
    rintro q (⟨k, x, hx⟩ | hx)
    · exact hD.2 k _ hx
    · exact hA q (Nat.le_trans hS.1 hx)
  intro T hT Xs
  obtain ⟨v, st₀, t, T', L, h0, X', hL, e1, e2, ⟨⟨r, M1, hv, hq, hnr, ad1, had, hP1, hD1⟩, hz, hk⟩, st⟩ := hr T hT Xs
  cases hv
  cases had
  rw [h0] at hz hk
  have hS1 : va_S A s.heap T'.heap (locs ++ L) := ⟨Nat.le_trans hS.1 (by rw [e1]; exact hz), fun q h1 h2 => by rw [e1, hk q (Nat.lt_of_lt_of_le h1 hS.1) (fun z => h2 (hin q z))]; exact hS.2.1 q h1 h2, fun q hq => by
    rcases List.mem_append.mp hq with h | h
    · exact hS.2.2 q h
    · exact hin _ (hL q h)⟩
  obtain ⟨t2, a1, b1⟩ := kk v M1 T'.heap (locs ++ L) hq hnr (by rw [e1]; exact hP1) (hD1.weaken (fun _ _ _ h => hin _ h)) hS1 T' rfl X'
  exact ⟨t2, st t2 a1, b1⟩
def s_cw6 (cm sm n : Nat) (F : az_F) (P : az_T) : az_T := fun ls st q M => match az_pop n [] st with
  | some (as, rest) => rest.length ≤ 4 ∧ q.1 + 1 ≤ cm ∧ q.2 + 6 ≤ sm ∧ F as M (fun r M1 => P ls (r.toList ++ rest) (q.1 + 1, q.2 + 6) M1)
  | _ => False
theorem s_cw6_o {cm sm n : Nat} {F : az_F} {P : az_T} {ls st q M} (h : s_cw6 cm sm n F P ls st q M) : ∃ (as rest : List Value), as.length = n ∧ st = as.reverse ++ rest ∧ rest.length ≤ 4 ∧ q.1 + 1 ≤ cm ∧ q.2 + 6 ≤ sm ∧ F as M (fun r M1 => P ls (r.toList ++ rest) (q.1 + 1, q.2 + 6) M1) := by
  unfold s_cw6 at h
  split at h
  · rename_i as rest heq
    obtain ⟨ps, h1, h2, h3⟩ := az_pop_eq heq
    rw [List.append_nil] at h3
    refine ⟨as, rest, ?_, ?_, h⟩
    · rw [h3, List.length_reverse, h1]
    · rw [h2, h3, List.reverse_reverse]
  · exact h.elim
theorem az_callW6 {X : az_X} {cc : ByteArray} {nL : Nat} {own : String} {Ts : List Cond} {rm : Room} {ret : Option FieldType} {Qs : Option Value → az_M → Prop} {pc cm sm L : Nat} {xs : Nat → Int32} {index n : Nat} {y : MethodName} {bytes : ByteArray} {maxL : Nat} {ret1 : Option FieldType} {hh : List (Nat × Nat × Nat × Nat)} {names : List String} {rm1 : Room} {F : az_F} {P : az_T} (C : az_C X cc nL own Ts rm ret Qs) (LX : az_LX X L xs) (hcm : cm ≤ rm.cells) (hsm : sm ≤ rm.slots) (hM : ∀ l : Launch, l.stackTraces = false → az_metW l y bytes maxL ret1 hh names rm1 F) (hkn : Cond.codeWith y bytes maxL ret1 hh ∈ az_gw ∧ Cond.initialized y.cls ∈ az_gw ∧ Cond.static y ∈ az_gw ∧ Cond.methodLink own index y ∈ az_gw) (hyd : y.cls ≠ "java/lang/invoke/MethodHandle" ∧ y.cls ≠ "java/lang/invoke/VarHandle" ∧ (parseMethodDescriptor y.desc).map (fun d => d.parameters.length) = some n) (hnm : ∀ z ∈ names, z ∈ exN) (hrm : rm1.cells = 1 ∧ rm1.slots = 6 ∧ rm1.frames + 1 ≤ rm.frames ∧ 8 + (maxL + 11) + rm1.locals ≤ rm.locals) (d : decode cc pc = .ok (.invokestatic index, 3)) (kk : az_ok X (pc + 3) P) : az_ok X pc (s_cw6 cm sm n F P) := by
  obtain ⟨p, l, e, R, s, m, args, below, meth, c, D, tc, A, Q, RA⟩ := X
  obtain ⟨hx, hb, hml, hown, hts, hK, hN, hA, hlk, hr, hR, hsub, hQ⟩ := C
  obtain ⟨hlt, hzq, hnc, -⟩ := LX
  intro ls st k M h ad H Ls locs hra hl hP hD hS hz
  obtain ⟨as, rest, hn, rfl, h4, hc1, hc2, hF⟩ := s_cw6_o h
  subst hR
  have hin : ∀ q, va_A (az_ws tc ad M) H.size q → A q := by
    rintro q (⟨k, x, hx⟩ | hx)
    · exact hD.2 k _ hx
    · exact hA q (Nat.le_trans hS.1 hx)
  have Mt := hM l hlt D tc ad H.size as M _ hF
  rw [hrm.1, hrm.2.1] at Mt
  have hgd : GoodIn Ts (va_wsS own index y (Cond.codeWith y bytes maxL ret1 hh :: az_gw)) := az_good hsub (by
    intro w hw
    unfold va_wsS at hw
    simp only [List.cons_append, List.nil_append, List.mem_cons] at hw
    rcases hw with rfl | rfl | rfl | rfl | hw
    · exact hkn.2.2.2
    · exact hkn.2.2.1
    · exact hkn.2.1
    · exact hkn.1
    · exact hw)
  have hrun := vx_runSW (p := p) (l := l) (e := e) (R := R) (below := below) (meth := meth) (H := H) (As := as.map (az_v ad)) (rest := rest.map (az_v ad)) (g := F0 m pc Ls ((as.reverse ++ rest).map (az_v ad))) (locs := locs) (cells := k.1) (slots := k.2) ⟨hx, hb, hml, hown, hts⟩ Mt (vx_cwSW n hts hgd rfl hrm.1 hrm.2.1 hyd ⟨hrm.2.2.1, hrm.2.2.2⟩) ⟨(fun a U g mk q => by obtain ⟨q0, q1, qP, qK, qD, qN, qZ, qC⟩ := q; exact ⟨q0, q1, qP, va_K.moved (u := U) (U := U.calling g mk a) (Vm.Alike.refl U.vm) qK, qD, az_nest_c (u := U) (U := U.calling g mk a) rfl qN, ⟨vx_Zq.moved (u := U) (U := U.calling g mk a) (Vm.Alike.refl U.vm) qZ.1, vx_Zq.moved (u := U) (U := U.calling g mk a) (Vm.Alike.refl U.vm) qZ.2⟩, fun E hE z hz2 hne => va_Nc.moved (u := U) (U := U.calling g mk a) (Vm.Alike.refl U.vm) (qC E hE z hz2 hne)⟩), fun U hU hW => ⟨rfl, by rw [hU], by rw [hU]; exact hP, va_K.moved hW.alike hK, hD.weaken (fun _ _ _ _ => trivial), az_nest_w hW hN, by rw [hU]; exact az_zq_at hzq hS hin hW.alike, fun E hE z hz2 hne => va_Nc.moved hW.alike (hnc E (hnm E hE) z (hnm z hz2) hne)⟩⟩ rfl (by rw [List.length_map]; exact hn) (hl.1.trans hml) (by simp) (lv_room (m := m) (pc := pc) (ls := Ls) (rest := (as.reverse ++ rest).map (az_v ad)) (az_room h4)) d ⟨by omega, by omega⟩
  exact az_backW hrun hD hS hA (fun r M1 H1 locs1 hq hnr hP1 hD1 hS1 => by
    have := kk ls _ (k.1 + 1, k.2 + 6) M1 hq ad H1 Ls locs1 hra hl hP1 hD1 hS1 ⟨by show k.1 + 1 ≤ _; omega, by show k.2 + 6 ≤ _; omega⟩
    rw [az_app_v hnr] at this
    exact this)
