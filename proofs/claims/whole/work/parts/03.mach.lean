/-! MY LAYER: objects have numbers (their places in the world's list), 'ad' says where each lies in the heap; a point of a method is an az_ok: from every state that the predicate holds of, the machine comes to its end. -/
abbrev az_M : Type := (Nat × (Nat → Nat × Nat) × (Nat → Nat → Option Nat)) × (Nat → Nat → Int32) × (Nat → Nat → Int64) × (Nat → Nat → UInt64)
def az_up {α : Type} (f : Nat → Nat → α) (a j : Nat) (x : α) : Nat → Nat → α := fun b i => if b = a ∧ i = j then x else f b i
abbrev az_setI (M : az_M) (a j : Nat) (x : Int32) : az_M := (M.1, az_up M.2.1 a j x, M.2.2)
abbrev az_setL (M : az_M) (a j : Nat) (x : Int64) : az_M := (M.1, M.2.1, az_up M.2.2.1 a j x, M.2.2.2)
abbrev az_setD (M : az_M) (a j : Nat) (x : UInt64) : az_M := (M.1, M.2.1, M.2.2.1, az_up M.2.2.2 a j x)
abbrev az_setR (M : az_M) (a j : Nat) (x : Option Nat) : az_M := ((M.1.1, M.1.2.1, az_up M.1.2.2 a j x), M.2)
def az_v (ad : Nat → Nat) : Value → Value
  | .ref k => .ref (ad k)
  | v => v
def az_rf (ad : Nat → Nat) : Option Nat → Value
  | some k => .ref (ad k)
  | none => .null
theorem az_rf_eq (ad : Nat → Nat) (r : Option Nat) : az_rf ad r = va_rf (r.map ad) := by cases r <;> rfl
def az_isI (k j : Nat) : Bool := match vwCl[k]? with
  | some q => decide ((q.2.1 j).2.2.1 = "I") || decide ((q.2.1 j).2.2.1 = "Z")
  | none => false
def az_nf (k : Nat) : Nat := match vwCl[k]? with
  | some q => q.2.2
  | none => 0
def az_fs (ad : Nat → Nat) (M : az_M) (a k : Nat) : List Value := (List.range (az_nf k)).map fun j => if az_isI k j = true then .int (M.2.1 a j) else az_rf ad (M.1.2.2 a j)
def az_arr (ad : Nat → Nat) (M : az_M) (a k n : Nat) : vp_A :=
  if k < 23 then (n, .inl (M.2.1 a)) else if k = 23 then (n, .inr (.inl (M.2.2.1 a))) else if k = 24 then (n, .inr (.inr (.inr (.inl (M.2.2.2 a))))) else (n, .inr (.inr (.inr (.inr (fun j => (M.1.2.2 a j).map ad)))))
def az_cell (tc : Nat → ClassId) (ad : Nat → Nat) (M : az_M) (a : Nat) : va_E :=
  if (M.1.2.1 a).1 < 20 then .inr ((M.1.2.1 a).1, az_fs ad M a (M.1.2.1 a).1) else .inl (tc (M.1.2.1 a).1, az_arr ad M a (M.1.2.1 a).1 (M.1.2.1 a).2)
def az_ws (tc : Nat → ClassId) (ad : Nat → Nat) (M : az_M) : va_W := (List.range M.1.1).map fun a => (ad a, az_cell tc ad M a)
def az_tys (tc : Nat → ClassId) : List (ClassId × FieldType) := [(tc 20, .int), (tc 21, .boolean), (tc 22, .char), (tc 23, .long), (tc 24, .double), (tc 25, .array .int), (tc 26, .object "UnitCommitment$State")]
theorem az_get {tc : Nat → ClassId} {ad : Nat → Nat} {M : az_M} {a : Nat} (h : a < M.1.1) : (az_ws tc ad M)[a]? = some (ad a, az_cell tc ad M a) := by
  unfold az_ws
  rw [List.getElem?_map, List.getElem?_range h]
  rfl
theorem az_set {tc : Nat → ClassId} {ad : Nat → Nat} {M M' : az_M} {a : Nat} {e : va_E} (hn : M'.1.1 = M.1.1) (he : az_cell tc ad M' a = e) (ho : ∀ b, b ≠ a → az_cell tc ad M' b = az_cell tc ad M b) : (az_ws tc ad M).set a (ad a, e) = az_ws tc ad M' := by
  apply List.ext_getElem?
  intro i
  have hlen : (az_ws tc ad M).length = M.1.1 := by unfold az_ws; rw [List.length_map, List.length_range]
  have hlen' : (az_ws tc ad M').length = M'.1.1 := by unfold az_ws; rw [List.length_map, List.length_range]
  by_cases hi : i < M.1.1
  · rw [az_get (show i < M'.1.1 by omega), List.getElem?_set]
    by_cases hia : a = i
    · subst hia
      rw [if_pos rfl, if_pos (by omega), he]
    · rw [if_neg hia, az_get hi, ho i (fun h => hia h.symm)]
  · rw [List.getElem?_eq_none (by rw [List.length_set]; omega), List.getElem?_eq_none (by omega)]
theorem az_obj {tc : Nat → ClassId} {ad : Nat → Nat} {M : az_M} {a k : Nat} (h : (M.1.2.1 a).1 = k) (hk : k < 20) : az_cell tc ad M a = .inr (k, az_fs ad M a k) := by
  unfold az_cell
  rw [h, if_pos hk]
theorem az_row {tc : Nat → ClassId} {ad : Nat → Nat} {M : az_M} {a k : Nat} (h : (M.1.2.1 a).1 = k) (hk : ¬ k < 20) : az_cell tc ad M a = .inl (tc k, az_arr ad M a k (M.1.2.1 a).2) := by
  unfold az_cell
  rw [h, if_neg hk]
theorem az_fget {ad : Nat → Nat} {M : az_M} {a k j : Nat} (hj : j < az_nf k) : (az_fs ad M a k)[j]? = some (if az_isI k j = true then .int (M.2.1 a j) else az_rf ad (M.1.2.2 a j)) := by
  unfold az_fs
  rw [List.getElem?_map, List.getElem?_range hj]
  rfl
theorem az_flen {ad : Nat → Nat} {M : az_M} {a k : Nat} : (az_fs ad M a k).length = az_nf k := by
  unfold az_fs
  rw [List.length_map, List.length_range]
theorem az_up_s {α : Type} {f : Nat → Nat → α} {a j : Nat} {x : α} : az_up f a j x a j = x := by simp [az_up]
theorem az_up_a {α : Type} {f : Nat → Nat → α} {a b j : Nat} {x : α} (h : b ≠ a) : az_up f a j x b = f b := by
  funext i
  simp [az_up, h]
theorem az_up_n {α : Type} {f : Nat → Nat → α} {a b j i : Nat} {x : α} (h : ¬ (b = a ∧ i = j)) : az_up f a j x b i = f b i := by simp only [az_up, if_neg h]
theorem az_fsetI {ad : Nat → Nat} {M : az_M} {a k j : Nat} {x : Int32} (hi : az_isI k j = true) : (az_fs ad M a k).set j (.int x) = az_fs ad (az_setI M a j x) a k := by
  apply List.ext_getElem?
  intro i
  by_cases hl : i < az_nf k
  · rw [az_fget hl, List.getElem?_set]
    by_cases hij : j = i
    · subst hij
      rw [if_pos rfl, if_pos (by rw [az_flen]; exact hl), if_pos hi]
      show _ = some (Value.int (az_up M.2.1 a j x a j))
      rw [az_up_s]
    · rw [if_neg hij, az_fget hl]
      show _ = some (if az_isI k i = true then Value.int (az_up M.2.1 a j x a i) else az_rf ad (M.1.2.2 a i))
      rw [az_up_n (by omega)]
  · rw [List.getElem?_eq_none (by rw [List.length_set, az_flen]; omega), List.getElem?_eq_none (by rw [az_flen]; omega)]
theorem az_fsetR {ad : Nat → Nat} {M : az_M} {a k j : Nat} {x : Option Nat} (hi : az_isI k j = false) : (az_fs ad M a k).set j (az_rf ad x) = az_fs ad (az_setR M a j x) a k := by
  apply List.ext_getElem?
  intro i
  by_cases hl : i < az_nf k
  · rw [az_fget hl, List.getElem?_set]
    by_cases hij : j = i
    · subst hij
      rw [if_pos rfl, if_pos (by rw [az_flen]; exact hl), hi]
      show _ = some (az_rf ad (az_up M.1.2.2 a j x a j))
      rw [az_up_s]
    · rw [if_neg hij, az_fget hl]
      show _ = some (if az_isI k i = true then Value.int (M.2.1 a i) else az_rf ad (az_up M.1.2.2 a j x a i))
      rw [az_up_n (by omega)]
  · rw [List.getElem?_eq_none (by rw [List.length_set, az_flen]; omega), List.getElem?_eq_none (by rw [az_flen]; omega)]
theorem az_otherI {tc : Nat → ClassId} {ad : Nat → Nat} {M : az_M} {a j : Nat} {x : Int32} : ∀ b, b ≠ a → az_cell tc ad (az_setI M a j x) b = az_cell tc ad M b := by
  intro b hb
  have e : az_up M.2.1 a j x b = M.2.1 b := az_up_a hb
  simp only [az_cell, az_fs, az_arr, e]
theorem az_otherL {tc : Nat → ClassId} {ad : Nat → Nat} {M : az_M} {a j : Nat} {x : Int64} : ∀ b, b ≠ a → az_cell tc ad (az_setL M a j x) b = az_cell tc ad M b := by
  intro b hb
  have e : az_up M.2.2.1 a j x b = M.2.2.1 b := az_up_a hb
  simp only [az_cell, az_fs, az_arr, e]
theorem az_otherD {tc : Nat → ClassId} {ad : Nat → Nat} {M : az_M} {a j : Nat} {x : UInt64} : ∀ b, b ≠ a → az_cell tc ad (az_setD M a j x) b = az_cell tc ad M b := by
  intro b hb
  have e : az_up M.2.2.2 a j x b = M.2.2.2 b := az_up_a hb
  simp only [az_cell, az_fs, az_arr, e]
theorem az_otherR {tc : Nat → ClassId} {ad : Nat → Nat} {M : az_M} {a j : Nat} {x : Option Nat} : ∀ b, b ≠ a → az_cell tc ad (az_setR M a j x) b = az_cell tc ad M b := by
  intro b hb
  have e : az_up M.1.2.2 a j x b = M.1.2.2 b := az_up_a hb
  simp only [az_cell, az_fs, az_arr, e]
theorem az_upI {f : Nat → Nat → Int32} {a j : Nat} {x : Int32} : az_up f a j x a = upd (f a) j x := by
  funext i
  simp [az_up, upd]
theorem az_upL {f : Nat → Nat → Int64} {a j : Nat} {x : Int64} : az_up f a j x a = vp_updL (f a) j x := by
  funext i
  simp [az_up, vp_updL]
theorem az_upD {f : Nat → Nat → UInt64} {a j : Nat} {x : UInt64} : az_up f a j x a = vf_upd (f a) j x := by
  funext i
  simp [az_up, vf_upd]
/-! locals: a list of what is known of each place -/
def az_lv (ad : Nat → Nat) (ls : List (Option Value)) : List (Nat × Value) := (List.range ls.length).filterMap fun i => match ls[i]? with
  | some (some v) => if v.category = 1 then some (i, az_v ad v) else none
  | _ => none
theorem az_lv_mem {ad : Nat → Nat} {ls : List (Option Value)} {i : Nat} {w : Value} : (i, w) ∈ az_lv ad ls ↔ ∃ v, ls[i]? = some (some v) ∧ v.category = 1 ∧ w = az_v ad v := by
  unfold az_lv
  rw [List.mem_filterMap]
  constructor
  · rintro ⟨k, -, hk⟩
    split at hk
    · rename_i v hv
      split at hk
      · cases hk
        exact ⟨v, hv, by assumption, rfl⟩
      · cases hk
    · cases hk
  · rintro ⟨v, hv, hc, rfl⟩
    refine ⟨i, List.mem_range.mpr (List.getElem?_eq_some_iff.mp hv).1, ?_⟩
    rw [hv]
    simp only [hc, if_true]
def az_gl : List (Option Value) → Nat → Option Value
  | [], _ => none
  | a :: _, 0 => a
  | _ :: t, i + 1 => az_gl t i
def az_sl : List (Option Value) → Nat → Value → List (Option Value)
  | [], _, _ => []
  | _ :: t, 0, v => some v :: t
  | a :: t, i + 1, v => a :: az_sl t i v
def az_kp : List Bool → List (Option Value) → List (Option Value)
  | true :: bs, a :: t => a :: az_kp bs t
  | false :: bs, _ :: t => none :: az_kp bs t
  | _, _ => []
theorem az_gl_some : ∀ {ls : List (Option Value)} {i : Nat} {v : Value}, az_gl ls i = some v → ls[i]? = some (some v)
  | [], _, _, h => by cases h
  | a :: _, 0, v, h => by
    have h1 : a = some v := h
    rw [h1]; rfl
  | _ :: t, i + 1, v, h => by
    have h1 : az_gl t i = some v := h
    rw [List.getElem?_cons_succ]
    exact az_gl_some h1
theorem az_sl_eq : ∀ (ls : List (Option Value)) (i : Nat) (v : Value), az_sl ls i v = ls.set i (some v)
  | [], _, _ => rfl
  | _ :: _, 0, _ => rfl
  | a :: t, i + 1, v => by
    show a :: az_sl t i v = a :: t.set i (some v)
    rw [az_sl_eq t i v]
theorem az_kp_mem : ∀ {bs : List Bool} {ls : List (Option Value)} {i : Nat} {v : Value}, (az_kp bs ls)[i]? = some (some v) → ls[i]? = some (some v)
  | [], ls, i, v, h => by cases ls <;> cases h
  | true :: bs, [], i, v, h => by cases h
  | false :: bs, [], i, v, h => by cases h
  | true :: bs, a :: t, 0, v, h => h
  | false :: bs, a :: t, 0, v, h => by cases h
  | true :: bs, a :: t, i + 1, v, h => by
    have h1 : (az_kp bs t)[i]? = some (some v) := h
    rw [List.getElem?_cons_succ]
    exact az_kp_mem (bs := bs) h1
  | false :: bs, a :: t, i + 1, v, h => by
    have h1 : (az_kp bs t)[i]? = some (some v) := h
    rw [List.getElem?_cons_succ]
    exact az_kp_mem (bs := bs) h1
theorem az_lv_at {ad : Nat → Nat} {ls : List (Option Value)} {Ls : Array Slot} {nL i : Nat} {v : Value} (h : lv_has Ls nL (az_lv ad ls)) (hg : az_gl ls i = some v) (hc : v.category = 1) : Ls[i]? = some (.val (az_v ad v)) :=
  h.2.2 (i, az_v ad v) (az_lv_mem.mpr ⟨v, az_gl_some hg, hc, rfl⟩)
theorem az_lv_put {ad : Nat → Nat} {ls : List (Option Value)} {Ls : Array Slot} {nL i : Nat} {v : Value} (hc : v.category = 1) (h : lv_has Ls nL ((i, az_v ad v) :: (az_lv ad ls).filter (fun q => !(q.1 == i) && !(q.1 + 1 == i && q.2.category == 2)))) : lv_has Ls nL (az_lv ad (az_sl ls i v)) := by
  refine ⟨h.1, h.2.1, ?_⟩
  rintro ⟨j, w⟩ hj
  obtain ⟨u, hu, hcu, rfl⟩ := az_lv_mem.mp hj
  rw [az_sl_eq, List.getElem?_set] at hu
  by_cases hij : i = j
  · subst hij
    rw [if_pos rfl] at hu
    by_cases hl : i < ls.length
    · rw [if_pos hl] at hu
      cases hu
      exact h.2.2 (i, az_v ad v) List.mem_cons_self
    · rw [if_neg hl] at hu
      cases hu
  · rw [if_neg hij] at hu
    refine h.2.2 (j, az_v ad u) (List.mem_cons_of_mem _ (List.mem_filter.mpr ⟨az_lv_mem.mpr ⟨u, hu, hcu, rfl⟩, ?_⟩))
    have hcat : (az_v ad u).category = 1 := by cases u <;> first | rfl | exact hcu
    have h1 : (j == i) = false := by simp; omega
    simp [h1, hcat]
theorem az_lv_kp {ad : Nat → Nat} {bs : List Bool} {ls : List (Option Value)} {Ls : Array Slot} {nL : Nat} (h : lv_has Ls nL (az_lv ad ls)) : lv_has Ls nL (az_lv ad (az_kp bs ls)) := by
  refine ⟨h.1, h.2.1, ?_⟩
  rintro ⟨j, w⟩ hj
  obtain ⟨u, hu, hcu, rfl⟩ := az_lv_mem.mp hj
  exact h.2.2 (j, az_v ad u) (az_lv_mem.mpr ⟨u, az_kp_mem hu, hcu, rfl⟩)
def az_pat : List Bool → List Value → Bool
  | [], [] => true
  | true :: bs, .ref _ :: vs => az_pat bs vs
  | false :: bs, .int _ :: vs => az_pat bs vs
  | _, _ => false
theorem az_pat_cat : ∀ {bs : List Bool} {vs : List Value}, az_pat bs vs = true → ∀ v ∈ vs, v.category = 1
  | [], [], _, v, h => by cases h
  | true :: bs, .ref a :: vs, h, v, hv => by
    rcases List.mem_cons.mp hv with rfl | hv
    · rfl
    · exact az_pat_cat (bs := bs) h v hv
  | false :: bs, .int a :: vs, h, v, hv => by
    rcases List.mem_cons.mp hv with rfl | hv
    · rfl
    · exact az_pat_cat (bs := bs) h v hv
theorem az_pat_len : ∀ {bs : List Bool} {vs : List Value}, az_pat bs vs = true → vs.length = bs.length
  | [], [], _ => rfl
  | true :: bs, .ref a :: vs, h => by
    have := az_pat_len (bs := bs) h
    simp [this]
  | false :: bs, .int a :: vs, h => by
    have := az_pat_len (bs := bs) h
    simp [this]
def az_in (nL : Nat) (as : List Value) : List (Option Value) := as.map some ++ List.replicate (nL - as.length) none
theorem az_args_at : ∀ (as : List Value) (i k : Nat) (v : Value), (∀ u ∈ as, u.category = 1) → as[i]? = some v → (k + i, v) ∈ lv_args k as
  | [], i, k, v, _, h => by cases h
  | a :: t, 0, k, v, _, h => by
    cases h
    exact List.mem_cons_self
  | a :: t, i + 1, k, v, hc, h => by
    have h1 : t[i]? = some v := h
    have ha : a.category = 1 := hc a List.mem_cons_self
    have := az_args_at t i (k + 1) v (fun u hu => hc u (List.mem_cons_of_mem _ hu)) h1
    show (k + (i + 1), v) ∈ (k, a) :: lv_args (if a.category = 2 then k + 2 else k + 1) t
    rw [ha, if_neg (by decide), show k + (i + 1) = k + 1 + i by omega]
    exact List.mem_cons_of_mem _ this
theorem az_in_has {ad : Nat → Nat} {as : List Value} {nL : Nat} {Ls : Array Slot} (hc : ∀ u ∈ as, u.category = 1) (h : lv_has Ls nL (lv_args 0 (as.map (az_v ad)))) : lv_has Ls nL (az_lv ad (az_in nL as)) := by
  refine ⟨h.1, h.2.1, ?_⟩
  rintro ⟨j, w⟩ hj
  obtain ⟨u, hu, hcu, rfl⟩ := az_lv_mem.mp hj
  unfold az_in at hu
  by_cases hl : j < as.length
  · rw [List.getElem?_append_left (by rw [List.length_map]; exact hl), List.getElem?_map] at hu
    have h1 : as[j]? = some u := by
      cases hq : as[j]? with
      | none => rw [hq] at hu; cases hu
      | some z => rw [hq] at hu; cases hu; rfl
    have h2 : (as.map (az_v ad))[j]? = some (az_v ad u) := by rw [List.getElem?_map, h1]; rfl
    have := az_args_at (as.map (az_v ad)) j 0 _ (fun z hz => by
      obtain ⟨y, hy, rfl⟩ := List.mem_map.mp hz
      have := hc y hy
      cases y <;> first | rfl | exact this) h2
    rw [Nat.zero_add] at this
    exact h.2.2 _ this
  · rw [List.getElem?_append_right (by rw [List.length_map]; omega)] at hu
    rcases Nat.lt_or_ge (j - (as.map some).length) (nL - as.length) with q | q
    · rw [List.getElem?_replicate, if_pos q] at hu
      cases hu
    · rw [List.getElem?_replicate, if_neg (by omega)] at hu
      cases hu
/-! the judgement -/
def az_nest : List Cond := tables_1.filter fun w => match w with
  | .methodLinkNest .. => true
  | .declares .. => true
  | .castable .. => true
  | _ => false
/-- the words that are good at every callee -/
def az_gw : List Cond := lw_tbl.filter goodWord
abbrev az_T : Type := List (Option Value) → List Value → (Nat × Nat) → az_M → Prop
abbrev az_F : Type := List Value → az_M → (Option Value → az_M → Prop) → Prop
abbrev az_X : Type := Program × Launch × Env × Room × State × MethodId × Array Value × List Frame × Method × Code × va_G × (Nat → ClassId) × (Nat → Prop) × (State → Prop) × ((Nat → Nat) → Prop)
def az_Q (D : va_G) (tc : Nat → ClassId) (RA : (Nat → Nat) → Prop) (A : Nat → Prop) (Qs : Option Value → az_M → Prop) : Array Value → State → Outcome → State → Prop := fun _ st oc t =>
  (∃ (r : Option Value) (M : az_M), oc = .returned r ∧ Qs r M ∧ (∀ a : Nat, r ≠ some (.ref a)) ∧ ∃ ad : Nat → Nat, RA ad ∧ va_P D vwCl (az_ws tc ad M) t.heap ∧ va_D A (az_ws tc ad M)) ∧ va_F A st t
def az_W (X : az_X) (pc : Nat) : az_T := fun ls st k M => match X with
  | (p, l, e, R, s, m, args, below, meth, c, D, tc, A, Q, RA) => ∀ (ad : Nat → Nat) (H : Heap) (Ls : Array Slot) (locs : List Loc), RA ad → lv_has Ls c.maxLocals (az_lv ad ls) → va_P D vwCl (az_ws tc ad M) H → va_D A (az_ws tc ad M) → va_S A s.heap H locs → (k.1 ≤ R.cells ∧ k.2 ≤ R.slots) → W p l e R s m args below meth c H locs k.1 k.2 Q (F0 m pc Ls (st.map (az_v ad)))
def az_ok (X : az_X) (pc : Nat) (P : az_T) : Prop := ∀ ls st k M, P ls st k M → az_W X pc ls st k M
def az_C (X : az_X) (cc : ByteArray) (nL : Nat) (own : String) (Ts : List Cond) (rm : Room) (ret : Option FieldType) (Qs : Option Value → az_M → Prop) : Prop := match X with
  | (p, l, e, R, s, m, args, below, meth, c, D, tc, A, Q, RA) => p.tables.exec = Jvm.exec ∧ c.code = cc ∧ c.maxLocals = nL ∧ s.vm.findClass own = some m.cls ∧ (∀ w ∈ Ts, w.before args s = true) ∧ va_K D vwCl (az_tys tc) s ∧ (∀ w ∈ az_nest, va_Nw w s) ∧ (∀ q, s.heap.size ≤ q → A q) ∧ meth.locks = false ∧ meth.sig.returnType = ret ∧ R = rm ∧ (∀ w ∈ az_gw, w ∈ Ts) ∧
    (∀ (H : Heap) (locs : List Loc) (g : JFrame), W p l e R s m args below meth c H locs rm.cells rm.slots (MQ below (az_Q D tc RA A Qs) args s rm.cells rm.slots A) g → W p l e R s m args below meth c H locs rm.cells rm.slots Q g)

def s_ic (x : Int32) (P : az_T) : az_T := fun ls st k M => P ls (.int x :: st) k M
theorem az_iconst {X : az_X} {cc : ByteArray} {nL : Nat} {own : String} {Ts : List Cond} {rm : Room} {ret : Option FieldType} {Qs : Option Value → az_M → Prop} {pc : Nat} {n : Int} {x : Int32} {P : az_T} (C : az_C X cc nL own Ts rm ret Qs) (d : decode cc pc = .ok (.iconst n, 1)) (hv : Int32.ofInt n = x) (kk : az_ok X (pc + 1) P) : az_ok X pc (s_ic x P) := by
  obtain ⟨p, l, e, R, s, m, args, below, meth, c, D, tc, A, Q, RA⟩ := X
  obtain ⟨hx, hb, hml, hown, hts, hK, hN, hA, hlk, hr, hR, hsub, hQ⟩ := C
  intro ls st k M h ad H Ls locs hra hl hP hD hS hz
  exact lv_iconst hx hb d hv (kk ls (.int x :: st) k M h ad H Ls locs hra hl hP hD hS hz)
theorem az_bipush {X : az_X} {cc : ByteArray} {nL : Nat} {own : String} {Ts : List Cond} {rm : Room} {ret : Option FieldType} {Qs : Option Value → az_M → Prop} {pc : Nat} {n : Int} {x : Int32} {P : az_T} (C : az_C X cc nL own Ts rm ret Qs) (d : decode cc pc = .ok (.bipush n, 2)) (hv : (Int8.ofInt n).toInt32 = x) (kk : az_ok X (pc + 2) P) : az_ok X pc (s_ic x P) := by
  obtain ⟨p, l, e, R, s, m, args, below, meth, c, D, tc, A, Q, RA⟩ := X
  obtain ⟨hx, hb, hml, hown, hts, hK, hN, hA, hlk, hr, hR, hsub, hQ⟩ := C
  intro ls st k M h ad H Ls locs hra hl hP hD hS hz
  exact lv_bipush hx hb d hv (kk ls (.int x :: st) k M h ad H Ls locs hra hl hP hD hS hz)
theorem az_sipush {X : az_X} {cc : ByteArray} {nL : Nat} {own : String} {Ts : List Cond} {rm : Room} {ret : Option FieldType} {Qs : Option Value → az_M → Prop} {pc : Nat} {n : Int} {x : Int32} {P : az_T} (C : az_C X cc nL own Ts rm ret Qs) (d : decode cc pc = .ok (.sipush n, 3)) (hv : (Int16.ofInt n).toInt32 = x) (kk : az_ok X (pc + 3) P) : az_ok X pc (s_ic x P) := by
  obtain ⟨p, l, e, R, s, m, args, below, meth, c, D, tc, A, Q, RA⟩ := X
  obtain ⟨hx, hb, hml, hown, hts, hK, hN, hA, hlk, hr, hR, hsub, hQ⟩ := C
  intro ls st k M h ad H Ls locs hra hl hP hD hS hz
  exact lv_sipush hx hb d hv (kk ls (.int x :: st) k M h ad H Ls locs hra hl hP hD hS hz)
theorem az_ldc {X : az_X} {cc : ByteArray} {nL : Nat} {own : String} {Ts : List Cond} {rm : Room} {ret : Option FieldType} {Qs : Option Value → az_M → Prop} {pc : Nat} {index : Nat} {x : Int32} {P : az_T} (C : az_C X cc nL own Ts rm ret Qs) (d : decode cc pc = .ok (.ldc index, 2)) (hv : Cond.constant own index x ∈ az_gw) (kk : az_ok X (pc + 2) P) : az_ok X pc (s_ic x P) := by
  obtain ⟨p, l, e, R, s, m, args, below, meth, c, D, tc, A, Q, RA⟩ := X
  obtain ⟨hx, hb, hml, hown, hts, hK, hN, hA, hlk, hr, hR, hsub, hQ⟩ := C
  intro ls st k M h ad H Ls locs hra hl hP hD hS hz
  exact lv_ldc hx hb hown (hts _ (hsub _ hv)) d (kk ls (.int x :: st) k M h ad H Ls locs hra hl hP hD hS hz)
theorem az_ldcw {X : az_X} {cc : ByteArray} {nL : Nat} {own : String} {Ts : List Cond} {rm : Room} {ret : Option FieldType} {Qs : Option Value → az_M → Prop} {pc : Nat} {index : Nat} {x : Int32} {P : az_T} (C : az_C X cc nL own Ts rm ret Qs) (d : decode cc pc = .ok (.ldc_w index, 3)) (hv : Cond.constant own index x ∈ az_gw) (kk : az_ok X (pc + 3) P) : az_ok X pc (s_ic x P) := by
  obtain ⟨p, l, e, R, s, m, args, below, meth, c, D, tc, A, Q, RA⟩ := X
  obtain ⟨hx, hb, hml, hown, hts, hK, hN, hA, hlk, hr, hR, hsub, hQ⟩ := C
  intro ls st k M h ad H Ls locs hra hl hP hD hS hz
  exact lv_ldcw hx hb hown (hts _ (hsub _ hv)) d (kk ls (.int x :: st) k M h ad H Ls locs hra hl hP hD hS hz)
def s_li (i : Nat) (P : az_T) : az_T := fun ls st k M => match az_gl ls i with
  | some (.int x) => P ls (.int x :: st) k M
  | _ => False
def s_la (i : Nat) (P : az_T) : az_T := fun ls st k M => match az_gl ls i with
  | some (.ref x) => P ls (.ref x :: st) k M
  | _ => False
theorem s_li_o {i : Nat} {P : az_T} {ls st k M} (h : s_li i P ls st k M) : ∃ x, az_gl ls i = some (.int x) ∧ P ls (.int x :: st) k M := by
  unfold s_li at h
  split at h
  · rename_i x hx
    exact ⟨x, hx, h⟩
  · exact h.elim
theorem s_la_o {i : Nat} {P : az_T} {ls st k M} (h : s_la i P ls st k M) : ∃ x, az_gl ls i = some (.ref x) ∧ P ls (.ref x :: st) k M := by
  unfold s_la at h
  split at h
  · rename_i x hx
    exact ⟨x, hx, h⟩
  · exact h.elim
theorem az_iload {X : az_X} {cc : ByteArray} {nL : Nat} {own : String} {Ts : List Cond} {rm : Room} {ret : Option FieldType} {Qs : Option Value → az_M → Prop} {pc : Nat} {i : Nat} {P : az_T} (C : az_C X cc nL own Ts rm ret Qs) (d : decode cc pc = .ok (.iload i, 2)) (kk : az_ok X (pc + 2) P) : az_ok X pc (s_li i P) := by
  obtain ⟨p, l, e, R, s, m, args, below, meth, c, D, tc, A, Q, RA⟩ := X
  obtain ⟨hx, hb, hml, hown, hts, hK, hN, hA, hlk, hr, hR, hsub, hQ⟩ := C
  intro ls st k M h ad H Ls locs hra hl hP hD hS hz
  obtain ⟨x, hg, h⟩ := s_li_o h
  exact lv_iload hx hb d (az_lv_at hl hg rfl) (kk ls (.int x :: st) k M h ad H Ls locs hra hl hP hD hS hz)
theorem az_iload_n {X : az_X} {cc : ByteArray} {nL : Nat} {own : String} {Ts : List Cond} {rm : Room} {ret : Option FieldType} {Qs : Option Value → az_M → Prop} {pc : Nat} {q : Fin 4} {P : az_T} (C : az_C X cc nL own Ts rm ret Qs) (i : Nat) (hi : (q : Nat) = i) (d : decode cc pc = .ok (.iload_n q, 1)) (kk : az_ok X (pc + 1) P) : az_ok X pc (s_li i P) := by
  obtain ⟨p, l, e, R, s, m, args, below, meth, c, D, tc, A, Q, RA⟩ := X
  obtain ⟨hx, hb, hml, hown, hts, hK, hN, hA, hlk, hr, hR, hsub, hQ⟩ := C
  intro ls st k M h ad H Ls locs hra hl hP hD hS hz
  obtain ⟨x, hg, h⟩ := s_li_o h
  exact lv_iload_n hx hb d hi (az_lv_at hl hg rfl) (kk ls (.int x :: st) k M h ad H Ls locs hra hl hP hD hS hz)
theorem az_aload {X : az_X} {cc : ByteArray} {nL : Nat} {own : String} {Ts : List Cond} {rm : Room} {ret : Option FieldType} {Qs : Option Value → az_M → Prop} {pc : Nat} {i : Nat} {P : az_T} (C : az_C X cc nL own Ts rm ret Qs) (d : decode cc pc = .ok (.aload i, 2)) (kk : az_ok X (pc + 2) P) : az_ok X pc (s_la i P) := by
  obtain ⟨p, l, e, R, s, m, args, below, meth, c, D, tc, A, Q, RA⟩ := X
  obtain ⟨hx, hb, hml, hown, hts, hK, hN, hA, hlk, hr, hR, hsub, hQ⟩ := C
  intro ls st k M h ad H Ls locs hra hl hP hD hS hz
  obtain ⟨x, hg, h⟩ := s_la_o h
  exact lv_aload hx hb d (az_lv_at hl hg rfl) (kk ls (.ref x :: st) k M h ad H Ls locs hra hl hP hD hS hz)
theorem az_aload_n {X : az_X} {cc : ByteArray} {nL : Nat} {own : String} {Ts : List Cond} {rm : Room} {ret : Option FieldType} {Qs : Option Value → az_M → Prop} {pc : Nat} {q : Fin 4} {P : az_T} (C : az_C X cc nL own Ts rm ret Qs) (i : Nat) (hi : (q : Nat) = i) (d : decode cc pc = .ok (.aload_n q, 1)) (kk : az_ok X (pc + 1) P) : az_ok X pc (s_la i P) := by
  obtain ⟨p, l, e, R, s, m, args, below, meth, c, D, tc, A, Q, RA⟩ := X
  obtain ⟨hx, hb, hml, hown, hts, hK, hN, hA, hlk, hr, hR, hsub, hQ⟩ := C
  intro ls st k M h ad H Ls locs hra hl hP hD hS hz
  obtain ⟨x, hg, h⟩ := s_la_o h
  exact lv_aload_n hx hb d hi (az_lv_at hl hg rfl) (kk ls (.ref x :: st) k M h ad H Ls locs hra hl hP hD hS hz)
def s_si (i : Nat) (P : az_T) : az_T := fun ls st k M => match st with
  | .int x :: st => P (az_sl ls i (.int x)) st k M
  | _ => False
def s_sa (i : Nat) (P : az_T) : az_T := fun ls st k M => match st with
  | .ref x :: st => P (az_sl ls i (.ref x)) st k M
  | _ => False
theorem s_si_o {i : Nat} {P : az_T} {ls st k M} (h : s_si i P ls st k M) : ∃ x st1, st = .int x :: st1 ∧ P (az_sl ls i (.int x)) st1 k M := by
  unfold s_si at h
  split at h
  · exact ⟨_, _, rfl, h⟩
  · exact h.elim
theorem s_sa_o {i : Nat} {P : az_T} {ls st k M} (h : s_sa i P ls st k M) : ∃ x st1, st = .ref x :: st1 ∧ P (az_sl ls i (.ref x)) st1 k M := by
  unfold s_sa at h
  split at h
  · exact ⟨_, _, rfl, h⟩
  · exact h.elim
theorem az_istore {X : az_X} {cc : ByteArray} {nL : Nat} {own : String} {Ts : List Cond} {rm : Room} {ret : Option FieldType} {Qs : Option Value → az_M → Prop} {pc : Nat} {i : Nat} {P : az_T} (C : az_C X cc nL own Ts rm ret Qs) (hi : i < nL) (d : decode cc pc = .ok (.istore i, 2)) (kk : az_ok X (pc + 2) P) : az_ok X pc (s_si i P) := by
  obtain ⟨p, l, e, R, s, m, args, below, meth, c, D, tc, A, Q, RA⟩ := X
  obtain ⟨hx, hb, hml, hown, hts, hK, hN, hA, hlk, hr, hR, hsub, hQ⟩ := C
  intro ls st k M h ad H Ls locs hra hl hP hD hS hz
  obtain ⟨x, st1, rfl, h⟩ := s_si_o h
  exact lv_istore hx hb d hl (by rw [hml]; exact hi) rfl (fun Ls1 hl1 => kk _ st1 k M h ad H Ls1 locs hra (az_lv_put (v := .int x) rfl hl1) hP hD hS hz)
theorem az_istore_n {X : az_X} {cc : ByteArray} {nL : Nat} {own : String} {Ts : List Cond} {rm : Room} {ret : Option FieldType} {Qs : Option Value → az_M → Prop} {pc : Nat} {q : Fin 4} {P : az_T} (C : az_C X cc nL own Ts rm ret Qs) (i : Nat) (hq : (q : Nat) = i) (hi : i < nL) (d : decode cc pc = .ok (.istore_n q, 1)) (kk : az_ok X (pc + 1) P) : az_ok X pc (s_si i P) := by
  obtain ⟨p, l, e, R, s, m, args, below, meth, c, D, tc, A, Q, RA⟩ := X
  obtain ⟨hx, hb, hml, hown, hts, hK, hN, hA, hlk, hr, hR, hsub, hQ⟩ := C
  intro ls st k M h ad H Ls locs hra hl hP hD hS hz
  obtain ⟨x, st1, rfl, h⟩ := s_si_o h
  exact lv_istore_n hx hb d hq hl (by rw [hml]; exact hi) rfl (fun Ls1 hl1 => kk _ st1 k M h ad H Ls1 locs hra (az_lv_put (v := .int x) rfl hl1) hP hD hS hz)
theorem az_astore {X : az_X} {cc : ByteArray} {nL : Nat} {own : String} {Ts : List Cond} {rm : Room} {ret : Option FieldType} {Qs : Option Value → az_M → Prop} {pc : Nat} {i : Nat} {P : az_T} (C : az_C X cc nL own Ts rm ret Qs) (hi : i < nL) (d : decode cc pc = .ok (.astore i, 2)) (kk : az_ok X (pc + 2) P) : az_ok X pc (s_sa i P) := by
  obtain ⟨p, l, e, R, s, m, args, below, meth, c, D, tc, A, Q, RA⟩ := X
  obtain ⟨hx, hb, hml, hown, hts, hK, hN, hA, hlk, hr, hR, hsub, hQ⟩ := C
  intro ls st k M h ad H Ls locs hra hl hP hD hS hz
  obtain ⟨x, st1, rfl, h⟩ := s_sa_o h
  exact lv_astore hx hb d hl (by rw [hml]; exact hi) rfl (fun Ls1 hl1 => kk _ st1 k M h ad H Ls1 locs hra (az_lv_put (v := .ref x) rfl hl1) hP hD hS hz)
theorem az_astore_n {X : az_X} {cc : ByteArray} {nL : Nat} {own : String} {Ts : List Cond} {rm : Room} {ret : Option FieldType} {Qs : Option Value → az_M → Prop} {pc : Nat} {q : Fin 4} {P : az_T} (C : az_C X cc nL own Ts rm ret Qs) (i : Nat) (hq : (q : Nat) = i) (hi : i < nL) (d : decode cc pc = .ok (.astore_n q, 1)) (kk : az_ok X (pc + 1) P) : az_ok X pc (s_sa i P) := by
  obtain ⟨p, l, e, R, s, m, args, below, meth, c, D, tc, A, Q, RA⟩ := X
  obtain ⟨hx, hb, hml, hown, hts, hK, hN, hA, hlk, hr, hR, hsub, hQ⟩ := C
  intro ls st k M h ad H Ls locs hra hl hP hD hS hz
  obtain ⟨x, st1, rfl, h⟩ := s_sa_o h
  exact lv_astore_n hx hb d hq hl (by rw [hml]; exact hi) rfl (fun Ls1 hl1 => kk _ st1 k M h ad H Ls1 locs hra (az_lv_put (v := .ref x) rfl hl1) hP hD hS hz)
def s_inc (i : Nat) (n : Int32) (P : az_T) : az_T := fun ls st k M => match az_gl ls i with
  | some (.int x) => P (az_sl ls i (.int (x + n))) st k M
  | _ => False
theorem s_inc_o {i : Nat} {n : Int32} {P : az_T} {ls st k M} (h : s_inc i n P ls st k M) : ∃ x, az_gl ls i = some (.int x) ∧ P (az_sl ls i (.int (x + n))) st k M := by
  unfold s_inc at h
  split at h
  · rename_i x hx
    exact ⟨x, hx, h⟩
  · exact h.elim
theorem az_iinc {X : az_X} {cc : ByteArray} {nL : Nat} {own : String} {Ts : List Cond} {rm : Room} {ret : Option FieldType} {Qs : Option Value → az_M → Prop} {pc : Nat} {i : Nat} {n : Int} {v : Int32} {P : az_T} (C : az_C X cc nL own Ts rm ret Qs) (hi : i < nL) (hv : Int32.ofInt n = v) (d : decode cc pc = .ok (.iinc i n, 3)) (kk : az_ok X (pc + 3) P) : az_ok X pc (s_inc i v P) := by
  obtain ⟨p, l, e, R, s, m, args, below, meth, c, D, tc, A, Q, RA⟩ := X
  obtain ⟨hx, hb, hml, hown, hts, hK, hN, hA, hlk, hr, hR, hsub, hQ⟩ := C
  intro ls st k M h ad H Ls locs hra hl hP hD hS hz
  obtain ⟨x, hg, h⟩ := s_inc_o h
  subst hv
  obtain ⟨q, hq⟩ := List.getElem?_of_mem (az_lv_mem.mpr ⟨_, az_gl_some hg, rfl, rfl⟩ : (i, az_v ad (.int x)) ∈ az_lv ad ls)
  exact lv_iinc hx hb d hl hq rfl (by rw [hml]; exact hi) rfl (fun Ls1 hl1 => kk _ st k M h ad H Ls1 locs hra (az_lv_put (v := .int (x + Int32.ofInt n)) rfl hl1) hP hD hS hz)
def s_bin (f : Int32 → Int32 → Int32) (P : az_T) : az_T := fun ls st k M => match st with
  | .int y :: .int x :: st => P ls (.int (f x y) :: st) k M
  | _ => False
theorem s_bin_o {f : Int32 → Int32 → Int32} {P : az_T} {ls st k M} (h : s_bin f P ls st k M) : ∃ y x st1, st = .int y :: .int x :: st1 ∧ P ls (.int (f x y) :: st1) k M := by
  unfold s_bin at h
  split at h
  · exact ⟨_, _, _, rfl, h⟩
  · exact h.elim
def s_un (f : Int32 → Int32) (P : az_T) : az_T := fun ls st k M => match st with
  | .int x :: st => P ls (.int (f x) :: st) k M
  | _ => False
theorem s_un_o {f : Int32 → Int32} {P : az_T} {ls st k M} (h : s_un f P ls st k M) : ∃ x st1, st = .int x :: st1 ∧ P ls (.int (f x) :: st1) k M := by
  unfold s_un at h
  split at h
  · exact ⟨_, _, rfl, h⟩
  · exact h.elim
def f_add (x y : Int32) : Int32 := x + y
def f_sub (x y : Int32) : Int32 := x - y
def f_mul (x y : Int32) : Int32 := x * y
def f_and (x y : Int32) : Int32 := x &&& y
def f_or (x y : Int32) : Int32 := x ||| y
def f_xor (x y : Int32) : Int32 := x ^^^ y
def f_shl (x y : Int32) : Int32 := x <<< (y &&& 31)
def f_shr (x y : Int32) : Int32 := x >>> (y &&& 31)
def f_ushr (x y : Int32) : Int32 := (x.toUInt32 >>> (y.toUInt32 &&& Int32.toUInt32 31)).toInt32
def f_neg (x : Int32) : Int32 := -x
def f_i2c (x : Int32) : Int32 := (x.toUInt32 % 65536).toInt32
theorem az_iadd {X : az_X} {cc : ByteArray} {nL : Nat} {own : String} {Ts : List Cond} {rm : Room} {ret : Option FieldType} {Qs : Option Value → az_M → Prop} {pc : Nat} {P : az_T} (C : az_C X cc nL own Ts rm ret Qs) (d : decode cc pc = .ok (.iadd, 1)) (kk : az_ok X (pc + 1) P) : az_ok X pc (s_bin f_add P) := by
  obtain ⟨p, l, e, R, s, m, args, below, meth, c, D, tc, A, Q, RA⟩ := X
  obtain ⟨hx, hb, hml, hown, hts, hK, hN, hA, hlk, hr, hR, hsub, hQ⟩ := C
  intro ls st k M h ad H Ls locs hra hl hP hD hS hz
  obtain ⟨y, x, st1, rfl, h⟩ := s_bin_o h
  exact lv_iadd hx hb d (kk ls _ k M h ad H Ls locs hra hl hP hD hS hz)
theorem az_isub {X : az_X} {cc : ByteArray} {nL : Nat} {own : String} {Ts : List Cond} {rm : Room} {ret : Option FieldType} {Qs : Option Value → az_M → Prop} {pc : Nat} {P : az_T} (C : az_C X cc nL own Ts rm ret Qs) (d : decode cc pc = .ok (.isub, 1)) (kk : az_ok X (pc + 1) P) : az_ok X pc (s_bin f_sub P) := by
  obtain ⟨p, l, e, R, s, m, args, below, meth, c, D, tc, A, Q, RA⟩ := X
  obtain ⟨hx, hb, hml, hown, hts, hK, hN, hA, hlk, hr, hR, hsub, hQ⟩ := C
  intro ls st k M h ad H Ls locs hra hl hP hD hS hz
  obtain ⟨y, x, st1, rfl, h⟩ := s_bin_o h
  exact lv_isub hx hb d (kk ls _ k M h ad H Ls locs hra hl hP hD hS hz)
theorem az_imul {X : az_X} {cc : ByteArray} {nL : Nat} {own : String} {Ts : List Cond} {rm : Room} {ret : Option FieldType} {Qs : Option Value → az_M → Prop} {pc : Nat} {P : az_T} (C : az_C X cc nL own Ts rm ret Qs) (d : decode cc pc = .ok (.imul, 1)) (kk : az_ok X (pc + 1) P) : az_ok X pc (s_bin f_mul P) := by
  obtain ⟨p, l, e, R, s, m, args, below, meth, c, D, tc, A, Q, RA⟩ := X
  obtain ⟨hx, hb, hml, hown, hts, hK, hN, hA, hlk, hr, hR, hsub, hQ⟩ := C
  intro ls st k M h ad H Ls locs hra hl hP hD hS hz
  obtain ⟨y, x, st1, rfl, h⟩ := s_bin_o h
  exact lv_imul hx hb d (kk ls _ k M h ad H Ls locs hra hl hP hD hS hz)
theorem az_iand {X : az_X} {cc : ByteArray} {nL : Nat} {own : String} {Ts : List Cond} {rm : Room} {ret : Option FieldType} {Qs : Option Value → az_M → Prop} {pc : Nat} {P : az_T} (C : az_C X cc nL own Ts rm ret Qs) (d : decode cc pc = .ok (.iand, 1)) (kk : az_ok X (pc + 1) P) : az_ok X pc (s_bin f_and P) := by
  obtain ⟨p, l, e, R, s, m, args, below, meth, c, D, tc, A, Q, RA⟩ := X
  obtain ⟨hx, hb, hml, hown, hts, hK, hN, hA, hlk, hr, hR, hsub, hQ⟩ := C
  intro ls st k M h ad H Ls locs hra hl hP hD hS hz
  obtain ⟨y, x, st1, rfl, h⟩ := s_bin_o h
  exact lv_iand hx hb d (kk ls _ k M h ad H Ls locs hra hl hP hD hS hz)
theorem az_ior {X : az_X} {cc : ByteArray} {nL : Nat} {own : String} {Ts : List Cond} {rm : Room} {ret : Option FieldType} {Qs : Option Value → az_M → Prop} {pc : Nat} {P : az_T} (C : az_C X cc nL own Ts rm ret Qs) (d : decode cc pc = .ok (.ior, 1)) (kk : az_ok X (pc + 1) P) : az_ok X pc (s_bin f_or P) := by
  obtain ⟨p, l, e, R, s, m, args, below, meth, c, D, tc, A, Q, RA⟩ := X
  obtain ⟨hx, hb, hml, hown, hts, hK, hN, hA, hlk, hr, hR, hsub, hQ⟩ := C
  intro ls st k M h ad H Ls locs hra hl hP hD hS hz
  obtain ⟨y, x, st1, rfl, h⟩ := s_bin_o h
  exact lv_ior hx hb d (kk ls _ k M h ad H Ls locs hra hl hP hD hS hz)
theorem az_ixor {X : az_X} {cc : ByteArray} {nL : Nat} {own : String} {Ts : List Cond} {rm : Room} {ret : Option FieldType} {Qs : Option Value → az_M → Prop} {pc : Nat} {P : az_T} (C : az_C X cc nL own Ts rm ret Qs) (d : decode cc pc = .ok (.ixor, 1)) (kk : az_ok X (pc + 1) P) : az_ok X pc (s_bin f_xor P) := by
  obtain ⟨p, l, e, R, s, m, args, below, meth, c, D, tc, A, Q, RA⟩ := X
  obtain ⟨hx, hb, hml, hown, hts, hK, hN, hA, hlk, hr, hR, hsub, hQ⟩ := C
  intro ls st k M h ad H Ls locs hra hl hP hD hS hz
  obtain ⟨y, x, st1, rfl, h⟩ := s_bin_o h
  exact lv_ixor hx hb d (kk ls _ k M h ad H Ls locs hra hl hP hD hS hz)
theorem az_ishl {X : az_X} {cc : ByteArray} {nL : Nat} {own : String} {Ts : List Cond} {rm : Room} {ret : Option FieldType} {Qs : Option Value → az_M → Prop} {pc : Nat} {P : az_T} (C : az_C X cc nL own Ts rm ret Qs) (d : decode cc pc = .ok (.ishl, 1)) (kk : az_ok X (pc + 1) P) : az_ok X pc (s_bin f_shl P) := by
  obtain ⟨p, l, e, R, s, m, args, below, meth, c, D, tc, A, Q, RA⟩ := X
  obtain ⟨hx, hb, hml, hown, hts, hK, hN, hA, hlk, hr, hR, hsub, hQ⟩ := C
  intro ls st k M h ad H Ls locs hra hl hP hD hS hz
  obtain ⟨y, x, st1, rfl, h⟩ := s_bin_o h
  exact lv_ishl hx hb d (kk ls _ k M h ad H Ls locs hra hl hP hD hS hz)
theorem az_ishr {X : az_X} {cc : ByteArray} {nL : Nat} {own : String} {Ts : List Cond} {rm : Room} {ret : Option FieldType} {Qs : Option Value → az_M → Prop} {pc : Nat} {P : az_T} (C : az_C X cc nL own Ts rm ret Qs) (d : decode cc pc = .ok (.ishr, 1)) (kk : az_ok X (pc + 1) P) : az_ok X pc (s_bin f_shr P) := by
  obtain ⟨p, l, e, R, s, m, args, below, meth, c, D, tc, A, Q, RA⟩ := X
  obtain ⟨hx, hb, hml, hown, hts, hK, hN, hA, hlk, hr, hR, hsub, hQ⟩ := C
  intro ls st k M h ad H Ls locs hra hl hP hD hS hz
  obtain ⟨y, x, st1, rfl, h⟩ := s_bin_o h
  exact lv_ishr hx hb d (kk ls _ k M h ad H Ls locs hra hl hP hD hS hz)
theorem az_iushr {X : az_X} {cc : ByteArray} {nL : Nat} {own : String} {Ts : List Cond} {rm : Room} {ret : Option FieldType} {Qs : Option Value → az_M → Prop} {pc : Nat} {P : az_T} (C : az_C X cc nL own Ts rm ret Qs) (d : decode cc pc = .ok (.iushr, 1)) (kk : az_ok X (pc + 1) P) : az_ok X pc (s_bin f_ushr P) := by
  obtain ⟨p, l, e, R, s, m, args, below, meth, c, D, tc, A, Q, RA⟩ := X
  obtain ⟨hx, hb, hml, hown, hts, hK, hN, hA, hlk, hr, hR, hsub, hQ⟩ := C
  intro ls st k M h ad H Ls locs hra hl hP hD hS hz
  obtain ⟨y, x, st1, rfl, h⟩ := s_bin_o h
  exact lv_iushr hx hb d rfl (kk ls _ k M h ad H Ls locs hra hl hP hD hS hz)
theorem az_ineg {X : az_X} {cc : ByteArray} {nL : Nat} {own : String} {Ts : List Cond} {rm : Room} {ret : Option FieldType} {Qs : Option Value → az_M → Prop} {pc : Nat} {P : az_T} (C : az_C X cc nL own Ts rm ret Qs) (d : decode cc pc = .ok (.ineg, 1)) (kk : az_ok X (pc + 1) P) : az_ok X pc (s_un f_neg P) := by
  obtain ⟨p, l, e, R, s, m, args, below, meth, c, D, tc, A, Q, RA⟩ := X
  obtain ⟨hx, hb, hml, hown, hts, hK, hN, hA, hlk, hr, hR, hsub, hQ⟩ := C
  intro ls st k M h ad H Ls locs hra hl hP hD hS hz
  obtain ⟨x, st1, rfl, h⟩ := s_un_o h
  exact lv_ineg hx hb d (kk ls _ k M h ad H Ls locs hra hl hP hD hS hz)
theorem az_i2c {X : az_X} {cc : ByteArray} {nL : Nat} {own : String} {Ts : List Cond} {rm : Room} {ret : Option FieldType} {Qs : Option Value → az_M → Prop} {pc : Nat} {P : az_T} (C : az_C X cc nL own Ts rm ret Qs) (d : decode cc pc = .ok (.i2c, 1)) (kk : az_ok X (pc + 1) P) : az_ok X pc (s_un f_i2c P) := by
  obtain ⟨p, l, e, R, s, m, args, below, meth, c, D, tc, A, Q, RA⟩ := X
  obtain ⟨hx, hb, hml, hown, hts, hK, hN, hA, hlk, hr, hR, hsub, hQ⟩ := C
  intro ls st k M h ad H Ls locs hra hl hP hD hS hz
  obtain ⟨x, st1, rfl, h⟩ := s_un_o h
  exact lv_i2c hx hb d rfl (kk ls _ k M h ad H Ls locs hra hl hP hD hS hz)
def s_rem (P : az_T) : az_T := fun ls st k M => match st with
  | .int y :: .int x :: st => ¬ y = 0 ∧ P ls (.int (x - x / y * y) :: st) k M
  | _ => False
theorem s_rem_o {P : az_T} {ls st k M} (h : s_rem P ls st k M) : ∃ y x st1, st = .int y :: .int x :: st1 ∧ ¬ y = 0 ∧ P ls (.int (x - x / y * y) :: st1) k M := by
  unfold s_rem at h
  split at h
  · exact ⟨_, _, _, rfl, h⟩
  · exact h.elim
def s_div (P : az_T) : az_T := fun ls st k M => match st with
  | .int y :: .int x :: st => ¬ y = 0 ∧ P ls (.int (x / y) :: st) k M
  | _ => False
theorem s_div_o {P : az_T} {ls st k M} (h : s_div P ls st k M) : ∃ y x st1, st = .int y :: .int x :: st1 ∧ ¬ y = 0 ∧ P ls (.int (x / y) :: st1) k M := by
  unfold s_div at h
  split at h
  · exact ⟨_, _, _, rfl, h⟩
  · exact h.elim
theorem az_irem {X : az_X} {cc : ByteArray} {nL : Nat} {own : String} {Ts : List Cond} {rm : Room} {ret : Option FieldType} {Qs : Option Value → az_M → Prop} {pc : Nat} {P : az_T} (C : az_C X cc nL own Ts rm ret Qs) (d : decode cc pc = .ok (.irem, 1)) (kk : az_ok X (pc + 1) P) : az_ok X pc (s_rem P) := by
  obtain ⟨p, l, e, R, s, m, args, below, meth, c, D, tc, A, Q, RA⟩ := X
  obtain ⟨hx, hb, hml, hown, hts, hK, hN, hA, hlk, hr, hR, hsub, hQ⟩ := C
  intro ls st k M h ad H Ls locs hra hl hP hD hS hz
  obtain ⟨y, x, st1, rfl, h0, h⟩ := s_rem_o h
  exact lv_irem hx hb d h0 (kk ls _ k M h ad H Ls locs hra hl hP hD hS hz)
theorem az_idiv {X : az_X} {cc : ByteArray} {nL : Nat} {own : String} {Ts : List Cond} {rm : Room} {ret : Option FieldType} {Qs : Option Value → az_M → Prop} {pc : Nat} {P : az_T} (C : az_C X cc nL own Ts rm ret Qs) (d : decode cc pc = .ok (.idiv, 1)) (kk : az_ok X (pc + 1) P) : az_ok X pc (s_div P) := by
  obtain ⟨p, l, e, R, s, m, args, below, meth, c, D, tc, A, Q, RA⟩ := X
  obtain ⟨hx, hb, hml, hown, hts, hK, hN, hA, hlk, hr, hR, hsub, hQ⟩ := C
  intro ls st k M h ad H Ls locs hra hl hP hD hS hz
  obtain ⟨y, x, st1, rfl, h0, h⟩ := s_div_o h
  exact lv_idiv hx hb d h0 (kk ls _ k M h ad H Ls locs hra hl hP hD hS hz)
def s_dup (P : az_T) : az_T := fun ls st k M => match st with
  | .int x :: st => P ls (.int x :: .int x :: st) k M
  | .ref x :: st => P ls (.ref x :: .ref x :: st) k M
  | _ => False
def s_dup2 (P : az_T) : az_T := fun ls st k M => match st with
  | .int y :: .ref x :: st => P ls (.int y :: .ref x :: .int y :: .ref x :: st) k M
  | _ => False
def s_pop (P : az_T) : az_T := fun ls st k M => match st with
  | .int _ :: st => P ls st k M
  | _ => False
theorem az_dup {X : az_X} {cc : ByteArray} {nL : Nat} {own : String} {Ts : List Cond} {rm : Room} {ret : Option FieldType} {Qs : Option Value → az_M → Prop} {pc : Nat} {P : az_T} (C : az_C X cc nL own Ts rm ret Qs) (d : decode cc pc = .ok (.dup, 1)) (kk : az_ok X (pc + 1) P) : az_ok X pc (s_dup P) := by
  obtain ⟨p, l, e, R, s, m, args, below, meth, c, D, tc, A, Q, RA⟩ := X
  obtain ⟨hx, hb, hml, hown, hts, hK, hN, hA, hlk, hr, hR, hsub, hQ⟩ := C
  intro ls st k M h ad H Ls locs hra hl hP hD hS hz
  unfold s_dup at h
  split at h
  · exact lv_dup hx hb d rfl (kk ls _ k M h ad H Ls locs hra hl hP hD hS hz)
  · exact lv_dup hx hb d rfl (kk ls _ k M h ad H Ls locs hra hl hP hD hS hz)
  · exact h.elim
theorem az_dup2 {X : az_X} {cc : ByteArray} {nL : Nat} {own : String} {Ts : List Cond} {rm : Room} {ret : Option FieldType} {Qs : Option Value → az_M → Prop} {pc : Nat} {P : az_T} (C : az_C X cc nL own Ts rm ret Qs) (d : decode cc pc = .ok (.dup2, 1)) (kk : az_ok X (pc + 1) P) : az_ok X pc (s_dup2 P) := by
  obtain ⟨p, l, e, R, s, m, args, below, meth, c, D, tc, A, Q, RA⟩ := X
  obtain ⟨hx, hb, hml, hown, hts, hK, hN, hA, hlk, hr, hR, hsub, hQ⟩ := C
  intro ls st k M h ad H Ls locs hra hl hP hD hS hz
  unfold s_dup2 at h
  split at h
  · exact lv_dup2_11 hx hb d rfl rfl (kk ls _ k M h ad H Ls locs hra hl hP hD hS hz)
  · exact h.elim
theorem az_pop1 {X : az_X} {cc : ByteArray} {nL : Nat} {own : String} {Ts : List Cond} {rm : Room} {ret : Option FieldType} {Qs : Option Value → az_M → Prop} {pc : Nat} {P : az_T} (C : az_C X cc nL own Ts rm ret Qs) (d : decode cc pc = .ok (.pop, 1)) (kk : az_ok X (pc + 1) P) : az_ok X pc (s_pop P) := by
  obtain ⟨p, l, e, R, s, m, args, below, meth, c, D, tc, A, Q, RA⟩ := X
  obtain ⟨hx, hb, hml, hown, hts, hK, hN, hA, hlk, hr, hR, hsub, hQ⟩ := C
  intro ls st k M h ad H Ls locs hra hl hP hD hS hz
  unfold s_pop at h
  split at h
  · exact lv_pop hx hb d rfl (kk ls _ k M h ad H Ls locs hra hl hP hD hS hz)
  · exact h.elim
def s_if (c : Int32 → Prop) (Pt Pf : az_T) : az_T := fun ls st k M => match st with
  | .int x :: st => (c x → Pt ls st k M) ∧ (¬ c x → Pf ls st k M)
  | _ => False
theorem s_if_o {c : Int32 → Prop} {Pt Pf : az_T} {ls st k M} (h : s_if c Pt Pf ls st k M) : ∃ x st1, st = .int x :: st1 ∧ (c x → Pt ls st1 k M) ∧ (¬ c x → Pf ls st1 k M) := by
  unfold s_if at h
  split at h
  · exact ⟨_, _, rfl, h⟩
  · exact h.elim
def s_if2 (c : Int32 → Int32 → Prop) (Pt Pf : az_T) : az_T := fun ls st k M => match st with
  | .int y :: .int x :: st => (c x y → Pt ls st k M) ∧ (¬ c x y → Pf ls st k M)
  | _ => False
theorem s_if2_o {c : Int32 → Int32 → Prop} {Pt Pf : az_T} {ls st k M} (h : s_if2 c Pt Pf ls st k M) : ∃ y x st1, st = .int y :: .int x :: st1 ∧ (c x y → Pt ls st1 k M) ∧ (¬ c x y → Pf ls st1 k M) := by
  unfold s_if2 at h
  split at h
  · exact ⟨_, _, _, rfl, h⟩
  · exact h.elim
def c_eq (x : Int32) : Prop := x = 0
theorem az_if_eq {X : az_X} {cc : ByteArray} {nL : Nat} {own : String} {Ts : List Cond} {rm : Room} {ret : Option FieldType} {Qs : Option Value → az_M → Prop} {pc : Nat} {off : Int} {tgt : Nat} {Pt Pf : az_T} (C : az_C X cc nL own Ts rm ret Qs) (d : decode cc pc = .ok (.ifCond .eq off, 3)) (ht : (pc : Int) + off = (tgt : Int)) (kt : az_ok X tgt Pt) (kf : az_ok X (pc + 3) Pf) : az_ok X pc (s_if c_eq Pt Pf) := by
  obtain ⟨p, l, e, R, s, m, args, below, meth, c, D, tc, A, Q, RA⟩ := X
  obtain ⟨hx, hb, hml, hown, hts, hK, hN, hA, hlk, hr, hR, hsub, hQ⟩ := C
  intro ls st k M h ad H Ls locs hra hl hP hD hS hz
  obtain ⟨x, st1, rfl, h1, h2⟩ := s_if_o h
  exact lv_if_eq hx hb d ht (fun z => kt ls st1 k M (h1 z) ad H Ls locs hra hl hP hD hS hz) (fun z => kf ls st1 k M (h2 z) ad H Ls locs hra hl hP hD hS hz)
def c_ne (x : Int32) : Prop := ¬ x = 0
theorem az_if_ne {X : az_X} {cc : ByteArray} {nL : Nat} {own : String} {Ts : List Cond} {rm : Room} {ret : Option FieldType} {Qs : Option Value → az_M → Prop} {pc : Nat} {off : Int} {tgt : Nat} {Pt Pf : az_T} (C : az_C X cc nL own Ts rm ret Qs) (d : decode cc pc = .ok (.ifCond .ne off, 3)) (ht : (pc : Int) + off = (tgt : Int)) (kt : az_ok X tgt Pt) (kf : az_ok X (pc + 3) Pf) : az_ok X pc (s_if c_ne Pt Pf) := by
  obtain ⟨p, l, e, R, s, m, args, below, meth, c, D, tc, A, Q, RA⟩ := X
  obtain ⟨hx, hb, hml, hown, hts, hK, hN, hA, hlk, hr, hR, hsub, hQ⟩ := C
  intro ls st k M h ad H Ls locs hra hl hP hD hS hz
  obtain ⟨x, st1, rfl, h1, h2⟩ := s_if_o h
  exact lv_if_ne hx hb d ht (fun z => kt ls st1 k M (h1 z) ad H Ls locs hra hl hP hD hS hz) (fun z => kf ls st1 k M (h2 (fun w => w z)) ad H Ls locs hra hl hP hD hS hz)
def c_lt (x : Int32) : Prop := x < 0
theorem az_if_lt {X : az_X} {cc : ByteArray} {nL : Nat} {own : String} {Ts : List Cond} {rm : Room} {ret : Option FieldType} {Qs : Option Value → az_M → Prop} {pc : Nat} {off : Int} {tgt : Nat} {Pt Pf : az_T} (C : az_C X cc nL own Ts rm ret Qs) (d : decode cc pc = .ok (.ifCond .lt off, 3)) (ht : (pc : Int) + off = (tgt : Int)) (kt : az_ok X tgt Pt) (kf : az_ok X (pc + 3) Pf) : az_ok X pc (s_if c_lt Pt Pf) := by
  obtain ⟨p, l, e, R, s, m, args, below, meth, c, D, tc, A, Q, RA⟩ := X
  obtain ⟨hx, hb, hml, hown, hts, hK, hN, hA, hlk, hr, hR, hsub, hQ⟩ := C
  intro ls st k M h ad H Ls locs hra hl hP hD hS hz
  obtain ⟨x, st1, rfl, h1, h2⟩ := s_if_o h
  exact lv_if_lt hx hb d ht (fun z => kt ls st1 k M (h1 z) ad H Ls locs hra hl hP hD hS hz) (fun z => kf ls st1 k M (h2 z) ad H Ls locs hra hl hP hD hS hz)
def c_ge (x : Int32) : Prop := 0 ≤ x
theorem az_if_ge {X : az_X} {cc : ByteArray} {nL : Nat} {own : String} {Ts : List Cond} {rm : Room} {ret : Option FieldType} {Qs : Option Value → az_M → Prop} {pc : Nat} {off : Int} {tgt : Nat} {Pt Pf : az_T} (C : az_C X cc nL own Ts rm ret Qs) (d : decode cc pc = .ok (.ifCond .ge off, 3)) (ht : (pc : Int) + off = (tgt : Int)) (kt : az_ok X tgt Pt) (kf : az_ok X (pc + 3) Pf) : az_ok X pc (s_if c_ge Pt Pf) := by
  obtain ⟨p, l, e, R, s, m, args, below, meth, c, D, tc, A, Q, RA⟩ := X
  obtain ⟨hx, hb, hml, hown, hts, hK, hN, hA, hlk, hr, hR, hsub, hQ⟩ := C
  intro ls st k M h ad H Ls locs hra hl hP hD hS hz
  obtain ⟨x, st1, rfl, h1, h2⟩ := s_if_o h
  exact lv_if_ge hx hb d ht (fun z => kt ls st1 k M (h1 z) ad H Ls locs hra hl hP hD hS hz) (fun z => kf ls st1 k M (h2 z) ad H Ls locs hra hl hP hD hS hz)
def c_gt (x : Int32) : Prop := 0 < x
theorem az_if_gt {X : az_X} {cc : ByteArray} {nL : Nat} {own : String} {Ts : List Cond} {rm : Room} {ret : Option FieldType} {Qs : Option Value → az_M → Prop} {pc : Nat} {off : Int} {tgt : Nat} {Pt Pf : az_T} (C : az_C X cc nL own Ts rm ret Qs) (d : decode cc pc = .ok (.ifCond .gt off, 3)) (ht : (pc : Int) + off = (tgt : Int)) (kt : az_ok X tgt Pt) (kf : az_ok X (pc + 3) Pf) : az_ok X pc (s_if c_gt Pt Pf) := by
  obtain ⟨p, l, e, R, s, m, args, below, meth, c, D, tc, A, Q, RA⟩ := X
  obtain ⟨hx, hb, hml, hown, hts, hK, hN, hA, hlk, hr, hR, hsub, hQ⟩ := C
  intro ls st k M h ad H Ls locs hra hl hP hD hS hz
  obtain ⟨x, st1, rfl, h1, h2⟩ := s_if_o h
  exact lv_if_gt hx hb d ht (fun z => kt ls st1 k M (h1 z) ad H Ls locs hra hl hP hD hS hz) (fun z => kf ls st1 k M (h2 z) ad H Ls locs hra hl hP hD hS hz)
def c_le (x : Int32) : Prop := x ≤ 0
theorem az_if_le {X : az_X} {cc : ByteArray} {nL : Nat} {own : String} {Ts : List Cond} {rm : Room} {ret : Option FieldType} {Qs : Option Value → az_M → Prop} {pc : Nat} {off : Int} {tgt : Nat} {Pt Pf : az_T} (C : az_C X cc nL own Ts rm ret Qs) (d : decode cc pc = .ok (.ifCond .le off, 3)) (ht : (pc : Int) + off = (tgt : Int)) (kt : az_ok X tgt Pt) (kf : az_ok X (pc + 3) Pf) : az_ok X pc (s_if c_le Pt Pf) := by
  obtain ⟨p, l, e, R, s, m, args, below, meth, c, D, tc, A, Q, RA⟩ := X
  obtain ⟨hx, hb, hml, hown, hts, hK, hN, hA, hlk, hr, hR, hsub, hQ⟩ := C
  intro ls st k M h ad H Ls locs hra hl hP hD hS hz
  obtain ⟨x, st1, rfl, h1, h2⟩ := s_if_o h
  exact lv_if_le hx hb d ht (fun z => kt ls st1 k M (h1 z) ad H Ls locs hra hl hP hD hS hz) (fun z => kf ls st1 k M (h2 z) ad H Ls locs hra hl hP hD hS hz)
def d_eq (x y : Int32) : Prop := x = y
theorem az_icmp_eq {X : az_X} {cc : ByteArray} {nL : Nat} {own : String} {Ts : List Cond} {rm : Room} {ret : Option FieldType} {Qs : Option Value → az_M → Prop} {pc : Nat} {off : Int} {tgt : Nat} {Pt Pf : az_T} (C : az_C X cc nL own Ts rm ret Qs) (d : decode cc pc = .ok (.if_icmp .eq off, 3)) (ht : (pc : Int) + off = (tgt : Int)) (kt : az_ok X tgt Pt) (kf : az_ok X (pc + 3) Pf) : az_ok X pc (s_if2 d_eq Pt Pf) := by
  obtain ⟨p, l, e, R, s, m, args, below, meth, c, D, tc, A, Q, RA⟩ := X
  obtain ⟨hx, hb, hml, hown, hts, hK, hN, hA, hlk, hr, hR, hsub, hQ⟩ := C
  intro ls st k M h ad H Ls locs hra hl hP hD hS hz
  obtain ⟨y, x, st1, rfl, h1, h2⟩ := s_if2_o h
  exact lv_icmp_eq hx hb d ht (fun z => kt ls st1 k M (h1 z) ad H Ls locs hra hl hP hD hS hz) (fun z => kf ls st1 k M (h2 z) ad H Ls locs hra hl hP hD hS hz)
def d_ne (x y : Int32) : Prop := ¬ x = y
theorem az_icmp_ne {X : az_X} {cc : ByteArray} {nL : Nat} {own : String} {Ts : List Cond} {rm : Room} {ret : Option FieldType} {Qs : Option Value → az_M → Prop} {pc : Nat} {off : Int} {tgt : Nat} {Pt Pf : az_T} (C : az_C X cc nL own Ts rm ret Qs) (d : decode cc pc = .ok (.if_icmp .ne off, 3)) (ht : (pc : Int) + off = (tgt : Int)) (kt : az_ok X tgt Pt) (kf : az_ok X (pc + 3) Pf) : az_ok X pc (s_if2 d_ne Pt Pf) := by
  obtain ⟨p, l, e, R, s, m, args, below, meth, c, D, tc, A, Q, RA⟩ := X
  obtain ⟨hx, hb, hml, hown, hts, hK, hN, hA, hlk, hr, hR, hsub, hQ⟩ := C
  intro ls st k M h ad H Ls locs hra hl hP hD hS hz
  obtain ⟨y, x, st1, rfl, h1, h2⟩ := s_if2_o h
  exact lv_icmp_ne hx hb d ht (fun z => kt ls st1 k M (h1 z) ad H Ls locs hra hl hP hD hS hz) (fun z => kf ls st1 k M (h2 (fun w => w z)) ad H Ls locs hra hl hP hD hS hz)
def d_lt (x y : Int32) : Prop := x < y
theorem az_icmp_lt {X : az_X} {cc : ByteArray} {nL : Nat} {own : String} {Ts : List Cond} {rm : Room} {ret : Option FieldType} {Qs : Option Value → az_M → Prop} {pc : Nat} {off : Int} {tgt : Nat} {Pt Pf : az_T} (C : az_C X cc nL own Ts rm ret Qs) (d : decode cc pc = .ok (.if_icmp .lt off, 3)) (ht : (pc : Int) + off = (tgt : Int)) (kt : az_ok X tgt Pt) (kf : az_ok X (pc + 3) Pf) : az_ok X pc (s_if2 d_lt Pt Pf) := by
  obtain ⟨p, l, e, R, s, m, args, below, meth, c, D, tc, A, Q, RA⟩ := X
  obtain ⟨hx, hb, hml, hown, hts, hK, hN, hA, hlk, hr, hR, hsub, hQ⟩ := C
  intro ls st k M h ad H Ls locs hra hl hP hD hS hz
  obtain ⟨y, x, st1, rfl, h1, h2⟩ := s_if2_o h
  exact lv_icmp_lt hx hb d ht (fun z => kt ls st1 k M (h1 z) ad H Ls locs hra hl hP hD hS hz) (fun z => kf ls st1 k M (h2 z) ad H Ls locs hra hl hP hD hS hz)
def d_ge (x y : Int32) : Prop := y ≤ x
theorem az_icmp_ge {X : az_X} {cc : ByteArray} {nL : Nat} {own : String} {Ts : List Cond} {rm : Room} {ret : Option FieldType} {Qs : Option Value → az_M → Prop} {pc : Nat} {off : Int} {tgt : Nat} {Pt Pf : az_T} (C : az_C X cc nL own Ts rm ret Qs) (d : decode cc pc = .ok (.if_icmp .ge off, 3)) (ht : (pc : Int) + off = (tgt : Int)) (kt : az_ok X tgt Pt) (kf : az_ok X (pc + 3) Pf) : az_ok X pc (s_if2 d_ge Pt Pf) := by
  obtain ⟨p, l, e, R, s, m, args, below, meth, c, D, tc, A, Q, RA⟩ := X
  obtain ⟨hx, hb, hml, hown, hts, hK, hN, hA, hlk, hr, hR, hsub, hQ⟩ := C
  intro ls st k M h ad H Ls locs hra hl hP hD hS hz
  obtain ⟨y, x, st1, rfl, h1, h2⟩ := s_if2_o h
  exact lv_icmp_ge hx hb d ht (fun z => kt ls st1 k M (h1 z) ad H Ls locs hra hl hP hD hS hz) (fun z => kf ls st1 k M (h2 z) ad H Ls locs hra hl hP hD hS hz)
def d_gt (x y : Int32) : Prop := y < x
theorem az_icmp_gt {X : az_X} {cc : ByteArray} {nL : Nat} {own : String} {Ts : List Cond} {rm : Room} {ret : Option FieldType} {Qs : Option Value → az_M → Prop} {pc : Nat} {off : Int} {tgt : Nat} {Pt Pf : az_T} (C : az_C X cc nL own Ts rm ret Qs) (d : decode cc pc = .ok (.if_icmp .gt off, 3)) (ht : (pc : Int) + off = (tgt : Int)) (kt : az_ok X tgt Pt) (kf : az_ok X (pc + 3) Pf) : az_ok X pc (s_if2 d_gt Pt Pf) := by
  obtain ⟨p, l, e, R, s, m, args, below, meth, c, D, tc, A, Q, RA⟩ := X
  obtain ⟨hx, hb, hml, hown, hts, hK, hN, hA, hlk, hr, hR, hsub, hQ⟩ := C
  intro ls st k M h ad H Ls locs hra hl hP hD hS hz
  obtain ⟨y, x, st1, rfl, h1, h2⟩ := s_if2_o h
  exact lv_icmp_gt hx hb d ht (fun z => kt ls st1 k M (h1 z) ad H Ls locs hra hl hP hD hS hz) (fun z => kf ls st1 k M (h2 z) ad H Ls locs hra hl hP hD hS hz)
def d_le (x y : Int32) : Prop := x ≤ y
theorem az_icmp_le {X : az_X} {cc : ByteArray} {nL : Nat} {own : String} {Ts : List Cond} {rm : Room} {ret : Option FieldType} {Qs : Option Value → az_M → Prop} {pc : Nat} {off : Int} {tgt : Nat} {Pt Pf : az_T} (C : az_C X cc nL own Ts rm ret Qs) (d : decode cc pc = .ok (.if_icmp .le off, 3)) (ht : (pc : Int) + off = (tgt : Int)) (kt : az_ok X tgt Pt) (kf : az_ok X (pc + 3) Pf) : az_ok X pc (s_if2 d_le Pt Pf) := by
  obtain ⟨p, l, e, R, s, m, args, below, meth, c, D, tc, A, Q, RA⟩ := X
  obtain ⟨hx, hb, hml, hown, hts, hK, hN, hA, hlk, hr, hR, hsub, hQ⟩ := C
  intro ls st k M h ad H Ls locs hra hl hP hD hS hz
  obtain ⟨y, x, st1, rfl, h1, h2⟩ := s_if2_o h
  exact lv_icmp_le hx hb d ht (fun z => kt ls st1 k M (h1 z) ad H Ls locs hra hl hP hD hS hz) (fun z => kf ls st1 k M (h2 z) ad H Ls locs hra hl hP hD hS hz)
theorem az_goto {X : az_X} {cc : ByteArray} {nL : Nat} {own : String} {Ts : List Cond} {rm : Room} {ret : Option FieldType} {Qs : Option Value → az_M → Prop} {pc : Nat} {off : Int} {tgt : Nat} {P : az_T} (C : az_C X cc nL own Ts rm ret Qs) (d : decode cc pc = .ok (.goto off, 3)) (ht : (pc : Int) + off = (tgt : Int)) (kk : az_ok X tgt P) : az_ok X pc P := by
  obtain ⟨p, l, e, R, s, m, args, below, meth, c, D, tc, A, Q, RA⟩ := X
  obtain ⟨hx, hb, hml, hown, hts, hK, hN, hA, hlk, hr, hR, hsub, hQ⟩ := C
  intro ls st k M h ad H Ls locs hra hl hP hD hS hz
  exact lv_goto hx hb d ht (kk ls st k M h ad H Ls locs hra hl hP hD hS hz)
def s_kp (bs : List Bool) (P : az_T) : az_T := fun ls st k M => P (az_kp bs ls) st k M
theorem az_keep {X : az_X} {pc : Nat} {P : az_T} (bs : List Bool) (kk : az_ok X pc P) : az_ok X pc (s_kp bs P) := by
  obtain ⟨p, l, e, R, s, m, args, below, meth, c, D, tc, A, Q, RA⟩ := X
  intro ls st k M h ad H Ls locs hra hl hP hD hS hz
  exact kk _ st k M h ad H Ls locs hra (az_lv_kp hl) hP hD hS hz
def s_lp (F : az_T → az_T) : az_T := fun ls st k M => ∃ n : Nat, (Nat.rec (motive := fun _ => az_T) (fun _ _ _ _ => False) (fun _ P => F P) n : az_T) ls st k M
theorem az_loop {X : az_X} {pc : Nat} {F : az_T → az_T} (h : ∀ P, az_ok X pc P → az_ok X pc (F P)) : az_ok X pc (s_lp F) := by
  have hn : ∀ n : Nat, az_ok X pc (Nat.rec (motive := fun _ => az_T) (fun _ _ _ _ => False) (fun _ P => F P) n : az_T) := by
    intro n
    induction n with
    | zero => exact fun _ _ _ _ q => False.elim q
    | succ n ih => exact h _ ih
  rintro ls st k M ⟨n, q⟩
  exact hn n ls st k M q
theorem az_nf_of {ci : Nat} {q : vw_C} (h : vwCl[ci]? = some q) : az_nf ci = q.2.2 := by
  unfold az_nf
  rw [h]
def s_gi (k j : Nat) (P : az_T) : az_T := fun ls st q M => match st with
  | .ref a :: st => a < M.1.1 ∧ (M.1.2.1 a).1 = k ∧ P ls (.int (M.2.1 a j) :: st) q M
  | _ => False
theorem s_gi_o {k j : Nat} {P : az_T} {ls st q M} (h : s_gi k j P ls st q M) : ∃ a st1, st = .ref a :: st1 ∧ a < M.1.1 ∧ (M.1.2.1 a).1 = k ∧ P ls (.int (M.2.1 a j) :: st1) q M := by
  unfold s_gi at h
  split at h
  · exact ⟨_, _, rfl, h⟩
  · exact h.elim
def s_gr (k j : Nat) (P : az_T) : az_T := fun ls st q M => match st with
  | .ref a :: st => a < M.1.1 ∧ (M.1.2.1 a).1 = k ∧ match M.1.2.2 a j with
    | some b => P ls (.ref b :: st) q M
    | none => False
  | _ => False
theorem s_gr_o {k j : Nat} {P : az_T} {ls st q M} (h : s_gr k j P ls st q M) : ∃ a st1 b, st = .ref a :: st1 ∧ a < M.1.1 ∧ (M.1.2.1 a).1 = k ∧ M.1.2.2 a j = some b ∧ P ls (.ref b :: st1) q M := by
  unfold s_gr at h
  split at h
  · obtain ⟨h1, h2, h3⟩ := h
    split at h3
    · rename_i b hb
      exact ⟨_, _, b, rfl, h1, h2, hb, h3⟩
    · exact h3.elim
  · exact h.elim
def s_pi (k j : Nat) (P : az_T) : az_T := fun ls st q M => match st with
  | .int x :: .ref a :: st => a < M.1.1 ∧ (M.1.2.1 a).1 = k ∧ P ls st q (az_setI M a j x)
  | _ => False
theorem s_pi_o {k j : Nat} {P : az_T} {ls st q M} (h : s_pi k j P ls st q M) : ∃ x a st1, st = .int x :: .ref a :: st1 ∧ a < M.1.1 ∧ (M.1.2.1 a).1 = k ∧ P ls st1 q (az_setI M a j x) := by
  unfold s_pi at h
  split at h
  · exact ⟨_, _, _, rfl, h⟩
  · exact h.elim
def s_pz (k j : Nat) (P : az_T) : az_T := fun ls st q M => match st with
  | .int x :: .ref a :: st => a < M.1.1 ∧ (M.1.2.1 a).1 = k ∧ (x = 0 ∨ x = 1) ∧ P ls st q (az_setI M a j x)
  | _ => False
theorem s_pz_o {k j : Nat} {P : az_T} {ls st q M} (h : s_pz k j P ls st q M) : ∃ x a st1, st = .int x :: .ref a :: st1 ∧ a < M.1.1 ∧ (M.1.2.1 a).1 = k ∧ (x = 0 ∨ x = 1) ∧ P ls st1 q (az_setI M a j x) := by
  unfold s_pz at h
  split at h
  · exact ⟨_, _, _, rfl, h⟩
  · exact h.elim
theorem az_getI {X : az_X} {cc : ByteArray} {nL : Nat} {own : String} {Ts : List Cond} {rm : Room} {ret : Option FieldType} {Qs : Option Value → az_M → Prop} {pc : Nat} {Cn ref : String} {T : u_T} {N ci j index : Nat} {P : az_T} (C : az_C X cc nL own Ts rm ret Qs) (hin : ∀ w ∈ u_ws Cn T N, w ∈ az_gw) (hc : vwCl[ci]? = some (Cn, T, N)) (hci : ci < 20) (hj : j < N) (hi : az_isI ci j = true) (hlink : Cond.fieldLink own index ref (T j).2.1 (T j).2.2.1 ∈ az_gw) (href : ref = (T j).1) (d : decode cc pc = .ok (.getfield index, 3)) (kk : az_ok X (pc + 3) P) : az_ok X pc (s_gi ci j P) := by
  obtain ⟨p, l, e, R, s, m, args, below, meth, c, D, tc, A, Q, RA⟩ := X
  obtain ⟨hx, hb, hml, hown, hts, hK, hN, hA, hlk, hr, hR, hsub, hQ⟩ := C
  intro ls st k M h ad H Ls locs hra hl hP hD hS hz
  obtain ⟨a, st1, rfl, ha, hk, h⟩ := s_gi_o h
  have hv := az_fget (ad := ad) (M := M) (a := a) (k := ci) (j := j) (by rw [az_nf_of hc]; exact hj)
  rw [if_pos hi] at hv
  have he := az_get (tc := tc) (ad := ad) ha
  rw [az_obj hk hci] at he
  exact va_get hx hb hts (fun w hw => hsub w (hin w hw)) hown hK hP a he hc j hj (hts _ (hsub _ hlink)) (fun x hx => by rw [href]; exact hx) hv d (kk ls _ k M h ad H Ls locs hra hl hP hD hS hz)
theorem az_getR {X : az_X} {cc : ByteArray} {nL : Nat} {own : String} {Ts : List Cond} {rm : Room} {ret : Option FieldType} {Qs : Option Value → az_M → Prop} {pc : Nat} {Cn ref : String} {T : u_T} {N ci j index : Nat} {P : az_T} (C : az_C X cc nL own Ts rm ret Qs) (hin : ∀ w ∈ u_ws Cn T N, w ∈ az_gw) (hc : vwCl[ci]? = some (Cn, T, N)) (hci : ci < 20) (hj : j < N) (hi : az_isI ci j = false) (hlink : Cond.fieldLink own index ref (T j).2.1 (T j).2.2.1 ∈ az_gw) (href : ref = (T j).1) (d : decode cc pc = .ok (.getfield index, 3)) (kk : az_ok X (pc + 3) P) : az_ok X pc (s_gr ci j P) := by
  obtain ⟨p, l, e, R, s, m, args, below, meth, c, D, tc, A, Q, RA⟩ := X
  obtain ⟨hx, hb, hml, hown, hts, hK, hN, hA, hlk, hr, hR, hsub, hQ⟩ := C
  intro ls st k M h ad H Ls locs hra hl hP hD hS hz
  obtain ⟨a, st1, b, rfl, ha, hk, hr1, h⟩ := s_gr_o h
  have hv := az_fget (ad := ad) (M := M) (a := a) (k := ci) (j := j) (by rw [az_nf_of hc]; exact hj)
  rw [if_neg (by rw [hi]; decide), hr1] at hv
  have he := az_get (tc := tc) (ad := ad) ha
  rw [az_obj hk hci] at he
  exact va_get hx hb hts (fun w hw => hsub w (hin w hw)) hown hK hP a he hc j hj (hts _ (hsub _ hlink)) (fun x hx => by rw [href]; exact hx) hv d (kk ls _ k M h ad H Ls locs hra hl hP hD hS hz)
theorem az_putI {X : az_X} {cc : ByteArray} {nL : Nat} {own : String} {Ts : List Cond} {rm : Room} {ret : Option FieldType} {Qs : Option Value → az_M → Prop} {pc : Nat} {Cn ref : String} {T : u_T} {N ci j index : Nat} {P : az_T} (C : az_C X cc nL own Ts rm ret Qs) (hin : ∀ w ∈ u_ws Cn T N, w ∈ az_gw) (hc : vwCl[ci]? = some (Cn, T, N)) (hci : ci < 20) (hj : j < N) (ty0 : Nat → FieldType) (hty : ∀ k, k < N → parseFieldDescriptor (T k).2.2.1 = some (ty0 k)) (hnm : ∀ a, a < N → ∀ b, b < N → a ≠ b → (T a).2.1 ≠ (T b).2.1) (hi : az_isI ci j = true) (hd : parseFieldDescriptor (T j).2.2.1 = some .int) (hfin : (T j).2.2.2 = false) (hlink : Cond.fieldLink own index ref (T j).2.1 (T j).2.2.1 ∈ az_gw) (href : ref = (T j).1) (d : decode cc pc = .ok (.putfield index, 3)) (kk : az_ok X (pc + 3) P) : az_ok X pc (s_pi ci j P) := by
  obtain ⟨p, l, e, R, s, m, args, below, meth, c, D, tc, A, Q, RA⟩ := X
  obtain ⟨hx, hb, hml, hown, hts, hK, hN, hA, hlk, hr, hR, hsub, hQ⟩ := C
  intro ls st k M h ad H Ls locs hra hl hP hD hS hz
  obtain ⟨x, a, st1, rfl, ha, hk, h⟩ := s_pi_o h
  have he := az_get (tc := tc) (ad := ad) ha
  rw [az_obj hk hci] at he
  refine va_put hx hb hts (fun w hw => hsub w (hin w hw)) ty0 hty hnm hown hK hP hD hS a he hc j hj (hts _ (hsub _ hlink)) (fun x hx => by rw [href]; exact hx) hfin (ty := .int) (v := .int x) hd rfl rfl (by rw [az_flen, az_nf_of hc]; exact hj) d (fun H1 locs1 hP1 hD1 hS1 => ?_)
  rw [az_fsetI hi, az_set (M' := az_setI M a j x) (by rfl) (az_obj (M := az_setI M a j x) hk hci) az_otherI] at hP1 hD1
  exact kk ls _ k _ h ad H1 Ls locs1 hra hl hP1 hD1 hS1 hz
theorem az_putZ {X : az_X} {cc : ByteArray} {nL : Nat} {own : String} {Ts : List Cond} {rm : Room} {ret : Option FieldType} {Qs : Option Value → az_M → Prop} {pc : Nat} {Cn ref : String} {T : u_T} {N ci j index : Nat} {P : az_T} (C : az_C X cc nL own Ts rm ret Qs) (hin : ∀ w ∈ u_ws Cn T N, w ∈ az_gw) (hc : vwCl[ci]? = some (Cn, T, N)) (hci : ci < 20) (hj : j < N) (ty0 : Nat → FieldType) (hty : ∀ k, k < N → parseFieldDescriptor (T k).2.2.1 = some (ty0 k)) (hnm : ∀ a, a < N → ∀ b, b < N → a ≠ b → (T a).2.1 ≠ (T b).2.1) (hi : az_isI ci j = true) (hd : parseFieldDescriptor (T j).2.2.1 = some .boolean) (hfin : (T j).2.2.2 = false) (hlink : Cond.fieldLink own index ref (T j).2.1 (T j).2.2.1 ∈ az_gw) (href : ref = (T j).1) (d : decode cc pc = .ok (.putfield index, 3)) (kk : az_ok X (pc + 3) P) : az_ok X pc (s_pz ci j P) := by
  obtain ⟨p, l, e, R, s, m, args, below, meth, c, D, tc, A, Q, RA⟩ := X
  obtain ⟨hx, hb, hml, hown, hts, hK, hN, hA, hlk, hr, hR, hsub, hQ⟩ := C
  intro ls st k M h ad H Ls locs hra hl hP hD hS hz
  obtain ⟨x, a, st1, rfl, ha, hk, h01, h⟩ := s_pz_o h
  have he := az_get (tc := tc) (ad := ad) ha
  rw [az_obj hk hci] at he
  refine va_put hx hb hts (fun w hw => hsub w (hin w hw)) ty0 hty hnm hown hK hP hD hS a he hc j hj (hts _ (hsub _ hlink)) (fun x hx => by rw [href]; exact hx) hfin (ty := .boolean) (v := .int x) hd (by rcases h01 with rfl | rfl <;> decide) (by rcases h01 with rfl | rfl <;> decide) (by rw [az_flen, az_nf_of hc]; exact hj) d (fun H1 locs1 hP1 hD1 hS1 => ?_)
  rw [az_fsetI hi, az_set (M' := az_setI M a j x) (by rfl) (az_obj (M := az_setI M a j x) hk hci) az_otherI] at hP1 hD1
  exact kk ls _ k _ h ad H1 Ls locs1 hra hl hP1 hD1 hS1 hz
def s_al (kd : Nat) (P : az_T) : az_T := fun ls st q M => match st with
  | .int i :: .ref a :: st => a < M.1.1 ∧ (M.1.2.1 a).1 = kd ∧ vp_in i (M.1.2.1 a).2 ∧ P ls (.int (M.2.1 a i.toNatClampNeg) :: st) q M
  | _ => False
theorem s_al_o {kd : Nat} {P : az_T} {ls st q M} (h : s_al kd P ls st q M) : ∃ i a st1, st = .int i :: .ref a :: st1 ∧ a < M.1.1 ∧ (M.1.2.1 a).1 = kd ∧ vp_in i (M.1.2.1 a).2 ∧ P ls (.int (M.2.1 a i.toNatClampNeg) :: st1) q M := by
  unfold s_al at h
  split at h
  · exact ⟨_, _, _, rfl, h⟩
  · exact h.elim
def s_aa (kd : Nat) (P : az_T) : az_T := fun ls st q M => match st with
  | .int i :: .ref a :: st => a < M.1.1 ∧ (M.1.2.1 a).1 = kd ∧ vp_in i (M.1.2.1 a).2 ∧ match M.1.2.2 a i.toNatClampNeg with
    | some b => P ls (.ref b :: st) q M
    | none => False
  | _ => False
theorem s_aa_o {kd : Nat} {P : az_T} {ls st q M} (h : s_aa kd P ls st q M) : ∃ i a st1 b, st = .int i :: .ref a :: st1 ∧ a < M.1.1 ∧ (M.1.2.1 a).1 = kd ∧ vp_in i (M.1.2.1 a).2 ∧ M.1.2.2 a i.toNatClampNeg = some b ∧ P ls (.ref b :: st1) q M := by
  unfold s_aa at h
  split at h
  · obtain ⟨h1, h2, h3, h4⟩ := h
    split at h4
    · rename_i b hb
      exact ⟨_, _, _, b, rfl, h1, h2, h3, hb, h4⟩
    · exact h4.elim
  · exact h.elim
def s_as (P : az_T) : az_T := fun ls st q M => match st with
  | .int x :: .int i :: .ref a :: st => a < M.1.1 ∧ (M.1.2.1 a).1 = 20 ∧ vp_in i (M.1.2.1 a).2 ∧ P ls st q (az_setI M a i.toNatClampNeg x)
  | _ => False
theorem s_as_o {P : az_T} {ls st q M} (h : s_as P ls st q M) : ∃ x i a st1, st = .int x :: .int i :: .ref a :: st1 ∧ a < M.1.1 ∧ (M.1.2.1 a).1 = 20 ∧ vp_in i (M.1.2.1 a).2 ∧ P ls st1 q (az_setI M a i.toNatClampNeg x) := by
  unfold s_as at h
  split at h
  · exact ⟨_, _, _, _, rfl, h⟩
  · exact h.elim
def s_az (P : az_T) : az_T := fun ls st q M => match st with
  | .int x :: .int i :: .ref a :: st => a < M.1.1 ∧ (M.1.2.1 a).1 = 21 ∧ vp_in i (M.1.2.1 a).2 ∧ (x = 0 ∨ x = 1) ∧ P ls st q (az_setI M a i.toNatClampNeg x)
  | _ => False
theorem s_az_o {P : az_T} {ls st q M} (h : s_az P ls st q M) : ∃ x i a st1, st = .int x :: .int i :: .ref a :: st1 ∧ a < M.1.1 ∧ (M.1.2.1 a).1 = 21 ∧ vp_in i (M.1.2.1 a).2 ∧ (x = 0 ∨ x = 1) ∧ P ls st1 q (az_setI M a i.toNatClampNeg x) := by
  unfold s_az at h
  split at h
  · exact ⟨_, _, _, _, rfl, h⟩
  · exact h.elim
def s_ac (P : az_T) : az_T := fun ls st q M => match st with
  | .int x :: .int i :: .ref a :: st => a < M.1.1 ∧ (M.1.2.1 a).1 = 22 ∧ vp_in i (M.1.2.1 a).2 ∧ vp_nar .char x = x ∧ P ls st q (az_setI M a i.toNatClampNeg x)
  | _ => False
theorem s_ac_o {P : az_T} {ls st q M} (h : s_ac P ls st q M) : ∃ x i a st1, st = .int x :: .int i :: .ref a :: st1 ∧ a < M.1.1 ∧ (M.1.2.1 a).1 = 22 ∧ vp_in i (M.1.2.1 a).2 ∧ vp_nar .char x = x ∧ P ls st1 q (az_setI M a i.toNatClampNeg x) := by
  unfold s_ac at h
  split at h
  · exact ⟨_, _, _, _, rfl, h⟩
  · exact h.elim
theorem az_arrI {ad : Nat → Nat} {M : az_M} {a k n : Nat} (hk : k < 23) : az_arr ad M a k n = (n, .inl (M.2.1 a)) := by
  unfold az_arr
  rw [if_pos hk]
theorem az_arrR {ad : Nat → Nat} {M : az_M} {a k n : Nat} (hk : 24 < k) : az_arr ad M a k n = (n, .inr (.inr (.inr (.inr (fun j => (M.1.2.2 a j).map ad))))) := by
  unfold az_arr
  rw [if_neg (by omega), if_neg (by omega), if_neg (by omega)]
theorem az_iald {X : az_X} {cc : ByteArray} {nL : Nat} {own : String} {Ts : List Cond} {rm : Room} {ret : Option FieldType} {Qs : Option Value → az_M → Prop} {pc : Nat} {P : az_T} (C : az_C X cc nL own Ts rm ret Qs) (d : decode cc pc = .ok (.iaload, 1)) (kk : az_ok X (pc + 1) P) : az_ok X pc (s_al 20 P) := by
  obtain ⟨p, l, e, R, s, m, args, below, meth, c, D, tc, A, Q, RA⟩ := X
  obtain ⟨hx, hb, hml, hown, hts, hK, hN, hA, hlk, hr, hR, hsub, hQ⟩ := C
  intro ls st k M h ad H Ls locs hra hl hP hD hS hz
  obtain ⟨i, a, st1, rfl, ha, hk, hi, h⟩ := s_al_o h
  have he := az_get (tc := tc) (ad := ad) ha
  rw [az_row hk (by decide), az_arrI (by decide)] at he
  exact va_iald hx hb hK hP a 0 he rfl hi d (kk ls _ k M h ad H Ls locs hra hl hP hD hS hz)
theorem az_zald {X : az_X} {cc : ByteArray} {nL : Nat} {own : String} {Ts : List Cond} {rm : Room} {ret : Option FieldType} {Qs : Option Value → az_M → Prop} {pc : Nat} {P : az_T} (C : az_C X cc nL own Ts rm ret Qs) (d : decode cc pc = .ok (.baload, 1)) (kk : az_ok X (pc + 1) P) : az_ok X pc (s_al 21 P) := by
  obtain ⟨p, l, e, R, s, m, args, below, meth, c, D, tc, A, Q, RA⟩ := X
  obtain ⟨hx, hb, hml, hown, hts, hK, hN, hA, hlk, hr, hR, hsub, hQ⟩ := C
  intro ls st k M h ad H Ls locs hra hl hP hD hS hz
  obtain ⟨i, a, st1, rfl, ha, hk, hi, h⟩ := s_al_o h
  have he := az_get (tc := tc) (ad := ad) ha
  rw [az_row hk (by decide), az_arrI (by decide)] at he
  exact va_zald hx hb hK hP a 1 he rfl hi d (kk ls _ k M h ad H Ls locs hra hl hP hD hS hz)
theorem az_cald {X : az_X} {cc : ByteArray} {nL : Nat} {own : String} {Ts : List Cond} {rm : Room} {ret : Option FieldType} {Qs : Option Value → az_M → Prop} {pc : Nat} {P : az_T} (C : az_C X cc nL own Ts rm ret Qs) (d : decode cc pc = .ok (.caload, 1)) (kk : az_ok X (pc + 1) P) : az_ok X pc (s_al 22 P) := by
  obtain ⟨p, l, e, R, s, m, args, below, meth, c, D, tc, A, Q, RA⟩ := X
  obtain ⟨hx, hb, hml, hown, hts, hK, hN, hA, hlk, hr, hR, hsub, hQ⟩ := C
  intro ls st k M h ad H Ls locs hra hl hP hD hS hz
  obtain ⟨i, a, st1, rfl, ha, hk, hi, h⟩ := s_al_o h
  have he := az_get (tc := tc) (ad := ad) ha
  rw [az_row hk (by decide), az_arrI (by decide)] at he
  exact va_cald hx hb hK hP a 2 he rfl hi d (kk ls _ k M h ad H Ls locs hra hl hP hD hS hz)
theorem az_aald {X : az_X} {cc : ByteArray} {nL : Nat} {own : String} {Ts : List Cond} {rm : Room} {ret : Option FieldType} {Qs : Option Value → az_M → Prop} {pc : Nat} {P : az_T} (C : az_C X cc nL own Ts rm ret Qs) (d : decode cc pc = .ok (.aaload, 1)) (kk : az_ok X (pc + 1) P) : az_ok X pc (s_aa 26 P) := by
  obtain ⟨p, l, e, R, s, m, args, below, meth, c, D, tc, A, Q, RA⟩ := X
  obtain ⟨hx, hb, hml, hown, hts, hK, hN, hA, hlk, hr, hR, hsub, hQ⟩ := C
  intro ls st k M h ad H Ls locs hra hl hP hD hS hz
  obtain ⟨i, a, st1, b, rfl, ha, hk, hi, hr1, h⟩ := s_aa_o h
  have he := az_get (tc := tc) (ad := ad) ha
  rw [az_row hk (by decide), az_arrR (by decide)] at he
  refine va_aldq hx hb hK hP a 6 he rfl hi d ?_
  rw [hr1]
  exact kk ls _ k M h ad H Ls locs hra hl hP hD hS hz
theorem az_aald2 {X : az_X} {cc : ByteArray} {nL : Nat} {own : String} {Ts : List Cond} {rm : Room} {ret : Option FieldType} {Qs : Option Value → az_M → Prop} {pc : Nat} {P : az_T} (C : az_C X cc nL own Ts rm ret Qs) (d : decode cc pc = .ok (.aaload, 1)) (kk : az_ok X (pc + 1) P) : az_ok X pc (s_aa 25 P) := by
  obtain ⟨p, l, e, R, s, m, args, below, meth, c, D, tc, A, Q, RA⟩ := X
  obtain ⟨hx, hb, hml, hown, hts, hK, hN, hA, hlk, hr, hR, hsub, hQ⟩ := C
  intro ls st k M h ad H Ls locs hra hl hP hD hS hz
  obtain ⟨i, a, st1, b, rfl, ha, hk, hi, hr1, h⟩ := s_aa_o h
  have he := az_get (tc := tc) (ad := ad) ha
  rw [az_row hk (by decide), az_arrR (by decide)] at he
  have hlt : i.toNatClampNeg < (M.1.2.1 a).2 := Nat.not_le.mp fun q => hi (Or.inr q)
  refine W.aald (v := va_rf ((M.1.2.2 a i.toNatClampNeg).map ad)) (ty := .array .int) hx hb (hP a _ he) ((hK.2 5 (tc 25, .array .int) rfl).1 (M.1.2.1 a).2 (fun j => va_rf ((M.1.2.2 a j).map ad))) rfl (fun q => by cases q) (by show ¬ (i < 0 ∨ (arrV _ _ _).slots.size ≤ _); rw [arrV_size]; exact hi) (by show (arrV _ _ _).slots[_]? = _; rw [arrV_read _ _ hlt]) rfl rfl d ?_
  rw [hr1]
  exact kk ls _ k M h ad H Ls locs hra hl hP hD hS hz
theorem az_iast {X : az_X} {cc : ByteArray} {nL : Nat} {own : String} {Ts : List Cond} {rm : Room} {ret : Option FieldType} {Qs : Option Value → az_M → Prop} {pc : Nat} {P : az_T} (C : az_C X cc nL own Ts rm ret Qs) (d : decode cc pc = .ok (.iastore, 1)) (kk : az_ok X (pc + 1) P) : az_ok X pc (s_as P) := by
  obtain ⟨p, l, e, R, s, m, args, below, meth, c, D, tc, A, Q, RA⟩ := X
  obtain ⟨hx, hb, hml, hown, hts, hK, hN, hA, hlk, hr, hR, hsub, hQ⟩ := C
  intro ls st k M h ad H Ls locs hra hl hP hD hS hz
  obtain ⟨x, i, a, st1, rfl, ha, hk, hi, h⟩ := s_as_o h
  have he := az_get (tc := tc) (ad := ad) ha
  rw [az_row hk (by decide), az_arrI (by decide)] at he
  refine va_iast hx hb hK hP hD hS a 0 he rfl hi d (fun H1 locs1 hP1 hD1 hS1 => ?_)
  rw [az_set (M' := az_setI M a i.toNatClampNeg x) (by rfl) (by rw [az_row (M := az_setI M a i.toNatClampNeg x) hk (by decide), az_arrI (by decide)]; show Sum.inl (tc 20, (M.1.2.1 a).2, Sum.inl (az_up M.2.1 a i.toNatClampNeg x a)) = _; rw [az_upI]) az_otherI] at hP1 hD1
  exact kk ls _ k _ h ad H1 Ls locs1 hra hl hP1 hD1 hS1 hz
theorem az_zast {X : az_X} {cc : ByteArray} {nL : Nat} {own : String} {Ts : List Cond} {rm : Room} {ret : Option FieldType} {Qs : Option Value → az_M → Prop} {pc : Nat} {P : az_T} (C : az_C X cc nL own Ts rm ret Qs) (d : decode cc pc = .ok (.bastore, 1)) (kk : az_ok X (pc + 1) P) : az_ok X pc (s_az P) := by
  obtain ⟨p, l, e, R, s, m, args, below, meth, c, D, tc, A, Q, RA⟩ := X
  obtain ⟨hx, hb, hml, hown, hts, hK, hN, hA, hlk, hr, hR, hsub, hQ⟩ := C
  intro ls st k M h ad H Ls locs hra hl hP hD hS hz
  obtain ⟨x, i, a, st1, rfl, ha, hk, hi, h01, h⟩ := s_az_o h
  have he := az_get (tc := tc) (ad := ad) ha
  rw [az_row hk (by decide), az_arrI (by decide)] at he
  refine va_zast hx hb hK hP hD hS a 1 he rfl hi d (fun H1 locs1 hP1 hD1 hS1 => ?_)
  rw [show vp_nar .boolean x = x by rcases h01 with rfl | rfl <;> decide] at hP1 hD1
  rw [az_set (M' := az_setI M a i.toNatClampNeg x) (by rfl) (by rw [az_row (M := az_setI M a i.toNatClampNeg x) hk (by decide), az_arrI (by decide)]; show Sum.inl (tc 21, (M.1.2.1 a).2, Sum.inl (az_up M.2.1 a i.toNatClampNeg x a)) = _; rw [az_upI]) az_otherI] at hP1 hD1
  exact kk ls _ k _ h ad H1 Ls locs1 hra hl hP1 hD1 hS1 hz
theorem az_cast {X : az_X} {cc : ByteArray} {nL : Nat} {own : String} {Ts : List Cond} {rm : Room} {ret : Option FieldType} {Qs : Option Value → az_M → Prop} {pc : Nat} {P : az_T} (C : az_C X cc nL own Ts rm ret Qs) (d : decode cc pc = .ok (.castore, 1)) (kk : az_ok X (pc + 1) P) : az_ok X pc (s_ac P) := by
  obtain ⟨p, l, e, R, s, m, args, below, meth, c, D, tc, A, Q, RA⟩ := X
  obtain ⟨hx, hb, hml, hown, hts, hK, hN, hA, hlk, hr, hR, hsub, hQ⟩ := C
  intro ls st k M h ad H Ls locs hra hl hP hD hS hz
  obtain ⟨x, i, a, st1, rfl, ha, hk, hi, h01, h⟩ := s_ac_o h
  have he := az_get (tc := tc) (ad := ad) ha
  rw [az_row hk (by decide), az_arrI (by decide)] at he
  refine va_cast hx hb hK hP hD hS a 2 he rfl hi d (fun H1 locs1 hP1 hD1 hS1 => ?_)
  rw [h01] at hP1 hD1
  rw [az_set (M' := az_setI M a i.toNatClampNeg x) (by rfl) (by rw [az_row (M := az_setI M a i.toNatClampNeg x) hk (by decide), az_arrI (by decide)]; show Sum.inl (tc 22, (M.1.2.1 a).2, Sum.inl (az_up M.2.1 a i.toNatClampNeg x a)) = _; rw [az_upI]) az_otherI] at hP1 hD1
  exact kk ls _ k _ h ad H1 Ls locs1 hra hl hP1 hD1 hS1 hz
abbrev az_setA (M : az_M) (a : Nat) (g : Nat → Int32) : az_M := (M.1, va_up M.2.1 a g, M.2.2)
def s_cpy (P : az_T) : az_T := fun ls st q M => match st with
  | .int n :: .int dp :: .ref a :: .int sp :: .ref b :: st => a < M.1.1 ∧ (M.1.2.1 a).1 = 20 ∧ b < M.1.1 ∧ (M.1.2.1 b).1 = 20 ∧ ¬ sp < 0 ∧ ¬ dp < 0 ∧ ¬ n < 0 ∧ sp.toNatClampNeg + n.toNatClampNeg ≤ (M.1.2.1 b).2 ∧ dp.toNatClampNeg + n.toNatClampNeg ≤ (M.1.2.1 a).2 ∧ st.length ≤ 4 ∧ P ls st q (az_setA M a (va_cpy (M.2.1 b) (M.2.1 a) sp.toNatClampNeg dp.toNatClampNeg n.toNatClampNeg))
  | _ => False
theorem s_cpy_o {P : az_T} {ls st q M} (h : s_cpy P ls st q M) : ∃ n dp a sp b st1, st = .int n :: .int dp :: .ref a :: .int sp :: .ref b :: st1 ∧ a < M.1.1 ∧ (M.1.2.1 a).1 = 20 ∧ b < M.1.1 ∧ (M.1.2.1 b).1 = 20 ∧ ¬ sp < 0 ∧ ¬ dp < 0 ∧ ¬ n < 0 ∧ sp.toNatClampNeg + n.toNatClampNeg ≤ (M.1.2.1 b).2 ∧ dp.toNatClampNeg + n.toNatClampNeg ≤ (M.1.2.1 a).2 ∧ st1.length ≤ 4 ∧ P ls st1 q (az_setA M a (va_cpy (M.2.1 b) (M.2.1 a) sp.toNatClampNeg dp.toNatClampNeg n.toNatClampNeg)) := by
  unfold s_cpy at h
  split at h
  · exact ⟨_, _, _, _, _, _, rfl, h⟩
  · exact h.elim
theorem az_otherA {tc : Nat → ClassId} {ad : Nat → Nat} {M : az_M} {a : Nat} {g : Nat → Int32} : ∀ b, b ≠ a → az_cell tc ad (az_setA M a g) b = az_cell tc ad M b := by
  intro b hb
  have e : va_up M.2.1 a g b = M.2.1 b := by simp [va_up, hb]
  simp only [az_cell, az_fs, az_arr, e]
theorem az_catLe (v : Value) : v.category ≤ 2 := by cases v <;> simp [Value.category]
theorem az_catSum : ∀ (st : List Value), (st.map fun v => v.category).sum ≤ 2 * st.length
  | [] => Nat.le_refl _
  | v :: t => by
    have h1 := az_catLe v
    have h2 := az_catSum t
    simp only [List.map_cons, List.sum_cons, List.length_cons]
    omega
theorem az_room {st : List Value} {ad : Nat → Nat} (h : st.length ≤ 4) : ((st.map (az_v ad)).map fun v => v.category).sum ≤ 8 := by
  have := az_catSum (st.map (az_v ad))
  rw [List.length_map] at this
  omega
theorem az_copy {X : az_X} {cc : ByteArray} {nL : Nat} {own : String} {Ts : List Cond} {rm : Room} {ret : Option FieldType} {Qs : Option Value → az_M → Prop} {pc : Nat} {index : Nat} {P : az_T} (C : az_C X cc nL own Ts rm ret Qs) (hlink : Cond.methodLink own index arraycopyName ∈ az_gw) (hnat : Cond.native arraycopyName ∈ az_gw) (hstat : Cond.static arraycopyName ∈ az_gw) (hini : Cond.initialized "java/lang/System" ∈ az_gw) (hfr : 1 ≤ rm.frames) (hlo : 8 + (nativeFrameWords "java/lang/System" "arraycopy" 5 + 11) ≤ rm.locals) (d : decode cc pc = .ok (.invokestatic index, 3)) (kk : az_ok X (pc + 3) P) : az_ok X pc (s_cpy P) := by
  obtain ⟨p, l, e, R, s, m, args, below, meth, c, D, tc, A, Q, RA⟩ := X
  obtain ⟨hx, hb, hml, hown, hts, hK, hN, hA, hlk, hr, hR, hsub, hQ⟩ := C
  intro ls st k M h ad H Ls locs hra hl hP hD hS hz
  obtain ⟨n, dp, a, sp, b, st1, rfl, ha, hka, hb1, hkb, h1, h2, h3, h4, h5, h6, h⟩ := s_cpy_o h
  have hea := az_get (tc := tc) (ad := ad) ha
  rw [az_row hka (by decide), az_arrI (by decide)] at hea
  have heb := az_get (tc := tc) (ad := ad) hb1
  rw [az_row hkb (by decide), az_arrI (by decide)] at heb
  have hroom := az_room (ad := ad) h6
  refine va_copyi hx hb hl.1.symm hown (hts _ (hsub _ hlink)) (hts _ (hsub _ hnat)) (hts _ (hsub _ hstat)) (hts _ (hsub _ hini)) hK hP hD hS b a 0 0 (ty := .int) heb hea rfl rfl rfl h1 h2 h3 h4 h5 (fun _ _ => rfl) (by rw [hR]; exact hfr) (by rw [hR]; omega) d (fun H1 locs1 hP1 hD1 hS1 => ?_)
  rw [az_set (M' := az_setA M a (va_cpy (M.2.1 b) (M.2.1 a) sp.toNatClampNeg dp.toNatClampNeg n.toNatClampNeg)) (by rfl) (by rw [az_row (M := az_setA M a (va_cpy (M.2.1 b) (M.2.1 a) sp.toNatClampNeg dp.toNatClampNeg n.toNatClampNeg)) hka (by decide), az_arrI (by decide)]; show Sum.inl (tc 20, (M.1.2.1 a).2, Sum.inl (va_up M.2.1 a _ a)) = _; simp only [va_up, if_true]) az_otherA] at hP1 hD1
  exact kk ls _ k _ h ad H1 Ls locs1 hra hl hP1 hD1 hS1 hz
theorem az_room8 {st : List Value} {ad : Nat → Nat} (h : st.length ≤ 8) : ((st.map (az_v ad)).map fun v => v.category).sum ≤ 16 := by
  have := az_catSum (st.map (az_v ad))
  rw [List.length_map] at this
  omega
def s_mx (P : az_T) : az_T := fun ls st q M => match st with
  | .int y :: .int x :: st => st.length ≤ 8 ∧ P ls (.int (if x < y then y else x) :: st) q M
  | _ => False
def s_mn (P : az_T) : az_T := fun ls st q M => match st with
  | .int y :: .int x :: st => st.length ≤ 8 ∧ P ls (.int (if y < x then y else x) :: st) q M
  | _ => False
theorem az_mmax {X : az_X} {cc : ByteArray} {nL : Nat} {own : String} {Ts : List Cond} {rm : Room} {ret : Option FieldType} {Qs : Option Value → az_M → Prop} {pc : Nat} {index : Nat} {P : az_T} (C : az_C X cc nL own Ts rm ret Qs) (hlink : Cond.methodLink own index Lib.Math.max.name ∈ az_gw) (hstat : Cond.static Lib.Math.max.name ∈ az_gw) (hini : Cond.initialized "java/lang/Math" ∈ az_gw) (hcode : Cond.code Lib.Math.max.name Lib.Math.max.code 2 (some .int) ∈ az_gw) (hfr : 1 ≤ rm.frames) (hlo : 29 ≤ rm.locals) (d : decode cc pc = .ok (.invokestatic index, 3)) (kk : az_ok X (pc + 3) P) : az_ok X pc (s_mx P) := by
  obtain ⟨p, l, e, R, s, m, args, below, meth, c, D, tc, A, Q, RA⟩ := X
  obtain ⟨hx, hb, hml, hown, hts, hK, hN, hA, hlk, hr, hR, hsub, hQ⟩ := C
  intro ls st k M h ad H Ls locs hra hl hP hD hS hz
  unfold s_mx at h
  split at h
  · obtain ⟨h6, h⟩ := h
    have hroom := az_room8 (ad := ad) h6
    exact va_mmax hx hb hl.1.symm hown (hts _ (hsub _ hlink)) (hts _ (hsub _ hstat)) (hts _ (hsub _ hini)) (hts _ (hsub _ hcode)) (by rw [hR]; exact hfr) (by rw [hR]; omega) hz.1 hz.2 d (kk ls _ k M h ad H Ls locs hra hl hP hD hS hz)
  · exact h.elim
theorem az_mmin {X : az_X} {cc : ByteArray} {nL : Nat} {own : String} {Ts : List Cond} {rm : Room} {ret : Option FieldType} {Qs : Option Value → az_M → Prop} {pc : Nat} {index : Nat} {P : az_T} (C : az_C X cc nL own Ts rm ret Qs) (hlink : Cond.methodLink own index Lib.Math.min.name ∈ az_gw) (hstat : Cond.static Lib.Math.min.name ∈ az_gw) (hini : Cond.initialized "java/lang/Math" ∈ az_gw) (hcode : Cond.code Lib.Math.min.name Lib.Math.min.code 2 (some .int) ∈ az_gw) (hfr : 1 ≤ rm.frames) (hlo : 29 ≤ rm.locals) (d : decode cc pc = .ok (.invokestatic index, 3)) (kk : az_ok X (pc + 3) P) : az_ok X pc (s_mn P) := by
  obtain ⟨p, l, e, R, s, m, args, below, meth, c, D, tc, A, Q, RA⟩ := X
  obtain ⟨hx, hb, hml, hown, hts, hK, hN, hA, hlk, hr, hR, hsub, hQ⟩ := C
  intro ls st k M h ad H Ls locs hra hl hP hD hS hz
  unfold s_mn at h
  split at h
  · obtain ⟨h6, h⟩ := h
    have hroom := az_room8 (ad := ad) h6
    exact va_mmin hx hb hl.1.symm hown (hts _ (hsub _ hlink)) (hts _ (hsub _ hstat)) (hts _ (hsub _ hini)) (hts _ (hsub _ hcode)) (by rw [hR]; exact hfr) (by rw [hR]; omega) hz.1 hz.2 d (kk ls _ k M h ad H Ls locs hra hl hP hD hS hz)
  · exact h.elim
def az_all (X : az_X) : List Nat → List az_T → Prop
  | t :: ts, P :: Ps => az_ok X t P ∧ az_all X ts Ps
  | [], [] => True
  | _, _ => False
theorem az_all_nil {X : az_X} : az_all X [] [] := trivial
theorem az_all_cons {X : az_X} {t : Nat} {P : az_T} {ts : List Nat} {Ps : List az_T} (h : az_ok X t P) (hs : az_all X ts Ps) : az_all X (t :: ts) (P :: Ps) := ⟨h, hs⟩
theorem az_all_at {X : az_X} : ∀ {ts : List Nat} {Ps : List az_T} {i : Nat} {P : az_T}, az_all X ts Ps → Ps[i]? = some P → ∃ t, ts[i]? = some t ∧ az_ok X t P
  | [], [], _, _, _, h => by cases h
  | [], _ :: _, _, _, h, _ => h.elim
  | _ :: _, [], _, _, h, _ => h.elim
  | t :: ts, P :: Ps, 0, _, h, hp => by
    cases hp
    exact ⟨t, rfl, h.1⟩
  | t :: ts, P :: Ps, i + 1, _, h, hp => by
    rw [List.getElem?_cons_succ] at hp
    obtain ⟨u, hu, ho⟩ := az_all_at h.2 hp
    exact ⟨u, by rw [List.getElem?_cons_succ]; exact hu, ho⟩
theorem az_all_len {X : az_X} : ∀ {ts : List Nat} {Ps : List az_T}, az_all X ts Ps → ts.length = Ps.length
  | [], [], _ => rfl
  | [], _ :: _, h => h.elim
  | _ :: _, [], h => h.elim
  | t :: ts, P :: Ps, h => by
    simp only [List.length_cons]
    rw [az_all_len h.2]
def s_sw (lo : Int) (Ps : List az_T) (Pd : az_T) : az_T := fun ls st q M => match st with
  | .int x :: st => (x.toInt < lo ∨ lo + Ps.length ≤ x.toInt → Pd ls st q M) ∧ ∀ (i : Nat) (P : az_T), Ps[i]? = some P → x.toInt = lo + i → P ls st q M
  | _ => False
theorem az_tsw {X : az_X} {cc : ByteArray} {nL : Nat} {own : String} {Ts : List Cond} {rm : Room} {ret : Option FieldType} {Qs : Option Value → az_M → Prop} {pc : Nat} {dflt lo hi : Int} {offs : Array Int} {len td : Nat} {tgts : List Nat} {Ps : List az_T} {Pd : az_T} (C : az_C X cc nL own Ts rm ret Qs) (d : decode cc pc = .ok (.tableswitch dflt lo hi offs, len)) (hd : (pc : Int) + dflt = (td : Int)) (ho : offs.toList.map (fun o => (pc : Int) + o) = tgts.map (fun t : Nat => (t : Int))) (hh : hi = lo + tgts.length - 1) (kd : az_ok X td Pd) (ks : az_all X tgts Ps) : az_ok X pc (s_sw lo Ps Pd) := by
  obtain ⟨p, l, e, R, s, m, args, below, meth, c, D, tc, A, Q, RA⟩ := X
  obtain ⟨hx, hb, hml, hown, hts, hK, hN, hA, hlk, hr, hR, hsub, hQ⟩ := C
  intro ls st k M h ad H Ls locs hra hl hP hD hS hz
  have hlen := az_all_len ks
  unfold s_sw at h
  split at h
  · rename_i x st1
    obtain ⟨h1, h2⟩ := h
    by_cases hout : x.toInt < lo ∨ hi < x.toInt
    · exact lv_tableOut hx hb d hout hd (kd ls st1 k M (h1 (by rcases hout with q | q; exact Or.inl q; exact Or.inr (by omega))) ad H Ls locs hra hl hP hD hS hz)
    · have g1 : ¬ x.toInt < lo := fun q => hout (Or.inl q)
      have g2 : ¬ hi < x.toInt := fun q => hout (Or.inr q)
      have hi1 : (x.toInt - lo).toNat < Ps.length := by omega
      obtain ⟨P, hP1⟩ : ∃ P, Ps[(x.toInt - lo).toNat]? = some P := ⟨_, List.getElem?_eq_getElem hi1⟩
      obtain ⟨t, ht, kt⟩ := az_all_at ks hP1
      have e1 : (offs.toList.map (fun o => (pc : Int) + o))[(x.toInt - lo).toNat]? = some (t : Int) := by rw [ho, List.getElem?_map, ht]; rfl
      rw [List.getElem?_map] at e1
      cases hq : offs.toList[(x.toInt - lo).toNat]? with
      | none => rw [hq] at e1; cases e1
      | some o =>
        rw [hq] at e1
        have e2 : (pc : Int) + o = (t : Int) := Option.some.inj e1
        exact lv_tableIn hx hb d g1 g2 (off := o) (tgt := t) (by rw [← Array.getElem?_toList]; exact hq) e2 (kt ls st1 k M (h2 _ _ hP1 (by omega)) ad H Ls locs hra hl hP hD hS hz)
  · exact h.elim
def s_ri (Qs : Option Value → az_M → Prop) : az_T := fun _ st _ M => match st with
  | [.int x] => Qs (some (.int x)) M
  | _ => False
def s_rz (Qs : Option Value → az_M → Prop) : az_T := fun _ st _ M => match st with
  | [.int x] => (x = 0 ∨ x = 1) ∧ Qs (some (.int x)) M
  | _ => False
def s_rv (Qs : Option Value → az_M → Prop) : az_T := fun _ st _ M => match st with
  | [] => Qs none M
  | _ => False
def s_rd (Qs : Option Value → az_M → Prop) : az_T := fun _ st _ M => match st with
  | [.double x] => Qs (some (.double x)) M
  | _ => False
def s_rf (Qs : Option Value → az_M → Prop) : az_T := fun _ st _ M => match st with
  | [.float x] => Qs (some (.float x)) M
  | _ => False
theorem az_ireturn {X : az_X} {cc : ByteArray} {nL : Nat} {own : String} {Ts : List Cond} {rm : Room} {ret : Option FieldType} {Qs : Option Value → az_M → Prop} {pc : Nat} (C : az_C X cc nL own Ts rm ret Qs) (hret : ret = some .int) (d : decode cc pc = .ok (.ireturn, 1)) : az_ok X pc (s_ri Qs) := by
  obtain ⟨p, l, e, R, s, m, args, below, meth, c, D, tc, A, Q, RA⟩ := X
  obtain ⟨hx, hb, hml, hown, hts, hK, hN, hA, hlk, hr, hR, hsub, hQ⟩ := C
  intro ls st k M h ad H Ls locs hra hl hP hD hS hz
  unfold s_ri at h
  split at h
  · subst hR
    exact W.widen hz.1 hz.2 (hQ H locs _ (W.iret hx hb (hr.trans hret) (fun t ht hW => ⟨⟨_, M, rfl, h, (fun _ hq => by cases hq), ad, hra, by rw [ht]; exact hP, hD⟩, hS.F ht⟩) hS.2.2 d hlk))
  · exact h.elim
theorem az_vreturn {X : az_X} {cc : ByteArray} {nL : Nat} {own : String} {Ts : List Cond} {rm : Room} {ret : Option FieldType} {Qs : Option Value → az_M → Prop} {pc : Nat} (C : az_C X cc nL own Ts rm ret Qs) (hret : ret = none) (d : decode cc pc = .ok (.return_, 1)) : az_ok X pc (s_rv Qs) := by
  obtain ⟨p, l, e, R, s, m, args, below, meth, c, D, tc, A, Q, RA⟩ := X
  obtain ⟨hx, hb, hml, hown, hts, hK, hN, hA, hlk, hr, hR, hsub, hQ⟩ := C
  intro ls st k M h ad H Ls locs hra hl hP hD hS hz
  unfold s_rv at h
  split at h
  · subst hR
    exact W.widen hz.1 hz.2 (hQ H locs _ (W.vret hx hb (hr.trans hret) (fun t ht hW => ⟨⟨_, M, rfl, h, (fun _ hq => by cases hq), ad, hra, by rw [ht]; exact hP, hD⟩, hS.F ht⟩) hS.2.2 d hlk))
  · exact h.elim
theorem az_dreturn {X : az_X} {cc : ByteArray} {nL : Nat} {own : String} {Ts : List Cond} {rm : Room} {ret : Option FieldType} {Qs : Option Value → az_M → Prop} {pc : Nat} (C : az_C X cc nL own Ts rm ret Qs) (hret : ret = some .double) (d : decode cc pc = .ok (.dreturn, 1)) : az_ok X pc (s_rd Qs) := by
  obtain ⟨p, l, e, R, s, m, args, below, meth, c, D, tc, A, Q, RA⟩ := X
  obtain ⟨hx, hb, hml, hown, hts, hK, hN, hA, hlk, hr, hR, hsub, hQ⟩ := C
  intro ls st k M h ad H Ls locs hra hl hP hD hS hz
  unfold s_rd at h
  split at h
  · subst hR
    exact W.widen hz.1 hz.2 (hQ H locs _ (W.dret hx hb (hr.trans hret) (fun t ht hW => ⟨⟨_, M, rfl, h, (fun _ hq => by cases hq), ad, hra, by rw [ht]; exact hP, hD⟩, hS.F ht⟩) hS.2.2 d hlk))
  · exact h.elim
theorem az_freturn {X : az_X} {cc : ByteArray} {nL : Nat} {own : String} {Ts : List Cond} {rm : Room} {ret : Option FieldType} {Qs : Option Value → az_M → Prop} {pc : Nat} (C : az_C X cc nL own Ts rm ret Qs) (hret : ret = some .float) (d : decode cc pc = .ok (.freturn, 1)) : az_ok X pc (s_rf Qs) := by
  obtain ⟨p, l, e, R, s, m, args, below, meth, c, D, tc, A, Q, RA⟩ := X
  obtain ⟨hx, hb, hml, hown, hts, hK, hN, hA, hlk, hr, hR, hsub, hQ⟩ := C
  intro ls st k M h ad H Ls locs hra hl hP hD hS hz
  unfold s_rf at h
  split at h
  · subst hR
    exact W.widen hz.1 hz.2 (hQ H locs _ (W.fret hx hb (hr.trans hret) (fun t ht hW => ⟨⟨_, M, rfl, h, (fun _ hq => by cases hq), ad, hra, by rw [ht]; exact hP, hD⟩, hS.F ht⟩) hS.2.2 d hlk))
  · exact h.elim
theorem az_zreturn {X : az_X} {cc : ByteArray} {nL : Nat} {own : String} {Ts : List Cond} {rm : Room} {ret : Option FieldType} {Qs : Option Value → az_M → Prop} {pc : Nat} (C : az_C X cc nL own Ts rm ret Qs) (hret : ret = some .boolean) (d : decode cc pc = .ok (.ireturn, 1)) : az_ok X pc (s_rz Qs) := by
  obtain ⟨p, l, e, R, s, m, args, below, meth, c, D, tc, A, Q, RA⟩ := X
  obtain ⟨hx, hb, hml, hown, hts, hK, hN, hA, hlk, hr, hR, hsub, hQ⟩ := C
  intro ls st k M h ad H Ls locs hra hl hP hD hS hz
  unfold s_rz at h
  split at h
  · obtain ⟨h01, h⟩ := h
    subst hR
    exact W.widen hz.1 hz.2 (hQ H locs _ (W.zret hx hb (hr.trans hret) (by rcases h01 with rfl | rfl <;> decide) (fun t ht hW => ⟨⟨_, M, rfl, h, (fun _ hq => by cases hq), ad, hra, by rw [ht]; exact hP, hD⟩, hS.F ht⟩) hS.2.2 d hlk))
  · exact h.elim
def az_fun (ps : List Bool) (nL : Nat) (Pm : (Option Value → az_M → Prop) → az_T) : az_F := fun as M Q => az_pat ps as = true ∧ Pm Q (az_in nL as) [] (0, 0) M
def az_ts (y : MethodName) (cc : ByteArray) (nL : Nat) (ret : Option FieldType) : List Cond := .code y cc nL ret :: az_gw
/-- a method that makes nothing: its contract, by the predicate transformer F -/
def az_met (l : Launch) (y : MethodName) (cc : ByteArray) (nL : Nat) (ret : Option FieldType) (rm : Room) (F : az_F) : Prop := ∀ (D : va_G) (tc : Nat → ClassId) (ad : Nat → Nat) (sz : Nat) (as : List Value) (M : az_M) (Q : Option Value → az_M → Prop), F as M Q →
  Met l y (az_ts y cc nL ret) rm (va_Pc (as.map (az_v ad)) (fun U => U.heap.size = sz ∧ va_P D vwCl (az_ws tc ad M) U.heap ∧ va_K D vwCl (az_tys tc) U ∧ va_D (fun _ => True) (az_ws tc ad M) ∧ ∀ w ∈ az_nest, va_Nw w U)) (az_Q D tc (fun ad' => ad' = ad) (va_A (az_ws tc ad M) sz) Q) rm.cells rm.slots (va_A (az_ws tc ad M) sz)
theorem az_lg_len : ∀ (vs : List Value), (∀ u ∈ vs, u.category = 1) → (lg_sl vs).length = vs.length
  | [], _ => rfl
  | v :: t, h => by
    have hv : v.category = 1 := h v List.mem_cons_self
    have ht := az_lg_len t (fun u hu => h u (List.mem_cons_of_mem _ hu))
    unfold lg_sl at ht ⊢
    rw [List.flatMap_cons, List.length_append, ht, hv]
    simp
    omega
theorem az_cat_v {ad : Nat → Nat} {v : Value} (h : v.category = 1) : (az_v ad v).category = 1 := by cases v <;> first | rfl | exact h
theorem az_met_of {y : MethodName} {cc : ByteArray} {nL : Nat} {ret : Option FieldType} {own : String} {rm : Room} {ps : List Bool} {Pm : (Option Value → az_M → Prop) → az_T} (hy : plainName y.cls = true) (hown : y.cls = own) (hps : ps.length ≤ nL)
    (body : ∀ (X : az_X) (Qs : Option Value → az_M → Prop), az_C X cc nL own (az_ts y cc nL ret) rm ret Qs → az_ok X 0 (Pm Qs)) (l : Launch) : az_met l y cc nL ret rm (az_fun ps nL Pm) := by
  intro D tc ad sz as M Q hF
  obtain ⟨hpat, hQ⟩ := hF
  have hcat := az_pat_cat hpat
  have hlen := az_pat_len hpat
  refine Met.ofW (cc := cc) (maxL := nL) (ret := ret) hy rfl ?_
  intro p e s m args below meth c s₁ B hml hv
  obtain ⟨rfl, hsz, hP, hK, hD0, hN⟩ := hv
  subst hsz
  have hD := hD0.self (sz := s.heap.size)
  have hcat2 : ∀ u ∈ as.map (az_v ad), u.category = 1 := fun u hu => by
    obtain ⟨w, hw, rfl⟩ := List.mem_map.mp hu
    exact az_cat_v (hcat w hw)
  have hlg : (lg_sl (as.map (az_v ad))).length ≤ nL := by
    rw [az_lg_len _ hcat2, List.length_map, hlen]
    exact hps
  have hl := lv_entry (as.map (az_v ad)) (n := nL) hlg
  rw [lg_entry_eq]
  generalize (lg_sl (as.map (az_v ad)) ++ List.replicate (nL - (lg_sl (as.map (az_v ad))).length) Slot.unset).toArray = Ls at hl ⊢
  have hown2 : s.vm.findClass own = some m.cls := by
    rw [← hown]
    exact findClass_of_methodNamed B.named
  have C : az_C (p, l, e, (headSpec (az_ts y cc nL ret) rm).room, s, m, (as.map (az_v ad)).toArray, below, meth, c, D, tc, va_A (az_ws tc ad M) s.heap.size, MQ below (az_Q D tc (fun ad' => ad' = ad) (va_A (az_ws tc ad M) s.heap.size) Q) (as.map (az_v ad)).toArray s rm.cells rm.slots (va_A (az_ws tc ad M) s.heap.size), (fun ad' => ad' = ad)) cc nL own (az_ts y cc nL ret) rm ret Q :=
    ⟨B.exec, B.bytes, hml, hown2, atoms_spec (ws := az_ts y cc nL ret) B.pre, hK, hN, fun q h => Or.inr h, B.notSynchronized, B.returns, rfl, fun w h => List.mem_cons_of_mem _ h, fun _ _ _ k => k⟩
  have hin := az_in_has (ad := ad) (nL := nL) hcat hl
  rw [← hml] at hin
  rw [hml] at hin
  exact body _ Q C (az_in nL as) [] (0, 0) M hQ ad s.heap Ls [] rfl (by rw [hml]; exact hin) hP hD va_S.rf ⟨Nat.zero_le _, Nat.zero_le _⟩
theorem az_good {Ts : List Cond} (hT : ∀ w ∈ az_gw, w ∈ Ts) {ws : List Cond} (h : ∀ w ∈ ws, w ∈ az_gw) : GoodIn Ts ws := fun w hw => ⟨hT w (h w hw), good_of_word (List.mem_filter.mp (h w hw)).2⟩
def az_pop : Nat → List Value → List Value → Option (List Value × List Value)
  | 0, acc, st => some (acc, st)
  | n + 1, acc, v :: st => az_pop n (v :: acc) st
  | _ + 1, _, [] => none
theorem az_pop_eq : ∀ {n : Nat} {acc st as rest : List Value}, az_pop n acc st = some (as, rest) → ∃ ps : List Value, ps.length = n ∧ st = ps ++ rest ∧ as = ps.reverse ++ acc
  | 0, acc, st, as, rest, h => by
    cases h
    exact ⟨[], rfl, rfl, rfl⟩
  | n + 1, acc, v :: st, as, rest, h => by
    have h1 : az_pop n (v :: acc) st = some (as, rest) := h
    obtain ⟨ps, h2, h3, h4⟩ := az_pop_eq h1
    exact ⟨v :: ps, by rw [List.length_cons, h2], by rw [h3]; rfl, by rw [h4]; simp⟩
  | n + 1, acc, [], as, rest, h => by cases h
def s_cv (n ci : Nat) (F : az_F) (P : az_T) : az_T := fun ls st q M => match az_pop (n + 1) [] st with
  | some (.ref b :: as, rest) => b < M.1.1 ∧ (M.1.2.1 b).1 = ci ∧ rest.length ≤ 4 ∧ F (.ref b :: as) M (fun r M1 => P ls (r.toList ++ rest) q M1)
  | _ => False
def s_cs (n : Nat) (F : az_F) (P : az_T) : az_T := fun ls st q M => match az_pop n [] st with
  | some (as, rest) => rest.length ≤ 4 ∧ F as M (fun r M1 => P ls (r.toList ++ rest) q M1)
  | _ => False
theorem s_cv_o {n ci : Nat} {F : az_F} {P : az_T} {ls st q M} (h : s_cv n ci F P ls st q M) : ∃ (b : Nat) (as rest : List Value), as.length = n ∧ st = as.reverse ++ .ref b :: rest ∧ b < M.1.1 ∧ (M.1.2.1 b).1 = ci ∧ rest.length ≤ 4 ∧ F (.ref b :: as) M (fun r M1 => P ls (r.toList ++ rest) q M1) := by
  unfold s_cv at h
  split at h
  · rename_i b as rest heq
    obtain ⟨ps, h1, h2, h3⟩ := az_pop_eq heq
    rw [List.append_nil] at h3
    have h4 : ps = as.reverse ++ [.ref b] := by
      have := congrArg List.reverse h3
      rw [List.reverse_reverse] at this
      rw [← this]
      simp
    refine ⟨b, as, rest, ?_, ?_, h⟩
    · rw [h4] at h1
      simp at h1
      exact h1
    · rw [h2, h4]
      simp
  · exact h.elim
theorem s_cs_o {n : Nat} {F : az_F} {P : az_T} {ls st q M} (h : s_cs n F P ls st q M) : ∃ (as rest : List Value), as.length = n ∧ st = as.reverse ++ rest ∧ rest.length ≤ 4 ∧ F as M (fun r M1 => P ls (r.toList ++ rest) q M1) := by
  unfold s_cs at h
  split at h
  · rename_i as rest heq
    obtain ⟨ps, h1, h2, h3⟩ := az_pop_eq heq
    rw [List.append_nil] at h3
    refine ⟨as, rest, ?_, ?_, h⟩
    · rw [h3, List.length_reverse, h1]
    · rw [h2, h3, List.reverse_reverse]
  · exact h.elim
theorem az_nest_w {s U : State} (hW : s.WarmedH U.vm) (hN : ∀ w ∈ az_nest, va_Nw w s) : ∀ w ∈ az_nest, va_Nw w U := by
  intro w hw
  have h1 := hN w hw
  have h2 := (List.mem_filter.mp hw).2
  cases w <;> first | exact va_Nw.warmM hW h1 | exact va_Nw.warmD hW h1 | exact va_Nw.warmC hW h1 | cases h2
theorem az_nest_c {u U : State} (h : u.vm = U.vm) (hN : ∀ w ∈ az_nest, va_Nw w u) : ∀ w ∈ az_nest, va_Nw w U := by
  intro w hw
  have h1 := hN w hw
  have h2 := (List.mem_filter.mp hw).2
  cases w <;> first | exact va_Nw.same rfl h h1 | cases h2
theorem az_app_v {ad : Nat → Nat} {r : Option Value} {rest : List Value} (h : ∀ a : Nat, r ≠ some (.ref a)) : (r.toList ++ rest).map (az_v ad) = r.toList ++ rest.map (az_v ad) := by
  cases r with
  | none => rfl
  | some v => cases v <;> first | rfl | exact absurd rfl (h _)
/-- behind a call of a method that makes nothing -/
theorem az_back {p : Program} {l : Launch} {e : Env} {R : Room} {s : State} {m : MethodId} {args a : Array Value} {below : List Frame} {meth : Method} {c : Code} {H : Heap} {locs : List Loc} {cells slots pc : Nat} {D : va_G} {tc ad : Nat → Nat} {A : Nat → Prop} {Qf : State → Prop} {M : az_M} {Ls : Array Slot} {st0 rest : List Value} {Qs : Option Value → az_M → Prop}
    (hr : va_Run p l e R s m args below meth c H locs cells slots 0 0 (F0 m pc Ls st0) rest (az_Q D tc (fun ad' => ad' = ad) (va_A (az_ws tc ad M) H.size) Qs a) (va_A (az_ws tc ad M) H.size)) (hD : va_D A (az_ws tc ad M)) (hS : va_S A s.heap H locs) (hA : ∀ q, s.heap.size ≤ q → A q)
    (kk : ∀ (r : Option Value) (M1 : az_M) (H1 : Heap) (locs1 : List Loc), Qs r M1 → (∀ b : Nat, r ≠ some (.ref b)) → va_P D vwCl (az_ws tc ad M1) H1 → va_D A (az_ws tc ad M1) → va_S A s.heap H1 locs1 → W p l e R s m args below meth c H1 locs1 cells slots Qf (F0 m (pc + 3) Ls (r.toList ++ rest))) : W p l e R s m args below meth c H locs cells slots Qf (F0 m pc Ls st0) := by
  have hin : ∀ q, va_A (az_ws tc ad M) H.size q → A q := by
    rintro q (⟨k, x, hx⟩ | hx)
    · exact hD.2 k _ hx
    · exact hA q (Nat.le_trans hS.1 hx)
  intro T hT Xs
  obtain ⟨v, st₀, t, T', L, h0, X', hL, e1, e2, ⟨⟨r, M1, hv, hq, hnr, ad1, had, hP1, hD1⟩, hz, hk⟩, st⟩ := hr T hT Xs
  cases hv
  cases had
  rw [h0] at hz hk
  have hS1 : va_S A s.heap T'.heap (locs ++ L) := ⟨Nat.le_trans hS.1 (by rw [e1]; exact hz), fun q h1 h2 => by rw [e1, hk q (Nat.lt_of_lt_of_le h1 hS.1) (fun z => h2 (hin q z))]; exact hS.2.1 q h1 h2, fun q hq => by
    rcases List.mem_append.mp hq with h | h
    · exact hS.2.2 q h
    · exact hin _ (hL q h)⟩
  obtain ⟨t2, a1, b1⟩ := kk v M1 T'.heap (locs ++ L) hq hnr (by rw [e1]; exact hP1) (hD1.weaken (fun _ _ _ h => hin _ h)) hS1 T' rfl X'
  exact ⟨t2, st t2 a1, b1⟩
/-- what is known of a callee -/
def az_kn (y : MethodName) (cc : ByteArray) (nL : Nat) (ret : Option FieldType) (n : Nat) : Prop := Cond.code y cc nL ret ∈ az_gw ∧ Cond.initialized y.cls ∈ az_gw ∧ y.cls ≠ "java/lang/invoke/MethodHandle" ∧ y.cls ≠ "java/lang/invoke/VarHandle" ∧ (parseMethodDescriptor y.desc).map (fun d => d.parameters.length) = some n
def az_rm (rm rm1 : Room) (nL : Nat) : Prop := rm1.cells = 0 ∧ rm1.slots = 0 ∧ rm1.frames + 1 ≤ rm.frames ∧ 8 + (nL + 11) + rm1.locals ≤ rm.locals
theorem az_sub_ts {y : MethodName} {cc : ByteArray} {nL : Nat} {ret : Option FieldType} (h : Cond.code y cc nL ret ∈ az_gw) : ∀ w ∈ az_ts y cc nL ret, w ∈ az_gw := fun w hw => (List.mem_cons.mp hw).elim (fun q => by rw [q]; exact h) id
theorem az_callV {X : az_X} {cc : ByteArray} {nL : Nat} {own : String} {Ts : List Cond} {rm : Room} {ret : Option FieldType} {Qs : Option Value → az_M → Prop} {pc : Nat} {index ci n N : Nat} {Cn : String} {T : u_T} {y : MethodName} {bytes : ByteArray} {maxL : Nat} {ret1 : Option FieldType} {rm1 : Room} {F : az_F} {P : az_T} (C : az_C X cc nL own Ts rm ret Qs) (hM : ∀ l, az_met l y bytes maxL ret1 rm1 F) (kn : az_kn y bytes maxL ret1 n) (hin : Cond.instanceMethod y ∈ az_gw) (hse : Cond.selects Cn y y ∈ az_gw) (hlnk : Cond.methodLink own index y ∈ az_gw) (hc : vwCl[ci]? = some (Cn, T, N)) (hci : ci < 20) (hrm : az_rm rm rm1 maxL) (d : decode cc pc = .ok (.invokevirtual index, 3)) (kk : az_ok X (pc + 3) P) : az_ok X pc (s_cv n ci F P) := by
  obtain ⟨p, l, e, R, s, m, args, below, meth, c, D, tc, A, Q, RA⟩ := X
  obtain ⟨hx, hb, hml, hown, hts, hK, hN, hA, hlk, hr, hR, hsub, hQ⟩ := C
  intro ls st k M h ad H Ls locs hra hl hP hD hS hz
  obtain ⟨b, as, rest, hn, rfl, hb1, hk1, h4, hF⟩ := s_cv_o h
  have he := az_get (tc := tc) (ad := ad) hb1
  rw [az_obj hk1 hci] at he
  have Mt := hM l D tc ad H.size (.ref b :: as) M _ hF
  rw [hrm.1, hrm.2.1] at Mt
  have hrun := va_runV (e := e) (below := below) (meth := meth) (As := as.map (az_v ad)) (rest := rest.map (az_v ad)) (b := ad b) (C := Cn) (g := F0 m pc Ls ((as.reverse ++ .ref b :: rest).map (az_v ad))) (locs := locs) (cells := k.1) (slots := k.2) ⟨hx, hb, hml, hown, hts⟩ Mt ⟨callB_of n hts (az_good hsub (az_sub_ts kn.1)) rfl hrm.1 hrm.2.1 (hts _ (hsub _ kn.2.1)) (hts _ (hsub _ hlnk)) ⟨kn.2.2.1, kn.2.2.2.1, kn.2.2.2.2⟩ ⟨by rw [hR]; exact hrm.2.2.1, by rw [hR]; exact hrm.2.2.2⟩, hts _ (hsub _ hin), hts _ (hsub _ hse)⟩ ⟨(fun a U g mk q => by obtain ⟨q0, q1, qP, qK, qD, qN⟩ := q; exact ⟨q0, q1, qP, va_K.moved (u := U) (U := U.calling g mk a) (Vm.Alike.refl U.vm) qK, qD, az_nest_c (u := U) (U := U.calling g mk a) rfl qN⟩), va_recv hK hP hc he, fun U hU hW => ⟨rfl, by rw [hU], by rw [hU]; exact hP, va_K.moved hW.alike hK, hD.weaken (fun _ _ _ _ => trivial), az_nest_w hW hN⟩⟩ rfl (by rw [List.length_map]; exact hn) (hl.1.trans hml) (by simp [az_v]) (lv_room (m := m) (pc := pc) (ls := Ls) (rest := (as.reverse ++ .ref b :: rest).map (az_v ad)) (az_room h4)) d ⟨hz.1, hz.2⟩
  exact az_back hrun hD hS hA (fun r M1 H1 locs1 hq hnr hP1 hD1 hS1 => by
    have := kk ls _ k M1 hq ad H1 Ls locs1 hra hl hP1 hD1 hS1 hz
    rw [az_app_v hnr] at this
    exact this)
theorem az_callVN {X : az_X} {cc : ByteArray} {nL : Nat} {own : String} {Ts : List Cond} {rm : Room} {ret : Option FieldType} {Qs : Option Value → az_M → Prop} {pc : Nat} {index ci n N : Nat} {Cn : String} {T : u_T} {y : MethodName} {bytes : ByteArray} {maxL : Nat} {ret1 : Option FieldType} {rm1 : Room} {F : az_F} {P : az_T} {host : String} (C : az_C X cc nL own Ts rm ret Qs) (hM : ∀ l, az_met l y bytes maxL ret1 rm1 F) (kn : az_kn y bytes maxL ret1 n) (hin : Cond.instanceMethod y ∈ az_gw) (hse : Cond.selects Cn y y ∈ az_gw) (hlnk : Cond.methodLinkNest own index y host ∈ az_nest) (hc : vwCl[ci]? = some (Cn, T, N)) (hci : ci < 20) (hrm : az_rm rm rm1 maxL) (d : decode cc pc = .ok (.invokevirtual index, 3)) (kk : az_ok X (pc + 3) P) : az_ok X pc (s_cv n ci F P) := by
  obtain ⟨p, l, e, R, s, m, args, below, meth, c, D, tc, A, Q, RA⟩ := X
  obtain ⟨hx, hb, hml, hown, hts, hK, hN, hA, hlk, hr, hR, hsub, hQ⟩ := C
  intro ls st k M h ad H Ls locs hra hl hP hD hS hz
  obtain ⟨b, as, rest, hn, rfl, hb1, hk1, h4, hF⟩ := s_cv_o h
  have he := az_get (tc := tc) (ad := ad) hb1
  rw [az_obj hk1 hci] at he
  have Mt := hM l D tc ad H.size (.ref b :: as) M _ hF
  rw [hrm.1, hrm.2.1] at Mt
  have hrun := va_runVN (e := e) (below := below) (meth := meth) (As := as.map (az_v ad)) (rest := rest.map (az_v ad)) (b := ad b) (C := Cn) (g := F0 m pc Ls ((as.reverse ++ .ref b :: rest).map (az_v ad))) (locs := locs) (cells := k.1) (slots := k.2) ⟨hx, hb, hml, hown, hts⟩ Mt ⟨va_cnB n hts (az_good hsub (az_sub_ts kn.1)) rfl hrm.1 hrm.2.1 (hN _ hlnk) (hts _ (hsub _ kn.2.1)) ⟨kn.2.2.1, kn.2.2.2.1, kn.2.2.2.2⟩ ⟨by rw [hR]; exact hrm.2.2.1, by rw [hR]; exact hrm.2.2.2⟩, hts _ (hsub _ hin), hts _ (hsub _ hse)⟩ ⟨(fun a U g mk q => by obtain ⟨q0, q1, qP, qK, qD, qN⟩ := q; exact ⟨q0, q1, qP, va_K.moved (u := U) (U := U.calling g mk a) (Vm.Alike.refl U.vm) qK, qD, az_nest_c (u := U) (U := U.calling g mk a) rfl qN⟩), va_recv hK hP hc he, fun U hU hW => ⟨rfl, by rw [hU], by rw [hU]; exact hP, va_K.moved hW.alike hK, hD.weaken (fun _ _ _ _ => trivial), az_nest_w hW hN⟩⟩ rfl (by rw [List.length_map]; exact hn) (hl.1.trans hml) (by simp [az_v]) (lv_room (m := m) (pc := pc) (ls := Ls) (rest := (as.reverse ++ .ref b :: rest).map (az_v ad)) (az_room h4)) d ⟨hz.1, hz.2⟩
  exact az_back hrun hD hS hA (fun r M1 H1 locs1 hq hnr hP1 hD1 hS1 => by
    have := kk ls _ k M1 hq ad H1 Ls locs1 hra hl hP1 hD1 hS1 hz
    rw [az_app_v hnr] at this
    exact this)
theorem az_callS {X : az_X} {cc : ByteArray} {nL : Nat} {own : String} {Ts : List Cond} {rm : Room} {ret : Option FieldType} {Qs : Option Value → az_M → Prop} {pc : Nat} {index n : Nat} {y : MethodName} {bytes : ByteArray} {maxL : Nat} {ret1 : Option FieldType} {rm1 : Room} {F : az_F} {P : az_T} (C : az_C X cc nL own Ts rm ret Qs) (hM : ∀ l, az_met l y bytes maxL ret1 rm1 F) (kn : az_kn y bytes maxL ret1 n) (hstt : Cond.static y ∈ az_gw) (hlnk : Cond.methodLink own index y ∈ az_gw) (hrm : az_rm rm rm1 maxL) (d : decode cc pc = .ok (.invokestatic index, 3)) (kk : az_ok X (pc + 3) P) : az_ok X pc (s_cs n F P) := by
  obtain ⟨p, l, e, R, s, m, args, below, meth, c, D, tc, A, Q, RA⟩ := X
  obtain ⟨hx, hb, hml, hown, hts, hK, hN, hA, hlk, hr, hR, hsub, hQ⟩ := C
  intro ls st k M h ad H Ls locs hra hl hP hD hS hz
  obtain ⟨as, rest, hn, rfl, h4, hF⟩ := s_cs_o h
  have Mt := hM l D tc ad H.size as M _ hF
  rw [hrm.1, hrm.2.1] at Mt
  have hrun := va_runS (e := e) (below := below) (meth := meth) (As := as.map (az_v ad)) (rest := rest.map (az_v ad)) (g := F0 m pc Ls ((as.reverse ++ rest).map (az_v ad))) (locs := locs) (cells := k.1) (slots := k.2) ⟨hx, hb, hml, hown, hts⟩ Mt ⟨callB_of n hts (az_good hsub (az_sub_ts kn.1)) rfl hrm.1 hrm.2.1 (hts _ (hsub _ kn.2.1)) (hts _ (hsub _ hlnk)) ⟨kn.2.2.1, kn.2.2.2.1, kn.2.2.2.2⟩ ⟨by rw [hR]; exact hrm.2.2.1, by rw [hR]; exact hrm.2.2.2⟩, hts _ (hsub _ hstt)⟩ ⟨(fun a U g mk q => by obtain ⟨q0, q1, qP, qK, qD, qN⟩ := q; exact ⟨q0, q1, qP, va_K.moved (u := U) (U := U.calling g mk a) (Vm.Alike.refl U.vm) qK, qD, az_nest_c (u := U) (U := U.calling g mk a) rfl qN⟩), fun U hU hW => ⟨rfl, by rw [hU], by rw [hU]; exact hP, va_K.moved hW.alike hK, hD.weaken (fun _ _ _ _ => trivial), az_nest_w hW hN⟩⟩ rfl (by rw [List.length_map]; exact hn) (hl.1.trans hml) (by simp) (lv_room (m := m) (pc := pc) (ls := Ls) (rest := (as.reverse ++ rest).map (az_v ad)) (az_room h4)) d ⟨hz.1, hz.2⟩
  exact az_back hrun hD hS hA (fun r M1 H1 locs1 hq hnr hP1 hD1 hS1 => by
    have := kk ls _ k M1 hq ad H1 Ls locs1 hra hl hP1 hD1 hS1 hz
    rw [az_app_v hnr] at this
    exact this)
theorem az_callSN {X : az_X} {cc : ByteArray} {nL : Nat} {own : String} {Ts : List Cond} {rm : Room} {ret : Option FieldType} {Qs : Option Value → az_M → Prop} {pc : Nat} {index n : Nat} {y : MethodName} {bytes : ByteArray} {maxL : Nat} {ret1 : Option FieldType} {rm1 : Room} {F : az_F} {P : az_T} {host : String} (C : az_C X cc nL own Ts rm ret Qs) (hM : ∀ l, az_met l y bytes maxL ret1 rm1 F) (kn : az_kn y bytes maxL ret1 n) (hstt : Cond.static y ∈ az_gw) (hlnk : Cond.methodLinkNest own index y host ∈ az_nest) (hrm : az_rm rm rm1 maxL) (d : decode cc pc = .ok (.invokestatic index, 3)) (kk : az_ok X (pc + 3) P) : az_ok X pc (s_cs n F P) := by
  obtain ⟨p, l, e, R, s, m, args, below, meth, c, D, tc, A, Q, RA⟩ := X
  obtain ⟨hx, hb, hml, hown, hts, hK, hN, hA, hlk, hr, hR, hsub, hQ⟩ := C
  intro ls st k M h ad H Ls locs hra hl hP hD hS hz
  obtain ⟨as, rest, hn, rfl, h4, hF⟩ := s_cs_o h
  have Mt := hM l D tc ad H.size as M _ hF
  rw [hrm.1, hrm.2.1] at Mt
  have hrun := va_runSN (e := e) (below := below) (meth := meth) (As := as.map (az_v ad)) (rest := rest.map (az_v ad)) (g := F0 m pc Ls ((as.reverse ++ rest).map (az_v ad))) (locs := locs) (cells := k.1) (slots := k.2) ⟨hx, hb, hml, hown, hts⟩ Mt ⟨va_cnB n hts (az_good hsub (az_sub_ts kn.1)) rfl hrm.1 hrm.2.1 (hN _ hlnk) (hts _ (hsub _ kn.2.1)) ⟨kn.2.2.1, kn.2.2.2.1, kn.2.2.2.2⟩ ⟨by rw [hR]; exact hrm.2.2.1, by rw [hR]; exact hrm.2.2.2⟩, hts _ (hsub _ hstt), trivial⟩ ⟨(fun a U g mk q => by obtain ⟨q0, q1, qP, qK, qD, qN⟩ := q; exact ⟨q0, q1, qP, va_K.moved (u := U) (U := U.calling g mk a) (Vm.Alike.refl U.vm) qK, qD, az_nest_c (u := U) (U := U.calling g mk a) rfl qN⟩), fun U hU hW => ⟨rfl, by rw [hU], by rw [hU]; exact hP, va_K.moved hW.alike hK, hD.weaken (fun _ _ _ _ => trivial), az_nest_w hW hN⟩⟩ rfl (by rw [List.length_map]; exact hn) (hl.1.trans hml) (by simp) (lv_room (m := m) (pc := pc) (ls := Ls) (rest := (as.reverse ++ rest).map (az_v ad)) (az_room h4)) d ⟨hz.1, hz.2⟩
  exact az_back hrun hD hS hA (fun r M1 H1 locs1 hq hnr hP1 hD1 hS1 => by
    have := kk ls _ k M1 hq ad H1 Ls locs1 hra hl hP1 hD1 hS1 hz
    rw [az_app_v hnr] at this
    exact this)
