set_option maxRecDepth 100000
/-! what the tables say at the law's entry -/
theorem k_arr {args : Array Value} {s : State} {ty : FieldType} (h : (Cond.arrayClass ty).before args s = true) (hty : ∀ C, ty ≠ .object C) : ∃ cA : ClassId, ArrOfT s cA ty ∧ va_RA s cA ty := by
  obtain ⟨c, k, comp, h1, h2, h3⟩ := Cond.arrayClass_spec h
  refine ⟨c, fun n z => ⟨(fun k h => by cases h), k, h2, comp, h3⟩, ?_⟩
  cases ty <;> first | exact h1 | exact absurd rfl (hty _)
theorem k_aoa {s : State} {ty : FieldType} (h : va_AOA ty s) : ∃ cA : ClassId, ArrOfT s cA (.array ty) ∧ va_RA s cA (.array ty) := by
  obtain ⟨comp, cA, kA, e1, e2, e3, e4, e5⟩ := arrayOverA_spec h
  exact ⟨cA, fun n z => ⟨(fun k h => by cases h), kA, e3, comp, e4⟩, e5⟩
theorem k_ao {s : State} {C : String} (h : va_AO C s) : ∃ cA : ClassId, ArrOfT s cA (.object C) ∧ va_RA s cA (.object C) := by
  obtain ⟨comp, c, k, h1, h2, h3, h4, h5⟩ := Cond.arrayOver_spec h
  exact ⟨c, fun n z => ⟨(fun k h => by cases h), k, h3, comp, h4⟩, k, comp, h3, h4, h1, h5⟩
theorem k_tb {w : Cond} (i : Nat) (h : tables_1[i]? = some w) : w ∈ lw_tbl := List.mem_append_right _ (List.mem_of_getElem? h)
theorem k_ncs : ∀ E ∈ exN, ∀ n ∈ exN, E ≠ n → Cond.not (.castable E n) ∈ flatC (Jvm.Cond.and given_1 narrow_1) := by
  have h : ∀ E ∈ exN, ∀ n ∈ exN, E = n ∨ Cond.not (.castable E n) ∈ flatC (Jvm.Cond.and given_1 narrow_1) := by decide +kernel
  exact fun E hE n hn hne => (h E hE n hn).resolve_left hne
theorem k_cls {args : Array Value} {s : State} (hg : ∀ w ∈ lw_tbl, w.before args s = true) : ∃ (dC : Nat → ClassId) (dI : Nat → Nat → Nat), ∀ (k : Nat) (q : vw_C), vwCl[k]? = some q → u_Kn s q.1 q.2.1 q.2.2 (dC k) (dI k) := by
  have hz : ∀ w ∈ az_gw, w.before args s = true := fun w hw => hg w (List.mem_filter.mp hw).1
  have h : ∀ (k : Nat) (q : vw_C), vwCl[k]? = some q → ∃ (c : ClassId) (iS : Nat → Nat), u_Kn s q.1 q.2.1 q.2.2 c iS := by
    intro k q hq
    exact match k, hq with
      | 0, hq => by cases hq; exact u_known hz gwRJ0 (hz _ cinRJ0)
      | 1, hq => by cases hq; exact u_known hz gwRJx00060 (hz _ cinRJx00060)
      | 2, hq => by cases hq; exact u_known hz gwRX0 (hz _ cinRX0)
      | 3, hq => by cases hq; exact u_known hz gwRX1 (hz _ cinRX1)
      | 4, hq => by cases hq; exact u_known hz gwRX2 (hz _ cinRX2)
      | 5, hq => by cases hq; exact u_known hz gwRX3 (hz _ cinRX3)
      | 6, hq => by cases hq; exact u_known hz gwRX4 (hz _ cinRX4)
      | 7, hq => by cases hq; exact u_known hz gwRX5 (hz _ cinRX5)
      | 8, hq => by cases hq; exact u_known hz gwRX7 (hz _ cinRX7)
      | 9, hq => by cases hq; exact u_known hz gwRX8 (hz _ cinRX8)
      | 10, hq => by cases hq; exact u_known hz gwRX9 (hz _ cinRX9)
      | 11, hq => by cases hq; exact u_known hz gwRX10 (hz _ cinRX10)
      | 12, hq => by cases hq; exact u_known hz gwRX11 (hz _ cinRX11)
      | 13, hq => by cases hq; exact u_known hz gwRX12 (hz _ cinRX12)
      | k + 14, hq => by simp [vwCl] at hq
  have f : ∀ k : Nat, ∃ cI : ClassId × (Nat → Nat), ∀ q : vw_C, vwCl[k]? = some q → u_Kn s q.1 q.2.1 q.2.2 cI.1 cI.2 := fun k => by
    cases hq : vwCl[k]? with
    | none => exact ⟨((0 : Nat), fun _ => 0), fun q z => by cases z⟩
    | some q =>
      obtain ⟨c, i, h9⟩ := h k q hq
      exact ⟨(c, i), fun q' z => by cases z; exact h9⟩
  exact ⟨fun k => (Classical.choose (f k)).1, fun k => (Classical.choose (f k)).2, fun k q hq => Classical.choose_spec (f k) q hq⟩
theorem k_tys {args : Array Value} {s : State} (hg : ∀ w ∈ lw_tbl, w.before args s = true) (o1 : va_AOA .int s) (o2 : va_AO "UnitCommitment$State" s) : ∃ tc : Nat → ClassId, ∀ (k : Nat) (q : ClassId × FieldType), (az_tys tc)[k]? = some q → ArrOfT s q.1 q.2 ∧ va_RA s q.1 q.2 := by
  obtain ⟨t0, a0⟩ := k_arr (ty := .int) (hg _ (k_tb 127 (by decide +kernel))) (by intro C h; cases h)
  obtain ⟨t1, a1⟩ := k_arr (ty := .boolean) (hg _ (k_tb 1168 (by decide +kernel))) (by intro C h; cases h)
  obtain ⟨t2, a2⟩ := k_arr (ty := .char) (hg _ (k_tb 361 (by decide +kernel))) (by intro C h; cases h)
  obtain ⟨t3, a3⟩ := k_arr (ty := .long) (hg _ (k_tb 1494 (by decide +kernel))) (by intro C h; cases h)
  obtain ⟨t4, a4⟩ := k_arr (ty := .double) (hg _ (k_tb 1495 (by decide +kernel))) (by intro C h; cases h)
  obtain ⟨t5, a5⟩ := k_aoa o1
  obtain ⟨t6, a6⟩ := k_ao o2
  refine ⟨fun k => if k = 20 then t0 else if k = 21 then t1 else if k = 22 then t2 else if k = 23 then t3 else if k = 24 then t4 else if k = 25 then t5 else t6, fun k q hq => ?_⟩
  exact match k, hq with
    | 0, hq => by cases hq; exact a0
    | 1, hq => by cases hq; exact a1
    | 2, hq => by cases hq; exact a2
    | 3, hq => by cases hq; exact a3
    | 4, hq => by cases hq; exact a4
    | 5, hq => by cases hq; exact a5
    | 6, hq => by cases hq; exact a6
    | k + 7, hq => by simp [az_tys] at hq
