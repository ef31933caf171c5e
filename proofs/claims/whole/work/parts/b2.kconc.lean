set_option maxRecDepth 100000
set_option maxHeartbeats 1000000
/-! the same steps at objects whose numbers are given -/
def rlB (m : Nat) (ls : List (Option Value)) (st : List Value) : Bool := ls.all (fun o => match o with
  | some (.ref a) => decide (a < m)
  | _ => true) && st.all (fun v => match v with
  | .ref a => decide (a < m)
  | _ => true)
theorem rl_B {m : Nat} {ls : List (Option Value)} {st : List Value} (h : rlB m ls st = true) : az_rl m ls st := by
  unfold rlB at h
  rw [Bool.and_eq_true, List.all_eq_true, List.all_eq_true] at h
  refine ⟨fun v hv => ?_, fun v hv => ?_⟩
  · have := h.1 _ hv
    cases v with
    | ref a => exact Or.inl (by simpa using this)
    | _ => trivial
  · have := h.2 _ hv
    cases v with
    | ref a => exact Or.inl (by simpa using this)
    | _ => trivial
theorem st_prS {m ci a b j t : Nat} {pd : List (Nat × Nat)} {P : az_T} {ls : List (Option Value)} {st : List Value} {k : Nat × Nat} {I : Nat → Nat → Int32} {R : RT} (ha : a < m) (s1 : (K0.2.1 a).1 = ci) (htj : t ≤ j) (hsk : ∀ i, i < j → t ≤ i → K0.2.2 a i = none) (h : K0.2.2 a j = some b)
    (kk : P ls st k (KP m ((a, j + 1) :: pd), I, R)) : s_pr ci j P ls (.ref b :: .ref a :: st) k (KP m ((a, t) :: pd), I, R) := by
  show s_pr ci j P ls (.ref b :: .ref a :: st) k ((m, K0.2.1, rfP m ((a, t) :: pd)), I, R)
  rw [kp_skip htj (fun i h1 h2 => hsk i h2 h1)]
  exact st_pr ha s1 h kk
theorem clP_setS {m a j b t : Nat} {pd : List (Nat × Nat)} (hc : clP m ((a, t) :: pd)) (ha : a < m) (hb : b < m) (htj : t ≤ j) (hsk : ∀ i, i < j → t ≤ i → K0.2.2 a i = none) (h : K0.2.2 a j = some b) : clP m ((a, j + 1) :: pd) := by
  refine clP_set ?_ ha hb h
  intro x i c q1 q2
  rw [← kp_skip htj (fun i h1 h2 => hsk i h2 h1)] at q2
  exact hc x i c q1 q2
theorem kp_doneB {m a t : Nat} {pd : List (Nat × Nat)} (hl : pd.lookup a = none) (h : ∀ j, j < 40 → t ≤ j → K0.2.2 a j = none) : rfP m ((a, t) :: pd) = rfP m pd := kp_done hl (fun j hj => by
  rcases Nat.lt_or_ge j 40 with q | q
  · exact h j q hj
  · exact k_out q)
theorem clP_done {m a t : Nat} {pd : List (Nat × Nat)} (hl : pd.lookup a = none) (h : ∀ j, j < 40 → t ≤ j → K0.2.2 a j = none) (hc : clP m ((a, t) :: pd)) : clP m pd := by
  intro x i c q1 q2
  rw [← kp_doneB hl h] at q2
  exact hc x i c q1 q2
theorem st_rv {m a t : Nat} {pd : List (Nat × Nat)} {Q : Option Value → az_M → Prop} {ls : List (Option Value)} {k : Nat × Nat} {I : Nat → Nat → Int32} {R : RT} (hl : pd.lookup a = none) (h : ∀ j, j < 40 → t ≤ j → K0.2.2 a j = none) (kk : Q none (KP m pd, I, R)) : s_rv Q ls [] k (KP m ((a, t) :: pd), I, R) := by
  show Q none ((m, K0.2.1, rfP m ((a, t) :: pd)), I, R)
  rw [kp_doneB hl h]
  exact kk
theorem zrF_w {m a j : Nat} {x : Int32} {I : Nat → Nat → Int32} {R : RT} (h : zrF m I R) (ha : a < m) : zrF m (az_up I a j x) R := ⟨fun q i z => by rw [up_na (by omega)]; exact h.1 q i z, h.2⟩
