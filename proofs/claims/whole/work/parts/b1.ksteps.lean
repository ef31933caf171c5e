set_option maxRecDepth 100000
set_option maxHeartbeats 1000000
/-! the steps of the constructors over the skeleton that is being made -/
def zrF (m : Nat) (I : Nat → Nat → Int32) (R : RT) : Prop := (∀ q j, m ≤ q → I q j = 0) ∧ (∀ q j, m ≤ q → R.1 q j = 0) ∧ ∀ q j, m ≤ q → R.2 q j = 0
theorem zrF_up {m n : Nat} {I : Nat → Nat → Int32} {R : RT} (h : zrF m I R) (hn : m ≤ n) : zrF n I R := ⟨fun q j z => h.1 q j (by omega), fun q j z => h.2.1 q j (by omega), fun q j z => h.2.2 q j (by omega)⟩
theorem st_mna {n0 cm sm m N w : Nat} {pd : List (Nat × Nat)} {P : az_T} {ls : List (Option Value)} {st : List Value} {k : Nat × Nat} {I : Nat → Nat → Int32} {R : RT} (h0 : n0 ≤ m) (hm : m + 1 + N ≤ 1000) (hN : N ≤ 1000) (hw : w ≤ 1000) (hp : pdO m pd) (hc : clP m pd) (hrl : az_rl m ls st) (hz : zrF m I R) (s1 : K0.2.1 m = (25, N)) (s2 : ∀ i, i < N → K0.2.1 (m + 1 + i) = (20, w)) (h : ∀ j, K0.2.2 m j = if j < N then some (m + 1 + j) else none) (hr : ∀ i j, i < N → K0.2.2 (m + 1 + i) j = none) (hk1 : k.1 + (1 + N) ≤ cm) (hk2 : k.2 + (N + N * w) ≤ sm)
    (kk : P ls (.ref m :: st) (k.1 + 1 + N, k.2 + N + N * w) (KP (m + 1 + N) pd, I, R)) : s_mna n0 cm sm P ls (.int (nI w) :: .int (nI N) :: st) k (KP m pd, I, R) := by
  have c1 : (nI N).toNatClampNeg = N := nI_clamp (by omega)
  have c2 : (nI w).toNatClampNeg = w := nI_clamp (by omega)
  have n1 : ¬ nI N < 0 := nI_pos (by omega)
  have n2 : ¬ nI w < 0 := nI_pos (by omega)
  unfold s_mna
  dsimp only
  rw [c1, c2]
  refine ⟨⟨h0, hm⟩, hc, hrl, ⟨n1, n2, hN, hw⟩, s1, fun i hi => ⟨s2 i hi, fun j => hz.1 _ _ (by omega), fun j => rfP_out (by omega)⟩, hk1, hk2, ?_⟩
  show P ls (.ref m :: st) _ ((m + 1 + N, K0.2.1, fun a j => if a = m then (if j < N then some (m + 1 + j) else none) else rfP m pd a j), I, R)
  rw [kp_tab hp h hr]
  exact kk
theorem st_nar {n0 cm sm m N kd : Nat} {pd : List (Nat × Nat)} {P : az_T} {ls : List (Option Value)} {st : List Value} {k : Nat × Nat} {I : Nat → Nat → Int32} {R : RT} (h0 : n0 ≤ m) (hm : m < 1000) (hN : N ≤ 10000) (hp : pdO m pd) (hc : clP m pd) (hrl : az_rl m ls st) (hz : zrF m I R) (s1 : K0.2.1 m = (kd, N)) (h : ∀ j, K0.2.2 m j = none) (hk1 : k.1 + 1 ≤ cm) (hk2 : k.2 + N ≤ sm)
    (kk : P ls (.ref m :: st) (k.1 + 1, k.2 + N) (KP (m + 1) pd, I, R)) : s_nar n0 cm sm kd P ls (.int (nI N) :: st) k (KP m pd, I, R) := by
  have c1 : (nI N).toNatClampNeg = N := nI_clamp (by omega)
  have n1 : ¬ nI N < 0 := nI_pos (by omega)
  unfold s_nar
  dsimp only
  rw [c1]
  refine ⟨⟨h0, hm⟩, hc, hrl, s1, n1, hN, ⟨fun j => hz.1 _ _ (Nat.le_refl _), fun j => hz.2.1 _ _ (Nat.le_refl _), fun j => hz.2.2 _ _ (Nat.le_refl _)⟩, fun j => rfP_out (Nat.le_refl _), hk1, hk2, ?_⟩
  show P ls (.ref m :: st) _ ((m + 1, K0.2.1, rfP m pd), I, R)
  rw [kp_row hp h]
  exact kk
theorem st_new {n0 cm sm m ci N : Nat} {pd : List (Nat × Nat)} {P : az_T} {ls : List (Option Value)} {st : List Value} {k : Nat × Nat} {I : Nat → Nat → Int32} {R : RT} (h0 : n0 ≤ m) (hm : m < 1000) (hc : clP m pd) (hrl : az_rl m ls st) (hz : zrF m I R) (s1 : (K0.2.1 m).1 = ci) (hk1 : k.1 + 1 ≤ cm) (hk2 : k.2 + N ≤ sm)
    (kk : P ls (.ref m :: st) (k.1 + 1, k.2 + N) (KP (m + 1) ((m, 0) :: pd), I, R)) : s_new n0 cm sm ci N P ls st k (KP m pd, I, R) := by
  unfold s_new
  refine ⟨⟨h0, hm⟩, hc, hrl, s1, fun j _ => hz.1 _ _ (Nat.le_refl _), fun j => rfP_out (Nat.le_refl _), hk1, hk2, ?_⟩
  show P ls (.ref m :: st) (k.1 + 1, k.2 + N) ((m + 1, K0.2.1, rfP m pd), I, R)
  rw [kp_new]
  exact kk
theorem st_pr {m ci a b j : Nat} {pd : List (Nat × Nat)} {P : az_T} {ls : List (Option Value)} {st : List Value} {k : Nat × Nat} {I : Nat → Nat → Int32} {R : RT} (ha : a < m) (s1 : (K0.2.1 a).1 = ci) (h : K0.2.2 a j = some b)
    (kk : P ls st k (KP m ((a, j + 1) :: pd), I, R)) : s_pr ci j P ls (.ref b :: .ref a :: st) k (KP m ((a, j) :: pd), I, R) := by
  unfold s_pr
  refine ⟨ha, s1, ?_⟩
  show P ls st k ((m, K0.2.1, az_up (rfP m ((a, j) :: pd)) a j (some b)), I, R)
  rw [kp_set ha h]
  exact kk
theorem st_ci {n0 cm sm c1 s1 m ci b : Nat} {pd : List (Nat × Nat)} {F : az_F} {P : az_T} {ls : List (Option Value)} {st : List Value} {k : Nat × Nat} {I : Nat → Nat → Int32} {R : RT} (h0 : n0 ≤ m) (hb : b < m) (sb : (K0.2.1 b).1 = ci) (h4 : st.length ≤ 4) (hrl : az_rl m ls st) (hk1 : k.1 + c1 ≤ cm) (hk2 : k.2 + s1 ≤ sm)
    (kk : F [.ref b] (KP m pd, I, R) (fun r M1 => P ls (r.toList ++ st) (k.1 + c1, k.2 + s1) M1)) : s_ci n0 cm sm c1 s1 0 ci F P ls (.ref b :: st) k (KP m pd, I, R) := ⟨hb, sb, h4, h0, hrl, hk1, hk2, kk⟩
/-- what the skeleton has where a state lies -/
def StC (a : Nat) : Prop := (K0.2.1 a = (9, 0) ∧ K0.2.2 a 5 = some (a + 1) ∧ K0.2.2 a 6 = some (a + 8) ∧ K0.2.2 a 7 = some (a + 15) ∧ K0.2.2 a 8 = some (a + 20) ∧ K0.2.2 a 9 = some (a + 21) ∧ K0.2.2 a 10 = some (a + 22)) ∧ (∀ j, j < 40 → j < 5 ∨ 10 < j → K0.2.2 a j = none) ∧
  (K0.2.1 (a + 1) = (25, 6) ∧ K0.2.1 (a + 8) = (25, 6) ∧ K0.2.1 (a + 15) = (25, 4) ∧ K0.2.1 (a + 20) = (20, 24) ∧ K0.2.1 (a + 21) = (20, 4) ∧ K0.2.1 (a + 22) = (20, 4)) ∧
  (∀ j, j < 40 → K0.2.2 (a + 1) j = if j < 6 then some (a + 1 + 1 + j) else none) ∧ (∀ j, j < 40 → K0.2.2 (a + 8) j = if j < 6 then some (a + 8 + 1 + j) else none) ∧ (∀ j, j < 40 → K0.2.2 (a + 15) j = if j < 4 then some (a + 15 + 1 + j) else none) ∧
  (∀ i, i < 6 → K0.2.1 (a + 1 + 1 + i) = (20, 14) ∧ ∀ j, j < 40 → K0.2.2 (a + 1 + 1 + i) j = none) ∧ (∀ i, i < 6 → K0.2.1 (a + 8 + 1 + i) = (20, 3) ∧ ∀ j, j < 40 → K0.2.2 (a + 8 + 1 + i) j = none) ∧ (∀ i, i < 4 → K0.2.1 (a + 15 + 1 + i) = (20, 24) ∧ ∀ j, j < 40 → K0.2.2 (a + 15 + 1 + i) j = none) ∧ ∀ i, i < 3 → ∀ j, j < 40 → K0.2.2 (a + 20 + i) j = none
theorem k_c1 : StC 1 := ⟨by decide +kernel, by decide +kernel, by decide +kernel, by decide +kernel, by decide +kernel, by decide +kernel, by decide +kernel, by decide +kernel, by decide +kernel, by decide +kernel⟩
theorem k_c24 : StC 24 := ⟨by decide +kernel, by decide +kernel, by decide +kernel, by decide +kernel, by decide +kernel, by decide +kernel, by decide +kernel, by decide +kernel, by decide +kernel, by decide +kernel⟩
theorem k_cr : ∀ i, i < 8 → StC (49 + 23 * i) := fun i hi => by
  have e : i = 0 ∨ i = 1 ∨ i = 2 ∨ i = 3 ∨ i = 4 ∨ i = 5 ∨ i = 6 ∨ i = 7 := by omega
  rcases e with rfl | rfl | rfl | rfl | rfl | rfl | rfl | rfl <;> exact ⟨by decide +kernel, by decide +kernel, by decide +kernel, by decide +kernel, by decide +kernel, by decide +kernel, by decide +kernel, by decide +kernel, by decide +kernel, by decide +kernel⟩
theorem k_all {a : Nat} (h : ∀ j, j < 40 → K0.2.2 a j = none) : ∀ j, K0.2.2 a j = none := fun j => by
  rcases Nat.lt_or_ge j 40 with q | q
  · exact h j q
  · exact k_out q
theorem k_tab {a N : Nat} (hN : N ≤ 40) (h : ∀ j, j < 40 → K0.2.2 a j = if j < N then some (a + 1 + j) else none) : ∀ j, K0.2.2 a j = if j < N then some (a + 1 + j) else none := fun j => by
  rcases Nat.lt_or_ge j 40 with q | q
  · exact h j q
  · rw [k_out q, if_neg (by omega)]

theorem rfP_in {m b j : Nat} {pd : List (Nat × Nat)} (h : b < m) (hl : pd.lookup b = none) : rfP m pd b j = K0.2.2 b j := by
  unfold rfP
  rw [if_pos h, hl]
theorem i_State {I : Nat → Nat → Int32} {R : RT} {a : Nat} {pd : List (Nat × Nat)} {Q : Option Value → az_M → Prop} (hA : StC a) (h9 : a + 23 ≤ 1000) (hp : pdO a pd) (hc : clP (a + 1) ((a, 0) :: pd)) (hz : zrF (a + 1) I R)
    (hQ : ∀ I', CS a (S0 6 1) I' → (∀ q j, (q < a ∨ a + 22 < q) → I' q j = I q j) → clP (a + 23) pd → Q none (KP (a + 23) pd, I', R)) : FX8_init [.ref a] (KP (a + 1) ((a, 0) :: pd), I, R) Q := by
  obtain ⟨⟨k1, k2, k3, k4, k5, k6, k7⟩, kz, ⟨t1, t2, t3, t4, t5, t6⟩, u1, u2, u3, r1, r2, r3, r4⟩ := hA
  have rl : ∀ m st, a < m → (∀ v ∈ st, v = .ref a) → az_rl m [some (.ref a)] st := fun m st hm hs => ⟨fun v hv => by
    have hv := List.mem_singleton.mp hv
    cases hv; exact Or.inl hm, fun v hv => by rw [hs v hv]; exact Or.inl hm⟩
  have w1 := k_tab (N := 6) (by omega) u1
  have w2 := k_tab (N := 6) (by omega) u2
  have w3 := k_tab (N := 4) (by omega) u3
  have e0 : rfP (a + 1) ((a, 0) :: pd) = rfP (a + 1) ((a, 5) :: pd) := kp_skip (by omega) (fun j _ hj => kz j (by omega) (by omega))
  have hp1 : pdO (a + 1) pd := pdO_up hp (by omega)
  have hc5 : clP (a + 1) ((a, 5) :: pd) := by intro x j b q1 q2; rw [← e0] at q2; exact hc x j b q1 q2
  refine ⟨rfl, ?_⟩
  show PX8_init (a + 1) Q [some (.ref a)] [] (0, 0) ((a + 1, K0.2.1, rfP (a + 1) ((a, 0) :: pd)), I, R)
  rw [e0]
  unfold PX8_init
  refine ⟨by decide, ?_⟩
  have pO : ∀ m t, a < m → pdO m ((a, t) :: pd) := fun m t hm => pdO_cons (pdO_up hp (by omega)) hm
  have x1 := clP_tab (N := 6) (pO _ _ (by omega)) hc5 w1 (fun i j hi => k_all (r1 i hi).2 j)
  have x2 := clP_set x1 (by omega) (by omega) k2
  have x3 := clP_tab (m := a + 8) (N := 6) (pO _ _ (by omega)) x2 w2 (fun i j hi => k_all (r2 i hi).2 j)
  have x4 := clP_set x3 (by omega) (by omega) k3
  have x5 := clP_tab (m := a + 15) (N := 4) (pO _ _ (by omega)) x4 w3 (fun i j hi => k_all (r3 i hi).2 j)
  have x6 := clP_set x5 (by omega) (by omega) k4
  have y0 := k_all (r4 0 (by omega))
  have y1 := k_all (r4 1 (by omega))
  have y2 := k_all (r4 2 (by omega))
  have x7 := clP_row (m := a + 20) (pO _ _ (by omega)) x6 y0
  have x8 := clP_set x7 (by omega) (by omega) k5
  have x9 := clP_row (m := a + 21) (pO _ _ (by omega)) x8 y1
  have x10 := clP_set x9 (by omega) (by omega) k6
  have x11 := clP_row (m := a + 22) (pO _ _ (by omega)) x10 y2
  have x12 := clP_set x11 (by omega) (by omega) k7
  refine st_mna (w := 14) (N := 6) (Nat.le_refl _) (by omega) (by omega) (by omega) (pO _ _ (by omega)) hc5 (rl _ _ (by omega) (by simp)) hz t1 (fun i hi => (r1 i hi).1) w1 (fun i j hi => k_all (r1 i hi).2 j) (by decide) (by decide) ?_
  refine st_pr (by omega) (by rw [k1]) k2 ?_
  refine st_mna (m := a + 8) (w := 3) (N := 6) (by omega) (by omega) (by omega) (by omega) (pO _ _ (by omega)) x2 (rl _ _ (by omega) (by simp)) (zrF_up hz (by omega)) t2 (fun i hi => (r2 i hi).1) w2 (fun i j hi => k_all (r2 i hi).2 j) (by decide) (by decide) ?_
  refine st_pr (by omega) (by rw [k1]) k3 ?_
  refine st_mna (m := a + 15) (w := 24) (N := 4) (by omega) (by omega) (by omega) (by omega) (pO _ _ (by omega)) x4 (rl _ _ (by omega) (by simp)) (zrF_up hz (by omega)) t3 (fun i hi => (r3 i hi).1) w3 (fun i j hi => k_all (r3 i hi).2 j) (by decide) (by decide) ?_
  refine st_pr (by omega) (by rw [k1]) k4 ?_
  refine st_nar (m := a + 20) (N := 24) (by omega) (by omega) (by omega) (pO _ _ (by omega)) x6 (rl _ _ (by omega) (by simp)) (zrF_up hz (by omega)) t4 y0 (by decide) (by decide) ?_
  refine st_pr (by omega) (by rw [k1]) k5 ?_
  refine st_nar (m := a + 21) (N := 4) (by omega) (by omega) (by omega) (pO _ _ (by omega)) x8 (rl _ _ (by omega) (by simp)) (zrF_up hz (by omega)) t5 y1 (by decide) (by decide) ?_
  refine st_pr (by omega) (by rw [k1]) k6 ?_
  refine st_nar (m := a + 22) (N := 4) (by omega) (by omega) (by omega) (pO _ _ (by omega)) x10 (rl _ _ (by omega) (by simp)) (zrF_up hz (by omega)) t6 y2 (by decide) (by decide) ?_
  refine st_pr (by omega) (by rw [k1]) k7 ?_
  have ed : rfP (a + 23) ((a, 11) :: pd) = rfP (a + 23) pd := kp_done (hp a (Nat.le_refl _)) (fun j hj => by
    rcases Nat.lt_or_ge j 40 with q | q
    · exact kz j q (by omega)
    · exact k_out q)
  have hcl : clP (a + 23) pd := by intro x j b q1 q2; rw [← ed] at q2; exact x12 x j b q1 q2
  refine ⟨by show a < a + 23; omega, by rw [k1], by decide, ?_⟩
  show FX8_startAnew [.ref a, .int (nI 6), .int (nI 1)] ((a + 23, K0.2.1, rfP (a + 23) ((a, 11) :: pd)), I, R) _
  rw [ed]
  have ri : ∀ b j, a ≤ b → b < a + 23 → rfP (a + 23) pd b j = K0.2.2 b j := fun b j q1 q2 => rfP_in q2 (hp b q1)
  refine w_startAnew (K := KP (a + 23) pd) ⟨by show a + 22 < a + 23; omega, k1, (ri _ _ (by omega) (by omega)).trans k2, (ri _ _ (by omega) (by omega)).trans k3, (ri _ _ (by omega) (by omega)).trans k4, (ri _ _ (by omega) (by omega)).trans k5, (ri _ _ (by omega) (by omega)).trans k6, (ri _ _ (by omega) (by omega)).trans k7, t1, t2, t3, t4, t5, t6, fun u hu => (ri _ _ (by omega) (by omega)).trans ((w1 u).trans (if_pos hu)), fun u hu => (r1 u hu).1, fun u hu => (ri _ _ (by omega) (by omega)).trans ((w2 u).trans (if_pos hu)), fun u hu => (r2 u hu).1, fun u hu => (ri _ _ (by omega) (by omega)).trans ((w3 u).trans (if_pos hu)), fun u hu => (r3 u hu).1⟩ (fun I' f1 f2 => ?_)
  exact hQ I' f1 f2 hcl
