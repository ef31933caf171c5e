set_option maxRecDepth 100000
/-! by program (wip/whole/gen_pcase.py): the cases of the law: both sides answer the same -/
def lwZ (pos : Nat) (q : Nat × Nat) (Z : az_T) : Prop := ∀ (A : AT) (I : Nat → Nat → Int32) (R : RT) (q1 : Nat × Nat) (a b c : Option Value), CR A I → MR A I → q1.1 ≤ q.1 + 1 → q1.2 ≤ q.2 + 6 → Z (lwL pos a b c) [] q1 (K0, I, R)
theorem lc_0 {L : Nat} {xs : Nat → Int32} {pos : Nat} {A : AT} {I : Nat → Nat → Int32} {R : RT} {a b c : Option Value} {q : Nat × Nat} {Z : az_T} (hL : L ≤ 3072) (hp : pos + 6 ≤ L) (hC : CR A I) (hM : MR A I) (hq : q.1 + 1 ≤ 603072 ∧ q.2 + 6 ≤ 7186538) (hZ : lwZ pos q Z) : LC_0 L xs Z (lwL pos a b c) [] q (K0, I, R) := by
  have hA := AV_of hC
  unfold LC_0
  refine r_la rfl (r_ar hL (by omega) (r_ar hL (by omega) (r_la rfl (⟨Nat.zero_le _, hq.1, hq.2, v_size hC (fun I1 R1 c1 f1 o1 => ?_)⟩))))
  exact r_si (r_la rfl (r_ar hL (by omega) (r_ar hL (by omega) (⟨k_law.1, k_law.2.1, Nat.zero_le _, m_size hA (MR_fr hA hM f1) (fun I2 m2 t2 f2 => r_tail t2 (Nat.le_trans bd_size (by decide)) o1 (fun a b c => hZ _ _ _ _ _ _ _ (CR_fr c1 (fun q j z => f2 q j (Or.inl z))) m2 (Nat.le_refl _) (Nat.le_refl _)))⟩))))
theorem lc_1 {L : Nat} {xs : Nat → Int32} {pos : Nat} {A : AT} {I : Nat → Nat → Int32} {R : RT} {a b c : Option Value} {q : Nat × Nat} {Z : az_T} (hL : L ≤ 3072) (hp : pos + 6 ≤ L) (hC : CR A I) (hM : MR A I) (hq : q.1 + 1 ≤ 603072 ∧ q.2 + 6 ≤ 7186538) (hZ : lwZ pos q Z) : LC_1 L xs Z (lwL pos a b c) [] q (K0, I, R) := by
  have hA := AV_of hC
  unfold LC_1
  refine r_la rfl (r_ar hL (by omega) (r_ar hL (by omega) (r_ar hL (by omega) (r_la rfl (⟨Nat.zero_le _, hq.1, hq.2, v_setDemand hC (fun I1 R1 c1 f1 o1 => ?_)⟩)))))
  exact r_si (r_la rfl (r_ar hL (by omega) (r_ar hL (by omega) (r_ar hL (by omega) (⟨k_law.1, k_law.2.1, Nat.zero_le _, m_setDemand hA (MR_fr hA hM f1) (fun I2 m2 t2 f2 => r_tail t2 (Nat.le_trans bd_setDemand (by decide)) o1 (fun a b c => hZ _ _ _ _ _ _ _ (CR_fr c1 (fun q j z => f2 q j (Or.inl z))) m2 (Nat.le_refl _) (Nat.le_refl _)))⟩)))))
theorem lc_2 {L : Nat} {xs : Nat → Int32} {pos : Nat} {A : AT} {I : Nat → Nat → Int32} {R : RT} {a b c : Option Value} {q : Nat × Nat} {Z : az_T} (hL : L ≤ 3072) (hp : pos + 6 ≤ L) (hC : CR A I) (hM : MR A I) (hq : q.1 + 1 ≤ 603072 ∧ q.2 + 6 ≤ 7186538) (hZ : lwZ pos q Z) : LC_2 L xs Z (lwL pos a b c) [] q (K0, I, R) := by
  have hA := AV_of hC
  unfold LC_2
  refine r_la rfl (r_ar hL (by omega) (r_ar hL (by omega) (r_la rfl (⟨Nat.zero_le _, hq.1, hq.2, v_setReserve hC (fun I1 R1 c1 f1 o1 => ?_)⟩))))
  exact r_si (r_la rfl (r_ar hL (by omega) (r_ar hL (by omega) (⟨k_law.1, k_law.2.1, Nat.zero_le _, m_setReserve hA (MR_fr hA hM f1) (fun I2 m2 t2 f2 => r_tail t2 (Nat.le_trans bd_setReserve (by decide)) o1 (fun a b c => hZ _ _ _ _ _ _ _ (CR_fr c1 (fun q j z => f2 q j (Or.inl z))) m2 (Nat.le_refl _) (Nat.le_refl _)))⟩))))
theorem lc_3 {L : Nat} {xs : Nat → Int32} {pos : Nat} {A : AT} {I : Nat → Nat → Int32} {R : RT} {a b c : Option Value} {q : Nat × Nat} {Z : az_T} (hL : L ≤ 3072) (hp : pos + 6 ≤ L) (hC : CR A I) (hM : MR A I) (hq : q.1 + 1 ≤ 603072 ∧ q.2 + 6 ≤ 7186538) (hZ : lwZ pos q Z) : LC_3 L xs Z (lwL pos a b c) [] q (K0, I, R) := by
  have hA := AV_of hC
  unfold LC_3
  refine r_la rfl (r_ar hL (by omega) (r_ar hL (by omega) (r_ar hL (by omega) (r_la rfl (⟨Nat.zero_le _, hq.1, hq.2, v_setLine hC (fun I1 R1 c1 f1 o1 => ?_)⟩)))))
  exact r_si (r_la rfl (r_ar hL (by omega) (r_ar hL (by omega) (r_ar hL (by omega) (⟨k_law.1, k_law.2.1, Nat.zero_le _, m_setLine hA (MR_fr hA hM f1) (fun I2 m2 t2 f2 => r_tail t2 (Nat.le_trans bd_setLine (by decide)) o1 (fun a b c => hZ _ _ _ _ _ _ _ (CR_fr c1 (fun q j z => f2 q j (Or.inl z))) m2 (Nat.le_refl _) (Nat.le_refl _)))⟩)))))
theorem lc_4 {L : Nat} {xs : Nat → Int32} {pos : Nat} {A : AT} {I : Nat → Nat → Int32} {R : RT} {a b c : Option Value} {q : Nat × Nat} {Z : az_T} (hL : L ≤ 3072) (hp : pos + 6 ≤ L) (hC : CR A I) (hM : MR A I) (hq : q.1 + 1 ≤ 603072 ∧ q.2 + 6 ≤ 7186538) (hZ : lwZ pos q Z) : LC_4 L xs Z (lwL pos a b c) [] q (K0, I, R) := by
  have hA := AV_of hC
  unfold LC_4
  refine r_la rfl (r_ar hL (by omega) (r_ar hL (by omega) (r_ar hL (by omega) (r_ar hL (by omega) (r_ar hL (by omega) (r_la rfl (⟨Nat.zero_le _, hq.1, hq.2, v_addUnit hC (fun I1 R1 c1 f1 o1 => ?_)⟩)))))))
  exact r_si (r_la rfl (r_ar hL (by omega) (r_ar hL (by omega) (r_ar hL (by omega) (r_ar hL (by omega) (r_ar hL (by omega) (⟨k_law.1, k_law.2.1, Nat.zero_le _, m_addUnit hA (MR_fr hA hM f1) (fun I2 m2 t2 f2 => r_tail t2 (Nat.le_trans bd_addUnit (by decide)) o1 (fun a b c => hZ _ _ _ _ _ _ _ (CR_fr c1 (fun q j z => f2 q j (Or.inl z))) m2 (Nat.le_refl _) (Nat.le_refl _)))⟩)))))))
theorem lc_5 {L : Nat} {xs : Nat → Int32} {pos : Nat} {A : AT} {I : Nat → Nat → Int32} {R : RT} {a b c : Option Value} {q : Nat × Nat} {Z : az_T} (hL : L ≤ 3072) (hp : pos + 6 ≤ L) (hC : CR A I) (hM : MR A I) (hq : q.1 + 1 ≤ 603072 ∧ q.2 + 6 ≤ 7186538) (hZ : lwZ pos q Z) : LC_5 L xs Z (lwL pos a b c) [] q (K0, I, R) := by
  have hA := AV_of hC
  unfold LC_5
  refine r_la rfl (r_ar hL (by omega) (r_ar hL (by omega) (r_ar hL (by omega) (r_la rfl (⟨Nat.zero_le _, hq.1, hq.2, v_setUnit hC (fun I1 R1 c1 f1 o1 => ?_)⟩)))))
  exact r_si (r_la rfl (r_ar hL (by omega) (r_ar hL (by omega) (r_ar hL (by omega) (⟨k_law.1, k_law.2.1, Nat.zero_le _, m_setUnit hA (MR_fr hA hM f1) (fun I2 m2 t2 f2 => r_tail t2 (Nat.le_trans bd_setUnit (by decide)) o1 (fun a b c => hZ _ _ _ _ _ _ _ (CR_fr c1 (fun q j z => f2 q j (Or.inl z))) m2 (Nat.le_refl _) (Nat.le_refl _)))⟩)))))
theorem lc_6 {L : Nat} {xs : Nat → Int32} {pos : Nat} {A : AT} {I : Nat → Nat → Int32} {R : RT} {a b c : Option Value} {q : Nat × Nat} {Z : az_T} (hL : L ≤ 3072) (hp : pos + 6 ≤ L) (hC : CR A I) (hM : MR A I) (hq : q.1 + 1 ≤ 603072 ∧ q.2 + 6 ≤ 7186538) (hZ : lwZ pos q Z) : LC_6 L xs Z (lwL pos a b c) [] q (K0, I, R) := by
  have hA := AV_of hC
  unfold LC_6
  refine r_la rfl (r_ar hL (by omega) (r_ar hL (by omega) (r_la rfl (⟨Nat.zero_le _, hq.1, hq.2, v_unit hC (fun I1 R1 c1 f1 o1 => ?_)⟩))))
  exact r_si (r_la rfl (r_ar hL (by omega) (r_ar hL (by omega) (⟨k_law.1, k_law.2.1, Nat.zero_le _, m_unit hA (MR_fr hA hM f1) (fun I2 m2 t2 f2 => r_tail t2 (Nat.le_trans bd_unit (by decide)) o1 (fun a b c => hZ _ _ _ _ _ _ _ (CR_fr c1 (fun q j z => f2 q j (Or.inl z))) m2 (Nat.le_refl _) (Nat.le_refl _)))⟩))))
theorem lc_7 {L : Nat} {xs : Nat → Int32} {pos : Nat} {A : AT} {I : Nat → Nat → Int32} {R : RT} {a b c : Option Value} {q : Nat × Nat} {Z : az_T} (hL : L ≤ 3072) (hp : pos + 6 ≤ L) (hC : CR A I) (hM : MR A I) (hq : q.1 + 1 ≤ 603072 ∧ q.2 + 6 ≤ 7186538) (hZ : lwZ pos q Z) : LC_7 L xs Z (lwL pos a b c) [] q (K0, I, R) := by
  have hA := AV_of hC
  unfold LC_7
  refine r_la rfl (r_ar hL (by omega) (r_ar hL (by omega) (r_ar hL (by omega) (r_ar hL (by omega) (r_bool (?_))))))
  unfold LL_761
  refine r_la rfl ⟨Nat.zero_le _, hq.1, hq.2, v_commit hC (fun I1 R1 c1 f1 o1 => ?_)⟩
  refine r_si (r_la rfl (r_ar hL (by omega) (r_ar hL (by omega) (r_ar hL (by omega) (r_ar hL (by omega) (r_bool (?_)))))))
  unfold LL_800
  exact ⟨k_law.1, k_law.2.1, Nat.zero_le _, m_commit hA (MR_fr hA hM f1) (fun I2 m2 t2 f2 => r_tail t2 (Nat.le_trans bd_commit (by decide)) o1 (fun a b c => hZ _ _ _ _ _ _ _ (CR_fr c1 (fun q j z => f2 q j (Or.inl z))) m2 (Nat.le_refl _) (Nat.le_refl _)))⟩
theorem lc_8 {L : Nat} {xs : Nat → Int32} {pos : Nat} {A : AT} {I : Nat → Nat → Int32} {R : RT} {a b c : Option Value} {q : Nat × Nat} {Z : az_T} (hL : L ≤ 3072) (hp : pos + 6 ≤ L) (hC : CR A I) (hM : MR A I) (hq : q.1 + 1 ≤ 603072 ∧ q.2 + 6 ≤ 7186538) (hZ : lwZ pos q Z) : LC_8 L xs Z (lwL pos a b c) [] q (K0, I, R) := by
  have hA := AV_of hC
  unfold LC_8
  refine r_la rfl (r_ar hL (by omega) (r_ar hL (by omega) (r_ar hL (by omega) (r_la rfl (⟨Nat.zero_le _, hq.1, hq.2, v_addOutage hC (fun I1 R1 c1 f1 o1 => ?_)⟩)))))
  exact r_si (r_la rfl (r_ar hL (by omega) (r_ar hL (by omega) (r_ar hL (by omega) (⟨k_law.1, k_law.2.1, Nat.zero_le _, m_addOutage hA (MR_fr hA hM f1) (fun I2 m2 t2 f2 => r_tail t2 (Nat.le_trans bd_addOutage (by decide)) o1 (fun a b c => hZ _ _ _ _ _ _ _ (CR_fr c1 (fun q j z => f2 q j (Or.inl z))) m2 (Nat.le_refl _) (Nat.le_refl _)))⟩)))))
theorem lc_9 {L : Nat} {xs : Nat → Int32} {pos : Nat} {A : AT} {I : Nat → Nat → Int32} {R : RT} {a b c : Option Value} {q : Nat × Nat} {Z : az_T} (hL : L ≤ 3072) (hp : pos + 6 ≤ L) (hC : CR A I) (hM : MR A I) (hq : q.1 + 1 ≤ 603072 ∧ q.2 + 6 ≤ 7186538) (hZ : lwZ pos q Z) : LC_9 L xs Z (lwL pos a b c) [] q (K0, I, R) := by
  have hA := AV_of hC
  unfold LC_9
  refine r_la rfl (r_ar hL (by omega) (r_la rfl (⟨Nat.zero_le _, hq.1, hq.2, v_removeOutage hC (fun I1 R1 c1 f1 o1 => ?_)⟩)))
  exact r_si (r_la rfl (r_ar hL (by omega) (⟨k_law.1, k_law.2.1, Nat.zero_le _, m_removeOutage hA (MR_fr hA hM f1) (fun I2 m2 t2 f2 => r_tail t2 (Nat.le_trans bd_removeOutage (by decide)) o1 (fun a b c => hZ _ _ _ _ _ _ _ (CR_fr c1 (fun q j z => f2 q j (Or.inl z))) m2 (Nat.le_refl _) (Nat.le_refl _)))⟩)))
theorem lc_10 {L : Nat} {xs : Nat → Int32} {pos : Nat} {A : AT} {I : Nat → Nat → Int32} {R : RT} {a b c : Option Value} {q : Nat × Nat} {Z : az_T} (hL : L ≤ 3072) (hp : pos + 6 ≤ L) (hC : CR A I) (hM : MR A I) (hq : q.1 + 1 ≤ 603072 ∧ q.2 + 6 ≤ 7186538) (hZ : lwZ pos q Z) : LC_10 L xs Z (lwL pos a b c) [] q (K0, I, R) := by
  have hA := AV_of hC
  unfold LC_10
  refine r_la rfl (r_ar hL (by omega) (r_la rfl (⟨Nat.zero_le _, hq.1, hq.2, v_setPolicy hC (fun I1 R1 c1 f1 o1 => ?_)⟩)))
  exact r_si (r_la rfl (r_ar hL (by omega) (⟨k_law.1, k_law.2.1, Nat.zero_le _, m_setPolicy hA (MR_fr hA hM f1) (fun I2 m2 t2 f2 => r_tail t2 (Nat.le_trans bd_setPolicy (by decide)) o1 (fun a b c => hZ _ _ _ _ _ _ _ (CR_fr c1 (fun q j z => f2 q j (Or.inl z))) m2 (Nat.le_refl _) (Nat.le_refl _)))⟩)))
theorem lc_11 {L : Nat} {xs : Nat → Int32} {pos : Nat} {A : AT} {I : Nat → Nat → Int32} {R : RT} {a b c : Option Value} {q : Nat × Nat} {Z : az_T} (hL : L ≤ 3072) (hp : pos + 6 ≤ L) (hC : CR A I) (hM : MR A I) (hq : q.1 + 1 ≤ 603072 ∧ q.2 + 6 ≤ 7186538) (hZ : lwZ pos q Z) : LC_11 L xs Z (lwL pos a b c) [] q (K0, I, R) := by
  have hA := AV_of hC
  unfold LC_11
  refine r_la rfl (r_ar hL (by omega) (r_ar hL (by omega) (r_la rfl (⟨Nat.zero_le _, hq.1, hq.2, v_outage hC (fun I1 R1 c1 f1 o1 => ?_)⟩))))
  exact r_si (r_la rfl (r_ar hL (by omega) (r_ar hL (by omega) (⟨k_law.1, k_law.2.1, Nat.zero_le _, m_outage hA (MR_fr hA hM f1) (fun I2 m2 t2 f2 => r_tail t2 (Nat.le_trans bd_outage (by decide)) o1 (fun a b c => hZ _ _ _ _ _ _ _ (CR_fr c1 (fun q j z => f2 q j (Or.inl z))) m2 (Nat.le_refl _) (Nat.le_refl _)))⟩))))
theorem lc_12 {L : Nat} {xs : Nat → Int32} {pos : Nat} {A : AT} {I : Nat → Nat → Int32} {R : RT} {a b c : Option Value} {q : Nat × Nat} {Z : az_T} (hL : L ≤ 3072) (hp : pos + 6 ≤ L) (hC : CR A I) (hM : MR A I) (hq : q.1 + 1 ≤ 603072 ∧ q.2 + 6 ≤ 7186538) (hZ : lwZ pos q Z) : LC_12 L xs Z (lwL pos a b c) [] q (K0, I, R) := by
  have hA := AV_of hC
  unfold LC_12
  refine r_la rfl ⟨k_law.2.2.1, k_law.2.2.2.1, Nat.zero_le _, w_planByMerit hC (fun I1 c1 f1 => ?_)⟩
  refine r_la rfl ⟨k_law.1, k_law.2.1, (by decide : 1 ≤ 4), m_planByMerit hA (MR_fr hA hM f1) (fun I2 m2 t2 f2 => ?_)⟩
  exact ⟨fun _ => hZ _ _ _ _ _ _ _ (CR_fr c1 (fun q j z => f2 q j (Or.inl z))) m2 (Nat.le_succ _) (Nat.le_add_right _ _), fun z => (z rfl).elim⟩
theorem lc_13 {L : Nat} {xs : Nat → Int32} {pos : Nat} {A : AT} {I : Nat → Nat → Int32} {R : RT} {a b c : Option Value} {q : Nat × Nat} {Z : az_T} (hL : L ≤ 3072) (hp : pos + 6 ≤ L) (hC : CR A I) (hM : MR A I) (hq : q.1 + 1 ≤ 603072 ∧ q.2 + 6 ≤ 7186538) (hZ : lwZ pos q Z) : LC_13 L xs Z (lwL pos a b c) [] q (K0, I, R) := by
  have hA := AV_of hC
  unfold LC_13
  refine r_la rfl (r_la rfl (⟨Nat.zero_le _, hq.1, hq.2, v_search hC (fun I1 R1 c1 f1 o1 => ?_)⟩))
  exact r_si (r_la rfl (⟨k_law.1, k_law.2.1, Nat.zero_le _, m_search hA (MR_fr hA hM f1) (fun I2 m2 t2 f2 => r_tail t2 (Nat.le_trans bd_search (by decide)) o1 (fun a b c => hZ _ _ _ _ _ _ _ (CR_fr c1 (fun q j z => f2 q j (Or.inl z))) m2 (Nat.le_refl _) (Nat.le_refl _)))⟩))
theorem lc_14 {L : Nat} {xs : Nat → Int32} {pos : Nat} {A : AT} {I : Nat → Nat → Int32} {R : RT} {a b c : Option Value} {q : Nat × Nat} {Z : az_T} (hL : L ≤ 3072) (hp : pos + 6 ≤ L) (hC : CR A I) (hM : MR A I) (hq : q.1 + 1 ≤ 603072 ∧ q.2 + 6 ≤ 7186538) (hZ : lwZ pos q Z) : LC_14 L xs Z (lwL pos a b c) [] q (K0, I, R) := by
  have hA := AV_of hC
  unfold LC_14
  refine r_la rfl (r_ar hL (by omega) (r_un (r_la rfl (⟨Nat.zero_le _, hq.1, hq.2, v_append hC (fun I1 R1 c1 f1 o1 => ?_)⟩))))
  exact r_si (r_la rfl (r_ar hL (by omega) (r_un (⟨k_law.1, k_law.2.1, Nat.zero_le _, m_append hA (MR_fr hA hM f1) (fun I2 m2 t2 f2 => r_tail t2 (Nat.le_trans bd_append (by decide)) o1 (fun a b c => hZ _ _ _ _ _ _ _ (CR_fr c1 (fun q j z => f2 q j (Or.inl z))) m2 (Nat.le_refl _) (Nat.le_refl _)))⟩))))
theorem lc_15 {L : Nat} {xs : Nat → Int32} {pos : Nat} {A : AT} {I : Nat → Nat → Int32} {R : RT} {a b c : Option Value} {q : Nat × Nat} {Z : az_T} (hL : L ≤ 3072) (hp : pos + 6 ≤ L) (hC : CR A I) (hM : MR A I) (hq : q.1 + 1 ≤ 603072 ∧ q.2 + 6 ≤ 7186538) (hZ : lwZ pos q Z) : LC_15 L xs Z (lwL pos a b c) [] q (K0, I, R) := by
  have hA := AV_of hC
  unfold LC_15
  refine r_la rfl (r_la rfl (⟨Nat.zero_le _, hq.1, hq.2, v_readPlan hC (fun I1 R1 c1 f1 o1 => ?_)⟩))
  exact r_si (r_la rfl (⟨k_law.1, k_law.2.1, Nat.zero_le _, m_readPlan hA (MR_fr hA hM f1) (fun I2 m2 t2 f2 => r_tail t2 (Nat.le_trans bd_readPlan (by decide)) o1 (fun a b c => hZ _ _ _ _ _ _ _ (CR_fr c1 (fun q j z => f2 q j (Or.inl z))) m2 (Nat.le_refl _) (Nat.le_refl _)))⟩))
theorem lc_16 {L : Nat} {xs : Nat → Int32} {pos : Nat} {A : AT} {I : Nat → Nat → Int32} {R : RT} {a b c : Option Value} {q : Nat × Nat} {Z : az_T} (hL : L ≤ 3072) (hp : pos + 6 ≤ L) (hC : CR A I) (hM : MR A I) (hq : q.1 + 1 ≤ 603072 ∧ q.2 + 6 ≤ 7186538) (hZ : lwZ pos q Z) : LC_16 L xs Z (lwL pos a b c) [] q (K0, I, R) := by
  have hA := AV_of hC
  unfold LC_16
  refine r_la rfl (r_la rfl (⟨Nat.zero_le _, hq.1, hq.2, v_errorPosition hC (fun I1 R1 c1 f1 o1 => ?_)⟩))
  exact r_si (r_la rfl (⟨k_law.1, k_law.2.1, Nat.zero_le _, m_errorPosition (MR_fr hA hM f1) (fun I2 m2 t2 f2 => r_tail t2 (Nat.le_trans bd_errorPosition (by decide)) o1 (fun a b c => hZ _ _ _ _ _ _ _ (CR_fr c1 (fun q j z => f2 q j (Or.inl z))) m2 (Nat.le_refl _) (Nat.le_refl _)))⟩))
theorem lc_17 {L : Nat} {xs : Nat → Int32} {pos : Nat} {A : AT} {I : Nat → Nat → Int32} {R : RT} {a b c : Option Value} {q : Nat × Nat} {Z : az_T} (hL : L ≤ 3072) (hp : pos + 6 ≤ L) (hC : CR A I) (hM : MR A I) (hq : q.1 + 1 ≤ 603072 ∧ q.2 + 6 ≤ 7186538) (hZ : lwZ pos q Z) : LC_17 L xs Z (lwL pos a b c) [] q (K0, I, R) := by
  have hA := AV_of hC
  unfold LC_17
  refine r_la rfl (r_ar hL (by omega) (r_ar hL (by omega) (r_ar hL (by omega) (r_la rfl (⟨Nat.zero_le _, hq.1, hq.2, v_output hC (fun I1 R1 c1 f1 o1 => ?_)⟩)))))
  exact r_si (r_la rfl (r_ar hL (by omega) (r_ar hL (by omega) (r_ar hL (by omega) (⟨k_law.1, k_law.2.1, Nat.zero_le _, m_output hA (MR_fr hA hM f1) (fun I2 m2 t2 f2 => r_tail t2 (Nat.le_trans bd_output (by decide)) o1 (fun a b c => hZ _ _ _ _ _ _ _ (CR_fr c1 (fun q j z => f2 q j (Or.inl z))) m2 (Nat.le_refl _) (Nat.le_refl _)))⟩)))))
theorem lc_18 {L : Nat} {xs : Nat → Int32} {pos : Nat} {A : AT} {I : Nat → Nat → Int32} {R : RT} {a b c : Option Value} {q : Nat × Nat} {Z : az_T} (hL : L ≤ 3072) (hp : pos + 6 ≤ L) (hC : CR A I) (hM : MR A I) (hq : q.1 + 1 ≤ 603072 ∧ q.2 + 6 ≤ 7186538) (hZ : lwZ pos q Z) : LC_18 L xs Z (lwL pos a b c) [] q (K0, I, R) := by
  have hA := AV_of hC
  unfold LC_18
  refine r_la rfl (r_ar hL (by omega) (r_ar hL (by omega) (r_ar hL (by omega) (r_la rfl (⟨Nat.zero_le _, hq.1, hq.2, v_delivered hC (fun I1 R1 c1 f1 o1 => ?_)⟩)))))
  exact r_si (r_la rfl (r_ar hL (by omega) (r_ar hL (by omega) (r_ar hL (by omega) (⟨k_law.1, k_law.2.1, Nat.zero_le _, m_delivered hA (MR_fr hA hM f1) (fun I2 m2 t2 f2 => r_tail t2 (Nat.le_trans bd_delivered (by decide)) o1 (fun a b c => hZ _ _ _ _ _ _ _ (CR_fr c1 (fun q j z => f2 q j (Or.inl z))) m2 (Nat.le_refl _) (Nat.le_refl _)))⟩)))))
theorem lc_19 {L : Nat} {xs : Nat → Int32} {pos : Nat} {A : AT} {I : Nat → Nat → Int32} {R : RT} {a b c : Option Value} {q : Nat × Nat} {Z : az_T} (hL : L ≤ 3072) (hp : pos + 6 ≤ L) (hC : CR A I) (hM : MR A I) (hq : q.1 + 1 ≤ 603072 ∧ q.2 + 6 ≤ 7186538) (hZ : lwZ pos q Z) : LC_19 L xs Z (lwL pos a b c) [] q (K0, I, R) := by
  have hA := AV_of hC
  unfold LC_19
  refine r_la rfl (r_ar hL (by omega) (r_ar hL (by omega) (r_ar hL (by omega) (r_la rfl (⟨Nat.zero_le _, hq.1, hq.2, v_bus hC (fun I1 R1 c1 f1 o1 => ?_)⟩)))))
  exact r_si (r_la rfl (r_ar hL (by omega) (r_ar hL (by omega) (r_ar hL (by omega) (⟨k_law.1, k_law.2.1, Nat.zero_le _, m_bus hA (MR_fr hA hM f1) (fun I2 m2 t2 f2 => r_tail t2 (Nat.le_trans bd_bus (by decide)) o1 (fun a b c => hZ _ _ _ _ _ _ _ (CR_fr c1 (fun q j z => f2 q j (Or.inl z))) m2 (Nat.le_refl _) (Nat.le_refl _)))⟩)))))
theorem lc_20 {L : Nat} {xs : Nat → Int32} {pos : Nat} {A : AT} {I : Nat → Nat → Int32} {R : RT} {a b c : Option Value} {q : Nat × Nat} {Z : az_T} (hL : L ≤ 3072) (hp : pos + 6 ≤ L) (hC : CR A I) (hM : MR A I) (hq : q.1 + 1 ≤ 603072 ∧ q.2 + 6 ≤ 7186538) (hZ : lwZ pos q Z) : LC_20 L xs Z (lwL pos a b c) [] q (K0, I, R) := by
  have hA := AV_of hC
  unfold LC_20
  refine r_la rfl (r_ar hL (by omega) (r_ar hL (by omega) (r_la rfl (⟨Nat.zero_le _, hq.1, hq.2, v_hour hC (fun I1 R1 c1 f1 o1 => ?_)⟩))))
  exact r_si (r_la rfl (r_ar hL (by omega) (r_ar hL (by omega) (⟨k_law.1, k_law.2.1, Nat.zero_le _, m_hour hA (MR_fr hA hM f1) (fun I2 m2 t2 f2 => r_tail t2 (Nat.le_trans bd_hour (by decide)) o1 (fun a b c => hZ _ _ _ _ _ _ _ (CR_fr c1 (fun q j z => f2 q j (Or.inl z))) m2 (Nat.le_refl _) (Nat.le_refl _)))⟩))))
theorem lc_21 {L : Nat} {xs : Nat → Int32} {pos : Nat} {A : AT} {I : Nat → Nat → Int32} {R : RT} {a b c : Option Value} {q : Nat × Nat} {Z : az_T} (hL : L ≤ 3072) (hp : pos + 6 ≤ L) (hC : CR A I) (hM : MR A I) (hq : q.1 + 1 ≤ 603072 ∧ q.2 + 6 ≤ 7186538) (hZ : lwZ pos q Z) : LC_21 L xs Z (lwL pos a b c) [] q (K0, I, R) := by
  have hA := AV_of hC
  unfold LC_21
  refine r_la rfl (r_ar hL (by omega) (r_la rfl (⟨Nat.zero_le _, hq.1, hq.2, v_total hC (fun I1 R1 c1 f1 o1 => ?_)⟩)))
  exact r_si (r_la rfl (r_ar hL (by omega) (⟨k_law.1, k_law.2.1, Nat.zero_le _, m_total hA (MR_fr hA hM f1) (fun I2 m2 t2 f2 => r_tail t2 (Nat.le_trans bd_total (by decide)) o1 (fun a b c => hZ _ _ _ _ _ _ _ (CR_fr c1 (fun q j z => f2 q j (Or.inl z))) m2 (Nat.le_refl _) (Nat.le_refl _)))⟩)))
theorem lc_22 {L : Nat} {xs : Nat → Int32} {pos : Nat} {A : AT} {I : Nat → Nat → Int32} {R : RT} {a b c : Option Value} {q : Nat × Nat} {Z : az_T} (hL : L ≤ 3072) (hp : pos + 6 ≤ L) (hC : CR A I) (hM : MR A I) (hq : q.1 + 1 ≤ 603072 ∧ q.2 + 6 ≤ 7186538) (hZ : lwZ pos q Z) : LC_22 L xs Z (lwL pos a b c) [] q (K0, I, R) := by
  have hA := AV_of hC
  unfold LC_22
  refine r_la rfl (r_ar hL (by omega) (r_la rfl (⟨Nat.zero_le _, hq.1, hq.2, v_violationCount hC (fun I1 R1 c1 f1 o1 => ?_)⟩)))
  exact r_si (r_la rfl (r_ar hL (by omega) (⟨k_law.1, k_law.2.1, Nat.zero_le _, m_violationCount hA (MR_fr hA hM f1) (fun I2 m2 t2 f2 => r_tail t2 (Nat.le_trans bd_violationCount (by decide)) o1 (fun a b c => hZ _ _ _ _ _ _ _ (CR_fr c1 (fun q j z => f2 q j (Or.inl z))) m2 (Nat.le_refl _) (Nat.le_refl _)))⟩)))
theorem lc_23 {L : Nat} {xs : Nat → Int32} {pos : Nat} {A : AT} {I : Nat → Nat → Int32} {R : RT} {a b c : Option Value} {q : Nat × Nat} {Z : az_T} (hL : L ≤ 3072) (hp : pos + 6 ≤ L) (hC : CR A I) (hM : MR A I) (hq : q.1 + 1 ≤ 603072 ∧ q.2 + 6 ≤ 7186538) (hZ : lwZ pos q Z) : LC_23 L xs Z (lwL pos a b c) [] q (K0, I, R) := by
  have hA := AV_of hC
  unfold LC_23
  refine r_la rfl (r_ar hL (by omega) (r_ar hL (by omega) (r_la rfl (⟨Nat.zero_le _, hq.1, hq.2, v_violation hC (fun I1 R1 c1 f1 o1 => ?_)⟩))))
  exact r_si (r_la rfl (r_ar hL (by omega) (r_ar hL (by omega) (⟨k_law.1, k_law.2.1, Nat.zero_le _, m_violation hA (MR_fr hA hM f1) (fun I2 m2 t2 f2 => r_tail t2 (Nat.le_trans bd_violation (by decide)) o1 (fun a b c => hZ _ _ _ _ _ _ _ (CR_fr c1 (fun q j z => f2 q j (Or.inl z))) m2 (Nat.le_refl _) (Nat.le_refl _)))⟩))))
theorem lc_24 {L : Nat} {xs : Nat → Int32} {pos : Nat} {A : AT} {I : Nat → Nat → Int32} {R : RT} {a b c : Option Value} {q : Nat × Nat} {Z : az_T} (hL : L ≤ 3072) (hp : pos + 6 ≤ L) (hC : CR A I) (hM : MR A I) (hq : q.1 + 1 ≤ 603072 ∧ q.2 + 6 ≤ 7186538) (hZ : lwZ pos q Z) : LC_24 L xs Z (lwL pos a b c) [] q (K0, I, R) := by
  have hA := AV_of hC
  unfold LC_24
  have main : ∀ (k : Nat) (I1 : Nat → Nat → Int32) (R1 : RT) (x : UInt64), CR A I1 → (∀ q j, 353 < q → I1 q j = I q j) → (k = 0 → R1.2 379 0 = x ∧ vf_n64 x) → (mtS A.1 = 0 → k = 1 ∧ x = FP.dconst0) → (mtS A.1 ≠ 0 → k = 0 ∧ x = mnV A.1) → s_si 6 (s_la 2 (s_cv 0 13 FX12_meanCost (s_mean Z))) (lwL pos a b c) [.int (nI k)] (q.1 + 1, q.2 + 6) (K0, I1, R1) := by
    intro k I1 R1 x c1 f1 hx e1 e2
    have fin : ∀ I2, MR A I2 → I2 354 5 = nI k → (∀ q j, q < 354 ∨ 377 < q → I2 q j = I1 q j) → s_mean Z (lwL pos (some (.int (nI k))) b c) [.double x] (q.1 + 1, q.2 + 6) (K0, I2, R1) := by
      intro I2 m2 t2 f2
      refine ⟨rfl, rfl, k_law.1, k_law.2.1, rfl, nI k, rfl, e_thrown ⟨by rw [t2], fun z => ?_, ?_⟩⟩
      · have k0 : k = 0 := by
          rcases Nat.eq_zero_or_pos k with q | q
          · exact q
          · have : k ≤ 1 := by by_cases h : mtS A.1 = 0
                               · rw [(e1 h).1]; exact Nat.le_refl _
                               · rw [(e2 h).1]; exact Nat.zero_le _
            exact (nI_0_ne (by omega) (by omega) z).elim
        obtain ⟨x1, x2⟩ := hx k0
        exact ⟨k_law.2.2.2.2.2.2.1, by show (K0.2.1 379).1 = 24; rw [k_law.2.2.2.2.2.2.2], by show vp_in (nI 0) (K0.2.1 379).2; rw [k_law.2.2.2.2.2.2.2]; exact vp_in_nI (by decide) (by decide), x1, dc_self x2⟩
      · exact hZ _ _ _ _ _ _ _ (CR_fr c1 (fun q j z => f2 q j (Or.inl z))) m2 (Nat.le_refl _) (Nat.le_refl _)
    refine r_si (r_la rfl ⟨k_law.1, k_law.2.1, Nat.zero_le _, m_meanCost hA (MR_fr hA hM f1) (fun e I2 m2 t2 f2 => ?_) (fun e I2 m2 t2 f2 => ?_)⟩)
    · obtain ⟨rfl, rfl⟩ := e1 e
      exact fin I2 m2 t2 f2
    · obtain ⟨rfl, rfl⟩ := e2 e
      exact fin I2 m2 t2 f2
  refine r_la rfl (r_la rfl ⟨Nat.zero_le _, hq.1, hq.2, v_meanCost hC (fun e I1 c1 f1 => main 1 I1 R FP.dconst0 c1 f1 (fun z => absurd z (by decide)) (fun _ => ⟨rfl, rfl⟩) (fun z => absurd e z)) (fun e I1 c1 f1 => main 0 I1 (R.1, az_up R.2 379 0 (mnV A.1)) (mnV A.1) c1 f1 (fun _ => ⟨up_D, n64_div e⟩) (fun z => absurd z e) (fun _ => ⟨rfl, rfl⟩))⟩)
theorem lc_25 {L : Nat} {xs : Nat → Int32} {pos : Nat} {A : AT} {I : Nat → Nat → Int32} {R : RT} {a b c : Option Value} {q : Nat × Nat} {Z : az_T} (hL : L ≤ 3072) (hp : pos + 6 ≤ L) (hC : CR A I) (hM : MR A I) (hq : q.1 + 1 ≤ 603072 ∧ q.2 + 6 ≤ 7186538) (hZ : lwZ pos q Z) : LC_25 L xs Z (lwL pos a b c) [] q (K0, I, R) := by
  have hA := AV_of hC
  unfold LC_25
  have fin : ∀ (k : Nat) (I1 I2 : Nat → Nat → Int32) (R1 : RT) (x : UInt32), k ≤ 3 → CR A I1 → (k = 0 → R1.2 379 0 = FP.f2d x ∧ vf_n64 (FP.f2d x)) → MR A I2 → I2 354 5 = nI k → (∀ q j, q < 354 ∨ 377 < q → I2 q j = I1 q j) → lt_tailF Z (lwL pos (some (.int (nI k))) b c) [.float x] (q.1 + 1, q.2 + 6) (K0, I2, R1) := by
    intro k I1 I2 R1 x hk c1 hx m2 t2 f2
    exact r_tailF t2 hk hx (fun a b c => hZ _ _ _ _ _ _ _ (CR_fr c1 (fun q j z => f2 q j (Or.inl z))) m2 (Nat.le_refl _) (Nat.le_refl _))
  refine r_la rfl (r_ar hL (by omega) (r_la rfl ⟨Nat.zero_le _, hq.1, hq.2, v_load hC (fun e => ?_) (fun e1 e2 I1 c1 f1 => ?_) (fun e1 e2 I1 c1 f1 hn => ?_)⟩))
  · refine r_si (r_la rfl (r_ar hL (by omega) ⟨k_law.1, k_law.2.1, Nat.zero_le _, m_load hA hM (fun _ I2 m2 t2 f2 => fin 1 I I2 R _ (by decide) hC (fun z => absurd z (by decide)) m2 t2 f2) (fun z => absurd (z.symm.trans e) (by decide)) (fun z => absurd (z.symm.trans e) (by decide))⟩))
  · refine r_si (r_la rfl (r_ar hL (by omega) ⟨k_law.1, k_law.2.1, Nat.zero_le _, m_load hA (MR_fr hA hM f1) (fun z => absurd (z.symm.trans e1) (by decide)) (fun _ _ I2 m2 t2 f2 => fin 2 I1 I2 R _ (by decide) c1 (fun z => absurd z (by decide)) m2 t2 f2) (fun _ z => absurd e2 z)⟩))
  · refine r_si (r_la rfl (r_ar hL (by omega) ⟨k_law.1, k_law.2.1, Nat.zero_le _, m_load hA (MR_fr hA hM f1) (fun z => absurd (z.symm.trans e1) (by decide)) (fun _ z => absurd z e2) (fun _ _ I2 m2 t2 f2 => fin 0 I1 I2 (R.1, az_up R.2 379 0 (FP.f2d (ldV A.1 (iN (xs (pos + 1)))))) _ (by decide) c1 (fun _ => ⟨up_D, hn⟩) m2 t2 f2)⟩))
theorem lc_26 {L : Nat} {xs : Nat → Int32} {pos : Nat} {A : AT} {I : Nat → Nat → Int32} {R : RT} {a b c : Option Value} {q : Nat × Nat} {Z : az_T} (hL : L ≤ 3072) (hp : pos + 6 ≤ L) (hC : CR A I) (hM : MR A I) (hq : q.1 + 1 ≤ 603072 ∧ q.2 + 6 ≤ 7186538) (hZ : lwZ pos q Z) : LC_26 L xs Z (lwL pos a b c) [] q (K0, I, R) := by
  have hA := AV_of hC
  unfold LC_26
  refine r_la rfl ⟨k_law.2.2.1, k_law.2.2.2.1, Nat.zero_le _, w_isConsistent hC (fun I1 c1 f1 => ?_)⟩
  refine r_la rfl ⟨k_law.1, k_law.2.1, (by decide : 1 ≤ 4), m_isConsistent hA (MR_fr hA hM f1) (fun I2 m2 t2 f2 => ?_)⟩
  exact ⟨fun _ => hZ _ _ _ _ _ _ _ (CR_fr c1 (fun q j z => f2 q j (Or.inl z))) m2 (Nat.le_succ _) (Nat.le_add_right _ _), fun z => (z rfl).elim⟩
theorem lc_27 {L : Nat} {xs : Nat → Int32} {pos : Nat} {A : AT} {I : Nat → Nat → Int32} {R : RT} {a b c : Option Value} {q : Nat × Nat} {Z : az_T} (hL : L ≤ 3072) (hp : pos + 6 ≤ L) (hC : CR A I) (hM : MR A I) (hq : q.1 + 1 ≤ 603072 ∧ q.2 + 6 ≤ 7186538) (hZ : lwZ pos q Z) : LC_27 L xs Z (lwL pos a b c) [] q (K0, I, R) := by
  have hA := AV_of hC
  unfold LC_27
  refine r_la rfl (r_la rfl (⟨Nat.zero_le _, hq.1, hq.2, v_undo hC (fun I1 R1 c1 f1 o1 => ?_)⟩))
  exact r_si (r_la rfl (⟨k_law.1, k_law.2.1, Nat.zero_le _, m_undo hA (MR_fr hA hM f1) (fun I2 m2 t2 f2 => r_tail t2 (Nat.le_trans bd_undo (by decide)) o1 (fun a b c => hZ _ _ _ _ _ _ _ (CR_fr c1 (fun q j z => f2 q j (Or.inl z))) m2 (Nat.le_refl _) (Nat.le_refl _)))⟩))
theorem lc_28 {L : Nat} {xs : Nat → Int32} {pos : Nat} {A : AT} {I : Nat → Nat → Int32} {R : RT} {a b c : Option Value} {q : Nat × Nat} {Z : az_T} (hL : L ≤ 3072) (hp : pos + 6 ≤ L) (hC : CR A I) (hM : MR A I) (hq : q.1 + 1 ≤ 603072 ∧ q.2 + 6 ≤ 7186538) (hZ : lwZ pos q Z) : LC_28 L xs Z (lwL pos a b c) [] q (K0, I, R) := by
  have hA := AV_of hC
  unfold LC_28
  refine r_la rfl ⟨k_law.2.2.1, k_law.2.2.2.1, Nat.zero_le _, w_snapshot hC (fun I1 c1 f1 => ?_)⟩
  refine r_la rfl ⟨k_law.1, k_law.2.1, (by decide : 1 ≤ 4), m_snapshot hA (MR_fr hA hM f1) (fun I2 m2 t2 f2 => ?_)⟩
  exact ⟨fun _ => hZ _ _ _ _ _ _ _ (CR_fr c1 (fun q j z => f2 q j (Or.inl z))) m2 (Nat.le_succ _) (Nat.le_add_right _ _), fun z => (z rfl).elim⟩
theorem lc_29 {L : Nat} {xs : Nat → Int32} {pos : Nat} {A : AT} {I : Nat → Nat → Int32} {R : RT} {a b c : Option Value} {q : Nat × Nat} {Z : az_T} (hL : L ≤ 3072) (hp : pos + 6 ≤ L) (hC : CR A I) (hM : MR A I) (hq : q.1 + 1 ≤ 603072 ∧ q.2 + 6 ≤ 7186538) (hZ : lwZ pos q Z) : LC_29 L xs Z (lwL pos a b c) [] q (K0, I, R) := by
  have hA := AV_of hC
  unfold LC_29
  refine r_la rfl (r_la rfl (⟨Nat.zero_le _, hq.1, hq.2, v_restore hC (fun I1 R1 c1 f1 o1 => ?_)⟩))
  exact r_si (r_la rfl (⟨k_law.1, k_law.2.1, Nat.zero_le _, m_restore hA (MR_fr hA hM f1) (fun I2 m2 t2 f2 => r_tail t2 (Nat.le_trans bd_restore (by decide)) o1 (fun a b c => hZ _ _ _ _ _ _ _ (CR_fr c1 (fun q j z => f2 q j (Or.inl z))) m2 (Nat.le_refl _) (Nat.le_refl _)))⟩))
