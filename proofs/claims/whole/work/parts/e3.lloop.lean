set_option maxRecDepth 100000
/-! the law's loop -/
theorem lw_gt {L pos : Nat} (hL : L ≤ 3072) (hp : pos ≤ 3072) : d_gt (nI pos) (Int32.ofNat L - nI 6) ↔ L < pos + 6 := by
  have e1 : (Int32.ofNat L - nI 6).toInt = (L : Int) - 6 := by
    have := tI_sub (x := Int32.ofNat L) (y := nI 6) (by rw [show (Int32.ofNat L).toInt = (L : Int) from tI_n (by omega), tI_n (by decide)]; omega)
    rw [this, show (Int32.ofNat L).toInt = (L : Int) from tI_n (by omega), tI_n (by decide)]; rfl
  unfold d_gt
  rw [Int32.lt_iff_toInt_lt, e1, tI_n (by omega)]
  omega
theorem r_li {i : Nat} {x : Int32} {P : az_T} {ls : List (Option Value)} {st : List Value} {k : Nat × Nat} {M : az_M} (h : az_gl ls i = some (.int x)) (kk : P ls (.int x :: st) k M) : s_li i P ls st k M := by
  unfold s_li
  rw [h]
  exact kk
theorem r_sln {L : Nat} {P : az_T} {ls : List (Option Value)} {st : List Value} {k : Nat × Nat} {M : az_M} (kk : P ls (.int (Int32.ofNat L) :: st) k M) : s_sln L P ls (.ref 1000 :: st) k M := ⟨rfl, kk⟩
theorem r_bin {f : Int32 → Int32 → Int32} {x y : Int32} {P : az_T} {ls : List (Option Value)} {st : List Value} {k : Nat × Nat} {M : az_M} (kk : P ls (.int (f x y) :: st) k M) : s_bin f P ls (.int y :: .int x :: st) k M := kk
theorem r_if2 {c : Int32 → Int32 → Prop} {x y : Int32} {P P' : az_T} {ls : List (Option Value)} {st : List Value} {k : Nat × Nat} {M : az_M} (h1 : c x y → P ls st k M) (h2 : ¬ c x y → P' ls st k M) : s_if2 c P P' ls (.int y :: .int x :: st) k M := ⟨h1, h2⟩
theorem r_sx {L : Nat} {xs : Nat → Int32} {i : Int32} {P : az_T} {ls : List (Option Value)} {st : List Value} {k : Nat × Nat} {M : az_M} (hi : vp_in i L) (kk : P ls (.int (xs i.toNatClampNeg) :: st) k M) : s_sx L xs P ls (.int i :: .ref 1000 :: st) k M := ⟨rfl, hi, kk⟩
theorem r_sw {lo : Int} {x : Int32} {Ps : List az_T} {Pd : az_T} {ls : List (Option Value)} {st : List Value} {k : Nat × Nat} {M : az_M} (hd : Pd ls st k M) (h : ∀ P ∈ Ps, P ls st k M) : s_sw lo Ps Pd ls (.int x :: st) k M := ⟨fun _ => hd, fun i P hP _ => h P (List.mem_of_getElem? hP)⟩
theorem lw_out {L : Nat} {xs : Nat → Int32} {Q : Option Value → az_M → Prop} {pos : Nat} {a b c : Option Value} {q : Nat × Nat} {M : az_M} {Z : az_T} (hL : L ≤ 3072) (h : L < pos + 6) (hp : pos ≤ 3072) (hQ : Q (some (.int (nI 1))) M) : BL_28 L xs Q Z (lwL pos a b c) [] q M := by
  unfold BL_28
  exact r_li rfl (r_la rfl (r_sln (r_ic (r_bin (r_if2 (fun _ => ⟨Or.inr rfl, hQ⟩) (fun z => (z ((lw_gt hL hp).mpr h)).elim))))))
theorem lw_in {L : Nat} {xs : Nat → Int32} {Q : Option Value → az_M → Prop} {pos : Nat} {A : AT} {I : Nat → Nat → Int32} {R : RT} {a b c : Option Value} {q : Nat × Nat} {Z : az_T} (hL : L ≤ 3072) (hp : pos + 6 ≤ L) (hC : CR A I) (hM : MR A I) (hq : q.1 + 1 ≤ 603072 ∧ q.2 + 6 ≤ 7186538) (hZ : lwZ pos q (s_inc 5 (nI 6) (s_kp lw_mk Z))) : BL_28 L xs Q Z (lwL pos a b c) [] q (K0, I, R) := by
  unfold BL_28
  refine r_li rfl (r_la rfl (r_sln (r_ic (r_bin (r_if2 (fun z => absurd ((lw_gt hL (by omega)).mp z) (by omega)) (fun _ => r_la rfl (r_li rfl (r_sx (vp_in_nI (by omega) (by omega)) (r_ic (r_bin (r_sw ?_ ?_)))))))))))
  · exact hZ _ _ _ _ _ _ _ hC hM (Nat.le_succ _) (Nat.le_add_right _ _)
  · exact List.forall_mem_cons.mpr ⟨lc_0 hL hp hC hM hq hZ, List.forall_mem_cons.mpr ⟨lc_1 hL hp hC hM hq hZ, List.forall_mem_cons.mpr ⟨lc_2 hL hp hC hM hq hZ, List.forall_mem_cons.mpr ⟨lc_3 hL hp hC hM hq hZ, List.forall_mem_cons.mpr ⟨lc_4 hL hp hC hM hq hZ, List.forall_mem_cons.mpr ⟨lc_5 hL hp hC hM hq hZ, List.forall_mem_cons.mpr ⟨lc_6 hL hp hC hM hq hZ, List.forall_mem_cons.mpr ⟨lc_7 hL hp hC hM hq hZ, List.forall_mem_cons.mpr ⟨lc_8 hL hp hC hM hq hZ, List.forall_mem_cons.mpr ⟨lc_9 hL hp hC hM hq hZ, List.forall_mem_cons.mpr ⟨lc_10 hL hp hC hM hq hZ, List.forall_mem_cons.mpr ⟨lc_11 hL hp hC hM hq hZ, List.forall_mem_cons.mpr ⟨lc_12 hL hp hC hM hq hZ, List.forall_mem_cons.mpr ⟨lc_13 hL hp hC hM hq hZ, List.forall_mem_cons.mpr ⟨lc_14 hL hp hC hM hq hZ, List.forall_mem_cons.mpr ⟨lc_15 hL hp hC hM hq hZ, List.forall_mem_cons.mpr ⟨lc_16 hL hp hC hM hq hZ, List.forall_mem_cons.mpr ⟨lc_17 hL hp hC hM hq hZ, List.forall_mem_cons.mpr ⟨lc_18 hL hp hC hM hq hZ, List.forall_mem_cons.mpr ⟨lc_19 hL hp hC hM hq hZ, List.forall_mem_cons.mpr ⟨lc_20 hL hp hC hM hq hZ, List.forall_mem_cons.mpr ⟨lc_21 hL hp hC hM hq hZ, List.forall_mem_cons.mpr ⟨lc_22 hL hp hC hM hq hZ, List.forall_mem_cons.mpr ⟨lc_23 hL hp hC hM hq hZ, List.forall_mem_cons.mpr ⟨lc_24 hL hp hC hM hq hZ, List.forall_mem_cons.mpr ⟨lc_25 hL hp hC hM hq hZ, List.forall_mem_cons.mpr ⟨lc_26 hL hp hC hM hq hZ, List.forall_mem_cons.mpr ⟨lc_27 hL hp hC hM hq hZ, List.forall_mem_cons.mpr ⟨lc_28 hL hp hC hM hq hZ, List.forall_mem_cons.mpr ⟨lc_29 hL hp hC hM hq hZ, fun _ h => absurd h List.not_mem_nil⟩⟩⟩⟩⟩⟩⟩⟩⟩⟩⟩⟩⟩⟩⟩⟩⟩⟩⟩⟩⟩⟩⟩⟩⟩⟩⟩⟩⟩⟩
theorem lw_go {L : Nat} {xs : Nat → Int32} {Q : Option Value → az_M → Prop} (hL : L ≤ 3072) (hQ : ∀ M, Q (some (.int (nI 1))) M) : ∀ (n pos : Nat) (A : AT) (I : Nat → Nat → Int32) (R : RT) (a b c : Option Value) (q : Nat × Nat), L < pos + 6 * n + 6 → pos ≤ 3072 → CR A I → MR A I → q.1 + (3072 - pos) + 1 ≤ 603072 → q.2 + 6 * (3072 - pos) + 6 ≤ 7186538 → (Nat.rec (motive := fun _ => az_T) (fun _ _ _ _ => False) (fun _ P => BL_28 L xs Q P) (n + 1) : az_T) (lwL pos a b c) [] q (K0, I, R) := by
  intro n
  induction n with
  | zero =>
    intro pos A I R a b c q hn hp hC hM h1 h2
    exact lw_out hL (by omega) hp (hQ _)
  | succ n ih =>
    intro pos A I R a b c q hn hp hC hM h1 h2
    by_cases hpL : L < pos + 6
    · exact lw_out hL hpL hp (hQ _)
    · have hZ : lwZ pos q (s_inc 5 (nI 6) (s_kp lw_mk (Nat.rec (motive := fun _ => az_T) (fun _ _ _ _ => False) (fun _ P => BL_28 L xs Q P) (n + 1) : az_T))) := by
        intro A1 I1 R1 q1 a1 b1 c1 hC1 hM1 g1 g2
        have e1 : nI pos + nI 6 = nI (pos + 6) := nIadd _ _
        have e2 : az_kp lw_mk (az_sl (lwL pos a1 b1 c1) 5 (.int (nI pos + nI 6))) = lwL (pos + 6) none none none := by rw [e1]; rfl
        refine r_inc rfl (r_kp ?_)
        rw [e2]
        exact ih (pos + 6) A1 I1 R1 none none none q1 (by omega) (by omega) hC1 hM1 (by omega) (by omega)
      exact lw_in hL (by omega) hC hM ⟨by omega, by omega⟩ hZ
