set_option maxRecDepth 100000
set_option maxHeartbeats 2000000
/-- a loop in which all may change -/
theorem lp_all {F : az_T → az_T} (Inv : Nat → List (Option Value) → Nat × Nat → az_M → Prop)
    (hs : ∀ n l q M, Inv n l q M → ∀ Z : az_T, (∀ m l' q' M', m < n → Inv m l' q' M' → Z l' [] q' M') → F Z l [] q M) {n : Nat} {l : List (Option Value)} {q : Nat × Nat} {M : az_M} (h : Inv n l q M) : s_lp F l [] q M := by
  have go : ∀ n m l q M, m ≤ n → Inv m l q M → (Nat.rec (motive := fun _ => az_T) (fun _ _ _ _ => False) (fun _ P => F P) (n + 1) : az_T) l [] q M := by
    intro n
    induction n with
    | zero => exact fun m l q M hm hI => hs m l q M hI _ (fun m' l' q' M' h1 _ => absurd h1 (by omega))
    | succ n ih => exact fun m l q M hm hI => hs m l q M hI _ (fun m' l' q' M' h1 h2 => ih m' l' q' M' (by omega) h2)
  exact ⟨n + 1, go n n l q M (Nat.le_refl _) h⟩
theorem rfP_swap {m a b t u : Nat} {pd : List (Nat × Nat)} (h : a ≠ b) : rfP m ((a, t) :: (b, u) :: pd) = rfP m ((b, u) :: (a, t) :: pd) := by
  funext c i
  unfold rfP
  by_cases e1 : c = a
  · rw [e1, lk_s, lk_n h, lk_s]
  · by_cases e2 : c = b
    · rw [e2, lk_s, lk_n (fun z => h z.symm), lk_s]
    · rw [lk_n e1, lk_n e2, lk_n e2, lk_n e1]
theorem zrF_fr {a : Nat} {I I' : Nat → Nat → Int32} {R : RT} (h : zrF (a + 1) I R) (f : ∀ q j, (q < a ∨ a + 22 < q) → I' q j = I q j) : zrF (a + 23) I' R := ⟨fun q j z => by rw [f q j (by omega)]; exact h.1 q j (by omega), fun q j z => h.2.1 q j (by omega), fun q j z => h.2.2 q j (by omega)⟩
theorem st_gr {m ci a b j : Nat} {pd : List (Nat × Nat)} {P : az_T} {ls : List (Option Value)} {st : List Value} {k : Nat × Nat} {I : Nat → Nat → Int32} {R : RT} (ha : a < m) (s1 : (K0.2.1 a).1 = ci) (h : rfP m pd a j = some b) (kk : P ls (.ref b :: st) k (KP m pd, I, R)) : s_gr ci j P ls (.ref a :: st) k (KP m pd, I, R) := by
  unfold s_gr
  refine ⟨ha, s1, ?_⟩
  show (match rfP m pd a j with
    | some b => P ls (.ref b :: st) k (KP m pd, I, R)
    | none => False)
  rw [h]
  exact kk
theorem st_ast {m a v i N : Nat} {pd : List (Nat × Nat)} {P : az_T} {ls : List (Option Value)} {st : List Value} {k : Nat × Nat} {I : Nat → Nat → Int32} {R : RT} (ha : a < m) (hv : v < m) (s1 : K0.2.1 a = (26, N)) (s2 : (K0.2.1 v).1 = 9) (hi : i < N) (hN : N < 1000) (h : K0.2.2 a i = some v) (kk : P ls st k (KP m ((a, i + 1) :: pd), I, R)) : s_ast P ls (.ref v :: .int (nI i) :: .ref a :: st) k (KP m ((a, i) :: pd), I, R) := by
  unfold s_ast
  refine ⟨ha, hv, by show (K0.2.1 a).1 = 26; rw [s1], s2, ?_, ?_⟩
  · show vp_in (nI i) (K0.2.1 a).2
    rw [s1]; exact vp_in_nI hi (by omega)
  · show P ls st k ((m, K0.2.1, az_up (rfP m ((a, i) :: pd)) a (nI i).toNatClampNeg (some v)), I, R)
    rw [nI_clamp (by omega), kp_set ha h]
    exact kk
theorem k_h48 : ∀ i, i < 8 → K0.2.2 48 i = some (49 + 23 * i) := by decide +kernel
theorem i_History {I : Nat → Nat → Int32} {R : RT} {pd : List (Nat × Nat)} {Q : Option Value → az_M → Prop} (hp : pdO 47 pd) (hc : clP 48 ((47, 0) :: pd)) (hz : zrF 48 I R) (hQ : ∀ I', (I' 47 1 = nI 0 ∧ I' 47 2 = nI 0) → (∀ q j, (q < 47 ∨ 232 < q) → I' q j = I q j) → clP 233 pd → Q none (KP 233 pd, I', R)) : FX2_init [.ref 47] (KP 48 ((47, 0) :: pd), I, R) Q := by
  refine ⟨rfl, ?_⟩
  show PX2_init 48 Q [some (.ref 47), none] [] (0, 0) (KP 48 ((47, 0) :: pd), I, R)
  unfold PX2_init
  refine ⟨show 0 ≤ 4 by decide, ?_⟩
  have c1 : (nI 8).toNatClampNeg = 8 := nI_clamp (by omega)
  have hrl : az_rl 48 [some (.ref 47), none] [.ref 47] := rl_B (by decide)
  have x0 := clP_new hc
  have es : rfP 49 ((48, 0) :: (47, 0) :: pd) = rfP 49 ((47, 0) :: (48, 0) :: pd) := rfP_swap (by decide)
  have x1 : clP 49 ((47, 0) :: (48, 0) :: pd) := by intro a j b q1 q2; rw [← es] at q2; exact x0 a j b q1 q2
  have x2 := clP_setS (t := 0) (j := 0) (b := 48) x1 (by decide) (by decide) (by decide) (by decide +kernel) (by decide +kernel)
  have hl7 : ((48, 0) :: pd).lookup 47 = none := by rw [lk_n (by decide)]; exact hp 47 (Nat.le_refl _)
  have dn : ∀ j, j < 40 → 1 ≤ j → K0.2.2 47 j = none := by decide +kernel
  have x3 : clP 49 ((48, 0) :: pd) := clP_done hl7 dn x2
  have ed : rfP 49 ((47, 1) :: (48, 0) :: pd) = rfP 49 ((48, 0) :: pd) := kp_doneB hl7 dn
  show s_anq 48 185 2064 _ [some (.ref 47), none] [.int (nI 8), .ref 47] (0, 0) (KP 48 ((47, 0) :: pd), I, R)
  refine ⟨⟨show 48 ≤ 48 by decide, show 48 < 1000 by decide⟩, hc, hrl, by rw [c1]; exact (by decide +kernel : K0.2.1 48 = (26, 8)), nI_pos (by omega), by rw [c1]; decide, fun j => (rfP_out (m := 48) (b := 48) (Nat.le_refl _) : rfP 48 ((47, 0) :: pd) 48 j = none), by decide, by rw [c1]; decide, ?_⟩
  rw [c1]
  show s_pr 4 0 _ [some (.ref 47), none] [.ref 48, .ref 47] (1, 8) ((49, K0.2.1, rfP 48 ((47, 0) :: pd)), I, R)
  rw [kp_new, es]
  refine st_prS (a := 47) (b := 48) (j := 0) (t := 0) (by decide) (by decide +kernel) (by decide) (by decide +kernel) (by decide +kernel) ?_
  refine ⟨show 47 < 49 by decide, show (K0.2.1 47).1 = 4 by decide +kernel, ?_⟩
  refine ⟨show 47 < 49 by decide, show (K0.2.1 47).1 = 4 by decide +kernel, ?_⟩
  show LX2_init_25 48 Q [some (.ref 47), some (.int (nI 0))] [] (1, 8) ((49, K0.2.1, rfP 49 ((47, 1) :: (48, 0) :: pd)), az_up (az_up I 47 1 (nI 0)) 47 2 (nI 0), R)
  rw [ed]
  unfold LX2_init_25
  refine lp_all (fun n l q M => ∃ i J, n = 8 - i ∧ i ≤ 8 ∧ l = [some (.ref 47), some (.int (nI i))] ∧ q = (1 + 23 * i, 8 + 257 * i) ∧ M = (KP (49 + 23 * i) ((48, i) :: pd), J, R) ∧ zrF (49 + 23 * i) J R ∧ clP (49 + 23 * i) ((48, i) :: pd) ∧ (J 47 1 = nI 0 ∧ J 47 2 = nI 0) ∧ ∀ q j, (q < 47 ∨ 232 < q) → J q j = I q j) ?_ (n := 8) ⟨0, _, rfl, by decide, rfl, rfl, rfl, ?_, x3, ⟨?_, ?_⟩, fun q j z => ?_⟩
  · rintro n l q M ⟨i, J, hn, hi, rfl, rfl, rfl, zJ, cJ, gJ, fJ⟩ Z hZ
    have hpi : ∀ m t, 49 ≤ m → pdO m ((48, t) :: pd) := fun m t hm => pdO_cons (pdO_up hp (by omega)) (by omega)
    by_cases e : i = 8
    · subst e
      have c8 : nI 8 ≤ nI 8 := Int32.le_refl _
      have hd : (nI 8 ≤ nI 8) = True := eq_true c8
      unfold BX2_init_25
      refine ⟨fun _ => ?_, fun z => absurd c8 (by first | exact z | simpa using z)⟩
      have dn8 : ∀ j, j < 40 → 8 ≤ j → K0.2.2 48 j = none := by decide +kernel
      exact st_rv (m := 233) (hp 48 (by decide)) dn8 (hQ J gJ fJ (clP_done (hp 48 (by decide)) dn8 cJ))
    · have hi8 : i < 8 := by omega
      have hng : ¬ nI 8 ≤ nI i := by rw [nIle ⟨by omega, by omega⟩]; omega
      have kc := k_cr i hi8
      unfold BX2_init_25
      refine ⟨fun z => absurd (by first | exact z | simpa using z) hng, fun _ => ?_⟩
      have r47 : rfP (49 + 23 * i) ((48, i) :: pd) 47 0 = some 48 := by
        rw [rfP_in (by omega) (by rw [lk_n (by decide)]; exact hp 47 (Nat.le_refl _))]; decide +kernel
      refine st_gr (a := 47) (b := 48) (by omega) (by decide +kernel) r47 ?_
      have rl1 : ∀ m st, 49 ≤ m → (∀ v ∈ st, az_lt m v) → az_rl m [some (.ref 47), some (.int (nI i))] st := fun m st hm hs => ⟨fun v hv => by
        rcases List.mem_cons.mp hv with h | h
        · cases h; exact Or.inl (show 47 < m by omega)
        · cases List.mem_singleton.mp h; trivial, hs⟩
      refine st_new (m := 49 + 23 * i) (by omega) (by omega) cJ (rl1 _ _ (by omega) (fun v hv => by
        rcases List.mem_cons.mp hv with h | h
        · cases h; trivial
        · cases List.mem_singleton.mp h; exact Or.inl (show 48 < 49 + 23 * i by omega))) zJ (by rw [kc.1.1]) (by show 1 + 23 * i + 1 ≤ 185; omega) (by show 8 + 257 * i + 11 ≤ 2064; omega) ?_
      refine st_ci (m := 49 + 23 * i + 1) (b := 49 + 23 * i) (by omega) (by omega) (by rw [kc.1.1]) (show 3 ≤ 4 by decide) (rl1 _ _ (by omega) (fun v hv => by
        rcases List.mem_cons.mp hv with h | h
        · cases h; exact Or.inl (show 49 + 23 * i < 49 + 23 * i + 1 by omega)
        · rcases List.mem_cons.mp h with h | h
          · cases h; trivial
          · cases List.mem_singleton.mp h; exact Or.inl (show 48 < 49 + 23 * i + 1 by omega))) (by show 1 + 23 * i + 1 + 22 ≤ 185; omega) (by show 8 + 257 * i + 11 + 246 ≤ 2064; omega) ?_
      refine i_State (a := 49 + 23 * i) kc (by omega) (hpi _ _ (by omega)) (clP_new cJ) (zrF_up zJ (by omega)) (fun J2 f1 f2 f3 => ?_)
      refine st_ast (m := 49 + 23 * i + 23) (a := 48) (v := 49 + 23 * i) (N := 8) (by omega) (by omega) (by decide +kernel) (by rw [kc.1.1]) hi8 (by decide) (k_h48 i hi8) ?_
      have e1 : nI i + nI 1 = nI (i + 1) := nIadd i 1
      show Z [some (.ref 47), some (.int (nI i + nI 1))] [] (1 + 23 * i + 1 + 22, 8 + 257 * i + 11 + 246) (KP (49 + 23 * i + 23) ((48, i + 1) :: pd), J2, R)
      rw [e1]
      have em : 49 + 23 * i + 23 = 49 + 23 * (i + 1) := by omega
      rw [em]
      refine hZ (8 - (i + 1)) _ _ _ (by omega) ⟨i + 1, J2, rfl, by omega, rfl, ?_, rfl, ?_, ?_, ⟨?_, ?_⟩, fun q j z => ?_⟩
      · rw [show 1 + 23 * i + 1 + 22 = 1 + 23 * (i + 1) by omega, show 8 + 257 * i + 11 + 246 = 8 + 257 * (i + 1) by omega]
      · rw [← em]; exact zrF_fr (zrF_up zJ (by omega)) f2
      · rw [← em]; exact clP_set f3 (by omega) (by omega) (k_h48 i hi8)
      · rw [f2 _ _ (by omega)]; exact gJ.1
      · rw [f2 _ _ (by omega)]; exact gJ.2
      · rw [f2 _ _ (by omega)]; exact fJ q j z
  · exact zrF_w (zrF_w (zrF_up hz (by decide)) (by decide)) (by decide)
  · rw [upN (by omega), upS ⟨rfl, rfl⟩]
  · rw [upS ⟨rfl, rfl⟩]
  · rw [upN (by omega), upN (by omega)]
