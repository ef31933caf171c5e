set_option maxRecDepth 100000
set_option maxHeartbeats 4000000
/-! bounds of what an hour tells -/
theorem SO_inj {d : Nat → Nat → Bool} {U : Nat} {ord : Nat → Nat} (h : WO d U) (hO : SO d U ord) {a b : Nat} (ha : a < U) (hb : b < U) (e : ord a = ord b) : a = b := by
  obtain ⟨o1, o2, o3⟩ := hO
  rcases Nat.lt_trichotomy a b with c | c | c
  · have := o3 a b c hb; rw [e] at this; exact (befP_asym h (o1 b hb) (o1 b hb) this this).elim
  · exact c
  · have := o3 b a c ha; rw [e] at this; exact (befP_asym h (o1 b hb) (o1 b hb) this this).elim
theorem lim_ok {S : PS} (hV : VS S) {u : Nat} {ub : Bool} {pv : Int32} (hu : u < pU S) (hp : ub = true → (pT S u 9).toInt ≤ pv.toInt ∧ pv.toInt ≤ (pT S u 10).toInt) : (pT S u 9).toInt ≤ (loF S u true ub pv).toInt ∧ (loF S u true ub pv).toInt ≤ (hiF S u true ub pv).toInt ∧ (hiF S u true ub pv).toInt ≤ (pT S u 10).toInt := by
  obtain ⟨-, -, -, -, -, -, -, -, -, -, b9, b10, b13, b11, -, -⟩ := hV.2.2.2.2.2.1 u hu
  unfold inI at b9 b10 b11
  unfold loF hiF
  rw [if_pos rfl, if_pos rfl]
  cases ub
  · rw [if_neg (by decide), if_neg (by decide), mn_T, mx_T]
    refine ⟨by omega, ?_, ?_⟩ <;> split <;> split <;> omega
  · obtain ⟨p1, p2⟩ := hp rfl
    rw [if_pos rfl, if_pos rfl, mn_T, mx_T, tI_sub (by omega), tI_add (by omega)]
    refine ⟨?_, ?_, ?_⟩ <;> split <;> (try split) <;> omega
theorem l2_ok {S : PS} (hV : VS S) {run : Nat → Bool} {lo hi : Nat → Int32} {e : ET} (hlh : ∀ u, u < pU S → run u = true → 0 ≤ (lo u).toInt ∧ (lo u).toInt ≤ (hi u).toInt) (hI : IE S e) : ∀ n, n ≤ pU S → ∀ u, u < pU S → (run u = true → (lo u).toInt ≤ ((l2F S (oFd S) run lo hi e n).2 u).toInt ∧ ((l2F S (oFd S) run lo hi e n).2 u).toInt ≤ (hi u).toInt) ∧ (run u = false → (l2F S (oFd S) run lo hi e n).2 u = nI 0) ∧ ((∀ j, j < n → oFd S j ≠ u) → run u = true → (l2F S (oFd S) run lo hi e n).2 u = lo u)
  | 0, _, u, hu => by
    show (run u = true → (lo u).toInt ≤ (if run u = true then lo u else nI 0).toInt ∧ (if run u = true then lo u else nI 0).toInt ≤ (hi u).toInt) ∧ (run u = false → (if run u = true then lo u else nI 0) = nI 0) ∧ ((∀ j, j < 0 → oFd S j ≠ u) → run u = true → (if run u = true then lo u else nI 0) = lo u)
    refine ⟨fun r => ?_, fun r => ?_, fun _ r => ?_⟩
    · rw [if_pos r]; exact ⟨Int.le_refl _, (hlh u hu r).2⟩
    · rw [if_neg (by rw [r]; decide)]
    · rw [if_pos r]
  | n + 1, hn, u, hu => by
    have hSO : SO (drB S false) (pU S) (oFd S) := SO_ord (N := pU S) WO_cost (pU S) (Nat.le_refl _)
    have hWO : WO (drB S false) (pU S) := WO_cost
    have ih := l2_ok hV (lo := lo) (hi := hi) hlh hI n (by omega)
    have hsub : ∀ u, u < pU S → run u = true → 0 ≤ (hi u - lo u).toInt := fun u hu r => by
      have b1 := Int32.toInt_lt (hi u)
      have := hlh u hu r
      rw [tI_sub (by omega)]; omega
    have hie := IE_l2 hV (ord := oFd S) hSO.1 hsub hI n (by omega)
    have hst : l2F S (oFd S) run lo hi e (n + 1) = l2S S (oFd S n) (run (oFd S n)) (hi (oFd S n) - lo (oFd S n)) (l2F S (oFd S) run lo hi e n) := rfl
    rw [hst]
    have hon := hSO.1 n (by omega)
    unfold l2S
    by_cases er : run (oFd S n) = true
    · rw [if_pos er]
      show (run u = true → (lo u).toInt ≤ (va_up (l2F S (oFd S) run lo hi e n).2 (oFd S n) _ u).toInt ∧ (va_up (l2F S (oFd S) run lo hi e n).2 (oFd S n) _ u).toInt ≤ (hi u).toInt) ∧ (run u = false → va_up (l2F S (oFd S) run lo hi e n).2 (oFd S n) _ u = nI 0) ∧ ((∀ j, j < n + 1 → oFd S j ≠ u) → run u = true → va_up (l2F S (oFd S) run lo hi e n).2 (oFd S n) _ u = lo u)
      unfold va_up
      by_cases eu : u = oFd S n
      · rw [if_pos eu]
        have hnew := (ih (oFd S n) hon).2.2 (fun j hj z => by have := SO_inj hWO hSO (by omega) (by omega) z; omega) er
        rw [hnew]
        have hx := hsub _ hon er
        have hd := (eDel_T hV hon hx hie).2
        have hl := hlh _ hon er
        have b1 := Int32.toInt_lt (hi (oFd S n))
        rw [tI_sub (x := hi (oFd S n)) (y := lo (oFd S n)) (by omega)] at hx hd
        have key : (lo (oFd S n) + (hi (oFd S n) - lo (oFd S n) - (eDel S (oFd S n) (hi (oFd S n) - lo (oFd S n)) (l2F S (oFd S) run lo hi e n).1).1)).toInt = (hi (oFd S n)).toInt - (eDel S (oFd S n) (hi (oFd S n) - lo (oFd S n)) (l2F S (oFd S) run lo hi e n).1).1.toInt := by
          have t1 : (hi (oFd S n) - lo (oFd S n)).toInt = (hi (oFd S n)).toInt - (lo (oFd S n)).toInt := tI_sub (by omega)
          have t2 := tI_sub (x := hi (oFd S n) - lo (oFd S n)) (y := (eDel S (oFd S n) (hi (oFd S n) - lo (oFd S n)) (l2F S (oFd S) run lo hi e n).1).1) (by rw [t1]; omega)
          rw [tI_add (by rw [t2, t1]; omega), t2, t1]; omega
        refine ⟨fun r => ?_, fun r => ?_, fun hj => absurd eu.symm (hj n (Nat.lt_succ_self n))⟩
        · rw [key, eu]; omega
        · rw [eu, er] at r; cases r
      · rw [if_neg eu]
        obtain ⟨i1, i2, i3⟩ := ih u hu
        exact ⟨i1, i2, fun hj r => i3 (fun j hj2 => hj j (by omega)) r⟩
    · rw [if_neg er]
      obtain ⟨i1, i2, i3⟩ := ih u hu
      exact ⟨i1, i2, fun hj r => i3 (fun j hj2 => hj j (by omega)) r⟩
/-- the output before lies in its limits, where the unit ran -/
theorem pv_ok {S : PS} (hV : VS S) {rn : Nat → Int32} : ∀ h, h < 24 → ∀ u, u < pU S → decide (0 < tmU S rn h u) = true → (pT S u 9).toInt ≤ (pvS S (oFd S) rn h u).toInt ∧ (pvS S (oFd S) rn h u).toInt ≤ (pT S u 10).toInt
  | 0, _, u, hu, hr => by
    rw [tmU_0, decide_eq_true_eq, lt_T, tI_0] at hr
    show (pT S u 9).toInt ≤ (pT S u 7).toInt ∧ (pT S u 7).toInt ≤ (pT S u 10).toInt
    rcases (hV.2.2.2.2.2.1 u hu).2.2.2.2.2.2.2.2.2.1 with q | q
    · exact q.2
    · omega
  | h + 1, hh, u, hu, hr => by
    have ih := pv_ok hV (rn := rn) h (by omega)
    rw [tmU_pos hV hu (by omega)] at hr
    show (pT S u 9).toInt ≤ ((hrS S (oFd S) rn h).2.2.1 u).toInt ∧ ((hrS S (oFd S) rn h).2.2.1 u).toInt ≤ (pT S u 10).toInt
    rw [hrS_eq]
    have lim := fun v (hv : v < pU S) => lim_ok hV (ub := decide (0 < tmU S rn h v)) hv (ih v hv)
    have h9 := fun v (hv : v < pU S) => (hV.2.2.2.2.2.1 v hv).2.2.2.2.2.2.2.2.2.2.1.1
    have hlh : ∀ v, v < pU S → (fun u => bt (rn h) u) v = true → 0 ≤ ((fun u => loF S u (bt (rn h) u) (decide (0 < tmU S rn h u)) (pvS S (oFd S) rn h u)) v).toInt ∧ ((fun u => loF S u (bt (rn h) u) (decide (0 < tmU S rn h u)) (pvS S (oFd S) rn h u)) v).toInt ≤ ((fun u => hiF S u (bt (rn h) u) (decide (0 < tmU S rn h u)) (pvS S (oFd S) rn h u)) v).toInt := by
      intro v hv hr
      have hr' : bt (rn h) v = true := hr
      dsimp only
      rw [hr']
      have := lim v hv
      have := h9 v hv
      omega
    have hie := IE_l1 hV (h := h) (fun v hv hr => (hlh v hv hr).1) (pU S) (Nat.le_refl _)
    have := (l2_ok hV hlh hie (pU S) (Nat.le_refl _) u hu).1 hr
    have l := lim u hu
    rw [hr] at this
    show (pT S u 9).toInt ≤ ((hrF S (oFd S) h (rn h) (fun u => decide (0 < tmU S rn h u)) (fun u => tmR S rn h u) (pvS S (oFd S) rn h)).2.2.1 u).toInt ∧ _
    unfold hrF
    dsimp only
    omega
/-- the limits of a unit that runs -/
theorem lh_ok {S : PS} (hV : VS S) {rn : Nat → Int32} {h u : Nat} (hh : h < 24) (hu : u < pU S) : 0 ≤ (loF S u true (decide (0 < tmU S rn h u)) (pvS S (oFd S) rn h u)).toInt ∧ (loF S u true (decide (0 < tmU S rn h u)) (pvS S (oFd S) rn h u)).toInt ≤ (hiF S u true (decide (0 < tmU S rn h u)) (pvS S (oFd S) rn h u)).toInt ∧ (hiF S u true (decide (0 < tmU S rn h u)) (pvS S (oFd S) rn h u)).toInt ≤ 500 := by
  have l := lim_ok hV (ub := decide (0 < tmU S rn h u)) hu (pv_ok hV (rn := rn) h hh u hu)
  obtain ⟨-, -, -, -, -, -, -, -, -, -, b9, b10, -, -, -, -⟩ := hV.2.2.2.2.2.1 u hu
  unfold inI at b9 b10
  omega
theorem sI_bd {f : Nat → Int32} {M : Int} (hM : 0 ≤ M) (hM2 : M ≤ 100000000) : ∀ {n : Nat}, n ≤ 20 → (∀ u, u < n → 0 ≤ (f u).toInt ∧ (f u).toInt ≤ M) → 0 ≤ (sI f n).toInt ∧ (sI f n).toInt ≤ n * M
  | 0, _, _ => by
    show 0 ≤ (0 : Int32).toInt ∧ (0 : Int32).toInt ≤ _
    rw [tI_0]; omega
  | n + 1, hn, h => by
    have ih := sI_bd hM hM2 (n := n) (by omega) (fun u hu => h u (by omega))
    have hu := h n (by omega)
    show 0 ≤ (sI f n + f n).toInt ∧ (sI f n + f n).toInt ≤ _
    have hc : ((n + 1 : Nat) : Int) * M = (n : Int) * M + M := by rw [Int.natCast_succ, Int.add_mul, Int.one_mul]
    have hb : (n : Int) * M ≤ 20 * 100000000 := Int.mul_le_mul (by omega) hM2 hM (by omega)
    rw [hc, tI_add (by omega)]; omega
/-- unmet demand never grows -/
theorem um_le {S : PS} (hV : VS S) {d : DT} {a : Nat} (ha : a < pB S) (hI : IV S d) : ∀ n, n ≤ pB S → ∀ c, c < pB S → ((dIt S a d n).2.1 c).toInt ≤ (d.2.1 c).toInt := by
  have give : ∀ d : DT, IV S d → ∀ b, b < pB S → ∀ c, c < pB S → ((dGive S a b d).2.1 c).toInt ≤ (d.2.1 c).toInt := by
    intro d hI b hb c hc
    obtain ⟨q1, q2, q3, -⟩ := amt_T hV ha hb hI
    have b1 := Int32.toInt_lt (d.2.1 b)
    show (va_up d.2.1 b (d.2.1 b - gAmt S d.2.1 d.2.2.1 a b d.1) c).toInt ≤ _
    unfold va_up
    by_cases e : c = b
    · rw [if_pos e, e, tI_sub (by omega)]; omega
    · rw [if_neg e]; exact Int.le_refl _
  intro n
  induction n with
  | zero => intro _ c hc; exact give d hI a ha c hc
  | succ n ih =>
    intro hn c hc
    have i := ih (by omega) c hc
    have hi := IV_it hV ha hI n (by omega)
    show ((dStep S a n (dIt S a d n)).2.1 c).toInt ≤ _
    unfold dStep
    split
    · have := give _ hi n (by omega) c hc; omega
    · exact i
theorem um_l1 {S : PS} (hV : VS S) {h : Nat} {run : Nat → Bool} {lo : Nat → Int32} (hlo : ∀ u, u < pU S → run u = true → 0 ≤ (lo u).toInt) : ∀ n, n ≤ pU S → ∀ c, c < pB S → ((l1F S h run lo n).1.1 c).toInt ≤ 500
  | 0, _, c, hc => (hV.2.2.2.2.2.2.2.1 c h).2
  | n + 1, hn, c, hc => by
    have ih := um_l1 hV (h := h) hlo n (by omega) c hc
    have hie := IE_l1 hV (h := h) hlo n (by omega)
    have hst : l1F S h run lo (n + 1) = l1S S n (run n) (lo n) (l1F S h run lo n) := rfl
    rw [hst]
    unfold l1S
    split
    · rename_i hr
      have hbu := (hV.2.2.2.2.2.1 n (by omega)).1
      have := um_le hV hbu (d := (lo n, (l1F S h run lo n).1.1, (l1F S h run lo n).1.2.1, fun c => (l1F S h run lo n).1.2.2 (4 * n + c))) ⟨hlo n (by omega) hr, hie.1, hie.2⟩ (pB S) (Nat.le_refl _) c hc
      exact Int.le_trans this ih
    · exact ih
theorem um_l2 {S : PS} (hV : VS S) {ord : Nat → Nat} {run : Nat → Bool} {lo hi : Nat → Int32} {e : ET} (hor : ∀ i, i < pU S → ord i < pU S) (hlo : ∀ u, u < pU S → run u = true → 0 ≤ (hi u - lo u).toInt) (hI : IE S e) (h5 : ∀ c, c < pB S → (e.1 c).toInt ≤ 500) : ∀ n, n ≤ pU S → ∀ c, c < pB S → ((l2F S ord run lo hi e n).1.1 c).toInt ≤ 500
  | 0, _, c, hc => h5 c hc
  | n + 1, hn, c, hc => by
    have ih := um_l2 hV (ord := ord) hor hlo hI h5 n (by omega) c hc
    have hie := IE_l2 hV (ord := ord) hor hlo hI n (by omega)
    have hst : l2F S ord run lo hi e (n + 1) = l2S S (ord n) (run (ord n)) (hi (ord n) - lo (ord n)) (l2F S ord run lo hi e n) := rfl
    rw [hst]
    unfold l2S
    split
    · rename_i hr
      have hbu := (hV.2.2.2.2.2.1 (ord n) (hor n (by omega))).1
      have := um_le hV hbu (d := (hi (ord n) - lo (ord n), (l2F S ord run lo hi e n).1.1, (l2F S ord run lo hi e n).1.2.1, fun c => (l2F S ord run lo hi e n).1.2.2 (4 * ord n + c))) ⟨hlo _ (hor n (by omega)) hr, hie.1, hie.2⟩ (pB S) (Nat.le_refl _) c hc
      exact Int.le_trans this ih
    · exact ih
/-- the costs of an hour: from 0 up, and far from the machine's end -/
theorem cst_ok {S : PS} (hV : VS S) {rn : Nat → Int32} {h : Nat} (hh : h < 24) : 0 ≤ (cstF S (oFd S) rn h).toInt ∧ (cstF S (oFd S) rn h).toInt ≤ 4000000 := by
  have hU := hV.2.2.2.1
  have hB := hV.2.1.2
  have hSO : SO (drB S false) (pU S) (oFd S) := SO_ord (N := pU S) WO_cost (pU S) (Nat.le_refl _)
  unfold cstF
  rw [hrS_eq]
  have hlh : ∀ v, v < pU S → (fun u => bt (rn h) u) v = true → 0 ≤ ((fun u => loF S u (bt (rn h) u) (decide (0 < tmU S rn h u)) (pvS S (oFd S) rn h u)) v).toInt ∧ ((fun u => loF S u (bt (rn h) u) (decide (0 < tmU S rn h u)) (pvS S (oFd S) rn h u)) v).toInt ≤ ((fun u => hiF S u (bt (rn h) u) (decide (0 < tmU S rn h u)) (pvS S (oFd S) rn h u)) v).toInt := by
    intro v hv hr
    have hr' : bt (rn h) v = true := hr
    dsimp only
    rw [hr']
    have := lh_ok hV (rn := rn) hh hv
    omega
  have hh5 : ∀ v, v < pU S → (fun u => bt (rn h) u) v = true → ((fun u => hiF S u (bt (rn h) u) (decide (0 < tmU S rn h u)) (pvS S (oFd S) rn h u)) v).toInt ≤ 500 := by
    intro v hv hr
    have hr' : bt (rn h) v = true := hr
    dsimp only
    rw [hr']
    exact (lh_ok hV (rn := rn) hh hv).2.2
  unfold hrF
  dsimp only
  generalize (fun u => loF S u (bt (rn h) u) (decide (0 < tmU S rn h u)) (pvS S (oFd S) rn h u)) = lo at hlh ⊢
  generalize (fun u => hiF S u (bt (rn h) u) (decide (0 < tmU S rn h u)) (pvS S (oFd S) rn h u)) = hi at hlh hh5 ⊢
  have hsub : ∀ u, u < pU S → (fun u => bt (rn h) u) u = true → 0 ≤ (hi u - lo u).toInt := fun u hu r => by
    have b1 := Int32.toInt_lt (hi u)
    have := hlh u hu r
    rw [tI_sub (by omega)]; omega
  have hie := IE_l1 hV (h := h) (fun v hv hr => (hlh v hv hr).1) (pU S) (Nat.le_refl _)
  have hu5 := um_l1 hV (h := h) (fun v hv hr => (hlh v hv hr).1) (pU S) (Nat.le_refl _)
  have hou := l2_ok hV hlh hie (pU S) (Nat.le_refl _)
  have hie2 := IE_l2 hV (ord := oFd S) hSO.1 hsub hie (pU S) (Nat.le_refl _)
  have hum := um_l2 hV (ord := oFd S) hSO.1 hsub hie hu5 (pU S) (Nat.le_refl _)
  generalize l2F S (oFd S) (fun u => bt (rn h) u) lo hi (l1F S h (fun u => bt (rn h) u) lo (pU S)).1 (pU S) = s2 at *
  generalize (l1F S h (fun u => bt (rn h) u) lo (pU S)).2 = sp
  have part : ∀ k M, 0 ≤ M → M ≤ 100000000 → (∀ u, u < pU S → bt (rn h) u = true → 0 ≤ (sAdd S u (s2.2 u) (hi u) (sp u) (scF S u (bt (rn h) u) (decide (0 < tmU S rn h u)) (tmR S rn h u)) (decide (0 < tmU S rn h u)) k).toInt ∧ (sAdd S u (s2.2 u) (hi u) (sp u) (scF S u (bt (rn h) u) (decide (0 < tmU S rn h u)) (tmR S rn h u)) (decide (0 < tmU S rn h u)) k).toInt ≤ M) → 0 ≤ (suU S (fun u => bt (rn h) u) (fun u => decide (0 < tmU S rn h u)) s2.2 hi sp (fun u => scF S u (bt (rn h) u) (decide (0 < tmU S rn h u)) (tmR S rn h u)) k (pU S)).toInt ∧ (suU S (fun u => bt (rn h) u) (fun u => decide (0 < tmU S rn h u)) s2.2 hi sp (fun u => scF S u (bt (rn h) u) (decide (0 < tmU S rn h u)) (tmR S rn h u)) k (pU S)).toInt ≤ (pU S : Nat) * M := by
    intro k M m1 m2 hk
    refine sI_bd m1 m2 (by omega) (fun u hu => ?_)
    dsimp only
    by_cases r : bt (rn h) u = true
    · rw [if_pos r]; exact hk u hu r
    · rw [if_neg r, nI_0, tI_0]; omega
  have p8 := part 8 50000 (by omega) (by omega) (fun u hu r => by
    have ho := (hou u hu).1 r
    have hl := hlh u hu r
    have h5 := hh5 u hu r
    have hc := (hV.2.2.2.2.2.1 u hu).2.2.2.2.2.2.2.2.2.2.2.2.2.2.1
    unfold inI at hc
    show 0 ≤ (s2.2 u * pT S u 12).toInt ∧ (s2.2 u * pT S u 12).toInt ≤ 50000
    have h1 : 0 ≤ (s2.2 u).toInt * (pT S u 12).toInt := Int.mul_nonneg (by omega) (by omega)
    have h2 : (s2.2 u).toInt * (pT S u 12).toInt ≤ 500 * 100 := Int.mul_le_mul (by omega) (by omega) (by omega) (by omega)
    rw [tI_mul (by omega)]; omega)
  have p9 := part 9 10000 (by omega) (by omega) (fun u hu r => by
    have hc := (hV.2.2.2.2.2.1 u hu).2.1
    exact hc)
  have p10 := part 10 10000 (by omega) (by omega) (fun u hu r => by
    have c1 := (hV.2.2.2.2.2.1 u hu).2.2.1
    have c2 := (hV.2.2.2.2.2.1 u hu).2.2.2.1
    unfold inI at c1 c2
    show 0 ≤ (scF S u (bt (rn h) u) (decide (0 < tmU S rn h u)) (tmR S rn h u)).toInt ∧ (scF S u (bt (rn h) u) (decide (0 < tmU S rn h u)) (tmR S rn h u)).toInt ≤ 10000
    unfold scF
    rw [if_pos r]
    split
    · rw [nI_0, tI_0]; omega
    · split
      · exact c2
      · exact c1)
  have p2 := part 2 500 (by omega) (by omega) (fun u hu r => by
    have ho := (hou u hu).1 r
    have hl := hlh u hu r
    have h5 := hh5 u hu r
    show 0 ≤ (hi u - s2.2 u).toInt ∧ (hi u - s2.2 u).toInt ≤ 500
    rw [tI_sub (by omega)]; omega)
  have psh := sI_bd (f := s2.1.1) (M := 500) (by omega) (by omega) (n := pB S) (by omega) (fun c hc => ⟨hie2.1 c hc, hum c hc⟩)
  have hR := hV.2.2.2.2.2.2.2.2.1 h
  unfold inI at hR
  have hUi : ((pU S : Nat) : Int) ≤ 6 := by omega
  have hBi : ((pB S : Nat) : Int) ≤ 4 := by omega
  have u8 : ((pU S : Nat) : Int) * 50000 ≤ 300000 := by omega
  have u9 : ((pU S : Nat) : Int) * 10000 ≤ 60000 := by omega
  have u2 : ((pU S : Nat) : Int) * 500 ≤ 3000 := by omega
  have ub : ((pB S : Nat) : Int) * 500 ≤ 2000 := by omega
  unfold suF
  rw [if_pos rfl, if_neg (by decide), if_pos rfl]
  dsimp only
  generalize suU S (fun u => bt (rn h) u) (fun u => decide (0 < tmU S rn h u)) s2.2 hi sp (fun u => scF S u (bt (rn h) u) (decide (0 < tmU S rn h u)) (tmR S rn h u)) 8 (pU S) = x8 at *
  generalize suU S (fun u => bt (rn h) u) (fun u => decide (0 < tmU S rn h u)) s2.2 hi sp (fun u => scF S u (bt (rn h) u) (decide (0 < tmU S rn h u)) (tmR S rn h u)) 9 (pU S) = x9 at *
  generalize suU S (fun u => bt (rn h) u) (fun u => decide (0 < tmU S rn h u)) s2.2 hi sp (fun u => scF S u (bt (rn h) u) (decide (0 < tmU S rn h u)) (tmR S rn h u)) 10 (pU S) = x10 at *
  generalize suU S (fun u => bt (rn h) u) (fun u => decide (0 < tmU S rn h u)) s2.2 hi sp (fun u => scF S u (bt (rn h) u) (decide (0 < tmU S rn h u)) (tmR S rn h u)) 2 (pU S) = x2 at *
  generalize sI s2.1.1 (pB S) = xs at *
  have t1 : (x8 + x9).toInt = x8.toInt + x9.toInt := tI_add (by omega)
  have t2 : (x8 + x9 + x10).toInt = x8.toInt + x9.toInt + x10.toInt := by rw [tI_add (by rw [t1]; omega), t1]
  have n1000 : (nI 1000).toInt = 1000 := tI_n (by omega)
  have n200 : (nI 200).toInt = 200 := tI_n (by omega)
  have t3 : (nI 1000 * xs).toInt = 1000 * xs.toInt := by rw [tI_mul (by rw [n1000]; omega), n1000]
  have t4 : (mxI (pR S h - x2) (nI 0)).toInt = if (pR S h).toInt - x2.toInt < 0 then 0 else (pR S h).toInt - x2.toInt := by rw [mx_T, nI_0, tI_0, tI_sub (by omega)]
  have t5 : 0 ≤ (mxI (pR S h - x2) (nI 0)).toInt ∧ (mxI (pR S h - x2) (nI 0)).toInt ≤ 500 := by rw [t4]; split <;> omega
  have t6 : (nI 200 * mxI (pR S h - x2) (nI 0)).toInt = 200 * (mxI (pR S h - x2) (nI 0)).toInt := by rw [tI_mul (by rw [n200]; omega), n200]
  have t7 : (nI 1000 * xs + nI 200 * mxI (pR S h - x2) (nI 0)).toInt = 1000 * xs.toInt + 200 * (mxI (pR S h - x2) (nI 0)).toInt := by rw [tI_add (by rw [t3, t6]; omega), t3, t6]
  rw [tI_add (by rw [t2, t7]; omega), t2, t7]
  omega
theorem tot_ok {S : PS} (hV : VS S) {rn : Nat → Int32} : ∀ h, h < 24 → 0 ≤ (totF S (oFd S) rn h).toInt ∧ (totF S (oFd S) rn h).toInt ≤ (h + 1 : Nat) * 4000000
  | 0, hh => by have := cst_ok hV (rn := rn) hh; exact ⟨this.1, by show (cstF S (oFd S) rn 0).toInt ≤ _; omega⟩
  | h + 1, hh => by
    have ih := tot_ok hV (rn := rn) h (by omega)
    have c := cst_ok hV (rn := rn) hh
    show 0 ≤ (cstF S (oFd S) rn (h + 1) + totF S (oFd S) rn h).toInt ∧ (cstF S (oFd S) rn (h + 1) + totF S (oFd S) rn h).toInt ≤ _
    rw [tI_add (by omega)]; omega
theorem tot_up {S : PS} (hV : VS S) (rn : Nat → Int32) (k : Nat) (hk : k + 1 < pH S) : totF S (oFd S) rn k ≤ totF S (oFd S) rn (k + 1) := by
  have hH := hV.1.2
  have ih := tot_ok hV (rn := rn) k (by omega)
  have c := cst_ok hV (rn := rn) (show k + 1 < 24 by omega)
  rw [le_T]
  show _ ≤ (cstF S (oFd S) rn (k + 1) + totF S (oFd S) rn k).toInt
  rw [tI_add (by omega)]; omega
