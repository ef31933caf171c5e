set_option maxRecDepth 100000
set_option maxHeartbeats 2000000
/-! sorting and picking by an order: d x y: x is dearer than y -/
def WO (d : Nat → Nat → Bool) (n : Nat) : Prop := (∀ x y, x < n → y < n → d x y = true → d y x = false) ∧ ∀ x y z, x < n → y < n → z < n → d x z = true → d x y = true ∨ d y z = true
def befP (d : Nat → Nat → Bool) (x y : Nat) : Prop := d y x = true ∨ (d x y = false ∧ x < y)
theorem befP_asym {d : Nat → Nat → Bool} {n x y : Nat} (h : WO d n) (hx : x < n) (hy : y < n) (h1 : befP d x y) (h2 : befP d y x) : False := by
  rcases h1 with h1 | h1 <;> rcases h2 with h2 | h2
  · have := h.1 _ _ hy hx h1; rw [this] at h2; cases h2
  · rw [h1] at h2; cases h2.1
  · rw [h2] at h1; cases h1.1
  · omega
theorem insF_spec {d : Nat → Nat → Bool} {u : Nat} : ∀ (i : Nat) (f : Nat → Nat), ∃ p, p ≤ i ∧ (∀ j, j < p → insF d u i f j = f j) ∧ insF d u i f p = u ∧ (∀ j, p < j → j ≤ i → insF d u i f j = f (j - 1)) ∧ (p = 0 ∨ d (f (p - 1)) u = false) ∧ ∀ j, p ≤ j → j < i → d (f j) u = true
  | 0, f => ⟨0, Nat.le_refl _, fun j z => absurd z (Nat.not_lt_zero _), by show nu f 0 u 0 = u; exact if_pos rfl, fun j z1 z2 => by omega, Or.inl rfl, fun j z1 z2 => by omega⟩
  | i + 1, f => by
    by_cases e : d (f i) u = true
    · obtain ⟨p, p1, p2, p3, p4, p5, p6⟩ := insF_spec (d := d) (u := u) i (nu f (i + 1) (f i))
      have hs : insF d u (i + 1) f = insF d u i (nu f (i + 1) (f i)) := by
        show (if d (f i) u = true then _ else _) = _
        rw [if_pos e]
      have hn : ∀ j, j ≤ i → nu f (i + 1) (f i) j = f j := fun j hj => if_neg (by omega)
      have hout : ∀ (i : Nat) (f : Nat → Nat) (j : Nat), i < j → insF d u i f j = f j := by
        intro i
        induction i with
        | zero => intro f j hj; exact if_neg (by omega)
        | succ i ih =>
          intro f j hj
          show (if d (f i) u = true then insF d u i (nu f (i + 1) (f i)) else nu f (i + 1) u) j = f j
          split
          · rw [ih _ j (by omega)]; exact if_neg (by omega)
          · exact if_neg (by omega)
      refine ⟨p, by omega, fun j hj => ?_, ?_, fun j z1 z2 => ?_, ?_, fun j z1 z2 => ?_⟩
      · rw [hs, p2 j hj, hn j (by omega)]
      · rw [hs, p3]
      · rw [hs]
        by_cases ej : j = i + 1
        · rw [ej, hout _ _ _ (by omega)]; exact if_pos rfl
        · rw [p4 j z1 (by omega), hn _ (by omega)]
      · rcases p5 with q | q
        · exact Or.inl q
        · by_cases q0 : p = 0
          · exact Or.inl q0
          · rw [hn _ (by omega)] at q; exact Or.inr q
      · by_cases ej : j = i
        · rw [ej]; exact e
        · have := p6 j z1 (by omega)
          rw [hn _ (by omega)] at this; exact this
    · have hs : insF d u (i + 1) f = nu f (i + 1) u := by
        show (if d (f i) u = true then _ else _) = _
        rw [if_neg e]
      refine ⟨i + 1, Nat.le_refl _, fun j hj => ?_, ?_, fun j z1 z2 => by omega, Or.inr ?_, fun j z1 z2 => by omega⟩
      · rw [hs]; exact if_neg (by omega)
      · rw [hs]; exact if_pos rfl
      · rw [show i + 1 - 1 = i by omega]; simpa using e
/-- a sorted order of the numbers below n -/
def SO (d : Nat → Nat → Bool) (n : Nat) (f : Nat → Nat) : Prop := (∀ i, i < n → f i < n) ∧ (∀ u, u < n → ∃ i, i < n ∧ f i = u) ∧ ∀ i j, i < j → j < n → befP d (f i) (f j)
theorem SO_ord {d : Nat → Nat → Bool} {N : Nat} (h : WO d N) : ∀ n, n ≤ N → SO d n (ordF d n)
  | 0, _ => ⟨fun i hi => absurd hi (Nat.not_lt_zero _), fun i hi => absurd hi (Nat.not_lt_zero _), fun i j _ hi => absurd hi (Nat.not_lt_zero _)⟩
  | n + 1, hn => by
    obtain ⟨s1, s2, s3⟩ := SO_ord h n (by omega)
    obtain ⟨p, p1, p2, p3, p4, p5, p6⟩ := insF_spec (d := d) (u := n) n (ordF d n)
    have hs : ordF d (n + 1) = insF d n n (ordF d n) := rfl
    rw [hs]
    have lo : ∀ j, j < p → befP d (ordF d n j) n := by
      intro j hj
      have q0 : p ≠ 0 := by omega
      have q := p5.resolve_left q0
      have hjn := s1 j (by omega)
      have hpn := s1 (p - 1) (by omega)
      right
      refine ⟨?_, hjn⟩
      cases hc : d (ordF d n j) n
      · rfl
      · exfalso
        rcases h.2 _ (ordF d n (p - 1)) _ (by omega) (by omega) (by omega) hc with r | r
        · by_cases ej : j = p - 1
          · rw [ej] at r
            have := h.1 _ _ (show ordF d n (p - 1) < N by omega) (show ordF d n (p - 1) < N by omega) r
            rw [this] at r; cases r
          · rcases s3 j (p - 1) (by omega) (by omega) with t | t
            · have := h.1 _ _ (by omega) (by omega) t
              rw [this] at r; cases r
            · rw [t.1] at r; cases r
        · rw [q] at r; cases r
    refine ⟨fun i hi => ?_, fun u hu => ?_, fun i j hij hj => ?_⟩
    · rcases Nat.lt_trichotomy i p with c | c | c
      · rw [p2 i c]; have := s1 i (by omega); omega
      · rw [c, p3]; omega
      · rw [p4 i c (by omega)]; have := s1 (i - 1) (by omega); omega
    · by_cases eu : u = n
      · exact ⟨p, by omega, by rw [p3, eu]⟩
      · obtain ⟨i, hi, e⟩ := s2 u (by omega)
        rcases Nat.lt_or_ge i p with c | c
        · exact ⟨i, by omega, by rw [p2 i c, e]⟩
        · exact ⟨i + 1, by omega, by rw [p4 (i + 1) (by omega) (by omega), show i + 1 - 1 = i by omega, e]⟩
    · rcases Nat.lt_trichotomy j p with c | c | c
      · rw [p2 i (by omega), p2 j c]; exact s3 i j hij (by omega)
      · rw [c, p3, p2 i (by omega)]; exact lo i (by omega)
      · rw [p4 j c (by omega)]
        rcases Nat.lt_trichotomy i p with c2 | c2 | c2
        · rw [p2 i c2]
          exact s3 i (j - 1) (by omega) (by omega)
        · rw [c2, p3]
          exact Or.inl (p6 (j - 1) (by omega) (by omega))
        · rw [p4 i c2 (by omega)]; exact s3 (i - 1) (j - 1) (by omega) (by omega)
/-- the pick of the least one that is not served -/
def selN (d : Nat → Nat → Bool) (sv : Nat → Bool) : Nat → Option Nat
  | 0 => none
  | u + 1 => if sv u = true then selN d sv u else match selN d sv u with
    | none => some u
    | some p => if d p u = true then some u else some p
theorem selN_spec {d : Nat → Nat → Bool} {sv : Nat → Bool} {N : Nat} (h : WO d N) : ∀ n, n ≤ N → (∀ p, selN d sv n = some p → p < n ∧ sv p = false ∧ ∀ v, v < n → sv v = false → v ≠ p → befP d p v) ∧ (selN d sv n = none → ∀ v, v < n → sv v = true)
  | 0, _ => ⟨fun p hp => (by cases hp), fun _ v hv => absurd hv (Nat.not_lt_zero _)⟩
  | u + 1, hn => by
    obtain ⟨i1, i2⟩ := selN_spec (sv := sv) h u (by omega)
    have hst : selN d sv (u + 1) = if sv u = true then selN d sv u else match selN d sv u with
      | none => some u
      | some p => if d p u = true then some u else some p := rfl
    rw [hst]
    by_cases es : sv u = true
    · rw [if_pos es]
      refine ⟨fun p hp => ?_, fun hp v hv => ?_⟩
      · obtain ⟨a, b, c⟩ := i1 p hp
        refine ⟨by omega, b, fun v hv h1 h2 => ?_⟩
        by_cases ev : v = u
        · rw [ev, es] at h1; cases h1
        · exact c v (by omega) h1 h2
      · by_cases ev : v = u
        · rw [ev]; exact es
        · exact i2 hp v (by omega)
    · rw [if_neg es]
      have esf : sv u = false := by simpa using es
      cases hq : selN d sv u with
      | none =>
        refine ⟨fun p hp => ?_, fun hp => by cases hp⟩
        cases hp
        refine ⟨by omega, esf, fun v hv h1 h2 => ?_⟩
        rw [i2 hq v (by omega)] at h1; cases h1
      | some q =>
        obtain ⟨a, b, c⟩ := i1 q hq
        dsimp only
        by_cases ed : d q u = true
        · rw [if_pos ed]
          refine ⟨fun p hp => ?_, fun hp => by cases hp⟩
          cases hp
          refine ⟨by omega, esf, fun v hv h1 h2 => ?_⟩
          by_cases evq : v = q
          · rw [evq]; exact Or.inl ed
          · have hb := c v (by omega) h1 evq
            have hnd : d q v = false := by
              rcases hb with t | t
              · exact h.1 _ _ (by omega) (by omega) t
              · exact t.1
            rcases h.2 q v u (by omega) (by omega) (by omega) ed with t | t
            · rw [hnd] at t; cases t
            · exact Or.inl t
        · rw [if_neg ed]
          refine ⟨fun p hp => ?_, fun hp => by cases hp⟩
          cases hp
          refine ⟨by omega, b, fun v hv h1 h2 => ?_⟩
          by_cases ev : v = u
          · rw [ev]; exact Or.inr ⟨by simpa using ed, a⟩
          · exact c v (by omega) h1 h2
/-- who is still to be served: those that run, from place i of the order on -/
def SV (ord : Nat → Nat) (run : Nat → Bool) (U i : Nat) (sv : Nat → Bool) : Prop := ∀ v, v < U → (sv v = false ↔ run v = true ∧ ∃ j, i ≤ j ∧ j < U ∧ ord j = v)
theorem sel_step {d : Nat → Nat → Bool} {ord : Nat → Nat} {run sv : Nat → Bool} {U i : Nat} (h : WO d U) (hO : SO d U ord) (hs : SV ord run U i sv) :
    (selN d sv U = none ∧ ∀ j, i ≤ j → j < U → run (ord j) = false) ∨ ∃ j, i ≤ j ∧ j < U ∧ selN d sv U = some (ord j) ∧ run (ord j) = true ∧ (∀ k, i ≤ k → k < j → run (ord k) = false) ∧ SV ord run U (j + 1) (fun v => if v = ord j then true else sv v) := by
  obtain ⟨n1, n2⟩ := selN_spec (sv := sv) h U (Nat.le_refl _)
  obtain ⟨o1, o2, o3⟩ := hO
  have inj : ∀ a b, a < U → b < U → ord a = ord b → a = b := by
    intro a b ha hb e
    rcases Nat.lt_trichotomy a b with c | c | c
    · have := o3 a b c hb; rw [e] at this; exact (befP_asym h (o1 b hb) (o1 b hb) this this).elim
    · exact c
    · have := o3 b a c ha; rw [e] at this; exact (befP_asym h (o1 b hb) (o1 b hb) this this).elim
  cases hq : selN d sv U with
  | none =>
    refine Or.inl ⟨rfl, fun j h1 h2 => ?_⟩
    have hall := n2 hq (ord j) (o1 j h2)
    cases hr : run (ord j)
    · rfl
    · have := (hs (ord j) (o1 j h2)).mpr ⟨hr, j, h1, h2, rfl⟩
      rw [hall] at this; cases this
  | some p =>
    obtain ⟨a, b, c⟩ := n1 p hq
    obtain ⟨hr, j, j1, j2, j3⟩ := (hs p a).mp b
    refine Or.inr ⟨j, j1, j2, by rw [j3], by rw [j3]; exact hr, fun k k1 k2 => ?_, fun v hv => ?_⟩
    · cases hr2 : run (ord k)
      · rfl
      · have hsv := (hs (ord k) (o1 k (by omega))).mpr ⟨hr2, k, k1, by omega, rfl⟩
        have hne : ord k ≠ p := fun z => by have := inj k j (by omega) j2 (z.trans j3.symm); omega
        have h1 := c (ord k) (o1 k (by omega)) hsv hne
        have h2 := o3 k j k2 j2
        rw [j3] at h2
        exact (befP_asym h a (o1 k (by omega)) h1 h2).elim
    · rw [j3]
      show (if v = p then true else sv v) = false ↔ _
      by_cases ev : v = p
      · rw [if_pos ev]
        refine ⟨fun z => (by cases z), fun ⟨z1, k, z2, z3, z4⟩ => ?_⟩
        have := inj k j z3 j2 (by rw [z4, ev, j3])
        omega
      · rw [if_neg ev, hs v hv]
        constructor
        · rintro ⟨z1, k, z2, z3, z4⟩
          refine ⟨z1, k, ?_, z3, z4⟩
          rcases Nat.lt_trichotomy k j with q | q | q
          · exfalso
            have hsv := (hs (ord k) (o1 k z3)).mpr ⟨by rw [z4]; exact z1, k, z2, z3, rfl⟩
            have hne : ord k ≠ p := fun z => by have := inj k j z3 j2 (z.trans j3.symm); omega
            have h1 := c (ord k) (o1 k z3) hsv hne
            have h2 := o3 k j q j2
            rw [j3] at h2
            exact befP_asym h a (o1 k z3) h1 h2
          · rw [q] at z4; exact absurd (z4.symm.trans j3) ev
          · omega
        · rintro ⟨z1, k, z2, z3, z4⟩
          exact ⟨z1, k, by omega, z3, z4⟩
theorem WO_cost {S : PS} {n : Nat} : WO (drB S false) n := by
  have e : ∀ x y, drB S false x y = decide ((pT S y 12).toInt < (pT S x 12).toInt) := fun x y => decide_eq_decide.mpr (iff_of_eq lt_T)
  refine ⟨fun x y _ _ h => ?_, fun x y z _ _ _ h => ?_⟩
  · rw [e, decide_eq_true_eq] at h
    rw [e, decide_eq_false_iff_not]; omega
  · rw [e, decide_eq_true_eq] at h
    rw [e, e, decide_eq_true_eq, decide_eq_true_eq]; omega
theorem WO_mean {S : PS} (hV : VS S) : WO (drB S true) (pU S) := by
  have e : ∀ x y, x < pU S → y < pU S → drB S true x y = decide (((pT S y 12).toInt * (pT S y 10).toInt + (pT S y 0).toInt) * (pT S x 10).toInt < ((pT S x 12).toInt * (pT S x 10).toInt + (pT S x 0).toInt) * (pT S y 10).toInt) := by
    intro x y hx hy
    have bd : ∀ u v, u < pU S → v < pU S → ((pT S u 12 * pT S u 10 + pT S u 0) * pT S v 10).toInt = ((pT S u 12).toInt * (pT S u 10).toInt + (pT S u 0).toInt) * (pT S v 10).toInt := by
      intro u v hu hv
      obtain ⟨-, b0, -, -, -, -, -, -, -, -, -, b10, -, -, b12, -⟩ := hV.2.2.2.2.2.1 u hu
      obtain ⟨-, -, -, -, -, -, -, -, -, -, -, c10, -, -, -, -⟩ := hV.2.2.2.2.2.1 v hv
      unfold inI at b0 b10 b12 c10
      have h1 : 0 ≤ (pT S u 12).toInt * (pT S u 10).toInt := Int.mul_nonneg (by omega) (by omega)
      have h2 : (pT S u 12).toInt * (pT S u 10).toInt ≤ 100 * 500 := Int.mul_le_mul (by omega) (by omega) (by omega) (by omega)
      have t1 : (pT S u 12 * pT S u 10).toInt = (pT S u 12).toInt * (pT S u 10).toInt := tI_mul (by omega)
      have t2 : (pT S u 12 * pT S u 10 + pT S u 0).toInt = (pT S u 12).toInt * (pT S u 10).toInt + (pT S u 0).toInt := by rw [tI_add (by rw [t1]; omega), t1]
      have h3 : 0 ≤ ((pT S u 12).toInt * (pT S u 10).toInt + (pT S u 0).toInt) * (pT S v 10).toInt := Int.mul_nonneg (by omega) (by omega)
      have h4 : ((pT S u 12).toInt * (pT S u 10).toInt + (pT S u 0).toInt) * (pT S v 10).toInt ≤ 60000 * 500 := Int.mul_le_mul (by omega) (by omega) (by omega) (by omega)
      rw [tI_mul (by rw [t2]; omega), t2]
    refine decide_eq_decide.mpr ?_
    rw [lt_T, bd y x hy hx, bd x y hx hy]
  have gp : ∀ u, u < pU S → 1 ≤ (pT S u 10).toInt := fun u hu => (hV.2.2.2.2.2.1 u hu).2.2.2.2.2.2.2.2.2.2.2.1.1
  refine ⟨fun x y hx hy h => ?_, fun x y z hx hy hz h => ?_⟩
  · rw [e x y hx hy, decide_eq_true_eq] at h
    rw [e y x hy hx, decide_eq_false_iff_not]; omega
  · rw [e x z hx hz, decide_eq_true_eq] at h
    rw [e x y hx hy, e y z hy hz, decide_eq_true_eq, decide_eq_true_eq]
    have g1 := gp x hx
    have g2 := gp y hy
    have g3 := gp z hz
    generalize (pT S x 12).toInt * (pT S x 10).toInt + (pT S x 0).toInt = ax at *
    generalize (pT S y 12).toInt * (pT S y 10).toInt + (pT S y 0).toInt = ay at *
    generalize (pT S z 12).toInt * (pT S z 10).toInt + (pT S z 0).toInt = az at *
    generalize (pT S x 10).toInt = gx at *
    generalize (pT S y 10).toInt = gy at *
    generalize (pT S z 10).toInt = gz at *
    apply Classical.byContradiction
    intro hn
    have n1 : ax * gy ≤ ay * gx := Int.not_lt.mp (fun t => hn (Or.inl t))
    have n2 : ay * gz ≤ az * gy := Int.not_lt.mp (fun t => hn (Or.inr t))
    have m1 := Int.mul_le_mul_of_nonneg_right n1 (show (0 : Int) ≤ gz by omega)
    have m2 := Int.mul_le_mul_of_nonneg_right n2 (show (0 : Int) ≤ gx by omega)
    have m3 := Int.mul_lt_mul_of_pos_right h (show (0 : Int) < gy by omega)
    have e1 : ax * gy * gz = ax * gz * gy := by rw [Int.mul_assoc, Int.mul_comm gy gz, ← Int.mul_assoc]
    have e2 : ay * gx * gz = ay * gz * gx := by rw [Int.mul_assoc, Int.mul_comm gx gz, ← Int.mul_assoc]
    have e3 : az * gy * gx = az * gx * gy := by rw [Int.mul_assoc, Int.mul_comm gy gx, ← Int.mul_assoc]
    omega
