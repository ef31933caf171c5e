set_option maxRecDepth 100000
set_option maxHeartbeats 1000000
/-! the skeleton while it is being made: m objects are there; of those in pd only the first t fields are set -/
def rfP (m : Nat) (pd : List (Nat × Nat)) : Nat → Nat → Option Nat := fun b j => if b < m then (match pd.lookup b with
  | some t => if j < t then K0.2.2 b j else none
  | none => K0.2.2 b j) else none
abbrev KP (m : Nat) (pd : List (Nat × Nat)) : KT := (m, K0.2.1, rfP m pd)
def pdO (m : Nat) (pd : List (Nat × Nat)) : Prop := ∀ k, m ≤ k → pd.lookup k = none
def clP (m : Nat) (pd : List (Nat × Nat)) : Prop := ∀ a j b, a < m → rfP m pd a j = some b → b < m
theorem pdO_cons {m a t : Nat} {pd : List (Nat × Nat)} (h : pdO m pd) (ha : a < m) : pdO m ((a, t) :: pd) := fun k hk => by
  rw [List.lookup_cons, show (k == a) = false by simp; omega]; exact h k hk
theorem pdO_up {m n : Nat} {pd : List (Nat × Nat)} (h : pdO m pd) (hn : m ≤ n) : pdO n pd := fun k hk => h k (by omega)
theorem rfP_out {m b j : Nat} {pd : List (Nat × Nat)} (h : m ≤ b) : rfP m pd b j = none := if_neg (by omega)
theorem lk_s {a t : Nat} {pd : List (Nat × Nat)} : ((a, t) :: pd).lookup a = some t := by rw [List.lookup_cons, show (a == a) = true by simp]
theorem lk_n {a b t : Nat} {pd : List (Nat × Nat)} (h : b ≠ a) : ((a, t) :: pd).lookup b = pd.lookup b := by rw [List.lookup_cons, show (b == a) = false by simpa using h]
/-- a row of numbers was made -/
theorem kp_row {m : Nat} {pd : List (Nat × Nat)} (hp : pdO m pd) (h : ∀ j, K0.2.2 m j = none) : rfP m pd = rfP (m + 1) pd := by
  funext b j
  unfold rfP
  by_cases e : b < m
  · rw [if_pos e, if_pos (by omega)]
  · rw [if_neg e]
    by_cases e2 : b = m
    · subst e2
      rw [if_pos (by omega), hp b (Nat.le_refl _)]
      exact (h j).symm
    · rw [if_neg (by omega)]
/-- an object was made -/
theorem kp_new {m : Nat} {pd : List (Nat × Nat)} : rfP m pd = rfP (m + 1) ((m, 0) :: pd) := by
  funext b j
  unfold rfP
  by_cases e : b < m
  · rw [if_pos e, if_pos (by omega), lk_n (by omega)]
  · rw [if_neg e]
    by_cases e2 : b = m
    · subst e2
      rw [if_pos (by omega), lk_s]
      show none = if j < 0 then _ else none
      rw [if_neg (Nat.not_lt_zero _)]
    · rw [if_neg (by omega)]
/-- a table was made -/
theorem kp_tab {m N : Nat} {pd : List (Nat × Nat)} (hp : pdO m pd) (h : ∀ j, K0.2.2 m j = if j < N then some (m + 1 + j) else none) (hr : ∀ i j, i < N → K0.2.2 (m + 1 + i) j = none) : (fun a j => if a = m then (if j < N then some (m + 1 + j) else none) else rfP m pd a j) = rfP (m + 1 + N) pd := by
  funext b j
  by_cases e2 : b = m
  · subst e2
    rw [if_pos rfl, ← h j]
    unfold rfP
    rw [if_pos (show b < b + 1 + N by omega), hp b (Nat.le_refl _)]
  · rw [if_neg e2]
    unfold rfP
    by_cases e : b < m
    · rw [if_pos e, if_pos (by omega)]
    · rw [if_neg e]
      by_cases e3 : b < m + 1 + N
      · rw [if_pos e3, hp b (by omega)]
        have := hr (b - (m + 1)) j (by omega)
        rw [show m + 1 + (b - (m + 1)) = b by omega] at this
        exact this.symm
      · rw [if_neg e3]
/-- a field was set -/
theorem kp_set {m a j b : Nat} {pd : List (Nat × Nat)} (ha : a < m) (h : K0.2.2 a j = some b) : az_up (rfP m ((a, j) :: pd)) a j (some b) = rfP m ((a, j + 1) :: pd) := by
  funext c i
  unfold az_up rfP
  by_cases e : c = a
  · subst e
    rw [if_pos ha, if_pos ha, lk_s, lk_s]
    dsimp only
    by_cases e2 : i = j
    · subst e2
      rw [if_pos ⟨rfl, rfl⟩, if_pos (Nat.lt_succ_self _), h]
    · rw [if_neg (fun z => e2 z.2)]
      by_cases e3 : i < j
      · rw [if_pos e3, if_pos (by omega)]
      · rw [if_neg e3, if_neg (by omega)]
  · rw [if_neg (fun z => e z.1), lk_n e, lk_n e]
/-- fields that hold no object -/
theorem kp_skip {m a t u : Nat} {pd : List (Nat × Nat)} (htu : t ≤ u) (h : ∀ j, t ≤ j → j < u → K0.2.2 a j = none) : rfP m ((a, t) :: pd) = rfP m ((a, u) :: pd) := by
  funext c i
  unfold rfP
  by_cases e : c = a
  · subst e
    rw [lk_s, lk_s]
    dsimp only
    by_cases e3 : i < t
    · rw [if_pos e3, if_pos (show i < u by omega)]
    · rw [if_neg e3]
      by_cases e4 : i < u
      · rw [if_pos e4, h i (by omega) e4]
      · rw [if_neg e4]
  · rw [lk_n e, lk_n e]
/-- all fields are set -/
theorem kp_done {m a t : Nat} {pd : List (Nat × Nat)} (hl : pd.lookup a = none) (h : ∀ j, t ≤ j → K0.2.2 a j = none) : rfP m ((a, t) :: pd) = rfP m pd := by
  funext c i
  unfold rfP
  by_cases e : c = a
  · subst e
    rw [lk_s, hl]
    dsimp only
    by_cases e3 : i < t
    · rw [if_pos e3]
    · rw [if_neg e3, h i (by omega)]
  · rw [lk_n e]
/-! what is set lies below -/
theorem clP_row {m : Nat} {pd : List (Nat × Nat)} (hp : pdO m pd) (hc : clP m pd) (h : ∀ j, K0.2.2 m j = none) : clP (m + 1) pd := by
  intro a j b ha hab
  rw [← kp_row hp h] at hab
  by_cases e : a < m
  · have := hc a j b e hab; omega
  · rw [rfP_out (by omega)] at hab; cases hab
theorem clP_new {m : Nat} {pd : List (Nat × Nat)} (hc : clP m pd) : clP (m + 1) ((m, 0) :: pd) := by
  intro a j b ha hab
  rw [← kp_new] at hab
  by_cases e : a < m
  · have := hc a j b e hab; omega
  · rw [rfP_out (by omega)] at hab; cases hab
theorem clP_tab {m N : Nat} {pd : List (Nat × Nat)} (hp : pdO m pd) (hc : clP m pd) (h : ∀ j, K0.2.2 m j = if j < N then some (m + 1 + j) else none) (hr : ∀ i j, i < N → K0.2.2 (m + 1 + i) j = none) : clP (m + 1 + N) pd := by
  intro a j b ha hab
  rw [← kp_tab hp h hr] at hab
  dsimp only at hab
  by_cases e : a = m
  · rw [if_pos e] at hab
    by_cases e2 : j < N
    · rw [if_pos e2] at hab; cases hab; omega
    · rw [if_neg e2] at hab; cases hab
  · rw [if_neg e] at hab
    by_cases e3 : a < m
    · have := hc a j b e3 hab; omega
    · rw [rfP_out (by omega)] at hab; cases hab
theorem clP_set {m a j b : Nat} {pd : List (Nat × Nat)} (hc : clP m ((a, j) :: pd)) (ha : a < m) (hb : b < m) (h : K0.2.2 a j = some b) : clP m ((a, j + 1) :: pd) := by
  intro c i x hcm hx
  rw [← kp_set ha h] at hx
  unfold az_up at hx
  by_cases e : c = a ∧ i = j
  · rw [if_pos e] at hx; cases hx; exact hb
  · rw [if_neg e] at hx; exact hc c i x hcm hx
/-- two rows that agree up to 40 and are empty beyond -/
theorem ext40 {f g : Nat → Option Nat} (h : ∀ j, j < 40 → f j = g j) (hf : ∀ j, 40 ≤ j → f j = none) (hg : ∀ j, 40 ≤ j → g j = none) : ∀ j, f j = g j := fun j => by
  rcases Nat.lt_or_ge j 40 with q | q
  · exact h j q
  · rw [hf j q, hg j q]
theorem k_len : ∀ q ∈ kL, q.2.2.length ≤ 40 := by decide +kernel
theorem k_out {a j : Nat} (h : 40 ≤ j) : K0.2.2 a j = none := by
  show (match kL[a]? with
    | some q => match q.2.2[j]? with
      | some r => r
      | none => none
    | none => none) = none
  cases hq : kL[a]? with
  | none => rfl
  | some q =>
    have := k_len q (List.mem_of_getElem? hq)
    dsimp only
    rw [List.getElem?_eq_none (by omega)]
