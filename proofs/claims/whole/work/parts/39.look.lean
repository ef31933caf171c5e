set_option maxRecDepth 100000
theorem lp_gen {F : az_T → az_T} {q : Nat × Nat} {K : KT} {R : RT} (Inv : Nat → List (Option Value) → (Nat → Nat → Int32) → Prop)
    (hs : ∀ n l I, Inv n l I → ∀ Z : az_T, (∀ m l' I', m < n → Inv m l' I' → Z l' [] q (K, I', R)) → F Z l [] q (K, I, R)) {n : Nat} {l : List (Option Value)} {I : Nat → Nat → Int32} (h : Inv n l I) : s_lp F l [] q (K, I, R) := by
  have go : ∀ n m l I, m ≤ n → Inv m l I → (Nat.rec (motive := fun _ => az_T) (fun _ _ _ _ => False) (fun _ P => F P) (n + 1) : az_T) l [] q (K, I, R) := by
    intro n
    induction n with
    | zero => exact fun m l I hm hI => hs m l I hI _ (fun m' l' I' h1 _ => absurd h1 (by omega))
    | succ n ih => exact fun m l I hm hI => hs m l I hI _ (fun m' l' I' h1 h2 => ih m' l' I' (by omega) h2)
  exact ⟨n + 1, go n n l I (Nat.le_refl _) h⟩
theorem brS_congr {S : PS} {rn rn' : Nat → Int32} {pl aw : Int32} {h : Nat} (e : ∀ k, k < h → rn k = rn' k) (u : Nat) : brS S rn pl aw h u = brS S rn' pl aw h u := by
  unfold brS
  rw [tmU_congr e u, tmR_congr e u]
theorem fsP_congr {S : PS} {rn rn' : Nat → Int32} {h : Nat} (e : ∀ k, k ≤ h → rn k = rn' k) (hf : fsP S rn h) : fsP S rn' h := fun u hu => by
  rw [← brS_congr (fun k hk => e k (by omega)) u, ← e h (Nat.le_refl _)]; exact hf u hu
theorem cstF_congr {S : PS} {ord : Nat → Nat} {rn rn' : Nat → Int32} {h : Nat} (e : ∀ k, k ≤ h → rn k = rn' k) : cstF S ord rn h = cstF S ord rn' h := by
  unfold cstF; rw [hrS_congr e]
theorem totF_congr {S : PS} {ord : Nat → Nat} {rn rn' : Nat → Int32} : ∀ {h : Nat}, (∀ k, k ≤ h → rn k = rn' k) → totF S ord rn h = totF S ord rn' h
  | 0, e => cstF_congr e
  | h + 1, e => by
    show cstF S ord rn (h + 1) + totF S ord rn h = cstF S ord rn' (h + 1) + totF S ord rn' h
    rw [cstF_congr e, totF_congr (fun k hk => e k (by omega))]
theorem mkM_congr {p p' : Nat → Bool} : ∀ {n : Nat}, (∀ i, i < n → p i = p' i) → mkM p n = mkM p' n
  | 0, _ => rfl
  | n + 1, e => by
    show (if p n then mkM p n ||| _ else mkM p n) = (if p' n then mkM p' n ||| _ else mkM p' n)
    rw [e n (by omega), mkM_congr (fun i hi => e i (by omega))]
theorem nmF_congr {S : PS} {c c' : Nat → Int32} (hH : 1 ≤ pH S) (e : ∀ k, k < pH S → c k = c' k) : nmF S c = nmF S c' := mkM_congr (fun i _ => by rw [e (i % pH S) (Nat.mod_lt _ (by omega))])
/-- a way to run: for each hour the number of its mask -/
abbrev sq (d : Nat → Nat) : Nat → Int32 := fun k => nI (d k)
def okSq (S : PS) (d : Nat → Nat) : Prop := ∀ k, k < pH S → d k < 2 ^ pU S
def feas (S : PS) (d : Nat → Nat) : Prop := ∀ k, k < pH S → fsP S (sq d) k
def lexle (a b c d : Int32) : Prop := a < c ∨ (a = c ∧ b ≤ d)
/-- the ways that are looked at: those before the place (h, g, x) -/
def doneQ (h : Nat) (g : Nat → Nat) (x : Nat) (d : Nat → Nat) : Prop := ∃ k, k ≤ h ∧ (∀ j, j < k → d j = g j) ∧ (k < h → g k < d k) ∧ (k = h → x ≤ d k)
def accQ (S : PS) (h : Nat) (g : Nat → Nat) (x : Nat) (fd : Bool) (bs bn : Int32) : Prop := ∀ d, okSq S d → feas S d → doneQ h g x d → fd = true ∧ lexle bs bn (totF S (oFd S) (sq d) (pH S - 1)) (nmF S (sq d))
def bstQ (S : PS) (fd : Bool) (bs bn : Int32) (b : Nat → Int32) : Prop := fd = true → ∃ d, okSq S d ∧ feas S d ∧ bs = totF S (oFd S) (sq d) (pH S - 1) ∧ bn = nmF S (sq d) ∧ ∀ k, k < pH S → b k = nI (d k)
/-- steps that are left -/
def Tl (A : Nat) : Nat → Nat
  | 0 => 0
  | n + 1 => (A + 1) * (1 + Tl A n) + 1
def Wl (A H : Nat) (g : Nat → Nat) : Nat → Nat
  | 0 => 0
  | k + 1 => Wl A H g k + (g k * (1 + Tl A (H - k - 1)) + 1)
def Wf (A H : Nat) (g : Nat → Nat) (h x : Nat) : Nat := x * (1 + Tl A (H - h - 1)) + 1 + Wl A H g h
def rnG (g : Nat → Nat) (h x : Nat) : Nat → Int32 := fun k => if k < h then nI (g k) else nI x - nI 1
theorem Wl_congr {A H : Nat} {g g' : Nat → Nat} : ∀ {k : Nat}, (∀ j, j < k → g j = g' j) → Wl A H g k = Wl A H g' k
  | 0, _ => rfl
  | k + 1, e => by
    show Wl A H g k + _ = Wl A H g' k + _
    rw [Wl_congr (fun j hj => e j (by omega)), e k (by omega)]
theorem i_all {U : Nat} (h : U ≤ 6) : (nI 1 <<< (nI U &&& 31)) - nI 1 = nI (2 ^ U) - nI 1 := by
  have : U = 0 ∨ U = 1 ∨ U = 2 ∨ U = 3 ∨ U = 4 ∨ U = 5 ∨ U = 6 := by omega
  rcases this with rfl | rfl | rfl | rfl | rfl | rfl | rfl <;> decide
theorem Tl_small {U H : Nat} (hU : U ≤ 6) (hH : H ≤ 24) (hb : U * H ≤ 10) : Tl (2 ^ U - 1) H ≤ 1000000 := by
  have : U = 0 ∨ U = 1 ∨ U = 2 ∨ U = 3 ∨ U = 4 ∨ U = 5 ∨ U = 6 := by omega
  have hd : ∀ U, U < 7 → ∀ H, H < 25 → U * H ≤ 10 → Tl (2 ^ U - 1) H ≤ 1000000 := by decide +kernel
  exact hd U (by omega) H (by omega) hb
theorem Wf_dec {A H h x : Nat} {g : Nat → Nat} : Wf A H g h x < Wf A H g h (x + 1) := by
  unfold Wf; rw [Nat.succ_mul]; omega
theorem Wf_pop {A H h : Nat} {g : Nat → Nat} : Wf A H g h (g h) < Wf A H g (h + 1) 0 := by
  unfold Wf
  show g h * (1 + Tl A (H - h - 1)) + 1 + Wl A H g h < 0 * (1 + Tl A (H - (h + 1) - 1)) + 1 + (Wl A H g h + (g h * (1 + Tl A (H - h - 1)) + 1))
  omega
theorem Wf_push {A H h x : Nat} {g : Nat → Nat} (hh : h + 1 < H) : Wf A H (nu g h x) (h + 1) (A + 1) < Wf A H g h (x + 1) := by
  unfold Wf
  show (A + 1) * (1 + Tl A (H - (h + 1) - 1)) + 1 + (Wl A H (nu g h x) h + (nu g h x h * (1 + Tl A (H - h - 1)) + 1)) < (x + 1) * (1 + Tl A (H - h - 1)) + 1 + Wl A H g h
  rw [Wl_congr (g := nu g h x) (g' := g) (fun j hj => if_neg (by omega)), show nu g h x h = x from if_pos rfl, show H - h - 1 = (H - (h + 1) - 1) + 1 by omega]
  show (A + 1) * (1 + Tl A (H - (h + 1) - 1)) + 1 + (Wl A H g h + (x * (1 + Tl A (H - (h + 1) - 1 + 1)) + 1)) < (x + 1) * (1 + Tl A (H - (h + 1) - 1 + 1)) + 1 + Wl A H g h
  have e : Tl A (H - (h + 1) - 1 + 1) = (A + 1) * (1 + Tl A (H - (h + 1) - 1)) + 1 := rfl
  rw [Nat.succ_mul x]
  omega
theorem Wf_pos {A H h x : Nat} {g : Nat → Nat} : 1 ≤ Wf A H g h x := by unfold Wf; omega
theorem Wf_0 {A H : Nat} {g : Nat → Nat} (hH : 1 ≤ H) : Wf A H g 0 (A + 1) = Tl A H := by
  obtain ⟨k, rfl⟩ : ∃ k, H = k + 1 := ⟨H - 1, by omega⟩
  show (A + 1) * (1 + Tl A (k + 1 - 0 - 1)) + 1 + 0 = (A + 1) * (1 + Tl A k) + 1
  rw [show k + 1 - 0 - 1 = k by omega]
theorem acc_dec {S : PS} {h x : Nat} {g : Nat → Nat} {fd : Bool} {bs bn : Int32} (a : accQ S h g (x + 1) fd bs bn) (n : ∀ d, okSq S d → feas S d → (∀ j, j < h → d j = g j) → d h = x → fd = true ∧ lexle bs bn (totF S (oFd S) (sq d) (pH S - 1)) (nmF S (sq d))) : accQ S h g x fd bs bn := by
  intro d d1 d2 ⟨k, k1, k2, k3, k4⟩
  by_cases e : k = h ∧ d h = x
  · obtain ⟨rfl, e2⟩ := e
    exact n d d1 d2 k2 e2
  · refine a d d1 d2 ⟨k, k1, k2, k3, fun e2 => ?_⟩
    have := k4 e2
    subst e2
    have : ¬ d k = x := fun z => e ⟨rfl, z⟩
    omega
theorem acc_pop {S : PS} {h : Nat} {g : Nat → Nat} {fd : Bool} {bs bn : Int32} (a : accQ S (h + 1) g 0 fd bs bn) : accQ S h g (g h) fd bs bn := by
  intro d d1 d2 ⟨k, k1, k2, k3, k4⟩
  by_cases e : k = h
  · subst e
    by_cases e2 : d k = g k
    · exact a d d1 d2 ⟨k + 1, Nat.le_refl _, fun j hj => by
        by_cases e3 : j = k
        · subst e3; exact e2
        · exact k2 j (by omega), fun z => absurd z (by omega), fun _ => Nat.zero_le _⟩
    · have := k4 rfl
      exact a d d1 d2 ⟨k, by omega, k2, fun _ => by omega, fun z => absurd z (by omega)⟩
  · exact a d d1 d2 ⟨k, by omega, k2, fun _ => k3 (by omega), fun z => absurd z (by omega)⟩
theorem acc_push {S : PS} {h x : Nat} {g : Nat → Nat} {fd : Bool} {bs bn : Int32} (hh : h + 1 < pH S) (a : accQ S h g (x + 1) fd bs bn) : accQ S (h + 1) (nu g h x) (2 ^ pU S) fd bs bn := by
  intro d d1 d2 ⟨k, k1, k2, k3, k4⟩
  by_cases e : k = h + 1
  · have := k4 e
    subst e
    have := d1 (h + 1) hh
    omega
  · have k3' := k3 (by omega)
    by_cases e2 : k = h
    · subst e2
      rw [show nu g k x k = x from if_pos rfl] at k3'
      exact a d d1 d2 ⟨k, Nat.le_refl _, fun j hj => by rw [k2 j hj]; exact if_neg (by omega), fun z => absurd z (by omega), fun _ => by omega⟩
    · rw [show nu g h x k = g k from if_neg e2] at k3'
      exact a d d1 d2 ⟨k, by omega, fun j hj => by rw [k2 j hj]; exact if_neg (by omega), fun _ => k3', fun z => absurd z e2⟩
