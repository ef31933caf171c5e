/-! rows of longs and of doubles are made empty -/
theorem az_zL (ad : Nat → Nat) (M : az_M) (a n : Nat) (_ : ∀ j, M.2.1 a j = 0) (h : ∀ j, M.2.2.1 a j = 0) (_ : ∀ j, M.2.2.2 a j = 0) (cA : ClassId) : vp_cell cA (az_arr ad M a 23 n) = arrV cA n (fun _ => defaultValue .long) := by
  rw [az_arrL]
  show arrV cA n (fun j => .long (M.2.2.1 a j)) = arrV cA n (fun _ => .long 0)
  rw [show (fun j => Value.long (M.2.2.1 a j)) = fun _ => .long 0 from funext (fun j => by rw [h j])]
theorem az_zD (ad : Nat → Nat) (M : az_M) (a n : Nat) (_ : ∀ j, M.2.1 a j = 0) (_ : ∀ j, M.2.2.1 a j = 0) (h : ∀ j, M.2.2.2 a j = 0) (cA : ClassId) : vp_cell cA (az_arr ad M a 24 n) = arrV cA n (fun _ => defaultValue .double) := by
  rw [az_arrD]
  show arrV cA n (fun j => .double (M.2.2.2 a j)) = arrV cA n (fun _ => .double 0)
  rw [show (fun j => Value.double (M.2.2.2 a j)) = fun _ => .double 0 from funext (fun j => by rw [h j])]
