set_option maxRecDepth 100000
set_option maxHeartbeats 1000000
theorem k_none {a j : Nat} (h : 380 ≤ a) : K0.2.2 a j = none := by
  show (match kL[a]? with
    | some q => match q.2.2[j]? with
      | some r => r
      | none => none
    | none => none) = none
  rw [List.getElem?_eq_none (by have : kL.length = 380 := by decide +kernel
                                omega)]
theorem KP_end : KP 380 [] = K0 := by
  have e : rfP 380 [] = K0.2.2 := by
    funext b j
    by_cases h : b < 380
    · exact rfP_in h rfl
    · rw [rfP_out (by omega), k_none (by omega)]
  show (380, K0.2.1, rfP 380 []) = K0
  rw [e]; rfl
theorem clP_0 : clP 0 [] := fun a _ _ h => absurd h (Nat.not_lt_zero a)
theorem pdO_0 : pdO 0 [] := fun _ _ => rfl
