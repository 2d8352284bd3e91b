section S54
variable {n M : Nat} {v : tePg} {S T : teS}
theorem t0_if {α : Type} {y z : Nat} (hy : y < 10) (hz : z < 10) (a b : α) : (if (((10 : Int32) * nI y) + nI z) = 0 then a else b) = if y = 0 then (if z = 0 then a else b) else b := by
  rw [li10, nn_mul, nn_add, eq0_if (by omega)]
  by_cases h : y = 0
  · rw [if_pos h]
    by_cases h2 : z = 0
    · rw [if_pos h2, if_pos (show 10 * y + z = 0 by omega)]
    · rw [if_neg h2, if_neg (show ¬ 10 * y + z = 0 by omega)]
  · rw [if_neg h, if_neg (show ¬ 10 * y + z = 0 by omega)]
theorem li50 : (50 : Int32) = nI 50 := rfl
theorem li511 : (511 : Int32) = nI 511 := rfl
end S54
