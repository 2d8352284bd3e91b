/-! STEPS: forecasts; save and restore -/
section S47
variable {K n : Nat} {S : teS}
theorem r5_sl {x : Int32} {S : teS} : fX5_requireSlot x S = if rg 0 1 x = true then some (.inr ()) else some (.inl 3) := by
  unfold fX5_requireSlot rg
  by_cases h1 : x < 0
  · rw [if_pos h1, decide_eq_false (not_not_intro h1)]; rfl
  · rw [if_neg h1, decide_eq_true h1]
    by_cases h2 : x < 2
    · have h3 : ¬ (1 : Int32) < x := by
        rw [Int32.lt_iff_toInt_lt] at h2 ⊢
        rw [show (2 : Int32).toInt = 2 by decide] at h2
        rw [show (1 : Int32).toInt = 1 by decide]
        omega
      rw [if_pos h2, decide_eq_true h3]; rfl
    · have h3 : (1 : Int32) < x := by
        rw [Int32.lt_iff_toInt_lt] at h2 ⊢
        rw [show (2 : Int32).toInt = 2 by decide] at h2
        rw [show (1 : Int32).toInt = 1 by decide]
        omega
      rw [if_neg h2, decide_eq_false (not_not_intro h3)]; rfl
end S47
