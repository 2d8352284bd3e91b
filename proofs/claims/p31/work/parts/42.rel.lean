/-! BOTH SIDES: what holds between two calls; a call that is remembered -/
/-- ranges -/
theorem i64_lt (x y : Int32) : (x.toInt64 < y.toInt64) = (x < y) := propext (by rw [Int64.lt_iff_toInt_lt, Int32.lt_iff_toInt_lt, Int32.toInt_toInt64, Int32.toInt_toInt64])
/-- is it a member's number? -/
def isM (n : Nat) (x : Int32) : Bool := decide (¬ x < 0) && decide (¬ nI n ≤ x)
theorem isM_t {n : Nat} {x : Int32} (h9 : n ≤ 9) (h : isM n x = true) : ∃ a, a < n ∧ x = nI a := by
  unfold isM at h
  rw [Bool.and_eq_true] at h
  have h1 := of_decide_eq_true h.1
  have h2 := of_decide_eq_true h.2
  obtain ⟨j, hj, rfl⟩ := nI_of h1
  exact ⟨j, by rw [nn_le (by omega) (by omega)] at h2; omega, rfl⟩
theorem r1_isM {n : Nat} {k : Nat} {S : teS} (e0 : S k 0 = nI n) (x : Int32) : fX1_has k x S = some (bI (isM n x)) := by
  unfold fX1_has isM
  rw [e0]
  by_cases h1 : x < 0
  · rw [if_pos h1, decide_eq_false (not_not_intro h1)]; rfl
  · rw [if_neg h1, decide_eq_true h1]
    by_cases h2 : nI n ≤ x
    · rw [if_pos h2, decide_eq_false (not_not_intro h2)]; rfl
    · rw [if_neg h2, decide_eq_true h2]; rfl
theorem r5_isM {n : Nat} {S : teS} (e0 : S 0 0 = nI n) (x : Int32) : fX5_requireMember x S = if isM n x = true then some (.inr ()) else some (.inl 3) := by
  unfold fX5_requireMember
  rw [r1_isM e0, nn_bd1, bI_if]
  cases isM n x <;> rfl
theorem nle_sub {n : Nat} (h9 : n ≤ 9) (x : Int32) : decide (¬ nI n - 1 < x) = decide (¬ nI n ≤ x) := by
  apply decide_eq_decide.mpr
  rw [Int32.not_lt, Int32.not_le, Int32.le_iff_toInt_le, Int32.lt_iff_toInt_lt]
  have e : (nI n - 1).toInt = (n : Int) - 1 := by
    rcases (show n = 0 ∨ n = 1 ∨ n = 2 ∨ n = 3 ∨ n = 4 ∨ n = 5 ∨ n = 6 ∨ n = 7 ∨ n = 8 ∨ n = 9 by omega) with rfl | rfl | rfl | rfl | rfl | rfl | rfl | rfl | rfl | rfl <;> decide
  rw [e, nI_toInt (by omega)]
  omega
/-- ranges in the class -/
theorem r5_rng (x lo hi : Int32) (S : teS) : fX5_requireRange x lo hi S = if (decide (¬ x < lo) && decide (¬ hi < x)) = true then some (.inr ()) else some (.inl 1) := by
  unfold fX5_requireRange
  by_cases h1 : x < lo
  · rw [if_pos h1, decide_eq_false (not_not_intro h1)]; rfl
  · rw [if_neg h1, decide_eq_true h1]
    by_cases h2 : x ≤ hi
    · rw [if_pos h2, decide_eq_true (show ¬ hi < x from Int32.not_lt.mpr h2)]; rfl
    · rw [if_neg h2, decide_eq_false (not_not_intro (Int32.not_le.mp h2))]; rfl
