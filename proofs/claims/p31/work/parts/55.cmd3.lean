section S55
variable {n M : Nat} {v : tePg} {S T : teS}
theorem rg_lang {y : Nat} (hy : y < 10) : rg 0 3 (nI y) = decide (y < 4) := by
  unfold rg
  rw [decide_eq_true (show ¬ nI y < 0 from nI_pos (by omega)), Bool.true_and]
  apply decide_eq_decide.mpr
  rw [li3, nn_lt (by decide) (by omega)]
  omega
theorem lv_nn (hW : WF n M v) {a l : Nat} (ha : a < n) (hl : l < 4) : ¬ v (2 + 10 * a + l) < 0 := by
  obtain ⟨y, hy, e⟩ := (hW.2.2.2 a ha).1 l hl
  rw [e]
  exact nI_pos (by omega)
theorem b_if (c : Prop) [Decidable c] (S : teS) : (if c then some ((1 : Int32), S) else some ((0 : Int32), S)) = some (bI (decide c), S) := by
  by_cases h : c
  · rw [if_pos h, decide_eq_true h]; rfl
  · rw [if_neg h, decide_eq_false h]; rfl
end S55
