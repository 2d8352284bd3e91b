/-! STEPS: errorPosition, load -/
theorem bl_0 : vp_nar .boolean (0 : Int32) = 0 := by decide +kernel
section S63
variable {K n : Nat} {S : teS}
theorem c5_ld {q : tePg} {N : Nat} (h1 : fX4_firstError S = some (-9999)) (h2 : fX4_readInto 0 S = some (tst S 0 q)) (h3 : q 0 = nI N) : ∃ S1, fX5_load S = some (.inr (nI N, S1)) ∧ S1 0 = q ∧ S1 363 = tup (S 363) 1 0 ∧ S1 366 = tup (tup (S 366) 0 0) 1 0 ∧ ∀ a, a ≠ 0 → a ≠ 363 → a ≠ 366 → S1 a = S a := by
  have hl : ∀ (T : teS) (f : Nat), T 0 0 = nI N → fX5_load_43 (f + 3) T 0 = some (.inr (nI N, tst T 366 (tup (tup (T 366) 0 0) 1 0))) := fun T f hT => by
    unfold fX5_load_43
    rw [if_neg (show ¬ (2 : Int32) ≤ 0 by decide), nn_ch (show tein (0 : Int32) 2 = true by decide), nn_lt1, l0, bl_0, teu_t]
    unfold fX5_load_43
    rw [if_neg (show ¬ (2 : Int32) ≤ 0 + 1 by decide), nn_ch (show tein ((0 : Int32) + 1) 2 = true by decide), nn_lt1, show ((0 : Int32) + 1).toNatClampNeg = 1 from rfl, bl_0, teu_t, tst_s, tst_t]
    unfold fX5_load_43
    rw [if_pos (show (2 : Int32) ≤ 0 + 1 + 1 by decide), tst_n _ _ (show 0 ≠ 366 by decide), hT]
  refine ⟨tst (tst (tst S 0 q) 363 (tup (S 363) 1 0)) 366 (tup (tup (S 366) 0 0) 1 0), ?_, ?_, ?_, ?_, fun a a1 a2 a3 => ?_⟩
  · unfold fX5_load fX2_forget
    rw [h1, nn_bd1, if_pos rfl, h2, nn_bd1, nn_lt1, teu_t, tst_n _ _ (show 363 ≠ 0 by decide), nn_bd1]
    have := hl (tst (tst S 0 q) 363 (tup (S 363) 1 0)) 1997 (by rw [tst_n _ _ (by decide), tst_s]; exact h3)
    rw [this, tst_n _ _ (show 366 ≠ 363 by decide), tst_n _ _ (show 366 ≠ 0 by decide)]
  · rw [tst_n _ _ (by decide), tst_n _ _ (by decide), tst_s]
  · rw [tst_n _ _ (by decide), tst_s]
  · rw [tst_s]
  · rw [tst_n _ _ a3, tst_n _ _ a2, tst_n _ _ a1]
end S63
