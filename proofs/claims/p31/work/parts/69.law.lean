/-! THE LAW'S LOOP answers 1 -/
def S00 : teS := fun _ _ => 0
theorem tein_t {i L : Nat} (h : i < L) (hL : L ≤ 2560) : tein (nI i) L = true := by
  simp only [tein, Bool.and_eq_true, decide_eq_true_eq]
  exact ⟨nI_pos (by omega), by rw [nn_tn (by omega)]; exact h⟩
