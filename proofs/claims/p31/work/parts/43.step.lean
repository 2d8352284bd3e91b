/-! STEPS: one call of the law -/
theorem r5_mem_t {n : Nat} {S : teS} {x : Int32} (e0 : S 0 0 = nI n) (h : isM n x = true) : fX5_requireMember x S = some (.inr ()) := by rw [r5_isM e0, if_pos h]
theorem r5_mem_f {n : Nat} {S : teS} {x : Int32} (e0 : S 0 0 = nI n) (h : isM n x = false) : fX5_requireMember x S = some (.inl 3) := by rw [r5_isM e0, h]; rfl
def rg (lo hi x : Int32) : Bool := decide (¬ x < lo) && decide (¬ hi < x)
theorem r5_rg_t {lo hi x : Int32} {S : teS} (h : rg lo hi x = true) : fX5_requireRange x lo hi S = some (.inr ()) := by rw [r5_rng]; exact if_pos h
theorem r5_rg_f {lo hi x : Int32} {S : teS} (h : rg lo hi x = false) : fX5_requireRange x lo hi S = some (.inl 1) := by
  rw [r5_rng]
  exact if_neg (by show ¬ rg lo hi x = true; rw [h]; decide)
theorem rg_nat {N : Nat} {x : Int32} (hN : N < 2147483648) (h : rg 0 (nI N) x = true) : ∃ j, j ≤ N ∧ x = nI j := by
  unfold rg at h
  rw [Bool.and_eq_true] at h
  obtain ⟨j, hj, rfl⟩ := nI_of (of_decide_eq_true h.1)
  have h2 := of_decide_eq_true h.2
  rw [nn_lt hN (by omega)] at h2
  exact ⟨j, by omega, rfl⟩
theorem r5_lg_t {x : Int32} {S : teS} (h : rg 0 3 x = true) : fX5_requireLanguage x S = some (.inr ()) := by unfold fX5_requireLanguage; rw [r5_rg_t h]; rfl
theorem r5_lg_f {x : Int32} {S : teS} (h : rg 0 3 x = false) : fX5_requireLanguage x S = some (.inl 1) := by unfold fX5_requireLanguage; rw [r5_rg_f h]; rfl
theorem i1_0 : ¬ (1 : Int32) = 0 := by decide
section S43
variable {K n : Nat} {S : teS}
end S43
