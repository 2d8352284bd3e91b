/-! STEPS: pair, part, what there is, blocking, undo -/
theorem nn_ch {α : Type} {b : Bool} {x : Option α} (h : b = true) : chk b x = x := if_pos h
section S44
variable {K n : Nat} {S : teS}
theorem r5_two_t {x1 x2 : Int32} (e0 : S 0 0 = nI n) (h1 : isM n x1 = true) (h2 : isM n x2 = true) (hx : ¬ x1 = x2) : fX5_requireTwoMembers x1 x2 S = some (.inr ()) := by
  unfold fX5_requireTwoMembers
  rw [r5_mem_t e0 h1, nn_bx1, r5_mem_t e0 h2, nn_bx1, if_neg hx]
theorem r5_two_1 {x1 x2 : Int32} (e0 : S 0 0 = nI n) (h1 : isM n x1 = false) : fX5_requireTwoMembers x1 x2 S = some (.inl 3) := by
  unfold fX5_requireTwoMembers
  rw [r5_mem_f e0 h1]; rfl
theorem r5_two_2 {x1 x2 : Int32} (e0 : S 0 0 = nI n) (h1 : isM n x1 = true) (h2 : isM n x2 = false) : fX5_requireTwoMembers x1 x2 S = some (.inl 3) := by
  unfold fX5_requireTwoMembers
  rw [r5_mem_t e0 h1, nn_bx1, r5_mem_f e0 h2]; rfl
theorem r5_two_3 {x1 x2 : Int32} (e0 : S 0 0 = nI n) (h1 : isM n x1 = true) (h2 : isM n x2 = true) (hx : x1 = x2) : fX5_requireTwoMembers x1 x2 S = some (.inl 1) := by
  unfold fX5_requireTwoMembers
  rw [r5_mem_t e0 h1, nn_bx1, r5_mem_t e0 h2, nn_bx1, if_pos hx]
theorem rg_no {lo hi x y : Int32} (h : rg lo hi x = false) (hy : rg lo hi y = true) : ¬ x = y := fun z => by
  rw [z, hy] at h
  cases h
end S44
