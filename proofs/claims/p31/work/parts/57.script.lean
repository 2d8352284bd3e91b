/-! SCRIPTS: the loops -/
section S57
variable {n : Nat}
theorem lL10k : (10000 : Int64) = lN 10000 := rfl
theorem wlg1 {X k : Nat} (hX : X < 9223372036854775808) (hk : k < 1000) (x0 : Int64) (S : teS) : ∀ (d c fuel : Nat), c + d = k → d < fuel → fX5_withoutLowestGroups_5 x0 (nI k) fuel S (lN (X / 10000 ^ c)) (nI c) = some (lN (X / 10000 ^ k))
  | 0, c, fuel, hc, hf => by
    obtain ⟨f, rfl⟩ : ∃ f, fuel = f + 1 := ⟨fuel - 1, by omega⟩
    obtain rfl : c = k := by omega
    unfold fX5_withoutLowestGroups_5
    rw [if_pos (by rw [nn_le (by omega) (by omega)]; omega)]
  | d + 1, c, fuel, hc, hf => by
    obtain ⟨f, rfl⟩ : ∃ f, fuel = f + 1 := ⟨fuel - 1, by omega⟩
    unfold fX5_withoutLowestGroups_5
    rw [if_neg (by rw [nn_le (by omega) (by omega)]; omega), lL10k, pk_lDiv (Nat.lt_of_le_of_lt (Nat.div_le_self _ _) hX) (by decide) (by decide), Nat.div_div_eq_div_mul, ← Nat.pow_succ, li1, nn_add]
    exact wlg1 hX hk x0 S d (c + 1) f (by omega) (by omega)
theorem wlg {X k : Nat} (hX : X < 9223372036854775808) (hk : k < 1000) (S : teS) : fX5_withoutLowestGroups (lN X) (nI k) S = some (lN (X / 10000 ^ k)) := by
  have h := wlg1 hX hk (lN X) S k 0 2000 (by omega) (by omega)
  rw [Nat.pow_zero, Nat.div_one] at h
  exact h
end S57
