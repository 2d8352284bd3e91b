/-! STEPS: runScript -/
section S59
theorem p10k {N : Nat} (hN : N ≤ 4) : 1 ≤ 10000 ^ N ∧ 10000 ^ N ≤ 10000000000000000 := by
  have q4 : (10000 : Nat) ^ 4 = 10000000000000000 := by decide
  have h1 : 10000 ^ N ≤ 10000 ^ 4 := Nat.pow_le_pow_right (by decide) hN
  have h2 : 0 < 10000 ^ N := Nat.pow_pos (by decide)
  omega
end S59
