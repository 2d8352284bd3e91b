section S58
theorem r6_rs (x1 : Int32) (x2 : Int64) (T : teS) : ∀ (d c fuel : Nat), c + d = 4 → d < fuel → ∃ e, e ≤ 4 ∧ fX6_runScript_6 x1 x2 fuel T (lN (10000 ^ c)) (nI c) = fX6_runScript_32 x1 x2 T (lN (10000 ^ e)) ∧ ∀ N, x1 = nI N → c ≤ N → N ≤ 4 → e = N
  | 0, c, fuel, hc, hf => by
    obtain ⟨f, rfl⟩ : ∃ f, fuel = f + 1 := ⟨fuel - 1, by omega⟩
    unfold fX6_runScript_6
    refine ⟨c, by omega, ?_, fun N _ _ _ => by omega⟩
    rw [li4, if_pos (show nI 4 ≤ nI c by rw [nn_le (by omega) (by omega)]; omega)]
    split <;> rfl
  | d + 1, c, fuel, hc, hf => by
    obtain ⟨f, rfl⟩ : ∃ f, fuel = f + 1 := ⟨fuel - 1, by omega⟩
    unfold fX6_runScript_6
    by_cases h : x1 ≤ nI c
    · refine ⟨c, by omega, by rw [if_pos h], fun N hN h1 h2 => ?_⟩
      rw [hN, nn_le (by omega) (by omega)] at h
      omega
    · obtain ⟨e, e1, e2, e3⟩ := r6_rs x1 x2 T d (c + 1) f (by omega) (by omega)
      refine ⟨e, e1, ?_, fun N hN h1 h2 => e3 N hN (by
        by_cases hcN : c = N
        · exact absurd (show x1 ≤ nI c by rw [hN, hcN]; exact Int32.le_refl _) h
        · omega) h2⟩
      rw [if_neg h, li4, if_neg (show ¬ nI 4 ≤ nI c by rw [nn_le (by omega) (by omega)]; omega), lL10k, lN_mul, ← Nat.pow_succ, li1, nn_add]
      exact e2
end S58
