/-! SCRIPTS: the loops -/
section S57
variable {n : Nat}
theorem lL10k : (10000 : Int64) = lN 10000 := rfl
theorem wlg1 {X k : Nat} (hX : X < 9223372036854775808) (hk : k < 1000) (x0 : Int64) (S : teS) : ∀ (d c fuel : Nat), c + d = k → d < fuel → fX5_withoutLowestGroups_5 x0 (nI k) fuel S (lN (X / 10000 ^ c)) (nI c) = some (lN (X / 10000 ^ k))
  | 0, c, fuel, hc, hf => by
    obtain ⟨f, rfl⟩ : ∃ f, fuel = f + 1 := ⟨fuel - 1, by omega⟩
    obtain rfl : c = k := by omega
    unfold fX5_withoutLowestGroups_5
    rw [if_pos (by rw [nn_le (by omega) (by omega)]; omega)]
  | d + 1, c, fuel, hc, hf => by
    obtain ⟨f, rfl⟩ : ∃ f, fuel = f + 1 := ⟨fuel - 1, by omega⟩
    unfold fX5_withoutLowestGroups_5
    rw [if_neg (by rw [nn_le (by omega) (by omega)]; omega), lL10k, pk_lDiv (Nat.lt_of_le_of_lt (Nat.div_le_self _ _) hX) (by decide) (by decide), Nat.div_div_eq_div_mul, ← Nat.pow_succ, li1, nn_add]
    exact wlg1 hX hk x0 S d (c + 1) f (by omega) (by omega)
theorem wlg {X k : Nat} (hX : X < 9223372036854775808) (hk : k < 1000) (S : teS) : fX5_withoutLowestGroups (lN X) (nI k) S = some (lN (X / 10000 ^ k)) := by
  have h := wlg1 hX hk (lN X) S k 0 2000 (by omega) (by omega)
  rw [Nat.pow_zero, Nat.div_one] at h
  exact h
theorem scr {X N : Nat} (hX : X < 9223372036854775808) (hN : N ≤ 4) (x2 : Int64) : ∀ (d c fuel M : Nat) (v : tePg) (S T : teS), WF n M v → PE n (S 1) v → T 373 = v → M + 9 * d < 100000 → c + d = N → d < fuel →
    ∃ w p u, fX5_runScript_46 (nI N) (lN X) fuel S (nI c) = some (.inr (w, tst S 1 p)) ∧ fX6_runScript_89 (nI N) x2 fuel T (lN (10000 ^ d)) (lN (X % 10000 ^ d)) (nI c) = some (w, tst T 373 u)
  | 0, c, fuel, M, v, S, T, hW, hE, hT, hM, hc, hf => by
    obtain ⟨f, rfl⟩ : ∃ f, fuel = f + 1 := ⟨fuel - 1, by omega⟩
    unfold fX5_runScript_46 fX6_runScript_89
    rw [if_pos (by rw [nn_le (by omega) (by omega)]; omega), if_pos (by rw [nn_le (by omega) (by omega)]; omega)]
    exact ⟨_, S 1, T 373, by rw [tst_i], by rw [tst_i]⟩
  | d + 1, c, fuel, M, v, S, T, hW, hE, hT, hM, hc, hf => by
    obtain ⟨f, rfl⟩ : ∃ f, fuel = f + 1 := ⟨fuel - 1, by omega⟩
    have hp : 0 < 10000 ^ d := Nat.pow_pos (by decide)
    have hp4 : 10000 ^ d ≤ 10000 ^ 3 := Nat.pow_le_pow_right (by decide) (by omega)
    have hp5 : 10000 ^ (d + 1) ≤ 10000 ^ 4 := Nat.pow_le_pow_right (by decide) (by omega)
    have q3 : (10000 : Nat) ^ 3 = 1000000000000 := by decide
    have q4 : (10000 : Nat) ^ 4 = 10000000000000000 := by decide
    have e1 : lN (10000 ^ (d + 1)) / (10000 : Int64) = lN (10000 ^ d) := by
      rw [lL10k, pk_lDiv (by omega) (by decide) (by decide), Nat.pow_succ, Nat.mul_div_cancel _ (by decide)]
    have hml : X % 10000 ^ (d + 1) < 9223372036854775808 := Nat.lt_of_le_of_lt (Nat.mod_le _ _) hX
    have e2 : X % 10000 ^ (d + 1) / 10000 ^ d = X / 10000 ^ d % 10000 := by rw [Nat.pow_succ, Nat.mod_mul_right_div_self]
    have e3 : X % 10000 ^ (d + 1) % 10000 ^ d = X % 10000 ^ d := Nat.mod_mod_of_dvd _ (Nat.pow_dvd_pow _ (by omega))
    have hg : X / 10000 ^ d % 10000 < 10000 := Nat.mod_lt _ (by decide)
    have hdl : X / 10000 ^ d < 9223372036854775808 := Nat.lt_of_le_of_lt (Nat.div_le_self _ _) hX
    have hne : ¬ lN (10000 ^ d) = 0 := by
      intro z
      have z2 : lN (10000 ^ d) = lN 0 := z
      have := congrArg (fun y : Int64 => (y.toInt32)) z2
      have h1 : ∀ e : Nat, e ≤ 3 → ¬ lN (10000 ^ e) = lN 0 := by
        intro e he
        rcases (show e = 0 ∨ e = 1 ∨ e = 2 ∨ e = 3 by omega) with rfl | rfl | rfl | rfl <;> decide
      exact h1 d (by omega) z2
    obtain ⟨z, p, u, g1, g2, g3, g4⟩ := cmd hW hE hT (by omega) hg
    unfold fX5_runScript_46 fX6_runScript_89
    rw [if_neg (by rw [nn_le (by omega) (by omega)]; omega), if_neg (by rw [nn_le (by omega) (by omega)]; omega), li1, nn_sub (by omega), nn_sub (by omega), show N - 1 - c = d by omega, wlg hX (by omega), nn_bd1, lL10k, pk_lRem hdl (by decide) (by decide), lN_i, g1, nn_bd2]
    rw [← lL10k, e1, nn_ch (decide_eq_true hne), nn_ch (decide_eq_true hne), pk_lRem hml hp (by omega), pk_lDiv hml hp (by omega), e2, e3, lN_i, d1000 hg, d100 hg, d10 hg, d1 hg, g2, nn_bd2, bI_if, bI_if]
    cases z
    · rw [if_pos rfl, if_pos rfl]
      exact ⟨_, p, u, rfl, rfl⟩
    · rw [if_neg (show ¬ true = false by decide), if_neg (show ¬ true = false by decide), nn_add]
      obtain ⟨w, p2, u2, k1, k2⟩ := scr hX hN x2 d (c + 1) f (M + 9) u (tst S 1 p) (tst T 373 u) g3 (by rw [tst_s]; exact g4) (tst_s _ _ _) (by omega) (by omega) (by omega)
      rw [tst_t] at k1 k2
      exact ⟨w, p2, u2, k1, k2⟩
end S57
