/-! CALLS THAT THROW change nothing, and are told as they should be -/
theorem isM_n {n : Nat} (h : n < 2147483648) : isM n (nI n) = false := by
  unfold isM
  rw [decide_eq_false (show ¬ ¬ nI n ≤ nI n from fun h2 => h2 (Int32.le_refl _)), Bool.and_false]
theorem isM_a {n a : Nat} (h : a < n) (h9 : n < 2147483648) : isM n (nI a) = true := by
  unfold isM
  rw [decide_eq_true (nI_pos (show a < 2147483648 by omega)), Bool.true_and]
  exact decide_eq_true (by rw [nn_le (by omega) (by omega)]; omega)
theorem isM_0 {n : Nat} (h : 0 < n) (h9 : n < 2147483648) : isM n 0 = true := isM_a h h9
section S92
variable {z : aS}
theorem rf_584 : hL_refuses_584 z = some (0, z) := rfl
theorem rf_490 (h9 : aN z ≤ 9) : hL_refuses_490 z (nI (aN z)) = some (1, z) := by
  have m0 := isM_n (n := aN z) (by omega)
  unfold hL_refuses_490
  have e1 : A_tryLevelAfter z (nI (aN z)) 0 = -99001 := by unfold A_tryLevelAfter; rw [m0, ifF]
  have e2 : A_tryPartsAfter z (nI (aN z)) 0 = -99001 := by unfold A_tryPartsAfter; rw [m0, ifF]
  have e3 : A_tryScript z 5 0 = -99002 := by unfold A_tryScript; rw [show rg 1 4 5 = false by decide, ifF]
  have e4 : A_tryScript z 1 10000 = -99002 := by
    unfold A_tryScript
    rw [show rg 1 4 1 = true by decide, ifT, if_neg (show ¬ (10000 : Int64) < 0 by decide), if_neg (show ¬ (10000 : Int64).toNatClampNeg < 10000 ^ (1 : Int32).toNatClampNeg by decide)]
  have e5 : A_trySimulate z 1 61 = -99002 := by unfold A_trySimulate; rw [show rg 1 60 61 = false by decide, ifF]
  have e6 : A_trySave z 2 = some (-99001, z) := by unfold A_trySave; rw [show rg 0 1 2 = false by decide, ifF]
  have e7 : A_tryRestore z (-1) = some (-99001, z) := by unfold A_tryRestore; rw [show rg 0 1 (-1) = false by decide, ifF]
  have e8 : A_tryAppend z 256 = some (-99002, z) := by unfold A_tryAppend; rw [show rg 0 255 256 = false by decide, ifF]
  rw [e1, if_pos rfl, e2, if_pos rfl, e3, if_pos rfl, e4, if_pos rfl, e5, if_pos rfl, e6, nn_bd2, if_pos rfl, e7, nn_bd2, if_pos rfl, e8, nn_bd2, if_pos rfl]
theorem rf_333 (h9 : aN z ≤ 9) : hL_refuses_333 z (nI (aN z)) 1 = some (1, z) := by
  have m0 := isM_n (n := aN z) (by omega)
  unfold hL_refuses_333
  have e1 : A_trySettle z 0 = some (-99002, z) := by unfold A_trySettle; rw [show rg 1 50 0 = false by decide, ifF]
  have e2 : A_trySettle z 51 = some (-99002, z) := by unfold A_trySettle; rw [show rg 1 50 51 = false by decide, ifF]
  have e3 : A_tryWeek z 512 = some (-99002, z) := by unfold A_tryWeek; rw [show rg 0 511 512 = false by decide, ifF]
  have e4 : A_tryBlocking z (-1) 1 = -99002 := by unfold A_tryBlocking; rw [if_neg (by decide)]
  have e5 : A_tryBestPartner z (nI (aN z)) 1 = -99001 := by unfold A_tryBestPartner; rw [m0, ifF]
  have e6 : A_tryBest z 2 = -99002 := by unfold A_tryBest; rw [show rg 0 1 2 = false by decide, ifF]
  have e7 : A_tryAhead z (nI (aN z)) 61 512 11 = -99001 := by unfold A_tryAhead; rw [m0, ifF]
  rw [if_neg i1_0, e1, nn_bd2, if_pos rfl, e2, nn_bd2, if_pos rfl, e3, nn_bd2, if_pos rfl, e4, if_pos rfl, e5, if_pos rfl, e6, if_pos rfl, e7, if_pos rfl, eq0_if (by omega)]
  by_cases h0 : aN z = 0
  · rw [if_pos h0]
    exact rf_490 h9
  · have m1 := isM_0 (n := aN z) (by omega) (by omega)
    have f1 : A_tryAhead z 0 61 0 0 = -99002 := by unfold A_tryAhead; rw [m1, ifT, show rg 0 60 61 = false by decide, ifF]
    have f2 : A_tryAhead z 0 0 512 0 = -99002 := by unfold A_tryAhead; rw [m1, ifT, show rg 0 60 0 = true by decide, ifT, show rg 0 511 512 = false by decide, ifF]
    have f3 : A_tryAhead z 0 0 0 11 = -99002 := by unfold A_tryAhead; rw [m1, ifT, show rg 0 60 0 = true by decide, ifT, show rg 0 511 0 = true by decide, ifT, show rg 0 10 11 = false by decide, ifF]
    have f4 : A_tryLevelAfter z 0 10 = -99002 := by unfold A_tryLevelAfter; rw [m1, ifT, show rg 0 9 10 = false by decide, ifF]
    have f5 : A_tryPartsAfter z 0 (-1) = -99002 := by unfold A_tryPartsAfter; rw [m1, ifT, show rg 0 511 (-1) = false by decide, ifF]
    rw [if_neg h0, f1, if_pos rfl, f2, if_pos rfl, f3, if_pos rfl, f4, if_pos rfl, f5, if_pos rfl]
    exact rf_490 h9
/-- whether the member 0 has a partner -/
def pd0 (z : aS) : Int32 := if aN z = 0 then 0 else if sFree (aV z) 0 = true then 0 else 1
theorem rf_289 (h9 : aN z ≤ 9) : hL_refuses_289 z (nI (aN z)) (pd0 z) = some (1, z) := by
  have m0 := isM_n (n := aN z) (by omega)
  unfold hL_refuses_289
  have e1 : A_tryPart z (nI (aN z)) = some (-99001, z) := by unfold A_tryPart; rw [m0, ifF]
  rw [e1, nn_bd2, if_pos rfl, eq0_if (by omega)]
  by_cases h0 : aN z = 0
  · rw [if_pos h0]
    exact rf_333 h9
  · have m1 := isM_0 (n := aN z) (by omega) (by omega)
    rw [if_neg h0]
    unfold pd0
    rw [if_neg h0]
    cases hf : sFree (aV z) 0
    · rw [ifF, if_neg i1_0]
      exact rf_333 h9
    · have f1 : A_tryPart z 0 = some (-99003, z) := by unfold A_tryPart; rw [m1, ifT, show (0 : Int32).toNatClampNeg = 0 from rfl, hf, ifT]
      have f2 : A_tryPartsAfter z 0 0 = -99003 := by unfold A_tryPartsAfter; rw [m1, ifT, show rg 0 511 0 = true by decide, ifT, show (0 : Int32).toNatClampNeg = 0 from rfl, hf, ifT]
      rw [ifT, if_pos rfl, f1, nn_bd2, if_pos rfl, f2, if_pos rfl]
      exact rf_333 h9
theorem rf_258 (h9 : aN z ≤ 9) : hL_refuses_258 z (nI (aN z)) (pd0 z) = some (1, z) := by
  have m0 := isM_n (n := aN z) (by omega)
  unfold hL_refuses_258
  have e1 : A_tryPair z 0 (nI (aN z)) = some (-99001, z) := by
    unfold A_tryPair
    by_cases h0 : aN z = 0
    · rw [h0] at m0 ⊢
      rw [show isM 0 0 = false by decide, ifF]
    · rw [isM_0 (n := aN z) (by omega) (by omega), ifT, m0, ifF]
  rw [e1, nn_bd2, if_pos rfl, show (2 : Int32) = nI 2 from rfl, lt_if (by omega) (by decide)]
  by_cases h0 : aN z < 2
  · rw [if_pos h0]
    exact rf_289 h9
  · rw [if_neg h0]
    have hp : pd0 z = if sFree (aV z) 0 = true then 0 else 1 := by
      unfold pd0
      rw [if_neg (show ¬ aN z = 0 by omega)]
    cases hf : sFree (aV z) 0
    · rw [hf, ifF] at hp
      have m1 := isM_0 (n := aN z) (by omega) (by omega)
      have m2 : isM (aN z) 1 = true := isM_a (a := 1) (by omega) (by omega)
      have f1 : A_tryPair z 0 1 = some (-99003, z) := by
        unfold A_tryPair
        rw [m1, ifT, m2, ifT, if_neg (show ¬ (0 : Int32) = 1 by decide), show (0 : Int32).toNatClampNeg = 0 from rfl]
        unfold may
        rw [hf, Bool.false_and, Bool.false_and, ifF]
      have h2 := rf_289 h9
      rw [hp] at h2 ⊢
      rw [if_neg i1_0, f1, nn_bd2, if_pos rfl]
      exact h2
    · rw [hf, ifT] at hp
      have h2 := rf_289 h9
      rw [hp] at h2 ⊢
      rw [if_pos rfl]
      exact h2
theorem rf_206 (h9 : aN z ≤ 9) : hL_refuses_206 z (nI (aN z)) (pd0 z) = some (1, z) := by
  have m0 := isM_n (n := aN z) (by omega)
  unfold hL_refuses_206
  have e1 : A_tryTest z (nI (aN z)) 4 0 = some (-99001, z) := by unfold A_tryTest; rw [m0, ifF]
  rw [e1, nn_bd2, if_pos rfl, eq0_if (by omega)]
  by_cases h0 : aN z = 0
  · rw [if_pos h0]
    exact rf_258 h9
  · have m1 := isM_0 (n := aN z) (by omega) (by omega)
    have f1 : A_tryTest z 0 4 0 = some (-99002, z) := by unfold A_tryTest; rw [m1, ifT, show rg 0 3 4 = false by decide, ifF]
    have f2 : A_tryTest z 0 0 100 = some (-99002, z) := by unfold A_tryTest; rw [m1, ifT, show rg 0 3 0 = true by decide, ifT, show rg 0 99 100 = false by decide, ifF]
    have f3 : A_tryPair z 0 0 = some (-99002, z) := by unfold A_tryPair; rw [m1, ifT, ifT, if_pos rfl]
    rw [if_neg h0, f1, nn_bd2, if_pos rfl, f2, nn_bd2, if_pos rfl, f3, nn_bd2, if_pos rfl]
    exact rf_258 h9
theorem rf_170 (h9 : aN z ≤ 9) : hL_refuses_170 z (nI (aN z)) (pd0 z) = some (1, z) := by
  have m0 := isM_n (n := aN z) (by omega)
  unfold hL_refuses_170
  have e1 : A_tryLeave z (nI (aN z)) = some (-99001, z) := by unfold A_tryLeave; rw [m0, ifF]
  have e2 : A_tryWant z (nI (aN z)) 4 = some (-99001, z) := by unfold A_tryWant; rw [m0, ifF]
  rw [e1, nn_bd2, if_pos rfl, e2, nn_bd2, if_pos rfl, eq0_if (by omega)]
  by_cases h0 : aN z = 0
  · rw [if_pos h0]
    exact rf_206 h9
  · have m1 := isM_0 (n := aN z) (by omega) (by omega)
    have f1 : A_tryWant z 0 4 = some (-99002, z) := by unfold A_tryWant; rw [m1, ifT, show rg 0 3 4 = false by decide, ifF]
    rw [if_neg h0, f1, nn_bd2, if_pos rfl]
    exact rf_206 h9
theorem rf_113 (h9 : aN z ≤ 9) : hL_refuses_113 z (nI (aN z)) (pd0 z) = some (1, z) := by
  unfold hL_refuses_113
  have e1 : A_tryJoin z 4 0 0 = some (-99002, z) := by unfold A_tryJoin; rw [show rg 0 3 4 = false by decide, ifF]
  have e2 : A_tryJoin z 0 10000 0 = some (-99002, z) := by unfold A_tryJoin; rw [show rg 0 3 0 = true by decide, ifT, show rg 0 9999 10000 = false by decide, ifF]
  have e3 : A_tryJoin z 0 0 100 = some (-99002, z) := by unfold A_tryJoin; rw [show rg 0 3 0 = true by decide, ifT, show rg 0 9999 0 = true by decide, ifT, show rg (-99) 99 100 = false by decide, ifF]
  rw [e1, nn_bd2, if_pos rfl, e2, nn_bd2, if_pos rfl, e3, nn_bd2, if_pos rfl, show (9 : Int32) = nI 9 from rfl, lt_if (by omega) (by decide)]
  by_cases h0 : aN z < 9
  · rw [if_pos h0]
    exact rf_170 h9
  · have f1 : A_tryJoin z 0 0 0 = some (-99003, z) := by unfold A_tryJoin; rw [show rg 0 3 0 = true by decide, ifT, show rg 0 9999 0 = true by decide, ifT, show rg (-99) 99 0 = true by decide, ifT, if_neg h0]
    rw [if_neg h0, f1, nn_bd2, if_pos rfl]
    exact rf_170 h9
theorem rf_96 (h9 : aN z ≤ 9) : hL_refuses_96 z (nI (aN z)) (pd0 z) = some (1, z) := by
  unfold hL_refuses_96
  rw [show (2 : Int32) = nI 2 from rfl, lt_if (by omega) (by decide)]
  by_cases h0 : aN z < 2
  · rw [if_pos h0]
    exact rf_113 h9
  · have f1 : A_tryBoth z 0 1 4 = -99002 := by
      unfold A_tryBoth
      rw [isM_0 (n := aN z) (by omega) (by omega), ifT, show isM (aN z) 1 = true from isM_a (a := 1) (by omega) (by omega), ifT, if_neg (show ¬ (0 : Int32) = 1 by decide), if_neg (show ¬ (4 : Int32) = 0 by decide), if_neg (show ¬ (4 : Int32) = 1 by decide), if_neg (show ¬ (4 : Int32) = 2 by decide), if_neg (show ¬ (4 : Int32) = 3 by decide)]
    rw [if_neg h0, f1, if_pos rfl]
    exact rf_113 h9
theorem rf_68 (h9 : aN z ≤ 9) : hL_refuses_68 z (nI (aN z)) (pd0 z) = some (1, z) := by
  have m0 := isM_n (n := aN z) (by omega)
  unfold hL_refuses_68
  have e1 : A_tryBoth z (nI (aN z)) 0 4 = -99001 := by unfold A_tryBoth; rw [m0, ifF]
  rw [e1, if_pos rfl, eq0_if (by omega)]
  by_cases h0 : aN z = 0
  · rw [if_pos h0]
    exact rf_96 h9
  · have f1 : A_tryBoth z 0 0 0 = -99002 := by unfold A_tryBoth; rw [isM_0 (n := aN z) (by omega) (by omega), ifT, ifT, if_pos rfl]
    rw [if_neg h0, f1, if_pos rfl]
    exact rf_96 h9
theorem rf_28 (h9 : aN z ≤ 9) : hL_refuses_28 z (nI (aN z)) (pd0 z) = some (1, z) := by
  have m0 := isM_n (n := aN z) (by omega)
  unfold hL_refuses_28
  have e0 : A_tryAbout z 7 = -99002 := rfl
  have e1 : A_tryMember z (nI (aN z)) 11 = -99001 := by unfold A_tryMember; rw [m0, ifF]
  rw [e0, if_pos rfl, e1, if_pos rfl, eq0_if (by omega)]
  by_cases h0 : aN z = 0
  · rw [if_pos h0]
    exact rf_68 h9
  · have f1 : A_tryMember z 0 11 = -99002 := by unfold A_tryMember; rw [isM_0 (n := aN z) (by omega) (by omega), ifT, show rg 0 10 11 = false by decide, ifF]
    rw [if_neg h0, f1, if_pos rfl]
    exact rf_68 h9
theorem mem_8 (h9 : aN z ≤ 9) {a : Nat} (ha : a < aN z) : A_tryMember z (nI a) 8 = aV z (2 + 10 * a + 8) := by
  unfold A_tryMember
  rw [isM_a ha (by omega), ifT, show rg 0 10 8 = true by decide, ifT, nn_tn (by omega)]
  rfl
theorem P_refuses (h9 : aN z ≤ 9) : hL_refuses z = some (1, z) := by
  have h := rf_28 h9
  unfold hL_refuses
  have e0 : A_tryAbout z 0 = nI (aN z) := rfl
  by_cases h0 : aN z = 0
  · rw [e0, if_pos (show nI (aN z) ≤ 0 by rw [h0]; decide)]
    unfold pd0 at h
    rw [if_pos h0] at h
    exact h
  · have e1 : A_tryMember z 0 8 = aV z (2 + 10 * 0 + 8) := mem_8 h9 (a := 0) (by omega)
    rw [e0, if_neg (show ¬ nI (aN z) ≤ 0 from fun h1 => h0 (by
      rw [show ((0 : Int32)) = nI 0 from rfl, nn_le (by omega) (by decide)] at h1
      omega)), e1]
    unfold pd0 at h
    rw [if_neg h0] at h
    by_cases hf : aV z (2 + 10 * 0 + 8) = -9999
    · rw [sFree_t hf, ifT] at h
      rw [if_pos hf]
      exact h
    · have hf2 : sFree (aV z) 0 = false := decide_eq_false hf
      rw [hf2, ifF] at h
      rw [if_neg hf]
      exact h
end S92
/-! TWO OBJECTS of which the same is told are alike -/
section S93
variable {z : aS}
theorem ak_57 (q : Int32 → Int32 → Option Int32) (x : Int32) : ∀ (d c fuel : Nat), c + d = 11 → d < fuel → hL_alike_57 z z q fuel 1 x (nI c) = q 1 (x + 1)
  | 0, c, fuel, hc, hf => by
    obtain ⟨f, rfl⟩ : ∃ f, fuel = f + 1 := ⟨fuel - 1, by omega⟩
    obtain rfl : c = 11 := by omega
    unfold hL_alike_57
    rw [if_pos (show (11 : Int32) ≤ nI 11 by decide)]
  | d + 1, c, fuel, hc, hf => by
    obtain ⟨f, rfl⟩ : ∃ f, fuel = f + 1 := ⟨fuel - 1, by omega⟩
    unfold hL_alike_57
    rw [show (11 : Int32) = nI 11 from rfl, if_neg (by rw [nn_le (by decide) (by omega)]; omega), if_neg i1_0, if_pos rfl, li1, nn_add]
    exact ak_57 q x d (c + 1) f (by omega) (by omega)
theorem ak_41 (h9 : aN z ≤ 9) : ∀ (d c fuel : Nat), c + d = aN z → d < fuel → hL_alike_41 z z fuel 1 (nI c) = some 1
  | 0, c, fuel, hc, hf => by
    obtain ⟨f, rfl⟩ : ∃ f, fuel = f + 1 := ⟨fuel - 1, by omega⟩
    unfold hL_alike_41
    rw [show A_tryAbout z 0 = nI (aN z) from rfl, if_pos (by rw [nn_le (by omega) (by omega)]; omega)]; rfl
  | d + 1, c, fuel, hc, hf => by
    obtain ⟨f, rfl⟩ : ∃ f, fuel = f + 1 := ⟨fuel - 1, by omega⟩
    unfold hL_alike_41
    rw [show A_tryAbout z 0 = nI (aN z) from rfl, if_neg (by rw [nn_le (by omega) (by omega)]; omega), if_neg i1_0]
    rw [show hL_alike_57 z z (hL_alike_41 z z f) 12 1 (nI c) 0 = _ from ak_57 (hL_alike_41 z z f) (nI c) 11 0 12 rfl (by decide), li1, nn_add]
    exact ak_41 h9 d (c + 1) f (by omega) (by omega)
theorem ak_4 (h9 : aN z ≤ 9) : ∀ (d c fuel : Nat), c + d = 7 → d < fuel → hL_alike_4 z z fuel 1 (nI c) = some 1
  | 0, c, fuel, hc, hf => by
    obtain ⟨f, rfl⟩ : ∃ f, fuel = f + 1 := ⟨fuel - 1, by omega⟩
    obtain rfl : c = 7 := by omega
    unfold hL_alike_4
    rw [if_pos (show (7 : Int32) ≤ nI 7 by decide)]
    exact ak_41 h9 (aN z) 0 10 (Nat.zero_add _) (by omega)
  | d + 1, c, fuel, hc, hf => by
    obtain ⟨f, rfl⟩ : ∃ f, fuel = f + 1 := ⟨fuel - 1, by omega⟩
    unfold hL_alike_4
    rw [show (7 : Int32) = nI 7 from rfl, if_neg (by rw [nn_le (by decide) (by omega)]; omega), if_neg i1_0, if_pos rfl, li1, nn_add]
    exact ak_4 h9 d (c + 1) f (by omega) (by omega)
theorem P_alike (h9 : aN z ≤ 9) : hL_alike z z = some 1 := ak_4 h9 7 0 8 rfl (by decide)
end S93
