section S54
variable {n M : Nat} {v : tePg} {S T : teS}
theorem t0_if {α : Type} {y z : Nat} (hy : y < 10) (hz : z < 10) (a b : α) : (if (((10 : Int32) * nI y) + nI z) = 0 then a else b) = if y = 0 then (if z = 0 then a else b) else b := by
  rw [li10, nn_mul, nn_add, eq0_if (by omega)]
  by_cases h : y = 0
  · rw [if_pos h]
    by_cases h2 : z = 0
    · rw [if_pos h2, if_pos (show 10 * y + z = 0 by omega)]
    · rw [if_neg h2, if_neg (show ¬ 10 * y + z = 0 by omega)]
  · rw [if_neg h, if_neg (show ¬ 10 * y + z = 0 by omega)]
theorem cmd2 (hW : WF n M v) (hE : PE n (S 1) v) (hT : T 373 = v) (hM : M + 9 < 100000) {x y z : Nat} (hx : x < 10) (hy : y < 10) (hz : z < 10) :
    CMD n (M + 9) S T (if nI y = 0 then (if nI z = 0 then (bd1 (fX1_has 1 (nI x) S) fun r_18 => if r_18 = 0 then some ((0 : Int32), S) else (bd1 (fX1_isFree 1 (nI x) S) fun r_21 => if r_21 = 0 then (bd1 (fX1_separate 1 (nI x) S) fun S2 => some ((1 : Int32), S2)) else some ((0 : Int32), S))) else some ((0 : Int32), S)) else some ((0 : Int32), S)) (fX6_does 2 (nI x) (nI y) (nI z) T) := by
  have h9 := hW.1
  have e0 : T 373 0 = nI n := by rw [hT]; exact hW.2.2.1
  rw [does_eq h9 e0]
  unfold fX6_does_31
  rw [if_neg (show ¬ (2 : Int32) = 1 by decide), if_pos (show (2 : Int32) = 2 from rfl), t0_if hy hz, r1_isM' hW hE, nn_bd1, eq0_if (show y < 2147483648 by omega), eq0_if (show z < 2147483648 by omega)]
  cases hmx : isM n (nI x)
  · refine cmd_no hW hE hT hM ?_ (by rw [if_pos (show bI false = 0 from rfl)])
    rw [if_pos (show bI false = 0 from rfl)]
    by_cases h1 : y = 0
    · rw [if_pos h1]; split <;> rfl
    · rw [if_neg h1]
  · obtain ⟨a, ha, ea⟩ := isM_t h9 hmx
    rw [if_neg (show ¬ bI true = 0 by decide), if_neg (show ¬ bI true = 0 by decide)]
    by_cases h1 : y = 0
    · rw [if_pos h1, if_pos h1]
      by_cases h2 : z = 0
      · rw [if_pos h2, if_pos h2, ea, r1_free hW hE ha, nn_bd1, r6_free rfl h9 hT ha, nn_bd1]
        cases hf : sFree v a
        · rw [if_pos (show bI false = 0 from rfl), if_pos (show bI false = 0 from rfl)]
          obtain ⟨p, g1, g2⟩ := r1_sep hW hE ha
          rw [g1, nn_bd1, r6_part rfl hW hT ha, nn_bd1]
          exact ⟨true, p, _, rfl, rfl, wf_le (wf_mp hW ha) (by omega) hM, g2⟩
        · rw [if_neg (show ¬ bI true = 0 by decide), if_neg (show ¬ bI true = 0 by decide)]
          exact cmd_no hW hE hT hM rfl rfl
      · rw [if_neg h2, if_neg h2]
        exact cmd_no hW hE hT hM rfl rfl
    · rw [if_neg h1, if_neg h1]
      exact cmd_no hW hE hT hM rfl rfl
theorem cmd3 (hW : WF n M v) (hE : PE n (S 1) v) (hT : T 373 = v) (hM : M + 9 < 100000) {x y z : Nat} (hx : x < 10) (hy : y < 10) (hz : z < 10) :
    CMD n (M + 9) S T (if nI x = 0 then (if nI y = 0 then (if nI z = 0 then (bd2 (fX1_matchFree 1 S) fun r_30 S3 => some ((1 : Int32), S3)) else some ((0 : Int32), S)) else some ((0 : Int32), S)) else some ((0 : Int32), S)) (fX6_does 3 (nI x) (nI y) (nI z) T) := by
  have h9 := hW.1
  have e0 : T 373 0 = nI n := by rw [hT]; exact hW.2.2.1
  rw [does_eq h9 e0]
  unfold fX6_does_31
  rw [if_neg (show ¬ (3 : Int32) = 1 by decide), if_neg (show ¬ (3 : Int32) = 2 by decide), if_pos (show (3 : Int32) = 3 from rfl), t0_if hy hz]
  rw [eq0_if (show y < 2147483648 by omega), eq0_if (show z < 2147483648 by omega)]
  by_cases h0 : nI x = 0
  · rw [if_pos h0, if_pos h0]
    by_cases h1 : y = 0
    · rw [if_pos h1, if_pos h1]
      by_cases h2 : z = 0
      · rw [if_pos h2, if_pos h2]
        obtain ⟨p, g1, g2⟩ := r1_match hW hE
        have hle := mt_le (n := n) 4 v
        rw [g1, nn_bd2, r6_match rfl hW hT, nn_bd2, if_neg (nI_pos (by omega))]
        exact ⟨true, p, _, rfl, rfl, wf_le (wf_mt 4 v hW) (by omega) hM, g2⟩
      · rw [if_neg h2, if_neg h2]
        exact cmd_no hW hE hT hM rfl rfl
    · rw [if_neg h1, if_neg h1]
      exact cmd_no hW hE hT hM rfl rfl
  · rw [if_neg h0, if_neg h0]
    exact cmd_no hW hE hT hM rfl rfl
theorem li50 : (50 : Int32) = nI 50 := rfl
theorem li511 : (511 : Int32) = nI 511 := rfl
theorem cmd4 (hW : WF n M v) (hE : PE n (S 1) v) (hT : T 373 = v) (hM : M + 9 < 100000) {x y z : Nat} (hx : x < 10) (hy : y < 10) (hz : z < 10) :
    CMD n (M + 9) S T (if nI x = 0 then (if (((10 : Int32) * nI y) + nI z) < (1 : Int32) then some ((0 : Int32), S) else (if (((10 : Int32) * nI y) + nI z) ≤ (50 : Int32) then (bd2 (fX1_settleBy 1 (((10 : Int32) * nI y) + nI z) S) fun r_36 S4 => some ((1 : Int32), S4)) else some ((0 : Int32), S))) else some ((0 : Int32), S)) (fX6_does 4 (nI x) (nI y) (nI z) T) := by
  have h9 := hW.1
  have e0 : T 373 0 = nI n := by rw [hT]; exact hW.2.2.1
  rw [does_eq h9 e0]
  unfold fX6_does_31
  rw [if_neg (show ¬ (4 : Int32) = 1 by decide), if_neg (show ¬ (4 : Int32) = 2 by decide), if_neg (show ¬ (4 : Int32) = 3 by decide), if_pos (show (4 : Int32) = 4 from rfl)]
  by_cases h0 : nI x = 0
  · rw [if_pos h0, if_pos h0, li10, nn_mul, nn_add]
    have h1 := r6_in (nI (10 * y + z)) 1 50 T
    rw [show (1 : Int64) = (1 : Int32).toInt64 by decide, show (50 : Int64) = (50 : Int32).toInt64 by decide, h1, nn_bd1]
    by_cases h2 : nI (10 * y + z) < 1
    · rw [if_pos h2, decide_eq_false (not_not_intro h2), Bool.false_and, if_pos (show bI false = 0 from rfl)]
      exact cmd_no hW hE hT hM rfl rfl
    · rw [if_neg h2, decide_eq_true h2, Bool.true_and]
      by_cases h3 : nI (10 * y + z) ≤ 50
      · rw [if_pos h3, decide_eq_true (show ¬ 50 < nI (10 * y + z) from Int32.not_lt.mpr h3), if_neg (show ¬ bI true = 0 by decide)]
        have h4 : 10 * y + z ≤ 50 := by
          rw [li50, nn_le (by omega) (by omega)] at h3
          exact h3
        obtain ⟨p, g1, g2⟩ := r1_settle h4 hW hE
        have hle := st_le (n := n) (10 * y + z) v
        rw [g1, nn_bd2, r6_settle h4 rfl hW hT, nn_bd2, if_neg (nI_pos (by omega))]
        exact ⟨true, p, _, rfl, rfl, wf_le (wf_st _ v hW) (by omega) hM, g2⟩
      · rw [if_neg h3, decide_eq_false (not_not_intro (Int32.not_le.mp h3)), if_pos (show bI false = 0 from rfl)]
        exact cmd_no hW hE hT hM rfl rfl
  · rw [if_neg h0, if_neg h0]
    exact cmd_no hW hE hT hM rfl rfl
end S54
