section S55
variable {n M : Nat} {v : tePg} {S T : teS}
theorem rg_lang {y : Nat} (hy : y < 10) : rg 0 3 (nI y) = decide (y < 4) := by
  unfold rg
  rw [decide_eq_true (show ¬ nI y < 0 from nI_pos (by omega)), Bool.true_and]
  apply decide_eq_decide.mpr
  rw [li3, nn_lt (by decide) (by omega)]
  omega
theorem cmd5 (hW : WF n M v) (hE : PE n (S 1) v) (hT : T 373 = v) (hM : M + 9 < 100000) {x y z : Nat} (hx : x < 10) (hy : y < 10) (hz : z < 10) :
    CMD n (M + 9) S T (if ((((100 : Int32) * nI x) + ((10 : Int32) * nI y)) + nI z) ≤ (511 : Int32) then (bd1 (fX1_passWeek 1 ((((100 : Int32) * nI x) + ((10 : Int32) * nI y)) + nI z) S) fun S5 => some ((1 : Int32), S5)) else some ((0 : Int32), S)) (fX6_does 5 (nI x) (nI y) (nI z) T) := by
  have h9 := hW.1
  have e0 : T 373 0 = nI n := by rw [hT]; exact hW.2.2.1
  rw [does_eq h9 e0]
  unfold fX6_does_31
  rw [if_neg (show ¬ (5 : Int32) = 1 by decide), if_neg (show ¬ (5 : Int32) = 2 by decide), if_neg (show ¬ (5 : Int32) = 3 by decide), if_neg (show ¬ (5 : Int32) = 4 by decide), if_pos (show (5 : Int32) = 5 from rfl)]
  rw [show ((100 : Int32) * nI x) + ((10 : Int32) * nI y) + nI z = nI (100 * x + 10 * y + z) by rw [li100, li10, nn_mul, nn_mul, nn_add, nn_add], show ((100 : Int32) * nI x) + (((10 : Int32) * nI y) + nI z) = nI (100 * x + 10 * y + z) by rw [li100, li10, nn_mul, nn_mul, nn_add, nn_add, Nat.add_assoc]]
  generalize hk : 100 * x + 10 * y + z = k
  have hk2 : k < 1000 := by omega
  by_cases h : nI k ≤ 511
  · have hr : rg 0 511 (nI k) = true := by
      unfold rg
      rw [decide_eq_true (show ¬ nI k < 0 from nI_pos (by omega)), decide_eq_true (show ¬ 511 < nI k from Int32.not_lt.mpr h)]
      rfl
    obtain ⟨p, g1, g2⟩ := r1_week hW hE hM (nI k)
    rw [if_pos h, r6_ab_t hr, nn_bd1, if_neg i1_0, g1, nn_bd1, r6_week rfl hW hT hM (nI k), nn_bd1]
    exact ⟨true, p, _, rfl, rfl, wf_week hW hM _, g2⟩
  · have hr : rg 0 511 (nI k) = false := by
      unfold rg
      rw [decide_eq_false (not_not_intro (Int32.not_le.mp h)), Bool.and_false]
    rw [if_neg h, r6_ab_f hr, nn_bd1, if_pos rfl]
    exact cmd_no hW hE hT hM rfl rfl
theorem lv_nn (hW : WF n M v) {a l : Nat} (ha : a < n) (hl : l < 4) : ¬ v (2 + 10 * a + l) < 0 := by
  obtain ⟨y, hy, e⟩ := (hW.2.2.2 a ha).1 l hl
  rw [e]
  exact nI_pos (by omega)
theorem cmd6 (hW : WF n M v) (hE : PE n (S 1) v) (hT : T 373 = v) (hM : M + 9 < 100000) {x y z : Nat} (hx : x < 10) (hy : y < 10) (hz : z < 10) :
    CMD n (M + 9) S T (bd1 (fX1_has 1 (nI x) S) fun r_43 => if r_43 = 0 then some ((0 : Int32), S) else (if nI y < (4 : Int32) then (bd1 (fX1_grade 1 (nI x) (nI y) ((10 : Int32) * nI z) S) fun S6 => some ((1 : Int32), S6)) else some ((0 : Int32), S))) (fX6_does 6 (nI x) (nI y) (nI z) T) := by
  have h9 := hW.1
  have e0 : T 373 0 = nI n := by rw [hT]; exact hW.2.2.1
  rw [does_eq h9 e0]
  unfold fX6_does_31
  rw [if_neg (show ¬ (6 : Int32) = 1 by decide), if_neg (show ¬ (6 : Int32) = 2 by decide), if_neg (show ¬ (6 : Int32) = 3 by decide), if_neg (show ¬ (6 : Int32) = 4 by decide), if_neg (show ¬ (6 : Int32) = 5 by decide), if_pos (show (6 : Int32) = 6 from rfl), r1_isM' hW hE, nn_bd1]
  cases hmx : isM n (nI x)
  · rw [if_pos (show bI false = 0 from rfl), if_pos (show bI false = 0 from rfl)]
    exact cmd_no hW hE hT hM rfl rfl
  · obtain ⟨a, ha, ea⟩ := isM_t h9 hmx
    rw [if_neg (show ¬ bI true = 0 by decide), if_neg (show ¬ bI true = 0 by decide), li4, lt_if (by omega) (by decide)]
    by_cases h4 : y < 4
    · have hr : rg 0 3 (nI y) = true := by rw [rg_lang hy]; exact decide_eq_true h4
      rw [if_pos h4, r6_tg_t hr, nn_bd1, if_neg i1_0, ea, li10, nn_mul]
      obtain ⟨p, g1, g2⟩ := r1_test (l := y) (x := 10 * z) hW hE ha h4 (by omega)
      rw [g1, nn_bd1, r6_test rfl hW hT ha h4 (by omega), nn_bd2, if_neg (lv_nn hW ha h4)]
      exact ⟨true, p, _, rfl, rfl, wf_le (wf_mend (wf_test1 hW h4 (by omega)) ha) (by omega) hM, g2⟩
    · have hr : rg 0 3 (nI y) = false := by rw [rg_lang hy]; exact decide_eq_false h4
      rw [if_neg h4, r6_tg_f hr, nn_bd1, if_pos rfl]
      exact cmd_no hW hE hT hM rfl rfl
theorem b_if (c : Prop) [Decidable c] (S : teS) : (if c then some ((1 : Int32), S) else some ((0 : Int32), S)) = some (bI (decide c), S) := by
  by_cases h : c
  · rw [if_pos h, decide_eq_true h]; rfl
  · rw [if_neg h, decide_eq_false h]; rfl
theorem cmd7 (hW : WF n M v) (hE : PE n (S 1) v) (hT : T 373 = v) (hM : M + 9 < 100000) {x y z : Nat} (hx : x < 10) (hy : y < 10) (hz : z < 10) :
    CMD n (M + 9) S T (if nI z = 0 then (bd1 (fX1_has 1 (nI x) S) fun r_51 => if r_51 = 0 then some ((0 : Int32), S) else (bd1 (fX1_has 1 (nI y) S) fun r_54 => if r_54 = 0 then some ((0 : Int32), S) else (chk (tein (nI x) 9) <| if (S 1 (2 + 10 * (nI x).toNatClampNeg + 8)) = nI y then some ((1 : Int32), S) else some ((0 : Int32), S)))) else some ((0 : Int32), S)) (fX6_does 7 (nI x) (nI y) (nI z) T) := by
  have h9 := hW.1
  have e0 : T 373 0 = nI n := by rw [hT]; exact hW.2.2.1
  rw [does_eq h9 e0]
  unfold fX6_does_31
  rw [if_neg (show ¬ (7 : Int32) = 1 by decide), if_neg (show ¬ (7 : Int32) = 2 by decide), if_neg (show ¬ (7 : Int32) = 3 by decide), if_neg (show ¬ (7 : Int32) = 4 by decide), if_neg (show ¬ (7 : Int32) = 5 by decide), if_neg (show ¬ (7 : Int32) = 6 by decide), if_pos (show (7 : Int32) = 7 from rfl), r1_isM' hW hE, nn_bd1, r1_isM' hW hE, nn_bd1, bI_if (isM n (nI x) && isM n (nI y))]
  cases hmx : isM n (nI x)
  · refine cmd_no hW hE hT hM ?_ (by rw [Bool.false_and, if_pos rfl])
    rw [if_pos (show bI false = 0 from rfl)]
    split <;> rfl
  · cases hmy : isM n (nI y)
    · refine cmd_no hW hE hT hM ?_ (by rw [Bool.and_false, if_pos rfl])
      rw [if_neg (show ¬ bI true = 0 by decide), if_pos (show bI false = 0 from rfl)]
      split <;> rfl
    · rw [if_neg (show ¬ bI true = 0 by decide), if_neg (show ¬ bI true = 0 by decide), Bool.and_true, if_neg (show ¬ true = false by decide)]
      by_cases hz0 : nI z = 0
      · obtain ⟨a, ha, ea⟩ := isM_t h9 hmx
        rw [if_pos hz0, if_pos hz0, ea, nn_in (by omega) (by decide), nn_tn (by omega), (hE.2.2 a ha).1 8 (by decide), b_if]
        simp (disch := omega) only [r6_at, nn_bd1, li8, nn_add, nn_in, nn_tn, hT]
        rw [b_if]
        exact cmd_is hW hE hT hM _ rfl rfl
      · rw [if_neg hz0, if_neg hz0]
        exact cmd_no hW hE hT hM rfl rfl
theorem cmd8 (hW : WF n M v) (hE : PE n (S 1) v) (hT : T 373 = v) (hM : M + 9 < 100000) {x y z : Nat} (hx : x < 10) (hy : y < 10) (hz : z < 10) :
    CMD n (M + 9) S T (if nI x = 0 then (if nI y = 0 then (bd1 (fX1_countPairs 1 S) fun r_62 => if r_62 = nI z then some ((1 : Int32), S) else some ((0 : Int32), S)) else some ((0 : Int32), S)) else some ((0 : Int32), S)) (fX6_does 8 (nI x) (nI y) (nI z) T) := by
  have h9 := hW.1
  have e0 : T 373 0 = nI n := by rw [hT]; exact hW.2.2.1
  rw [does_eq h9 e0]
  unfold fX6_does_31
  rw [if_neg (show ¬ (8 : Int32) = 1 by decide), if_neg (show ¬ (8 : Int32) = 2 by decide), if_neg (show ¬ (8 : Int32) = 3 by decide), if_neg (show ¬ (8 : Int32) = 4 by decide), if_neg (show ¬ (8 : Int32) = 5 by decide), if_neg (show ¬ (8 : Int32) = 6 by decide), if_neg (show ¬ (8 : Int32) = 7 by decide), if_pos (show (8 : Int32) = 8 from rfl)]
  obtain ⟨q, q1, q2⟩ := c_prs (r := 373) rfl hW hE hT
  by_cases h0 : nI x = 0
  · rw [if_pos h0, if_pos h0]
    by_cases h1 : nI y = 0
    · rw [if_pos h1, if_pos h1, q1, nn_bd1, q2, nn_bd1, b_if, b_if]
      exact cmd_is hW hE hT hM _ rfl rfl
    · rw [if_neg h1, if_neg h1]
      exact cmd_no hW hE hT hM rfl rfl
  · rw [if_neg h0, if_neg h0]
    exact cmd_no hW hE hT hM rfl rfl
theorem cmd9 (hW : WF n M v) (hE : PE n (S 1) v) (hT : T 373 = v) (hM : M + 9 < 100000) {x y z : Nat} (hx : x < 10) (hy : y < 10) (hz : z < 10) :
    CMD n (M + 9) S T (bd1 (fX1_has 1 (nI x) S) fun r_66 => if r_66 = 0 then some ((0 : Int32), S) else (if (4 : Int32) ≤ nI y then some ((0 : Int32), S) else (chk (tein (nI x) 9) <| chk (tein (nI y) 4) <| if (S 1 (2 + 10 * (nI x).toNatClampNeg + (nI y).toNatClampNeg)) = nI z then some ((1 : Int32), S) else some ((0 : Int32), S)))) (fX6_does 9 (nI x) (nI y) (nI z) T) := by
  have h9 := hW.1
  have e0 : T 373 0 = nI n := by rw [hT]; exact hW.2.2.1
  rw [does_eq h9 e0]
  unfold fX6_does_31
  rw [if_neg (show ¬ (9 : Int32) = 1 by decide), if_neg (show ¬ (9 : Int32) = 2 by decide), if_neg (show ¬ (9 : Int32) = 3 by decide), if_neg (show ¬ (9 : Int32) = 4 by decide), if_neg (show ¬ (9 : Int32) = 5 by decide), if_neg (show ¬ (9 : Int32) = 6 by decide), if_neg (show ¬ (9 : Int32) = 7 by decide), if_neg (show ¬ (9 : Int32) = 8 by decide), if_pos (show (9 : Int32) = 9 from rfl), r1_isM' hW hE, nn_bd1]
  cases hmx : isM n (nI x)
  · rw [if_pos (show bI false = 0 from rfl), if_pos (show bI false = 0 from rfl)]
    exact cmd_no hW hE hT hM rfl rfl
  · obtain ⟨a, ha, ea⟩ := isM_t h9 hmx
    rw [if_neg (show ¬ bI true = 0 by decide), if_neg (show ¬ bI true = 0 by decide), li4, le_if (by decide) (by omega)]
    by_cases h4 : y < 4
    · have hr : rg 0 3 (nI y) = true := by rw [rg_lang hy]; exact decide_eq_true h4
      rw [if_neg (show ¬ 4 ≤ y by omega), r6_tg_t hr, nn_bd1, if_neg i1_0, ea, nn_in (by omega) (by decide), nn_in (by omega) (by decide), nn_tn (by omega), nn_tn (by omega), (hE.2.2 a ha).1 y (by omega), b_if]
      simp (disch := omega) only [r6_at, nn_bd1, nn_add, nn_in, nn_tn, hT]
      rw [b_if]
      exact cmd_is hW hE hT hM _ rfl rfl
    · have hr : rg 0 3 (nI y) = false := by rw [rg_lang hy]; exact decide_eq_false h4
      rw [if_pos (show 4 ≤ y by omega), r6_tg_f hr, nn_bd1, if_pos rfl]
      exact cmd_no hW hE hT hM rfl rfl
end S55
