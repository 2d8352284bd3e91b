/-! SCRIPTS: each command by its digits -/
def cmdA (n : Nat) (v : tePg) (q x y w : Nat) : Option tePg :=
  if q = 1 then (if w = 0 then (if x < n then (if y < n then (if x = y then none else if may v x y = true then some (sUni v x y) else none) else none) else none) else none)
  else if q = 2 then (if y = 0 then (if w = 0 then (if x < n then (if sFree v x = true then none else some (mPart v x)) else none) else none) else none)
  else if q = 3 then (if x = 0 then (if y = 0 then (if w = 0 then some (mt n 4 v).2 else none) else none) else none)
  else if q = 4 then (if x = 0 then (if 10 * y + w < 1 then none else if 10 * y + w ≤ 50 then some (st n (10 * y + w) v).2 else none) else none)
  else if q = 5 then (if 100 * x + 10 * y + w ≤ 511 then some (sWeek n (nI (100 * x + 10 * y + w)) v) else none)
  else if q = 6 then (if x < n then (if y < 4 then some (sTest v x y (10 * w)) else none) else none)
  else if q = 7 then (if w = 0 then (if x < n then (if y < n then (if v (2 + 10 * x + 8) = nI y then some v else none) else none) else none) else none)
  else if q = 8 then (if x = 0 then (if y = 0 then (if nPrs n v = nI w then some v else none) else none) else none)
  else if q = 9 then (if x < n then (if y < 4 then (if v (2 + 10 * x + y) = nI w then some v else none) else none) else none)
  else none
def CM (n N : Nat) (S : teS) (v : tePg) (o : Option tePg) (c : Option (Int32 × teS)) : Prop := ∃ p, c = some (bI o.isSome, tst S 1 p) ∧ WF n N (o.getD v) ∧ PE n p (o.getD v)
section S78
variable {n M : Nat} {v : tePg} {S : teS}
theorem cm_no (hW : WF n M v) (hE : PE n (S 1) v) (hM : M + 9 < 100000) : CM n (M + 9) S v none (some (0, S)) := ⟨S 1, by rw [tst_i]; rfl, wf_le hW (by omega) hM, hE⟩
theorem cm_is (hW : WF n M v) (hE : PE n (S 1) v) (hM : M + 9 < 100000) : CM n (M + 9) S v (some v) (some (1, S)) := ⟨S 1, by rw [tst_i]; rfl, wf_le hW (by omega) hM, hE⟩
theorem cm_do {u p : tePg} (hW : WF n (M + 9) u) (hE : PE n p u) : CM n (M + 9) S v (some u) (some (1, tst S 1 p)) := ⟨p, rfl, hW, hE⟩
theorem has_if {α : Type} (hW : WF n M v) (hE : PE n (S 1) v) {x : Nat} (hx : x < 10) (a : α) (k : Int32 → Option α) : bd1 (fX1_has 1 (nI x) S) k = if x < n then k 1 else k 0 := by
  have h9 := hW.1
  rw [r1_isM (hE.1.trans hW.2.2.1), nn_bd1]
  have e : isM n (nI x) = decide (x < n) := by
    unfold isM
    rw [decide_eq_true (nI_pos (show x < 2147483648 by omega)), Bool.true_and]
    exact decide_eq_decide.mpr (by rw [nn_le (by omega) (by omega)]; omega)
  rw [e]
  by_cases h : x < n
  · rw [if_pos h, decide_eq_true h]; rfl
  · rw [if_neg h, decide_eq_false h]; rfl
theorem has_b {β : Type} (hW : WF n M v) (hE : PE n (S 1) v) {x : Nat} (hx : x < 10) (k : Int32 → Option β) : bd1 (fX1_has 1 (nI x) S) k = if x < n then k 1 else k 0 := by
  have h9 := hW.1
  rw [r1_isM (hE.1.trans hW.2.2.1), nn_bd1]
  have e : isM n (nI x) = decide (x < n) := by
    unfold isM
    rw [decide_eq_true (nI_pos (show x < 2147483648 by omega)), Bool.true_and]
    exact decide_eq_decide.mpr (by rw [nn_le (by omega) (by omega)]; omega)
  rw [e]
  by_cases h : x < n
  · rw [if_pos h, decide_eq_true h]; rfl
  · rw [if_neg h, decide_eq_false h]; rfl
theorem c5_cmd (hW : WF n M v) (hE : PE n (S 1) v) (hM : M + 9 < 100000) {g : Nat} (hg : g < 10000) : CM n (M + 9) S v (cmdA n v (g / 1000) (g / 100 % 10) (g / 10 % 10) (g % 10)) (fX5_commandSucceeds (nI g) S) := by
  have h9 := hW.1
  have hx : g / 100 % 10 < 10 := Nat.mod_lt _ (by decide)
  have hy : g / 10 % 10 < 10 := Nat.mod_lt _ (by decide)
  have hz : g % 10 < 10 := Nat.mod_lt _ (by decide)
  have hq : g / 1000 < 10 := by omega
  unfold fX5_commandSucceeds
  rw [d1000 hg, d100 hg, d10 hg, d1 hg]
  generalize g / 100 % 10 = x at hx ⊢
  generalize g / 10 % 10 = y at hy ⊢
  generalize g % 10 = w at hz ⊢
  generalize g / 1000 = q at hq ⊢
  have no := cm_no hW hE hM
  rcases (show q = 0 ∨ q = 1 ∨ q = 2 ∨ q = 3 ∨ q = 4 ∨ q = 5 ∨ q = 6 ∨ q = 7 ∨ q = 8 ∨ q = 9 by omega) with rfl | rfl | rfl | rfl | rfl | rfl | rfl | rfl | rfl | rfl
  · rw [if_neg (show ¬ nI 0 = 1 by decide), if_neg (show ¬ nI 0 = 2 by decide), if_neg (show ¬ nI 0 = 3 by decide), if_neg (show ¬ nI 0 = 4 by decide), if_neg (show ¬ nI 0 = 5 by decide), if_neg (show ¬ nI 0 = 6 by decide), if_neg (show ¬ nI 0 = 7 by decide), if_neg (show ¬ nI 0 = 8 by decide), if_neg (show ¬ nI 0 = 9 by decide)]
    exact no
  · have e : cmdA n v 1 x y w = if w = 0 then (if x < n then (if y < n then (if x = y then none else if may v x y = true then some (sUni v x y) else none) else none) else none) else none := rfl
    rw [e, if_pos (show nI 1 = 1 from rfl), eq0_if (show w < 2147483648 by omega)]
    by_cases h0 : w = 0
    · rw [if_pos h0, if_pos h0, has_b hW hE hx]
      by_cases h1 : x < n
      · rw [if_pos h1, if_pos h1, if_neg (show ¬ (1 : Int32) = 0 by decide), has_b hW hE hy]
        by_cases h2 : y < n
        · rw [if_pos h2, if_pos h2, if_neg (show ¬ (1 : Int32) = 0 by decide), eq_if (by omega) (by omega)]
          by_cases h3 : x = y
          · rw [if_pos h3, if_pos h3]; exact no
          · have c1 : fX1_canBecomePartners 1 (nI x) (nI y) S = some (bI (may v x y)) := r1_can hW hE h1 h2
            rw [if_neg h3, if_neg h3, c1, nn_bd1]
            cases hm : may v x y
            · rw [if_pos (show bI false = 0 from rfl), ifF]; exact no
            · obtain ⟨f1, f2⟩ := may_free hm
              obtain ⟨p, k1, k2⟩ := r1_uni hW hE h1 h2 h3 f1 f2
              rw [if_neg (show ¬ bI true = 0 by decide), ifT, k1, nn_bd1]
              exact cm_do (wf_le (wf_uni hW h1 h2 h3 f1 f2) (by omega) hM) k2
        · rw [if_neg h2, if_neg h2, if_pos rfl]; exact no
      · rw [if_neg h1, if_neg h1, if_pos rfl]; exact no
    · rw [if_neg h0, if_neg h0]; exact no
  · have e : cmdA n v 2 x y w = if y = 0 then (if w = 0 then (if x < n then (if sFree v x = true then none else some (mPart v x)) else none) else none) else none := rfl
    rw [e, if_neg (show ¬ nI 2 = 1 by decide), if_pos (show nI 2 = 2 from rfl), eq0_if (show y < 2147483648 by omega), eq0_if (show w < 2147483648 by omega)]
    by_cases h0 : y = 0
    · rw [if_pos h0, if_pos h0]
      by_cases h1 : w = 0
      · rw [if_pos h1, if_pos h1, has_b hW hE hx]
        by_cases h2 : x < n
        · rw [if_pos h2, if_pos h2, if_neg (show ¬ (1 : Int32) = 0 by decide), r1_free hW hE h2, nn_bd1]
          cases hf : sFree v x
          · obtain ⟨p, k1, k2⟩ := r1_sep hW hE h2
            rw [if_pos (show bI false = 0 from rfl), ifF, k1, nn_bd1]
            exact cm_do (wf_le (wf_mp hW h2) (by omega) hM) k2
          · rw [if_neg (show ¬ bI true = 0 by decide), ifT]; exact no
        · rw [if_neg h2, if_neg h2, if_pos rfl]; exact no
      · rw [if_neg h1, if_neg h1]; exact no
    · rw [if_neg h0, if_neg h0]; exact no
  · have e : cmdA n v 3 x y w = if x = 0 then (if y = 0 then (if w = 0 then some (mt n 4 v).2 else none) else none) else none := rfl
    rw [e, if_neg (show ¬ nI 3 = 1 by decide), if_neg (show ¬ nI 3 = 2 by decide), if_pos (show nI 3 = 3 from rfl), eq0_if (show x < 2147483648 by omega), eq0_if (show y < 2147483648 by omega), eq0_if (show w < 2147483648 by omega)]
    by_cases h0 : x = 0
    · rw [if_pos h0, if_pos h0]
      by_cases h1 : y = 0
      · rw [if_pos h1, if_pos h1]
        by_cases h2 : w = 0
        · obtain ⟨p, k1, k2⟩ := r1_match hW hE
          rw [if_pos h2, if_pos h2, k1, nn_bd2]
          exact cm_do (wf_le (wf_mt 4 v hW) (by omega) hM) k2
        · rw [if_neg h2, if_neg h2]; exact no
      · rw [if_neg h1, if_neg h1]; exact no
    · rw [if_neg h0, if_neg h0]; exact no
  · have e : cmdA n v 4 x y w = if x = 0 then (if 10 * y + w < 1 then none else if 10 * y + w ≤ 50 then some (st n (10 * y + w) v).2 else none) else none := rfl
    rw [e, if_neg (show ¬ nI 4 = 1 by decide), if_neg (show ¬ nI 4 = 2 by decide), if_neg (show ¬ nI 4 = 3 by decide), if_pos (show nI 4 = 4 from rfl), eq0_if (show x < 2147483648 by omega), li10, nn_mul, nn_add, li1, lt_if (by omega) (by omega), li50, le_if (by omega) (by omega)]
    by_cases h0 : x = 0
    · rw [if_pos h0, if_pos h0]
      by_cases h1 : 10 * y + w < 1
      · rw [if_pos h1, if_pos h1]; exact no
      · rw [if_neg h1, if_neg h1]
        by_cases h2 : 10 * y + w ≤ 50
        · obtain ⟨p, k1, k2⟩ := r1_settle h2 hW hE
          rw [if_pos h2, if_pos h2, k1, nn_bd2]
          exact cm_do (wf_le (wf_st _ v hW) (by omega) hM) k2
        · rw [if_neg h2, if_neg h2]; exact no
    · rw [if_neg h0, if_neg h0]; exact no
  · have e : cmdA n v 5 x y w = if 100 * x + 10 * y + w ≤ 511 then some (sWeek n (nI (100 * x + 10 * y + w)) v) else none := rfl
    rw [e, if_neg (show ¬ nI 5 = 1 by decide), if_neg (show ¬ nI 5 = 2 by decide), if_neg (show ¬ nI 5 = 3 by decide), if_neg (show ¬ nI 5 = 4 by decide), if_pos (show nI 5 = 5 from rfl), li100, li10, nn_mul, nn_mul, nn_add, nn_add, li511, le_if (by omega) (by omega)]
    by_cases h0 : 100 * x + 10 * y + w ≤ 511
    · obtain ⟨p, k1, k2⟩ := r1_week hW hE hM (nI (100 * x + 10 * y + w))
      rw [if_pos h0, if_pos h0, k1, nn_bd1]
      exact cm_do (wf_week hW hM _) k2
    · rw [if_neg h0, if_neg h0]; exact no
  · have e : cmdA n v 6 x y w = if x < n then (if y < 4 then some (sTest v x y (10 * w)) else none) else none := rfl
    rw [e, if_neg (show ¬ nI 6 = 1 by decide), if_neg (show ¬ nI 6 = 2 by decide), if_neg (show ¬ nI 6 = 3 by decide), if_neg (show ¬ nI 6 = 4 by decide), if_neg (show ¬ nI 6 = 5 by decide), if_pos (show nI 6 = 6 from rfl), has_b hW hE hx]
    by_cases h1 : x < n
    · rw [if_pos h1, if_pos h1, if_neg (show ¬ (1 : Int32) = 0 by decide), li4, lt_if (by omega) (by decide)]
      by_cases h2 : y < 4
      · obtain ⟨p, k1, k2⟩ := r1_test (x := 10 * w) hW hE h1 h2 (by omega)
        rw [if_pos h2, if_pos h2, li10, nn_mul, k1, nn_bd1]
        exact cm_do (wf_le (wf_mend (wf_test1 hW h2 (by omega)) h1) (by omega) hM) k2
      · rw [if_neg h2, if_neg h2]; exact no
    · rw [if_neg h1, if_neg h1, if_pos rfl]; exact no
  · have e : cmdA n v 7 x y w = if w = 0 then (if x < n then (if y < n then (if v (2 + 10 * x + 8) = nI y then some v else none) else none) else none) else none := rfl
    rw [e, if_neg (show ¬ nI 7 = 1 by decide), if_neg (show ¬ nI 7 = 2 by decide), if_neg (show ¬ nI 7 = 3 by decide), if_neg (show ¬ nI 7 = 4 by decide), if_neg (show ¬ nI 7 = 5 by decide), if_neg (show ¬ nI 7 = 6 by decide), if_pos (show nI 7 = 7 from rfl), eq0_if (show w < 2147483648 by omega)]
    by_cases h0 : w = 0
    · rw [if_pos h0, if_pos h0, has_b hW hE hx]
      by_cases h1 : x < n
      · rw [if_pos h1, if_pos h1, if_neg (show ¬ (1 : Int32) = 0 by decide), has_b hW hE hy]
        by_cases h2 : y < n
        · rw [if_pos h2, if_pos h2, if_neg (show ¬ (1 : Int32) = 0 by decide), nn_in (by omega) (by decide), nn_tn (by omega), (hE.2.2 x h1).1 8 (by decide)]
          by_cases h3 : v (2 + 10 * x + 8) = nI y
          · rw [if_pos h3, if_pos h3]; exact cm_is hW hE hM
          · rw [if_neg h3, if_neg h3]; exact no
        · rw [if_neg h2, if_neg h2, if_pos rfl]; exact no
      · rw [if_neg h1, if_neg h1, if_pos rfl]; exact no
    · rw [if_neg h0, if_neg h0]; exact no
  · have e : cmdA n v 8 x y w = if x = 0 then (if y = 0 then (if nPrs n v = nI w then some v else none) else none) else none := rfl
    rw [e, if_neg (show ¬ nI 8 = 1 by decide), if_neg (show ¬ nI 8 = 2 by decide), if_neg (show ¬ nI 8 = 3 by decide), if_neg (show ¬ nI 8 = 4 by decide), if_neg (show ¬ nI 8 = 5 by decide), if_neg (show ¬ nI 8 = 6 by decide), if_neg (show ¬ nI 8 = 7 by decide), if_pos (show nI 8 = 8 from rfl), eq0_if (show x < 2147483648 by omega), eq0_if (show y < 2147483648 by omega)]
    have hc : fX1_countPairs 1 S = some (nPrs n v) := by
      unfold fX1_countPairs
      rw [li0, c1_prs1 hW hE n 0 2000 _ (by omega) (by omega)]; rfl
    by_cases h0 : x = 0
    · rw [if_pos h0, if_pos h0]
      by_cases h1 : y = 0
      · rw [if_pos h1, if_pos h1, hc, nn_bd1]
        by_cases h3 : nPrs n v = nI w
        · rw [if_pos h3, if_pos h3]; exact cm_is hW hE hM
        · rw [if_neg h3, if_neg h3]; exact no
      · rw [if_neg h1, if_neg h1]; exact no
    · rw [if_neg h0, if_neg h0]; exact no
  · have e : cmdA n v 9 x y w = if x < n then (if y < 4 then (if v (2 + 10 * x + y) = nI w then some v else none) else none) else none := rfl
    rw [e, if_neg (show ¬ nI 9 = 1 by decide), if_neg (show ¬ nI 9 = 2 by decide), if_neg (show ¬ nI 9 = 3 by decide), if_neg (show ¬ nI 9 = 4 by decide), if_neg (show ¬ nI 9 = 5 by decide), if_neg (show ¬ nI 9 = 6 by decide), if_neg (show ¬ nI 9 = 7 by decide), if_neg (show ¬ nI 9 = 8 by decide), if_pos (show nI 9 = 9 from rfl), has_b hW hE hx]
    by_cases h1 : x < n
    · rw [if_pos h1, if_pos h1, if_neg (show ¬ (1 : Int32) = 0 by decide), li4, le_if (by decide) (by omega)]
      by_cases h2 : y < 4
      · rw [if_neg (show ¬ 4 ≤ y by omega), if_pos h2, nn_in (by omega) (by decide), nn_in (by omega) (by decide), nn_tn (by omega), nn_tn (by omega), (hE.2.2 x h1).1 y (by omega)]
        by_cases h3 : v (2 + 10 * x + y) = nI w
        · rw [if_pos h3, if_pos h3]; exact cm_is hW hE hM
        · rw [if_neg h3, if_neg h3]; exact no
      · rw [if_pos (show 4 ≤ y by omega), if_neg h2]; exact no
    · rw [if_neg h1, if_neg h1, if_pos rfl]; exact no
end S78
