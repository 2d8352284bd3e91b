/-! ONE COMMAND of a script -/
section S53
variable {n M : Nat} {v : tePg} {S T : teS}
/-- both sides did one command: told z, and their trial pages show the same -/
def CMD (n N : Nat) (S T : teS) (c m : Option (Int32 × teS)) : Prop := ∃ z p u, c = some (bI z, tst S 1 p) ∧ m = some (bI z, tst T 373 u) ∧ WF n N u ∧ PE n p u
theorem cmd_no (hW : WF n M v) (hE : PE n (S 1) v) (hT : T 373 = v) (hM : M + 9 < 100000) {c m : Option (Int32 × teS)} (hc : c = some (0, S)) (hm : m = some (0, T)) : CMD n (M + 9) S T c m :=
  ⟨false, S 1, v, by rw [hc, tst_i]; rfl, by rw [hm, ← hT, tst_i]; rfl, wf_le hW (by omega) hM, hE⟩
theorem cmd_is (hW : WF n M v) (hE : PE n (S 1) v) (hT : T 373 = v) (hM : M + 9 < 100000) (z : Bool) {c m : Option (Int32 × teS)} (hc : c = some (bI z, S)) (hm : m = some (bI z, T)) : CMD n (M + 9) S T c m :=
  ⟨z, S 1, v, by rw [hc, tst_i], by rw [hm, ← hT, tst_i], wf_le hW (by omega) hM, hE⟩
theorem does_eq (h9 : n ≤ 9) (e0 : T 373 0 = nI n) (q X Y Z : Int32) : fX6_does q X Y Z T = fX6_does_31 q X Y Z T (bI (isM n X)) (bI (isM n X && isM n Y)) := by
  unfold fX6_does
  rw [r6_isM rfl h9 e0, nn_bd1]
  cases isM n X
  · rw [if_pos (show bI false = 0 from rfl)]; rfl
  · rw [if_neg (show ¬ bI true = 0 by decide), r6_isM rfl h9 e0, nn_bd1]
    cases isM n Y
    · rw [if_pos (show bI false = 0 from rfl)]; rfl
    · rw [if_neg (show ¬ bI true = 0 by decide)]; rfl
theorem r1_isM' (hW : WF n M v) (hE : PE n (S 1) v) (x : Int32) : fX1_has 1 x S = some (bI (isM n x)) := r1_isM (hE.1.trans hW.2.2.1) x
theorem cmd1 (hW : WF n M v) (hE : PE n (S 1) v) (hT : T 373 = v) (hM : M + 9 < 100000) {x y z : Nat} (hx : x < 10) (hy : y < 10) (hz : z < 10) :
    CMD n (M + 9) S T (if nI z = 0 then (bd1 (fX1_has 1 (nI x) S) fun r_3 => if r_3 = 0 then some ((0 : Int32), S) else (bd1 (fX1_has 1 (nI y) S) fun r_6 => if r_6 = 0 then some ((0 : Int32), S) else (if nI x = nI y then some ((0 : Int32), S) else (bd1 (fX1_canBecomePartners 1 (nI x) (nI y) S) fun r_10 => if r_10 = 0 then some ((0 : Int32), S) else (bd1 (fX1_unite 1 (nI x) (nI y) S) fun S1 => some ((1 : Int32), S1)))))) else some ((0 : Int32), S)) (fX6_does 1 (nI x) (nI y) (nI z) T) := by
  have h9 := hW.1
  have e0 : T 373 0 = nI n := by rw [hT]; exact hW.2.2.1
  rw [does_eq h9 e0]
  unfold fX6_does_31
  rw [if_pos (show (1 : Int32) = 1 from rfl), bI_if, r1_isM' hW hE, nn_bd1, r1_isM' hW hE, nn_bd1]
  cases hmx : isM n (nI x)
  · refine cmd_no hW hE hT hM ?_ (by rw [Bool.false_and, if_pos rfl])
    rw [if_pos (show bI false = 0 from rfl)]
    split <;> rfl
  · cases hmy : isM n (nI y)
    · refine cmd_no hW hE hT hM ?_ (by rw [Bool.and_false, if_pos rfl])
      rw [if_neg (show ¬ bI true = 0 by decide), if_pos (show bI false = 0 from rfl)]
      split <;> rfl
    · rw [if_neg (show ¬ bI true = 0 by decide), if_neg (show ¬ bI true = 0 by decide), Bool.and_true, if_neg (show ¬ true = false by decide)]
      by_cases hz0 : nI z = 0
      · rw [if_pos hz0, if_pos hz0]
        by_cases hxy : nI x = nI y
        · rw [if_pos hxy, if_pos hxy]
          exact cmd_no hW hE hT hM rfl rfl
        · rw [if_neg hxy, if_neg hxy]
          obtain ⟨a, ha, ea⟩ := isM_t h9 hmx
          obtain ⟨b, hb, eb⟩ := isM_t h9 hmy
          rw [ea, eb]
          have hab : a ≠ b := fun w => hxy (by rw [ea, eb, w])
          have c1 : fX1_canBecomePartners 1 (nI a) (nI b) S = some (bI (may v a b)) := r1_can hW hE ha hb
          have c6 : fX6_canPair 373 (nI a) (nI b) T = some (bI (may v a b)) := r6_can rfl hW hT ha hb
          rw [c1, nn_bd1, c6, nn_bd1]
          cases hm : may v a b
          · rw [if_pos (show bI false = 0 from rfl), if_pos (show bI false = 0 from rfl)]
            exact cmd_no hW hE hT hM rfl rfl
          · rw [if_neg (show ¬ bI true = 0 by decide), if_neg (show ¬ bI true = 0 by decide)]
            obtain ⟨f1, f2⟩ := may_free hm
            obtain ⟨p, g1, g2⟩ := r1_uni hW hE ha hb hab f1 f2
            rw [g1, nn_bd1, r6_uni rfl hW hT ha hb, nn_bd1, mUni_free f1 f2]
            exact ⟨true, p, _, rfl, rfl, wf_le (wf_uni hW ha hb hab f1 f2) (by omega) hM, g2⟩
      · rw [if_neg hz0, if_neg hz0]
        exact cmd_no hW hE hT hM rfl rfl
end S53
