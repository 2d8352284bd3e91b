/-! SOUND: scores, fits, who blocks, all sums by the numbers told -/
theorem le1_lt2 (x : Int32) : (x ≤ 1) = (x < 2) := propext (by
  rw [Int32.le_iff_toInt_le, Int32.lt_iff_toInt_lt]
  rw [show (1 : Int32).toInt = 1 from rfl, show (2 : Int32).toInt = 2 from rfl]
  omega)
theorem rest_q (L m q : Int32) : 10 * L - 5 * m + q - 10 * L + 5 * m = q := by grind
theorem q_four : ∀ c : Fin 199, ¬ (nI c.val - 99 < 4 * sQ (nI c.val - 99)) ∧ ¬ (4 * sQ (nI c.val - 99) + 4 ≤ nI c.val - 99) := by decide +kernel
section S93
variable {z : aS} {M : Nat}
theorem mb_num (h9 : aN z ≤ 9) {a o : Nat} (ha : a < aN z) (ho : o ≤ 10) : A_tryMember z (nI a) (nI o) = sNum (aN z) (aV z) a o := by
  unfold A_tryMember
  have h : rg 0 10 (nI o) = true := by
    unfold rg
    rw [decide_eq_true (nI_pos (show o < 2147483648 by omega)), Bool.true_and]
    exact decide_eq_true (by rw [show (10 : Int32) = nI 10 from rfl, nn_lt (by decide) (by omega)]; omega)
  rw [isM_a ha (by omega), ifT, h, ifT, nn_tn (by omega), nn_tn (by omega)]
theorem mb_o (h9 : aN z ≤ 9) {a o : Nat} (ha : a < aN z) (ho : o < 9) : A_tryMember z (nI a) (nI o) = aV z (2 + 10 * a + o) := by
  rw [mb_num h9 ha (by omega)]
  unfold sNum
  rw [if_neg (by omega), if_neg (by omega)]
theorem mb_9 (h9 : aN z ≤ 9) {a : Nat} (ha : a < aN z) : A_tryMember z (nI a) 9 = if sFree (aV z) a = true then -9999 else aV z (2 + 10 * a + 9) := mb_num h9 ha (o := 9) (by decide)
theorem mb_10 (h9 : aN z ≤ 9) {a : Nat} (ha : a < aN z) : A_tryMember z (nI a) 10 = s1 (fun b => bI (sFit (aV z) a b)) (aN z) 0 0 := mb_num h9 ha (o := 10) (by decide)
theorem bo (h9 : aN z ≤ 9) {a b : Nat} (ha : a < aN z) (hb : b < aN z) (hab : a ≠ b) (w : Int32) : A_tryBoth z (nI a) (nI b) w = if w = 0 then sSc (aV z) a b else if w = 1 then sVal (aV z) a b else if w = 2 then bI (sFit (aV z) a b) else if w = 3 then bI (sBlk (aV z) a b) else -99002 := by
  unfold A_tryBoth
  rw [isM_a ha (by omega), ifT, isM_a hb (by omega), ifT, if_neg (by rw [nn_eq (by omega) (by omega)]; exact hab), nn_tn (by omega), nn_tn (by omega)]
theorem bo_0 (h9 : aN z ≤ 9) {a b : Nat} (ha : a < aN z) (hb : b < aN z) (hab : a ≠ b) : A_tryBoth z (nI a) (nI b) 0 = sSc (aV z) a b := by rw [bo h9 ha hb hab, if_pos rfl]
theorem bo_1 (h9 : aN z ≤ 9) {a b : Nat} (ha : a < aN z) (hb : b < aN z) (hab : a ≠ b) : A_tryBoth z (nI a) (nI b) 1 = sVal (aV z) a b := by rw [bo h9 ha hb hab, if_neg i1_0, if_pos rfl]
theorem bo_2 (h9 : aN z ≤ 9) {a b : Nat} (ha : a < aN z) (hb : b < aN z) (hab : a ≠ b) : A_tryBoth z (nI a) (nI b) 2 = bI (sFit (aV z) a b) := by rw [bo h9 ha hb hab, if_neg (show ¬ (2 : Int32) = 0 by decide), if_neg (show ¬ (2 : Int32) = 1 by decide), if_pos rfl]
theorem bo_3 (h9 : aN z ≤ 9) {a b : Nat} (ha : a < aN z) (hb : b < aN z) (hab : a ≠ b) : A_tryBoth z (nI a) (nI b) 3 = bI (sBlk (aV z) a b) := by rw [bo h9 ha hb hab, if_neg (show ¬ (3 : Int32) = 0 by decide), if_neg (show ¬ (3 : Int32) = 1 by decide), if_neg (show ¬ (3 : Int32) = 2 by decide), if_pos rfl]
theorem P_lead (hW : WF (aN z) M (aV z)) {a b : Nat} (ha : a < aN z) (hb : b < aN z) : hL_lead z (nI a) (nI b) = some (sL (aV z) a b) := by
  have h9 := hW.1
  obtain ⟨w, hw, ew⟩ := (hW.2.2.2 a ha).2.1
  unfold hL_lead
  rw [show A_tryMember z (nI a) 4 = nI w from (mb_o h9 ha (o := 4) (by decide)).trans ew, mb_o h9 hb (by omega), mb_o h9 ha (by omega)]
  have hp : pw (aV z) a = w := by unfold pw; rw [ew, nn_tn (by omega)]
  unfold sL
  rw [hp]
/-- one pair of members: from the end of the round backwards -/
theorem sd_575 (q22 : Int32 → Int32 → Int32 → Int32 → Int32 → Int32 → Int32 → Option Int32) (q175 : Int32 → Int32 → Int32 → Int32 → Int32 → Int32 → Int32 → Int32 → Int32 → Int32 → Option Int32) (v1 v2 v3 v4 v5 v7 v8 v9 v10 y : Int32) (B : Bool) : hL_sound_575 z q22 q175 v1 v2 v3 v4 v5 v7 v8 v9 v10 (bI B) y = q175 v1 v2 (v3 + bI B) v4 v5 y v7 v8 v9 (v10 + 1) := by
  unfold hL_sound_575
  cases B
  · rw [if_pos (show bI false = 0 from rfl)]; rfl
  · rw [if_neg (show ¬ bI true = 0 by decide)]; rfl
theorem sd_535 (q22 : Int32 → Int32 → Int32 → Int32 → Int32 → Int32 → Int32 → Option Int32) (q175 : Int32 → Int32 → Int32 → Int32 → Int32 → Int32 → Int32 → Int32 → Int32 → Int32 → Option Int32) (v1 v2 v3 v4 v5 v7 v8 v9 v10 y : Int32) (B : Bool) (hB : B = true → A_tryBlocking z v3 0 = v7 ∧ A_tryBlocking z v3 1 = v10) : hL_sound_535 z q22 q175 v1 v2 v3 v5 1 v7 v8 v9 v10 (bI B) y v4 = q175 v1 v2 (v3 + bI B) (v4 + y) v5 1 v7 v8 v9 (v10 + 1) := by
  unfold hL_sound_535
  rw [if_neg i1_0]
  have h := sd_575 (z := z) q22 q175 v1 v2 v3 (v4 + y) v5 v7 v8 v9 v10 1 B
  cases B
  · rw [if_pos (show bI false = 0 from rfl)]
    exact h
  · obtain ⟨h1, h2⟩ := hB rfl
    rw [if_neg (show ¬ bI true = 0 by decide), if_pos h1, if_pos h2]
    exact h
theorem sd_496 (q22 : Int32 → Int32 → Int32 → Int32 → Int32 → Int32 → Int32 → Option Int32) (q175 : Int32 → Int32 → Int32 → Int32 → Int32 → Int32 → Int32 → Int32 → Int32 → Int32 → Option Int32) (v1 v2 v3 v4 v5 v7 v8 v9 v10 y : Int32) (F B : Bool) (hB : B = true → A_tryBlocking z v3 0 = v7 ∧ A_tryBlocking z v3 1 = v10) : hL_sound_496 z q22 q175 v1 v3 v4 v5 1 v7 v8 v9 v10 (bI F) (bI B) y v2 = q175 v1 (v2 + y) (v3 + bI B) (v4 + bI F) (v5 + (if v8 = v10 then A_tryBoth z v7 v10 1 else 0)) 1 v7 v8 v9 (v10 + 1) := by
  unfold hL_sound_496
  by_cases h : v8 = v10
  · rw [if_pos h, if_pos h]
    cases F
    · rw [if_pos (show bI false = 0 from rfl)]
      exact sd_535 q22 q175 v1 (v2 + y) v3 v4 _ v7 v8 v9 v10 0 B hB
    · rw [if_neg (show ¬ bI true = 0 by decide)]
      exact sd_535 q22 q175 v1 (v2 + y) v3 v4 _ v7 v8 v9 v10 1 B hB
  · rw [if_neg h, if_neg h]
    cases F
    · rw [if_pos (show bI false = 0 from rfl)]
      exact sd_535 q22 q175 v1 (v2 + y) v3 v4 _ v7 v8 v9 v10 0 B hB
    · rw [if_neg (show ¬ bI true = 0 by decide)]
      exact sd_535 q22 q175 v1 (v2 + y) v3 v4 _ v7 v8 v9 v10 1 B hB
/-- what the round of (a, b) hands on -/
def sdN (q175 : Int32 → Int32 → Int32 → Int32 → Int32 → Int32 → Int32 → Int32 → Int32 → Int32 → Option Int32) (n : Nat) (v : tePg) (a b : Nat) (v2 v3 v4 v5 v9 : Int32) : Option Int32 :=
  if b ≤ a then q175 (nI n) v2 v3 v4 v5 1 (nI a) (v (2 + 10 * a + 8)) (v9 + bI (sFit v a b)) (nI (b + 1))
  else q175 (nI n) (v2 + gO v 0 a b) (v3 + bI (sBlk v a b)) (v4 + bI (sFit v a b)) (v5 + gO v 1 a b) 1 (nI a) (v (2 + 10 * a + 8)) (v9 + bI (sFit v a b)) (nI (b + 1))
theorem sd_474 (h9 : aN z ≤ 9) {a b : Nat} (ha : a < aN z) (hb : b < aN z) (hab : a ≠ b) (q22 : Int32 → Int32 → Int32 → Int32 → Int32 → Int32 → Int32 → Option Int32) (q175 : Int32 → Int32 → Int32 → Int32 → Int32 → Int32 → Int32 → Int32 → Int32 → Int32 → Option Int32) (v2 v3 v4 v5 v9 : Int32) (hB : a < b → sBlk (aV z) a b = true → A_tryBlocking z v3 0 = nI a ∧ A_tryBlocking z v3 1 = nI b) : hL_sound_474 z q22 q175 (nI (aN z)) v2 v3 v4 v5 (nI a) (aV z (2 + 10 * a + 8)) (v9 + bI (sFit (aV z) a b)) (nI b) (bI (sFit (aV z) a b)) (bI (sBlk (aV z) a b)) 1 = sdN q175 (aN z) (aV z) a b v2 v3 v4 v5 v9 := by
  unfold hL_sound_474 sdN
  rw [le_if (by omega) (by omega), li1, nn_add]
  by_cases h : b ≤ a
  · rw [if_pos h, if_pos h]
  · rw [if_neg h, if_neg h]
    have e0 : gO (aV z) 0 a b = if aV z (2 + 10 * a + 8) = nI b then 1 else 0 := rfl
    have e1 : gO (aV z) 1 a b = if aV z (2 + 10 * a + 8) = nI b then sVal (aV z) a b else 0 := rfl
    by_cases hp : aV z (2 + 10 * a + 8) = nI b
    · rw [if_pos hp]
      have k := sd_496 (z := z) q22 q175 (nI (aN z)) v2 v3 v4 v5 (nI a) (aV z (2 + 10 * a + 8)) (v9 + bI (sFit (aV z) a b)) (nI b) 1 (sFit (aV z) a b) (sBlk (aV z) a b) (hB (by omega))
      rw [if_pos hp, bo_1 h9 ha hb hab, li1, nn_add] at k
      rw [e0, if_pos hp, e1, if_pos hp]
      exact k
    · rw [if_neg hp]
      have k := sd_496 (z := z) q22 q175 (nI (aN z)) v2 v3 v4 v5 (nI a) (aV z (2 + 10 * a + 8)) (v9 + bI (sFit (aV z) a b)) (nI b) 0 (sFit (aV z) a b) (sBlk (aV z) a b) (hB (by omega))
      rw [if_neg hp, li1, nn_add] at k
      rw [e0, if_neg hp, e1, if_neg hp]
      exact k
theorem sd_381 (hW : WF (aN z) M (aV z)) {a b : Nat} (ha : a < aN z) (hb : b < aN z) (hab : a ≠ b) (q22 : Int32 → Int32 → Int32 → Int32 → Int32 → Int32 → Int32 → Option Int32) (q175 : Int32 → Int32 → Int32 → Int32 → Int32 → Int32 → Int32 → Int32 → Int32 → Int32 → Option Int32) (v2 v3 v4 v5 v9 : Int32) (hB : a < b → sBlk (aV z) a b = true → A_tryBlocking z v3 0 = nI a ∧ A_tryBlocking z v3 1 = nI b) : hL_sound_381 z q22 q175 (nI (aN z)) v2 v3 v4 v5 (nI a) (aV z (2 + 10 * a + 8)) (v9 + bI (sFit (aV z) a b)) (nI b) (bI (sFit (aV z) a b)) (sQ (aV z (2 + 10 * b + 6))) (bI (sBlk (aV z) a b)) (bI (sFit (aV z) a b)) (bI (sFit (aV z) a b)) = sdN q175 (aN z) (aV z) a b v2 v3 v4 v5 v9 := by
  have h9 := hW.1
  have k := sd_474 h9 ha hb hab q22 q175 v2 v3 v4 v5 v9 hB
  unfold hL_sound_381
  obtain ⟨c, hc, ec⟩ := (hW.2.2.2 b hb).2.2.1
  obtain ⟨f1, f2⟩ := q_four ⟨c, by omega⟩
  rw [show A_tryMember z (nI b) 6 = aV z (2 + 10 * b + 6) from mb_o h9 hb (o := 6) (by decide), ec, if_pos rfl, if_neg f1, if_neg f2, bo_1 h9 ha hb hab, bo_0 h9 ha hb hab, bo_0 h9 hb ha (Ne.symm hab), bo_3 h9 ha hb hab, if_pos (show sVal (aV z) a b = sSc (aV z) a b + sSc (aV z) b a from rfl)]
  cases hb2 : sBlk (aV z) a b
  · rw [hb2] at k
    rw [if_pos (show bI false = 0 from rfl), if_pos (show bI false = 0 from rfl)]
    exact k
  · rw [hb2] at k
    rw [if_neg (show ¬ bI true = 0 by decide), if_pos (show bI true = 1 from rfl)]
    exact k
end S93
