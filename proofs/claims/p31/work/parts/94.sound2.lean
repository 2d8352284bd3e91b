/-! SOUND: the rounds -/
section S94
variable {z : aS} {M : Nat}
theorem sd_344 (h9 : aN z ≤ 9) {a b : Nat} (ha : a < aN z) (hb : b < aN z) (hab : a ≠ b) (q22 : Int32 → Int32 → Int32 → Int32 → Int32 → Int32 → Int32 → Option Int32) (q175 : Int32 → Int32 → Int32 → Int32 → Int32 → Int32 → Int32 → Int32 → Int32 → Int32 → Option Int32) (v1 v2 v3 v4 v5 v8 v9 v12 : Int32) : hL_sound_344 z q22 q175 v1 v2 v3 v4 v5 (nI a) v8 v9 (nI b) (bI (sFit (aV z) a b)) v12 = hL_sound_381 z q22 q175 v1 v2 v3 v4 v5 (nI a) v8 (v9 + bI (sFit (aV z) a b)) (nI b) (bI (sFit (aV z) a b)) v12 (bI false) (bI (sFit (aV z) a b)) (bI (sFit (aV z) a b)) := by
  unfold hL_sound_344 hL_sound_359
  rw [bo_2 h9 ha hb hab]
  cases sFit (aV z) a b
  · rw [if_pos (show bI false = 0 from rfl), if_pos (show bI false = 0 from rfl)]; rfl
  · rw [if_neg (show ¬ bI true = 0 by decide), if_neg (show ¬ bI true = 0 by decide)]; rfl
theorem sd_340 (h9 : aN z ≤ 9) {a b : Nat} (ha : a < aN z) (hb : b < aN z) (hab : a ≠ b) (q22 : Int32 → Int32 → Int32 → Int32 → Int32 → Int32 → Int32 → Option Int32) (q175 : Int32 → Int32 → Int32 → Int32 → Int32 → Int32 → Int32 → Int32 → Int32 → Int32 → Option Int32) (v1 v2 v3 v4 v5 v8 v9 v12 : Int32) : hL_sound_340 z q22 q175 v1 v2 v3 v4 v5 (nI a) v8 v9 (nI b) (bI (sFit (aV z) a b)) v12 = hL_sound_381 z q22 q175 v1 v2 v3 v4 v5 (nI a) v8 (v9 + bI (sFit (aV z) a b)) (nI b) (bI (sFit (aV z) a b)) v12 (bI true) (bI (sFit (aV z) a b)) (bI (sFit (aV z) a b)) := by
  unfold hL_sound_340 hL_sound_359
  rw [bo_2 h9 ha hb hab]
  cases sFit (aV z) a b
  · rw [if_pos (show bI false = 0 from rfl), if_pos (show bI false = 0 from rfl)]; rfl
  · rw [if_neg (show ¬ bI true = 0 by decide), if_neg (show ¬ bI true = 0 by decide)]; rfl
theorem sd_299 (hW : WF (aN z) M (aV z)) {a b : Nat} (ha : a < aN z) (hb : b < aN z) (hab : a ≠ b) (q22 : Int32 → Int32 → Int32 → Int32 → Int32 → Int32 → Int32 → Option Int32) (q175 : Int32 → Int32 → Int32 → Int32 → Int32 → Int32 → Int32 → Int32 → Int32 → Int32 → Option Int32) (v1 v2 v3 v4 v5 v8 v9 v12 : Int32) : hL_sound_299 z q22 q175 v1 v2 v3 v4 v5 (nI a) v8 v9 (nI b) (bI (sFit (aV z) a b)) v12 = hL_sound_381 z q22 q175 v1 v2 v3 v4 v5 (nI a) v8 (v9 + bI (sFit (aV z) a b)) (nI b) (bI (sFit (aV z) a b)) v12 (bI (sPref (aV z) b a)) (bI (sFit (aV z) a b)) (bI (sFit (aV z) a b)) := by
  have h9 := hW.1
  unfold hL_sound_299
  rw [sd_340 h9 ha hb hab, sd_344 h9 ha hb hab, show A_tryMember z (nI b) 8 = aV z (2 + 10 * b + 8) from mb_o h9 hb (o := 8) (by decide)]
  rcases wf_par hW hb with ⟨g, -⟩ | ⟨d, hd, hne, g, -, -⟩
  · rw [if_pos g]
    have e : sPref (aV z) b a = true := by unfold sPref; rw [sFree_t g]; rfl
    rw [e]
  · rw [g, if_neg (by rw [nn_NI (by omega)]; exact not_false), bo_0 h9 hb ha (Ne.symm hab), bo_0 h9 hb hd (Ne.symm hne)]
    have e : sPref (aV z) b a = decide (¬ sSc (aV z) b a ≤ sSc (aV z) b d) := by unfold sPref; rw [sFree_f g (by omega), pp_b g (by omega)]; rfl
    rw [e]
    by_cases h : sSc (aV z) b a ≤ sSc (aV z) b d
    · rw [if_pos h, decide_eq_false (not_not_intro h)]
    · rw [if_neg h, decide_eq_true h]
theorem sd_222 (hW : WF (aN z) M (aV z)) {a b : Nat} (ha : a < aN z) (hb : b < aN z) (hab : a ≠ b) (q22 : Int32 → Int32 → Int32 → Int32 → Int32 → Int32 → Int32 → Option Int32) (q175 : Int32 → Int32 → Int32 → Int32 → Int32 → Int32 → Int32 → Int32 → Int32 → Int32 → Option Int32) (v2 v3 v4 v5 v9 : Int32) (hB : a < b → sBlk (aV z) a b = true → A_tryBlocking z v3 0 = nI a ∧ A_tryBlocking z v3 1 = nI b) : hL_sound_222 z q22 q175 (nI (aN z)) v2 v3 v4 v5 (nI a) (aV z (2 + 10 * a + 8)) v9 (nI b) (bI (sFit (aV z) a b)) = sdN q175 (aN z) (aV z) a b v2 v3 v4 v5 v9 := by
  have h9 := hW.1
  have k := sd_381 hW ha hb hab q22 q175 v2 v3 v4 v5 v9 hB
  unfold hL_sound_222
  rw [P_lead hW ha hb, nn_bd1, bo_0 h9 ha hb hab, show A_tryMember z (nI b) 7 = aV z (2 + 10 * b + 7) from mb_o h9 hb (o := 7) (by decide)]
  have er : sSc (aV z) a b - 10 * sL (aV z) a b + 5 * aV z (2 + 10 * b + 7) = sQ (aV z (2 + 10 * b + 6)) := rest_q _ _ _
  rw [er]
  have e344 := sd_344 h9 ha hb hab q22 q175 (nI (aN z)) v2 v3 v4 v5 (aV z (2 + 10 * a + 8)) v9 (sQ (aV z (2 + 10 * b + 6)))
  have e299 := sd_299 hW ha hb hab q22 q175 (nI (aN z)) v2 v3 v4 v5 (aV z (2 + 10 * a + 8)) v9 (sQ (aV z (2 + 10 * b + 6)))
  rw [e344, e299]
  cases hF : sFit (aV z) a b
  · have eB : sBlk (aV z) a b = false := by unfold sBlk; rw [hF]; rfl
    rw [if_pos (show bI false = 0 from rfl)]
    rw [hF, eB] at k
    exact k
  · rw [if_neg (show ¬ bI true = 0 by decide)]
    rw [hF] at k
    by_cases hp : aV z (2 + 10 * a + 8) = nI b
    · have eB : sBlk (aV z) a b = false := by
        unfold sBlk
        rw [decide_eq_false (not_not_intro hp), Bool.and_false]; rfl
      rw [if_pos hp]
      rw [eB] at k
      exact k
    · rw [if_neg hp]
      have eB : sBlk (aV z) a b = (sPref (aV z) a b && sPref (aV z) b a) := by
        unfold sBlk
        rw [hF, decide_eq_true hp]; rfl
      rcases wf_par hW ha with ⟨g, -⟩ | ⟨d, hd, hne, g, -, -⟩
      · rw [if_pos g]
        have e : sPref (aV z) a b = true := by unfold sPref; rw [sFree_t g]; rfl
        rw [eB, e, Bool.true_and] at k
        exact k
      · rw [if_neg (show ¬ aV z (2 + 10 * a + 8) = -9999 by rw [g, nn_NI (by omega)]; exact not_false)]
        have e : sPref (aV z) a b = decide (¬ sSc (aV z) a b ≤ sSc (aV z) a d) := by unfold sPref; rw [sFree_f g (by omega), pp_b g (by omega)]; rfl
        have e2 : A_tryBoth z (nI a) (aV z (2 + 10 * a + 8)) 0 = sSc (aV z) a d := by rw [g]; exact bo_0 h9 ha hd (Ne.symm hne)
        rw [e2]
        by_cases h : sSc (aV z) a b ≤ sSc (aV z) a d
        · rw [if_pos h]
          rw [eB, e, decide_eq_false (not_not_intro h), Bool.false_and] at k
          exact k
        · rw [if_neg h]
          rw [eB, e, decide_eq_true h, Bool.true_and] at k
          exact k
/-- one round -/
theorem sd_175 (hW : WF (aN z) M (aV z)) {a b : Nat} (ha : a < aN z) (hb : b < aN z) (q22 : Int32 → Int32 → Int32 → Int32 → Int32 → Int32 → Int32 → Option Int32) (f : Nat) (v2 v3 v4 v5 v9 : Int32) (hB : a < b → sBlk (aV z) a b = true → A_tryBlocking z v3 0 = nI a ∧ A_tryBlocking z v3 1 = nI b) : hL_sound_175 z q22 (f + 1) (nI (aN z)) v2 v3 v4 v5 1 (nI a) (aV z (2 + 10 * a + 8)) v9 (nI b) = sdN (hL_sound_175 z q22 f) (aN z) (aV z) a b v2 v3 v4 v5 v9 := by
  have h9 := hW.1
  unfold hL_sound_175
  rw [if_neg (by rw [nn_le (by omega) (by omega)]; omega), if_neg i1_0, eq_if (by omega) (by omega)]
  by_cases hab : a = b
  · subst hab
    unfold sdN
    rw [if_pos rfl, if_pos (Nat.le_refl _), sFit_self, show bI false = 0 from rfl, a_0, show nI a + 1 = nI (a + 1) from nn_add a 1]
  · rw [if_neg hab, P_lead hW ha hb, nn_bd1, P_lead hW hb ha, nn_bd1]
    have k := sd_222 hW ha hb hab q22 (hL_sound_175 z q22 f) v2 v3 v4 v5 v9 hB
    have eF : sFit (aV z) a b = (decide (¬ sL (aV z) a b < 2) && decide (¬ sL (aV z) b a < 2)) := rfl
    by_cases h1 : sL (aV z) a b < 2
    · rw [if_pos (by rw [le1_lt2]; exact h1)]
      rw [eF, decide_eq_false (not_not_intro h1), Bool.false_and] at k
      exact k
    · rw [if_neg (by rw [le1_lt2]; exact h1)]
      by_cases h2 : sL (aV z) b a < 2
      · rw [if_pos (by rw [le1_lt2]; exact h2)]
        rw [eF, decide_eq_false (not_not_intro h2), Bool.and_false] at k
        exact k
      · rw [if_neg (by rw [le1_lt2]; exact h2)]
        rw [eF, decide_eq_true h1, decide_eq_true h2] at k
        exact k
end S94
