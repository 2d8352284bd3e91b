/-! HANDS: the whole -/
section S9G
variable {b : aS}
theorem rg_511 {W : Nat} (h : W < 512) : rg 0 511 (nI W) = true := by
  unfold rg
  rw [decide_eq_true (nI_pos (show W < 2147483648 by omega)), Bool.true_and]
  exact decide_eq_true (by rw [show (511 : Int32) = nI 511 from rfl, nn_lt (by decide) (by omega)]; omega)
theorem rg_60 {W : Nat} (h : W ≤ 60) : rg 0 60 (nI W) = true := by
  unfold rg
  rw [decide_eq_true (nI_pos (show W < 2147483648 by omega)), Bool.true_and]
  exact decide_eq_true (by rw [show (60 : Int32) = nI 60 from rfl, nn_lt (by decide) (by omega)]; omega)
theorem ah_8 (h9 : aN b ≤ 9) {a X : Nat} (ha : a < aN b) (hX : X ≤ 60) {x : Int32} (hx : rg 0 511 x = true) : A_tryAhead b (nI a) (nI X) x 8 = wks (aN b) x X (aV b) (2 + 10 * a + 8) := by
  unfold A_tryAhead
  rw [isM_a ha (by omega), ifT, rg_60 hX, ifT, hx, ifT, show rg 0 10 8 = true by decide, ifT, nn_tn (by omega), nn_tn (by omega)]; rfl
theorem hd_762 {t : Nat} (ht : t < 2147483648) (h1 : b.2.1 = []) (h2 : b.2.2.1 0 = some b.1) (hW : WF (aN b) (aM b) (aV b)) (hI : IV (aN b) (aV b)) (hM : aM b + 180 ≤ 4000) {a : Nat} (ha : a < aN b) : hL_hands_762 (nI t) b (aV b 1) (nI a) 1 (aV b (2 + 10 * a + 6)) = some (1, b) := by
  have h9 := hW.1
  have eW : nI t / 32 - nI t / 32 / 512 * 512 = nI (t / 32 % 512) := by
    rw [show (32 : Int32) = nI 32 from rfl, nn_div ht (by decide) (by decide), show (512 : Int32) = nI 512 from rfl, nn_rem (by omega) (by decide) (by decide)]
  have hWl : t / 32 % 512 < 512 := Nat.mod_lt _ (by decide)
  unfold hL_hands_762
  rw [mem_8 h9 ha]
  rcases wf_par hW ha with ⟨g, -⟩ | ⟨d, hd, hne, g, -, -⟩
  · rw [if_pos g]
    exact hd_966 ht h1 h2 hW hM ha
  · have k := hd_868 ht h1 h2 hW hI hM ha hd hne g
    rw [g, if_neg (by rw [nn_NI (by omega)]; exact not_false), if_neg i1_0, eW]
    have hx := rg_511 hWl
    generalize nI (t / 32 % 512) = x at hx
    have ep : A_tryPartsAfter b (nI a) x = paA (aN b) a x 100 1 (aV b) := by
      unfold A_tryPartsAfter
      rw [isM_a ha (by omega), ifT, hx, ifT, nn_tn (by omega), sFree_f g (by omega), ifF]
    rw [ep]
    rcases paA_c (n := aN b) (a := a) x 100 1 (aV b) with h | ⟨k0, q1, q2, q3, q4⟩
    · rw [h, if_neg (by decide), if_pos rfl]
      exact k
    · rw [q2, if_neg (by rw [nn_eq0 (by omega)]; omega), if_neg (by rw [nn_NI (by omega)]; exact not_false), show (60 : Int32) = nI 60 from rfl, lt_if (by decide) (by omega)]
      by_cases h60 : 60 < 1 + k0
      · rw [if_pos h60]
        exact k
      · rw [if_neg h60, ah_8 h9 ha (show 1 + k0 ≤ 60 by omega) hx, show 1 + k0 = k0 + 1 by omega, if_pos (of_decide_eq_true q3), li1, eq_if (by omega) (by decide)]
        by_cases hk : k0 + 1 = 1
        · rw [if_pos hk]
          exact k
        · rw [if_neg hk, nn_sub (by omega), show k0 + 1 - 1 = (k0 - 1) + 1 by omega, ah_8 h9 ha (show k0 - 1 + 1 ≤ 60 by omega) hx]
          have hp := wks_par x ha (k0 - 1 + 1) (aM b) (aV b) hW (by omega)
          have hnf : ¬ wks (aN b) x (k0 - 1 + 1) (aV b) (2 + 10 * a + 8) = -9999 := fun e => by
            have := q4 (k0 - 1) (by omega)
            rw [sFree_t e] at this
            cases this
          rw [if_pos (((hp.resolve_right hnf)).trans g)]
          exact k
theorem P_hands {t : Nat} (ht : t < 2147483648) (h1 : b.2.1 = []) (h2 : b.2.2.1 0 = some b.1) (hW : WF (aN b) (aM b) (aV b)) (hI : IV (aN b) (aV b)) (hM : aM b + 180 ≤ 4000) : hL_hands (nI t) b = some (1, b) := by
  have h9 := hW.1
  have hsv : A_trySave b 0 = some (aV b 1, b) := by
    unfold A_trySave
    rw [show rg 0 1 0 = true by decide, ifT, show (0 : Int32).toNatClampNeg = 0 from rfl]
    have e : aSet b.2.2.1 0 b.1 = b.2.2.1 := by
      funext j
      unfold aSet
      by_cases hj : j = 0
      · rw [if_pos hj, hj, h2]
      · rw [if_neg hj]
    rw [e]
  unfold hL_hands
  rw [show A_tryAbout b 0 = nI (aN b) from rfl, eq0_if (by omega)]
  by_cases h0 : aN b = 0
  · have hb : bfp (aV b) (aN b) = none := by rw [h0]; rfl
    have em : A_match b = some (0, aAct b b.1) := by
      unfold A_match
      rw [mt_none hb]; rfl
    have eu : A_tryUndo (aAct b b.1) = some (0, b) := by
      unfold A_tryUndo aAct remH
      obtain ⟨b1, b2, b3⟩ := b
      have h1 : b2 = [] := h1
      subst h1
      rfl
    have ed : A_missedMost b = -9999 := by
      unfold A_missedMost
      rw [h0]; rfl
    rw [if_pos h0, ed, if_pos rfl, em, nn_bd2, if_pos rfl, eu, nn_bd2, if_pos rfl]
  · have hn : 0 < aN b := by omega
    have ha : t % aN b < aN b := Nat.mod_lt _ hn
    have ea : nI t - nI t / nI (aN b) * nI (aN b) = nI (t % aN b) := nn_rem ht hn (by omega)
    have hW1 := wf_mt 4 (aV b) hW
    have hI1 := IV_mt 4 (aV b) hW hI
    have em : A_match b = some (nI (mt (aN b) 4 (aV b)).1, aAct b (aPg b (mt (aN b) 4 (aV b)).2)) := rfl
    have hm4 := mt_4 (n := aN b) (v := aV b) 4
    have hs : hL_sound (aAct b (aPg b (mt (aN b) 4 (aV b)).2)) = some 1 := P_sound (z := aAct b (aPg b (mt (aN b) 4 (aV b)).2)) hW1 hI1 (by show aM b ≤ 4000; omega)
    have hend := mt_end hW hI
    rw [if_neg h0, nn_chk (by rw [nn_eq0 (by omega)]; exact h0), hsv, nn_bd2, if_pos (show aV b 1 = A_tryAbout b 2 from rfl), show A_tryAbout b 2 = aV b 1 from rfl, show A_tryAbout b 1 = nPrs (aN b) (aV b) from rfl, ea]
    unfold hL_hands_72
    rw [em, nn_bd2, if_neg i1_0, if_neg (nI_pos (by omega)), show A_tryAbout (aAct b (aPg b (mt (aN b) 4 (aV b)).2)) 1 = nPrs (aN b) (mt (aN b) 4 (aV b)).2 from rfl, nPrs_mt h9, if_pos rfl, hs, nn_bd1, if_neg i1_0]
    have k1 := hd_120 (z := aAct b (aPg b (mt (aN b) 4 (aV b)).2)) (nI t) h9 hend (aV b 1) (nI (t % aN b)) (aN b) 0 10 (Nat.zero_add _) (by omega)
    refine Eq.trans k1 ?_
    refine Eq.trans (hd_205 (z := aAct b (aPg b (mt (aN b) 4 (aV b)).2)) (nI t) h1 h2 rfl hend (nI (aN b)) (nI (t % aN b))) ?_
    refine Eq.trans (hd_231 ht h1 h2 hW hI (by omega) (nI (aN b)) (nI (t % aN b))) ?_
    refine Eq.trans (hd_321 (nI t) h1 h2 hW hI (by omega) ha) ?_
    refine Eq.trans (hd_539 (nI t) h9 ha (aV b 1) _) ?_
    exact hd_762 ht h1 h2 hW hI hM ha
end S9G
