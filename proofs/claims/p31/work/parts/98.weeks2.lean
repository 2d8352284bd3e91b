/-! WEEKS: all members -/
section S98
variable {z : aS} {M : Nat}
theorem ad_1 (h9 : aN z ≤ 9) {x : Int32} (hx : rg 0 511 x = true) {a : Nat} (ha : a < aN z) : A_tryAhead z (nI a) 1 x 6 = sWeek (aN z) x (aV z) (2 + 10 * a + 6) := by
  unfold A_tryAhead
  rw [isM_a ha (by omega), ifT, show rg 0 60 1 = true by decide, ifT, hx, ifT, show rg 0 10 6 = true by decide, ifT, nn_tn (by omega)]
  rfl
/-- what is kept of a member -/
theorem wk_fill (hW : WF (aN z) M (aV z)) (x1 : Int32) {x : Int32} (hx : rg 0 511 x = true) {a : Nat} (ha : a < aN z) (wf : Nat → Int32) (f : Nat) (v4 : Int32) : ∃ wf', (∀ j, (j < 7 * a ∨ 7 * a + 7 ≤ j) → wf' j = wf j) ∧ (∀ o, o < 7 → wf' (7 * a + o) = wkf (aN z) (aV z) (sWeek (aN z) x (aV z)) a o) ∧ hL_weeks_34 x1 (f + 1) z wf (nI (aN z)) x v4 (nI a) = hL_weeks_34 x1 f z wf' (nI (aN z)) x v4 (nI (a + 1)) := by
  have h9 := hW.1
  have e0 : A_tryMember z (nI a) 8 = aV z (2 + 10 * a + 8) := mb_o h9 ha (o := 8) (by decide)
  have e1 : A_tryMember z (nI a) 6 = aV z (2 + 10 * a + 6) := mb_o h9 ha (o := 6) (by decide)
  have e2 : A_tryMember z (nI a) 7 = aV z (2 + 10 * a + 7) := mb_o h9 ha (o := 7) (by decide)
  have e5 : A_tryMember z (nI a) 5 = aV z (2 + 10 * a + 5) := mb_o h9 ha (o := 5) (by decide)
  have e6 := ad_1 h9 hx ha
  have e185 : ∀ (wf6 : Nat → Int32) (y : Int32), hL_weeks_185 x1 (hL_weeks_34 x1 f) z wf6 (nI (aN z)) x v4 (nI a) y (nI (7 * a + 5)) = hL_weeks_34 x1 f z (upd (upd wf6 (7 * a + 5) y) (7 * a + 6) (sWeek (aN z) x (aV z) (2 + 10 * a + 6))) (nI (aN z)) x v4 (nI (a + 1)) := fun wf6 y => by
    unfold hL_weeks_185
    rw [nn_in (by omega) (by decide), nn_lt1, nn_tn (by omega), c7_6, nn_in (by omega) (by decide), nn_lt1, nn_tn (by omega), e6, show nI a + 1 = nI (a + 1) from nn_add a 1]
  have key : ∀ (l : Int32), ∃ wf', wf' = upd (upd (upd (upd (upd (upd (upd wf (7 * a) (aV z (2 + 10 * a + 8))) (7 * a + 1) (aV z (2 + 10 * a + 6))) (7 * a + 2) (aV z (2 + 10 * a + 7))) (7 * a + 3) (if sFree (aV z) a = true then -9999 else aV z (2 + 10 * a + 9))) (7 * a + 4) (aV z (2 + 10 * a + 5) + 20 * aV z (2 + 10 * a + pw (aV z) a))) (7 * a + 5) l) (7 * a + 6) (sWeek (aN z) x (aV z) (2 + 10 * a + 6)) ∧ (∀ j, (j < 7 * a ∨ 7 * a + 7 ≤ j) → wf' j = wf j) ∧ (l = (if sFree (aV z) a = true then 0 else sL (aV z) a (pp (aV z) a)) → ∀ o, o < 7 → wf' (7 * a + o) = wkf (aN z) (aV z) (sWeek (aN z) x (aV z)) a o) := fun l => by
    refine ⟨_, rfl, fun j hj => ?_, fun hl o ho => ?_⟩
    · rw [up_n _ _ (by omega), up_n _ _ (by omega), up_n _ _ (by omega), up_n _ _ (by omega), up_n _ _ (by omega), up_n _ _ (by omega), up_n _ _ (by omega)]
    · rcases (show o = 0 ∨ o = 1 ∨ o = 2 ∨ o = 3 ∨ o = 4 ∨ o = 5 ∨ o = 6 by omega) with rfl | rfl | rfl | rfl | rfl | rfl | rfl
      · rw [up_n _ _ (by omega), up_n _ _ (by omega), up_n _ _ (by omega), up_n _ _ (by omega), up_n _ _ (by omega), up_n _ _ (by omega)]
        exact up_s _ _ _
      · rw [up_n _ _ (by omega), up_n _ _ (by omega), up_n _ _ (by omega), up_n _ _ (by omega), up_n _ _ (by omega)]
        exact up_s _ _ _
      · rw [up_n _ _ (by omega), up_n _ _ (by omega), up_n _ _ (by omega), up_n _ _ (by omega)]
        exact up_s _ _ _
      · rw [up_n _ _ (by omega), up_n _ _ (by omega), up_n _ _ (by omega)]
        exact up_s _ _ _
      · rw [up_n _ _ (by omega), up_n _ _ (by omega)]
        exact up_s _ _ _
      · rw [up_n _ _ (by omega), hl]
        exact up_s _ _ _
      · exact up_s _ _ _
  have m9 := mb_9 h9 ha
  have h34 : hL_weeks_34 x1 (f + 1) z wf (nI (aN z)) x v4 (nI a) = (if aV z (2 + 10 * a + 8) = -9999 then hL_weeks_34 x1 f z (upd (upd (upd (upd (upd (upd (upd wf (7 * a) (aV z (2 + 10 * a + 8))) (7 * a + 1) (aV z (2 + 10 * a + 6))) (7 * a + 2) (aV z (2 + 10 * a + 7))) (7 * a + 3) (if sFree (aV z) a = true then -9999 else aV z (2 + 10 * a + 9))) (7 * a + 4) (aV z (2 + 10 * a + 5) + 20 * aV z (2 + 10 * a + pw (aV z) a))) (7 * a + 5) 0) (7 * a + 6) (sWeek (aN z) x (aV z) (2 + 10 * a + 6))) (nI (aN z)) x v4 (nI (a + 1)) else bd1 (hL_lead z (nI a) (aV z (2 + 10 * a + 8))) fun l => hL_weeks_34 x1 f z (upd (upd (upd (upd (upd (upd (upd wf (7 * a) (aV z (2 + 10 * a + 8))) (7 * a + 1) (aV z (2 + 10 * a + 6))) (7 * a + 2) (aV z (2 + 10 * a + 7))) (7 * a + 3) (if sFree (aV z) a = true then -9999 else aV z (2 + 10 * a + 9))) (7 * a + 4) (aV z (2 + 10 * a + 5) + 20 * aV z (2 + 10 * a + pw (aV z) a))) (7 * a + 5) l) (7 * a + 6) (sWeek (aN z) x (aV z) (2 + 10 * a + 6))) (nI (aN z)) x v4 (nI (a + 1))) := by
    rw [hL_weeks_34, if_neg (by rw [nn_le (by omega) (by omega)]; omega), c7_1, c7_2, c7_3, c7_4, c7_5, c7_0, nn_in (by omega) (by decide), nn_lt1, nn_tn (by omega), nn_in (by omega) (by decide), nn_lt1, nn_tn (by omega), nn_in (by omega) (by decide), nn_lt1, nn_tn (by omega), nn_in (by omega) (by decide), nn_lt1, nn_tn (by omega), nn_in (by omega) (by decide), nn_lt1, nn_tn (by omega), e0, e1, e2, m9, e5, mb_w hW ha, up_n _ _ (show 7 * a ≠ 7 * a + 4 by omega), up_n _ _ (show 7 * a ≠ 7 * a + 3 by omega), up_n _ _ (show 7 * a ≠ 7 * a + 2 by omega), up_n _ _ (show 7 * a ≠ 7 * a + 1 by omega), up_s]
    congr 1
    · exact e185 _ _
    · congr 1
      funext l
      exact e185 _ _
  rw [h34]
  rcases wf_par hW ha with ⟨g, -⟩ | ⟨d, hd, hne, g, -, -⟩
  · obtain ⟨wf', hw, k1, k2⟩ := key 0
    refine ⟨wf', k1, k2 (by rw [sFree_t g]; rfl), ?_⟩
    rw [if_pos g, ← hw]
  · obtain ⟨wf', hw, k1, k2⟩ := key (sL (aV z) a d)
    refine ⟨wf', k1, k2 (by rw [sFree_f g (by omega), pp_b g (by omega)]; rfl), ?_⟩
    have e : bd1 (hL_lead z (nI a) (aV z (2 + 10 * a + 8))) = bd1 (β := Int32 × aS) (some (sL (aV z) a d)) := by rw [g, P_lead hW ha hd]
    rw [if_neg (by rw [g, nn_NI (by omega)]; exact not_false), e, nn_bd1, ← hw]
theorem wk_34 (hW : WF (aN z) M (aV z)) (x1 : Int32) {x : Int32} (hx : rg 0 511 x = true) (v4 : Int32) : ∀ (d a fuel : Nat) (wf : Nat → Int32), a + d = aN z → d < fuel → (∀ c, c < a → ∀ o, o < 7 → wf (7 * c + o) = wkf (aN z) (aV z) (sWeek (aN z) x (aV z)) c o) → ∃ wf', (∀ c, c < aN z → ∀ o, o < 7 → wf' (7 * c + o) = wkf (aN z) (aV z) (sWeek (aN z) x (aV z)) c o) ∧ hL_weeks_34 x1 fuel z wf (nI (aN z)) x v4 (nI a) = hL_weeks_34 x1 1 z wf' (nI (aN z)) x v4 (nI (aN z))
  | 0, a, fuel, wf, h, hf, hw => by
    have h9 := hW.1
    obtain ⟨f, rfl⟩ : ∃ f, fuel = f + 1 := ⟨fuel - 1, by omega⟩
    obtain rfl : a = aN z := by omega
    refine ⟨wf, hw, ?_⟩
    rw [hL_weeks_34, hL_weeks_34, if_pos (Int32.le_refl _), if_pos (Int32.le_refl _)]
  | d + 1, a, fuel, wf, h, hf, hw => by
    obtain ⟨f, rfl⟩ : ∃ f, fuel = f + 1 := ⟨fuel - 1, by omega⟩
    obtain ⟨wf1, k1, k2, k3⟩ := wk_fill hW x1 hx (show a < aN z by omega) wf f v4
    obtain ⟨wf2, k4, k5⟩ := wk_34 hW x1 hx v4 d (a + 1) f wf1 (by omega) (by omega) (fun c hc o ho => by
      by_cases hca : c = a
      · rw [hca]; exact k2 o ho
      · rw [k1 _ (Or.inl (by omega))]; exact hw c (by omega) o ho)
    exact ⟨wf2, k4, k3.trans k5⟩
/-- behind the week -/
theorem gain (a b l x : Nat) : nI (a + b) + 20 * nI x - (nI a + 20 * nI x) = nI b := by
  rw [show (20 : Int32) = nI 20 from rfl, nn_mul, nn_add, nn_add, nn_sub (by omega)]
  congr 1
  omega
theorem gain2 {a b x : Nat} (h : 20 ≤ a + b) : nI (a + b - 20) + 20 * nI (x + 1) - (nI a + 20 * nI x) = nI b := by
  rw [show (20 : Int32) = nI 20 from rfl, nn_mul, nn_mul, nn_add, nn_add, nn_sub (by omega)]
  congr 1
  omega
theorem i_self (a : Int32) : a - a = 0 := by grind
theorem cr_0 {n M : Nat} {v : tePg} (hW : WF n M v) {a : Nat} (ha : a < n) : cr (v (2 + 10 * a + 6)) 0 = v (2 + 10 * a + 6) := by
  obtain ⟨c, hc, e⟩ := (hW.2.2.2 a ha).2.2.1
  have q : ∀ c : Fin 199, cr (nI c.val - 99) 0 = nI c.val - 99 := by decide +kernel
  rw [e]
  exact q ⟨c, by omega⟩
end S98
