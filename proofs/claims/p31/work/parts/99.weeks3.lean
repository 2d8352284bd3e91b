/-! WEEKS: the check behind the week, and the whole -/
section S99
variable {z : aS} {M M1 : Nat} {v : tePg} {x : Int32}
theorem wk_ok (hW : WF (aN z) M v) (hM : M + aN z < 100000) (hv : aV z = sWeek (aN z) x v) {c d : Nat} (hc : c < aN z) (hd : d < aN z) (hne : d ≠ c) (g : v (2 + 10 * c + 8) = nI d) {R : Int32} (hR : R = wRow x v c 9) : A_tryMember z (nI c) 8 = (if wK (nI d) R (A_tryBoth z (nI c) (nI d) 2) = 0 then -9999 else nI d) ∧ A_tryMember z (nI c) 9 = (if wK (nI d) R (A_tryBoth z (nI c) (nI d) 2) = 0 then -9999 else R) := by
  have h9 := hW.1
  obtain ⟨-, -, hm⟩ := mts_row hW x
  obtain ⟨-, -, hw⟩ := week_row hW hM x
  have hU : WF (aN z) (M + aN z) (mts (aN z) x (aN z) 0 v) := wf_mts x (aN z) 0 M v hW hM (by omega)
  have hfit : sFit (aV z) c d = sFit (mts (aN z) x (aN z) 0 v) c d := by
    rw [hv]
    exact sFit_cong hU hc hd (fun o ho => by rw [(hw c hc).1 o (by omega), hm c hc o (by omega)]) (fun o ho => by rw [(hw d hd).1 o (by omega), hm d hd o (by omega)])
  have h8 : mts (aN z) x (aN z) 0 v (2 + 10 * c + 8) = nI d := by rw [hm c hc 8 (by decide), wRow_8]; exact g
  have hok : sOk (mts (aN z) x (aN z) 0 v) c = (sFit (aV z) c d && decide (R < 3)) := by
    unfold sOk
    rw [sFree_f h8 (by omega), pp_b h8 (by omega), Bool.false_or, hm c hc 9 (by decide), ← hR, hfit]
  rw [bo_2 h9 hc hd (Ne.symm hne), show A_tryMember z (nI c) 8 = aV z (2 + 10 * c + 8) from mb_o h9 hc (o := 8) (by decide), mb_9 h9 hc]
  have n9 : ¬ nI d = -9999 := by rw [nn_NI (by omega)]; exact not_false
  unfold wK
  rw [if_neg n9]
  by_cases h3 : R < 3
  · rw [if_neg (Int32.not_le.mpr h3)]
    rw [decide_eq_true h3, Bool.and_true] at hok
    cases hf : sFit (aV z) c d
    · rw [hf] at hok
      obtain ⟨k1, k2⟩ := (hw c hc).2.2 hok
      rw [← hv] at k1
      rw [if_neg (show ¬ bI false = 1 by decide), if_pos rfl, if_pos rfl, k1, sFree_t k1, ifT]
      exact ⟨rfl, rfl⟩
    · rw [hf] at hok
      obtain ⟨k1, k2⟩ := (hw c hc).2.1 hok
      rw [← hv, g] at k1
      rw [← hv, ← hR] at k2
      rw [if_pos (show bI true = 1 from rfl), if_neg i1_0, if_neg i1_0, k1, sFree_f k1 (by omega), ifF, k2]
      exact ⟨rfl, rfl⟩
  · rw [if_pos (Int32.not_lt.mp h3), if_pos rfl, if_pos rfl]
    rw [decide_eq_false h3, Bool.and_false] at hok
    obtain ⟨k1, k2⟩ := (hw c hc).2.2 hok
    rw [← hv] at k1
    rw [k1, sFree_t k1, ifT]
    exact ⟨rfl, rfl⟩
theorem wk_one (hW : WF (aN z) M v) (hM : M + aN z < 100000) (hI : IV (aN z) v) (hW1 : WF (aN z) M1 (aV z)) (hv : aV z = sWeek (aN z) x v) (x1 : Int32) (wf : Nat → Int32) {c : Nat} (hc : c < aN z) (hwf : ∀ o, o < 7 → wf (7 * c + o) = wkf (aN z) v (aV z) c o) (f : Nat) : hL_weeks_252 x1 (f + 1) z wf (nI (aN z)) x 1 (nI c) = hL_weeks_252 x1 f z wf (nI (aN z)) x 1 (nI (c + 1)) := by
  have h9 := hW.1
  obtain ⟨-, -, hw⟩ := week_row hW hM x
  obtain ⟨g, hg, eg⟩ := hI.1 c hc
  have w0 : wf (7 * c) = v (2 + 10 * c + 8) := hwf 0 (by decide)
  have w1 : wf (7 * c + 1) = v (2 + 10 * c + 6) := hwf 1 (by decide)
  have w2 : wf (7 * c + 2) = v (2 + 10 * c + 7) := hwf 2 (by decide)
  have w3 : wf (7 * c + 3) = (if sFree v c = true then -9999 else v (2 + 10 * c + 9)) := hwf 3 (by decide)
  have w4 : wf (7 * c + 4) = v (2 + 10 * c + 5) + 20 * v (2 + 10 * c + pw v c) := hwf 4 (by decide)
  have w5 : wf (7 * c + 5) = (if sFree v c = true then 0 else sL v c (pp v c)) := hwf 5 (by decide)
  have w6 : wf (7 * c + 6) = aV z (2 + 10 * c + 6) := hwf 6 (by decide)
  have hrow : ∀ o, o < 8 → aV z (2 + 10 * c + o) = wRow x v c o := fun o ho => by rw [hv]; exact (hw c hc).1 o ho
  have mo : ∀ o, o < 8 → A_tryMember z (nI c) (nI o) = wRow x v c o := fun o ho => (mb_o h9 hc (by omega)).trans (hrow o ho)
  have m5 : A_tryMember z (nI c) 5 = wRow x v c 5 := mo 5 (by decide)
  have m6 : A_tryMember z (nI c) 6 = wRow x v c 6 := mo 6 (by decide)
  have m7 : A_tryMember z (nI c) 7 = wRow x v c 7 := mo 7 (by decide)
  have hpl := pw_lt hW hc
  have mw : wRow x v c 4 = v (2 + 10 * c + 4) → A_tryMember z (nI c) (A_tryMember z (nI c) 4) = wRow x v c (pw v c) := fun e => by
    rw [mb_w hW1 hc]
    have : pw (aV z) c = pw v c := by unfold pw; rw [hrow 4 (by decide), e]
    rw [this, hrow _ (by omega)]
  rw [hL_weeks_252, if_neg (by rw [nn_le (by omega) (by omega)]; omega), if_neg i1_0, c7_0, nn_in (by omega) (by decide), nn_tn (by omega), w0, bt_if, ← nn_add c 1]
  rcases wf_par hW hc with ⟨gf, -⟩ | ⟨d, hd, hne, gd, gd2, -⟩
  · have e : ∀ v10 : Int32, hL_weeks_288 x1 (hL_weeks_252 x1 f) z wf (nI (aN z)) x (nI c) (v (2 + 10 * c + 8)) v10 = hL_weeks_252 x1 f z wf (nI (aN z)) x 1 (nI c + nI 1) := fun v10 => by
      unfold hL_weeks_288
      rw [gf, if_pos rfl]
      have hr : wRow x v c = row v c := wRow_f (sFree_t gf)
      have k8 : aV z (2 + 10 * c + 8) = -9999 := by
        rw [hv]
        cases ho : sOk (mts (aN z) x (aN z) 0 v) c
        · exact ((hw c hc).2.2 ho).1
        · exact ((hw c hc).2.1 ho).1.trans gf
      refine wk_313 x1 _ wf _ x (-9999) v10 0 _ (by omega) rfl ?_ ?_ ?_ ?_ ?_ ?_
      · rw [mw (by rw [hr]; rfl), m5, w4, hr]
        unfold wG
        rw [if_pos rfl]
        exact i_self _
      · rw [m6, hr, w1]
        unfold wD
        rw [if_pos rfl, cr_0 hW hc]; rfl
      · rw [w6, hrow 6 (by decide), hr, w1]
        unfold wD
        rw [if_pos rfl, cr_0 hW hc]; rfl
      · rw [m7, hr, w2]
        unfold wY
        rw [if_pos rfl, a_0]; rfl
      · unfold wK
        rw [if_pos rfl, if_pos rfl]
        exact (mb_o h9 hc (o := 8) (by decide)).trans k8
      · unfold wK
        rw [if_pos rfl, if_pos rfl, mb_9 h9 hc, sFree_t k8, ifT]
    rw [e 1, e 0]
    split <;> rfl
  · have n9 : ¬ nI d = -9999 := by rw [nn_NI (by omega)]; exact not_false
    have hfr : sFree v c = false := sFree_f gd (by omega)
    rw [hfr, ifF] at w3 w5
    rw [pp_b gd (by omega)] at w5
    rw [gd]
    unfold hL_weeks_288
    rw [if_neg n9, if_neg n9, bt_if, bt_if]
    have hp := wRow_p (x := x) gd (show d < 9 by omega)
    cases hA : bt x c
    · rw [ifF]
      rw [hA] at hp
      cases hB : bt x d
      · rw [ifF]
        rw [hB, Bool.or_false, ifF] at hp
        obtain ⟨l, y, k1, k2, k3, k4, k5, k6, k7, k8, k9, k10⟩ := meet_row hW hc hd (hI.2.1 c d hc hd gd) hg eg
        rw [← hp] at k5 k6 k8 k9 k10
        have hR : (0 : Int32) = wRow x v c 9 := by rw [hp]; exact (fK_8 _ _).2.symm
        obtain ⟨q8, q9⟩ := wk_ok hW hM hv hc hd hne gd hR
        refine wk_313 x1 _ wf _ x (nI d) 0 0 0 (by omega) (by unfold wR; rw [if_pos rfl, if_pos rfl]) ?_ ?_ ?_ ?_ q8 q9
        · rw [mw k8, m5, w4, w5, k5, k6, eg, k4, k3]
          unfold wG
          rw [if_neg n9, if_pos rfl, if_pos rfl, show (4 : Int32) + nI l = nI (4 + l) from nn_add 4 l]
          by_cases hlt : g + (4 + l) < 20
          · rw [if_pos hlt, if_pos hlt]
            exact gain g (4 + l) 0 y
          · rw [if_neg hlt, if_neg hlt]
            exact gain2 (by omega)
        · rw [m6, k9, w1]
          unfold wD
          rw [if_neg n9, if_pos rfl, if_pos rfl]
        · rw [w6, hrow 6 (by decide), k9, w1]
          unfold wD
          rw [if_neg n9, if_pos rfl, if_pos rfl]
        · rw [m7, k10, w2]
          unfold wY
          rw [if_neg n9, if_pos rfl, a_0]
      · rw [ifT]
        rw [hB, Bool.or_true, ifT] at hp
        obtain ⟨k1, k2, k3, k4⟩ := miss_row (v := v) c false
        rw [← hp] at k1 k2 k3 k4
        have hR : v (2 + 10 * c + 9) + 1 = wRow x v c 9 := k4.symm
        obtain ⟨q8, q9⟩ := wk_ok hW hM hv hc hd hne gd hR
        refine wk_313 x1 _ wf _ x (nI d) 0 1 (v (2 + 10 * c + 9) + 1) (by omega) (by unfold wR; rw [if_pos rfl, if_neg i1_0, w3]) ?_ ?_ ?_ ?_ q8 q9
        · rw [mw (k1 4 (by decide)), m5, w4, k1 5 (by decide), k1 _ (by omega)]
          unfold wG
          rw [if_neg n9, if_pos rfl, if_neg i1_0]
          exact i_self _
        · rw [m6, k2, w1]
          unfold wD
          rw [if_neg n9, if_pos rfl, if_neg i1_0]; rfl
        · rw [w6, hrow 6 (by decide), k2, w1]
          unfold wD
          rw [if_neg n9, if_pos rfl, if_neg i1_0]; rfl
        · rw [m7, k3, w2]
          unfold wY
          rw [if_neg n9, if_pos rfl]; rfl
    · rw [ifT]
      rw [hA, Bool.true_or, ifT] at hp
      obtain ⟨k1, k2, k3, k4⟩ := miss_row (v := v) c true
      rw [← hp] at k1 k2 k3 k4
      have hR : v (2 + 10 * c + 9) + 1 = wRow x v c 9 := k4.symm
      obtain ⟨q8, q9⟩ := wk_ok hW hM hv hc hd hne gd hR
      have e : ∀ v11 : Int32, hL_weeks_313 x1 (hL_weeks_252 x1 f) z wf (nI (aN z)) x (nI c) (nI d) 1 v11 = hL_weeks_252 x1 f z wf (nI (aN z)) x 1 (nI c + nI 1) := fun v11 => by
        refine wk_313 x1 _ wf _ x (nI d) 1 v11 (v (2 + 10 * c + 9) + 1) (by omega) (by unfold wR; rw [if_neg i1_0, w3]) ?_ ?_ ?_ ?_ q8 q9
        · rw [mw (k1 4 (by decide)), m5, w4, k1 5 (by decide), k1 _ (by omega)]
          unfold wG
          rw [if_neg n9, if_neg i1_0]
          exact i_self _
        · rw [m6, k2, w1]
          unfold wD
          rw [if_neg n9, if_neg i1_0]; rfl
        · rw [w6, hrow 6 (by decide), k2, w1]
          unfold wD
          rw [if_neg n9, if_neg i1_0]; rfl
        · rw [m7, k3, w2]
          unfold wY
          rw [if_neg n9, if_neg i1_0]; rfl
      rw [e 1, e 0]
      split <;> rfl
theorem wk_252 (hW : WF (aN z) M v) (hM : M + aN z < 100000) (hI : IV (aN z) v) (hW1 : WF (aN z) M1 (aV z)) (hv : aV z = sWeek (aN z) x v) (x1 : Int32) (wf : Nat → Int32) (hwf : ∀ c, c < aN z → ∀ o, o < 7 → wf (7 * c + o) = wkf (aN z) v (aV z) c o) : ∀ (d c fuel : Nat), c + d = aN z → d < fuel → hL_weeks_252 x1 fuel z wf (nI (aN z)) x 1 (nI c) = some (1, z)
  | 0, c, fuel, h, hf => by
    have h9 := hW.1
    obtain ⟨f, rfl⟩ : ∃ f, fuel = f + 1 := ⟨fuel - 1, by omega⟩
    rw [hL_weeks_252, if_pos (by rw [nn_le (by omega) (by omega)]; omega)]; rfl
  | d + 1, c, fuel, h, hf => by
    obtain ⟨f, rfl⟩ : ∃ f, fuel = f + 1 := ⟨fuel - 1, by omega⟩
    rw [wk_one hW hM hI hW1 hv x1 wf (show c < aN z by omega) (hwf c (by omega)) f]
    exact wk_252 hW hM hI hW1 hv x1 wf hwf d (c + 1) f (by omega) (by omega)
end S99
def wkX (x1 : Int32) : Int32 := (x1 - x1 / 512 * 512) &&& (x1 / 512)
theorem P_weeks {z : aS} (hW : WF (aN z) (aM z) (aV z)) (hI : IV (aN z) (aV z)) (hM : aM z + 9 ≤ 4000) (x1 : Int32) (hx : rg 0 511 (wkX x1) = true) : hL_weeks x1 z = some (1, aAct z (aM z + 9, (aN z, sWeek (aN z) (wkX x1) (aV z)))) := by
  have h9 := hW.1
  unfold hL_weeks
  rw [nn_lt1, show A_tryAbout z 0 = nI (aN z) from rfl, show (x1 - x1 / 512 * 512) &&& (x1 / 512) = wkX x1 from rfl, show A_tryAbout z 2 = aV z 1 from rfl]
  generalize wkX x1 = x at hx ⊢
  obtain ⟨wf', k1, k2⟩ := wk_34 hW x1 hx (aV z 1) (aN z) 0 10 (fun _ => 0) (Nat.zero_add _) (by omega) (fun c hc => absurd hc (by omega))
  refine Eq.trans k2 ?_
  have hW2 := wf_week hW (by omega) x
  have e : A_tryWeek z x = some (nPrs (aN z) (sWeek (aN z) x (aV z)), aAct z (aM z + 9, (aN z, sWeek (aN z) x (aV z)))) := by
    unfold A_tryWeek
    rw [hx, ifT, if_pos hM]
  obtain ⟨-, w1, -⟩ := week_row hW (by omega) x
  rw [hL_weeks_34, if_pos (Int32.le_refl _), e, nn_bd2, show A_tryAbout (aAct z (aM z + 9, (aN z, sWeek (aN z) x (aV z)))) 1 = nPrs (aN z) (sWeek (aN z) x (aV z)) from rfl, if_pos rfl, show A_tryAbout (aAct z (aM z + 9, (aN z, sWeek (aN z) x (aV z)))) 2 = sWeek (aN z) x (aV z) 1 from rfl, w1, if_pos rfl]
  exact wk_252 (z := aAct z (aM z + 9, (aN z, sWeek (aN z) x (aV z)))) (M := aM z) (v := aV z) (x := x) hW (by show aM z + aN z < 100000; omega) hI hW2 rfl x1 wf' k1 (aN z) 0 10 (Nat.zero_add _) (by omega)
