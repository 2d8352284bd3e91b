/-! WEEKS: what the law keeps of each member, and what it finds behind the week -/
theorem up_s (f : Nat → Int32) (k : Nat) (x : Int32) : upd f k x k = x := if_pos rfl
theorem up_n (f : Nat → Int32) {k : Nat} (x : Int32) {j : Nat} (h : j ≠ k) : upd f k x j = f j := if_neg h
def wkf (n : Nat) (v u : tePg) (a o : Nat) : Int32 := if o = 0 then v (2 + 10 * a + 8) else if o = 1 then v (2 + 10 * a + 6) else if o = 2 then v (2 + 10 * a + 7) else if o = 3 then (if sFree v a = true then -9999 else v (2 + 10 * a + 9)) else if o = 4 then v (2 + 10 * a + 5) + 20 * v (2 + 10 * a + pw v a) else if o = 5 then (if sFree v a = true then 0 else sL v a (pp v a)) else u (2 + 10 * a + 6)
theorem c7_0 (a : Nat) : (7 : Int32) * nI a = nI (7 * a) := nn_mul 7 a
theorem c7_o (a o : Nat) : (7 : Int32) * nI a + nI o = nI (7 * a + o) := by rw [c7_0, nn_add]
theorem c7_1 (a : Nat) : (7 : Int32) * nI a + 1 = nI (7 * a + 1) := c7_o a 1
theorem c7_2 (a : Nat) : (7 : Int32) * nI a + 2 = nI (7 * a + 2) := c7_o a 2
theorem c7_3 (a : Nat) : (7 : Int32) * nI a + 3 = nI (7 * a + 3) := c7_o a 3
theorem c7_4 (a : Nat) : (7 : Int32) * nI a + 4 = nI (7 * a + 4) := c7_o a 4
theorem c7_5 (a : Nat) : (7 : Int32) * nI a + 5 = nI (7 * a + 5) := c7_o a 5
theorem c7_6 (a : Nat) : (7 : Int32) * nI a + 6 = nI (7 * a + 6) := c7_o a 6
section S97
variable {z : aS} {M : Nat}
theorem mb_w (hW : WF (aN z) M (aV z)) {a : Nat} (ha : a < aN z) : A_tryMember z (nI a) (A_tryMember z (nI a) 4) = aV z (2 + 10 * a + pw (aV z) a) := by
  have h9 := hW.1
  obtain ⟨w, hw, ew⟩ := (hW.2.2.2 a ha).2.1
  rw [show A_tryMember z (nI a) 4 = nI w from (mb_o h9 ha (o := 4) (by decide)).trans ew, mb_o h9 ha (by omega)]
  have hp : pw (aV z) a = w := by unfold pw; rw [ew, nn_tn (by omega)]
  rw [hp]
def wD (v9 v10 v11 : Int32) : Int32 := if v9 = -9999 then 0 else if v10 = 0 then (if v11 = 0 then 1 else 2) else -3
def wG (v9 v10 v11 l : Int32) : Int32 := if v9 = -9999 then 0 else if v10 = 0 then (if v11 = 0 then 4 + l else 0) else 0
def wR (v10 v11 r : Int32) : Int32 := if v10 = 0 then (if v11 = 0 then 0 else r + 1) else r + 1
def wK (v9 R t : Int32) : Int32 := if v9 = -9999 then 0 else if 3 ≤ R then 0 else if t = 1 then 1 else 0
def wY (v9 v10 : Int32) : Int32 := if v9 = -9999 then 0 else if v10 = 0 then 0 else 1
abbrev tQ : Type := aS → (Nat → Int32) → Int32 → Int32 → Int32 → Int32 → Option (Int32 × aS)
theorem wk_663 (x1 : Int32) (q : tQ) (wf : Nat → Int32) (v2 v3 v8 v9 v17 v18 : Int32) (m8 : A_tryMember z v8 8 = if v18 = 0 then -9999 else v9) (m9 : A_tryMember z v8 9 = if v18 = 0 then -9999 else v17) : hL_weeks_663 x1 q z wf v2 v3 v8 v9 v17 v18 = q z wf v2 v3 1 (v8 + 1) := by
  unfold hL_weeks_663 hL_weeks_684
  by_cases h : v18 = 0
  · rw [if_pos h] at m8 m9
    rw [if_pos h, m8, if_pos rfl, if_pos h, m9, if_pos rfl]
  · rw [if_neg h] at m8 m9
    rw [if_neg h, m8, if_pos rfl, if_neg h, m9, if_pos rfl]
theorem wk_573 (x1 : Int32) (q : tQ) (wf : Nat → Int32) (v2 v3 v9 v10 v13 v14 v16 v17 v18 : Int32) {c : Nat} (hc : c < 9) (m6 : A_tryMember z (nI c) 6 = v13) (w6 : wf (7 * c + 6) = v13) (m7 : A_tryMember z (nI c) 7 = wf (7 * c + 2) + wY v9 v10) (m8 : A_tryMember z (nI c) 8 = if v18 = 0 then -9999 else v9) (m9 : A_tryMember z (nI c) 9 = if v18 = 0 then -9999 else v17) : hL_weeks_573 x1 q z wf v2 v3 (nI c) v9 v10 v13 v14 v14 v16 v17 v18 = q z wf v2 v3 1 (nI c + 1) := by
  have k := wk_663 x1 q wf v2 v3 (nI c) v9 v17 v18 m8 m9
  unfold hL_weeks_573 hL_weeks_640
  rw [m6, if_pos rfl, c7_6, nn_in (by omega) (by decide), nn_tn (by omega), w6, if_pos rfl, c7_2, nn_in (by omega) (by decide), nn_tn (by omega), m7]
  unfold wY
  by_cases h : v9 = -9999
  · rw [if_pos h, if_pos h, if_pos rfl, if_pos rfl]
    exact k
  · rw [if_neg h, if_neg h]
    by_cases h2 : v10 = 0
    · rw [if_pos h2, if_pos h2, if_pos rfl, if_pos rfl]
      exact k
    · rw [if_neg h2, if_neg h2, if_pos rfl, if_pos rfl]
      exact k
theorem wk_539 (x1 : Int32) (q : tQ) (wf : Nat → Int32) (v2 v3 v9 v10 v13 v14 v16 v17 : Int32) {c : Nat} (hc : c < 9) (m6 : A_tryMember z (nI c) 6 = v13) (w6 : wf (7 * c + 6) = v13) (m7 : A_tryMember z (nI c) 7 = wf (7 * c + 2) + wY v9 v10) (m8 : A_tryMember z (nI c) 8 = if wK v9 v17 (A_tryBoth z (nI c) v9 2) = 0 then -9999 else v9) (m9 : A_tryMember z (nI c) 9 = if wK v9 v17 (A_tryBoth z (nI c) v9 2) = 0 then -9999 else v17) : hL_weeks_539 x1 q z wf v2 v3 (nI c) v9 v10 v13 v14 v14 v16 v17 = q z wf v2 v3 1 (nI c + 1) := by
  have k := wk_573 x1 q wf v2 v3 v9 v10 v13 v14 v16 v17 (wK v9 v17 (A_tryBoth z (nI c) v9 2)) hc m6 w6 m7 m8 m9
  unfold hL_weeks_539
  unfold wK at k
  by_cases h : v9 = -9999
  · rw [if_pos h] at k ⊢
    exact k
  · rw [if_neg h] at k ⊢
    by_cases h2 : 3 ≤ v17
    · rw [if_pos h2] at k ⊢
      exact k
    · rw [if_neg h2] at k ⊢
      by_cases h3 : A_tryBoth z (nI c) v9 2 = 1
      · rw [if_pos h3] at k ⊢
        exact k
      · rw [if_neg h3] at k ⊢
        exact k
theorem wk_486 (x1 : Int32) (q : tQ) (wf : Nat → Int32) (v2 v3 v9 v10 v11 v13 v14 R : Int32) {c : Nat} (hc : c < 9) (hR : R = wR v10 v11 (wf (7 * c + 3))) (m6 : A_tryMember z (nI c) 6 = v13) (w6 : wf (7 * c + 6) = v13) (m7 : A_tryMember z (nI c) 7 = wf (7 * c + 2) + wY v9 v10) (m8 : A_tryMember z (nI c) 8 = if wK v9 R (A_tryBoth z (nI c) v9 2) = 0 then -9999 else v9) (m9 : A_tryMember z (nI c) 9 = if wK v9 R (A_tryBoth z (nI c) v9 2) = 0 then -9999 else R) : hL_weeks_486 x1 q z wf v2 v3 (nI c) v9 v10 v11 v13 v14 v14 = q z wf v2 v3 1 (nI c + 1) := by
  have k := fun v16 => wk_539 x1 q wf v2 v3 v9 v10 v13 v14 v16 R hc m6 w6 m7 m8 m9
  have k3 : ∀ v16, R = wf (7 * c + 3) + 1 → hL_weeks_523 x1 q z wf v2 v3 (nI c) v9 v10 v13 v14 v14 v16 = q z wf v2 v3 1 (nI c + 1) := fun v16 e => by
    unfold hL_weeks_523
    rw [c7_3, nn_in (by omega) (by decide), nn_tn (by omega), ← e]
    exact k v16
  unfold hL_weeks_486
  unfold wR at hR
  by_cases h2 : v10 = 0
  · rw [if_pos h2] at hR
    by_cases h3 : v11 = 0
    · rw [if_pos h3] at hR
      subst hR
      rw [if_pos h2, if_pos h3, if_pos h2, if_pos h3]
      split
      · exact k 1
      · exact k 0
    · rw [if_neg h3] at hR
      rw [if_pos h2, if_neg h3, if_pos h2, if_neg h3]
      split
      · exact k3 1 hR
      · exact k3 0 hR
  · rw [if_neg h2] at hR
    rw [if_neg h2, if_neg h2]
    split
    · exact k3 1 hR
    · exact k3 0 hR
theorem wk_413 (x1 : Int32) (q : tQ) (wf : Nat → Int32) (v2 v3 v9 v10 v11 v13 R : Int32) {c : Nat} (hc : c < 9) (hR : R = wR v10 v11 (wf (7 * c + 3))) (hG : A_tryMember z (nI c) 5 + 20 * A_tryMember z (nI c) (A_tryMember z (nI c) 4) - wf (7 * c + 4) = wG v9 v10 v11 (wf (7 * c + 5))) (m6 : A_tryMember z (nI c) 6 = v13) (w6 : wf (7 * c + 6) = v13) (m7 : A_tryMember z (nI c) 7 = wf (7 * c + 2) + wY v9 v10) (m8 : A_tryMember z (nI c) 8 = if wK v9 R (A_tryBoth z (nI c) v9 2) = 0 then -9999 else v9) (m9 : A_tryMember z (nI c) 9 = if wK v9 R (A_tryBoth z (nI c) v9 2) = 0 then -9999 else R) : hL_weeks_413 x1 q z wf v2 v3 (nI c) v9 v10 v11 v13 = q z wf v2 v3 1 (nI c + 1) := by
  have k := fun v14 => wk_486 x1 q wf v2 v3 v9 v10 v11 v13 v14 R hc hR m6 w6 m7 m8 m9
  unfold hL_weeks_413
  rw [c7_4, nn_in (by omega) (by decide), nn_tn (by omega), hG]
  unfold wG
  by_cases h : v9 = -9999
  · rw [if_pos h, if_pos h]
    exact k 0
  · rw [if_neg h, if_neg h]
    by_cases h2 : v10 = 0
    · rw [if_pos h2, if_pos h2]
      by_cases h3 : v11 = 0
      · rw [if_pos h3, if_pos h3, c7_5, nn_in (by omega) (by decide), nn_tn (by omega)]
        exact k _
      · rw [if_neg h3, if_neg h3]
        exact k 0
    · rw [if_neg h2, if_neg h2]
      exact k 0
theorem wk_313 (x1 : Int32) (q : tQ) (wf : Nat → Int32) (v2 v3 v9 v10 v11 R : Int32) {c : Nat} (hc : c < 9) (hR : R = wR v10 v11 (wf (7 * c + 3))) (hG : A_tryMember z (nI c) 5 + 20 * A_tryMember z (nI c) (A_tryMember z (nI c) 4) - wf (7 * c + 4) = wG v9 v10 v11 (wf (7 * c + 5))) (m6 : A_tryMember z (nI c) 6 = cr (wf (7 * c + 1)) (wD v9 v10 v11)) (w6 : wf (7 * c + 6) = cr (wf (7 * c + 1)) (wD v9 v10 v11)) (m7 : A_tryMember z (nI c) 7 = wf (7 * c + 2) + wY v9 v10) (m8 : A_tryMember z (nI c) 8 = if wK v9 R (A_tryBoth z (nI c) v9 2) = 0 then -9999 else v9) (m9 : A_tryMember z (nI c) 9 = if wK v9 R (A_tryBoth z (nI c) v9 2) = 0 then -9999 else R) : hL_weeks_313 x1 q z wf v2 v3 (nI c) v9 v10 v11 = q z wf v2 v3 1 (nI c + 1) := by
  have k := wk_413 x1 q wf v2 v3 v9 v10 v11 (cr (wf (7 * c + 1)) (wD v9 v10 v11)) R hc hR hG m6 w6 m7 m8 m9
  have k2 : hL_weeks_352 x1 q z wf v2 v3 (nI c) v9 v10 v11 (wD v9 v10 v11) = q z wf v2 v3 1 (nI c + 1) := by
    unfold hL_weeks_352
    rw [c7_1, nn_in (by omega) (by decide), nn_tn (by omega)]
    unfold cr at k
    by_cases h : wf (7 * c + 1) + wD v9 v10 v11 ≤ 99
    · rw [if_pos h] at k ⊢
      by_cases h2 : -99 ≤ wf (7 * c + 1) + wD v9 v10 v11
      · rw [if_pos h2] at k ⊢
        exact k
      · rw [if_neg h2] at k ⊢
        exact k
    · rw [if_neg h] at k ⊢
      exact k
  unfold hL_weeks_313
  unfold wD at k2
  by_cases h : v9 = -9999
  · rw [if_pos h] at k2 ⊢
    exact k2
  · rw [if_neg h] at k2 ⊢
    by_cases h2 : v10 = 0
    · rw [if_pos h2] at k2 ⊢
      by_cases h3 : v11 = 0
      · rw [if_pos h3] at k2 ⊢
        exact k2
      · rw [if_neg h3] at k2 ⊢
        rw [if_pos h2]
        exact k2
    · rw [if_neg h2] at k2 ⊢
      rw [if_neg h2]
      exact k2
end S97
