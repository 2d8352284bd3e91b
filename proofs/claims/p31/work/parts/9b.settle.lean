/-! HANDS: settling -/
section S9B
variable {n M : Nat} {v : tePg}
theorem scn_0 {P : Nat → Nat → Bool} : ∀ (l : List (Nat × Nat)), 0 < (l.filter fun q => P q.1 q.2).length → scn P (fun _ => (none : Option (Nat × Nat))) (fun a b => some (a, b)) l 0 ≠ none
  | [], h => absurd h (Nat.lt_irrefl 0)
  | q :: l, h => by
    rw [scn]
    cases hq : P q.1 q.2
    · rw [List.filter_cons_of_neg (p := fun q : Nat × Nat => P q.1 q.2) (by rw [hq]; decide)] at h
      exact scn_0 l h
    · rw [ifT, if_pos rfl]
      exact fun e => by cases e
theorem fnd_cB : fnd v n 0 = none ↔ cB v (pout n 0 n) = 0 := by
  constructor
  · intro h
    rcases Nat.eq_zero_or_pos (cB v (pout n 0 n)) with h1 | h1
    · exact h1
    · exact absurd h (scn_0 (P := sBlk v) (pout n 0 n) h1)
  · intro h
    have h2 := scn_end (sBlk v) (fun _ => (none : Option (Nat × Nat))) (fun a b => some (a, b)) (pout n 0 n) 0
    have h3 : ((pout n 0 n).filter fun q => sBlk v q.1 q.2).length = 0 := h
    rw [h3] at h2
    exact h2
theorem nBlk_c : nBlk n v = nI (cB v (pout n 0 n)) := by
  unfold nBlk
  rw [li0, sf_cnt, Nat.zero_add]; rfl
theorem cB_81 (h9 : n ≤ 9) : cB v (pout n 0 n) ≤ 81 := cB_le (pre := pout n 0 n) (post := []) h9 (List.append_nil _).symm
theorem st_full : ∀ (m : Nat) (v : tePg), fnd (st n m v).2 n 0 = none ∨ (st n m v).1 = m
  | 0, v => Or.inr rfl
  | m + 1, v => by
    rw [st]
    cases hb : fnd v n 0 with
    | none => exact Or.inl hb
    | some q =>
      rcases st_full m (mUni v q.1 q.2) with h | h
      · exact Or.inl h
      · right
        show (st n m (mUni v q.1 q.2)).1 + 1 = m + 1
        rw [h]
end S9B
section S9Bb
variable {z b : aS}
theorem hd_300 (x1 : Int32) (h1 : b.2.1 = []) (h2 : b.2.2.1 0 = some b.1) (hz : z.2.2 = b.2.2) (hW : WF (aN z) (aM z) (aV z)) (hI : IV (aN z) (aV z)) (hM : aM z ≤ 4000) (v2 v4 : Int32) : hL_hands_300 x1 z v2 (aV b 1) v4 = hL_hands_321 x1 b v2 (aV b 1) v4 1 := by
  unfold hL_hands_300
  rw [P_sound hW hI hM, nn_bd1, if_neg i1_0, hd_rs h1 h2 hz, nn_bd2, if_pos rfl]
theorem hd_284 (x1 : Int32) (h1 : b.2.1 = []) (h2 : b.2.2.1 0 = some b.1) (hz : z.2.2 = b.2.2) (hW : WF (aN z) (aM z) (aV z)) (hI : IV (aN z) (aV z)) (hM : aM z ≤ 4000) (v2 v4 : Int32) : hL_hands_284 x1 z v2 (aV b 1) v4 = hL_hands_321 x1 b v2 (aV b 1) v4 1 := by
  have h9 := hW.1
  unfold hL_hands_284
  have hc := cB_81 (v := aV z) h9
  rw [show A_tryAbout z 4 = nBlk (aN z) (aV z) from rfl, nBlk_c, li0, lt_if (by decide) (by omega)]
  by_cases h0 : 0 < cB (aV z) (pout (aN z) 0 (aN z))
  · rw [if_pos h0]
    exact hd_300 x1 h1 h2 hz hW hI hM v2 v4
  · rw [if_neg h0]
    have hn : fnd (aV z) (aN z) 0 = none := fnd_cB.mpr (by omega)
    have e : A_trySettle z 1 = some (0, aAct z (aPg z (aV z))) := by
      unfold A_trySettle
      rw [show rg 1 50 1 = true by decide, ifT, show (1 : Int32).toNatClampNeg = 1 from rfl, st, hn]; rfl
    rw [e, nn_bd2, if_pos (show (0 : Int32) = nI 0 from rfl)]
    exact hd_300 (z := aAct z (aPg z (aV z))) x1 h1 h2 hz hW hI hM v2 v4
theorem rg_1_50 {K : Nat} (h1 : 1 ≤ K) (h2 : K ≤ 50) : rg 1 50 (nI K) = true := by
  unfold rg
  rw [Bool.and_eq_true]
  refine ⟨decide_eq_true ?_, decide_eq_true ?_⟩
  · rw [li1, nn_lt (by omega) (by decide)]; omega
  · rw [show (50 : Int32) = nI 50 from rfl, nn_lt (by decide) (by omega)]; omega
theorem hd_231 {t : Nat} (ht : t < 2147483648) (h1 : b.2.1 = []) (h2 : b.2.2.1 0 = some b.1) (hW : WF (aN b) (aM b) (aV b)) (hI : IV (aN b) (aV b)) (hM : aM b ≤ 4000) (v2 v4 : Int32) : hL_hands_231 (nI t) b v2 (aV b 1) v4 1 = hL_hands_321 (nI t) b v2 (aV b 1) v4 1 := by
  have h9 := hW.1
  have eK : (1 : Int32) + (nI t / 16 - nI t / 16 / 20 * 20) = nI (1 + t / 16 % 20) := by
    rw [show (16 : Int32) = nI 16 from rfl, nn_div ht (by decide) (by decide), show (20 : Int32) = nI 20 from rfl, nn_rem (by omega) (by decide) (by decide), li1, nn_add]
  have hK : t / 16 % 20 < 20 := Nat.mod_lt _ (by decide)
  unfold hL_hands_231
  rw [eK]
  generalize hKK : 1 + t / 16 % 20 = K
  have hK2 : 1 ≤ K ∧ K ≤ 20 := by omega
  have e : A_trySettle b (nI K) = some (nI (st (aN b) K (aV b)).1, aAct b (aPg b (st (aN b) K (aV b)).2)) := by
    unfold A_trySettle
    rw [rg_1_50 hK2.1 (by omega), ifT, nn_tn (by omega)]
  have hl := st_le (n := aN b) K (aV b)
  have k := hd_284 (z := aAct b (aPg b (st (aN b) K (aV b)).2)) (nI t) h1 h2 rfl (wf_st K _ hW) (IV_st K _ hW hI) hM v2 v4
  rw [e, nn_bd2, if_neg i1_0, if_neg (nI_pos (by omega)), if_neg (by rw [nn_lt (by omega) (by omega)]; omega), eq_if (by omega) (by omega)]
  by_cases h0 : (st (aN b) K (aV b)).1 = K
  · rw [if_pos h0]
    exact k
  · rw [if_neg h0]
    have hn := (st_full (n := aN b) K (aV b)).resolve_right h0
    have hc := fnd_cB.mp hn
    rw [show A_tryAbout (aAct b (aPg b (st (aN b) K (aV b)).2)) 4 = nBlk (aN b) (st (aN b) K (aV b)).2 from rfl, nBlk_c, hc, if_pos (show nI 0 = 0 from rfl)]
    exact k
end S9Bb
