/-! THE LAW'S LOOP answers 1 -/
def S00 : teS := fun _ _ => 0
theorem REL_0 : REL 0 0 S00 :=
  ⟨⟨by decide, by decide, rfl, fun a ha => absurd ha (by omega)⟩, ⟨rfl, rfl, fun a ha => absurd ha (by omega)⟩, ⟨0, 0, by decide, by decide, rfl, rfl, rfl, fun j hj => absurd hj (by omega)⟩, fun q _ => ⟨rfl, Or.inl rfl, fun h => absurd (show (0 : Int32) = 1 from h) (by decide)⟩, ⟨0, by decide, rfl, rfl, fun i hi => absurd hi (by omega)⟩⟩
theorem REL_up {K n : Nat} {S : teS} (h : REL K n S) (hK : 9 * (K + 1) < 100000) : REL (K + 1) n S := REL_cong h hK rfl rfl rfl rfl rfl (fun _ _ _ => rfl) rfl rfl rfl rfl rfl rfl rfl
theorem ofL_lt {L i : Nat} (hL : L ≤ 2560) (hi : i ≤ 3000) : (Int32.ofNat L - 5 < nI i) = (L < i + 5) := by
  have h1 : (Int32.ofNat L - 5).toInt = (L : Int) - 5 := ti_sub (show (nI L).toInt = (L : Int) from nI_toInt (by omega)) (show (5 : Int32).toInt = 5 by decide) (by omega) (by omega)
  rw [Int32.lt_iff_toInt_lt, h1, nI_toInt (by omega)]
  exact propext (by omega)
theorem tein_t {i L : Nat} (h : i < L) (hL : L ≤ 2560) : tein (nI i) L = true := by
  simp only [tein, Bool.and_eq_true, decide_eq_true_eq]
  exact ⟨nI_pos (by omega), by rw [nn_tn (by omega)]; exact h⟩

set_option maxHeartbeats 4000000 in
theorem law_run (xs : Nat → Int32) {L : Nat} (hL : L ≤ 2560) : ∀ (fuel K n : Nat) (S : teS) (O : Int64), REL K n S → K ≤ 512 → L < 5 * (K + fuel) → 0 < fuel → fL_law_23 xs L fuel S O (nI (5 * K)) = some 1
  | 0, K, n, S, O, h, hK, hf, h0 => absurd h0 (by decide)
  | f + 1, K, n, S, O, h, hK, hf, h0 => by
    unfold fL_law_23
    by_cases hx : Int32.ofNat L - 5 < nI (5 * K)
    · exact if_pos hx
    · refine (if_neg hx).trans ?_
      rw [ofL_lt hL (by omega)] at hx
      have hK1 : 9 * (K + 1) < 100000 := by omega
      have hK2 : 9 * (K + 200) < 100000 := by omega
      have hK3 : K ≤ 550 := by omega
      have t0 : tein (nI (5 * K)) L = true := tein_t (by omega) hL
      have t1 : tein (nI (5 * K) + (1 : Int32)) L = true := by rw [show nI (5 * K) + (1 : Int32) = nI (5 * K + 1) from nn_add _ 1]; exact tein_t (by omega) hL
      have t2 : tein (nI (5 * K) + (2 : Int32)) L = true := by rw [show nI (5 * K) + (2 : Int32) = nI (5 * K + 2) from nn_add _ 2]; exact tein_t (by omega) hL
      have t3 : tein (nI (5 * K) + (3 : Int32)) L = true := by rw [show nI (5 * K) + (3 : Int32) = nI (5 * K + 3) from nn_add _ 3]; exact tein_t (by omega) hL
      have t4 : tein (nI (5 * K) + (4 : Int32)) L = true := by rw [show nI (5 * K) + (4 : Int32) = nI (5 * K + 4) from nn_add _ 4]; exact tein_t (by omega) hL
      have hq : ∀ n2 S2 O2, REL (K + 1) n2 S2 → fL_law_1848 xs L (fL_law_23 xs L f) S2 O2 (nI (5 * K)) = some 1 := fun n2 S2 O2 h2 => by
        unfold fL_law_1848
        rw [show nI (5 * K) + (5 : Int32) = nI (5 * (K + 1)) from (nn_add _ 5).trans (congrArg nI (by omega))]
        exact law_run xs hL f (K + 1) n2 S2 O2 h2 (by omega) (by omega) (by omega)
      refine (nn_ch t0).trans ?_
      by_cases c0 : (xs (nI (5 * K)).toNatClampNeg &&& (31 : Int32)) = (0 : Int32)
      · refine (if_pos c0).trans ?_
        refine (nn_ch t1).trans ?_
        exact st_run (q := fun S3 O2 => fL_law_1848 xs L (fL_law_23 xs L f) S3 O2 (nI (5 * K))) (st_append h (by omega) _ O) hq
      refine (if_neg c0).trans ?_
      by_cases c1 : (xs (nI (5 * K)).toNatClampNeg &&& (31 : Int32)) = (1 : Int32)
      · refine (if_pos c1).trans ?_
        have hs := st_clear h (by omega)
        obtain ⟨v, S1, S2, k1, k2, k3⟩ := hs
        rw [k1, nn_bd2, k2, nn_bd2, if_pos rfl]
        exact hq _ _ _ k3
      refine (if_neg c1).trans ?_
      by_cases c2 : (xs (nI (5 * K)).toNatClampNeg &&& (31 : Int32)) = (2 : Int32)
      · refine (if_pos c2).trans ?_
        obtain ⟨v, S2, k1, k2, k3⟩ := st_error h (by omega)
        rw [k1, nn_bd1, k2, nn_bd2, if_pos rfl]
        exact hq _ _ _ k3
      refine (if_neg c2).trans ?_
      by_cases c3 : (xs (nI (5 * K)).toNatClampNeg &&& (31 : Int32)) = (3 : Int32)
      · refine (if_pos c3).trans ?_
        exact st_run (q := fun S3 O2 => fL_law_1848 xs L (fL_law_23 xs L f) S3 O2 (nI (5 * K))) (st_load h (by omega)  O) hq
      refine (if_neg c3).trans ?_
      by_cases c4 : (xs (nI (5 * K)).toNatClampNeg &&& (31 : Int32)) = (4 : Int32)
      · refine (if_pos c4).trans ?_
        refine (nn_ch t1).trans ?_
        exact st_run (q := fun S3 O2 => fL_law_1848 xs L (fL_law_23 xs L f) S3 O2 (nI (5 * K))) (st_about h (by omega) _ O) hq
      refine (if_neg c4).trans ?_
      by_cases c5 : (xs (nI (5 * K)).toNatClampNeg &&& (31 : Int32)) = (5 : Int32)
      · refine (if_pos c5).trans ?_
        refine (nn_ch t1).trans ?_
        refine (nn_ch t2).trans ?_
        exact st_run (q := fun S3 O2 => fL_law_1848 xs L (fL_law_23 xs L f) S3 O2 (nI (5 * K))) (st_member h (by omega) _ _ O) hq
      refine (if_neg c5).trans ?_
      by_cases c6 : (xs (nI (5 * K)).toNatClampNeg &&& (31 : Int32)) = (6 : Int32)
      · refine (if_pos c6).trans ?_
        refine (nn_ch t1).trans ?_
        refine (nn_ch t2).trans ?_
        refine (nn_ch t3).trans ?_
        exact st_run (q := fun S3 O2 => fL_law_1848 xs L (fL_law_23 xs L f) S3 O2 (nI (5 * K))) (st_both h (by omega) _ _ _ O) hq
      refine (if_neg c6).trans ?_
      by_cases c7 : (xs (nI (5 * K)).toNatClampNeg &&& (31 : Int32)) = (7 : Int32)
      · refine (if_pos c7).trans ?_
        refine (nn_ch t1).trans ?_
        refine (nn_ch t2).trans ?_
        refine (nn_ch t3).trans ?_
        exact st_run (q := fun S3 O2 => fL_law_1848 xs L (fL_law_23 xs L f) S3 O2 (nI (5 * K))) (st_join h (by omega) _ _ _ O) hq
      refine (if_neg c7).trans ?_
      by_cases c8 : (xs (nI (5 * K)).toNatClampNeg &&& (31 : Int32)) = (8 : Int32)
      · refine (if_pos c8).trans ?_
        refine (nn_ch t1).trans ?_
        exact st_run (q := fun S3 O2 => fL_law_1848 xs L (fL_law_23 xs L f) S3 O2 (nI (5 * K))) (st_leave h (by omega) _ O) hq
      refine (if_neg c8).trans ?_
      by_cases c9 : (xs (nI (5 * K)).toNatClampNeg &&& (31 : Int32)) = (9 : Int32)
      · refine (if_pos c9).trans ?_
        refine (nn_ch t1).trans ?_
        refine (nn_ch t2).trans ?_
        exact st_run (q := fun S3 O2 => fL_law_1848 xs L (fL_law_23 xs L f) S3 O2 (nI (5 * K))) (st_want h (by omega) _ _ O) hq
      refine (if_neg c9).trans ?_
      by_cases c10 : (xs (nI (5 * K)).toNatClampNeg &&& (31 : Int32)) = (10 : Int32)
      · refine (if_pos c10).trans ?_
        refine (nn_ch t1).trans ?_
        refine (nn_ch t2).trans ?_
        refine (nn_ch t3).trans ?_
        exact st_run (q := fun S3 O2 => fL_law_1848 xs L (fL_law_23 xs L f) S3 O2 (nI (5 * K))) (st_test h (by omega) _ _ _ O) hq
      refine (if_neg c10).trans ?_
      by_cases c11 : (xs (nI (5 * K)).toNatClampNeg &&& (31 : Int32)) = (11 : Int32)
      · refine (if_pos c11).trans ?_
        refine (nn_ch t1).trans ?_
        refine (nn_ch t2).trans ?_
        exact st_run (q := fun S3 O2 => fL_law_1848 xs L (fL_law_23 xs L f) S3 O2 (nI (5 * K))) (st_pair h (by omega) _ _ O) hq
      refine (if_neg c11).trans ?_
      by_cases c12 : (xs (nI (5 * K)).toNatClampNeg &&& (31 : Int32)) = (12 : Int32)
      · refine (if_pos c12).trans ?_
        refine (nn_ch t1).trans ?_
        exact st_run (q := fun S3 O2 => fL_law_1848 xs L (fL_law_23 xs L f) S3 O2 (nI (5 * K))) (st_part h (by omega) _ O) hq
      refine (if_neg c12).trans ?_
      by_cases c13 : (xs (nI (5 * K)).toNatClampNeg &&& (31 : Int32)) = (13 : Int32)
      · refine (if_pos c13).trans ?_
        have hs := st_match h (by omega)
        obtain ⟨v, S1, S2, n2, k1, k2, k3⟩ := hs
        rw [k1, nn_bd2, k2, nn_bd2, if_pos rfl]
        exact hq _ _ _ k3
      refine (if_neg c13).trans ?_
      by_cases c14 : (xs (nI (5 * K)).toNatClampNeg &&& (31 : Int32)) = (14 : Int32)
      · refine (if_pos c14).trans ?_
        refine (nn_ch t1).trans ?_
        exact st_run (q := fun S3 O2 => fL_law_1848 xs L (fL_law_23 xs L f) S3 O2 (nI (5 * K))) (st_settle h (by omega) _ O) hq
      refine (if_neg c14).trans ?_
      by_cases c15 : (xs (nI (5 * K)).toNatClampNeg &&& (31 : Int32)) = (15 : Int32)
      · refine (if_pos c15).trans ?_
        refine (nn_ch t1).trans ?_
        exact st_run (q := fun S3 O2 => fL_law_1848 xs L (fL_law_23 xs L f) S3 O2 (nI (5 * K))) (st_week h (by omega) _ O) hq
      refine (if_neg c15).trans ?_
      by_cases c16 : (xs (nI (5 * K)).toNatClampNeg &&& (31 : Int32)) = (16 : Int32)
      · refine (if_pos c16).trans ?_
        exact st_run (q := fun S3 O2 => fL_law_1848 xs L (fL_law_23 xs L f) S3 O2 (nI (5 * K))) (st_undo h (by omega)  O) hq
      refine (if_neg c16).trans ?_
      by_cases c17 : (xs (nI (5 * K)).toNatClampNeg &&& (31 : Int32)) = (17 : Int32)
      · refine (if_pos c17).trans ?_
        refine (nn_ch t1).trans ?_
        refine (nn_ch t2).trans ?_
        by_cases hz : xs (nI (5 * K) + (2 : Int32)).toNatClampNeg = 0
        · refine (if_pos hz).trans ?_
          unfold fL_law_1092 fL_law_1119
          simp only [nn_ch t1, nn_ch t2, if_pos hz]
          exact st_run (q := fun S3 O2 => fL_law_1848 xs L (fL_law_23 xs L f) S3 O2 (nI (5 * K))) (st_blocking h (by omega) _ _ O) hq
        · refine (if_neg hz).trans ?_
          unfold fL_law_1092 fL_law_1119
          simp only [nn_ch t1, nn_ch t2, if_neg hz]
          exact st_run (q := fun S3 O2 => fL_law_1848 xs L (fL_law_23 xs L f) S3 O2 (nI (5 * K))) (st_blocking h (by omega) _ _ O) hq
      refine (if_neg c17).trans ?_
      by_cases c18 : (xs (nI (5 * K)).toNatClampNeg &&& (31 : Int32)) = (18 : Int32)
      · refine (if_pos c18).trans ?_
        refine (nn_ch t1).trans ?_
        refine (nn_ch t2).trans ?_
        by_cases hz : xs (nI (5 * K) + (2 : Int32)).toNatClampNeg = 0
        · refine (if_pos hz).trans ?_
          unfold fL_law_1176 fL_law_1203
          simp only [nn_ch t1, nn_ch t2, if_pos hz]
          exact st_run (q := fun S3 O2 => fL_law_1848 xs L (fL_law_23 xs L f) S3 O2 (nI (5 * K))) (st_bestPartner h (by omega) _ _ O) hq
        · refine (if_neg hz).trans ?_
          unfold fL_law_1176 fL_law_1203
          simp only [nn_ch t1, nn_ch t2, if_neg hz]
          exact st_run (q := fun S3 O2 => fL_law_1848 xs L (fL_law_23 xs L f) S3 O2 (nI (5 * K))) (st_bestPartner h (by omega) _ _ O) hq
      refine (if_neg c18).trans ?_
      by_cases c19 : (xs (nI (5 * K)).toNatClampNeg &&& (31 : Int32)) = (19 : Int32)
      · refine (if_pos c19).trans ?_
        refine (nn_ch t1).trans ?_
        exact st_run (q := fun S3 O2 => fL_law_1848 xs L (fL_law_23 xs L f) S3 O2 (nI (5 * K))) (st_best h (by omega) _ O) hq
      refine (if_neg c19).trans ?_
      by_cases c20 : (xs (nI (5 * K)).toNatClampNeg &&& (31 : Int32)) = (20 : Int32)
      · refine (if_pos c20).trans ?_
        have hs := st_missed h (by omega)
        obtain ⟨v, S1, S2, k1, k2, k3⟩ := hs
        rw [k1, nn_bd2, k2, nn_bd2, if_pos rfl]
        exact hq _ _ _ k3
      refine (if_neg c20).trans ?_
      by_cases c21 : (xs (nI (5 * K)).toNatClampNeg &&& (31 : Int32)) = (21 : Int32)
      · refine (if_pos c21).trans ?_
        refine (nn_ch t1).trans ?_
        refine (nn_ch t2).trans ?_
        refine (nn_ch t3).trans ?_
        refine (nn_ch t4).trans ?_
        exact st_run (q := fun S3 O2 => fL_law_1848 xs L (fL_law_23 xs L f) S3 O2 (nI (5 * K))) (st_ahead h (by omega) _ _ _ _ O) hq
      refine (if_neg c21).trans ?_
      by_cases c22 : (xs (nI (5 * K)).toNatClampNeg &&& (31 : Int32)) = (22 : Int32)
      · refine (if_pos c22).trans ?_
        refine (nn_ch t1).trans ?_
        refine (nn_ch t2).trans ?_
        exact st_run (q := fun S3 O2 => fL_law_1848 xs L (fL_law_23 xs L f) S3 O2 (nI (5 * K))) (st_levelAfter h (by omega) _ _ O) hq
      refine (if_neg c22).trans ?_
      by_cases c23 : (xs (nI (5 * K)).toNatClampNeg &&& (31 : Int32)) = (23 : Int32)
      · refine (if_pos c23).trans ?_
        refine (nn_ch t1).trans ?_
        refine (nn_ch t2).trans ?_
        exact st_run (q := fun S3 O2 => fL_law_1848 xs L (fL_law_23 xs L f) S3 O2 (nI (5 * K))) (st_partsAfter h (by omega) _ _ O) hq
      refine (if_neg c23).trans ?_
      by_cases c24 : (xs (nI (5 * K)).toNatClampNeg &&& (31 : Int32)) = (24 : Int32)
      · refine (if_pos c24).trans ?_
        refine (nn_ch t1).trans ?_
        refine (nn_ch t2).trans ?_
        refine (nn_ch t3).trans ?_
        exact st_run (q := fun S3 O2 => fL_law_1848 xs L (fL_law_23 xs L f) S3 O2 (nI (5 * K))) (st_runScript h (by omega) _ _ O) hq
      refine (if_neg c24).trans ?_
      by_cases c25 : (xs (nI (5 * K)).toNatClampNeg &&& (31 : Int32)) = (25 : Int32)
      · refine (if_pos c25).trans ?_
        refine (nn_ch t1).trans ?_
        refine (nn_ch t2).trans ?_
        refine (nn_ch t3).trans ?_
        exact st_run (q := fun S3 O2 => fL_law_1848 xs L (fL_law_23 xs L f) S3 O2 (nI (5 * K))) (st_simulate h (by omega) _ _ O) hq
      refine (if_neg c25).trans ?_
      by_cases c26 : (xs (nI (5 * K)).toNatClampNeg &&& (31 : Int32)) = (26 : Int32)
      · refine (if_pos c26).trans ?_
        refine (nn_ch t1).trans ?_
        exact st_run (q := fun S3 O2 => fL_law_1848 xs L (fL_law_23 xs L f) S3 O2 (nI (5 * K))) (st_save h (by omega) _ O) hq
      refine (if_neg c26).trans ?_
      by_cases c27 : (xs (nI (5 * K)).toNatClampNeg &&& (31 : Int32)) = (27 : Int32)
      · refine (if_pos c27).trans ?_
        refine (nn_ch t1).trans ?_
        exact st_run (q := fun S3 O2 => fL_law_1848 xs L (fL_law_23 xs L f) S3 O2 (nI (5 * K))) (st_restore h (by omega) _ O) hq
      refine (if_neg c27).trans ?_
      exact hq n S O (REL_up h hK1)
theorem law_all (xs : Nat → Int32) {L : Nat} (hL : L ≤ 2560) (O : Int64) : fL_law_23 xs L 2000 S00 O 0 = some 1 := law_run xs hL 2000 0 0 S00 O REL_0 (by decide) (by omega) (by decide)
