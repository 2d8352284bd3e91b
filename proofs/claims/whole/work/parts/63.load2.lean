/-! STEPS: errorPosition, load -/
theorem bl_0 : vp_nar .boolean (0 : Int32) = 0 := by decide +kernel
section S63
variable {K n : Nat} {S : teS}
theorem tx_of (h : TX S) : ∃ (t : Nat) (c : Nat → Nat), t ≤ 90 ∧ S 361 0 = nI t ∧ S 369 1 = nI t ∧ (∀ i, i < t → c i ≤ 255 ∧ S 362 i = nI (c i)) ∧ ∀ i, i < t → c i ≤ 255 ∧ S 370 i = nI (c i) := by
  obtain ⟨t, ht, e1, e6, hx⟩ := h
  have key : ∀ i, i < t → (S 362 i).toNatClampNeg ≤ 255 ∧ S 362 i = nI (S 362 i).toNatClampNeg ∧ S 370 i = nI (S 362 i).toNatClampNeg := fun i hi => by
    obtain ⟨c, h1, h2, h3⟩ := hx i hi
    rw [h2, nn_tn (by omega)]
    exact ⟨h1, rfl, h3⟩
  exact ⟨t, fun i => (S 362 i).toNatClampNeg, ht, e1, e6, fun i hi => ⟨(key i hi).1, (key i hi).2.1⟩, fun i hi => ⟨(key i hi).1, (key i hi).2.2⟩⟩
theorem REL_rt (h : REL K n S) (hK : 9 * (K + 1) < 100000) (x : Int32) (v : tePg) (p : Nat) : REL (K + 1) n (sRef (RT S v p) x) := by
  have hU : ∀ a, a ≠ 369 → a ≠ 371 → sRef (RT S v p) x a = S a := fun a g1 g2 => by rw [sR_p _ _ g1, rt_o g1 g2]
  have h9 : sRef (RT S v p) x 369 = tup (tup (S 369) 2 (nI p)) 0 x := by rw [sR_s, rt_369]
  exact REL_cong h hK (hU _ (by decide) (by decide)) (hU _ (by decide) (by decide)) (hU _ (by decide) (by decide)) (by rw [h9, tup_n _ _ (by decide), tup_n _ _ (by decide)]) (hU _ (by decide) (by decide)) (fun q q1 q2 => hU _ (by omega) (by omega)) (hU _ (by decide) (by decide)) (hU _ (by decide) (by decide)) (hU _ (by decide) (by decide)) (hU _ (by decide) (by decide)) (by rw [h9, tup_n _ _ (by decide), tup_n _ _ (by decide)]) (hU _ (by decide) (by decide)) (hU _ (by decide) (by decide))
theorem REL_rt2 (h : REL K n S) (hK : 9 * (K + 1) < 100000) (x : Int32) (v : tePg) (p : Nat) : REL (K + 1) n (RT (sRef S x) v p) := by
  have hU : ∀ a, a ≠ 369 → a ≠ 371 → RT (sRef S x) v p a = S a := fun a g1 g2 => by rw [rt_o g1 g2, sR_p _ _ g1]
  have h9 : RT (sRef S x) v p 369 = tup (tup (S 369) 0 x) 2 (nI p) := by rw [rt_369, sR_s]
  exact REL_cong h hK (hU _ (by decide) (by decide)) (hU _ (by decide) (by decide)) (hU _ (by decide) (by decide)) (by rw [h9, tup_n _ _ (by decide), tup_n _ _ (by decide)]) (hU _ (by decide) (by decide)) (fun q q1 q2 => hU _ (by omega) (by omega)) (hU _ (by decide) (by decide)) (hU _ (by decide) (by decide)) (hU _ (by decide) (by decide)) (hU _ (by decide) (by decide)) (by rw [h9, tup_n _ _ (by decide), tup_n _ _ (by decide)]) (hU _ (by decide) (by decide)) (hU _ (by decide) (by decide))
theorem st_error (h : REL K n S) (hK : 9 * (K + 200) < 100000) : ∃ v S2, fX5_errorPosition S = some v ∧ fX6_errorPosition S = some (v, S2) ∧ REL (K + 1) n S2 := by
  obtain ⟨t, c, ht, e1, e6, hc1, hc6⟩ := tx_of h.2.2.2.2
  obtain ⟨z, w, p', g1, g2, g3, g4, g5, g6⟩ := r6_ra (T := sRef S 0) ht (by rw [sR_s, tup_n _ _ (by decide)]; exact e6) (fun i hi => by rw [sR_p _ _ (by decide)]; exact hc6 i hi)
  refine ⟨feA t p', RT (sRef S 0) w p', by unfold fX5_errorPosition; rw [r4_fe ht e1 hc1 g2 g3 g4, nn_bd1], ?_, REL_rt2 h (by omega) 0 w p'⟩
  unfold fX6_errorPosition
  rw [nn_lt1, teu_t]
  rw [show fX6_readAll (tst S 369 (tup (S 369) 0 0)) = _ from g1, nn_bd2, bI_if]
  unfold feA
  by_cases hw : p' = t ∧ 0 < t ∧ (t - 1) % 8 = 0
  · rw [g5, decide_eq_true hw, if_neg (show ¬ true = false by decide), if_pos hw]
  · rw [g5, decide_eq_false hw, if_pos rfl, if_neg hw, rt_2]
theorem c5_ld {q : tePg} {N : Nat} (h1 : fX4_firstError S = some (-9999)) (h2 : fX4_readInto 0 S = some (tst S 0 q)) (h3 : q 0 = nI N) : ∃ S1, fX5_load S = some (.inr (nI N, S1)) ∧ S1 0 = q ∧ S1 363 = tup (S 363) 1 0 ∧ S1 366 = tup (tup (S 366) 0 0) 1 0 ∧ ∀ a, a ≠ 0 → a ≠ 363 → a ≠ 366 → S1 a = S a := by
  have hl : ∀ (T : teS) (f : Nat), T 0 0 = nI N → fX5_load_43 (f + 3) T 0 = some (.inr (nI N, tst T 366 (tup (tup (T 366) 0 0) 1 0))) := fun T f hT => by
    unfold fX5_load_43
    rw [if_neg (show ¬ (2 : Int32) ≤ 0 by decide), nn_ch (show tein (0 : Int32) 2 = true by decide), nn_lt1, l0, bl_0, teu_t]
    unfold fX5_load_43
    rw [if_neg (show ¬ (2 : Int32) ≤ 0 + 1 by decide), nn_ch (show tein ((0 : Int32) + 1) 2 = true by decide), nn_lt1, show ((0 : Int32) + 1).toNatClampNeg = 1 from rfl, bl_0, teu_t, tst_s, tst_t]
    unfold fX5_load_43
    rw [if_pos (show (2 : Int32) ≤ 0 + 1 + 1 by decide), tst_n _ _ (show 0 ≠ 366 by decide), hT]
  refine ⟨tst (tst (tst S 0 q) 363 (tup (S 363) 1 0)) 366 (tup (tup (S 366) 0 0) 1 0), ?_, ?_, ?_, ?_, fun a a1 a2 a3 => ?_⟩
  · unfold fX5_load fX2_forget
    rw [h1, nn_bd1, if_pos rfl, h2, nn_bd1, nn_lt1, teu_t, tst_n _ _ (show 363 ≠ 0 by decide), nn_bd1]
    have := hl (tst (tst S 0 q) 363 (tup (S 363) 1 0)) 1997 (by rw [tst_n _ _ (by decide), tst_s]; exact h3)
    rw [this, tst_n _ _ (show 366 ≠ 363 by decide), tst_n _ _ (show 366 ≠ 0 by decide)]
  · rw [tst_n _ _ (by decide), tst_n _ _ (by decide), tst_s]
  · rw [tst_n _ _ (by decide), tst_s]
  · rw [tst_s]
  · rw [tst_n _ _ a3, tst_n _ _ a2, tst_n _ _ a1]
theorem c6_ld {w : tePg} {p N : Nat} {T : teS} (h1 : fX6_readAll T = some (1, RT T w p)) (h3 : w 0 = nI N) : ∃ S2, fX6_load T = some (nI N, S2) ∧ (∀ i, i < 92 → S2 372 i = w i) ∧ S2 369 = tup (tup (tup (T 369) 2 (nI p)) 0 0) 3 0 ∧ S2 376 = tup (tup (T 376) 0 0) 1 0 ∧ ∀ a, a ≠ 369 → a ≠ 371 → a ≠ 372 → a ≠ 376 → S2 a = T a := by
  have t1 : teI 371 = 92 := rfl
  have t2 : teI 372 = 92 := rfl
  have hcp := r6_copy (r0 := 371) (r2 := 372) (x := 0) (y := 0) (by decide) (by rw [t1]; decide) (by rw [t2]; decide) (by rw [t1]; decide) (by rw [t2]; decide) (sRef (RT T w p) 0)
  rw [sR_p _ _ (show 372 ≠ 369 by decide), sR_p _ _ (show 371 ≠ 369 by decide), rt_371, rt_o (show 372 ≠ 369 by decide) (by decide)] at hcp
  have hv : ∀ i, i < 92 → cpg (T 372) w 0 0 92 i = w i := fun i hi => by
    unfold cpg
    rw [if_pos ⟨by omega, by omega⟩, Nat.sub_zero, Nat.zero_add]
  refine ⟨tst (tst (tst (sRef (RT T w p) 0) 372 (cpg (T 372) w 0 0 92)) 369 (tup (tup (tup (T 369) 2 (nI p)) 0 0) 3 0)) 376 (tup (tup (T 376) 0 0) 1 0), ?_, fun i hi => ?_, ?_, ?_, fun a a1 a2 a3 a4 => ?_⟩
  · unfold fX6_load
    rw [h1, nn_bd2, if_neg i1_0]
    unfold fX6_load_13
    rw [r6_ref0, nn_bd2, if_pos rfl]
    rw [show fX6_copyPage 371 0 372 0 (sRef (RT T w p) 0) = _ from hcp, nn_bd1, nn_lt1, teu_t _ 369 3, tst_n _ _ (show 369 ≠ 372 by decide), sR_s, rt_369, nn_ch (show tein (0 : Int32) 2 = true by decide), nn_lt1, l0, bl_0, teu_t, nn_ch (show tein (1 : Int32) 2 = true by decide), nn_lt1, l1, teu_t, tst_s, tst_t, nn_ch (show tein (0 : Int32) 92 = true by decide), tst_n _ _ (show 376 ≠ 369 by decide), tst_n _ _ (show 376 ≠ 372 by decide), sR_p _ _ (show 376 ≠ 369 by decide), rt_o (show 376 ≠ 369 by decide) (by decide), tst_n _ _ (show 372 ≠ 376 by decide), tst_n _ _ (show 372 ≠ 369 by decide), tst_s, hv 0 (by decide), h3]
  · rw [tst_n _ _ (show 372 ≠ 376 by decide), tst_n _ _ (show 372 ≠ 369 by decide), tst_s, hv i hi]
  · rw [tst_n _ _ (by decide), tst_s]
  · rw [tst_s]
  · rw [tst_n _ _ a4, tst_n _ _ a1, tst_n _ _ a3, sR_p _ _ a1, rt_o a1 a2]
theorem st_load (h : REL K n S) (hK : 9 * (K + 200) < 100000) (O : Int64) : STEP K (fL_load S O) fX6_load := by
  obtain ⟨t, c, ht, e1, e6, hc1, hc6⟩ := tx_of h.2.2.2.2
  obtain ⟨z, w, p', g1, g2, g3, g4, g5, g6⟩ := r6_ra (T := S) ht e6 hc6
  have hfe := r4_fe ht e1 hc1 g2 g3 g4
  unfold feA at hfe
  by_cases hw : p' = t ∧ 0 < t ∧ (t - 1) % 8 = 0
  · rw [if_pos hw] at hfe
    obtain ⟨N, hN, htN, -, -, -⟩ := g6 (by rw [g5]; exact decide_eq_true hw)
    have hok : ∀ i, i < t → okT i (c i) = true := fun i hi => g3 i (by omega)
    obtain ⟨q, q1, q2, q3, q4⟩ := c4_rd ht e1 (fun i hi => (hc1 i hi).2) hN htN hok N 0 2000 (tup (tup (S 0) 0 0) 1 0) (by omega) (by omega) (by rw [tup_n _ _ (by decide), tup_s]; rfl) (tup_s _ _ _) (fun b hb => absurd hb (by omega))
    have hri : fX4_readInto 0 S = some (tst S 0 q) := by
      unfold fX4_readInto
      rw [nn_lt1, nn_lt1, teu_t, teu_t, tst_s, tst_t]
      exact q1
    obtain ⟨S1, k1, k2, k3, k4, k5⟩ := c5_ld hfe hri q2
    obtain ⟨z2, w2, p2, m1, m2, m3, m4, m5, m6⟩ := r6_ra (T := S1) ht (by rw [k5 369 (by decide) (by decide) (by decide)]; exact e6) (fun i hi => by rw [k5 370 (by decide) (by decide) (by decide)]; exact hc6 i hi)
    have hp2 : p2 = t := by
      rcases Nat.lt_or_ge p2 t with hlt | hge
      · have a1 := m4 hlt
        rw [hok p2 hlt] at a1
        exact absurd a1 (by decide)
      · omega
    have hz2 : z2 = true := by rw [m5]; exact decide_eq_true ⟨hp2, hw.2⟩
    subst hz2
    obtain ⟨N2, hN2, htN2, w0, w1, wd⟩ := m6 rfl
    obtain rfl : N2 = N := by omega
    obtain ⟨S2, f1, f2, f3, f4, f5⟩ := c6_ld m1 w0
    have hU : ∀ a, a ≠ 369 → a ≠ 371 → a ≠ 372 → a ≠ 376 → a ≠ 0 → a ≠ 363 → a ≠ 366 → S2 a = S a := fun a b1 b2 b3 b4 b5 b6 b7 => by rw [f5 a b1 b2 b3 b4, k5 a b5 b6 b7]
    have hWF : WF N2 (9 * (K + 1)) w2 := wf_RD hN (by omega) (fun i hi => hok i (by omega)) w0 wd
    refine ⟨0, _, S1, nI N2, S2, by unfold fL_load; rw [k1]; rfl, f1, by rw [f3, tup_n _ _ (by decide), tup_s], fun _ => rfl, N2, wf_cong f2 hWF, ?_, ?_, ?_, ?_⟩
    · refine PE_cong hN f2 ?_
      rw [f5 0 (by decide) (by decide) (by decide) (by decide), k2]
      exact PE_RD (q2.trans w0.symm) (q3.trans w1.symm) q4 wd
    · obtain ⟨ol, ct, d1, d2, d3, d4, d5, d6⟩ := h.2.2.1
      refine ⟨ol, 0, d1, by decide, ?_, ?_, by rw [f3, tup_s]; rfl, fun j hj => absurd hj (by omega)⟩
      · rw [f5 363 (by decide) (by decide) (by decide) (by decide), k3, tup_n _ _ (by decide)]; exact d3
      · rw [f5 363 (by decide) (by decide) (by decide) (by decide), k3, tup_s]; rfl
    · intro j hj
      have a1 : S2 376 j = 0 := by
        rw [f4]
        rcases (show j = 0 ∨ j = 1 by omega) with rfl | rfl
        · rw [tup_n _ _ (by decide), tup_s]
        · rw [tup_s]
      have a2 : S2 366 j = 0 := by
        rw [f5 366 (by decide) (by decide) (by decide) (by decide), k4]
        rcases (show j = 0 ∨ j = 1 by omega) with rfl | rfl
        · rw [tup_n _ _ (by decide), tup_s]
        · rw [tup_s]
      rw [a1, a2]
      exact ⟨rfl, Or.inl rfl, fun z => absurd z (by decide)⟩
    · exact TX_cong h.2.2.2.2 (hU _ (by decide) (by decide) (by decide) (by decide) (by decide) (by decide) (by decide)) (by rw [f3, tup_n _ _ (by decide), tup_n _ _ (by decide), tup_n _ _ (by decide), k5 369 (by decide) (by decide) (by decide)]) (hU _ (by decide) (by decide) (by decide) (by decide) (by decide) (by decide) (by decide)) (hU _ (by decide) (by decide) (by decide) (by decide) (by decide) (by decide) (by decide))
  · rw [if_neg hw] at hfe
    rw [g5, decide_eq_false hw] at g1
    refine ⟨1, O, S, 0, sRef (RT S w p') 1, ?_, ?_, by rw [sR_s, tup_s], fun z => absurd z (by decide), n, REL_rt h (by omega) 1 w p'⟩
    · unfold fL_load fX5_load
      rw [hfe, nn_bd1, if_neg (by rw [nn_NI (by omega)]; exact not_false)]
      rfl
    · unfold fX6_load
      rw [g1, nn_bd2, if_pos (show bI false = 0 from rfl)]
      unfold fX6_load_13
      rw [r6_ref1, nn_bd2, if_neg i1_0]
end S63
