/-! STEPS: undo, save, restore, the text's changes -/
theorem ch_c : ∀ c : Fin 256, vp_nar .char (((nI c.val).toUInt32 % 65536).toInt32) = nI c.val := by decide +kernel
theorem bl_1 : vp_nar .boolean (1 : Int32) = 1 := by decide +kernel
section S45
variable {K n : Nat} {S : teS}
theorem st_undo (h : REL K n S) (hK : 9 * (K + 1) < 100000) (O : Int64) : STEP K (fL_undo S O) fX6_undo := by
  have h0 := h
  obtain ⟨hW, hE, ⟨ol, ct, ho, hc, e0, e1, e2, hH⟩, hSL, hTX⟩ := h
  by_cases hz : ct = 0
  · subst hz
    refine st_ref h0 hK (code := 1) (O := O) (by decide) ?_ ?_
    · unfold fL_undo fX5_undo
      rw [e1, if_pos (show nI 0 = 0 from rfl)]; rfl
    · unfold fX6_undo
      rw [e2, if_pos (show nI 0 = 0 from rfl)]
      unfold fX6_undo_13
      rw [r6_ref1, nn_bd2, if_neg i1_0]
  · have hn0 : ¬ nI ct = 0 := by rw [nn_eq0 (by omega)]; exact hz
    obtain ⟨m, gW, gE⟩ := hH (ct - 1) (by omega)
    obtain ⟨p, h1, h2⟩ := r1_copy (k0 := 0) (k1 := 2 + (ol + (ct - 1)) % 14) (S := tst S 363 (tup (S 363) 1 (nI (ct - 1)))) (by omega) gW (by rw [tst_n _ _ (by omega)]; exact gE)
    have c5 : fX5_undo S = some (.inr (nI (ct - 1), tst (tst S 363 (tup (S 363) 1 (nI (ct - 1)))) 0 p)) := by
      unfold fX5_undo fX2_takeBack
      rw [e1, if_neg hn0, li0, if_neg (by rw [nn_le (by omega) (by omega)]; omega), nn_lt1, li1, nn_sub (by omega), teu_t, tst_s, tup_s, tup_n _ _ (by decide), e0, li14, nn_add, nn_rem (by omega) (by decide) (by decide), nn_in (by omega) (by decide), nn_tn (by omega)]
      rw [h1, nn_bd1, nn_bd1, tst_n _ _ (by decide), tst_s, tup_s]
    have hT : ∀ a, a ≠ 363 → a ≠ 0 → tst (tst S 363 (tup (S 363) 1 (nI (ct - 1)))) 0 p a = S a := fun a q1 q2 => by rw [tst_n _ _ q2, tst_n _ _ q1]
    generalize hS1 : tst (tst S 363 (tup (S 363) 1 (nI (ct - 1)))) 0 p = S1 at c5 hT
    have f3 : S1 363 = tup (S 363) 1 (nI (ct - 1)) := by rw [← hS1, tst_n _ _ (by decide), tst_s]
    have fp : S1 0 = p := by rw [← hS1, tst_s]
    have t2 : teI 372 = 92 := rfl
    have t4 : teI 374 = 1288 := rfl
    have hcp := r6_copy (r0 := 374) (r2 := 372) (x := 92 * (ct - 1)) (y := 0) (by decide) (by rw [t4]; omega) (by rw [t2]; decide) (by rw [t4]; decide) (by rw [t2]; decide) (tst (sRef S1 0) 369 (tup (tup (S 369) 0 0) 3 (nI (ct - 1))))
    have d9 : sRef S1 0 369 = tup (S 369) 0 0 := by rw [sR_s, hT 369 (by decide) (by decide)]
    have c6 : fX6_undo S1 = some (nI (ct - 1), tst (tst (sRef S1 0) 369 (tup (tup (S 369) 0 0) 3 (nI (ct - 1)))) 372 (cpg (S 372) (S 374) (92 * (ct - 1)) 0 92)) := by
      unfold fX6_undo
      rw [hT 369 (by decide) (by decide), e2, if_neg hn0]
      unfold fX6_undo_13
      rw [r6_ref0, nn_bd2, if_pos rfl, nn_lt1, teu_t, d9, tup_n _ _ (by decide), e2, li1, nn_sub (by omega), tst_s, tup_s, li92, nn_mul]
      rw [show ((0 : Int32)) = nI 0 from rfl] at hcp ⊢
      rw [hcp, nn_bd1, tst_n _ _ (show 369 ≠ 372 by decide), tst_s, tup_s, tst_n _ _ (show 372 ≠ 369 by decide), tst_n _ _ (show 374 ≠ 369 by decide), sR_p _ _ (by decide), sR_p _ _ (by decide), hT 372 (by decide) (by decide), hT 374 (by decide) (by decide)]
    have hv : ∀ i, i < 92 → cpg (S 372) (S 374) (92 * (ct - 1)) 0 92 i = slc (S 374) (92 * (ct - 1)) i := fun i hi => by
      unfold cpg
      rw [if_pos ⟨by omega, by omega⟩, Nat.sub_zero]
      rfl
    have hU : ∀ a, a ≠ 363 → a ≠ 0 → a ≠ 369 → a ≠ 372 → tst (tst (sRef S1 0) 369 (tup (tup (S 369) 0 0) 3 (nI (ct - 1)))) 372 (cpg (S 372) (S 374) (92 * (ct - 1)) 0 92) a = S a := fun a q1 q2 q3 q4 => by
      rw [tst_n _ _ q4, tst_n _ _ q3, sR_p _ _ q3, hT a q1 q2]
    refine ⟨0, _, S1, nI (ct - 1), _, by unfold fL_undo; rw [c5]; rfl, c6, ?_, fun _ => rfl, m, ?_, ?_, ?_, ?_, ?_⟩
    · rw [tst_n _ _ (by decide), tst_s, tup_n _ _ (by decide), tup_s]
    · rw [tst_s]
      exact wf_le (wf_cong hv gW) (by omega) hK
    · rw [tst_s, tst_n _ _ (by decide), tst_n _ _ (by decide), sR_p _ _ (by decide), fp]
      exact PE_cong gW.1 hv h2
    · refine ⟨ol, ct - 1, ho, by omega, ?_, ?_, ?_, fun j hj => ?_⟩
      · rw [tst_n _ _ (by decide), tst_n _ _ (by decide), sR_p _ _ (by decide), f3, tup_n _ _ (by decide)]; exact e0
      · rw [tst_n _ _ (by decide), tst_n _ _ (by decide), sR_p _ _ (by decide), f3, tup_s]
      · rw [tst_n _ _ (by decide), tst_s, tup_s]
      · rw [hU _ (by omega) (by omega) (by omega) (by omega), hU 374 (by decide) (by decide) (by decide) (by decide)]
        exact HP_le (hH j (by omega)) (by omega) hK
    · exact SL_cong hSL (by omega) hK (hU _ (by decide) (by decide) (by decide) (by decide)) (hU _ (by decide) (by decide) (by decide) (by decide)) (hU _ (by decide) (by decide) (by decide) (by decide)) (fun q hq => hU _ (by omega) (by omega) (by omega) (by omega))
    · exact TX_cong hTX (hU _ (by decide) (by decide) (by decide) (by decide)) (by rw [tst_n _ _ (by decide), tst_s, tup_n _ _ (by decide), tup_n _ _ (by decide)]) (hU _ (by decide) (by decide) (by decide) (by decide)) (hU _ (by decide) (by decide) (by decide) (by decide))
theorem st_clear (h : REL K n S) (hK : 9 * (K + 1) < 100000) : ∃ v S1 S2, fX5_clearText S = some (v, S1) ∧ fX6_clearText S1 = some (v, S2) ∧ REL (K + 1) n S2 := by
  obtain ⟨hW, hE, hH, hSL, ⟨t, ht, q1, q2, q3⟩⟩ := h
  refine ⟨S 361 0, tst S 361 (tup (S 361) 0 0), tst (sRef (tst S 361 (tup (S 361) 0 0)) 0) 369 (tup (tup (S 369) 0 0) 1 0), by unfold fX5_clearText; rw [nn_lt1, teu_t], ?_, ?_⟩
  · unfold fX6_clearText
    rw [nn_lt1, nn_lt1, teu_t]
    show some (sRef (tst S 361 (tup (S 361) 0 0)) 0 369 1, teu (sRef (tst S 361 (tup (S 361) 0 0)) 0) 369 1 0) = _
    rw [teu_t, sR_s, tst_n _ _ (by decide), tup_n _ _ (by decide), q1, q2]
  · have hU : ∀ a, a ≠ 361 → a ≠ 369 → tst (sRef (tst S 361 (tup (S 361) 0 0)) 0) 369 (tup (tup (S 369) 0 0) 1 0) a = S a := fun a g1 g2 => by rw [tst_n _ _ g2, sR_p _ _ g2, tst_n _ _ g1]
    refine ⟨by rw [hU _ (by decide) (by decide)]; exact wf_le hW (by omega) hK, by rw [hU _ (by decide) (by decide), hU _ (by decide) (by decide)]; exact hE, HI_cong hH (by omega) hK (hU _ (by decide) (by decide)) (by rw [tst_s, tup_n _ _ (by decide), tup_n _ _ (by decide)]) (hU _ (by decide) (by decide)) (fun q g1 g2 => hU _ (by omega) (by omega)), SL_cong hSL (by omega) hK (hU _ (by decide) (by decide)) (hU _ (by decide) (by decide)) (hU _ (by decide) (by decide)) (fun q hq => hU _ (by omega) (by omega)), ?_⟩
    refine ⟨0, by decide, ?_, ?_, fun i hi => absurd hi (by omega)⟩
    · rw [tst_n _ _ (by decide), sR_p _ _ (by decide), tst_s, tup_s]; rfl
    · rw [tst_s, tup_s]; rfl
theorem st_append (h : REL K n S) (hK : 9 * (K + 1) < 100000) (x1 : Int32) (O : Int64) : STEP K (fL_append x1 S O) (fX6_append x1) := by
  have h0 := h
  obtain ⟨hW, hE, hH, hSL, ⟨t, ht, q1, q2, q3⟩⟩ := h
  cases hr : rg 0 255 x1
  · refine st_ref h0 hK (code := 1) (O := O) (by decide) ?_ ?_
    · unfold fL_append fX5_append
      rw [r5_rg_f hr]; rfl
    · unfold fX6_append
      rw [r6_rg_f (lo := 0) (hi := 255) (by decide) (by decide) hr, nn_bd1, if_pos rfl]
      unfold fX6_append_31
      rw [r6_ref1, nn_bd2, if_neg i1_0]
  · obtain ⟨c, hc, rfl⟩ := rg_nat (N := 255) (by decide) hr
    by_cases h90 : t = 90
    · subst h90
      refine st_ref h0 hK (code := 2) (O := O) (by decide) ?_ ?_
      · unfold fL_append fX5_append
        rw [r5_rg_t hr, nn_bx1, q1, if_neg (show ¬ nI 90 < 90 by decide)]; rfl
      · unfold fX6_append
        rw [r6_rg_t (lo := 0) (hi := 255) (by decide) (by decide) hr, nn_bd1, if_neg i1_0, q2, if_pos (show nI 90 = 90 from rfl)]
        unfold fX6_append_31
        rw [r6_ref2, nn_bd2, if_neg i1_0]
    · have hlt : nI t < 90 := by show nI t < nI 90; rw [nn_lt (by omega) (by decide)]; omega
      have c5 : fX5_append (nI c) S = some (.inr (nI (t + 1), tst (tst S 362 (tup (S 362) t (nI c))) 361 (tup (S 361) 0 (nI (t + 1))))) := by
        unfold fX5_append fX4_add
        rw [r5_rg_t hr, nn_bx1, q1, if_pos hlt, if_neg (Int32.not_le.mpr hlt), nn_in (by omega) (by decide), nn_lt1, nn_tn (by omega), ch_c ⟨c, by omega⟩, nn_lt1, teu_t, teu_t, tst_n _ _ (by decide), q1, li1, nn_add, nn_bd1, tst_s, tup_s]
      have hT : ∀ a, a ≠ 361 → a ≠ 362 → tst (tst S 362 (tup (S 362) t (nI c))) 361 (tup (S 361) 0 (nI (t + 1))) a = S a := fun a g1 g2 => by rw [tst_n _ _ g1, tst_n _ _ g2]
      have f1 : tst (tst S 362 (tup (S 362) t (nI c))) 361 (tup (S 361) 0 (nI (t + 1))) 361 = tup (S 361) 0 (nI (t + 1)) := tst_s _ _ _
      have f2 : tst (tst S 362 (tup (S 362) t (nI c))) 361 (tup (S 361) 0 (nI (t + 1))) 362 = tup (S 362) t (nI c) := by rw [tst_n _ _ (by decide), tst_s]
      generalize tst (tst S 362 (tup (S 362) t (nI c))) 361 (tup (S 361) 0 (nI (t + 1))) = S1 at c5 hT f1 f2
      have d9 : sRef S1 0 369 = tup (S 369) 0 0 := by rw [sR_s, hT 369 (by decide) (by decide)]
      have c6 : fX6_append (nI c) S1 = some (nI (t + 1), tst (tst (sRef S1 0) 370 (tup (S 370) t (nI c))) 369 (tup (tup (S 369) 0 0) 1 (nI (t + 1)))) := by
        unfold fX6_append
        rw [r6_rg_t (lo := 0) (hi := 255) (by decide) (by decide) hr, nn_bd1, if_neg i1_0, hT 369 (by decide) (by decide), q2, if_neg (show ¬ nI t = 90 by intro z; rw [z] at hlt; exact absurd hlt (by decide))]
        unfold fX6_append_31
        rw [r6_ref0, nn_bd2, if_pos rfl, d9, tup_n _ _ (by decide), q2, nn_in (by omega) (by decide), nn_lt1, nn_lt1, nn_tn (by omega), teu_t, teu_t, sR_p S1 0 (show 370 ≠ 369 by decide), hT 370 (by decide) (by decide), tst_n _ _ (show 369 ≠ 370 by decide), d9, tup_n _ _ (by decide), q2, li1, nn_add, tst_s, tup_s]
      have hU : ∀ a, a ≠ 361 → a ≠ 362 → a ≠ 369 → a ≠ 370 → tst (tst (sRef S1 0) 370 (tup (S 370) t (nI c))) 369 (tup (tup (S 369) 0 0) 1 (nI (t + 1))) a = S a := fun a g1 g2 g3 g4 => by rw [tst_n _ _ g3, tst_n _ _ g4, sR_p _ _ g3, hT a g1 g2]
      refine ⟨0, _, S1, nI (t + 1), _, by unfold fL_append; rw [c5]; rfl, c6, ?_, fun _ => rfl, n, ?_, ?_, ?_, ?_, ?_⟩
      · rw [tst_s, tup_n _ _ (by decide), tup_s]
      · rw [hU _ (by decide) (by decide) (by decide) (by decide)]; exact wf_le hW (by omega) hK
      · rw [hU _ (by decide) (by decide) (by decide) (by decide), hU _ (by decide) (by decide) (by decide) (by decide)]; exact hE
      · exact HI_cong hH (by omega) hK (hU _ (by decide) (by decide) (by decide) (by decide)) (by rw [tst_s, tup_n _ _ (by decide), tup_n _ _ (by decide)]) (hU _ (by decide) (by decide) (by decide) (by decide)) (fun q g1 g2 => hU _ (by omega) (by omega) (by omega) (by omega))
      · exact SL_cong hSL (by omega) hK (hU _ (by decide) (by decide) (by decide) (by decide)) (hU _ (by decide) (by decide) (by decide) (by decide)) (hU _ (by decide) (by decide) (by decide) (by decide)) (fun q hq => hU _ (by omega) (by omega) (by omega) (by omega))
      · refine ⟨t + 1, by omega, ?_, ?_, fun i hi => ?_⟩
        · rw [tst_n _ _ (by decide), tst_n _ _ (by decide), sR_p _ _ (by decide), f1, tup_s]
        · rw [tst_s, tup_s]
        · rw [tst_n _ _ (show 362 ≠ 369 by decide), tst_n _ _ (show 362 ≠ 370 by decide), sR_p _ _ (by decide), f2, tst_n _ _ (show 370 ≠ 369 by decide), tst_s]
          by_cases hit : i = t
          · subst hit
            exact ⟨c, hc, tup_s _ _ _, tup_s _ _ _⟩
          · obtain ⟨d, g1, g2, g3⟩ := q3 i (by omega)
            exact ⟨d, g1, by rw [tup_n _ _ hit]; exact g2, by rw [tup_n _ _ hit]; exact g3⟩
end S45
