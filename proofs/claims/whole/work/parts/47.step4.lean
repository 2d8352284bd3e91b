/-! STEPS: forecasts; save and restore -/
section S47
variable {K n : Nat} {S : teS}
theorem st_tri {c : Option (Int32 × (Int64 × teS))} {m : teS → Option (Int32 × teS)} {p2 u2 : tePg} {v : Int32} (hR : REL (K + 1) n (tst (sRef (tst S 1 p2) 0) 373 u2) ∧ tst (sRef (tst S 1 p2) 0) 373 u2 369 0 = 0) (hc : c = some (0, (v.toInt64, tst S 1 p2))) (hm : m (tst S 1 p2) = some (v, tst (sRef (tst S 1 p2) 0) 373 u2)) : STEP K c m :=
  ⟨0, _, _, v, _, hc, hm, hR.2, fun _ => rfl, n, hR.1⟩
theorem st_ahead (h : REL K n S) (hK : 9 * (K + 200) < 100000) (x1 x2 x3 x4 : Int32) (O : Int64) : STEP K (fL_ahead x1 x2 x3 x4 S O) (fX6_ahead x1 x2 x3 x4) := by
  have hW := h.1
  have hE := h.2.1
  have h9 := hW.1
  have e0 : S 0 0 = nI n := hE.1.trans hW.2.2.1
  have e6 : S 372 0 = nI n := hW.2.2.1
  cases hm : isM n x1
  · refine st_ref h (by omega) (code := 1) (O := O) (by decide) ?_ ?_
    · unfold fL_ahead fX5_ahead
      rw [r5_mem_f e0 hm]; rfl
    · unfold fX6_ahead
      rw [r6_mem_f h9 e6 hm, nn_bd1, if_pos rfl]
      unfold fX6_ahead_53
      rw [r6_ref1, nn_bd2, if_neg i1_0]
  · obtain ⟨a, ha, rfl⟩ := isM_t h9 hm
    cases hr : rg 0 60 x2
    · refine st_ref h (by omega) (code := 2) (O := O) (by decide) ?_ ?_
      · unfold fL_ahead fX5_ahead
        rw [r5_mem_t e0 hm, nn_bx1, r5_rg_f hr]; rfl
      · unfold fX6_ahead
        rw [r6_mem_t h9 e6 hm, nn_bd1, if_neg i1_0, r6_rg_f (lo := 0) (hi := 60) (by decide) (by decide) hr, nn_bd1, if_pos rfl]
        unfold fX6_ahead_53
        rw [r6_ref2, nn_bd2, if_neg i1_0]
    · cases hb : rg 0 511 x3
      · refine st_ref h (by omega) (code := 2) (O := O) (by decide) ?_ ?_
        · unfold fL_ahead fX5_ahead
          rw [r5_mem_t e0 hm, nn_bx1, r5_rg_t hr, nn_bx1, r5_rg_f hb]; rfl
        · unfold fX6_ahead
          rw [r6_mem_t h9 e6 hm, nn_bd1, if_neg i1_0, r6_rg_t (lo := 0) (hi := 60) (by decide) (by decide) hr, nn_bd1, if_neg i1_0, r6_ab_f hb, nn_bd1, if_pos rfl]
          unfold fX6_ahead_53
          rw [r6_ref2, nn_bd2, if_neg i1_0]
      · cases ho : rg 0 10 x4
        · refine st_ref h (by omega) (code := 2) (O := O) (by decide) ?_ ?_
          · unfold fL_ahead fX5_ahead
            rw [r5_mem_t e0 hm, nn_bx1, r5_rg_t hr, nn_bx1, r5_rg_t hb, nn_bx1, r5_rg_f ho]; rfl
          · unfold fX6_ahead
            rw [r6_mem_t h9 e6 hm, nn_bd1, if_neg i1_0, r6_rg_t (lo := 0) (hi := 60) (by decide) (by decide) hr, nn_bd1, if_neg i1_0, r6_ab_t hb, nn_bd1, if_neg i1_0, r6_rg_f (lo := 0) (hi := 10) (by decide) (by decide) ho, nn_bd1, if_pos rfl]
            unfold fX6_ahead_53
            rw [r6_ref2, nn_bd2, if_neg i1_0]
        · obtain ⟨X, hX, rfl⟩ := rg_nat (N := 60) (by decide) hr
          obtain ⟨o, ho2, rfl⟩ := rg_nat (N := 10) (by decide) ho
          obtain ⟨p, u0, t1, t2, t3, -, t5⟩ := tri h (by omega)
          obtain ⟨p2, c5⟩ := c5_ah ho2 hX x3 ha X 0 2000 (9 * K) u0 (tst S 1 p) t2 (by rw [tst_s]; exact t3) (by omega) (by omega) (by omega)
          rw [tst_t] at c5
          have c6 := c6_ah ho2 hX x3 ha X 0 2000 (9 * K) u0 (tst (sRef (tst S 1 p2) 0) 373 u0) t2 (tst_s _ _ _) (by omega) (by omega) (by omega)
          rw [tst_t] at c6
          refine st_tri ((t5 p2).2 _) (v := sNum n (wks n x3 X u0) a o) ?_ (u2 := wks n x3 X u0) ?_
          · unfold fL_ahead fX5_ahead
            rw [r5_mem_t e0 hm, nn_bx1, r5_rg_t hr, nn_bx1, r5_rg_t hb, nn_bx1, r5_rg_t ho, nn_bx1, t1, nn_bd1, li0, c5]; rfl
          · have e6' : tst S 1 p2 372 0 = nI n := by rw [tst_n _ _ (by decide)]; exact e6
            unfold fX6_ahead
            rw [r6_mem_t h9 e6' hm, nn_bd1, if_neg i1_0, r6_rg_t (lo := 0) (hi := 60) (by decide) (by decide) hr, nn_bd1, if_neg i1_0, r6_ab_t hb, nn_bd1, if_neg i1_0, r6_rg_t (lo := 0) (hi := 10) (by decide) (by decide) ho, nn_bd1, if_neg i1_0]
            unfold fX6_ahead_53
            rw [r6_ref0, nn_bd2, if_pos rfl, (t5 p2).1, nn_bd1, li0]
            exact c6
theorem st_levelAfter (h : REL K n S) (hK : 9 * (K + 200) < 100000) (x1 x2 : Int32) (O : Int64) : STEP K (fL_levelAfter x1 x2 S O) (fX6_levelAfter x1 x2) := by
  have hW := h.1
  have hE := h.2.1
  have h9 := hW.1
  have e0 : S 0 0 = nI n := hE.1.trans hW.2.2.1
  have e6 : S 372 0 = nI n := hW.2.2.1
  cases hm : isM n x1
  · refine st_ref h (by omega) (code := 1) (O := O) (by decide) ?_ ?_
    · unfold fL_levelAfter fX5_levelAfter
      rw [r5_mem_f e0 hm]; rfl
    · unfold fX6_levelAfter
      rw [r6_mem_f h9 e6 hm, nn_bd1, if_pos rfl]
      unfold fX6_levelAfter_33
      rw [r6_ref1, nn_bd2, if_neg i1_0]
  · obtain ⟨a, ha, rfl⟩ := isM_t h9 hm
    cases hr : rg 0 9 x2
    · refine st_ref h (by omega) (code := 2) (O := O) (by decide) ?_ ?_
      · unfold fL_levelAfter fX5_levelAfter
        rw [r5_mem_t e0 hm, nn_bx1, r5_rg_f hr]; rfl
      · unfold fX6_levelAfter
        rw [r6_mem_t h9 e6 hm, nn_bd1, if_neg i1_0, r6_rg_f (lo := 0) (hi := 9) (by decide) (by decide) hr, nn_bd1, if_pos rfl]
        unfold fX6_levelAfter_33
        rw [r6_ref2, nn_bd2, if_neg i1_0]
    · obtain ⟨p, u0, t1, t2, t3, -, t5⟩ := tri h (by omega)
      obtain ⟨p2, c5⟩ := c5_lv ha x2 101 0 2000 (9 * K) u0 (tst S 1 p) t2 (by rw [tst_s]; exact t3) (by omega) (by omega) (by omega)
      rw [tst_t] at c5
      obtain ⟨u2, c6⟩ := c6_lv ha x2 101 0 2000 (9 * K) u0 (tst (sRef (tst S 1 p2) 0) 373 u0) t2 (tst_s _ _ _) (by omega) (by omega) (by omega)
      rw [tst_t] at c6
      refine st_tri ((t5 p2).2 u2) (v := lvA n a x2 101 0 u0) ?_ ?_
      · unfold fL_levelAfter fX5_levelAfter
        rw [r5_mem_t e0 hm, nn_bx1, r5_rg_t hr, nn_bx1, t1, nn_bd1, li0, c5]; rfl
      · have e6' : tst S 1 p2 372 0 = nI n := by rw [tst_n _ _ (by decide)]; exact e6
        unfold fX6_levelAfter
        rw [r6_mem_t h9 e6' hm, nn_bd1, if_neg i1_0, r6_rg_t (lo := 0) (hi := 9) (by decide) (by decide) hr, nn_bd1, if_neg i1_0]
        unfold fX6_levelAfter_33
        rw [r6_ref0, nn_bd2, if_pos rfl, (t5 p2).1, nn_bd1, li0]
        exact c6
theorem st_partsAfter (h : REL K n S) (hK : 9 * (K + 200) < 100000) (x1 x2 : Int32) (O : Int64) : STEP K (fL_partsAfter x1 x2 S O) (fX6_partsAfter x1 x2) := by
  have hW := h.1
  have hE := h.2.1
  have h9 := hW.1
  have e0 : S 0 0 = nI n := hE.1.trans hW.2.2.1
  have e6 : S 372 0 = nI n := hW.2.2.1
  cases hm : isM n x1
  · refine st_ref h (by omega) (code := 1) (O := O) (by decide) ?_ ?_
    · unfold fL_partsAfter fX5_partsAfter
      rw [r5_mem_f e0 hm]; rfl
    · unfold fX6_partsAfter
      rw [r6_mem_f h9 e6 hm, nn_bd1, if_pos rfl]
      unfold fX6_partsAfter_43
      rw [r6_ref1, nn_bd2, if_neg i1_0]
  · obtain ⟨a, ha, rfl⟩ := isM_t h9 hm
    cases hr : rg 0 511 x2
    · refine st_ref h (by omega) (code := 2) (O := O) (by decide) ?_ ?_
      · unfold fL_partsAfter fX5_partsAfter
        rw [r5_mem_t e0 hm, nn_bx1, r5_rg_f hr]; rfl
      · unfold fX6_partsAfter
        rw [r6_mem_t h9 e6 hm, nn_bd1, if_neg i1_0, r6_ab_f hr, nn_bd1, if_pos rfl]
        unfold fX6_partsAfter_43
        rw [r6_ref2, nn_bd2, if_neg i1_0]
    · cases hs : sFree (S 372) a
      · have q5 : fX5_requirePartner (nI a) S = some (.inr ()) := by
          unfold fX5_requirePartner
          rw [r1_free hW hE ha, nn_bd1, hs]; rfl
        obtain ⟨p, u0, t1, t2, t3, t4, t5⟩ := tri h (by omega)
        have hs0 : sFree u0 a = false := by
          unfold sFree at hs ⊢
          rw [t4 _ (by omega)]
          exact hs
        obtain ⟨p2, c5⟩ := c5_pa ha x2 100 1 2000 (9 * K) u0 (tst S 1 p) t2 (by rw [tst_s]; exact t3) (by omega) (by omega) (by omega)
        rw [tst_t] at c5
        obtain ⟨u2, c6⟩ := c6_pa ha x2 100 0 2000 (9 * K) u0 (tst (sRef (tst S 1 p2) 0) 373 u0) t2 (tst_s _ _ _) (by omega) (by omega) (by omega) hs0
        rw [tst_t] at c6
        refine st_tri ((t5 p2).2 u2) (v := paA n a x2 100 1 u0) ?_ ?_
        · unfold fL_partsAfter fX5_partsAfter
          rw [r5_mem_t e0 hm, nn_bx1, r5_rg_t hr, nn_bx1, q5, nn_bx1, t1, nn_bd1, li1, c5]; rfl
        · have e6' : tst S 1 p2 372 0 = nI n := by rw [tst_n _ _ (by decide)]; exact e6
          unfold fX6_partsAfter
          rw [r6_mem_t h9 e6' hm, nn_bd1, if_neg i1_0, r6_ab_t hr, nn_bd1, if_neg i1_0, r6_free (v := S 372) rfl h9 (tst_n _ _ (by decide)) ha, nn_bd1, hs, if_pos (show bI false = 0 from rfl)]
          unfold fX6_partsAfter_43
          rw [r6_ref0, nn_bd2, if_pos rfl, (t5 p2).1, nn_bd1, li0]
          exact c6
      · refine st_ref h (by omega) (code := 3) (O := O) (by decide) ?_ ?_
        · unfold fL_partsAfter fX5_partsAfter fX5_requirePartner
          rw [r5_mem_t e0 hm, nn_bx1, r5_rg_t hr, nn_bx1, r1_free hW hE ha, nn_bd1, hs]; rfl
        · unfold fX6_partsAfter
          rw [r6_mem_t h9 e6 hm, nn_bd1, if_neg i1_0, r6_ab_t hr, nn_bd1, if_neg i1_0, r6_free rfl h9 rfl ha, nn_bd1, hs, if_neg (show ¬ bI true = 0 by decide)]
          unfold fX6_partsAfter_43
          rw [r6_ref3, nn_bd2, if_neg i1_0]
theorem r5_sl {x : Int32} {S : teS} : fX5_requireSlot x S = if rg 0 1 x = true then some (.inr ()) else some (.inl 3) := by
  unfold fX5_requireSlot rg
  by_cases h1 : x < 0
  · rw [if_pos h1, decide_eq_false (not_not_intro h1)]; rfl
  · rw [if_neg h1, decide_eq_true h1]
    by_cases h2 : x < 2
    · have h3 : ¬ (1 : Int32) < x := by
        rw [Int32.lt_iff_toInt_lt] at h2 ⊢
        rw [show (2 : Int32).toInt = 2 by decide] at h2
        rw [show (1 : Int32).toInt = 1 by decide]
        omega
      rw [if_pos h2, decide_eq_true h3]; rfl
    · have h3 : (1 : Int32) < x := by
        rw [Int32.lt_iff_toInt_lt] at h2 ⊢
        rw [show (2 : Int32).toInt = 2 by decide] at h2
        rw [show (1 : Int32).toInt = 1 by decide]
        omega
      rw [if_neg h2, decide_eq_false (not_not_intro h3)]; rfl
theorem st_save (h : REL K n S) (hK : 9 * (K + 200) < 100000) (x1 : Int32) (O : Int64) : STEP K (fL_save x1 S O) (fX6_save x1) := by
  have h0 := h
  obtain ⟨hW, hE, hH, hSL, hTX⟩ := h
  cases hr : rg 0 1 x1
  · refine st_ref h0 (by omega) (code := 1) (O := O) (by decide) ?_ ?_
    · unfold fL_save fX5_save
      rw [r5_sl, hr]; rfl
    · unfold fX6_save
      rw [r6_rg_f (lo := 0) (hi := 1) (by decide) (by decide) hr, nn_bd1, if_pos rfl]
      unfold fX6_save_16
      rw [r6_ref1, nn_bd2, if_neg i1_0]
  · obtain ⟨q, hq, rfl⟩ := rg_nat (N := 1) (by decide) hr
    obtain ⟨p, h1, h2⟩ := r1_copy (k0 := 16 + q) (k1 := 0) (S := S) (by omega) hW hE
    have c5 : fX5_save (nI q) S = some (.inr (S 0 1, tst (tst S (16 + q) p) 366 (tup (S 366) q 1))) := by
      unfold fX5_save
      rw [r5_sl, hr, if_pos rfl, nn_bx1, nn_in (by omega) (by decide), nn_tn (by omega), h1, nn_bd1, nn_lt1, bl_1, teu_t, tst_n _ _ (show 366 ≠ 16 + q by omega), tst_n _ _ (show 0 ≠ 366 by decide), tst_n _ _ (show 0 ≠ 16 + q by omega)]
    have hT : ∀ a, a ≠ 366 → a ≠ 16 + q → tst (tst S (16 + q) p) 366 (tup (S 366) q 1) a = S a := fun a g1 g2 => by rw [tst_n _ _ g1, tst_n _ _ g2]
    have f1 : tst (tst S (16 + q) p) 366 (tup (S 366) q 1) 366 = tup (S 366) q 1 := tst_s _ _ _
    have f2 : tst (tst S (16 + q) p) 366 (tup (S 366) q 1) (16 + q) = p := by rw [tst_n _ _ (by omega), tst_s]
    generalize tst (tst S (16 + q) p) 366 (tup (S 366) q 1) = S1 at c5 hT f1 f2
    have t2 : teI 372 = 92 := rfl
    have t5 : teI 375 = 184 := rfl
    have hcp := r6_copy (r0 := 372) (r2 := 375) (x := 0) (y := 92 * q) (by decide) (by rw [t2]; decide) (by rw [t5]; omega) (by rw [t2]; decide) (by rw [t5]; decide) (tst (sRef S1 0) 376 (tup (S 376) q 1))
    rw [tst_n _ _ (show 375 ≠ 376 by decide), tst_n _ _ (show 372 ≠ 376 by decide), sR_p _ _ (show 375 ≠ 369 by decide), sR_p _ _ (show 372 ≠ 369 by decide), hT 375 (by decide) (by omega), hT 372 (by decide) (by omega)] at hcp
    have c6 : fX6_save (nI q) S1 = some (S 372 1, tst (tst (sRef S1 0) 376 (tup (S 376) q 1)) 375 (cpg (S 375) (S 372) 0 (92 * q) 92)) := by
      unfold fX6_save
      rw [r6_rg_t (lo := 0) (hi := 1) (by decide) (by decide) hr, nn_bd1, if_neg i1_0]
      unfold fX6_save_16
      rw [r6_ref0, nn_bd2, if_pos rfl, nn_in (by omega) (by decide), nn_tn (by omega), nn_lt1, bl_1, teu_t, sR_p S1 0 (show 376 ≠ 369 by decide), hT 376 (by decide) (by omega), li92, nn_mul]
      show (bd1 (fX6_copyPage 372 (nI 0) 375 (nI (92 * q)) (tst (sRef S1 0) 376 (tup (S 376) q 1))) fun S4 => chk (tein 1 92) (some (S4 372 (1 : Int32).toNatClampNeg, S4))) = _
      rw [hcp, nn_bd1, nn_ch (show tein (1 : Int32) 92 = true by decide), l1, tst_n _ _ (show 372 ≠ 375 by decide), tst_n _ _ (show 372 ≠ 376 by decide), sR_p S1 0 (show 372 ≠ 369 by decide), hT 372 (by decide) (by omega)]
    have hU : ∀ a, a ≠ 366 → a ≠ 16 + q → a ≠ 369 → a ≠ 376 → a ≠ 375 → tst (tst (sRef S1 0) 376 (tup (S 376) q 1)) 375 (cpg (S 375) (S 372) 0 (92 * q) 92) a = S a := fun a g1 g2 g3 g4 g5 => by rw [tst_n _ _ g5, tst_n _ _ g4, sR_p _ _ g3, hT a g1 g2]
    have u9 : tst (tst (sRef S1 0) 376 (tup (S 376) q 1)) 375 (cpg (S 375) (S 372) 0 (92 * q) 92) 369 = tup (S 369) 0 0 := by rw [tst_n _ _ (by decide), tst_n _ _ (by decide), sR_s, hT 369 (by decide) (by omega)]
    refine ⟨0, _, S1, S 372 1, _, by unfold fL_save; rw [c5, hE.2.1]; rfl, c6, by rw [u9, tup_s], fun _ => rfl, n, ?_, ?_, ?_, ?_, ?_⟩
    · rw [hU 372 (by decide) (by omega) (by decide) (by decide) (by decide)]; exact wf_le hW (by omega) (by omega)
    · rw [hU 372 (by decide) (by omega) (by decide) (by decide) (by decide), hU 0 (by decide) (by omega) (by decide) (by decide) (by decide)]; exact hE
    · exact HI_cong hH (by omega) (by omega) (hU _ (by decide) (by omega) (by decide) (by decide) (by decide)) (by rw [u9, tup_n _ _ (by decide)]) (hU _ (by decide) (by omega) (by decide) (by decide) (by decide)) (fun j g1 g2 => hU _ (by omega) (by omega) (by omega) (by omega) (by omega))
    · intro j hj
      have w1 : tst (tst (sRef S1 0) 376 (tup (S 376) q 1)) 375 (cpg (S 375) (S 372) 0 (92 * q) 92) 366 = tup (S 366) q 1 := by rw [tst_n _ _ (by decide), tst_n _ _ (by decide), sR_p _ _ (by decide), f1]
      have w2 : tst (tst (sRef S1 0) 376 (tup (S 376) q 1)) 375 (cpg (S 375) (S 372) 0 (92 * q) 92) 376 = tup (S 376) q 1 := by rw [tst_n _ _ (by decide), tst_s]
      have w3 : tst (tst (sRef S1 0) 376 (tup (S 376) q 1)) 375 (cpg (S 375) (S 372) 0 (92 * q) 92) 375 = cpg (S 375) (S 372) 0 (92 * q) 92 := tst_s _ _ _
      rw [w1, w2, w3]
      by_cases hjq : j = q
      · subst hjq
        rw [tup_s, tup_s, tst_n _ _ (show 16 + j ≠ 375 by omega), tst_n _ _ (show 16 + j ≠ 376 by omega), sR_p _ _ (by omega), f2]
        refine ⟨rfl, Or.inr rfl, fun _ => HP_cong (u := S 372) (fun i hi => ?_) ⟨n, wf_le hW (by omega) (by omega), h2⟩⟩
        show cpg (S 375) (S 372) 0 (92 * j) 92 (92 * j + i) = _
        unfold cpg
        rw [if_pos ⟨by omega, by omega⟩, show 0 + (92 * j + i - 92 * j) = i by omega]
      · rw [tup_n _ _ hjq, tup_n _ _ hjq, hU _ (by omega) (by omega) (by omega) (by omega) (by omega)]
        refine ⟨(hSL j hj).1, (hSL j hj).2.1, fun hs => HP_cong (fun i hi => ?_) (HP_le ((hSL j hj).2.2 hs) (by omega) (by omega))⟩
        show cpg (S 375) (S 372) 0 (92 * q) 92 (92 * j + i) = S 375 (92 * j + i)
        unfold cpg
        rw [if_neg (by omega)]
    · exact TX_cong hTX (hU _ (by decide) (by omega) (by decide) (by decide) (by decide)) (by rw [u9, tup_n _ _ (by decide)]) (hU _ (by decide) (by omega) (by decide) (by decide) (by decide)) (hU _ (by decide) (by omega) (by decide) (by decide) (by decide))
end S47
