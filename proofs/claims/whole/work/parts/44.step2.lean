/-! STEPS: pair, part, what there is, blocking, undo -/
theorem nn_ch {α : Type} {b : Bool} {x : Option α} (h : b = true) : chk b x = x := if_pos h
section S44
variable {K n : Nat} {S : teS}
theorem r5_two_t {x1 x2 : Int32} (e0 : S 0 0 = nI n) (h1 : isM n x1 = true) (h2 : isM n x2 = true) (hx : ¬ x1 = x2) : fX5_requireTwoMembers x1 x2 S = some (.inr ()) := by
  unfold fX5_requireTwoMembers
  rw [r5_mem_t e0 h1, nn_bx1, r5_mem_t e0 h2, nn_bx1, if_neg hx]
theorem r5_two_1 {x1 x2 : Int32} (e0 : S 0 0 = nI n) (h1 : isM n x1 = false) : fX5_requireTwoMembers x1 x2 S = some (.inl 3) := by
  unfold fX5_requireTwoMembers
  rw [r5_mem_f e0 h1]; rfl
theorem r5_two_2 {x1 x2 : Int32} (e0 : S 0 0 = nI n) (h1 : isM n x1 = true) (h2 : isM n x2 = false) : fX5_requireTwoMembers x1 x2 S = some (.inl 3) := by
  unfold fX5_requireTwoMembers
  rw [r5_mem_t e0 h1, nn_bx1, r5_mem_f e0 h2]; rfl
theorem r5_two_3 {x1 x2 : Int32} (e0 : S 0 0 = nI n) (h1 : isM n x1 = true) (h2 : isM n x2 = true) (hx : x1 = x2) : fX5_requireTwoMembers x1 x2 S = some (.inl 1) := by
  unfold fX5_requireTwoMembers
  rw [r5_mem_t e0 h1, nn_bx1, r5_mem_t e0 h2, nn_bx1, if_pos hx]
theorem st_pair (h : REL K n S) (hK : 9 * (K + 1) < 100000) (x1 x2 : Int32) (O : Int64) : STEP K (fL_pair x1 x2 S O) (fX6_pair x1 x2) := by
  have hW := h.1
  have hE := h.2.1
  have h9 := hW.1
  have e0 : S 0 0 = nI n := hE.1.trans hW.2.2.1
  have e6 : S 372 0 = nI n := hW.2.2.1
  cases hm : isM n x1
  · refine st_ref h hK (code := 1) (O := O) (by decide) ?_ ?_
    · unfold fL_pair fX5_pair
      rw [r5_two_1 e0 hm]; rfl
    · unfold fX6_pair
      rw [r6_mem_f h9 e6 hm, nn_bd1, if_pos rfl]
      unfold fX6_pair_53
      rw [r6_ref1, nn_bd2, if_neg i1_0]
  · cases hm2 : isM n x2
    · refine st_ref h hK (code := 1) (O := O) (by decide) ?_ ?_
      · unfold fL_pair fX5_pair
        rw [r5_two_2 e0 hm hm2]; rfl
      · unfold fX6_pair
        rw [r6_mem_t h9 e6 hm, nn_bd1, if_neg i1_0, r6_mem_f h9 e6 hm2, nn_bd1, if_pos rfl]
        unfold fX6_pair_53
        rw [r6_ref1, nn_bd2, if_neg i1_0]
    · by_cases hx : x1 = x2
      · refine st_ref h hK (code := 2) (O := O) (by decide) ?_ ?_
        · unfold fL_pair fX5_pair
          rw [r5_two_3 e0 hm hm2 hx]; rfl
        · unfold fX6_pair
          rw [r6_mem_t h9 e6 hm, nn_bd1, if_neg i1_0, r6_mem_t h9 e6 hm2, nn_bd1, if_neg i1_0, if_pos hx]
          unfold fX6_pair_53
          rw [r6_ref2, nn_bd2, if_neg i1_0]
      · obtain ⟨a, ha, rfl⟩ := isM_t h9 hm
        obtain ⟨b, hb, rfl⟩ := isM_t h9 hm2
        have hab : a ≠ b := fun z => hx (by rw [z])
        have c1 : fX1_canBecomePartners 0 (nI a) (nI b) S = some (bI (may (S 372) a b)) := r1_can hW hE ha hb
        cases hy : may (S 372) a b
        · have c6 : fX6_canPair 372 (nI a) (nI b) S = some (bI (may (S 372) a b)) := r6_can rfl hW rfl ha hb
          refine st_ref h hK (code := 3) (O := O) (by decide) ?_ ?_
          · unfold fL_pair fX5_pair
            rw [r5_two_t e0 hm hm2 hx, nn_bx1, c1, nn_bd1, hy, if_pos (show bI false = 0 from rfl)]; rfl
          · unfold fX6_pair
            rw [r6_mem_t h9 e6 hm, nn_bd1, if_neg i1_0, r6_mem_t h9 e6 hm2, nn_bd1, if_neg i1_0, if_neg hx, c6, nn_bd1, hy, if_pos (show bI false = 0 from rfl)]
            unfold fX6_pair_53
            rw [r6_ref3, nn_bd2, if_neg i1_0]
        · obtain ⟨f1, f2⟩ := may_free hy
          obtain ⟨S1, g1, g2, g3, g4⟩ := act1 h hK
          obtain ⟨p, h1, h2⟩ := r1_uni (k := 0) (S := S1) hW (by rw [g2]; exact hE) ha hb hab f1 f2
          obtain ⟨S4, k1, k2, k3⟩ := g4 p
          have hW2 : WF n (9 * (K + 1)) (sUni (S 372) a b) := wf_le (wf_uni hW ha hb hab f1 f2) (by omega) hK
          obtain ⟨r1, r2⟩ := k3 n _ hW2 h2
          refine ⟨0, _, tst S1 0 p, sVal (sUni (S 372) a b) a b, _, ?_, ?_, r2, fun _ => rfl, n, r1⟩
          · unfold fL_pair fX5_pair
            rw [r5_two_t e0 hm hm2 hx, nn_bx1, c1, nn_bd1, hy, if_neg (show ¬ bI true = 0 by decide), g1, nn_bd1, h1, nn_bd1, r1_value hW2 (by rw [tst_s]; exact h2) ha hb, nn_bd1]; rfl
          · have e6' : tst S1 0 p 372 0 = nI n := by rw [tst_n _ _ (by decide), g3]; exact e6
            have c6 : fX6_canPair 372 (nI a) (nI b) (tst S1 0 p) = some (bI (may (S 372) a b)) := r6_can rfl hW (by rw [tst_n _ _ (by decide), g3]) ha hb
            unfold fX6_pair
            rw [r6_mem_t h9 e6' hm, nn_bd1, if_neg i1_0, r6_mem_t h9 e6' hm2, nn_bd1, if_neg i1_0, if_neg hx, c6, nn_bd1, hy, if_neg (show ¬ bI true = 0 by decide)]
            unfold fX6_pair_53
            rw [r6_ref0, nn_bd2, if_pos rfl, k1, nn_bd1, r6_uni rfl hW k2 ha hb, nn_bd1, mUni_free f1 f2, r6_value rfl hW2 (tst_s _ _ _) ha hb, nn_bd1]
theorem st_part (h : REL K n S) (hK : 9 * (K + 1) < 100000) (x1 : Int32) (O : Int64) : STEP K (fL_part x1 S O) (fX6_part x1) := by
  have hW := h.1
  have hE := h.2.1
  have h9 := hW.1
  have e0 : S 0 0 = nI n := hE.1.trans hW.2.2.1
  have e6 : S 372 0 = nI n := hW.2.2.1
  cases hm : isM n x1
  · refine st_ref h hK (code := 1) (O := O) (by decide) ?_ ?_
    · unfold fL_part fX5_part
      rw [r5_mem_f e0 hm]; rfl
    · unfold fX6_part
      rw [r6_mem_f h9 e6 hm, nn_bd1, if_pos rfl]
      unfold fX6_part_32
      rw [r6_ref1, nn_bd2, if_neg i1_0]
  · obtain ⟨a, ha, rfl⟩ := isM_t h9 hm
    cases hy : sFree (S 372) a
    · have q5 : fX5_requirePartner (nI a) S = some (.inr ()) := by
        unfold fX5_requirePartner
        rw [r1_free hW hE ha, nn_bd1, hy]; rfl
      obtain ⟨S1, g1, g2, g3, g4⟩ := act1 h hK
      obtain ⟨p, h1, h2⟩ := r1_sep (k := 0) (S := S1) hW (by rw [g2]; exact hE) ha
      obtain ⟨S4, k1, k2, k3⟩ := g4 p
      obtain ⟨r1, r2⟩ := k3 n _ (wf_le (wf_mp hW ha) (by omega) hK) h2
      refine ⟨0, _, tst S1 0 p, S 372 (2 + 10 * a + 8), _, ?_, ?_, r2, fun _ => rfl, n, r1⟩
      · unfold fL_part fX5_part
        rw [r5_mem_t e0 hm, nn_bx1, q5, nn_bx1, g1, nn_bd1, nn_in (by omega) (by decide), h1, nn_bd1, g2, nn_tn (by omega), (hE.2.2 a ha).1 8 (by decide)]; rfl
      · have e6' : tst S1 0 p 372 0 = nI n := by rw [tst_n _ _ (by decide), g3]; exact e6
        unfold fX6_part
        rw [r6_mem_t h9 e6' hm, nn_bd1, if_neg i1_0, r6_free (v := S 372) rfl h9 (by rw [tst_n _ _ (by decide), g3]) ha, nn_bd1, hy, if_pos (show bI false = 0 from rfl)]
        unfold fX6_part_32
        rw [r6_ref0, nn_bd2, if_pos rfl, k1, nn_bd1]
        simp (disch := omega) only [r6_at, nn_bd1, li8, nn_add, nn_in, nn_tn, k2]
        rw [r6_part rfl hW k2 ha, nn_bd1]
    · refine st_ref h hK (code := 2) (O := O) (by decide) ?_ ?_
      · unfold fL_part fX5_part fX5_requirePartner
        rw [r5_mem_t e0 hm, nn_bx1, r1_free hW hE ha, nn_bd1, hy]; rfl
      · unfold fX6_part
        rw [r6_mem_t h9 e6 hm, nn_bd1, if_neg i1_0, r6_free rfl h9 rfl ha, nn_bd1, hy, if_neg (show ¬ bI true = 0 by decide)]
        unfold fX6_part_32
        rw [r6_ref2, nn_bd2, if_neg i1_0]
theorem rg_no {lo hi x y : Int32} (h : rg lo hi x = false) (hy : rg lo hi y = true) : ¬ x = y := fun z => by
  rw [z, hy] at h
  cases h
theorem sR_s (S : teS) (x : Int32) : sRef S x 369 = tup (S 369) 0 x := tst_s _ _ _
theorem st_about (h : REL K n S) (hK : 9 * (K + 1) < 100000) (x1 : Int32) (O : Int64) : STEP K (fL_about x1 S O) (fX6_about x1) := by
  have hW := h.1
  have hE := h.2.1
  have h9 := hW.1
  have v0 : sRef S 0 372 = S 372 := sR_p _ _ (by decide)
  cases hr : rg 0 6 x1
  · refine st_ref h hK (code := 1) (O := O) (by decide) ?_ ?_
    · unfold fL_about fX5_about
      rw [if_neg (rg_no hr (by decide)), if_neg (rg_no hr (by decide)), if_neg (rg_no hr (by decide)), if_neg (rg_no hr (by decide)), if_neg (rg_no hr (by decide)), if_neg (rg_no hr (by decide)), if_neg (rg_no hr (by decide))]; rfl
    · unfold fX6_about
      rw [r6_rg_f (lo := 0) (hi := 6) (by decide) (by decide) hr, nn_bd1, if_pos rfl]
      unfold fX6_about_18
      rw [r6_ref1, nn_bd2, if_neg i1_0]
  · obtain ⟨j, hj, rfl⟩ := rg_nat (N := 6) (by decide) hr
    have m6 : ∀ w, fX6_about_18 (nI j) S 0 = some (w, sRef S 0) → fX6_about (nI j) S = some (w, sRef S 0) := fun w hw => by
      unfold fX6_about
      rw [r6_rg_t (lo := 0) (hi := 6) (by decide) (by decide) hr, nn_bd1, if_neg i1_0, hw]
    rcases (show j = 0 ∨ j = 1 ∨ j = 2 ∨ j = 3 ∨ j = 4 ∨ j = 5 ∨ j = 6 by omega) with rfl | rfl | rfl | rfl | rfl | rfl | rfl
    · refine st_read h hK (v := S 372 0) ?_ (m6 _ ?_)
      · unfold fL_about fX5_about
        rw [if_pos (show nI 0 = 0 from rfl), hE.1]; rfl
      · unfold fX6_about_18
        rw [r6_ref0, nn_bd2, if_pos rfl, if_pos (show nI 0 = 0 from rfl), nn_ch (show tein (0 : Int32) 92 = true by decide), v0]; rfl
    · obtain ⟨y, y1, y2⟩ := c_prs (k := 0) (r := 372) (S := S) (S2 := sRef S 0) rfl hW hE v0
      refine st_read h hK (v := y) ?_ (m6 _ ?_)
      · unfold fL_about fX5_about
        rw [if_neg (show ¬ nI 1 = 0 by decide), if_pos (show nI 1 = 1 from rfl), y1, nn_bd1]; rfl
      · unfold fX6_about_18
        rw [r6_ref0, nn_bd2, if_pos rfl, if_neg (show ¬ nI 1 = 0 by decide), if_pos (show nI 1 = 1 from rfl), y2, nn_bd1]
    · refine st_read h hK (v := S 372 1) ?_ (m6 _ ?_)
      · unfold fL_about fX5_about
        rw [if_neg (show ¬ nI 2 = 0 by decide), if_neg (show ¬ nI 2 = 1 by decide), if_pos (show nI 2 = 2 from rfl), hE.2.1]; rfl
      · unfold fX6_about_18
        rw [r6_ref0, nn_bd2, if_pos rfl, if_neg (show ¬ nI 2 = 0 by decide), if_neg (show ¬ nI 2 = 1 by decide), if_pos (show nI 2 = 2 from rfl), nn_ch (show tein (1 : Int32) 92 = true by decide), v0]; rfl
    · obtain ⟨y, y1, y2⟩ := c_sov (k := 0) (r := 372) (S := S) (S2 := sRef S 0) rfl hW hE v0
      refine st_read h hK (v := y) ?_ (m6 _ ?_)
      · unfold fL_about fX5_about
        rw [if_neg (show ¬ nI 3 = 0 by decide), if_neg (show ¬ nI 3 = 1 by decide), if_neg (show ¬ nI 3 = 2 by decide), if_pos (show nI 3 = 3 from rfl), y1, nn_bd1]; rfl
      · unfold fX6_about_18
        rw [r6_ref0, nn_bd2, if_pos rfl, if_neg (show ¬ nI 3 = 0 by decide), if_neg (show ¬ nI 3 = 1 by decide), if_neg (show ¬ nI 3 = 2 by decide), if_pos (show nI 3 = 3 from rfl), y2, nn_bd1]
    · obtain ⟨y, y1, y2⟩ := c_blk (k := 0) (r := 372) (S := S) (S2 := sRef S 0) rfl hW hE v0
      refine st_read h hK (v := y) ?_ (m6 _ ?_)
      · unfold fL_about fX5_about
        rw [if_neg (show ¬ nI 4 = 0 by decide), if_neg (show ¬ nI 4 = 1 by decide), if_neg (show ¬ nI 4 = 2 by decide), if_neg (show ¬ nI 4 = 3 by decide), if_pos (show nI 4 = 4 from rfl), y1, nn_bd1]; rfl
      · unfold fX6_about_18
        rw [r6_ref0, nn_bd2, if_pos rfl, if_neg (show ¬ nI 4 = 0 by decide), if_neg (show ¬ nI 4 = 1 by decide), if_neg (show ¬ nI 4 = 2 by decide), if_neg (show ¬ nI 4 = 3 by decide), if_pos (show nI 4 = 4 from rfl), y2, nn_bd1]
    · obtain ⟨y, y1, y2⟩ := c_crd (k := 0) (r := 372) (S := S) (S2 := sRef S 0) rfl hW hE v0
      refine st_read h hK (v := y) ?_ (m6 _ ?_)
      · unfold fL_about fX5_about
        rw [if_neg (show ¬ nI 5 = 0 by decide), if_neg (show ¬ nI 5 = 1 by decide), if_neg (show ¬ nI 5 = 2 by decide), if_neg (show ¬ nI 5 = 3 by decide), if_neg (show ¬ nI 5 = 4 by decide), if_pos (show nI 5 = 5 from rfl), y1, nn_bd1]; rfl
      · unfold fX6_about_18
        rw [r6_ref0, nn_bd2, if_pos rfl, if_neg (show ¬ nI 5 = 0 by decide), if_neg (show ¬ nI 5 = 1 by decide), if_neg (show ¬ nI 5 = 2 by decide), if_neg (show ¬ nI 5 = 3 by decide), if_neg (show ¬ nI 5 = 4 by decide), if_pos (show nI 5 = 5 from rfl), y2, nn_bd1]
    · obtain ⟨y, y1, y2⟩ := c_fit (k := 0) (r := 372) (S := S) (S2 := sRef S 0) rfl hW hE v0
      refine st_read h hK (v := y) ?_ (m6 _ ?_)
      · unfold fL_about fX5_about
        rw [if_neg (show ¬ nI 6 = 0 by decide), if_neg (show ¬ nI 6 = 1 by decide), if_neg (show ¬ nI 6 = 2 by decide), if_neg (show ¬ nI 6 = 3 by decide), if_neg (show ¬ nI 6 = 4 by decide), if_neg (show ¬ nI 6 = 5 by decide), if_pos (show nI 6 = 6 from rfl), y1, nn_bd1]; rfl
      · unfold fX6_about_18
        rw [r6_ref0, nn_bd2, if_pos rfl, if_neg (show ¬ nI 6 = 0 by decide), if_neg (show ¬ nI 6 = 1 by decide), if_neg (show ¬ nI 6 = 2 by decide), if_neg (show ¬ nI 6 = 3 by decide), if_neg (show ¬ nI 6 = 4 by decide), if_neg (show ¬ nI 6 = 5 by decide), y2, nn_bd1]
theorem st_both (h : REL K n S) (hK : 9 * (K + 1) < 100000) (x1 x2 x3 : Int32) (O : Int64) : STEP K (fL_both x1 x2 x3 S O) (fX6_both x1 x2 x3) := by
  have hW := h.1
  have hE := h.2.1
  have h9 := hW.1
  have e0 : S 0 0 = nI n := hE.1.trans hW.2.2.1
  have e6 : S 372 0 = nI n := hW.2.2.1
  have v0 : sRef S 0 372 = S 372 := sR_p _ _ (by decide)
  cases hm : isM n x1
  · refine st_ref h hK (code := 1) (O := O) (by decide) ?_ ?_
    · unfold fL_both fX5_both
      rw [r5_two_1 e0 hm]; rfl
    · unfold fX6_both
      rw [r6_mem_f h9 e6 hm, nn_bd1, if_pos rfl]
      unfold fX6_both_49
      rw [r6_ref1, nn_bd2, if_neg i1_0]
  · cases hm2 : isM n x2
    · refine st_ref h hK (code := 1) (O := O) (by decide) ?_ ?_
      · unfold fL_both fX5_both
        rw [r5_two_2 e0 hm hm2]; rfl
      · unfold fX6_both
        rw [r6_mem_t h9 e6 hm, nn_bd1, if_neg i1_0, r6_mem_f h9 e6 hm2, nn_bd1, if_pos rfl]
        unfold fX6_both_49
        rw [r6_ref1, nn_bd2, if_neg i1_0]
    · by_cases hx : x1 = x2
      · refine st_ref h hK (code := 2) (O := O) (by decide) ?_ ?_
        · unfold fL_both fX5_both
          rw [r5_two_3 e0 hm hm2 hx]; rfl
        · unfold fX6_both
          rw [r6_mem_t h9 e6 hm, nn_bd1, if_neg i1_0, r6_mem_t h9 e6 hm2, nn_bd1, if_neg i1_0, if_pos hx]
          unfold fX6_both_49
          rw [r6_ref2, nn_bd2, if_neg i1_0]
      · obtain ⟨a, ha, rfl⟩ := isM_t h9 hm
        obtain ⟨b, hb, rfl⟩ := isM_t h9 hm2
        cases hr : rg 0 3 x3
        · refine st_ref h hK (code := 2) (O := O) (by decide) ?_ ?_
          · unfold fL_both fX5_both
            rw [r5_two_t e0 hm hm2 hx, nn_bx1, if_neg (rg_no hr (by decide)), if_neg (rg_no hr (by decide)), if_neg (rg_no hr (by decide)), if_neg (rg_no hr (by decide))]; rfl
          · unfold fX6_both
            rw [r6_mem_t h9 e6 hm, nn_bd1, if_neg i1_0, r6_mem_t h9 e6 hm2, nn_bd1, if_neg i1_0, if_neg hx, r6_rg_f (lo := 0) (hi := 3) (by decide) (by decide) hr, nn_bd1, if_pos rfl]
            unfold fX6_both_49
            rw [r6_ref2, nn_bd2, if_neg i1_0]
        · obtain ⟨j, hj, rfl⟩ := rg_nat (N := 3) (by decide) hr
          have m6 : ∀ w, fX6_both_49 (nI a) (nI b) (nI j) S 0 = some (w, sRef S 0) → fX6_both (nI a) (nI b) (nI j) S = some (w, sRef S 0) := fun w hw => by
            unfold fX6_both
            rw [r6_mem_t h9 e6 hm, nn_bd1, if_neg i1_0, r6_mem_t h9 e6 hm2, nn_bd1, if_neg i1_0, if_neg hx, r6_rg_t (lo := 0) (hi := 3) (by decide) (by decide) hr, nn_bd1, if_neg i1_0, hw]
          rcases (show j = 0 ∨ j = 1 ∨ j = 2 ∨ j = 3 by omega) with rfl | rfl | rfl | rfl
          · refine st_read h hK (v := sSc (S 372) a b) ?_ (m6 _ ?_)
            · unfold fL_both fX5_both
              rw [r5_two_t e0 hm hm2 hx, nn_bx1, if_pos (show nI 0 = 0 from rfl), r1_score hW hE ha hb, nn_bd1]; rfl
            · unfold fX6_both_49
              rw [r6_ref0, nn_bd2, if_pos rfl, if_pos (show nI 0 = 0 from rfl), r6_score rfl hW v0 ha hb, nn_bd1]
          · refine st_read h hK (v := sVal (S 372) a b) ?_ (m6 _ ?_)
            · unfold fL_both fX5_both
              rw [r5_two_t e0 hm hm2 hx, nn_bx1, if_neg (show ¬ nI 1 = 0 by decide), if_pos (show nI 1 = 1 from rfl), r1_value hW hE ha hb, nn_bd1]; rfl
            · unfold fX6_both_49
              rw [r6_ref0, nn_bd2, if_pos rfl, if_neg (show ¬ nI 1 = 0 by decide), if_pos (show nI 1 = 1 from rfl), r6_value rfl hW v0 ha hb, nn_bd1]
          · refine st_read h hK (v := bI (sFit (S 372) a b)) ?_ (m6 _ ?_)
            · unfold fL_both fX5_both
              rw [r5_two_t e0 hm hm2 hx, nn_bx1, if_neg (show ¬ nI 2 = 0 by decide), if_neg (show ¬ nI 2 = 1 by decide), if_pos (show nI 2 = 2 from rfl), r1_fit hW hE ha hb, nn_bd1, bI_if]
              cases sFit (S 372) a b <;> rfl
            · unfold fX6_both_49
              rw [r6_ref0, nn_bd2, if_pos rfl, if_neg (show ¬ nI 2 = 0 by decide), if_neg (show ¬ nI 2 = 1 by decide), if_pos (show nI 2 = 2 from rfl), r6_fit rfl hW v0 ha hb, nn_bd1, bI_if]
              cases sFit (S 372) a b <;> rfl
          · refine st_read h hK (v := bI (sBlk (S 372) a b)) ?_ (m6 _ ?_)
            · unfold fL_both fX5_both
              rw [r5_two_t e0 hm hm2 hx, nn_bx1, if_neg (show ¬ nI 3 = 0 by decide), if_neg (show ¬ nI 3 = 1 by decide), if_neg (show ¬ nI 3 = 2 by decide), if_pos (show nI 3 = 3 from rfl), r1_block hW hE ha hb, nn_bd1, bI_if]
              cases sBlk (S 372) a b <;> rfl
            · unfold fX6_both_49
              rw [r6_ref0, nn_bd2, if_pos rfl, if_neg (show ¬ nI 3 = 0 by decide), if_neg (show ¬ nI 3 = 1 by decide), if_neg (show ¬ nI 3 = 2 by decide), r6_block rfl hW v0 ha hb, nn_bd1, bI_if]
              cases sBlk (S 372) a b <;> rfl
theorem st_blocking (h : REL K n S) (hK : 9 * (K + 1) < 100000) (x1 x2 : Int32) (O : Int64) : STEP K (fL_blocking x1 x2 S O) (fX6_blocking x1 x2) := by
  have hW := h.1
  have hE := h.2.1
  have h9 := hW.1
  have v0 : sRef S 0 372 = S 372 := sR_p _ _ (by decide)
  by_cases hx : x1 < 0
  · refine st_ref h hK (code := 1) (O := O) (by decide) ?_ ?_
    · unfold fL_blocking fX5_blocking
      rw [if_neg (Int32.not_le.mpr hx)]; rfl
    · unfold fX6_blocking
      rw [if_pos hx]
      unfold fX6_blocking_10
      rw [r6_ref1, nn_bd2, if_neg i1_0]
  · obtain ⟨j, hj, rfl⟩ := nI_of hx
    have c5 : fX5_blocking_19 (nI j) x2 2000 S (nI j) (nI 0) = _ := c5_bl1 hW hE (nI j) x2 n 0 2000 j hj (by omega) (by omega)
    rw [fnd_map] at c5
    refine st_read h hK (v := match fnd (S 372) n j with | none => -9999 | some q => if x2 = 0 then nI q.1 else nI q.2) ?_ ?_
    · unfold fL_blocking fX5_blocking
      rw [if_pos (Int32.not_lt.mp hx), li0, c5]
      cases fnd (S 372) n j with
      | none => rfl
      | some q => rfl
    · unfold fX6_blocking
      rw [if_neg hx]
      unfold fX6_blocking_10
      rw [r6_ref0, nn_bd2, if_pos rfl, r6_bl rfl hW v0 hj, nn_bd1]
      cases hq : fnd (S 372) n j with
      | none => rw [if_pos (show oN none = -9999 from rfl)]
      | some q =>
        obtain ⟨g1, g2, -⟩ := fnd_lt (a := q.1) (b := q.2) hq
        rw [if_neg (show ¬ oN (some q) = -9999 by show ¬ nI (10 * q.1 + q.2) = -9999; rw [nn_NI (by omega)]; exact not_false)]
        show (if x2 = 0 then some (nI (10 * q.1 + q.2) / 10, sRef S 0) else some (nI (10 * q.1 + q.2) - nI (10 * q.1 + q.2) / 10 * 10, sRef S 0)) = some (if x2 = 0 then nI q.1 else nI q.2, sRef S 0)
        rw [li10, nn_rem (by omega) (by decide) (by decide), nn_div (by omega) (by decide) (by decide), show (10 * q.1 + q.2) / 10 = q.1 by omega, show (10 * q.1 + q.2) % 10 = q.2 by omega]
        split <;> rfl
end S44
