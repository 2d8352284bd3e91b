/-! STEPS: join -/
theorem st_join {K n : Nat} {S : teS} (h : REL K n S) (hK : 9 * (K + 200) < 100000) (x1 x2 x3 : Int32) (O : Int64) : STEP K (fL_join x1 x2 x3 S O) (fX6_join x1 x2 x3) := by
  have hW := h.1
  have hE := h.2.1
  have h9 := hW.1
  have e0 : S 0 0 = nI n := hE.1.trans hW.2.2.1
  have e6 : S 372 0 = nI n := hW.2.2.1
  have m1 : fX6_join_43 x1 x2 x3 S 0 = some (0, sRef S 1) := by
    unfold fX6_join_43
    rw [if_pos rfl]
    unfold fX6_join_71
    rw [r6_ref1, nn_bd2, if_neg i1_0]
  cases hr : rg 0 3 x1
  · refine st_ref h (by omega) (code := 1) (O := O) (by decide) ?_ ?_
    · unfold fL_join fX5_join
      rw [r5_lg_f hr]; rfl
    · unfold fX6_join
      rw [r6_rg_f (lo := 0) (hi := 3) (by decide) (by decide) hr, nn_bd1, if_pos rfl]; exact m1
  · cases hr2 : rg 0 9999 x2
    · refine st_ref h (by omega) (code := 1) (O := O) (by decide) ?_ ?_
      · unfold fL_join fX5_join
        rw [r5_lg_t hr, nn_bx1, r5_rg_f hr2]; rfl
      · unfold fX6_join
        rw [r6_rg_t (lo := 0) (hi := 3) (by decide) (by decide) hr, nn_bd1, if_neg i1_0, r6_rg_f (lo := 0) (hi := 9999) (by decide) (by decide) hr2, nn_bd1, if_pos rfl]; exact m1
    · cases hr3 : rg (-99) 99 x3
      · refine st_ref h (by omega) (code := 1) (O := O) (by decide) ?_ ?_
        · unfold fL_join fX5_join
          rw [r5_lg_t hr, nn_bx1, r5_rg_t hr2, nn_bx1, r5_rg_f hr3]; rfl
        · unfold fX6_join
          rw [r6_rg_t (lo := 0) (hi := 3) (by decide) (by decide) hr, nn_bd1, if_neg i1_0, r6_rg_t (lo := 0) (hi := 9999) (by decide) (by decide) hr2, nn_bd1, if_neg i1_0, r6_rg_f (lo := -99) (hi := 99) (by decide) (by decide) hr3, nn_bd1, if_pos rfl]; exact m1
      · have c5 : ∀ S0 : teS, S0 0 0 = S 0 0 → fX5_join x1 x2 x3 S = if (S 0 0) < (9 : Int32) then (bd1 (fX2_remember 0 S) fun S1 => bd1 (fX1_add 0 x1 x2 x3 S1) fun S2 => some (.inr (((S2 0 0) - (1 : Int32)), S2))) else some (.inl 2) := fun _ _ => by
          unfold fX5_join
          rw [r5_lg_t hr, nn_bx1, r5_rg_t hr2, nn_bx1, r5_rg_t hr3, nn_bx1]
        have c5' := c5 S rfl
        have c6 : ∀ T : teS, T 372 0 = nI n → fX6_join x1 x2 x3 T = if n = 9 then fX6_join_71 x1 x2 x3 T 2 else fX6_join_71 x1 x2 x3 T 0 := fun T hT => by
          unfold fX6_join
          rw [r6_rg_t (lo := 0) (hi := 3) (by decide) (by decide) hr, nn_bd1, if_neg i1_0, r6_rg_t (lo := 0) (hi := 9999) (by decide) (by decide) hr2, nn_bd1, if_neg i1_0, r6_rg_t (lo := -99) (hi := 99) (by decide) (by decide) hr3, nn_bd1, if_neg i1_0]
          unfold fX6_join_43
          rw [if_neg i1_0, nn_ch (show tein (0 : Int32) 92 = true by decide), l0, hT, li9, eq_if (by omega) (by decide)]
        rw [e0, li9, lt_if (by omega) (by decide)] at c5'
        by_cases hn : n = 9
        · refine st_ref h (by omega) (code := 2) (O := O) (by decide) ?_ ?_
          · unfold fL_join
            rw [c5', if_neg (by omega)]; rfl
          · rw [c6 S e6, if_pos hn]
            unfold fX6_join_71
            rw [r6_ref2, nn_bd2, if_neg i1_0]
        · obtain ⟨w, hw, rfl⟩ := rg_nat (N := 3) (by decide) hr
          obtain ⟨L, hL, rfl⟩ := rg_nat (N := 9999) (by decide) hr2
          obtain ⟨S1, g1, g2, g3, g4⟩ := act1 h (by omega)
          have h1 := r1_join (k := 0) (S := S1) (w := w) (L := L) (x := x3) hW (by rw [g2]; exact hE) (by omega) hL
          have h2 : PE (n + 1) (sJoin (S1 0) n w L x3) (sJoin (S 372) n w L x3) := PE_join (by rw [g2]; exact hE)
          have hW2 : WF (n + 1) (9 * K) (sJoin (S 372) n w L x3) := wf_join hW (by omega) (by omega) (rg_cr hr3)
          obtain ⟨S4, k1, k2, k3⟩ := g4 (sJoin (S1 0) n w L x3)
          obtain ⟨r1, r2⟩ := k3 (n + 1) _ (wf_le hW2 (by omega) (by omega)) h2
          refine ⟨0, _, tst S1 0 (sJoin (S1 0) n w L x3), nI n, _, ?_, ?_, r2, fun _ => rfl, n + 1, r1⟩
          · unfold fL_join
            rw [c5', if_pos (by omega), g1, nn_bd1, h1, nn_bd1, tst_s, h2.1, hW2.2.2.1, li1, nn_sub (by omega)]
            rfl
          · have e6' : tst S1 0 (sJoin (S1 0) n w L x3) 372 0 = nI n := by rw [tst_n _ _ (by decide), g3]; exact e6
            rw [c6 _ e6', if_neg hn]
            unfold fX6_join_71
            rw [r6_ref0, nn_bd2, if_pos rfl, k1, nn_bd1, nn_ch (show tein (0 : Int32) 92 = true by decide), l0, k2, e6, r6_at, nn_bd1]
            have h6 := c6_sta 1995 w L n x3 S4 (by omega) hL (by rw [k2]; exact e6)
            rw [k2] at h6
            exact h6
