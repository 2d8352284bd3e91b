/-! STEPS: runScript -/
section S59
theorem r6_inL (x lo hi : Int64) (S : teS) : fX6_in x lo hi S = some (bI (decide (¬ x < lo) && decide (¬ hi < x))) := by
  unfold fX6_in
  by_cases h1 : x < lo
  · rw [if_pos ((lg_cmp_lt _ _).mpr h1), decide_eq_false (not_not_intro h1)]; rfl
  · rw [if_neg (fun z => h1 ((lg_cmp_lt _ _).mp z)), decide_eq_true h1]
    by_cases h3 : hi < x
    · rw [if_pos ((lg_cmp_gt _ _).mpr h3), decide_eq_false (not_not_intro h3)]; rfl
    · rw [if_neg (fun z => h3 ((lg_cmp_gt _ _).mp z)), decide_eq_true h3]; rfl
theorem in_neg {x : Int64} (h : x < 0) (hi : Int64) (T : teS) : fX6_in x 0 hi T = some 0 := by
  rw [r6_inL, decide_eq_false (not_not_intro h)]; rfl
theorem p10k {N : Nat} (hN : N ≤ 4) : 1 ≤ 10000 ^ N ∧ 10000 ^ N ≤ 10000000000000000 := by
  have q4 : (10000 : Nat) ^ 4 = 10000000000000000 := by decide
  have h1 : 10000 ^ N ≤ 10000 ^ 4 := Nat.pow_le_pow_right (by decide) hN
  have h2 : 0 < 10000 ^ N := Nat.pow_pos (by decide)
  omega
theorem in_scr {X N : Nat} (hX : X < 9223372036854775808) (hN : N ≤ 4) (hs : ¬ lN X < 0) (T : teS) : fX6_in (lN X) 0 (lN (10000 ^ N) - 1) T = some (bI (decide (X < 10000 ^ N))) := by
  obtain ⟨h1, h2⟩ := p10k hN
  have e : lN (10000 ^ N) - 1 = lN (10000 ^ N - 1) := lN_sub h1
  rw [r6_inL, decide_eq_true hs, Bool.true_and, e]
  refine congrArg (fun b => some (bI b)) (decide_eq_decide.mpr ?_)
  rw [pk_lLT (by omega) (by omega)]
  omega
theorem st_runScript {K n : Nat} {S : teS} (h : REL K n S) (hK : 9 * (K + 200) < 100000) (x1 : Int32) (x2 : Int64) (O : Int64) : STEP K (fL_runScript x1 x2 S O) (fX6_runScript x1 x2) := by
  have hrs : ∀ T : teS, ∃ e, e ≤ 4 ∧ fX6_runScript x1 x2 T = fX6_runScript_32 x1 x2 T (lN (10000 ^ e)) ∧ ∀ N, x1 = nI N → N ≤ 4 → e = N := fun T => by
    obtain ⟨e, g1, g2, g3⟩ := r6_rs x1 x2 T 4 0 2000 rfl (by decide)
    exact ⟨e, g1, g2, fun N hN h4 => g3 N hN (by omega) h4⟩
  cases hr : rg 1 4 x1
  · refine st_ref h (by omega) (code := 1) (O := O) (by decide) ?_ ?_
    · unfold fL_runScript fX5_runScript
      rw [r5_rg_f hr]; rfl
    · obtain ⟨e, -, g2, -⟩ := hrs S
      rw [g2]
      unfold fX6_runScript_32
      rw [r6_rg_f (lo := 1) (hi := 4) (by decide) (by decide) hr, nn_bd1, if_pos rfl]
      unfold fX6_runScript_62
      rw [r6_ref1, nn_bd2, if_neg i1_0]
  · obtain ⟨N, hN, rfl⟩ : ∃ X, X ≤ 4 ∧ x1 = nI X := by
      refine rg_nat (N := 4) (by decide) ?_
      unfold rg at hr ⊢
      rw [Bool.and_eq_true] at hr ⊢
      refine ⟨?_, hr.2⟩
      have h1 := of_decide_eq_true hr.1
      refine decide_eq_true (fun z => h1 (Int32.lt_trans z (by decide)))
    by_cases hs : x2 < 0
    · refine st_ref h (by omega) (code := 1) (O := O) (by decide) ?_ ?_
      · unfold fL_runScript fX5_runScript
        rw [r5_rg_t hr, nn_bx1, if_pos ((lg_cmp_lt _ _).mpr hs)]; rfl
      · obtain ⟨e, -, g2, -⟩ := hrs S
        rw [g2]
        unfold fX6_runScript_32
        rw [r6_rg_t (lo := 1) (hi := 4) (by decide) (by decide) hr, nn_bd1, if_neg i1_0, in_neg hs, nn_bd1, if_pos rfl]
        unfold fX6_runScript_62
        rw [r6_ref1, nn_bd2, if_neg i1_0]
    · obtain ⟨X, hX, rfl⟩ := pk_lOf hs
      obtain ⟨p1, p2⟩ := p10k hN
      have hdv : X / 10000 ^ N ≤ X := Nat.div_le_self _ _
      have hz : lg_cmp (lN (X / 10000 ^ N)) 0 = 0 ↔ X < 10000 ^ N := by
        rw [lg_cmp_eq]
        show lN (X / 10000 ^ N) = lN 0 ↔ _
        rw [pk_lEQ (by omega) (by decide), Nat.div_eq_zero_iff]
        omega
      have c6 : ∀ T : teS, fX6_runScript (nI N) (lN X) T = if X < 10000 ^ N then fX6_runScript_62 (nI N) (lN X) T (lN (10000 ^ N)) 0 else fX6_runScript_62 (nI N) (lN X) T (lN (10000 ^ N)) 1 := fun T => by
        obtain ⟨e, -, g2, g3⟩ := hrs T
        rw [g2, g3 N rfl hN]
        unfold fX6_runScript_32
        rw [r6_rg_t (lo := 1) (hi := 4) (by decide) (by decide) hr, nn_bd1, if_neg i1_0, in_scr hX hN hs, nn_bd1, bI_if]
        by_cases hb : X < 10000 ^ N
        · rw [decide_eq_true hb, if_neg (show ¬ true = false by decide), if_pos hb]
        · rw [decide_eq_false hb, if_pos rfl, if_neg hb]
      by_cases hb : X < 10000 ^ N
      · obtain ⟨p, u0, t1, t2, t3, -, t5⟩ := tri h (by omega)
        obtain ⟨w0, p0, -, a1, -⟩ := scr hX hN (lN X) N 0 2000 (9 * K) u0 (tst S 1 p) (tst S 373 u0) t2 (by rw [tst_s]; exact t3) (tst_s _ _ _) (by omega) (by omega) (by omega)
        obtain ⟨w, p2, u, b1, b2⟩ := scr hX hN (lN X) N 0 2000 (9 * K) u0 (tst S 1 p) (tst (sRef (tst S 1 p0) 0) 373 u0) t2 (by rw [tst_s]; exact t3) (tst_s _ _ _) (by omega) (by omega) (by omega)
        have a2 := b1
        rw [a1] at a2
        have a3 : w0 = w := congrArg Prod.fst (Sum.inr.inj (Option.some.inj a2))
        subst a3
        rw [tst_t] at a1 b2
        rw [Nat.mod_eq_of_lt hb] at b2
        refine st_tri ((t5 p0).2 _) (v := w0) ?_ (u2 := u) ?_
        · unfold fL_runScript fX5_runScript
          rw [r5_rg_t hr, nn_bx1, if_neg (fun z => hs ((lg_cmp_lt _ _).mp z)), wlg hX (by omega), nn_bd1, if_pos (hz.mpr hb), t1, nn_bd1]
          rw [show fX5_runScript_46 (nI N) (lN X) 2000 (tst S 1 p) 0 = _ from a1]
          rfl
        · rw [c6, if_pos hb]
          unfold fX6_runScript_62
          rw [r6_ref0, nn_bd2, if_pos rfl]
          rw [show fX6_copyPage 372 0 373 0 (sRef (tst S 1 p0) 0) = _ from (t5 p0).1, nn_bd1]
          exact b2
      · refine st_ref h (by omega) (code := 1) (O := O) (by decide) ?_ ?_
        · unfold fL_runScript fX5_runScript
          rw [r5_rg_t hr, nn_bx1, if_neg (fun z => hs ((lg_cmp_lt _ _).mp z)), wlg hX (by omega), nn_bd1, if_neg (fun z => hb (hz.mp z))]; rfl
        · rw [c6, if_neg hb]
          unfold fX6_runScript_62
          rw [r6_ref1, nn_bd2, if_neg i1_0]
end S59
