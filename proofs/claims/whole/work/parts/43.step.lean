/-! STEPS: one call of the law -/
def STEP (K : Nat) (c : Option (Int32 × (Int64 × teS))) (m : teS → Option (Int32 × teS)) : Prop := ∃ code O1 S1 v S2, c = some (code, (O1, S1)) ∧ m S1 = some (v, S2) ∧ S2 369 0 = code ∧ (code = 0 → O1 = v.toInt64) ∧ ∃ n, REL (K + 1) n S2
theorem st_run {K : Nat} {c : Option (Int32 × (Int64 × teS))} {m : teS → Option (Int32 × teS)} (h : STEP K c m) {q : teS → Int64 → Option Int32} (hq : ∀ n S2 O, REL (K + 1) n S2 → q S2 O = some 1) :
    (bd3 c fun r5 O2 S2 => bd2 (m S2) fun r7 S3 => bd1 (fX6_thrown S3) fun r9 => if r9 = r5 then (if r5 = 0 then (if lg_cmp O2 r7.toInt64 = 0 then q S3 O2 else some (0 : Int32)) else q S3 O2) else some (0 : Int32)) = some 1 := by
  obtain ⟨code, O1, S1, v, S2, h1, h2, h3, h4, n, h5⟩ := h
  rw [h1]
  show (bd2 (m S1) fun r7 S3 => bd1 (fX6_thrown S3) fun r9 => if r9 = code then (if code = 0 then (if lg_cmp O1 r7.toInt64 = 0 then q S3 O1 else some (0 : Int32)) else q S3 O1) else some (0 : Int32)) = some 1
  rw [h2, nn_bd2]
  unfold fX6_thrown
  rw [nn_bd1, if_pos h3]
  by_cases hc : code = 0
  · rw [if_pos hc, if_pos ((lg_cmp_eq _ _).mpr (h4 hc))]; exact hq n S2 O1 h5
  · rw [if_neg hc]; exact hq n S2 O1 h5
theorem st_ref {K n : Nat} {S : teS} {O : Int64} {c : Option (Int32 × (Int64 × teS))} {m : teS → Option (Int32 × teS)} {code : Int32} (h : REL K n S) (hK : 9 * (K + 1) < 100000) (h0 : ¬ code = 0) (hc : c = some (code, (O, S))) (hm : m S = some (0, sRef S code)) : STEP K c m :=
  ⟨code, O, S, 0, sRef S code, hc, hm, by unfold sRef; rw [tst_s, tup_s], fun z => absurd z h0, n, REL_ref h hK _⟩
/-- a call that only reads -/
theorem st_read {K n : Nat} {S : teS} {c : Option (Int32 × (Int64 × teS))} {m : teS → Option (Int32 × teS)} {v : Int32} (h : REL K n S) (hK : 9 * (K + 1) < 100000) (hc : c = some (0, (v.toInt64, S))) (hm : m S = some (v, sRef S 0)) : STEP K c m :=
  ⟨0, v.toInt64, S, v, sRef S 0, hc, hm, by unfold sRef; rw [tst_s, tup_s], fun _ => rfl, n, REL_ref h hK _⟩
theorem r6_ref1 (S : teS) : fX6_refused 1 S = some (1, sRef S 1) := r6_ref S (c := 1) (by decide) (by decide)
theorem r6_ref2 (S : teS) : fX6_refused 2 S = some (1, sRef S 2) := r6_ref S (c := 2) (by decide) (by decide)
theorem r6_ref3 (S : teS) : fX6_refused 3 S = some (1, sRef S 3) := r6_ref S (c := 3) (by decide) (by decide)
theorem r5_mem_t {n : Nat} {S : teS} {x : Int32} (e0 : S 0 0 = nI n) (h : isM n x = true) : fX5_requireMember x S = some (.inr ()) := by rw [r5_isM e0, if_pos h]
theorem r5_mem_f {n : Nat} {S : teS} {x : Int32} (e0 : S 0 0 = nI n) (h : isM n x = false) : fX5_requireMember x S = some (.inl 3) := by rw [r5_isM e0, h]; rfl
theorem r6_mem_t {n : Nat} {S : teS} {x : Int32} (h9 : n ≤ 9) (e0 : S 372 0 = nI n) (h : isM n x = true) : fX6_isMember 372 x S = some 1 := by rw [r6_isM rfl h9 e0, h]; rfl
theorem r6_mem_f {n : Nat} {S : teS} {x : Int32} (h9 : n ≤ 9) (e0 : S 372 0 = nI n) (h : isM n x = false) : fX6_isMember 372 x S = some 0 := by rw [r6_isM rfl h9 e0, h]; rfl
def rg (lo hi x : Int32) : Bool := decide (¬ x < lo) && decide (¬ hi < x)
theorem r5_rg_t {lo hi x : Int32} {S : teS} (h : rg lo hi x = true) : fX5_requireRange x lo hi S = some (.inr ()) := by rw [r5_rng]; exact if_pos h
theorem r5_rg_f {lo hi x : Int32} {S : teS} (h : rg lo hi x = false) : fX5_requireRange x lo hi S = some (.inl 1) := by
  rw [r5_rng]
  exact if_neg (by show ¬ rg lo hi x = true; rw [h]; decide)
theorem r6_rg_t {lo hi x : Int32} {L H : Int64} {S : teS} (hL : L = lo.toInt64) (hH : H = hi.toInt64) (h : rg lo hi x = true) : fX6_in x.toInt64 L H S = some 1 := by
  subst hL hH
  rw [r6_in]
  show some (bI (rg lo hi x)) = _
  rw [h]; rfl
theorem r6_rg_f {lo hi x : Int32} {L H : Int64} {S : teS} (hL : L = lo.toInt64) (hH : H = hi.toInt64) (h : rg lo hi x = false) : fX6_in x.toInt64 L H S = some 0 := by
  subst hL hH
  rw [r6_in]
  show some (bI (rg lo hi x)) = _
  rw [h]; rfl
theorem rg_nat {N : Nat} {x : Int32} (hN : N < 2147483648) (h : rg 0 (nI N) x = true) : ∃ j, j ≤ N ∧ x = nI j := by
  unfold rg at h
  rw [Bool.and_eq_true] at h
  obtain ⟨j, hj, rfl⟩ := nI_of (of_decide_eq_true h.1)
  have h2 := of_decide_eq_true h.2
  rw [nn_lt hN (by omega)] at h2
  exact ⟨j, by omega, rfl⟩
theorem r5_lg_t {x : Int32} {S : teS} (h : rg 0 3 x = true) : fX5_requireLanguage x S = some (.inr ()) := by unfold fX5_requireLanguage; rw [r5_rg_t h]; rfl
theorem r5_lg_f {x : Int32} {S : teS} (h : rg 0 3 x = false) : fX5_requireLanguage x S = some (.inl 1) := by unfold fX5_requireLanguage; rw [r5_rg_f h]; rfl
theorem r6_tg_t {x : Int32} {S : teS} (h : rg 0 3 x = true) : fX6_isTongue x S = some 1 := by unfold fX6_isTongue; rw [r6_rg_t (lo := 0) (hi := 3) (by decide) (by decide) h, nn_bd1]; rfl
theorem r6_tg_f {x : Int32} {S : teS} (h : rg 0 3 x = false) : fX6_isTongue x S = some 0 := by unfold fX6_isTongue; rw [r6_rg_f (lo := 0) (hi := 3) (by decide) (by decide) h, nn_bd1]; rfl
theorem r6_ab_t {x : Int32} {S : teS} (h : rg 0 511 x = true) : fX6_isAbsent x S = some 1 := by unfold fX6_isAbsent; rw [r6_rg_t (lo := 0) (hi := 511) (by decide) (by decide) h, nn_bd1]; rfl
theorem r6_ab_f {x : Int32} {S : teS} (h : rg 0 511 x = false) : fX6_isAbsent x S = some 0 := by unfold fX6_isAbsent; rw [r6_rg_f (lo := 0) (hi := 511) (by decide) (by decide) h, nn_bd1]; rfl
theorem i1_0 : ¬ (1 : Int32) = 0 := by decide
section S43
variable {K n : Nat} {S : teS}
theorem sR_p (S : teS) (x : Int32) {a : Nat} (h : a ≠ 369) : sRef S x a = S a := tst_n _ _ h
theorem st_member (h : REL K n S) (hK : 9 * (K + 1) < 100000) (x1 x2 : Int32) (O : Int64) : STEP K (fL_member x1 x2 S O) (fX6_member x1 x2) := by
  have hW := h.1
  have hE := h.2.1
  have h9 := hW.1
  have e0 : S 0 0 = nI n := hE.1.trans hW.2.2.1
  have e6 : S 372 0 = nI n := hW.2.2.1
  cases hm : isM n x1
  · refine st_ref h hK (code := 1) (O := O) (by decide) ?_ ?_
    · unfold fL_member fX5_member
      rw [r5_mem_f e0 hm]; rfl
    · unfold fX6_member
      rw [r6_mem_f h9 e6 hm, nn_bd1, if_pos rfl]
      unfold fX6_member_33
      rw [r6_ref1, nn_bd2, if_neg i1_0]
  · obtain ⟨a, ha, rfl⟩ := isM_t h9 hm
    cases hr : rg 0 10 x2
    · refine st_ref h hK (code := 2) (O := O) (by decide) ?_ ?_
      · unfold fL_member fX5_member
        rw [r5_mem_t e0 hm, nn_bx1, r5_rg_f hr]; rfl
      · unfold fX6_member
        rw [r6_mem_t h9 e6 hm, nn_bd1, if_neg i1_0, r6_rg_f (lo := 0) (hi := 10) (by decide) (by decide) hr, nn_bd1, if_pos rfl]
        unfold fX6_member_33
        rw [r6_ref2, nn_bd2, if_neg i1_0]
    · obtain ⟨o, ho, rfl⟩ := rg_nat (N := 10) (by decide) hr
      refine st_read h hK (v := sNum n (S 372) a o) ?_ ?_
      · unfold fL_member fX5_member
        rw [r5_mem_t e0 hm, nn_bx1, r5_rg_t hr, nn_bx1, r1_num hW hE ha ho, nn_bd1]; rfl
      · unfold fX6_member
        rw [r6_mem_t h9 e6 hm, nn_bd1, if_neg i1_0, r6_rg_t (lo := 0) (hi := 10) (by decide) (by decide) hr, nn_bd1, if_neg i1_0]
        unfold fX6_member_33
        rw [r6_ref0, nn_bd2, if_pos rfl, r6_num rfl hW (sR_p _ _ (by decide)) ha ho, nn_bd1]
theorem st_want (h : REL K n S) (hK : 9 * (K + 1) < 100000) (x1 x2 : Int32) (O : Int64) : STEP K (fL_want x1 x2 S O) (fX6_want x1 x2) := by
  have hW := h.1
  have hE := h.2.1
  have h9 := hW.1
  have e0 : S 0 0 = nI n := hE.1.trans hW.2.2.1
  have e6 : S 372 0 = nI n := hW.2.2.1
  cases hm : isM n x1
  · refine st_ref h hK (code := 1) (O := O) (by decide) ?_ ?_
    · unfold fL_want fX5_want
      rw [r5_mem_f e0 hm]; rfl
    · unfold fX6_want
      rw [r6_mem_f h9 e6 hm, nn_bd1, if_pos rfl]
      unfold fX6_want_28
      rw [r6_ref1, nn_bd2, if_neg i1_0]
  · obtain ⟨a, ha, rfl⟩ := isM_t h9 hm
    cases hr : rg 0 3 x2
    · refine st_ref h hK (code := 2) (O := O) (by decide) ?_ ?_
      · unfold fL_want fX5_want
        rw [r5_mem_t e0 hm, nn_bx1, r5_lg_f hr]; rfl
      · unfold fX6_want
        rw [r6_mem_t h9 e6 hm, nn_bd1, if_neg i1_0, r6_tg_f hr, nn_bd1, if_pos rfl]
        unfold fX6_want_28
        rw [r6_ref2, nn_bd2, if_neg i1_0]
    · obtain ⟨l, hl, rfl⟩ := rg_nat (N := 3) (by decide) hr
      obtain ⟨S1, g1, g2, g3, g4⟩ := act1 h hK
      obtain ⟨p, h1, h2⟩ := r1_want (k := 0) (S := S1) (l := l) hW (by rw [g2]; exact hE) ha (by omega)
      obtain ⟨S4, k1, k2, k3⟩ := g4 p
      have hW2 := wf_want1 (a := a) (l := l) hW (by omega)
      obtain ⟨r1, r2⟩ := k3 n _ (wf_le (wf_mend hW2 ha) (by omega) hK) h2
      refine ⟨0, (S 372 (2 + 10 * a + 4)).toInt64, tst S1 0 p, S 372 (2 + 10 * a + 4), _, ?_, ?_, r2, fun _ => rfl, n, r1⟩
      · unfold fL_want fX5_want
        rw [r5_mem_t e0 hm, nn_bx1, r5_lg_t hr, nn_bx1, g1, nn_bd1, nn_in (by omega) (by decide), h1, nn_bd1, g2, nn_tn (by omega), (hE.2.2 a ha).1 4 (by decide)]; rfl
      · have e6' : tst S1 0 p 372 0 = nI n := by rw [tst_n _ _ (by decide), g3]; exact e6
        unfold fX6_want
        rw [r6_mem_t h9 e6' hm, nn_bd1, if_neg i1_0, r6_tg_t hr, nn_bd1, if_neg i1_0]
        unfold fX6_want_28
        rw [r6_ref0, nn_bd2, if_pos rfl, k1, nn_bd1]
        simp (disch := omega) only [r6_at, nn_bd1, li4, li5, nn_add, nn_in, nn_tn, nn_lt1, teu_t, tst_s, tst_t, k2]
        rw [r6_mend rfl hW2 (tst_s _ _ _) ha, nn_bd1, tst_t]
        try rfl
theorem st_test (h : REL K n S) (hK : 9 * (K + 1) < 100000) (x1 x2 x3 : Int32) (O : Int64) : STEP K (fL_test x1 x2 x3 S O) (fX6_test x1 x2 x3) := by
  have hW := h.1
  have hE := h.2.1
  have h9 := hW.1
  have e0 : S 0 0 = nI n := hE.1.trans hW.2.2.1
  have e6 : S 372 0 = nI n := hW.2.2.1
  cases hm : isM n x1
  · refine st_ref h hK (code := 1) (O := O) (by decide) ?_ ?_
    · unfold fL_test fX5_test
      rw [r5_mem_f e0 hm]; rfl
    · unfold fX6_test
      rw [r6_mem_f h9 e6 hm, nn_bd1, if_pos rfl]
      unfold fX6_test_40
      rw [r6_ref1, nn_bd2, if_neg i1_0]
  · obtain ⟨a, ha, rfl⟩ := isM_t h9 hm
    cases hr : rg 0 3 x2
    · refine st_ref h hK (code := 2) (O := O) (by decide) ?_ ?_
      · unfold fL_test fX5_test
        rw [r5_mem_t e0 hm, nn_bx1, r5_lg_f hr]; rfl
      · unfold fX6_test
        rw [r6_mem_t h9 e6 hm, nn_bd1, if_neg i1_0, r6_tg_f hr, nn_bd1, if_pos rfl]
        unfold fX6_test_40
        rw [r6_ref2, nn_bd2, if_neg i1_0]
    · obtain ⟨l, hl, rfl⟩ := rg_nat (N := 3) (by decide) hr
      cases hp : rg 0 99 x3
      · refine st_ref h hK (code := 2) (O := O) (by decide) ?_ ?_
        · unfold fL_test fX5_test
          rw [r5_mem_t e0 hm, nn_bx1, r5_lg_t hr, nn_bx1, r5_rg_f hp]; rfl
        · unfold fX6_test
          rw [r6_mem_t h9 e6 hm, nn_bd1, if_neg i1_0, r6_tg_t hr, nn_bd1, if_neg i1_0, r6_rg_f (lo := 0) (hi := 99) (by decide) (by decide) hp, nn_bd1, if_pos rfl]
          unfold fX6_test_40
          rw [r6_ref2, nn_bd2, if_neg i1_0]
      · obtain ⟨x, hx, rfl⟩ := rg_nat (N := 99) (by decide) hp
        obtain ⟨S1, g1, g2, g3, g4⟩ := act1 h hK
        obtain ⟨p, h1, h2⟩ := r1_test (k := 0) (S := S1) (l := l) (x := x) hW (by rw [g2]; exact hE) ha (by omega) (by omega)
        obtain ⟨S4, k1, k2, k3⟩ := g4 p
        obtain ⟨r1, r2⟩ := k3 n _ (wf_le (wf_mend (wf_test1 (a := a) (l := l) (x := x) hW (by omega) (by omega)) ha) (by omega) hK) h2
        refine ⟨0, (S 372 (2 + 10 * a + l)).toInt64, tst S1 0 p, S 372 (2 + 10 * a + l), _, ?_, ?_, r2, fun _ => rfl, n, r1⟩
        · unfold fL_test fX5_test
          rw [r5_mem_t e0 hm, nn_bx1, r5_lg_t hr, nn_bx1, r5_rg_t hp, nn_bx1, g1, nn_bd1, nn_in (by omega) (by decide), nn_in (by omega) (by decide), h1, nn_bd1, g2, nn_tn (by omega), nn_tn (by omega), (hE.2.2 a ha).1 l (by omega)]; rfl
        · have e6' : tst S1 0 p 372 0 = nI n := by rw [tst_n _ _ (by decide), g3]; exact e6
          unfold fX6_test
          rw [r6_mem_t h9 e6' hm, nn_bd1, if_neg i1_0, r6_tg_t hr, nn_bd1, if_neg i1_0, r6_rg_t (lo := 0) (hi := 99) (by decide) (by decide) hp, nn_bd1, if_neg i1_0]
          unfold fX6_test_40
          rw [r6_ref0, nn_bd2, if_pos rfl, k1, nn_bd1, r6_test rfl hW k2 ha (by omega) (by omega), nn_bd2]
          rfl
theorem st_match (h : REL K n S) (hK : 9 * (K + 1) < 100000) : ∃ v S1 S2 n2, fX5_match S = some (v, S1) ∧ fX6_match S1 = some (v, S2) ∧ REL (K + 1) n2 S2 := by
  have hW := h.1
  have hE := h.2.1
  obtain ⟨S1, g1, g2, g3, g4⟩ := act1 h hK
  obtain ⟨p, h1, h2⟩ := r1_match (k := 0) (S := S1) hW (by rw [g2]; exact hE)
  obtain ⟨S4, k1, k2, k3⟩ := g4 p
  obtain ⟨r1, -⟩ := k3 n _ (wf_le (wf_mt 4 _ hW) (by omega) hK) h2
  refine ⟨_, _, _, n, by unfold fX5_match; rw [g1, nn_bd1, h1, nn_bd2], ?_, r1⟩
  unfold fX6_match
  rw [nn_lt1, teu_t]
  show (bd1 (fX6_note (sRef (tst S1 0 p) 0)) fun S2 => bd2 (fX6_matchOn 372 S2) fun r_3 S3 => some (r_3, S3)) = _
  rw [k1, nn_bd1, r6_match rfl hW k2, nn_bd2]
theorem st_settle (h : REL K n S) (hK : 9 * (K + 1) < 100000) (x1 : Int32) (O : Int64) : STEP K (fL_settle x1 S O) (fX6_settle x1) := by
  have hW := h.1
  have hE := h.2.1
  cases hr : rg 1 50 x1
  · refine st_ref h hK (code := 1) (O := O) (by decide) ?_ ?_
    · unfold fL_settle fX5_settle
      rw [r5_rg_f hr]; rfl
    · unfold fX6_settle
      rw [r6_rg_f (lo := 1) (hi := 50) (by decide) (by decide) hr, nn_bd1, if_pos rfl]
      unfold fX6_settle_18
      rw [r6_ref1, nn_bd2, if_neg i1_0]
  · obtain ⟨X, hX, rfl⟩ : ∃ X, X ≤ 50 ∧ x1 = nI X := by
      refine rg_nat (N := 50) (by decide) ?_
      unfold rg at hr ⊢
      rw [Bool.and_eq_true] at hr ⊢
      refine ⟨?_, hr.2⟩
      have h1 := of_decide_eq_true hr.1
      refine decide_eq_true (fun z => h1 (Int32.lt_trans z (by decide)))
    obtain ⟨S1, g1, g2, g3, g4⟩ := act1 h hK
    obtain ⟨p, h1, h2⟩ := r1_settle (k := 0) (S := S1) hX hW (by rw [g2]; exact hE)
    obtain ⟨S4, k1, k2, k3⟩ := g4 p
    obtain ⟨r1, r2⟩ := k3 n _ (wf_le (wf_st X _ hW) (by omega) hK) h2
    refine ⟨0, _, tst S1 0 p, nI (st n X (S 372)).1, _, ?_, ?_, r2, fun _ => rfl, n, r1⟩
    · unfold fL_settle fX5_settle
      rw [r5_rg_t hr, nn_bx1, g1, nn_bd1, h1, nn_bd2]; rfl
    · unfold fX6_settle
      rw [r6_rg_t (lo := 1) (hi := 50) (by decide) (by decide) hr, nn_bd1, if_neg i1_0]
      unfold fX6_settle_18
      rw [r6_ref0, nn_bd2, if_pos rfl, k1, nn_bd1, r6_settle hX rfl hW k2, nn_bd2]
theorem st_week (h : REL K n S) (hK : 9 * (K + 1) < 100000) (x1 : Int32) (O : Int64) : STEP K (fL_week x1 S O) (fX6_week x1) := by
  have hW := h.1
  have hE := h.2.1
  cases hr : rg 0 511 x1
  · refine st_ref h hK (code := 1) (O := O) (by decide) ?_ ?_
    · unfold fL_week fX5_week
      rw [r5_rg_f hr]; rfl
    · unfold fX6_week
      rw [r6_ab_f hr, nn_bd1, if_pos rfl]
      unfold fX6_week_13
      rw [r6_ref1, nn_bd2, if_neg i1_0]
  · obtain ⟨S1, g1, g2, g3, g4⟩ := act1 h hK
    obtain ⟨p, h1, h2⟩ := r1_week (k := 0) (S := S1) hW (by rw [g2]; exact hE) (by omega) x1
    have hW2 : WF n (9 * (K + 1)) (sWeek n x1 (S 372)) := wf_week hW (by omega) x1
    obtain ⟨S4, k1, k2, k3⟩ := g4 p
    obtain ⟨r1, r2⟩ := k3 n _ hW2 h2
    obtain ⟨y, y1, y2⟩ := c_prs (k := 0) (r := 372) (S := tst S1 0 p) (S2 := tst S4 372 (sWeek n x1 (S 372))) rfl hW2 (by rw [tst_s]; exact h2) (tst_s _ _ _)
    refine ⟨0, _, tst S1 0 p, y, _, ?_, ?_, r2, fun _ => rfl, n, r1⟩
    · unfold fL_week fX5_week
      rw [r5_rg_t hr, nn_bx1, g1, nn_bd1, h1, nn_bd1, y1, nn_bd1]; rfl
    · unfold fX6_week
      rw [r6_ab_t hr, nn_bd1, if_neg i1_0]
      unfold fX6_week_13
      rw [r6_ref0, nn_bd2, if_pos rfl, k1, nn_bd1, r6_week rfl hW k2 (by omega) x1, nn_bd1, y2, nn_bd1]
end S43
