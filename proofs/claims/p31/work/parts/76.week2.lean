/-! A WEEK keeps what is kept; the calls week, join, leave -/
theorem q_lead : ∀ y x : Fin 10, ¬ (nI y.val - nI x.val < 2) → ∃ l : Fin 10, 2 ≤ l.val ∧ nI y.val - nI x.val = nI l.val ∧ y.val = x.val + l.val := by decide +kernel
section S76
variable {n M : Nat} {v : tePg}
/-- who fits is ahead by two at least -/
theorem fit_lead (hW : WF n M v) {a d : Nat} (ha : a < n) (hd : d < n) (h : sFit v a d = true) : ∃ l x, 2 ≤ l ∧ x + l ≤ 9 ∧ sL v a d = nI l ∧ v (2 + 10 * a + pw v a) = nI x := by
  unfold sFit at h
  simp only [Bool.and_eq_true, decide_eq_true_eq] at h
  have hp := pw_lt hW ha
  obtain ⟨y, hy, ey⟩ := (hW.2.2.2 d hd).1 _ hp
  obtain ⟨x, hx, ex⟩ := (hW.2.2.2 a ha).1 _ hp
  have h1 := h.1
  unfold sL at h1 ⊢
  rw [ey, ex] at h1 ⊢
  obtain ⟨l, k1, k2, k3⟩ := q_lead ⟨y, by omega⟩ ⟨x, by omega⟩ h1
  have k3 : y = x + l.val := k3
  exact ⟨l.val, x, k1, by omega, k2, rfl⟩
theorem lw_pw {a : Nat} (hW : WF n M v) (ha : a < n) : lw (row v a) = pw v a := by
  obtain ⟨w, hw, e⟩ := (hW.2.2.2 a ha).2.1
  have e2 : row v a 4 = nI w := e
  rw [lw_w hw e2]
  unfold pw
  rw [e, nn_tn (by omega)]
/-- both present: what a meeting brings -/
theorem meet_row (hW : WF n M v) {a d : Nat} (ha : a < n) (hd : d < n) (h : sFit v a d = true) {g : Nat} (hg : g ≤ 19) (eg : v (2 + 10 * a + 5) = nI g) : ∃ l x, 2 ≤ l ∧ x + l ≤ 9 ∧ sL v a d = nI l ∧ v (2 + 10 * a + pw v a) = nI x ∧ (fK (cM (4 + sL v a d)) (row v a) 5 = if g + (4 + l) < 20 then nI (g + (4 + l)) else nI (g + (4 + l) - 20)) ∧ (fK (cM (4 + sL v a d)) (row v a) (pw v a) = if g + (4 + l) < 20 then nI x else nI (x + 1)) ∧ (∀ o, o < 4 → o ≠ pw v a → fK (cM (4 + sL v a d)) (row v a) o = v (2 + 10 * a + o)) ∧ fK (cM (4 + sL v a d)) (row v a) 4 = v (2 + 10 * a + 4) ∧ fK (cM (4 + sL v a d)) (row v a) 6 = cr (v (2 + 10 * a + 6)) 1 ∧ fK (cM (4 + sL v a d)) (row v a) 7 = v (2 + 10 * a + 7) := by
  obtain ⟨l, x, h1, h2, h3, h4⟩ := fit_lead hW ha hd h
  have hp := pw_lt hW ha
  have hq : cM (4 + sL v a d) = nI (4 + l) := by
    rw [h3, li4, nn_add]
    unfold cM
    rw [li1, if_pos (by rw [nn_le (by omega) (by omega)]; omega)]
  refine ⟨l, x, h1, h2, h3, h4, ?_⟩
  rw [hq]
  have hlw : lw (fC 1 (f0 (row v a))) = pw v a := by
    have e1 : lw (fC 1 (f0 (row v a))) = lw (row v a) := by
      unfold lw fC f0
      rw [tup_n _ _ (by decide), tup_n _ _ (by decide)]
    rw [e1, lw_pw hW ha]
  have e5 : fC 1 (f0 (row v a)) 5 = nI g := by
    unfold fC f0
    rw [tup_n _ _ (by decide), tup_n _ _ (by decide)]
    exact eg
  have ew : fC 1 (f0 (row v a)) (pw v a) = nI x := by
    unfold fC f0
    rw [tup_n _ _ (by omega), tup_n _ _ (by omega)]
    exact h4
  have eLL : fLL (nI (4 + l)) (fC 1 (f0 (row v a))) = if g + (4 + l) < 20 then nI x else nI (x + 1) := by
    unfold fLL
    rw [hlw, e5, ew, nn_add, show (20 : Int32) = nI 20 from rfl, lt_if (by omega) (by decide), li1, nn_add]
  have eLP : fLP (nI (4 + l)) (fC 1 (f0 (row v a))) = if g + (4 + l) < 20 then nI (g + (4 + l)) else nI (g + (4 + l) - 20) := by
    unfold fLP
    rw [e5, nn_add, show (20 : Int32) = nI 20 from rfl, lt_if (by omega) (by decide)]
    by_cases hc : g + (4 + l) < 20
    · rw [if_pos hc, if_pos hc]
    · rw [if_neg hc, if_neg hc, nn_sub (by omega)]
  have hL9 : fLL (nI (4 + l)) (fC 1 (f0 (row v a))) < 9 ∧ fLL (nI (4 + l)) (fC 1 (f0 (row v a))) ≤ 9 := by
    rw [eLL, li9]
    split
    · rw [nn_lt (by omega) (by decide), nn_le (by omega) (by decide)]; omega
    · rw [nn_lt (by omega) (by decide), nn_le (by omega) (by decide)]; omega
  unfold fK fL
  rw [hlw, if_pos hL9.1, if_pos hL9.2]
  refine ⟨by rw [tup_n _ _ (by omega), tup_s, eLP], by rw [tup_s, eLL], fun o ho hne => ?_, ?_, ?_, ?_⟩
  · rw [tup_n _ _ hne, tup_n _ _ (by omega)]
    unfold fC f0
    rw [tup_n _ _ (by omega), tup_n _ _ (by omega)]; rfl
  · rw [tup_n _ _ (by omega), tup_n _ _ (by omega)]
    unfold fC f0
    rw [tup_n _ _ (by omega), tup_n _ _ (by omega)]; rfl
  · rw [tup_n _ _ (by omega), tup_n _ _ (by omega)]
    unfold fC f0
    rw [tup_s, tup_n _ _ (by omega)]; rfl
  · rw [tup_n _ _ (by omega), tup_n _ _ (by omega)]
    unfold fC f0
    rw [tup_n _ _ (by omega), tup_n _ _ (by omega)]; rfl
/-- one of them absent -/
theorem miss_row (a : Nat) (y : Bool) : (∀ o, o < 6 → fM y (row v a) o = v (2 + 10 * a + o)) ∧ fM y (row v a) 6 = cr (v (2 + 10 * a + 6)) (if y = true then -3 else 2) ∧ fM y (row v a) 7 = v (2 + 10 * a + 7) + bI y ∧ fM y (row v a) 9 = v (2 + 10 * a + 9) + 1 := by
  unfold fM fC
  refine ⟨fun o ho => ?_, ?_, ?_, ?_⟩
  · rw [tup_n _ _ (by omega), tup_n _ _ (by omega), tup_n _ _ (by omega)]; rfl
  · rw [tup_s, tup_n _ _ (by omega), tup_n _ _ (by omega)]; rfl
  · rw [tup_n _ _ (by omega), tup_n _ _ (by omega), tup_s]; rfl
  · rw [tup_n _ _ (by omega), tup_s]; rfl
theorem IV_week (hW : WF n M v) (hM : M + 9 < 100000) (hI : IV n v) (x : Int32) : IV n (sWeek n x v) := by
  have h9 := hW.1
  have hU : WF n (M + n) (mts n x n 0 v) := wf_mts x n 0 M v hW (by omega) (by omega)
  obtain ⟨-, -, hm⟩ := mts_row hW x
  obtain ⟨-, -, hw⟩ := week_row hW (by omega) x
  have hp : ∀ c d, c < n → d < n → sWeek n x v (2 + 10 * c + 8) = nI d → sOk (mts n x n 0 v) c = true ∧ v (2 + 10 * c + 8) = nI d ∧ sWeek n x v (2 + 10 * c + 9) = wRow x v c 9 := fun c d hc hd h => by
    cases ho : sOk (mts n x n 0 v) c
    · rw [((hw c hc).2.2 ho).1] at h
      exact (N_ne (by omega) rfl h).elim
    · obtain ⟨k1, k2⟩ := (hw c hc).2.1 ho
      exact ⟨rfl, by rw [← k1]; exact h, k2⟩
  have hok : ∀ c d, c < n → d < n → v (2 + 10 * c + 8) = nI d → sOk (mts n x n 0 v) c = true → sFit (mts n x n 0 v) c d = true ∧ wRow x v c 9 < 3 := fun c d hc hd h ho => by
    have h8 : mts n x n 0 v (2 + 10 * c + 8) = nI d := by rw [hm c hc 8 (by decide), wRow_8]; exact h
    unfold sOk at ho
    rw [sFree_f h8 (by omega), pp_b h8 (by omega), Bool.false_or, Bool.and_eq_true, hm c hc 9 (by decide)] at ho
    exact ⟨ho.1, of_decide_eq_true ho.2⟩
  refine ⟨fun c hc => ?_, fun c d hc hd h => ?_, fun c d hc hd h => ?_⟩
  · rw [(hw c hc).1 5 (by decide)]
    obtain ⟨g, hg, eg⟩ := hI.1 c hc
    rcases wf_par hW hc with ⟨k, -⟩ | ⟨d, hd, -, k, -, -⟩
    · rw [wRow_f (sFree_t k)]
      exact ⟨g, hg, eg⟩
    · rw [wRow_p k (by omega)]
      split
      · rw [(miss_row c _).1 5 (by decide)]
        exact ⟨g, hg, eg⟩
      · obtain ⟨l, y, k1, k2, k3, k4, k5, -⟩ := meet_row hW hc hd (hI.2.1 c d hc hd k) hg eg
        rw [k5]
        split
        · exact ⟨_, by omega, rfl⟩
        · exact ⟨_, by omega, rfl⟩
  · obtain ⟨k1, k2, -⟩ := hp c d hc hd h
    rw [sFit_cong (u := sWeek n x v) (v := mts n x n 0 v) hU hc hd (fun o ho => by rw [(hw c hc).1 o (by omega), hm c hc o (by omega)]) (fun o ho => by rw [(hw d hd).1 o (by omega), hm d hd o (by omega)])]
    exact (hok c d hc hd k2 k1).1
  · obtain ⟨k1, k2, k3⟩ := hp c d hc hd h
    rw [k3]
    have h3 := (hok c d hc hd k2 k1).2
    obtain ⟨r, hr, er⟩ := hI.2.2 c d hc hd k2
    rw [wRow_p k2 (by omega)] at h3 ⊢
    split
    · rename_i hy
      rw [if_pos hy, (miss_row c _).2.2.2, er, li1, nn_add, li3, nn_lt (by omega) (by decide)] at h3
      exact ⟨r + 1, h3, by rw [(miss_row c _).2.2.2, er, li1, nn_add]⟩
    · exact ⟨0, by decide, (fK_8 _ _).2⟩
end S76
def A_tryWeek (z : aS) (x : Int32) : Option (Int32 × aS) := if rg 0 511 x = true then (if aM z + 9 ≤ 4000 then some (nPrs (aN z) (sWeek (aN z) x (aV z)), aAct z (aM z + 9, (aN z, sWeek (aN z) x (aV z)))) else none) else some (-99002, z)
section S76b
variable {S : teS} {z z1 : aS} {r : Int32}
theorem am_tryWeek (h : AB S z) {x : Int32} (hr : A_tryWeek z x = some (r, z1)) : ∃ S1, fL_tryWeek x S = some (r, S1) ∧ AB S1 z1 := by
  have hW := AB_W h
  have hE := AB_E h
  unfold A_tryWeek at hr
  unfold fL_tryWeek fX5_week
  cases h1 : rg 0 511 x
  · rw [h1, ifF] at hr
    cases hr
    rw [r5_rg_f h1]
    exact ⟨S, rfl, h⟩
  rw [h1, ifT] at hr
  by_cases hM : aM z + 9 ≤ 4000
  · rw [if_pos hM] at hr
    cases hr
    obtain ⟨S1, g1, g2, g3⟩ := AB_act h
    obtain ⟨p, k1, k2⟩ := r1_week (k := 0) (S := S1) hW (by rw [g2]; exact hE) (by omega) x
    have hW2 := wf_week hW (by omega) x
    refine ⟨tst S1 0 p, ?_, am_act h g3 hW2 hM (IV_week hW (by omega) (AB_I h) x) k2⟩
    have hc : fX1_countPairs 0 (tst S1 0 p) = some (nPrs (aN z) (sWeek (aN z) x (aV z))) := by
      have h9 := hW2.1
      unfold fX1_countPairs
      rw [li0, c1_prs1 (S := tst S1 0 p) hW2 (by rw [tst_s]; exact k2) (aN z) 0 2000 _ (by omega) (by omega)]; rfl
    rw [r5_rg_t h1, nn_bx1, g1, nn_bd1, k1, nn_bd1, hc, nn_bd1]; rfl
  · rw [if_neg hM] at hr
    cases hr
theorem am_tryJoin (h : AB S z) {w L x : Int32} (hr : A_tryJoin z w L x = some (r, z1)) : ∃ S1, fL_tryJoin w L x S = some (r, S1) ∧ AB S1 z1 := by
  have hW := AB_W h
  have hE := AB_E h
  have h9 := hW.1
  unfold A_tryJoin at hr
  unfold fL_tryJoin fX5_join
  cases h1 : rg 0 3 w
  · rw [h1, ifF] at hr
    cases hr
    rw [r5_lg_f h1]
    exact ⟨S, rfl, h⟩
  rw [h1, ifT] at hr
  cases h2 : rg 0 9999 L
  · rw [h2, ifF] at hr
    cases hr
    rw [r5_lg_t h1, nn_bx1, r5_rg_f h2]
    exact ⟨S, rfl, h⟩
  rw [h2, ifT] at hr
  cases h3 : rg (-99) 99 x
  · rw [h3, ifF] at hr
    cases hr
    rw [r5_lg_t h1, nn_bx1, r5_rg_t h2, nn_bx1, r5_rg_f h3]
    exact ⟨S, rfl, h⟩
  rw [h3, ifT] at hr
  rw [r5_lg_t h1, nn_bx1, r5_rg_t h2, nn_bx1, r5_rg_t h3, nn_bx1, AB_e0 h, li9, lt_if (by omega) (by decide)]
  by_cases hn : aN z < 9
  · rw [if_pos hn] at hr ⊢
    obtain ⟨w', hw, rfl⟩ := rg_nat (N := 3) (by decide) h1
    obtain ⟨L', hL, rfl⟩ := rg_nat (N := 9999) (by decide) h2
    unfold sJoinL at hr
    rw [nn_tn (by omega), nn_tn (by omega)] at hr
    cases hr
    obtain ⟨S1, g1, g2, g3⟩ := AB_act h
    have hE1 : PE (aN z) (S1 0) (aV z) := by rw [g2]; exact hE
    have k1 := r1_join (k := 0) (S := S1) (w := w') (L := L') (x := x) hW hE1 hn hL
    refine ⟨tst S1 0 (sJoin (S1 0) (aN z) w' L' x), ?_, am_act h g3 (wf_join hW hn (by omega) (rg_cr h3)) (AB_M h) (IV_join hW (AB_I h) hn) (PE_join hE1)⟩
    rw [g1, nn_bd1, k1, nn_bd1, tst_s]
    have e : sJoin (S1 0) (aN z) w' L' x 0 = nI (aN z + 1) := tup_s _ _ _
    rw [e, li1, nn_sub (by omega)]; rfl
  · rw [if_neg hn] at hr ⊢
    cases hr
    exact ⟨S, rfl, h⟩
theorem am_tryLeave (h : AB S z) {x : Int32} (hr : A_tryLeave z x = some (r, z1)) : ∃ S1, fL_tryLeave x S = some (r, S1) ∧ AB S1 z1 := by
  have hW := AB_W h
  have hE := AB_E h
  have h9 := hW.1
  unfold A_tryLeave at hr
  unfold fL_tryLeave fX5_leave
  cases h1 : isM (aN z) x
  · rw [h1, ifF] at hr
    cases hr
    rw [r5_mem_f (AB_e0 h) h1]
    exact ⟨S, rfl, h⟩
  rw [h1, ifT] at hr
  obtain ⟨a, ha, rfl⟩ := isM_t h9 h1
  rw [nn_tn (by omega)] at hr
  cases hr
  obtain ⟨S1, g1, g2, g3⟩ := AB_act h
  obtain ⟨p, y, k1, k2, k3⟩ := r1_rm (S := S1) hW (by rw [g2]; exact hE) ha
  have hlv := LV_0b (lv_leave hW ha)
  have hW1 := wf_mp hW ha
  refine ⟨tst S1 0 p, ?_, am_act h g3 (wf_lv hW1 ha mp_8a hlv) (AB_M h) (IV_lv hW1 (IV_mp hW ha (AB_I h)) ha mp_8a hlv) (PE_lv h9 k2 ha (LV_0 _ k3) hlv)⟩
  rw [r5_mem_t (AB_e0 h) h1, nn_bx1, g1, nn_bd1, nn_in (by omega) (by decide), k1, nn_bd1, g2, nn_tn (by omega), (hE.2.2 a ha).1 6 (by decide)]; rfl
end S76b
