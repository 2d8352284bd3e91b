/-! BOTH SIDES: what holds between two calls; a call that is remembered -/
def SL (M : Nat) (S : teS) : Prop := ∀ q, q < 2 → S 366 q = S 376 q ∧ (S 376 q = 0 ∨ S 376 q = 1) ∧ (S 376 q = 1 → HP M (S (16 + q)) (slc (S 375) (92 * q)))
def TX (S : teS) : Prop := ∃ t, t ≤ 90 ∧ S 361 0 = nI t ∧ S 369 1 = nI t ∧ ∀ i, i < t → ∃ c, c ≤ 255 ∧ S 362 i = nI c ∧ S 370 i = nI c
def REL (K n : Nat) (S : teS) : Prop := WF n (9 * K) (S 372) ∧ PE n (S 0) (S 372) ∧ HI (9 * K) S ∧ SL (9 * K) S ∧ TX S
theorem SL_cong {M N : Nat} {S T : teS} (h : SL M S) (hMN : M ≤ N) (hN : N < 100000) (e1 : T 366 = S 366) (e2 : T 376 = S 376) (e3 : T 375 = S 375) (e4 : ∀ q, q < 2 → T (16 + q) = S (16 + q)) : SL N T := by
  intro q hq
  rw [e1, e2, e3, e4 q hq]
  exact ⟨(h q hq).1, (h q hq).2.1, fun hs => HP_le ((h q hq).2.2 hs) hMN hN⟩
theorem TX_cong {S T : teS} (h : TX S) (e1 : T 361 = S 361) (e2 : T 369 1 = S 369 1) (e3 : T 362 = S 362) (e4 : T 370 = S 370) : TX T := by
  unfold TX
  rw [e1, e2, e3, e4]
  exact h
theorem HI_cong {M N : Nat} {S T : teS} (h : HI M S) (hMN : M ≤ N) (hN : N < 100000) (e1 : T 363 = S 363) (e2 : T 369 3 = S 369 3) (e3 : T 374 = S 374) (e4 : ∀ q, 2 ≤ q → q < 16 → T q = S q) : HI N T := by
  obtain ⟨ol, ct, h1, h2, h3, h4, h5, h6⟩ := h
  refine ⟨ol, ct, h1, h2, by rw [e1]; exact h3, by rw [e1]; exact h4, by rw [e2]; exact h5, fun j hj => ?_⟩
  rw [e3, e4 _ (by omega) (by omega)]
  exact HP_le (h6 j hj) hMN hN
/-- a call that changes nothing that is kept -/
theorem REL_cong {K n : Nat} {S T : teS} (h : REL K n S) (hK : 9 * (K + 1) < 100000) (a0 : T 372 = S 372) (a1 : T 0 = S 0) (a2 : T 363 = S 363) (a3 : T 369 3 = S 369 3) (a4 : T 374 = S 374) (a5 : ∀ q, 2 ≤ q → q < 18 → T q = S q) (a6 : T 366 = S 366) (a7 : T 376 = S 376) (a8 : T 375 = S 375) (a9 : T 361 = S 361) (b1 : T 369 1 = S 369 1) (b2 : T 362 = S 362) (b3 : T 370 = S 370) : REL (K + 1) n T := by
  obtain ⟨h1, h2, h3, h4, h5⟩ := h
  refine ⟨by rw [a0]; exact wf_le h1 (by omega) hK, by rw [a0, a1]; exact h2, HI_cong h3 (by omega) hK a2 a3 a4 (fun q q1 q2 => a5 q q1 (by omega)), SL_cong h4 (by omega) hK a6 a7 a8 (fun q hq => a5 _ (by omega) (by omega)), TX_cong h5 a9 b1 b2 b3⟩
/-- only the refusal is written -/
def sRef (S : teS) (x : Int32) : teS := tst S 369 (tup (S 369) 0 x)
theorem REL_ref {K n : Nat} {S : teS} (h : REL K n S) (hK : 9 * (K + 1) < 100000) (x : Int32) : REL (K + 1) n (sRef S x) := by
  unfold sRef
  exact REL_cong h hK (tst_n _ _ (by decide)) (tst_n _ _ (by decide)) (tst_n _ _ (by decide)) (by rw [tst_s, tup_n _ _ (by decide)]) (tst_n _ _ (by decide)) (fun q _ h2 => tst_n _ _ (by omega)) (tst_n _ _ (by decide)) (tst_n _ _ (by decide)) (tst_n _ _ (by decide)) (tst_n _ _ (by decide)) (by rw [tst_s, tup_n _ _ (by decide)]) (tst_n _ _ (by decide)) (tst_n _ _ (by decide))
theorem r6_ref0 (S : teS) : fX6_refused 0 S = some (0, sRef S 0) := by
  unfold fX6_refused
  rw [nn_lt1, if_pos (by decide), teu_t]
  rfl
theorem r6_ref (S : teS) {c : Nat} (h0 : 0 < c) (hc : c < 10) : fX6_refused (nI c) S = some (1, sRef S (nI c)) := by
  unfold fX6_refused
  rw [nn_lt1, li0, if_neg (by rw [nn_le (by omega) (by omega)]; omega), teu_t]
  rfl
/-- ranges -/
theorem i64_lt (x y : Int32) : (x.toInt64 < y.toInt64) = (x < y) := propext (by rw [Int64.lt_iff_toInt_lt, Int32.lt_iff_toInt_lt, Int32.toInt_toInt64, Int32.toInt_toInt64])
theorem r6_in (x lo hi : Int32) (S : teS) : fX6_in x.toInt64 lo.toInt64 hi.toInt64 S = some (bI (decide (¬ x < lo) && decide (¬ hi < x))) := by
  unfold fX6_in
  by_cases h1 : x < lo
  · have h2 : lg_cmp x.toInt64 lo.toInt64 < 0 := (lg_cmp_lt _ _).mpr (by rw [i64_lt]; exact h1)
    rw [if_pos h2, decide_eq_false (not_not_intro h1)]; rfl
  · have h2 : ¬ lg_cmp x.toInt64 lo.toInt64 < 0 := fun z => h1 (by have := (lg_cmp_lt _ _).mp z; rw [i64_lt] at this; exact this)
    rw [if_neg h2, decide_eq_true h1]
    by_cases h3 : hi < x
    · have h4 : 0 < lg_cmp x.toInt64 hi.toInt64 := (lg_cmp_gt _ _).mpr (by rw [i64_lt]; exact h3)
      rw [if_pos h4, decide_eq_false (not_not_intro h3)]; rfl
    · have h4 : ¬ 0 < lg_cmp x.toInt64 hi.toInt64 := fun z => h3 (by have := (lg_cmp_gt _ _).mp z; rw [i64_lt] at this; exact this)
      rw [if_neg h4, decide_eq_true h3]; rfl
/-- is it a member's number? -/
def isM (n : Nat) (x : Int32) : Bool := decide (¬ x < 0) && decide (¬ nI n ≤ x)
theorem isM_t {n : Nat} {x : Int32} (h9 : n ≤ 9) (h : isM n x = true) : ∃ a, a < n ∧ x = nI a := by
  unfold isM at h
  rw [Bool.and_eq_true] at h
  have h1 := of_decide_eq_true h.1
  have h2 := of_decide_eq_true h.2
  obtain ⟨j, hj, rfl⟩ := nI_of h1
  exact ⟨j, by rw [nn_le (by omega) (by omega)] at h2; omega, rfl⟩
theorem r1_isM {n : Nat} {k : Nat} {S : teS} (e0 : S k 0 = nI n) (x : Int32) : fX1_has k x S = some (bI (isM n x)) := by
  unfold fX1_has isM
  rw [e0]
  by_cases h1 : x < 0
  · rw [if_pos h1, decide_eq_false (not_not_intro h1)]; rfl
  · rw [if_neg h1, decide_eq_true h1]
    by_cases h2 : nI n ≤ x
    · rw [if_pos h2, decide_eq_false (not_not_intro h2)]; rfl
    · rw [if_neg h2, decide_eq_true h2]; rfl
theorem r5_isM {n : Nat} {S : teS} (e0 : S 0 0 = nI n) (x : Int32) : fX5_requireMember x S = if isM n x = true then some (.inr ()) else some (.inl 3) := by
  unfold fX5_requireMember
  rw [r1_isM e0, nn_bd1, bI_if]
  cases isM n x <;> rfl
theorem nle_sub {n : Nat} (h9 : n ≤ 9) (x : Int32) : decide (¬ nI n - 1 < x) = decide (¬ nI n ≤ x) := by
  apply decide_eq_decide.mpr
  rw [Int32.not_lt, Int32.not_le, Int32.le_iff_toInt_le, Int32.lt_iff_toInt_lt]
  have e : (nI n - 1).toInt = (n : Int) - 1 := by
    rcases (show n = 0 ∨ n = 1 ∨ n = 2 ∨ n = 3 ∨ n = 4 ∨ n = 5 ∨ n = 6 ∨ n = 7 ∨ n = 8 ∨ n = 9 by omega) with rfl | rfl | rfl | rfl | rfl | rfl | rfl | rfl | rfl | rfl <;> decide
  rw [e, nI_toInt (by omega)]
  omega
theorem r6_isM {n r : Nat} {S : teS} (hI : teI r = 92) (h9 : n ≤ 9) (e0 : S r 0 = nI n) (x : Int32) : fX6_isMember r x S = some (bI (isM n x)) := by
  have h := r6_in x 0 (nI n - 1) S
  unfold fX6_isMember
  rw [l0, e0, li0, nn_in (by omega) (by omega)]
  rw [show (0 : Int64) = (0 : Int32).toInt64 by decide, h, nn_bd1, bI_n, nn_chk rfl, nle_sub h9]
  rfl
/-- ranges in the class -/
theorem r5_rng (x lo hi : Int32) (S : teS) : fX5_requireRange x lo hi S = if (decide (¬ x < lo) && decide (¬ hi < x)) = true then some (.inr ()) else some (.inl 1) := by
  unfold fX5_requireRange
  by_cases h1 : x < lo
  · rw [if_pos h1, decide_eq_false (not_not_intro h1)]; rfl
  · rw [if_neg h1, decide_eq_true h1]
    by_cases h2 : x ≤ hi
    · rw [if_pos h2, decide_eq_true (show ¬ hi < x from Int32.not_lt.mpr h2)]; rfl
    · rw [if_neg h2, decide_eq_false (not_not_intro (Int32.not_le.mp h2))]; rfl
/-- an action: both sides remember, then act -/
theorem act1 {K n : Nat} {S : teS} (h : REL K n S) (hK : 9 * (K + 1) < 100000) : ∃ S1, fX2_remember 0 S = some S1 ∧ S1 0 = S 0 ∧ S1 372 = S 372 ∧ ∀ p2, ∃ S4, fX6_note (sRef (tst S1 0 p2) 0) = some S4 ∧ S4 372 = S 372 ∧ ∀ n2 v2, WF n2 (9 * (K + 1)) v2 → PE n2 p2 v2 → REL (K + 1) n2 (tst S4 372 v2) ∧ tst S4 372 v2 369 0 = 0 := by
  obtain ⟨hW, hE, ⟨ol, ct, ho, hc, e0, e1, e2, hH⟩, hSL, hTX⟩ := h
  obtain ⟨S1, p, g1, g2, g3, g4, g5⟩ := r2_rem hW hE ho hc e0 e1
  have f : ∀ a, a ≠ 363 → ¬ (2 ≤ a ∧ a < 16) → S1 a = S a := fun a h1 h2 => by rw [g5 a h1, if_neg (by omega)]
  refine ⟨S1, g1, f 0 (by decide) (by decide), f 372 (by decide) (by decide), fun p2 => ?_⟩
  have d3 : sRef (tst S1 0 p2) 0 369 = tup (S 369) 0 0 := by
    unfold sRef
    rw [tst_s, tst_n _ _ (by decide), f 369 (by decide) (by decide)]
  have dn : ∀ a, a ≠ 369 → a ≠ 0 → sRef (tst S1 0 p2) 0 a = S1 a := fun a h1 h2 => by
    unfold sRef
    rw [tst_n _ _ h1, tst_n _ _ h2]
  obtain ⟨S4, k1, k2, k3, k4⟩ := r6_note (S := sRef (tst S1 0 p2) 0) hc (by rw [d3, tup_n _ _ (by decide)]; exact e2)
  refine ⟨S4, k1, by rw [k3 372 (by decide) (by decide), dn 372 (by decide) (by decide), f 372 (by decide) (by decide)], fun n2 v2 hW2 hE2 => ⟨⟨by rw [tst_s]; exact hW2, ?_, ?_, ?_, ?_⟩, ?_⟩⟩
  · have : tst S4 372 v2 0 = p2 := by
      rw [tst_n _ _ (by decide), k3 0 (by decide) (by decide)]
      unfold sRef
      rw [tst_n _ _ (by decide), tst_s]
    rw [this, tst_s]
    exact hE2
  · refine ⟨if ct < 14 then ol else (ol + 1) % 14, if ct < 14 then ct + 1 else 14, by split <;> omega, by split <;> omega, ?_, ?_, ?_, fun j hj => ?_⟩
    · rw [tst_n _ _ (by decide), k3 363 (by decide) (by decide), dn 363 (by decide) (by decide)]; exact g2
    · rw [tst_n _ _ (by decide), k3 363 (by decide) (by decide), dn 363 (by decide) (by decide)]; exact g3
    · rw [tst_n _ _ (by decide), k2, tup_s]
    · have hpg : ∀ x, x < 14 → tst S4 372 v2 (2 + x) = if x = (ol + ct) % 14 then p else S (2 + x) := fun x hx => by
        rw [tst_n _ _ (by omega), k3 _ (by omega) (by omega), dn _ (by omega) (by omega), g5 _ (by omega)]
        by_cases h : x = (ol + ct) % 14
        · rw [if_pos h, if_pos (by omega)]
        · rw [if_neg h, if_neg (by omega)]
      have hD : tst S4 372 v2 374 = S4 374 := tst_n _ _ (by decide)
      have hv : sRef (tst S1 0 p2) 0 372 = S 372 := by rw [dn 372 (by decide) (by decide), f 372 (by decide) (by decide)]
      have hd : sRef (tst S1 0 p2) 0 374 = S 374 := by rw [dn 374 (by decide) (by decide), f 374 (by decide) (by decide)]
      rw [hv, hd] at k4
      rw [hD, hpg _ (by omega)]
      by_cases hct : ct < 14
      · simp only [if_pos hct] at hj k4 ⊢
        by_cases hjc : j = ct
        · rw [if_pos (by rw [hjc])]
          refine HP_cong (u := S 372) (fun i hi => ?_) ⟨n, wf_le hW (by omega) hK, g4⟩
          show S4 374 (92 * j + i) = _
          rw [k4 j i hj hi, if_pos hjc]
        · rw [if_neg (by omega)]
          refine HP_cong (fun i hi => ?_) (HP_le (hH j (by omega)) (by omega) hK)
          show S4 374 (92 * j + i) = S 374 (92 * j + i)
          rw [k4 j i hj hi, if_neg hjc]
      · obtain rfl : ct = 14 := by omega
        simp only [if_neg hct] at hj k4 ⊢
        by_cases hjc : j = 13
        · rw [if_pos (by omega)]
          refine HP_cong (u := S 372) (fun i hi => ?_) ⟨n, wf_le hW (by omega) hK, g4⟩
          show S4 374 (92 * j + i) = _
          rw [k4 j i hj hi, if_pos hjc]
        · rw [if_neg (by omega), show ((ol + 1) % 14 + j) % 14 = (ol + (j + 1)) % 14 by omega]
          refine HP_cong (fun i hi => ?_) (HP_le (hH (j + 1) (by omega)) (by omega) hK)
          show S4 374 (92 * j + i) = S 374 (92 * (j + 1) + i)
          rw [k4 j i hj hi, if_neg hjc]
  · refine SL_cong hSL (by omega) hK ?_ ?_ ?_ (fun q hq => ?_)
    · rw [tst_n _ _ (by decide), k3 _ (by decide) (by decide), dn _ (by decide) (by decide), f _ (by decide) (by decide)]
    · rw [tst_n _ _ (by decide), k3 _ (by decide) (by decide), dn _ (by decide) (by decide), f _ (by decide) (by decide)]
    · rw [tst_n _ _ (by decide), k3 _ (by decide) (by decide), dn _ (by decide) (by decide), f _ (by decide) (by decide)]
    · rw [tst_n _ _ (by omega), k3 _ (by omega) (by omega), dn _ (by omega) (by omega), f _ (by omega) (by omega)]
  · refine TX_cong hTX ?_ ?_ ?_ ?_
    · rw [tst_n _ _ (by decide), k3 _ (by decide) (by decide), dn _ (by decide) (by decide), f _ (by decide) (by decide)]
    · rw [tst_n _ _ (by decide), k2, tup_n _ _ (by decide), d3, tup_n _ _ (by decide)]
    · rw [tst_n _ _ (by decide), k3 _ (by decide) (by decide), dn _ (by decide) (by decide), f _ (by decide) (by decide)]
    · rw [tst_n _ _ (by decide), k3 _ (by decide) (by decide), dn _ (by decide) (by decide), f _ (by decide) (by decide)]
  · rw [tst_n _ _ (by decide), k2, tup_n _ _ (by decide), d3, tup_s]
