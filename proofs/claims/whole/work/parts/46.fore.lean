/-! FORECASTS: the trial pages of both sides -/
theorem tri {K n : Nat} {S : teS} (h : REL K n S) (hK : 9 * (K + 1) < 100000) : ∃ p u0, fX1_copyFrom 1 0 S = some (tst S 1 p) ∧ WF n (9 * K) u0 ∧ PE n p u0 ∧ (∀ i, i < 92 → u0 i = S 372 i) ∧ ∀ p2, fX6_copyPage 372 0 373 0 (sRef (tst S 1 p2) 0) = some (tst (sRef (tst S 1 p2) 0) 373 u0) ∧ ∀ u2, REL (K + 1) n (tst (sRef (tst S 1 p2) 0) 373 u2) ∧ tst (sRef (tst S 1 p2) 0) 373 u2 369 0 = 0 := by
  obtain ⟨p, h1, h2⟩ := r1_copy (k0 := 1) (k1 := 0) (by decide) h.1 h.2.1
  have hv : ∀ i, i < 92 → cpg (S 373) (S 372) 0 0 92 i = S 372 i := fun i hi => by
    unfold cpg
    rw [if_pos ⟨by omega, by omega⟩, Nat.sub_zero, Nat.zero_add]
  refine ⟨p, cpg (S 373) (S 372) 0 0 92, h1, wf_cong hv h.1, PE_cong h.1.1 hv h2, hv, fun p2 => ⟨?_, fun u2 => ⟨?_, ?_⟩⟩⟩
  · have t2 : teI 372 = 92 := rfl
    have t3 : teI 373 = 92 := rfl
    have hcp := r6_copy (r0 := 372) (r2 := 373) (x := 0) (y := 0) (by decide) (by rw [t2]; decide) (by rw [t3]; decide) (by rw [t2]; decide) (by rw [t3]; decide) (sRef (tst S 1 p2) 0)
    rw [sR_p _ _ (show 373 ≠ 369 by decide), sR_p _ _ (show 372 ≠ 369 by decide), tst_n _ _ (show 373 ≠ 1 by decide), tst_n _ _ (show 372 ≠ 1 by decide)] at hcp
    exact hcp
  · have hU : ∀ a, a ≠ 1 → a ≠ 369 → a ≠ 373 → tst (sRef (tst S 1 p2) 0) 373 u2 a = S a := fun a g1 g2 g3 => by rw [tst_n _ _ g3, sR_p _ _ g2, tst_n _ _ g1]
    have h9 : tst (sRef (tst S 1 p2) 0) 373 u2 369 = tup (S 369) 0 0 := by rw [tst_n _ _ (by decide), sR_s, tst_n _ _ (by decide)]
    exact REL_cong h hK (hU _ (by decide) (by decide) (by decide)) (hU _ (by decide) (by decide) (by decide)) (hU _ (by decide) (by decide) (by decide)) (by rw [h9, tup_n _ _ (by decide)]) (hU _ (by decide) (by decide) (by decide)) (fun q q1 q2 => hU _ (by omega) (by omega) (by omega)) (hU _ (by decide) (by decide) (by decide)) (hU _ (by decide) (by decide) (by decide)) (hU _ (by decide) (by decide) (by decide)) (hU _ (by decide) (by decide) (by decide)) (by rw [h9, tup_n _ _ (by decide)]) (hU _ (by decide) (by decide) (by decide)) (hU _ (by decide) (by decide) (by decide))
  · rw [tst_n _ _ (by decide), sR_s, tup_s]
def wks (n : Nat) (x : Int32) : Nat → tePg → tePg
  | 0, v => v
  | m + 1, v => wks n x m (sWeek n x v)
def lvA (n a : Nat) (y : Int32) : Nat → Nat → tePg → Int32
  | 0, _, _ => -9999
  | d + 1, c, v => if v (2 + 10 * a + pw v a) < y then lvA n a y d (c + 1) (sWeek n 0 (mt n 4 v).2) else nI c
def paA (n a : Nat) (x : Int32) : Nat → Nat → tePg → Int32
  | 0, _, _ => -9999
  | d + 1, c, v => if sFree (sWeek n x v) a = true then nI c else paA n a x d (c + 1) (sWeek n x v)
section S46
variable {n : Nat} {a : Nat}
theorem c5_ah {o X : Nat} (ho : o ≤ 10) (hX : X ≤ 60) (x : Int32) (ha : a < n) : ∀ (m c fuel M : Nat) (v : tePg) (S : teS), WF n M v → PE n (S 1) v → M + 9 * m < 100000 → c + m = X → m < fuel → ∃ p, fX5_ahead_42 (nI a) (nI X) x (nI o) fuel S (nI c) = some (.inr (sNum n (wks n x m v) a o, tst S 1 p))
  | 0, c, fuel, M, v, S, hW, hE, hM, hc, hf => by
    obtain ⟨f, rfl⟩ : ∃ f, fuel = f + 1 := ⟨fuel - 1, by omega⟩
    unfold fX5_ahead_42
    rw [if_pos (by rw [nn_le (by omega) (by omega)]; omega), r1_num hW hE ha ho, nn_bd1]
    exact ⟨S 1, by rw [tst_i]; rfl⟩
  | m + 1, c, fuel, M, v, S, hW, hE, hM, hc, hf => by
    obtain ⟨f, rfl⟩ : ∃ f, fuel = f + 1 := ⟨fuel - 1, by omega⟩
    unfold fX5_ahead_42
    obtain ⟨p, h1, h2⟩ := r1_week hW hE (by omega) x
    obtain ⟨p2, h3⟩ := c5_ah ho hX x ha m (c + 1) f (M + 9) (sWeek n x v) (tst S 1 p) (wf_week hW (by omega) x) (by rw [tst_s]; exact h2) (by omega) (by omega) (by omega)
    rw [if_neg (by rw [nn_le (by omega) (by omega)]; omega), h1, nn_bd1, li1, nn_add, h3, tst_t]
    exact ⟨p2, rfl⟩
theorem c6_ah {o X : Nat} (ho : o ≤ 10) (hX : X ≤ 60) (x : Int32) (ha : a < n) : ∀ (m c fuel M : Nat) (v : tePg) (S : teS), WF n M v → S 373 = v → M + 9 * m < 100000 → c + m = X → m < fuel → fX6_ahead_77 (nI a) (nI X) x (nI o) fuel S (nI c) = some (sNum n (wks n x m v) a o, tst S 373 (wks n x m v))
  | 0, c, fuel, M, v, S, hW, hv, hM, hc, hf => by
    obtain ⟨f, rfl⟩ : ∃ f, fuel = f + 1 := ⟨fuel - 1, by omega⟩
    unfold fX6_ahead_77
    rw [if_pos (by rw [nn_le (by omega) (by omega)]; omega), r6_num rfl hW hv ha ho, nn_bd1, wks, ← hv, tst_i]
  | m + 1, c, fuel, M, v, S, hW, hv, hM, hc, hf => by
    obtain ⟨f, rfl⟩ : ∃ f, fuel = f + 1 := ⟨fuel - 1, by omega⟩
    unfold fX6_ahead_77
    rw [if_neg (by rw [nn_le (by omega) (by omega)]; omega), r6_week rfl hW hv (by omega) x, nn_bd1, li1, nn_add, c6_ah ho hX x ha m (c + 1) f (M + 9) (sWeek n x v) _ (wf_week hW (by omega) x) (tst_s _ _ _) (by omega) (by omega) (by omega), tst_t]
    rfl
theorem li100 : (100 : Int32) = nI 100 := rfl
theorem r3_wl {M : Nat} {v : tePg} {S : teS} {k : Nat} (hW : WF n M v) (hE : PE n (S k) v) (ha : a < n) : fX3_wantedLevel k a S = some (v (2 + 10 * a + pw v a)) := by
  obtain ⟨w, hw, ew⟩ := (hW.2.2.2 a ha).2.1
  have e4 := ((hE.2.2 a ha).1 4 (by decide)).trans ew
  unfold fX3_wantedLevel pw
  rw [e4, ew, nn_in (by omega) (by decide), nn_tn (by omega), (hE.2.2 a ha).1 w (by omega)]
theorem c5_lv (ha : a < n) (y : Int32) : ∀ (d c fuel M : Nat) (v : tePg) (S : teS), WF n M v → PE n (S 1) v → M + 9 * d < 100000 → c + d = 101 → d < fuel → ∃ p, fX5_levelAfter_25 (nI a) y fuel S (nI c) = some (.inr (lvA n a y d c v, tst S 1 p))
  | 0, c, fuel, M, v, S, hW, hE, hM, hc, hf => by
    obtain ⟨f, rfl⟩ : ∃ f, fuel = f + 1 := ⟨fuel - 1, by omega⟩
    unfold fX5_levelAfter_25
    rw [li100, if_pos (by rw [nn_lt (by omega) (by omega)]; omega)]
    exact ⟨S 1, by rw [tst_i]; rfl⟩
  | d + 1, c, fuel, M, v, S, hW, hE, hM, hc, hf => by
    obtain ⟨f, rfl⟩ : ∃ f, fuel = f + 1 := ⟨fuel - 1, by omega⟩
    have h9 := hW.1
    unfold fX5_levelAfter_25
    rw [li100, if_neg (by rw [nn_lt (by omega) (by omega)]; omega), nn_in (by omega) (by decide), nn_tn (by omega), r3_wl hW hE ha, nn_bd1, lvA]
    by_cases h : v (2 + 10 * a + pw v a) < y
    · rw [if_pos h, if_pos h]
      obtain ⟨p, h1, h2⟩ := r1_match hW hE
      have hW2 := wf_mt 4 v hW
      obtain ⟨p2, h3, h4⟩ := r1_week (k := 1) (S := tst S 1 p) hW2 (by rw [tst_s]; exact h2) (by omega) 0
      obtain ⟨p3, h5⟩ := c5_lv ha y d (c + 1) f (M + 9) _ (tst S 1 p2) (wf_week hW2 (by omega) 0) (by rw [tst_s]; exact h4) (by omega) (by omega) (by omega)
      rw [h1, nn_bd2, h3, nn_bd1, tst_t, li1, nn_add, h5, tst_t]
      exact ⟨p3, rfl⟩
    · rw [if_neg h, if_neg h]
      exact ⟨S 1, by rw [tst_i]⟩
theorem c6_lv (ha : a < n) (y : Int32) : ∀ (d c fuel M : Nat) (v : tePg) (S : teS), WF n M v → S 373 = v → M + 9 * d < 100000 → c + d = 101 → d < fuel → ∃ u, fX6_levelAfter_56 (nI a) y fuel S (nI c) = some (lvA n a y d c v, tst S 373 u)
  | 0, c, fuel, M, v, S, hW, hv, hM, hc, hf => by
    obtain ⟨f, rfl⟩ : ∃ f, fuel = f + 1 := ⟨fuel - 1, by omega⟩
    unfold fX6_levelAfter_56
    rw [li100, if_pos (by rw [nn_lt (by omega) (by omega)]; omega)]
    exact ⟨S 373, by rw [tst_i]; rfl⟩
  | d + 1, c, fuel, M, v, S, hW, hv, hM, hc, hf => by
    obtain ⟨f, rfl⟩ : ∃ f, fuel = f + 1 := ⟨fuel - 1, by omega⟩
    have h9 := hW.1
    obtain ⟨w, hw, ew⟩ := (hW.2.2.2 a ha).2.1
    have epw : pw v a = w := by unfold pw; rw [ew, nn_tn (by omega)]
    unfold fX6_levelAfter_56
    rw [li100, if_neg (by rw [nn_lt (by omega) (by omega)]; omega)]
    simp (disch := omega) only [r6_at, nn_bd1, li4, nn_add, nn_in, nn_tn, hv, ew]
    rw [lvA, epw]
    by_cases h : v (2 + 10 * a + w) < y
    · rw [if_pos h, if_pos h]
      have hW2 := wf_mt 4 v hW
      obtain ⟨u, h5⟩ := c6_lv ha y d (c + 1) f (M + 9) (sWeek n 0 (mt n 4 v).2) (tst S 373 (sWeek n 0 (mt n 4 v).2)) (wf_week hW2 (by omega) 0) (tst_s _ _ _) (by omega) (by omega) (by omega)
      rw [r6_match rfl hW hv, nn_bd2, r6_week rfl hW2 (tst_s _ _ _) (by omega) 0, nn_bd1, tst_t, li1, nn_add, h5, tst_t]
      exact ⟨u, rfl⟩
    · rw [if_neg h, if_neg h]
      exact ⟨S 373, by rw [tst_i]⟩
theorem c5_pa (ha : a < n) (x : Int32) : ∀ (d c fuel M : Nat) (v : tePg) (S : teS), WF n M v → PE n (S 1) v → M + 9 * d < 100000 → c + d = 101 → d < fuel → ∃ p, fX5_partsAfter_31 (nI a) x fuel S (nI c) = some (.inr (paA n a x d c v, tst S 1 p))
  | 0, c, fuel, M, v, S, hW, hE, hM, hc, hf => by
    obtain ⟨f, rfl⟩ : ∃ f, fuel = f + 1 := ⟨fuel - 1, by omega⟩
    unfold fX5_partsAfter_31
    rw [li100, if_pos (by rw [nn_lt (by omega) (by omega)]; omega)]
    exact ⟨S 1, by rw [tst_i]; rfl⟩
  | d + 1, c, fuel, M, v, S, hW, hE, hM, hc, hf => by
    obtain ⟨f, rfl⟩ : ∃ f, fuel = f + 1 := ⟨fuel - 1, by omega⟩
    unfold fX5_partsAfter_31
    obtain ⟨p, h1, h2⟩ := r1_week hW hE (by omega) x
    have hW2 := wf_week hW (by omega) x
    rw [li100, if_neg (by rw [nn_lt (by omega) (by omega)]; omega), h1, nn_bd1, r1_free hW2 (by rw [tst_s]; exact h2) ha, nn_bd1, bI_if, paA]
    cases hs : sFree (sWeek n x v) a
    · rw [if_pos rfl, if_neg (show ¬ false = true by decide)]
      obtain ⟨p3, h5⟩ := c5_pa ha x d (c + 1) f (M + 9) _ (tst S 1 p) hW2 (by rw [tst_s]; exact h2) (by omega) (by omega) (by omega)
      rw [li1, nn_add, h5, tst_t]
      exact ⟨p3, rfl⟩
    · rw [if_neg (show ¬ true = false by decide), if_pos rfl]
      exact ⟨p, rfl⟩
theorem c6_pa (ha : a < n) (x : Int32) : ∀ (d c fuel M : Nat) (v : tePg) (S : teS), WF n M v → S 373 = v → M + 9 * (d + 1) < 100000 → c + 1 + d = 101 → d + 1 < fuel → sFree v a = false → ∃ u, fX6_partsAfter_66 (nI a) x fuel S (nI c) = some (paA n a x d (c + 1) v, tst S 373 u)
  | 0, c, fuel, M, v, S, hW, hv, hM, hc, hf, hs => by
    obtain ⟨f, rfl⟩ : ∃ f, fuel = f + 1 + 1 := ⟨fuel - 2, by omega⟩
    unfold fX6_partsAfter_66
    rw [li100, if_neg (by rw [nn_lt (by omega) (by omega)]; omega), r6_free rfl hW.1 hv ha, nn_bd1, hs, if_pos (show bI false = 0 from rfl), r6_week rfl hW hv (by omega) x, nn_bd1, li1, nn_add]
    unfold fX6_partsAfter_66
    rw [li100, if_pos (by rw [nn_lt (by omega) (by omega)]; omega)]
    exact ⟨_, rfl⟩
  | d + 1, c, fuel, M, v, S, hW, hv, hM, hc, hf, hs => by
    obtain ⟨f, rfl⟩ : ∃ f, fuel = f + 1 + 1 := ⟨fuel - 2, by omega⟩
    have hW2 := wf_week hW (by omega) x
    unfold fX6_partsAfter_66
    rw [li100, if_neg (by rw [nn_lt (by omega) (by omega)]; omega), r6_free rfl hW.1 hv ha, nn_bd1, hs, if_pos (show bI false = 0 from rfl), r6_week rfl hW hv (by omega) x, nn_bd1, li1, nn_add, paA]
    cases hs2 : sFree (sWeek n x v) a
    · rw [if_neg (show ¬ false = true by decide)]
      obtain ⟨u, h5⟩ := c6_pa ha x d (c + 1) (f + 1) (M + 9) (sWeek n x v) (tst S 373 (sWeek n x v)) hW2 (tst_s _ _ _) (by omega) (by omega) (by omega) hs2
      rw [h5, tst_t]
      exact ⟨u, rfl⟩
    · rw [if_pos rfl]
      unfold fX6_partsAfter_66
      rw [li100, if_neg (by rw [nn_lt (by omega) (by omega)]; omega), r6_free rfl hW.1 (tst_s _ _ _) ha, nn_bd1, hs2, if_neg (show ¬ bI true = 0 by decide)]
      exact ⟨_, rfl⟩
end S46
