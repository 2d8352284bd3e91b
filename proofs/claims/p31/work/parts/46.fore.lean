/-! FORECASTS: the trial pages of both sides -/
def wks (n : Nat) (x : Int32) : Nat → tePg → tePg
  | 0, v => v
  | m + 1, v => wks n x m (sWeek n x v)
def lvA (n a : Nat) (y : Int32) : Nat → Nat → tePg → Int32
  | 0, _, _ => -9999
  | d + 1, c, v => if v (2 + 10 * a + pw v a) < y then lvA n a y d (c + 1) (sWeek n 0 (mt n 4 v).2) else nI c
def paA (n a : Nat) (x : Int32) : Nat → Nat → tePg → Int32
  | 0, _, _ => -9999
  | d + 1, c, v => if sFree (sWeek n x v) a = true then nI c else paA n a x d (c + 1) (sWeek n x v)
section S46
variable {n : Nat} {a : Nat}
theorem c5_ah {o X : Nat} (ho : o ≤ 10) (hX : X ≤ 60) (x : Int32) (ha : a < n) : ∀ (m c fuel M : Nat) (v : tePg) (S : teS), WF n M v → PE n (S 1) v → M + 9 * m < 100000 → c + m = X → m < fuel → ∃ p, fX5_ahead_42 (nI a) (nI X) x (nI o) fuel S (nI c) = some (.inr (sNum n (wks n x m v) a o, tst S 1 p))
  | 0, c, fuel, M, v, S, hW, hE, hM, hc, hf => by
    obtain ⟨f, rfl⟩ : ∃ f, fuel = f + 1 := ⟨fuel - 1, by omega⟩
    unfold fX5_ahead_42
    rw [if_pos (by rw [nn_le (by omega) (by omega)]; omega), r1_num hW hE ha ho, nn_bd1]
    exact ⟨S 1, by rw [tst_i]; rfl⟩
  | m + 1, c, fuel, M, v, S, hW, hE, hM, hc, hf => by
    obtain ⟨f, rfl⟩ : ∃ f, fuel = f + 1 := ⟨fuel - 1, by omega⟩
    unfold fX5_ahead_42
    obtain ⟨p, h1, h2⟩ := r1_week hW hE (by omega) x
    obtain ⟨p2, h3⟩ := c5_ah ho hX x ha m (c + 1) f (M + 9) (sWeek n x v) (tst S 1 p) (wf_week hW (by omega) x) (by rw [tst_s]; exact h2) (by omega) (by omega) (by omega)
    rw [if_neg (by rw [nn_le (by omega) (by omega)]; omega), h1, nn_bd1, li1, nn_add, h3, tst_t]
    exact ⟨p2, rfl⟩
theorem li100 : (100 : Int32) = nI 100 := rfl
theorem r3_wl {M : Nat} {v : tePg} {S : teS} {k : Nat} (hW : WF n M v) (hE : PE n (S k) v) (ha : a < n) : fX3_wantedLevel k a S = some (v (2 + 10 * a + pw v a)) := by
  obtain ⟨w, hw, ew⟩ := (hW.2.2.2 a ha).2.1
  have e4 := ((hE.2.2 a ha).1 4 (by decide)).trans ew
  unfold fX3_wantedLevel pw
  rw [e4, ew, nn_in (by omega) (by decide), nn_tn (by omega), (hE.2.2 a ha).1 w (by omega)]
theorem c5_lv (ha : a < n) (y : Int32) : ∀ (d c fuel M : Nat) (v : tePg) (S : teS), WF n M v → PE n (S 1) v → M + 9 * d < 100000 → c + d = 101 → d < fuel → ∃ p, fX5_levelAfter_25 (nI a) y fuel S (nI c) = some (.inr (lvA n a y d c v, tst S 1 p))
  | 0, c, fuel, M, v, S, hW, hE, hM, hc, hf => by
    obtain ⟨f, rfl⟩ : ∃ f, fuel = f + 1 := ⟨fuel - 1, by omega⟩
    unfold fX5_levelAfter_25
    rw [li100, if_pos (by rw [nn_lt (by omega) (by omega)]; omega)]
    exact ⟨S 1, by rw [tst_i]; rfl⟩
  | d + 1, c, fuel, M, v, S, hW, hE, hM, hc, hf => by
    obtain ⟨f, rfl⟩ : ∃ f, fuel = f + 1 := ⟨fuel - 1, by omega⟩
    have h9 := hW.1
    unfold fX5_levelAfter_25
    rw [li100, if_neg (by rw [nn_lt (by omega) (by omega)]; omega), nn_in (by omega) (by decide), nn_tn (by omega), r3_wl hW hE ha, nn_bd1, lvA]
    by_cases h : v (2 + 10 * a + pw v a) < y
    · rw [if_pos h, if_pos h]
      obtain ⟨p, h1, h2⟩ := r1_match hW hE
      have hW2 := wf_mt 4 v hW
      obtain ⟨p2, h3, h4⟩ := r1_week (k := 1) (S := tst S 1 p) hW2 (by rw [tst_s]; exact h2) (by omega) 0
      obtain ⟨p3, h5⟩ := c5_lv ha y d (c + 1) f (M + 9) _ (tst S 1 p2) (wf_week hW2 (by omega) 0) (by rw [tst_s]; exact h4) (by omega) (by omega) (by omega)
      rw [h1, nn_bd2, h3, nn_bd1, tst_t, li1, nn_add, h5, tst_t]
      exact ⟨p3, rfl⟩
    · rw [if_neg h, if_neg h]
      exact ⟨S 1, by rw [tst_i]⟩
theorem c5_pa (ha : a < n) (x : Int32) : ∀ (d c fuel M : Nat) (v : tePg) (S : teS), WF n M v → PE n (S 1) v → M + 9 * d < 100000 → c + d = 101 → d < fuel → ∃ p, fX5_partsAfter_31 (nI a) x fuel S (nI c) = some (.inr (paA n a x d c v, tst S 1 p))
  | 0, c, fuel, M, v, S, hW, hE, hM, hc, hf => by
    obtain ⟨f, rfl⟩ : ∃ f, fuel = f + 1 := ⟨fuel - 1, by omega⟩
    unfold fX5_partsAfter_31
    rw [li100, if_pos (by rw [nn_lt (by omega) (by omega)]; omega)]
    exact ⟨S 1, by rw [tst_i]; rfl⟩
  | d + 1, c, fuel, M, v, S, hW, hE, hM, hc, hf => by
    obtain ⟨f, rfl⟩ : ∃ f, fuel = f + 1 := ⟨fuel - 1, by omega⟩
    unfold fX5_partsAfter_31
    obtain ⟨p, h1, h2⟩ := r1_week hW hE (by omega) x
    have hW2 := wf_week hW (by omega) x
    rw [li100, if_neg (by rw [nn_lt (by omega) (by omega)]; omega), h1, nn_bd1, r1_free hW2 (by rw [tst_s]; exact h2) ha, nn_bd1, bI_if, paA]
    cases hs : sFree (sWeek n x v) a
    · rw [if_pos rfl, if_neg (show ¬ false = true by decide)]
      obtain ⟨p3, h5⟩ := c5_pa ha x d (c + 1) f (M + 9) _ (tst S 1 p) hW2 (by rw [tst_s]; exact h2) (by omega) (by omega) (by omega)
      rw [li1, nn_add, h5, tst_t]
      exact ⟨p3, rfl⟩
    · rw [if_neg (show ¬ true = false by decide), if_pos rfl]
      exact ⟨p, rfl⟩
end S46
