/-! THE TEXT: the class looks at each place, the reference reads on -/
def okT (i c : Nat) : Bool := if i = 0 then decide (c = 76) else if i ≤ 72 then (if (i - 1) % 8 = 0 then decide (c = 109) else (decide (48 ≤ c) && decide (c ≤ if (i - 1) % 8 = 1 then 51 else 57))) else false
theorem li76 : (76 : Int32) = nI 76 := rfl
theorem li72 : (72 : Int32) = nI 72 := rfl
theorem li109 : (109 : Int32) = nI 109 := rfl
theorem li48 : (48 : Int32) = nI 48 := rfl
section S60
variable {t : Nat} {c : Nat → Nat} {S : teS}
theorem r4_59 {x m : Nat} (hx : x ≤ 255) (hm : m ≤ 255) (x1 : Int32) (S : teS) : fX4_allows_59 x1 (nI x) S (nI m) = some (bI (decide (48 ≤ x) && decide (x ≤ m))) := by
  unfold fX4_allows_59
  rw [li48]
  by_cases h1 : x < 48
  · rw [if_pos (by rw [nn_lt (by omega) (by omega)]; exact h1), decide_eq_false (by omega)]; rfl
  · rw [if_neg (by rw [nn_lt (by omega) (by omega)]; exact h1), decide_eq_true (show 48 ≤ x by omega), Bool.true_and]
    by_cases h2 : m < x
    · rw [if_pos (by rw [nn_lt (by omega) (by omega)]; exact h2), decide_eq_false (by omega)]; rfl
    · rw [if_neg (by rw [nn_lt (by omega) (by omega)]; exact h2), decide_eq_true (by omega)]; rfl
theorem r4_al {i x : Nat} (hi : i < 90) (hx : x ≤ 255) (S : teS) : fX4_allows (nI i) (nI x) S = some (bI (okT i x)) := by
  unfold fX4_allows okT
  by_cases h0 : i = 0
  · rw [if_pos (show nI i = 0 by rw [h0]; rfl), if_pos h0, li76]
    by_cases hc : x = 76
    · rw [if_pos (by rw [hc]), decide_eq_true hc]; rfl
    · rw [if_neg (by rw [nn_eq (by omega) (by omega)]; exact hc), decide_eq_false hc]; rfl
  · rw [if_neg (show ¬ nI i = 0 by rw [nn_eq0 (by omega)]; exact h0), if_neg h0]
    by_cases h72 : i ≤ 72
    · have hr : (nI i - 1) - (nI i - 1) / 8 * 8 = nI ((i - 1) % 8) := by
        rw [li1, nn_sub (by omega), li8, nn_rem (by omega) (by decide) (by decide)]
      rw [if_pos (show nI i ≤ 72 by rw [li72, nn_le (by omega) (by omega)]; exact h72), if_pos h72, hr]
      by_cases hm : (i - 1) % 8 = 0
      · rw [if_pos (show nI ((i - 1) % 8) = 0 by rw [hm]; rfl), if_pos hm, li109]
        by_cases hc : x = 109
        · rw [if_pos (by rw [hc]), decide_eq_true hc]; rfl
        · rw [if_neg (by rw [nn_eq (by omega) (by omega)]; exact hc), decide_eq_false hc]; rfl
      · rw [if_neg (show ¬ nI ((i - 1) % 8) = 0 by rw [nn_eq0 (by omega)]; exact hm), if_neg hm]
        by_cases h1 : (i - 1) % 8 = 1
        · rw [if_pos (show nI ((i - 1) % 8) = 1 by rw [h1]; rfl), if_pos h1]
          exact r4_59 hx (by decide) _ S
        · rw [if_neg (show ¬ nI ((i - 1) % 8) = 1 by rw [li1, nn_eq (by omega) (by omega)]; exact h1), if_neg h1]
          exact r4_59 hx (by decide) _ S
    · rw [if_neg (show ¬ nI i ≤ 72 by rw [li72, nn_le (by omega) (by omega)]; exact h72), if_neg h72]; rfl
theorem r4_wh (ht : t ≤ 90) (e : S 361 0 = nI t) : fX4_isWhole S = some (bI (decide (0 < t ∧ (t - 1) % 8 = 0))) := by
  unfold fX4_isWhole
  rw [e]
  by_cases h0 : t = 0
  · rw [if_pos (show nI t ≤ 0 by rw [h0]; decide), decide_eq_false (by omega)]; rfl
  · have hr : (nI t - 1) - (nI t - 1) / 8 * 8 = nI ((t - 1) % 8) := by
      rw [li1, nn_sub (by omega), li8, nn_rem (by omega) (by decide) (by decide)]
    rw [if_neg (show ¬ nI t ≤ 0 by rw [li0, nn_le (by omega) (by omega)]; omega), hr, eq0_if (by omega)]
    by_cases h1 : (t - 1) % 8 = 0
    · rw [if_pos h1, decide_eq_true (by omega)]; rfl
    · rw [if_neg h1, decide_eq_false (by omega)]; rfl
/-- the answer of both sides: p is the first place that isn't allowed, or the end -/
def feA (t p : Nat) : Int32 := if p = t ∧ 0 < t ∧ (t - 1) % 8 = 0 then -9999 else nI p
theorem c4_fe (ht : t ≤ 90) (e : S 361 0 = nI t) (hc : ∀ i, i < t → c i ≤ 255 ∧ S 362 i = nI (c i)) {p : Nat} (hp : p ≤ t) (hok : ∀ i, i < p → okT i (c i) = true) (hno : p < t → okT p (c p) = false) : ∀ (d i fuel : Nat), i + d = p → d < fuel → fX4_firstError_2 fuel S (nI i) = some (feA t p)
  | 0, i, fuel, hi, hf => by
    obtain ⟨f, rfl⟩ : ∃ f, fuel = f + 1 := ⟨fuel - 1, by omega⟩
    obtain rfl : i = p := by omega
    unfold fX4_firstError_2 feA
    rw [e]
    by_cases h : i < t
    · rw [if_neg (by rw [nn_le (by omega) (by omega)]; omega), nn_in (by omega) (by decide), nn_tn (by omega), (hc i h).2, r4_al (by omega) (hc i h).1, nn_bd1, bI_if, hno h, if_pos rfl, if_neg (by omega)]
    · rw [if_pos (by rw [nn_le (by omega) (by omega)]; omega), r4_wh ht e, nn_bd1, bI_if]
      by_cases hw : 0 < t ∧ (t - 1) % 8 = 0
      · rw [decide_eq_true hw, if_neg (show ¬ true = false by decide), if_pos ⟨by omega, hw⟩]
      · rw [decide_eq_false hw, if_pos rfl, if_neg (fun z => hw z.2), show i = t by omega]
  | d + 1, i, fuel, hi, hf => by
    obtain ⟨f, rfl⟩ : ∃ f, fuel = f + 1 := ⟨fuel - 1, by omega⟩
    unfold fX4_firstError_2
    rw [e, if_neg (by rw [nn_le (by omega) (by omega)]; omega), nn_in (by omega) (by decide), nn_tn (by omega), (hc i (by omega)).2, r4_al (by omega) (hc i (by omega)).1, nn_bd1, bI_if, hok i (by omega), if_neg (show ¬ true = false by decide), li1, nn_add]
    exact c4_fe ht e hc hp hok hno d (i + 1) f (by omega) (by omega)
theorem r4_fe (ht : t ≤ 90) (e : S 361 0 = nI t) (hc : ∀ i, i < t → c i ≤ 255 ∧ S 362 i = nI (c i)) {p : Nat} (hp : p ≤ t) (hok : ∀ i, i < p → okT i (c i) = true) (hno : p < t → okT p (c p) = false) : fX4_firstError S = some (feA t p) := by
  unfold fX4_firstError
  exact c4_fe ht e hc hp hok hno p 0 2000 (by omega) (by omega)
end S60
theorem tst_c (S : teS) {a b : Nat} (h : a ≠ b) (p q : tePg) : tst (tst S a p) b q = tst (tst S b q) a p := by
  funext x
  unfold tst
  by_cases h1 : x = b
  · rw [if_pos h1, if_neg (show ¬ x = a by omega), if_pos h1]
  · rw [if_neg h1]
    by_cases h2 : x = a
    · rw [if_pos h2, if_pos h2]
    · rw [if_neg h2, if_neg h2, if_neg h1]
section S60b
variable {t : Nat} {c : Nat → Nat} {T : teS} {v : tePg} {p : Nat}
theorem q_d3 : ∀ x : Fin 256, rg 0 (nI 3) (nI x.val - nI 48) = (decide (48 ≤ x.val) && decide (x.val ≤ 51)) := by decide +kernel
theorem q_d9 : ∀ x : Fin 256, rg 0 (nI 9) (nI x.val - nI 48) = (decide (48 ≤ x.val) && decide (x.val ≤ 57)) := by decide +kernel
theorem q_dn : rg 0 (nI 3) (-9999) = false ∧ rg 0 (nI 9) (-9999) = false := by decide
theorem ok_d3 {a : Nat} (ha : a < 9) (x : Nat) : okT (2 + 8 * a) x = (decide (48 ≤ x) && decide (x ≤ 51)) := by
  unfold okT
  rw [if_neg (by omega), if_pos (by omega), if_neg (by omega), if_pos (by omega)]
theorem ok_d9 {i : Nat} (h1 : 0 < i) (h2 : i ≤ 72) (h3 : 2 ≤ (i - 1) % 8) (x : Nat) : okT i x = (decide (48 ≤ x) && decide (x ≤ 57)) := by
  unfold okT
  rw [if_neg (by omega), if_pos h2, if_neg (by omega), if_neg (by omega)]
theorem ok_m {a : Nat} (ha : a < 9) (x : Nat) : okT (1 + 8 * a) x = decide (x = 109) := by
  unfold okT
  rw [if_neg (by omega), if_pos (by omega), if_pos (by omega)]
theorem ok_L (x : Nat) : okT 0 x = decide (x = 76) := rfl
theorem ok_far {i : Nat} (h : 72 < i) (x : Nat) : okT i x = false := by
  unfold okT
  rw [if_neg (by omega), if_neg (by omega)]
end S60b
