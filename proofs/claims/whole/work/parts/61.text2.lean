/-! THE TEXT: a member is read -/
/-- what a page shows of the member b of the text c -/
def RD (c : Nat → Nat) (b : Nat) (v : tePg) : Prop := (∀ l, l < 4 → v (2 + 10 * b + l) = nI (c (3 + 8 * b + l) - 48)) ∧ v (2 + 10 * b + 4) = nI (c (2 + 8 * b) - 48) ∧ v (2 + 10 * b + 5) = 0 ∧ v (2 + 10 * b + 6) = nI (10 * (c (7 + 8 * b) - 48) + (c (8 + 8 * b) - 48)) ∧ v (2 + 10 * b + 7) = 0 ∧ v (2 + 10 * b + 8) = -9999 ∧ v (2 + 10 * b + 9) = 0
theorem RD_cong {c : Nat → Nat} {b : Nat} {v u : tePg} (h : RD c b v) (e : ∀ o, o < 10 → u (2 + 10 * b + o) = v (2 + 10 * b + o)) : RD c b u :=
  ⟨fun l hl => (e l (by omega)).trans (h.1 l hl), (e 4 (by decide)).trans h.2.1, (e 5 (by decide)).trans h.2.2.1, (e 6 (by decide)).trans h.2.2.2.1, (e 7 (by decide)).trans h.2.2.2.2.1, (e 8 (by decide)).trans h.2.2.2.2.2.1, (e 9 (by decide)).trans h.2.2.2.2.2.2⟩
/-- the reading of the member a's rest from the spot p on, l levels read: it ends at p' with the page w -/
def RM (c : Nat → Nat) (t a l : Nat) (v : tePg) (p : Nat) (z : Bool) (w : tePg) (p' : Nat) : Prop :=
  p ≤ p' ∧ p' ≤ t ∧ (∀ i, p ≤ i → i < p' → okT i (c i) = true) ∧ (z = false → 2 + 8 * a ≤ p' ∧ p' < 9 + 8 * a ∧ (p' < t → okT p' (c p') = false)) ∧
  (z = true → p' = 9 + 8 * a ∧ w 0 = nI (a + 1) ∧ w 1 = v 1 ∧ (∀ k, l ≤ k → k < 4 → w (2 + 10 * a + k) = nI (c (3 + 8 * a + k) - 48)) ∧ (∀ k, k < l → w (2 + 10 * a + k) = v (2 + 10 * a + k)) ∧ w (2 + 10 * a + 4) = v (2 + 10 * a + 4) ∧ w (2 + 10 * a + 5) = 0 ∧ w (2 + 10 * a + 6) = nI (10 * (c (7 + 8 * a) - 48) + (c (8 + 8 * a) - 48)) ∧ w (2 + 10 * a + 7) = 0 ∧ w (2 + 10 * a + 8) = -9999 ∧ w (2 + 10 * a + 9) = 0 ∧ ∀ i, 2 ≤ i → i < 2 + 10 * a → w i = v i)
section S61
theorem rt_t {T : teS} {v u : tePg} {p : Nat} : tst (RT T v p) 371 u = RT T u p := by
  unfold RT
  rw [tst_c _ (show 369 ≠ 371 by decide), tst_t]
variable {t : Nat} {c : Nat → Nat} {T : teS} {v : tePg} {p a : Nat}
theorem rm_fail (S : teS) (x : Int32) (l f : Nat) : fX6_readMember_45 (f + 1) S x 0 (nI l) = some (0, S) := by
  have h1 : fX6_readMember_110 S x (-9999) = some (0, S) := by
    unfold fX6_readMember_110
    rw [if_pos rfl]
    unfold fX6_readMember_130
    rw [if_pos rfl]
  unfold fX6_readMember_45
  rw [if_pos rfl, if_pos rfl]
  split
  · exact h1
  · exact h1
theorem rm_fin (ht : t ≤ 90) (e : T 369 1 = nI t) (hc : ∀ i, i < t → c i ≤ 255 ∧ T 370 i = nI (c i)) (ha : a < 9) (hv : v 0 = nI a) (hp : 7 + 8 * a ≤ t) :
    ∃ z w p', (bd2 (fX6_digit 9 (RT T v (7 + 8 * a))) fun r_10 S2 => fX6_readMember_110 S2 (nI (2 + 10 * a)) r_10) = some (bI z, RT T w p') ∧ RM c t a 4 v (7 + 8 * a) z w p' := by
  have d1 := dig_st (T := T) (v := v) ht e hc (show 7 + 8 * a ≤ t from hp) (Or.inr ⟨rfl, ok_d9 (i := 7 + 8 * a) (by omega) (by omega) (by omega)⟩)
  rw [show nI 9 = 9 from rfl] at d1
  rcases d1 with ⟨h1, h2, h3, h4⟩ | ⟨h1, h2⟩
  · rw [h4, nn_bd2]
    unfold fX6_readMember_110
    rw [if_neg (by rw [nn_NI (by have := (hc _ h1).1; omega)]; exact not_false)]
    have d2 := dig_st (T := T) (v := v) ht e hc (show 7 + 8 * a + 1 ≤ t from h1) (Or.inr ⟨rfl, ok_d9 (i := 7 + 8 * a + 1) (by omega) (by omega) (by omega)⟩)
    rw [show nI 9 = 9 from rfl] at d2
    rcases d2 with ⟨k1, k2, k3, k4⟩ | ⟨k1, k2⟩
    · rw [k4, nn_bd2]
      unfold fX6_readMember_130
      rw [if_neg (by rw [nn_NI (by have := (hc _ k1).1; omega)]; exact not_false), show nI (2 + 10 * a) + 5 = nI (2 + 10 * a + 5) from nn_add _ 5, nn_in (by omega) (by decide), nn_lt1, nn_tn (by omega), rt_w, show nI (2 + 10 * a) + 6 = nI (2 + 10 * a + 6) from nn_add _ 6, nn_in (by omega) (by decide), nn_lt1, nn_tn (by omega), rt_w, show nI (2 + 10 * a) + 7 = nI (2 + 10 * a + 7) from nn_add _ 7, nn_in (by omega) (by decide), nn_lt1, nn_tn (by omega), rt_w, nn_ch (show tein (0 : Int32) 92 = true by decide), l0, rt_371, tup_n _ _ (show 0 ≠ 2 + 10 * a + 7 by omega), tup_n _ _ (show 0 ≠ 2 + 10 * a + 6 by omega), tup_n _ _ (show 0 ≠ 2 + 10 * a + 5 by omega), hv, r6_free1 rfl ha, nn_bd1, nn_lt1]
      rw [rt_371, rt_t, rt_371, rt_w, tup_n _ _ (show 0 ≠ 2 + 10 * a + 9 by omega), tup_n _ _ (show 0 ≠ 2 + 10 * a + 8 by omega), tup_n _ _ (show 0 ≠ 2 + 10 * a + 7 by omega), tup_n _ _ (show 0 ≠ 2 + 10 * a + 6 by omega), tup_n _ _ (show 0 ≠ 2 + 10 * a + 5 by omega), hv, nI_1, li10, nn_mul, nn_add, show 7 + 8 * a + 1 = 8 + 8 * a by omega, show 8 + 8 * a + 1 = 9 + 8 * a by omega]
      rw [show 7 + 8 * a + 1 = 8 + 8 * a by omega] at k1 k2 k3
      refine ⟨true, _, 9 + 8 * a, rfl, by omega, by omega, fun i g1 g2 => ?_, fun h => absurd h (by decide), fun _ => ⟨rfl, tup_s _ _ _, ?_, fun k g1 g2 => absurd g1 (by omega), fun k g1 => ?_, ?_, ?_, ?_, ?_, ?_, ?_, fun i g1 g2 => ?_⟩⟩
      · rcases (show i = 7 + 8 * a ∨ i = 8 + 8 * a by omega) with rfl | rfl
        · exact h2
        · exact k2
      all_goals simp (disch := omega) only [tup_n, tup_s]
    · rw [k2, nn_bd2]
      unfold fX6_readMember_130
      rw [if_pos rfl]
      have hk : ∀ i, 7 + 8 * a ≤ i → i < 7 + 8 * a + 1 → okT i (c i) = true := fun i g1 g2 => by
        obtain rfl : i = 7 + 8 * a := by omega
        exact h2
      refine ⟨false, v, 7 + 8 * a + 1, rfl, by omega, by omega, hk, fun _ => ⟨by omega, by omega, k1⟩, fun h => absurd h (by decide)⟩
  · rw [h2, nn_bd2]
    unfold fX6_readMember_110
    rw [if_pos rfl]
    unfold fX6_readMember_130
    rw [if_pos rfl]
    exact ⟨false, v, 7 + 8 * a, rfl, by omega, hp, fun i g1 g2 => absurd g1 (by omega), fun _ => ⟨by omega, by omega, h1⟩, fun h => absurd h (by decide)⟩
theorem rm_loop (ht : t ≤ 90) (e : T 369 1 = nI t) (hc : ∀ i, i < t → c i ≤ 255 ∧ T 370 i = nI (c i)) (ha : a < 9) : ∀ (d l fuel : Nat) (v : tePg) (p : Nat), v 0 = nI a → l + d = 4 → d + 1 < fuel → p = 3 + 8 * a + l → p ≤ t →
    ∃ z w p', fX6_readMember_45 fuel (RT T v p) (nI (2 + 10 * a)) 1 (nI l) = some (bI z, RT T w p') ∧ RM c t a l v p z w p'
  | 0, l, fuel, v, p, hv, hl, hf, hp, hpt => by
    obtain ⟨f, rfl⟩ : ∃ f, fuel = f + 1 := ⟨fuel - 1, by omega⟩
    obtain rfl : l = 4 := by omega
    obtain rfl : p = 7 + 8 * a := by omega
    unfold fX6_readMember_45
    rw [if_pos (show (4 : Int32) ≤ nI 4 by decide), if_neg i1_0]
    exact rm_fin ht e hc ha hv hpt
  | d + 1, l, fuel, v, p, hv, hl, hf, hp, hpt => by
    obtain ⟨f, rfl⟩ : ∃ f, fuel = f + 1 + 1 := ⟨fuel - 2, by omega⟩
    unfold fX6_readMember_45
    rw [if_neg (show ¬ (4 : Int32) ≤ nI l by rw [li4, nn_le (by omega) (by omega)]; omega), if_neg i1_0]
    have d1 := dig_st (T := T) (v := v) ht e hc hpt (Or.inr ⟨rfl, ok_d9 (i := p) (by omega) (by omega) (by omega)⟩)
    rw [show nI 9 = 9 from rfl] at d1
    rcases d1 with ⟨h1, h2, h3, h4⟩ | ⟨h1, h2⟩
    · rw [h4, nn_bd2, nn_add, nn_in (by omega) (by decide), nn_lt1, nn_tn (by omega), rt_w, rt_371, tup_s, if_neg (by rw [nn_NI (by have := (hc _ h1).1; omega)]; exact not_false), nI_1]
      obtain ⟨z, w, p', g1, g2, g3, g4, g5, g6⟩ := rm_loop ht e hc ha d (l + 1) (f + 1) (tup v (2 + 10 * a + l) (nI (c p - 48))) (p + 1) (by rw [tup_n _ _ (by omega)]; exact hv) (by omega) (by omega) (by omega) (by omega)
      refine ⟨z, w, p', g1, by omega, g3, fun i k1 k2 => ?_, g5, fun hz => ?_⟩
      · by_cases hi : i = p
        · rw [hi]; exact h2
        · exact g4 i (by omega) k2
      · obtain ⟨q1, q2, q3, q4, q5, q6, q7, q8, q9, r1, r2, r3⟩ := g6 hz
        refine ⟨q1, q2, by rw [q3, tup_n _ _ (by omega)], fun k k1 k2 => ?_, fun k k1 => ?_, by rw [q6, tup_n _ _ (by omega)], q7, q8, q9, r1, r2, fun i k1 k2 => ?_⟩
        · by_cases hk : k = l
          · rw [q5 k (by omega), hk, tup_s, hp]
          · exact q4 k (by omega) k2
        · rw [q5 k (by omega), tup_n _ _ (by omega)]
        · rw [r3 i k1 k2, tup_n _ _ (by omega)]
    · rw [h2, nn_bd2, nn_add, nn_in (by omega) (by decide), nn_lt1, nn_tn (by omega), rt_w, rt_371, tup_s, if_pos rfl, nI_1, rm_fail]
      exact ⟨false, _, p, rfl, by omega, hpt, fun i k1 k2 => absurd k1 (by omega), fun _ => ⟨by omega, by omega, h1⟩, fun h => absurd h (by decide)⟩
theorem r6_rm (ht : t ≤ 90) (e : T 369 1 = nI t) (hc : ∀ i, i < t → c i ≤ 255 ∧ T 370 i = nI (c i)) (ha : a < 9) (hv : v 0 = nI a) (hp : 2 + 8 * a ≤ t) :
    ∃ z w p', fX6_readMember (RT T v (2 + 8 * a)) = some (bI z, RT T w p') ∧ 2 + 8 * a ≤ p' ∧ p' ≤ t ∧ (∀ i, 2 + 8 * a ≤ i → i < p' → okT i (c i) = true) ∧ (z = false → p' < 9 + 8 * a ∧ (p' < t → okT p' (c p') = false)) ∧
      (z = true → p' = 9 + 8 * a ∧ w 0 = nI (a + 1) ∧ w 1 = v 1 ∧ RD c a w ∧ ∀ i, 2 ≤ i → i < 2 + 10 * a → w i = v i) := by
  unfold fX6_readMember
  rw [nn_ch (show tein (0 : Int32) 92 = true by decide), l0, rt_371, hv, r6_at, nn_bd1]
  have d1 := dig_st (T := T) (v := v) ht e hc hp (Or.inl ⟨rfl, ok_d3 ha⟩)
  rw [show nI 3 = 3 from rfl] at d1
  have e4 : nI (2 + 10 * a) + 4 = nI (2 + 10 * a + 4) := nn_add _ 4
  rcases d1 with ⟨h1, h2, h3, h4⟩ | ⟨h1, h2⟩
  · rw [h4, nn_bd2, e4, nn_in (by omega) (by decide), nn_lt1, nn_tn (by omega), rt_w, rt_371, tup_s, if_neg (by rw [nn_NI (by have := (hc _ h1).1; omega)]; exact not_false)]
    obtain ⟨z, w, p', g1, g2, g3, g4, g5, g6⟩ := rm_loop ht e hc ha 4 0 2000 (tup v (2 + 10 * a + 4) (nI (c (2 + 8 * a) - 48))) (2 + 8 * a + 1) (by rw [tup_n _ _ (by omega)]; exact hv) rfl (by decide) (by omega) h1
    refine ⟨z, w, p', g1, by omega, g3, fun i k1 k2 => ?_, fun hz => (g5 hz).2, fun hz => ?_⟩
    · by_cases hi : i = 2 + 8 * a
      · rw [hi]; exact h2
      · exact g4 i (by omega) k2
    · obtain ⟨q1, q2, q3, q4, q5, q6, q7, q8, q9, r1, r2, r3⟩ := g6 hz
      refine ⟨q1, q2, by rw [q3, tup_n _ _ (by omega)], ⟨fun l hl => q4 l (by omega) hl, by rw [q6, tup_s], q7, q8, q9, r1, r2⟩, fun i k1 k2 => by rw [r3 i k1 k2, tup_n _ _ (by omega)]⟩
  · rw [h2, nn_bd2, e4, nn_in (by omega) (by decide), nn_lt1, nn_tn (by omega), rt_w, rt_371, tup_s, if_pos rfl]
    refine ⟨false, _, 2 + 8 * a, rm_fail _ _ 0 1999, by omega, hp, fun i k1 k2 => absurd k1 (by omega), fun _ => ⟨by omega, h1⟩, fun h => absurd h (by decide)⟩
/-- what the whole reading tells -/
def RA (c : Nat → Nat) (t : Nat) (v : tePg) (z : Bool) (w : tePg) (p' : Nat) : Prop :=
  p' ≤ t ∧ (∀ i, i < p' → okT i (c i) = true) ∧ (p' < t → okT p' (c p') = false) ∧ z = decide (p' = t ∧ 0 < t ∧ (t - 1) % 8 = 0) ∧ (z = true → ∃ n, n ≤ 9 ∧ t = 1 + 8 * n ∧ w 0 = nI n ∧ w 1 = v 1 ∧ ∀ b, b < n → RD c b w)
theorem ra_end (ht : t ≤ 90) (e : T 369 1 = nI t) (ha : a ≤ 9) (hv : v 0 = nI a) (hp : 1 + 8 * a ≤ t) (hd : ∀ b, b < a → RD c b v) (hok : ∀ i, i < 1 + 8 * a → okT i (c i) = true) (hno : 1 + 8 * a < t → okT (1 + 8 * a) (c (1 + 8 * a)) = false) :
    ∃ z w p', (if (RT T v (1 + 8 * a)) 369 2 = (RT T v (1 + 8 * a)) 369 1 then some ((1 : Int32), RT T v (1 + 8 * a)) else some ((0 : Int32), RT T v (1 + 8 * a))) = some (bI z, RT T w p') ∧ RA c t v z w p' := by
  rw [rt_2, rt_1, e]
  by_cases h : 1 + 8 * a = t
  · rw [if_pos (by rw [h])]
    exact ⟨true, v, 1 + 8 * a, rfl, hp, hok, hno, (decide_eq_true ⟨h, by omega, by omega⟩).symm, fun _ => ⟨a, ha, h.symm, hv, rfl, hd⟩⟩
  · rw [if_neg (by rw [nn_eq (by omega) (by omega)]; exact h)]
    exact ⟨false, v, 1 + 8 * a, rfl, hp, hok, hno, (decide_eq_false (fun z => h z.1)).symm, fun z => absurd z (by decide)⟩
theorem ra_loop (ht : t ≤ 90) (e : T 369 1 = nI t) (hc : ∀ i, i < t → c i ≤ 255 ∧ T 370 i = nI (c i)) : ∀ (d a fuel : Nat) (v : tePg), a + d = 9 → d < fuel → 1 + 8 * a ≤ t → v 0 = nI a → (∀ b, b < a → RD c b v) → (∀ i, i < 1 + 8 * a → okT i (c i) = true) →
    ∃ z w p', fX6_readAll_30 fuel (RT T v (1 + 8 * a)) = some (bI z, RT T w p') ∧ RA c t v z w p'
  | 0, a, fuel, v, had, hf, hp, hv, hd, hok => by
    obtain ⟨f, rfl⟩ : ∃ f, fuel = f + 1 := ⟨fuel - 1, by omega⟩
    unfold fX6_readAll_30
    rw [nn_ch (show tein (0 : Int32) 92 = true by decide), l0, rt_371, hv, if_pos (show (9 : Int32) ≤ nI a by rw [li9, nn_le (by omega) (by omega)]; omega)]
    exact ra_end ht e (by omega) hv hp hd hok (fun h => ok_far (by omega) _)
  | d + 1, a, fuel, v, had, hf, hp, hv, hd, hok => by
    obtain ⟨f, rfl⟩ : ∃ f, fuel = f + 1 := ⟨fuel - 1, by omega⟩
    unfold fX6_readAll_30
    rw [nn_ch (show tein (0 : Int32) 92 = true by decide), l0, rt_371, hv, if_neg (show ¬ (9 : Int32) ≤ nI a by rw [li9, nn_le (by omega) (by omega)]; omega)]
    have d1 := eat_st (T := T) (v := v) (m := 109) (by decide) ht e hc hp
    rw [show nI 109 = 109 from rfl] at d1
    rcases d1 with ⟨h1, h2, h3⟩ | ⟨h1, h2⟩
    · rw [h3, nn_bd2, if_neg i1_0, show 1 + 8 * a + 1 = 2 + 8 * a by omega]
      have hm : okT (1 + 8 * a) (c (1 + 8 * a)) = true := by rw [ok_m (by omega)]; exact decide_eq_true h2
      obtain ⟨z, w, p', g1, g2, g3, g4, g5, g6⟩ := r6_rm (v := v) ht e hc (show a < 9 by omega) hv (show 2 + 8 * a ≤ t by omega)
      have hok2 : ∀ i, i < p' → okT i (c i) = true := fun i hi => by
        by_cases h5 : i < 1 + 8 * a
        · exact hok i h5
        · by_cases h6 : i = 1 + 8 * a
          · rw [h6]; exact hm
          · exact g4 i (by omega) hi
      rw [g1, nn_bd2]
      cases z
      · rw [if_pos (show bI false = 0 from rfl)]
        obtain ⟨q1, q2⟩ := g5 rfl
        exact ⟨false, w, p', rfl, g3, hok2, q2, (decide_eq_false (fun z => by omega)).symm, fun z => absurd z (by decide)⟩
      · rw [if_neg (show ¬ bI true = 0 by decide)]
        obtain ⟨q1, q2, q3, q4, q5⟩ := g6 rfl
        obtain rfl : p' = 1 + 8 * (a + 1) := by omega
        obtain ⟨z2, w2, p2, k1, k2, k3, k4, k5, k6⟩ := ra_loop ht e hc d (a + 1) f w (by omega) (by omega) g3 q2 (fun b hb => by
          by_cases hba : b = a
          · rw [hba]; exact q4
          · exact RD_cong (hd b (by omega)) (fun o ho => q5 _ (by omega) (by omega))) hok2
        refine ⟨z2, w2, p2, k1, k2, k3, k4, k5, fun hz => ?_⟩
        obtain ⟨n, n1, n2, n3, n4, n5⟩ := k6 hz
        exact ⟨n, n1, n2, n3, n4.trans q3, n5⟩
    · rw [h2, nn_bd2, if_pos rfl]
      exact ra_end ht e (by omega) hv hp hd hok (fun h => by rw [ok_m (by omega)]; exact decide_eq_false (h1 h))
theorem r6_ra (ht : t ≤ 90) (e : T 369 1 = nI t) (hc : ∀ i, i < t → c i ≤ 255 ∧ T 370 i = nI (c i)) : ∃ z w p', fX6_readAll T = some (bI z, RT T w p') ∧ RA c t (fun _ => 0) z w p' := by
  unfold fX6_readAll
  rw [nn_lt1, rt_i, nn_ch (show tein (0 : Int32) 92 = true by decide), nn_lt1, l0, rt_w, nn_ch (show tein (1 : Int32) 92 = true by decide), nn_lt1, l1, rt_w]
  have d1 := eat_st (T := T) (v := tup (tup (T 371) 0 0) 1 0) (p := 0) (m := 76) (by decide) ht e hc (by omega)
  rw [show nI 76 = 76 from rfl] at d1
  rcases d1 with ⟨h1, h2, h3⟩ | ⟨h1, h2⟩
  · rw [h3, nn_bd2, if_neg i1_0]
    obtain ⟨z, w, p', k1, k2, k3, k4, k5, k6⟩ := ra_loop ht e hc 9 0 2000 (tup (tup (T 371) 0 0) 1 0) rfl (by decide) (by omega) (by rw [tup_n _ _ (by decide), tup_s]; rfl) (fun b hb => absurd hb (by omega)) (fun i hi => by
      obtain rfl : i = 0 := by omega
      rw [ok_L]; exact decide_eq_true h2)
    refine ⟨z, w, p', k1, k2, k3, k4, k5, fun hz => ?_⟩
    obtain ⟨n, n1, n2, n3, n4, n5⟩ := k6 hz
    exact ⟨n, n1, n2, n3, n4.trans (tup_s _ _ _), n5⟩
  · rw [h2, nn_bd2, if_pos rfl]
    exact ⟨false, _, 0, rfl, by omega, fun i hi => absurd hi (by omega), fun h => by rw [ok_L]; exact decide_eq_false (h1 h), (decide_eq_false (fun z => by omega)).symm, fun z => absurd z (by decide)⟩
end S61
