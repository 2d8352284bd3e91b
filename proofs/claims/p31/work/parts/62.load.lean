/-! LOADING: the class reads -/
def nmb (c : Nat → Nat) : Nat → Nat → Nat → Nat
  | 0, _, x => x
  | d + 1, j, x => nmb c d (j + 1) (10 * x + (c j - 48))
theorem nmb_s (c : Nat → Nat) (d j x : Nat) : nmb c (d + 1) j x = nmb c d (j + 1) (10 * x + (c j - 48)) := rfl
theorem nmb_0 (c : Nat → Nat) (j x : Nat) : nmb c 0 j x = x := rfl
section S62
variable {t : Nat} {c : Nat → Nat} {S : teS}
theorem c4_num (ht : t ≤ 90) (e : S 361 0 = nI t) (hc : ∀ i, i < t → S 362 i = nI (c i)) {i D : Nat} (hi : i + D ≤ t) (h48 : ∀ k, i ≤ k → k < i + D → 48 ≤ c k) : ∀ (d j fuel x : Nat), j + d = i + D → i ≤ j → d < fuel → fX4_number_5 (nI i) (nI D) fuel S (nI x) (nI j) = some (nI (nmb c d j x))
  | 0, j, fuel, x, hj, hij, hf => by
    obtain ⟨f, rfl⟩ : ∃ f, fuel = f + 1 := ⟨fuel - 1, by omega⟩
    unfold fX4_number_5
    rw [nn_add, if_pos (by rw [nn_le (by omega) (by omega)]; omega), nmb_0]
  | d + 1, j, fuel, x, hj, hij, hf => by
    obtain ⟨f, rfl⟩ : ∃ f, fuel = f + 1 := ⟨fuel - 1, by omega⟩
    have hcj := h48 j hij (by omega)
    unfold fX4_number_5
    rw [nn_add, if_neg (by rw [nn_le (by omega) (by omega)]; omega), e, if_neg (by rw [nn_le (by omega) (by omega)]; omega), nn_in (by omega) (by decide), nn_tn (by omega), hc j (by omega), li10, nn_mul, nn_add, li48, nn_sub (by omega), nI_1, nmb_s, show 10 * x + c j - 48 = 10 * x + (c j - 48) by omega]
    exact c4_num ht e hc hi h48 d (j + 1) f _ (by omega) (by omega) (by omega)
theorem r4_num (ht : t ≤ 90) (e : S 361 0 = nI t) (hc : ∀ i, i < t → S 362 i = nI (c i)) {i D : Nat} (hi : i + D ≤ t) (h48 : ∀ k, i ≤ k → k < i + D → 48 ≤ c k) : fX4_number (nI i) (nI D) S = some (nI (nmb c D i 0)) := by
  unfold fX4_number
  exact c4_num ht e hc hi h48 D i 2000 0 rfl (by omega) (by omega)
theorem r1_add0 {n w L k : Nat} {x : Int32} {S : teS} (e0 : S k 0 = nI n) (hn : n < 9) (hL : L ≤ 9999) : fX1_add k (nI w) (nI L) x S = some (tst S k (sJoin (S k) n w L x)) := by
  unfold fX1_add
  rw [e0, li9, if_neg (by rw [nn_le (by omega) (by omega)]; omega), nn_in (by omega) (by decide), nn_tn (by omega)]
  have h : fX3_start k n (nI w) (nI L) x S = some (tst S k (sSta (S k) n w L x)) := c3_sta k n 1995 w L x S hL
  rw [h, nn_bd1, nn_lt1, teu_t, tst_s, tst_t, sta_o (by omega), e0, li1, nn_add]
  rfl
theorem RD_join {p : tePg} {a w L : Nat} {x : Int32} (hw : w = c (2 + 8 * a) - 48) (hL : L = 1000 * (c (3 + 8 * a) - 48) + 100 * (c (4 + 8 * a) - 48) + 10 * (c (5 + 8 * a) - 48) + (c (6 + 8 * a) - 48)) (h9 : ∀ l, l < 4 → c (3 + 8 * a + l) ≤ 57) (hx : x = nI (10 * (c (7 + 8 * a) - 48) + (c (8 + 8 * a) - 48))) : RD c a (sJoin p a w L x) := by
  have en : ∀ o, sJoin p a w L x (2 + 10 * a + o) = sSta p a w L x (2 + 10 * a + o) := fun o => by
    unfold sJoin
    rw [tup_n _ _ (by omega)]
  have k0 := h9 0 (by decide)
  have k1 := h9 1 (by decide)
  have k2 := h9 2 (by decide)
  have k3 := h9 3 (by decide)
  rw [show 3 + 8 * a + 0 = 3 + 8 * a by omega] at k0
  rw [show 3 + 8 * a + 1 = 4 + 8 * a by omega] at k1
  rw [show 3 + 8 * a + 2 = 5 + 8 * a by omega] at k2
  rw [show 3 + 8 * a + 3 = 6 + 8 * a by omega] at k3
  refine ⟨fun l hl => ?_, by rw [en, sta_4, hw], by rw [en, sta_5], by rw [en, sta_6, hx], by rw [en, sta_7], by rw [en, sta_8], by rw [en, sta_9]⟩
  rw [en]
  rcases (show l = 0 ∨ l = 1 ∨ l = 2 ∨ l = 3 by omega) with rfl | rfl | rfl | rfl
  · rw [sta_0, show 3 + 8 * a + 0 = 3 + 8 * a by omega]; exact congrArg nI (by omega)
  · rw [sta_1, show 3 + 8 * a + 1 = 4 + 8 * a by omega]; exact congrArg nI (by omega)
  · rw [sta_2, show 3 + 8 * a + 2 = 5 + 8 * a by omega]; exact congrArg nI (by omega)
  · rw [sta_3, show 3 + 8 * a + 3 = 6 + 8 * a by omega]; exact congrArg nI (by omega)
theorem ok_dig {i x : Nat} (h1 : 0 < i) (h2 : i ≤ 72) (h3 : 1 ≤ (i - 1) % 8) (h : okT i x = true) : 48 ≤ x ∧ x ≤ 57 ∧ ((i - 1) % 8 = 1 → x ≤ 51) := by
  unfold okT at h
  rw [if_neg (by omega), if_pos h2, if_neg (by omega), Bool.and_eq_true] at h
  have g1 := of_decide_eq_true h.1
  have g2 := of_decide_eq_true h.2
  by_cases hm : (i - 1) % 8 = 1
  · rw [if_pos hm] at g2
    exact ⟨g1, by omega, fun _ => g2⟩
  · rw [if_neg hm] at g2
    exact ⟨g1, g2, fun z => absurd z hm⟩
theorem c4_rd (ht : t ≤ 90) (e : S 361 0 = nI t) (hc : ∀ i, i < t → S 362 i = nI (c i)) {N : Nat} (hN : N ≤ 9) (htN : t = 1 + 8 * N) (hok : ∀ i, i < t → okT i (c i) = true) : ∀ (d a fuel : Nat) (p : tePg), a + d = N → d < fuel → p 0 = nI a → p 1 = 0 → (∀ b, b < a → RD c b p) →
    ∃ q, fX4_readInto_12 0 fuel (tst S 0 p) (nI (1 + 8 * a)) = some (tst S 0 q) ∧ q 0 = nI N ∧ q 1 = 0 ∧ ∀ b, b < N → RD c b q
  | 0, a, fuel, p, had, hf, p0, p1, hd => by
    obtain ⟨f, rfl⟩ : ∃ f, fuel = f + 1 := ⟨fuel - 1, by omega⟩
    obtain rfl : a = N := by omega
    unfold fX4_readInto_12
    rw [tst_n _ _ (show 361 ≠ 0 by decide), e, li8, nn_add, if_pos (by rw [nn_lt (by omega) (by omega)]; omega)]
    exact ⟨p, rfl, p0, p1, hd⟩
  | d + 1, a, fuel, p, had, hf, p0, p1, hd => by
    obtain ⟨f, rfl⟩ : ∃ f, fuel = f + 1 := ⟨fuel - 1, by omega⟩
    have e' : tst S 0 p 361 0 = nI t := by rw [tst_n _ _ (by decide)]; exact e
    have hc' : ∀ i, i < t → tst S 0 p 362 i = nI (c i) := fun i hi => by rw [tst_n _ _ (by decide)]; exact hc i hi
    have hg : ∀ j, 2 ≤ j → j ≤ 8 → 48 ≤ c (j + 8 * a) ∧ c (j + 8 * a) ≤ 57 ∧ ((j + 8 * a - 1) % 8 = 1 → c (j + 8 * a) ≤ 51) := fun j h1 h2 => ok_dig (by omega) (by omega) (by omega) (hok _ (by omega))
    have h48 : ∀ k, 2 + 8 * a ≤ k → k < 9 + 8 * a → 48 ≤ c k := fun k h1 h2 => by
      have := (hg (k - 8 * a) (by omega) (by omega)).1
      rw [show k - 8 * a + 8 * a = k by omega] at this
      exact this
    have n1 := r4_num (S := tst S 0 p) ht e' hc' (i := 2 + 8 * a) (D := 1) (by omega) (fun k h1 h2 => h48 k (by omega) (by omega))
    have n2 := r4_num (S := tst S 0 p) ht e' hc' (i := 3 + 8 * a) (D := 4) (by omega) (fun k h1 h2 => h48 k (by omega) (by omega))
    have n3 := r4_num (S := tst S 0 p) ht e' hc' (i := 7 + 8 * a) (D := 2) (by omega) (fun k h1 h2 => h48 k (by omega) (by omega))
    have i1 : nI (1 + 8 * a) + 1 = nI (2 + 8 * a) := by rw [nI_1, show 1 + 8 * a + 1 = 2 + 8 * a by omega]
    have i2 : nI (1 + 8 * a) + 2 = nI (3 + 8 * a) := by rw [li2, nn_add, show 1 + 8 * a + 2 = 3 + 8 * a by omega]
    have i6 : nI (1 + 8 * a) + 6 = nI (7 + 8 * a) := by rw [li6, nn_add, show 1 + 8 * a + 6 = 7 + 8 * a by omega]
    have i8 : nI (1 + 8 * a) + 8 = nI (1 + 8 * (a + 1)) := by rw [li8, nn_add, show 1 + 8 * a + 8 = 1 + 8 * (a + 1) by omega]
    have g2 := hg 2 (by decide) (by decide)
    have g3 := hg 3 (by decide) (by decide)
    have g4 := hg 4 (by decide) (by decide)
    have g5 := hg 5 (by decide) (by decide)
    have g6 := hg 6 (by decide) (by decide)
    have hL : nmb c 4 (3 + 8 * a) 0 = 1000 * (c (3 + 8 * a) - 48) + 100 * (c (4 + 8 * a) - 48) + 10 * (c (5 + 8 * a) - 48) + (c (6 + 8 * a) - 48) := by
      rw [nmb_s, nmb_s, nmb_s, nmb_s, nmb_0, show 3 + 8 * a + 1 = 4 + 8 * a by omega, show 4 + 8 * a + 1 = 5 + 8 * a by omega, show 5 + 8 * a + 1 = 6 + 8 * a by omega]
      omega
    have hX : nmb c 2 (7 + 8 * a) 0 = 10 * (c (7 + 8 * a) - 48) + (c (8 + 8 * a) - 48) := by
      rw [nmb_s, nmb_s, nmb_0, show 7 + 8 * a + 1 = 8 + 8 * a by omega]
      omega
    have hw : nmb c 1 (2 + 8 * a) 0 = c (2 + 8 * a) - 48 := by
      rw [nmb_s, nmb_0]
      omega
    have hadd := r1_add0 (k := 0) (S := tst S 0 p) (n := a) (w := nmb c 1 (2 + 8 * a) 0) (L := nmb c 4 (3 + 8 * a) 0) (x := nI (nmb c 2 (7 + 8 * a) 0)) (by rw [tst_s]; exact p0) (by omega) (by rw [hL]; omega)
    rw [tst_s, tst_t] at hadd
    unfold fX4_readInto_12
    rw [e', i8, if_neg (by rw [nn_lt (by omega) (by omega)]; omega), i1, i2, i6, show fX4_number (nI (2 + 8 * a)) 1 (tst S 0 p) = _ from n1, nn_bd1, show fX4_number (nI (3 + 8 * a)) 4 (tst S 0 p) = _ from n2, nn_bd1, show fX4_number (nI (7 + 8 * a)) 2 (tst S 0 p) = _ from n3, nn_bd1, hadd, nn_bd1]
    refine c4_rd ht e hc hN htN hok d (a + 1) f _ (by omega) (by omega) (by unfold sJoin; rw [tup_s]) (by unfold sJoin; rw [tup_n _ _ (by decide), sta_o (by omega)]; exact p1) (fun b hb => ?_)
    by_cases hba : b = a
    · subst hba
      exact RD_join hw hL (fun l hl => by
        have := (hg (3 + l) (by omega) (by omega)).2.1
        rw [show 3 + l + 8 * b = 3 + 8 * b + l by omega] at this
        exact this) (by rw [hX])
    · exact RD_cong (hd b (by omega)) (fun o ho => by
        unfold sJoin
        rw [tup_n _ _ (by omega), sta_o (by omega)])
/-- a page that shows what the text tells -/
theorem wf_RD {N M : Nat} {v : tePg} (hN : N ≤ 9) (hM : M < 100000) (hok : ∀ i, i < 1 + 8 * N → okT i (c i) = true) (v0 : v 0 = nI N) (hd : ∀ b, b < N → RD c b v) : WF N M v := by
  refine ⟨hN, hM, v0, fun a ha => ?_⟩
  have hg : ∀ j, 2 ≤ j → j ≤ 8 → 48 ≤ c (j + 8 * a) ∧ c (j + 8 * a) ≤ 57 ∧ ((j + 8 * a - 1) % 8 = 1 → c (j + 8 * a) ≤ 51) := fun j h1 h2 => ok_dig (by omega) (by omega) (by omega) (hok _ (by omega))
  obtain ⟨q1, q2, q3, q4, q5, q6, q7⟩ := hd a ha
  have g2 := hg 2 (by decide) (by decide)
  have g7 := hg 7 (by decide) (by decide)
  have g8 := hg 8 (by decide) (by decide)
  refine ⟨fun l hl => ⟨c (3 + 8 * a + l) - 48, ?_, q1 l hl⟩, ⟨c (2 + 8 * a) - 48, by have := g2.2.2 (by omega); omega, q2⟩, ⟨10 * (c (7 + 8 * a) - 48) + (c (8 + 8 * a) - 48) + 99, by omega, ?_⟩, ⟨0, by omega, q5⟩, Or.inl ⟨q6, q7⟩⟩
  · have := (hg (3 + l) (by omega) (by omega)).2.1
    rw [show 3 + l + 8 * a = 3 + 8 * a + l by omega] at this
    omega
  · rw [q4, show (99 : Int32) = nI 99 from rfl, nn_sub (by omega), Nat.add_sub_cancel]
theorem PE_RD {N : Nat} {p v : tePg} (e0 : p 0 = v 0) (e1 : p 1 = v 1) (hp : ∀ b, b < N → RD c b p) (hv : ∀ b, b < N → RD c b v) : PE N p v := by
  refine ⟨e0, e1, fun a ha => ?_⟩
  obtain ⟨q1, q2, q3, q4, q5, q6, q7⟩ := hp a ha
  obtain ⟨k1, k2, k3, k4, k5, k6, k7⟩ := hv a ha
  refine ⟨fun o ho => ?_, fun _ => by rw [q7, k7]⟩
  rcases (show o < 4 ∨ o = 4 ∨ o = 5 ∨ o = 6 ∨ o = 7 ∨ o = 8 by omega) with h | rfl | rfl | rfl | rfl | rfl
  · rw [q1 o h, k1 o h]
  · rw [q2, k2]
  · rw [q3, k3]
  · rw [q4, k4]
  · rw [q5, k5]
  · rw [q6, k6]
end S62
