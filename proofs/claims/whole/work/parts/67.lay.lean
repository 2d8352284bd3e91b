/-! THE REFERENCE lays its sets -/
def LT (T : teS) (p q : tePg) : teS := tst (tst T 377 p) 378 q
section S67
variable {n M : Nat} {v : tePg} {T : teS} {p q : tePg}
theorem lt_7 : LT T p q 377 = p := by unfold LT; rw [tst_n _ _ (by decide), tst_s]
theorem lt_8 : LT T p q 378 = q := by unfold LT; rw [tst_s]
theorem lt_o {a : Nat} (h1 : a ≠ 377) (h2 : a ≠ 378) : LT T p q a = T a := by unfold LT; rw [tst_n _ _ h2, tst_n _ _ h1]
theorem lt_w7 (j : Nat) (x : Int32) : teu (LT T p q) 377 j x = LT T (tup p j x) q := by
  rw [teu_t, lt_7]
  unfold LT
  rw [tst_c _ (show 378 ≠ 377 by decide), tst_t]
theorem lt_w8 (j : Nat) (x : Int32) : teu (LT T p q) 378 j x = LT T p (tup q j x) := by
  rw [teu_t, lt_8]
  unfold LT
  rw [tst_t]
/-- what the reference has laid for a list -/
def PQ (v : tePg) (l : List Nat) (x y : Int32) : Prop := ∃ P : Nat, x = nI P ∧ P ≤ l.length ∧ -50300 * (P : Int) ≤ y.toInt ∧ y.toInt ≤ 50300 * (P : Int) ∧ VL v l (1000000 * (P : Int) + y.toInt)
def PR (v : tePg) (l : List Nat) (a b : Nat) (x y : Int32) : Prop := ∃ P : Nat, x = nI P ∧ P ≤ l.length + 1 ∧ -50300 * (P : Int) ≤ y.toInt ∧ y.toInt ≤ 50300 * (P : Int) ∧ PB (sFit v) (Wt v) l a b (1000000 * (P : Int) + y.toInt)
theorem PR_0 {l : List Nat} {a b : Nat} {x y : Int32} (h : PQ v l x y) (hb : ∀ c, c ∈ l → b ≤ c) : PR v l a b x y := by
  obtain ⟨P, h1, h2, h3, h4, h5⟩ := h
  exact ⟨P, h1, by omega, h3, h4, PB_0 h5 hb⟩
theorem PR_end {l l' : List Nat} {a b : Nat} {x y : Int32} (h : PR v l a b x y) (hb : ∀ c, c ∈ l → c < b) (hp : (a :: l).Perm l') (hn : (a :: l).Nodup) : PQ v l' x y := by
  obtain ⟨P, h1, h2, h3, h4, h5⟩ := h
  exact ⟨P, h1, by rw [← hp.length_eq, List.length_cons]; exact h2, h3, h4, VL_perm hp hn (PB_end h5 hb)⟩
theorem l6_0 (q2 : teS → Int32 → Option teS) (k : teS → Int32 → Int32 → Int32 → Int32 → Option teS) {s : Nat} (hs : s < 512) (a r b m x : Int32) : fX6_laySets_208 372 q2 k (LT T p q) (nI s) a r b m x 0 = k (LT T p q) (nI s) a r (b + 1) := by
  unfold fX6_laySets_208
  rw [if_pos rfl, nn_in hs (by decide)]
  unfold fX6_laySets_231
  rw [nn_in hs (by decide), nn_lt1, lt_w7, if_pos rfl, nn_lt1, nn_tn (by omega), lt_w8, lt_7, lt_8, tup_i, tup_i, nn_in hs (by decide)]
theorem l6_1 (q2 : teS → Int32 → Option teS) (k : teS → Int32 → Int32 → Int32 → Int32 → Option teS) {s : Nat} (hs : s < 512) (a r b m x : Int32) : fX6_laySets_208 372 q2 k (LT T p q) (nI s) a r b m x 1 = k (LT T (tup p s m) (tup q s x)) (nI s) a r (b + 1) := by
  unfold fX6_laySets_208
  rw [if_neg i1_0]
  unfold fX6_laySets_231
  rw [nn_in hs (by decide), nn_lt1, lt_w7, if_neg i1_0, nn_in hs (by decide), nn_lt1, nn_tn (by omega), lt_w8]
theorem l6_102 (hW : WF n M v) (hM : M ≤ 5000) (hT : T 372 = v) (q2 : teS → Int32 → Option teS) {s a r : Nat} (hs : s < 512) (ha : a < n) (hr : r < s) (hl3 : (sm n r).length ≤ 8) : ∀ (d b fuel : Nat) (p q : tePg), b + d = n → d < fuel → a < b → (∀ m, m < s → PQ v (sm n m) (p m) (q m)) → PR v (sm n r) a b (p s) (q s) →
    ∃ p' q', fX6_laySets_102 372 q2 fuel (LT T p q) (nI s) (nI a) (nI r) (nI b) = q2 (LT T p' q') (nI (s + 1)) ∧ (∀ m, m < s → PQ v (sm n m) (p' m) (q' m)) ∧ PR v (sm n r) a n (p' s) (q' s)
  | 0, b, fuel, p, q, hb, hf, hab, hI, hp => by
    obtain ⟨f, rfl⟩ : ∃ f, fuel = f + 1 := ⟨fuel - 1, by omega⟩
    have h9 := hW.1
    obtain rfl : b = n := by omega
    unfold fX6_laySets_102
    rw [nn_ch (show tein (0 : Int32) (teI 372) = true by decide), l0, lt_o (by decide) (by decide), hT, hW.2.2.1, if_pos (Int32.le_refl _), nI_1]
    exact ⟨p, q, rfl, hI, hp⟩
  | d + 1, b, fuel, p, q, hb, hf, hab, hI, hp => by
    obtain ⟨f, rfl⟩ : ∃ f, fuel = f + 1 := ⟨fuel - 1, by omega⟩
    have h9 := hW.1
    have hr5 : r < 512 := by omega
    have ih := l6_102 hW hM hT q2 hs ha hr hl3 d (b + 1) f
    have i1 : nI b + 1 = nI (b + 1) := nI_1 b
    unfold fX6_laySets_102
    rw [nn_ch (show tein (0 : Int32) (teI 372) = true by decide), l0, lt_o (by decide) (by decide), hT, hW.2.2.1, if_neg (by rw [nn_le (by omega) (by omega)]; omega)]
    cases hbit : r.testBit b
    · rw [if_neg (bit_n hr5 (by omega) hbit), i1]
      exact ih p q (by omega) (by omega) (by omega) hI (by
        obtain ⟨P, h1, h2, h3, h4, h5⟩ := hp
        exact ⟨P, h1, h2, h3, h4, PB_skip h5 fun h _ => by
          have h6 := (sm_in.mp h).2
          rw [hbit] at h6
          exact absurd h6 (by decide)⟩)
    · rw [if_pos (bit_p hr5 (by omega) hbit), r6_fit rfl hW (by rw [lt_o (by decide) (by decide)]; exact hT) ha (show b < n by omega), nn_bd1, bI_if]
      cases hft : sFit v a b
      · rw [if_pos rfl, i1]
        exact ih p q (by omega) (by omega) (by omega) hI (by
          obtain ⟨P, h1, h2, h3, h4, h5⟩ := hp
          exact ⟨P, h1, h2, h3, h4, PB_skip h5 fun _ h => by
            rw [hft] at h
            exact absurd h (by decide)⟩)
      · have hcl := clr_lt hr5 (show b < 9 by omega) hbit
        obtain ⟨P', e1, e2, e3, e4, e5⟩ := hI (clr r b) (by omega)
        obtain ⟨P, h1, h2, h3, h4, h5⟩ := hp
        obtain ⟨w0, w1⟩ := vl_b hW hM ha (show b < n by omega)
        have hbs : b ∈ sm n r := sm_in.mpr ⟨by omega, hbit⟩
        have hl1 := sm_len n r
        have hl2 : (sm n (clr r b)).length + 1 = (sm n r).length := by
          rw [(sm_clr (n := n) (m := r) (b := b)).length_eq, List.length_erase_of_mem hbs]
          have : 0 < (sm n r).length := List.length_pos_of_mem hbs
          omega
        have t2 : (q (clr r b) + sVal v a b).toInt = (q (clr r b)).toInt + (sVal v a b).toInt := ti_add rfl rfl (by omega) (by omega)
        have hT2 : VL v ((sm n r).erase b) (1000000 * ((P' + 1 : Nat) : Int) + (q (clr r b) + sVal v a b).toInt - Wt v a b) := by
          have e6 : 1000000 * ((P' + 1 : Nat) : Int) + (q (clr r b) + sVal v a b).toInt - Wt v a b = 1000000 * (P' : Int) + (q (clr r b)).toInt := by
            unfold Wt
            rw [t2]
            omega
          rw [e6]
          exact VL_perm sm_clr (sm_nd _ _) e5
        have no : (1000000 * ((P' + 1 : Nat) : Int) + (q (clr r b) + sVal v a b).toInt ≤ 1000000 * (P : Int) + (q s).toInt) → PR v (sm n r) a (b + 1) (p s) (q s) := fun hle => ⟨P, h1, h2, h3, h4, PB_take h5 hbs hft hT2 fun x => by omega⟩
        have yes : (1000000 * (P : Int) + (q s).toInt ≤ 1000000 * ((P' + 1 : Nat) : Int) + (q (clr r b) + sVal v a b).toInt) → PR v (sm n r) a (b + 1) (tup p s (nI (P' + 1)) s) (tup q s (q (clr r b) + sVal v a b) s) := fun hle => by
          rw [tup_s, tup_s]
          exact ⟨P' + 1, rfl, by omega, by rw [t2]; omega, by rw [t2]; omega, PB_take h5 hbs hft hT2 fun x => by omega⟩
        have hI2 : ∀ m, m < s → PQ v (sm n m) (tup p s (nI (P' + 1)) m) (tup q s (q (clr r b) + sVal v a b) m) := fun m hm => by
          rw [tup_n _ _ (by omega), tup_n _ _ (by omega)]
          exact hI m hm
        rw [if_neg (show ¬ true = false by decide), clr_i hr5 (show b < 9 by omega), nn_in (by omega) (by decide), r6_value rfl hW (by rw [lt_o (by decide) (by decide)]; exact hT) ha (show b < n by omega), nn_bd1, nn_in hs (by decide), nn_tn (show s < 2147483648 by omega), nn_tn (show clr r b < 2147483648 by omega), lt_7, lt_8, h1, e1, nI_1]
        by_cases c1 : P < P' + 1
        · rw [if_pos (by rw [nn_lt (by omega) (by omega)]; exact c1), l6_1 _ _ hs, i1]
          exact ih _ _ (by omega) (by omega) (by omega) hI2 (yes (by rw [t2]; omega))
        · rw [if_neg (by rw [nn_lt (by omega) (by omega)]; exact c1)]
          by_cases c2 : P' + 1 = P
          · rw [if_pos (by rw [c2])]
            by_cases c3 : q (clr r b) + sVal v a b ≤ q s
            · rw [if_pos c3, l6_0 _ _ hs, i1]
              rw [Int32.le_iff_toInt_le] at c3
              exact ih _ _ (by omega) (by omega) (by omega) hI (no (by omega))
            · rw [if_neg c3, l6_1 _ _ hs, i1]
              rw [Int32.le_iff_toInt_le] at c3
              exact ih _ _ (by omega) (by omega) (by omega) hI2 (yes (by omega))
          · rw [if_neg (by rw [nn_eq (by omega) (by omega)]; exact c2), l6_0 _ _ hs, i1]
            exact ih _ _ (by omega) (by omega) (by omega) hI (no (by rw [t2]; omega))
theorem l6_ex (hW : WF n M v) (hT : T 372 = v) (q2 : teS → Int32 → Option teS) {s b : Nat} (hb : n ≤ b) (hb2 : b < 100) (f : Nat) (x y : Int32) : fX6_laySets_102 372 q2 (f + 1) (LT T p q) (nI s) x y (nI b) = q2 (LT T p q) (nI (s + 1)) := by
  have h9 := hW.1
  unfold fX6_laySets_102
  rw [nn_ch (show tein (0 : Int32) (teI 372) = true by decide), l0, lt_o (by decide) (by decide), hT, hW.2.2.1, if_pos (by rw [nn_le (by omega) (by omega)]; exact hb), nI_1]
theorem l6_62A (hW : WF n M v) (hM : M ≤ 5000) (hT : T 372 = v) (q2 : teS → Int32 → Option teS) {s a : Nat} (hs : s < 512) (ha : a < n) (hbit : s.testBit a = true) (hlow : ∀ c, c < a → s.testBit c = false) (hI : ∀ m, m < s → PQ v (sm n m) (p m) (q m)) :
    ∃ p' q', fX6_laySets_62 372 q2 (LT T p q) (nI s) (nI a) (nI (clr s a)) = q2 (LT T p' q') (nI (s + 1)) ∧ ∀ m, m < s + 1 → PQ v (sm n m) (p' m) (q' m) := by
  have h9 := hW.1
  have hcl := clr_lt hs (show a < 9 by omega) hbit
  obtain ⟨hp, hna⟩ := sm_low ha hbit
  have hlen : (sm n (clr s a)).length ≤ 8 := by
    have h1 := hp.length_eq
    rw [List.length_cons] at h1
    have h2 := sm_len n s
    omega
  unfold fX6_laySets_62
  rw [nn_ch (show tein (0 : Int32) (teI 372) = true by decide), l0, lt_o (by decide) (by decide), hT, hW.2.2.1, if_neg (by rw [nn_le (by omega) (by omega)]; omega), nn_in (show clr s a < 512 by omega) (by decide), nn_in hs (by decide), nn_lt1, nn_tn (show s < 2147483648 by omega), nn_tn (show clr s a < 2147483648 by omega), lt_w7, lt_7, nn_lt1, lt_w8, lt_8, nI_1]
  obtain ⟨p', q', k1, k2, k3⟩ := l6_102 hW hM hT q2 hs ha hcl hlen (n - (a + 1)) (a + 1) 2000 (tup p s (p (clr s a))) (tup q s (q (clr s a))) (by omega) (by omega) (by omega) (fun m hm => by
    rw [tup_n _ _ (by omega), tup_n _ _ (by omega)]
    exact hI m hm) (by
    rw [tup_s, tup_s]
    refine PR_0 (hI _ hcl) (fun c hc => ?_)
    have h1 := (sm_in.mp hc).2
    rw [clr_tb, Bool.and_eq_true] at h1
    by_cases h2 : c < a
    · rw [hlow c h2] at h1
      exact absurd h1.1 (by decide)
    · by_cases h3 : c = a
      · rw [decide_eq_true h3.symm] at h1
        exact absurd h1.2 (by decide)
      · omega)
  refine ⟨p', q', k1, fun m hm => ?_⟩
  by_cases hms : m = s
  · rw [hms]
    exact PR_end k3 (fun c hc => (sm_in.mp hc).1) hp (List.nodup_cons.mpr ⟨hna, sm_nd _ _⟩)
  · exact k2 m (by omega)
theorem l6_62B (hW : WF n M v) (hT : T 372 = v) (q2 : teS → Int32 → Option teS) {s a : Nat} (ha : n ≤ a) (ha9 : a ≤ 9) (hlow : ∀ c, c < a → s.testBit c = false) (h1 : p s = 0) (h2 : q s = 0) (hI : ∀ m, m < s → PQ v (sm n m) (p m) (q m)) (x : Int32) :
    ∃ p' q', fX6_laySets_62 372 q2 (LT T p q) (nI s) (nI a) x = q2 (LT T p' q') (nI (s + 1)) ∧ ∀ m, m < s + 1 → PQ v (sm n m) (p' m) (q' m) := by
  have h9 := hW.1
  unfold fX6_laySets_62
  rw [nn_ch (show tein (0 : Int32) (teI 372) = true by decide), l0, lt_o (by decide) (by decide), hT, hW.2.2.1, if_pos (by rw [nn_le (by omega) (by omega)]; exact ha), nI_1, l6_ex hW hT q2 (show n ≤ a + 1 by omega) (by omega) 1999]
  refine ⟨p, q, rfl, fun m hm => ?_⟩
  by_cases hms : m = s
  · rw [hms, h1, h2]
    have hnil : sm n s = [] := by
      cases h : sm n s with
      | nil => rfl
      | cons b r =>
        have h3 : b ∈ sm n s := by rw [h]; exact List.mem_cons_self
        have h4 := sm_in.mp h3
        rw [hlow b (by omega)] at h4
        exact absurd h4.2 (by decide)
    rw [hnil]
    exact ⟨0, rfl, by decide, by decide, by decide, Val_nil⟩
  · exact hI m (by omega)
theorem l6_25 (q2 : teS → Int32 → Option teS) (U : teS) {s : Nat} (hs : s < 512) : ∀ (d a fuel : Nat), a + d = 9 → d < fuel → (∀ c, c < a → s.testBit c = false) → ∃ a', a' ≤ 9 ∧ (a' < 9 → s.testBit a' = true) ∧ (∀ c, c < a' → s.testBit c = false) ∧ fX6_laySets_25 372 q2 fuel U (nI s) (nI a) = fX6_laySets_45 372 q2 U (nI s) (nI a')
  | 0, a, fuel, had, hf, hlow => by
    obtain ⟨f, rfl⟩ : ∃ f, fuel = f + 1 := ⟨fuel - 1, by omega⟩
    unfold fX6_laySets_25
    rw [if_pos (by rw [li9, nn_le (by omega) (by omega)]; omega)]
    exact ⟨a, by omega, fun h => absurd h (by omega), hlow, rfl⟩
  | d + 1, a, fuel, had, hf, hlow => by
    obtain ⟨f, rfl⟩ : ∃ f, fuel = f + 1 := ⟨fuel - 1, by omega⟩
    unfold fX6_laySets_25
    rw [if_neg (by rw [li9, nn_le (by omega) (by omega)]; omega)]
    cases hbit : s.testBit a
    · rw [if_pos (bit0_p hs (by omega) hbit), nI_1]
      exact l6_25 q2 U hs d (a + 1) f (by omega) (by omega) (fun c hc => by
        by_cases hca : c = a
        · rw [hca]; exact hbit
        · exact hlow c (by omega))
    · rw [if_neg (bit0_n hs (by omega) hbit)]
      exact ⟨a, by omega, fun _ => hbit, hlow, rfl⟩
theorem l6_2 (hW : WF n M v) (hM : M ≤ 5000) (hT : T 372 = v) : ∀ (d s fuel : Nat) (p q : tePg), s + d = 512 → d < fuel → (∀ m, m < s → PQ v (sm n m) (p m) (q m)) → ∃ p' q', fX6_laySets_2 372 fuel (LT T p q) (nI s) = some (LT T p' q') ∧ ∀ m, m < 512 → PQ v (sm n m) (p' m) (q' m)
  | 0, s, fuel, p, q, hsd, hf, hI => by
    obtain ⟨f, rfl⟩ : ∃ f, fuel = f + 1 := ⟨fuel - 1, by omega⟩
    obtain rfl : s = 512 := by omega
    unfold fX6_laySets_2
    rw [if_pos (show (512 : Int32) ≤ nI 512 by decide)]
    exact ⟨p, q, rfl, hI⟩
  | d + 1, s, fuel, p, q, hsd, hf, hI => by
    obtain ⟨f, rfl⟩ : ∃ f, fuel = f + 1 := ⟨fuel - 1, by omega⟩
    have h9 := hW.1
    have hs : s < 512 := by omega
    have hI2 : ∀ m, m < s → PQ v (sm n m) (tup p s 0 m) (tup q s 0 m) := fun m hm => by
      rw [tup_n _ _ (by omega), tup_n _ _ (by omega)]
      exact hI m hm
    obtain ⟨a, a1, a2, a3, a4⟩ := l6_25 (fX6_laySets_2 372 f) (LT T (tup p s 0) (tup q s 0)) hs 9 0 2000 rfl (by decide) (fun c hc => absurd hc (by omega))
    have key : ∃ p' q', fX6_laySets_45 372 (fX6_laySets_2 372 f) (LT T (tup p s 0) (tup q s 0)) (nI s) (nI a) = fX6_laySets_2 372 f (LT T p' q') (nI (s + 1)) ∧ ∀ m, m < s + 1 → PQ v (sm n m) (p' m) (q' m) := by
      unfold fX6_laySets_45
      by_cases h : a = 9
      · rw [if_pos (show nI a = 9 by rw [h]; rfl)]
        exact l6_62B hW hT _ (by omega) a1 a3 (tup_s _ _ _) (tup_s _ _ _) hI2 0
      · rw [if_neg (show ¬ nI a = 9 by rw [li9, nn_eq (by omega) (by omega)]; exact h), clr_i hs (by omega)]
        by_cases hn : a < n
        · exact l6_62A hW hM hT _ hs hn (a2 (by omega)) a3 hI2
        · exact l6_62B hW hT _ (by omega) a1 a3 (tup_s _ _ _) (tup_s _ _ _) hI2 _
    obtain ⟨p1, q1, k1, k2⟩ := key
    obtain ⟨p2, q2, k3, k4⟩ := l6_2 hW hM hT d (s + 1) f p1 q1 (by omega) (by omega) k2
    refine ⟨p2, q2, ?_, k4⟩
    unfold fX6_laySets_2
    rw [if_neg (show ¬ (512 : Int32) ≤ nI s by rw [show (512 : Int32) = nI 512 from rfl, nn_le (by omega) (by omega)]; omega), nn_in hs (by decide), nn_lt1, nn_tn (by omega), lt_w7, nn_lt1, lt_w8]
    exact (a4.trans k1).trans k3
theorem lt_i (T : teS) : LT T (T 377) (T 378) = T := by
  unfold LT
  rw [tst_i, tst_i]
theorem r6_lay (hW : WF n M v) (hM : M ≤ 5000) (hT : T 372 = v) : ∃ p q, fX6_laySets 372 T = some (LT T p q) ∧ ∀ m, m < 512 → PQ v (sm n m) (p m) (q m) := by
  obtain ⟨p, q, k1, k2⟩ := l6_2 hW hM hT 512 0 2000 (T 377) (T 378) rfl (by decide) (fun m hm => absurd hm (by omega))
  rw [lt_i] at k1
  exact ⟨p, q, k1, k2⟩
end S67
