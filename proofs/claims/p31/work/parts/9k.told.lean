/-! TOLD: the text, sign by sign -/
def okL (t : List Nat) : Prop := ∀ i, i < t.length → okT i (tc t i) = true
def tX (z : aS) (t : List Nat) : aS := (z.1, (z.2.1, (z.2.2.1, t)))
theorem nn_bd3 {α γ δ β : Type} (a : α) (b : γ) (c : δ) (k : α → γ → δ → Option β) : bd3 (some (a, (b, c))) k = k a b c := rfl
section S9K
variable {z : aS}
theorem tc_app {t : List Nat} {c i : Nat} : tc (t ++ [c]) i = if i = t.length then c else tc t i := by
  unfold tc
  by_cases h : i = t.length
  · rw [if_pos h, h, List.getD_eq_getElem?_getD, List.getElem?_append_right (Nat.le_refl _), Nat.sub_self]; rfl
  · rw [if_neg h, List.getD_eq_getElem?_getD, List.getD_eq_getElem?_getD]
    rcases Nat.lt_or_ge i t.length with h1 | h1
    · rw [List.getElem?_append_left h1]
    · rw [List.getElem?_eq_none (by rw [List.length_append, List.length_singleton]; omega), List.getElem?_eq_none (by omega)]
theorem okL_app {t : List Nat} {c : Nat} (h : okL t) (hc : okT t.length c = true) : okL (t ++ [c]) := fun i hi => by
  rw [List.length_append, List.length_singleton] at hi
  rw [tc_app]
  by_cases h1 : i = t.length
  · rw [if_pos h1, h1]; exact hc
  · rw [if_neg h1]; exact h i (by omega)
theorem len_app {t : List Nat} {c n : Nat} (h : t.length = n) : (t ++ [c]).length = n + 1 := by
  rw [List.length_append, List.length_singleton, h]
theorem put_ok {c : Nat} (hc : c ≤ 255) (ht : z.2.2.2.length < 90) : hL_put (nI c) z z = some (1, (tX z (z.2.2.2 ++ [c]), tX z (z.2.2.2 ++ [c]))) := by
  have hr : rg 0 255 (nI c) = true := by
    unfold rg
    rw [decide_eq_true (nI_pos (show c < 2147483648 by omega)), Bool.true_and]
    exact decide_eq_true (by rw [show (255 : Int32) = nI 255 from rfl, nn_lt (by decide) (by omega)]; omega)
  have e : A_tryAppend z (nI c) = some (nI (z.2.2.2.length + 1), tX z (z.2.2.2 ++ [c])) := by
    unfold A_tryAppend
    rw [hr, ifT, if_pos ht, nn_tn (by omega)]; rfl
  have hp : ¬ nI (z.2.2.2.length + 1) ≤ 0 := by
    rw [li0, nn_le (by omega) (by decide)]; omega
  unfold hL_put
  rw [e, nn_bd2, if_neg hp, nn_bd2, if_neg hp]
theorem ep_ok (h : okL z.2.2.2) : A_errorPosition z = feA z.2.2.2.length z.2.2.2.length := by
  obtain ⟨p1, p2, p3⟩ := fpos_p (tc z.2.2.2) z.2.2.2.length 0 z.2.2.2.length (Nat.zero_add _) (fun j hj => absurd hj (by omega))
  unfold A_errorPosition
  congr 1
  rcases Nat.lt_or_ge (fpos (tc z.2.2.2) z.2.2.2.length 0) z.2.2.2.length with h1 | h1
  · have := p3 h1
    rw [h _ h1] at this
    cases this
  · omega
theorem ep_9 (h : okL z.2.2.2) {i : Nat} (hl : z.2.2.2.length = 1 + 8 * i) : A_errorPosition z = -9999 := by
  rw [ep_ok h]
  unfold feA
  rw [if_pos ⟨rfl, by omega, by omega⟩]
theorem ep_n (h : okL z.2.2.2) {k : Nat} (hl : z.2.2.2.length = k) (hk : ¬ (k - 1) % 8 = 0 ∨ k = 0) : A_errorPosition z = nI k := by
  rw [ep_ok h, hl]
  unfold feA
  rw [if_neg (fun e => by omega)]
theorem okT_m {i : Nat} (h : i ≤ 8) : okT (1 + 8 * i) 109 = true := by
  unfold okT
  rw [if_neg (by omega), if_pos (by omega), if_pos (by omega)]; rfl
theorem okT_w {i c : Nat} (h : i ≤ 8) (hc : c ≤ 3) : okT (2 + 8 * i) (48 + c) = true := by
  unfold okT
  rw [if_neg (by omega), if_pos (by omega), if_neg (by omega), if_pos (by omega), decide_eq_true (show 48 ≤ 48 + c by omega), decide_eq_true (show 48 + c ≤ 51 by omega)]; rfl
theorem okT_d {i j c : Nat} (h : i ≤ 8) (hj : 3 ≤ j) (hj8 : j ≤ 8) (hc : c ≤ 9) : okT (j + 8 * i) (48 + c) = true := by
  unfold okT
  rw [if_neg (by omega), if_pos (by omega), if_neg (by omega), if_neg (by omega), decide_eq_true (show 48 ≤ 48 + c by omega), decide_eq_true (show 48 + c ≤ 57 by omega)]; rfl
theorem sh_8 : ∀ j : Fin 4, (32 : Int32) <<< (((3 : Int32) * nI j.val) &&& 31) = nI (32 * 8 ^ j.val) := by decide +kernel
theorem dig (u p : Nat) (hu : u < 2147483648) (h0 : 0 < p) (hp : p < 2147483648) : (48 : Int32) + (nI u / nI p - nI u / nI p / 10 * 10) = nI (48 + u / p % 10) := by
  have h1 : u / p ≤ u := Nat.div_le_self _ _
  rw [nn_div hu h0 hp, li10, nn_rem (by omega) (by decide) (by decide), li48, nn_add]
theorem told_187 (L : Nat) (xs : Nat → Int32) (x3 : Int32) (q : aS → aS → Int32 → Int32 → Int32 → Option (Int32 × (aS × aS))) (v4 : Int32) {u i : Nat} (hu : u < 2147483648) (hi : i ≤ 8) (h : okL z.2.2.2) (hl : z.2.2.2.length = 7 + 8 * i) : ∃ t, okL t ∧ t.length = 1 + 8 * (i + 1) ∧ hL_told_187 L xs x3 q z z v4 1 (nI i) (nI u) = q (tX z t) (tX z t) v4 1 (nI (i + 1)) := by
  have hd1 : u / 262144 % 10 < 10 := Nat.mod_lt _ (by decide)
  have hd2 : u / 4194304 % 10 < 10 := Nat.mod_lt _ (by decide)
  have e1 := dig u 262144 hu (by decide) (by decide)
  have e2 := dig u 4194304 hu (by decide) (by decide)
  generalize u / 262144 % 10 = c at hd1 e1
  generalize u / 4194304 % 10 = d at hd2 e2
  have k1 : okL (z.2.2.2 ++ [48 + c]) := okL_app h (by rw [hl]; exact okT_d (j := 7) hi (by decide) (by decide) (by omega))
  have l1 : (z.2.2.2 ++ [48 + c]).length = 7 + 8 * i + 1 := len_app hl
  have k2 : okL ((z.2.2.2 ++ [48 + c]) ++ [48 + d]) := okL_app k1 (by rw [l1, show 7 + 8 * i + 1 = 8 + 8 * i by omega]; exact okT_d (j := 8) hi (by decide) (by decide) (by omega))
  have l2 : ((z.2.2.2 ++ [48 + c]) ++ [48 + d]).length = 7 + 8 * i + 1 + 1 := len_app l1
  refine ⟨(z.2.2.2 ++ [48 + c]) ++ [48 + d], k2, by rw [l2]; omega, ?_⟩
  have p2 := put_ok (z := tX z (z.2.2.2 ++ [48 + c])) (c := 48 + d) (by omega) (by show (z.2.2.2 ++ [48 + c]).length < 90; rw [l1]; omega)
  unfold hL_told_187
  rw [if_neg i1_0, ep_n h hl (Or.inl (by omega)), show (7 : Int32) + 8 * nI i = nI (7 + 8 * i) by rw [show (8 : Int32) = nI 8 from rfl, nn_mul, show (7 : Int32) = nI 7 from rfl, nn_add], if_pos rfl, show (262144 : Int32) = nI 262144 from rfl, e1, put_ok (by omega) (by omega), nn_bd3, if_neg i1_0, show (4194304 : Int32) = nI 4194304 from rfl, e2, p2, nn_bd3, if_neg i1_0]
  rw [ep_9 (z := tX (tX z (z.2.2.2 ++ [48 + c])) ((tX z (z.2.2.2 ++ [48 + c])).2.2.2 ++ [48 + d])) k2 (i := i + 1) (by show ((z.2.2.2 ++ [48 + c]) ++ [48 + d]).length = _; rw [l2]; omega), if_pos rfl, show nI i + 1 = nI (i + 1) from nn_add i 1]; rfl
theorem told_130 (L : Nat) (xs : Nat → Int32) (x3 : Int32) (q : aS → aS → Int32 → Int32 → Int32 → Option (Int32 × (aS × aS))) (v4 : Int32) {u i g : Nat} (hu : u < 2147483648) (hi : i ≤ 8) (hg : g < 4) : ∀ (d j fuel : Nat) (z : aS), j + d = 4 → d < fuel → okL z.2.2.2 → z.2.2.2.length = 3 + j + 8 * i → ∃ t, okL t ∧ t.length = 7 + 8 * i ∧ hL_told_130 L xs x3 q fuel z z v4 1 (nI i) (nI u) (nI g) (nI j) = hL_told_187 L xs x3 q (tX z t) (tX z t) v4 1 (nI i) (nI u)
  | 0, j, fuel, z, h, hf, hk, hl => by
    obtain ⟨f, rfl⟩ : ∃ f, fuel = f + 1 := ⟨fuel - 1, by omega⟩
    obtain rfl : j = 4 := by omega
    refine ⟨z.2.2.2, hk, by rw [hl], ?_⟩
    unfold hL_told_130
    rw [if_pos (show (4 : Int32) ≤ nI 4 by decide)]; rfl
  | d + 1, j, fuel, z, h, hf, hk, hl => by
    obtain ⟨f, rfl⟩ : ∃ f, fuel = f + 1 := ⟨fuel - 1, by omega⟩
    have step : ∀ c, c ≤ 9 → ∃ t, okL t ∧ t.length = 7 + 8 * i ∧ hL_told_130 L xs x3 q f (tX z (z.2.2.2 ++ [48 + c])) (tX z (z.2.2.2 ++ [48 + c])) v4 1 (nI i) (nI u) (nI g) (nI (j + 1)) = hL_told_187 L xs x3 q (tX z t) (tX z t) v4 1 (nI i) (nI u) := fun c hc => by
      have k1 : okL (z.2.2.2 ++ [48 + c]) := okL_app hk (by rw [hl]; exact okT_d (j := 3 + j) hi (by omega) (by omega) hc)
      have l1 : (z.2.2.2 ++ [48 + c]).length = 3 + j + 8 * i + 1 := len_app hl
      exact told_130 L xs x3 q v4 hu hi hg d (j + 1) f (tX z (z.2.2.2 ++ [48 + c])) (by omega) (by omega) k1 (by show (z.2.2.2 ++ [48 + c]).length = _; rw [l1]; omega)
    unfold hL_told_130
    rw [show (4 : Int32) = nI 4 from rfl, if_neg (by rw [nn_le (by decide) (by omega)]; omega), if_neg i1_0, eq_if (by omega) (by omega), show nI j + 1 = nI (j + 1) from nn_add j 1]
    by_cases hjg : j = g
    · have hd1 : u / 8 % 4 < 4 := Nat.mod_lt _ (by decide)
      have h8 : u / 8 ≤ u := Nat.div_le_self _ _
      have e : (48 : Int32) + (nI u / 8 - nI u / 8 / nI 4 * nI 4) = nI (48 + u / 8 % 4) := by
        rw [show (8 : Int32) = nI 8 from rfl, nn_div hu (by decide) (by decide), nn_rem (by omega) (by decide) (by decide), li48, nn_add]
      obtain ⟨t, t1, t2, t3⟩ := step (u / 8 % 4) (by omega)
      refine ⟨t, t1, t2, ?_⟩
      rw [if_pos hjg, e, put_ok (by omega) (by omega)]
      exact t3
    · have hpw : 8 ^ j ≤ 8 ^ 3 := Nat.pow_le_pow_right (by decide) (by omega)
      have hp0 : 0 < 8 ^ j := Nat.pow_pos (by decide)
      have hd1 : u / (32 * 8 ^ j) % 10 < 10 := Nat.mod_lt _ (by decide)
      obtain ⟨t, t1, t2, t3⟩ := step (u / (32 * 8 ^ j) % 10) (by omega)
      refine ⟨t, t1, t2, ?_⟩
      rw [if_neg hjg, show (32 : Int32) <<< (((3 : Int32) * nI j) &&& 31) = nI (32 * 8 ^ j) from sh_8 ⟨j, by omega⟩, nn_chk (by rw [nn_eq0 (by omega)]; omega), dig u (32 * 8 ^ j) hu (by omega) (by omega), put_ok (by omega) (by omega)]
      exact t3
end S9K
