/-! TOLD: all members, and what is laid -/
section S9L
variable {z : aS}
theorem told_43 {L : Nat} (hL : L < 2147483648) (xs : Nat → Int32) {X N : Nat} (hX : X < 1000) (hN : N ≤ 9) : ∀ (d i fuel : Nat) (z : aS), i + d = N → d < fuel → okL z.2.2.2 → z.2.2.2.length = 1 + 8 * i → ∃ t, okL t ∧ t.length = 1 + 8 * N ∧ hL_told_43 L xs (nI X) fuel z z (nI N) 1 (nI i) = hL_told_268 L xs (nI X) (tX z t) (tX z t) (nI N) 1
  | 0, i, fuel, z, h, hf, hk, hl => by
    obtain ⟨f, rfl⟩ : ∃ f, fuel = f + 1 := ⟨fuel - 1, by omega⟩
    obtain rfl : i = N := by omega
    refine ⟨z.2.2.2, hk, hl, ?_⟩
    unfold hL_told_43
    rw [if_pos (Int32.le_refl _)]; rfl
  | d + 1, i, fuel, z, h, hf, hk, hl => by
    obtain ⟨f, rfl⟩ : ∃ f, fuel = f + 1 := ⟨fuel - 1, by omega⟩
    have hi : i ≤ 8 := by omega
    obtain ⟨u, hu, eu⟩ := P_number hL xs (show X + 1 + i < 2147483648 by omega)
    have hg : u % 4 < 4 := Nat.mod_lt _ (by decide)
    have k1 : okL (z.2.2.2 ++ [109]) := okL_app hk (by rw [hl]; exact okT_m hi)
    have l1 : (z.2.2.2 ++ [109]).length = 1 + 8 * i + 1 := len_app hl
    have k2 : okL ((z.2.2.2 ++ [109]) ++ [48 + u % 4]) := okL_app k1 (by rw [l1, show 1 + 8 * i + 1 = 2 + 8 * i by omega]; exact okT_w hi (by omega))
    have l2 : ((z.2.2.2 ++ [109]) ++ [48 + u % 4]).length = 1 + 8 * i + 1 + 1 := len_app l1
    obtain ⟨t1, a1, a2, a3⟩ := told_130 L xs (nI X) (hL_told_43 L xs (nI X) f) (nI N) hu hi hg 4 0 5 (tX z ((z.2.2.2 ++ [109]) ++ [48 + u % 4])) rfl (by decide) k2 (by show ((z.2.2.2 ++ [109]) ++ [48 + u % 4]).length = _; rw [l2]; omega)
    obtain ⟨t2, b1, b2, b3⟩ := told_187 (z := tX z t1) L xs (nI X) (hL_told_43 L xs (nI X) f) (nI N) hu hi a1 a2
    obtain ⟨t3, c1, c2, c3⟩ := told_43 hL xs hX hN d (i + 1) f (tX z t2) (by omega) (by omega) b1 b2
    refine ⟨t3, c1, c2, ?_⟩
    have p1 := put_ok (z := z) (c := 109) (by decide) (by omega)
    have p2 := put_ok (z := tX z (z.2.2.2 ++ [109])) (c := 48 + u % 4) (by omega) (by show (z.2.2.2 ++ [109]).length < 90; rw [l1]; omega)
    unfold hL_told_43
    rw [if_neg (by rw [nn_le (by omega) (by omega)]; omega), if_neg i1_0, show nI X + 1 + nI i = nI (X + 1 + i) by rw [li1, nn_add, nn_add], eu, nn_bd1, ep_9 hk hl, if_pos rfl, show (109 : Int32) = nI 109 from rfl, p1, nn_bd3, if_neg i1_0, ep_n (z := tX z (z.2.2.2 ++ [109])) (k := 2 + 8 * i) k1 (by show (z.2.2.2 ++ [109]).length = _; rw [l1]; omega) (Or.inl (by omega)), show (2 : Int32) + 8 * nI i = nI (2 + 8 * i) by rw [show (8 : Int32) = nI 8 from rfl, nn_mul, show (2 : Int32) = nI 2 from rfl, nn_add], if_pos rfl, li4, nn_rem hu (by decide) (by decide), li48, nn_add, p2, nn_bd3, if_neg i1_0]
    exact (a3.trans b3).trans c3
theorem cur_no {n : Nat} {v : tePg} (h : ∀ a, a < n → v (2 + 10 * a + 8) = -9999) : ∀ (d a : Nat), a + d = n → curL n v d a = []
  | 0, _, _ => rfl
  | d + 1, a, e => by
    rw [curL, if_pos (gp_f (h a (by omega)))]
    exact cur_no h d (a + 1) (by omega)
theorem ld_ok {t : List Nat} (h : okL t) {N : Nat} (hN : N ≤ 9) (hl : t.length = 1 + 8 * N) : okB 0 ((0, (N, ldP (tc t) N)) : aP) := by
  show WF N 0 (ldP (tc t) N) ∧ IV N (ldP (tc t) N) ∧ 0 ≤ 0
  refine ⟨wf_RD hN (by decide) (fun i hi => h i (by omega)) rfl (fun b _ => ldP_RD _ _ b), ⟨fun a ha => ⟨0, by decide, (ldP_RD _ _ a).2.2.1⟩, fun a b ha hb hp => ?_, fun a b ha hb hp => ?_⟩, Nat.le_refl _⟩
  · exact (N_ne (by omega) (ldP_RD _ _ a).2.2.2.2.2.1 hp).elim
  · exact (N_ne (by omega) (ldP_RD _ _ a).2.2.2.2.2.1 hp).elim
theorem ep_x {t : List Nat} (h : okL t) {N : Nat} (hN : N ≤ 9) (hl : t.length = 1 + 8 * N) (z : aS) : A_errorPosition (tX z (t ++ [120])) = nI (1 + 8 * N) := by
  have hlen : (t ++ [120]).length = 1 + 8 * N + 1 := len_app hl
  obtain ⟨p1, p2, p3⟩ := fpos_p (tc (t ++ [120])) (t ++ [120]).length 0 (t ++ [120]).length (Nat.zero_add _) (fun j hj => absurd hj (by omega))
  have hno : okT (1 + 8 * N) (tc (t ++ [120]) (1 + 8 * N)) = false := by
    rw [tc_app, if_pos hl.symm]
    rcases Nat.lt_or_ge N 9 with h1 | h1
    · unfold okT
      rw [if_neg (by omega), if_pos (by omega), if_pos (by omega)]; rfl
    · exact ok_far (by omega) _
  have hp : fpos (tc (t ++ [120])) (t ++ [120]).length 0 = 1 + 8 * N := by
    rcases Nat.lt_trichotomy (fpos (tc (t ++ [120])) (t ++ [120]).length 0) (1 + 8 * N) with h1 | h1 | h1
    · have := p3 (by omega)
      rw [tc_app, if_neg (by omega), h _ (by omega)] at this
      cases this
    · exact h1
    · have := p2 (1 + 8 * N) h1
      rw [hno] at this
      cases this
  show feA (t ++ [120]).length (fpos (tc (t ++ [120])) (t ++ [120]).length 0) = _
  rw [hp, hlen]
  unfold feA
  rw [if_neg (fun e => by omega)]
theorem told_268 (L : Nat) (xs : Nat → Int32) (x3 : Int32) {t : List Nat} (h : okL t) {N : Nat} (h0 : 0 < N) (hN : N ≤ 9) (hl : t.length = 1 + 8 * N) : hL_told_268 L xs x3 (tX z t) (tX z t) (nI N) 1 = some (1, (((0, (N, ldP (tc t) N)), ([], (fun _ => none, t ++ [120]))), ((0, (N, ldP (tc t) N)), ([], (fun _ => none, t ++ [120]))))) := by
  have e1 : A_tryLoad (tX z t) = some (nI N, ((0, (N, ldP (tc t) N)), ([], (fun _ => none, t)))) := by
    unfold A_tryLoad
    rw [if_pos (ep_9 (z := tX z t) h hl)]
    show some (nI ((t.length - 1) / 8), ((0, ((t.length - 1) / 8, ldP (tc t) ((t.length - 1) / 8))), ([], (fun _ => none, t)))) = _
    rw [show (t.length - 1) / 8 = N by omega]
  generalize hwl : (((0, (N, ldP (tc t) N)), ([], (fun _ => none, t))) : aS) = wl at e1
  have a0 : A_tryAbout wl 0 = nI N := by rw [← hwl]; rfl
  have a1 : A_tryAbout wl 1 = 0 := by
    have : A_tryAbout wl 1 = nPrs N (ldP (tc t) N) := by rw [← hwl]; rfl
    rw [this, prs_len, cur_no (fun a _ => (ldP_RD (tc t) N a).2.2.2.2.2.1) N 0 (Nat.zero_add _)]; rfl
  have a2 : A_tryAbout wl 2 = 0 := by rw [← hwl]; rfl
  have a8 : A_tryMember wl 0 8 = -9999 := by
    have k := mem_8 (z := wl) (a := 0) (by rw [← hwl]; exact hN) (by rw [← hwl]; exact h0)
    refine Eq.trans k ?_
    rw [← hwl]
    exact (ldP_RD (tc t) N 0).2.2.2.2.2.1
  have au : A_tryUndo wl = some (-99003, wl) := by rw [← hwl]; rfl
  have ar : A_tryRestore wl 1 = some (-99003, wl) := by rw [← hwl]; rfl
  have ht : wl.2.2.2 = t := by rw [← hwl]
  have ap := put_ok (z := wl) (c := 120) (by decide) (by rw [ht]; omega)
  have ex : A_errorPosition (tX wl (wl.2.2.2 ++ [120])) = nI (1 + 8 * N) := by rw [ht]; exact ep_x h hN hl wl
  have al : A_tryLoad (tX wl (wl.2.2.2 ++ [120])) = some (-99003, tX wl (wl.2.2.2 ++ [120])) := by
    unfold A_tryLoad
    rw [ex, if_neg (by rw [nn_NI (by omega)]; exact not_false)]
  unfold hL_told_268
  rw [if_neg i1_0, e1, nn_bd2, if_pos rfl, nn_bd2, if_pos rfl, a0, if_pos rfl, a1, if_pos rfl, a2, if_pos rfl, a8, if_pos rfl, au, nn_bd2, if_pos rfl, ar, nn_bd2, if_pos rfl, show (120 : Int32) = nI 120 from rfl, ap, nn_bd3, if_neg i1_0, ex, show (1 : Int32) + 8 * nI N = nI (1 + 8 * N) by rw [show (8 : Int32) = nI 8 from rfl, nn_mul, show (1 : Int32) = nI 1 from rfl, nn_add], if_pos rfl, al, nn_bd2, if_pos rfl, ← hwl]; rfl
theorem P_told {L : Nat} (hL : L < 2147483648) (xs : Nat → Int32) {X : Nat} (hX : X < 1000) (z : aS) : ∃ w, hL_told L xs (nI X) z z = some (1, (w, w)) ∧ Inv 0 w := by
  obtain ⟨u, hu, eu⟩ := P_number hL xs (show X < 2147483648 by omega)
  have hm : u % 7 < 7 := Nat.mod_lt _ (by decide)
  have hN : (3 : Int32) + (nI u - nI u / 7 * 7) = nI (3 + u % 7) := by
    rw [show (7 : Int32) = nI 7 from rfl, nn_rem hu (by decide) (by decide), li3, nn_add]
  have ec : A_clearText z = some (nI z.2.2.2.length, tX z []) := rfl
  have p := put_ok (z := tX z []) (c := 76) (by decide) (by show ([] : List Nat).length < 90; decide)
  have k0 : okL ([76] : List Nat) := fun i hi => by
    have hi : i < 1 := hi
    obtain rfl : i = 0 := by omega
    rfl
  obtain ⟨t, t1, t2, t3⟩ := told_43 hL xs (X := X) (N := 3 + u % 7) hX (by omega) (3 + u % 7) 0 10 (tX z [76]) (Nat.zero_add _) (by omega) k0 rfl
  have k := told_268 (z := tX z [76]) L xs (nI X) t1 (N := 3 + u % 7) (by omega) (by omega) t2
  refine ⟨((0, (3 + u % 7, ldP (tc t) (3 + u % 7))), ([], (fun _ => none, t ++ [120]))), ?_, ⟨ld_ok t1 (N := 3 + u % 7) (by omega) t2, fun q hq => (by cases hq), fun j q hq => (by cases hq)⟩⟩
  unfold hL_told
  rw [eu, nn_bd1, ec, nn_bd2, nn_bd2, if_pos rfl, show (76 : Int32) = nI 76 from rfl, p, nn_bd3, if_neg i1_0, hN]
  exact t3.trans k
end S9L
