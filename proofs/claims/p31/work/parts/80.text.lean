/-! THE TEXT: append, clearText, errorPosition, load -/
def fpos (c : Nat → Nat) : Nat → Nat → Nat
  | 0, i => i
  | d + 1, i => if okT i (c i) = true then fpos c d (i + 1) else i
def tc (t : List Nat) (i : Nat) : Nat := t.getD i 0
def A_errorPosition (z : aS) : Int32 := feA z.2.2.2.length (fpos (tc z.2.2.2) z.2.2.2.length 0)
def A_tryAppend (z : aS) (x : Int32) : Option (Int32 × aS) := if rg 0 255 x = true then (if z.2.2.2.length < 90 then some (nI (z.2.2.2.length + 1), (z.1, (z.2.1, (z.2.2.1, z.2.2.2 ++ [x.toNatClampNeg])))) else some (-99003, z)) else some (-99002, z)
def A_clearText (z : aS) : Option (Int32 × aS) := some (nI z.2.2.2.length, (z.1, (z.2.1, (z.2.2.1, []))))
/-- the page that the text c of N members tells -/
def ldP (c : Nat → Nat) (N : Nat) : tePg := fun i => if i = 0 then nI N else if i = 1 then 0 else if (i - 2) % 10 < 4 then nI (c (3 + 8 * ((i - 2) / 10) + (i - 2) % 10) - 48) else if (i - 2) % 10 = 4 then nI (c (2 + 8 * ((i - 2) / 10)) - 48) else if (i - 2) % 10 = 6 then nI (10 * (c (7 + 8 * ((i - 2) / 10)) - 48) + (c (8 + 8 * ((i - 2) / 10)) - 48)) else if (i - 2) % 10 = 8 then -9999 else 0
def A_tryLoad (z : aS) : Option (Int32 × aS) := if A_errorPosition z = -9999 then some (nI ((z.2.2.2.length - 1) / 8), ((0, ((z.2.2.2.length - 1) / 8, ldP (tc z.2.2.2) ((z.2.2.2.length - 1) / 8))), ([], (fun _ => none, z.2.2.2)))) else some (-99003, z)
theorem ldP_RD (c : Nat → Nat) (N b : Nat) : RD c b (ldP c N) := by
  have e : ∀ o, o < 10 → ldP c N (2 + 10 * b + o) = if o < 4 then nI (c (3 + 8 * b + o) - 48) else if o = 4 then nI (c (2 + 8 * b) - 48) else if o = 6 then nI (10 * (c (7 + 8 * b) - 48) + (c (8 + 8 * b) - 48)) else if o = 8 then -9999 else 0 := fun o ho => by
    unfold ldP
    rw [if_neg (by omega), if_neg (by omega), show (2 + 10 * b + o - 2) % 10 = o by omega, show (2 + 10 * b + o - 2) / 10 = b by omega]
  refine ⟨fun l hl => by rw [e l (by omega), if_pos hl], by rw [e 4 (by decide)]; rfl, by rw [e 5 (by decide)]; rfl, by rw [e 6 (by decide)]; rfl, by rw [e 7 (by decide)]; rfl, by rw [e 8 (by decide)]; rfl, by rw [e 9 (by decide)]; rfl⟩
theorem fpos_p (c : Nat → Nat) : ∀ (d i t : Nat), i + d = t → (∀ j, j < i → okT j (c j) = true) → fpos c d i ≤ t ∧ (∀ j, j < fpos c d i → okT j (c j) = true) ∧ (fpos c d i < t → okT (fpos c d i) (c (fpos c d i)) = false)
  | 0, i, t, h, hk => ⟨by show i ≤ t; omega, hk, fun h2 => absurd h2 (by show ¬ i < t; omega)⟩
  | d + 1, i, t, h, hk => by
    cases ho : okT i (c i)
    · have e : fpos c (d + 1) i = i := by
        rw [fpos, ho]; rfl
      rw [e]
      exact ⟨by omega, hk, fun _ => ho⟩
    · have e : fpos c (d + 1) i = fpos c d (i + 1) := by
        rw [fpos, ho]; rfl
      rw [e]
      exact fpos_p c d (i + 1) t (by omega) (fun j hj => by
        by_cases hji : j = i
        · rw [hji]; exact ho
        · exact hk j (by omega))
section S80
variable {S : teS} {z z1 : aS} {r : Int32}
theorem tb_fe (hT : TB S z.2.2.2) : fX4_firstError S = some (A_errorPosition z) := by
  obtain ⟨h1, h2, h3⟩ := hT
  obtain ⟨p1, p2, p3⟩ := fpos_p (tc z.2.2.2) z.2.2.2.length 0 z.2.2.2.length (Nat.zero_add _) (fun j hj => absurd hj (by omega))
  exact r4_fe h1 h2 h3 p1 p2 p3
theorem am_errorPosition (h : AB S z) : fX5_errorPosition S = some (A_errorPosition z) := by
  unfold fX5_errorPosition
  rw [tb_fe h.2.2.2]; rfl
theorem am_clearText (h : AB S z) (hr : A_clearText z = some (r, z1)) : ∃ S1, fX5_clearText S = some (r, S1) ∧ AB S1 z1 := by
  cases hr
  obtain ⟨h1, h2, h3, h4, h5, h6⟩ := h
  have hT : ∀ a, a ≠ 361 → tst S 361 (tup (S 361) 0 0) a = S a := fun a q => tst_n _ _ q
  refine ⟨tst S 361 (tup (S 361) 0 0), by unfold fX5_clearText; rw [nn_lt1, teu_t, h5], by rw [hT _ (by decide)]; exact h1, HB_cong h2 (hT _ (by decide)) (fun q _ _ => hT q (by omega)), ZB_cong h3 (hT _ (by decide)) (fun q _ => hT _ (by omega)), Nat.zero_le _, by rw [tst_s, tup_s]; rfl, fun i hi => absurd hi (by show ¬ i < 0; omega)⟩
theorem am_tryAppend (h : AB S z) {x : Int32} (hr : A_tryAppend z x = some (r, z1)) : ∃ S1, fL_tryAppend x S = some (r, S1) ∧ AB S1 z1 := by
  unfold A_tryAppend at hr
  unfold fL_tryAppend fX5_append
  cases h1 : rg 0 255 x
  · rw [h1, ifF] at hr
    cases hr
    rw [r5_rg_f h1]
    exact ⟨S, rfl, h⟩
  rw [h1, ifT] at hr
  obtain ⟨c, hc, rfl⟩ := rg_nat (N := 255) (by decide) h1
  obtain ⟨g1, g2, g3, g4, g5, g6⟩ := h
  rw [r5_rg_t h1, nn_bx1, g5, show (90 : Int32) = nI 90 from rfl, lt_if (by omega) (by decide)]
  by_cases h90 : z.2.2.2.length < 90
  · rw [if_pos h90] at hr ⊢
    rw [nn_tn (by omega)] at hr
    cases hr
    have hlt : nI z.2.2.2.length < 90 := by show _ < nI 90; rw [nn_lt (by omega) (by decide)]; exact h90
    have hT : ∀ a, a ≠ 361 → a ≠ 362 → tst (tst S 362 (tup (S 362) z.2.2.2.length (nI c))) 361 (tup (S 361) 0 (nI (z.2.2.2.length + 1))) a = S a := fun a q1 q2 => by rw [tst_n _ _ q1, tst_n _ _ q2]
    refine ⟨tst (tst S 362 (tup (S 362) z.2.2.2.length (nI c))) 361 (tup (S 361) 0 (nI (z.2.2.2.length + 1))), ?_, by rw [hT _ (by decide) (by decide)]; exact g1, HB_cong g2 (hT _ (by decide) (by decide)) (fun q _ _ => hT q (by omega) (by omega)), ZB_cong g3 (hT _ (by decide) (by decide)) (fun q _ => hT _ (by omega) (by omega)), ?_, ?_, fun i hi => ?_⟩
    · unfold fX4_add
      rw [g5, if_neg (Int32.not_le.mpr hlt), nn_in (by omega) (by decide), nn_lt1, nn_tn (by omega), ch_c ⟨c, by omega⟩, nn_lt1, teu_t, teu_t, tst_n _ _ (show 361 ≠ 362 by decide), g5, li1, nn_add, nn_bd1, tst_s, tup_s]; rfl
    · show (z.2.2.2 ++ [c]).length ≤ 90
      rw [List.length_append, List.length_singleton]; omega
    · rw [tst_s, tup_s]
      show nI (z.2.2.2.length + 1) = nI (z.2.2.2 ++ [c]).length
      rw [List.length_append, List.length_singleton]
    · have hi2 : i < (z.2.2.2 ++ [c]).length := hi
      rw [List.length_append, List.length_singleton] at hi2
      show (z.2.2.2 ++ [c]).getD i 0 ≤ 255 ∧ _ = nI ((z.2.2.2 ++ [c]).getD i 0)
      rw [tst_n _ _ (show 362 ≠ 361 by decide), tst_s]
      by_cases hit : i = z.2.2.2.length
      · have e : (z.2.2.2 ++ [c]).getD i 0 = c := by
          rw [hit, List.getD_eq_getElem?_getD, List.getElem?_append_right (Nat.le_refl _), Nat.sub_self]; rfl
        rw [e, hit, tup_s]
        exact ⟨hc, rfl⟩
      · have e : (z.2.2.2 ++ [c]).getD i 0 = z.2.2.2.getD i 0 := by
          rw [List.getD_eq_getElem?_getD, List.getD_eq_getElem?_getD, List.getElem?_append_left (by omega)]
        rw [e, tup_n _ _ hit]
        exact g6 i (by omega)
  · rw [if_neg h90] at hr ⊢
    cases hr
    exact ⟨S, rfl, g1, g2, g3, g4, g5, g6⟩
/-- a text without an error -/
theorem fe_N {t : Nat} {c : Nat → Nat} {p : Nat} (ht : t ≤ 90) (hp : p ≤ t) (hok : ∀ j, j < p → okT j (c j) = true) (h : feA t p = -9999) : p = t ∧ ∃ N, N ≤ 9 ∧ t = 1 + 8 * N ∧ (t - 1) / 8 = N := by
  unfold feA at h
  by_cases hw : p = t ∧ 0 < t ∧ (t - 1) % 8 = 0
  · refine ⟨hw.1, (t - 1) / 8, ?_, by omega, rfl⟩
    have h73 : ¬ 73 < t := fun h73 => by
      have := hok 73 (by omega)
      rw [ok_far (by decide)] at this
      cases this
    omega
  · rw [if_neg hw] at h
    exact absurd h (by rw [nn_NI (by omega)]; exact not_false)
theorem am_tryLoad (h : AB S z) (hr : A_tryLoad z = some (r, z1)) : ∃ S1, fL_tryLoad S = some (r, S1) ∧ AB S1 z1 := by
  unfold A_tryLoad at hr
  unfold fL_tryLoad
  have hfe := tb_fe (z := z) h.2.2.2
  by_cases he : A_errorPosition z = -9999
  · rw [if_pos he] at hr
    cases hr
    rw [he] at hfe
    obtain ⟨g1, g2, g3, g4, g5, g6⟩ := h
    obtain ⟨p1, p2, p3⟩ := fpos_p (tc z.2.2.2) z.2.2.2.length 0 z.2.2.2.length (Nat.zero_add _) (fun j hj => absurd hj (by omega))
    obtain ⟨e1, N, hN, e2, e3⟩ := fe_N g4 p1 p2 he
    have hok : ∀ i, i < z.2.2.2.length → okT i (tc z.2.2.2 i) = true := fun i hi => p2 i (by rw [e1]; exact hi)
    obtain ⟨q, q1, q2, q3, q4⟩ := c4_rd (c := tc z.2.2.2) g4 g5 (fun i hi => (g6 i hi).2) hN e2 hok N 0 2000 (tup (tup (S 0) 0 0) 1 0) (by omega) (by omega) (by rw [tup_n _ _ (by decide), tup_s]; rfl) (tup_s _ _ _) (fun b hb => absurd hb (by omega))
    have hri : fX4_readInto 0 S = some (tst S 0 q) := by
      unfold fX4_readInto
      rw [nn_lt1, nn_lt1, teu_t, teu_t, tst_s, tst_t]
      exact q1
    obtain ⟨S1, k1, k2, k3, k4, k5⟩ := c5_ld hfe hri q2
    rw [e3]
    refine ⟨S1, by rw [k1]; rfl, ⟨⟨wf_RD (N := N) (M := 0) hN (Nat.le_of_ble_eq_true rfl) (fun i hi => hok i (by omega)) rfl (fun b _ => ldP_RD _ _ b), Nat.zero_le _, ?_⟩, by rw [k2]; exact PE_RD (q2.trans rfl) (q3.trans rfl) q4 (fun b _ => ldP_RD _ _ b)⟩, ?_, fun q hq => ⟨fun _ => ?_, fun x hx => by cases hx⟩, TB_cong ⟨g4, g5, g6⟩ (k5 _ (by decide) (by decide) (by decide)) (k5 _ (by decide) (by decide) (by decide))⟩
    · show IV N (ldP (tc z.2.2.2) N)
      refine ⟨fun a ha => ⟨0, by decide, (ldP_RD _ _ a).2.2.1⟩, fun a b ha hb hp => ?_, fun a b ha hb hp => ?_⟩
      · exact (N_ne (by omega) (ldP_RD _ _ a).2.2.2.2.2.1 hp).elim
      · exact (N_ne (by omega) (ldP_RD _ _ a).2.2.2.2.2.1 hp).elim
    · obtain ⟨-, ol, d1, d2, -, -⟩ := g2
      exact ⟨Nat.zero_le _, ol, d1, by rw [k3, tup_n _ _ (by decide)]; exact d2, by rw [k3, tup_s]; rfl, fun j x hx => by cases hx⟩
    · rw [k4]
      rcases (show q = 0 ∨ q = 1 by omega) with rfl | rfl
      · rw [tup_n _ _ (by decide), tup_s]
      · rw [tup_s]
  · rw [if_neg he] at hr
    cases hr
    unfold fX5_load
    rw [hfe, nn_bd1, if_neg he]
    exact ⟨S, rfl, h⟩
end S80
