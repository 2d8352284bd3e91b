/-! THE LAW answers 1 -/
def zNew : aS := ((0, (0, fun _ => 0)), ([], (fun _ => none, [])))
theorem Inv_new : Inv 0 zNew := by
  refine ⟨?_, fun q hq => (by cases hq), fun j q hq => (by cases hq)⟩
  show WF 0 0 (fun _ => 0) ∧ IV 0 (fun _ => 0) ∧ 0 ≤ 0
  exact ⟨⟨by decide, by decide, rfl, fun a ha => absurd ha (Nat.not_lt_zero a)⟩, ⟨fun a ha => absurd ha (Nat.not_lt_zero a), fun a b ha => absurd ha (Nat.not_lt_zero a), fun a b ha => absurd ha (Nat.not_lt_zero a)⟩, Nat.le_refl _⟩
section S9M
variable {L : Nat} {xs : Nat → Int32} {z : aS} {B : Nat}
/-- what is looked at behind each act -/
theorem lw_three (h : Inv B z) (hB : B ≤ 4000) : hL_refuses z = some (1, z) ∧ hL_alike z z = some 1 ∧ hL_sound z = some 1 := by
  obtain ⟨hW, hI, hM⟩ := h.1
  exact ⟨P_refuses hW.1, P_alike hW.1, P_sound hW hI (Nat.le_trans hM hB)⟩
theorem lw_231 (hB : B + 180 ≤ 4000) (h : Inv B z) (q81 : aS → aS → Int32 → Int32 → Option Int32) (q136 : aS → aS → Int32 → Int32 → Int32 → Option Int32) (v4 : Int32) {j t1 t2 : Nat} (hj : j < 1000) (h1 : t1 < 2147483648) (h2 : t2 < 2147483648) : ∃ w, Inv B w ∧ hL_law_231 L xs q81 q136 z z v4 (nI j) (nI t1) (nI t2) 1 = q136 w w 1 v4 (nI (j + 1)) := by
  obtain ⟨hW, hI, hM⟩ := h.1
  have hM : aM z ≤ B := hM
  have h9 := hW.1
  have hm : j % 4 < 4 := Nat.mod_lt _ (by decide)
  unfold hL_law_231
  rw [li4, nn_rem (by omega) (by decide) (by decide), li3, eq_if (by omega) (by decide), show nI j + 1 = nI (j + 1) from nn_add j 1]
  by_cases h3 : j % 4 = 3
  · have hsc := P_scripts hW hI (by omega) h1
    -- the saved and the restored
    have es : A_trySave z 0 = some (aV z 1, (z.1, (z.2.1, (aSet z.2.2.1 0 z.1, z.2.2.2)))) := by
      unfold A_trySave
      rw [show rg 0 1 0 = true by decide, ifT]; rfl
    generalize hb : ((z.1, ([], (aSet z.2.2.1 0 z.1, z.2.2.2))) : aS) = b
    have hb1 : b.2.1 = [] := by rw [← hb]
    have hb2 : b.2.2.1 0 = some b.1 := by rw [← hb]; rfl
    have hbv : aV b = aV z := by rw [← hb]
    have hbI : Inv B b := by
      rw [← hb]
      refine ⟨h.1, fun q hq => (by cases hq), fun i q hq => ?_⟩
      have hq : aSet z.2.2.1 0 z.1 i = some q := hq
      unfold aSet at hq
      split at hq
      · cases hq; exact h.1
      · exact h.2.2 i q hq
    have hr : ∀ w : aS, w.2.2 = b.2.2 → A_tryRestore w 0 = some (aV z 1, b) := fun w hw => by rw [← hbv]; exact hd_rs hb1 hb2 hw
    obtain ⟨bW, bI', bM⟩ := hbI.1
    have bM : aM b ≤ B := bM
    have hh := P_hands h2 hb1 hb2 bW bI' (by omega)
    have hwk := P_weeks bW bI' (by omega) (nI t2) (wkX_rg h2)
    have hu : A_tryUndo b = some (-99003, b) := by
      unfold A_tryUndo
      rw [hb1]
    obtain ⟨-, ha, -⟩ := lw_three hbI (by omega)
    refine ⟨b, hbI, ?_⟩
    rw [if_pos h3, if_neg i1_0, hsc, nn_bd1, if_neg i1_0, es, nn_bd2, show A_tryAbout z 2 = aV z 1 from rfl, if_pos rfl, nn_bd2, if_pos rfl, hr (z.1, (z.2.1, (aSet z.2.2.1 0 z.1, z.2.2.2))) (by rw [← hb]), nn_bd2, if_pos rfl, hh, nn_bd2, if_neg i1_0, hwk, nn_bd2, if_neg i1_0, hr (aAct b (aM b + 9, (aN b, sWeek (aN b) (wkX (nI t2)) (aV b)))) rfl, nn_bd2, if_pos rfl, nn_bd2, if_pos rfl, hu, nn_bd2, if_pos rfl, ha, nn_bd1, if_neg i1_0]
  · rw [if_neg h3]
    exact ⟨z, h, rfl⟩
theorem lw_136 (hL : L < 2147483648) (q81 : aS → aS → Int32 → Int32 → Option Int32) {V : Nat} (hV : V < 10) : ∀ (d j fuel : Nat) (z : aS), j + d = 12 → d < fuel → Inv (9 * j) z → ∃ w, Inv 108 w ∧ hL_law_136 L xs q81 fuel z z 1 (nI V) (nI j) = q81 w w 1 (nI (V + 1))
  | 0, j, fuel, z, h, hf, hz => by
    obtain ⟨f, rfl⟩ : ∃ f, fuel = f + 1 := ⟨fuel - 1, by omega⟩
    obtain rfl : j = 12 := by omega
    refine ⟨z, hz, ?_⟩
    unfold hL_law_136
    rw [if_pos (show (12 : Int32) ≤ nI 12 by decide), show nI V + 1 = nI (V + 1) from nn_add V 1]
  | d + 1, j, fuel, z, h, hf, hz => by
    obtain ⟨f, rfl⟩ : ∃ f, fuel = f + 1 := ⟨fuel - 1, by omega⟩
    obtain ⟨t1, a1, e1⟩ := P_number hL xs (show 40 * V + 11 + 2 * j < 2147483648 by omega)
    obtain ⟨t2, a2, e2⟩ := P_number hL xs (show 40 * V + 12 + 2 * j < 2147483648 by omega)
    obtain ⟨r, z1, e3, h1⟩ := P_act hz (by omega) (nI t1) (nI t2)
    rw [show 9 * j + 9 = 9 * (j + 1) by omega] at h1
    obtain ⟨k1, k2, k3⟩ := lw_three h1 (by omega)
    obtain ⟨w, hw, e4⟩ := lw_231 (L := L) (xs := xs) (by omega) h1 q81 (hL_law_136 L xs q81 f) (nI V) (show j < 1000 by omega) a1 a2
    obtain ⟨w2, hw2, e5⟩ := lw_136 hL q81 hV d (j + 1) f w (by omega) (by omega) hw
    refine ⟨w2, hw2, ?_⟩
    have n1 : (40 : Int32) * nI V + 11 + 2 * nI j = nI (40 * V + 11 + 2 * j) := by
      rw [show (40 : Int32) = nI 40 from rfl, nn_mul, show (11 : Int32) = nI 11 from rfl, nn_add, show (2 : Int32) = nI 2 from rfl, nn_mul, nn_add]
    have n2 : (40 : Int32) * nI V + 12 + 2 * nI j = nI (40 * V + 12 + 2 * j) := by
      rw [show (40 : Int32) = nI 40 from rfl, nn_mul, show (12 : Int32) = nI 12 from rfl, nn_add, show (2 : Int32) = nI 2 from rfl, nn_mul, nn_add]
    unfold hL_law_136
    rw [if_neg (show ¬ (12 : Int32) ≤ nI j by rw [show (12 : Int32) = nI 12 from rfl, nn_le (by decide) (by omega)]; omega), if_neg i1_0, n1, n2, e1, nn_bd1, e2, nn_bd1, e3, nn_bd2, nn_bd2, if_pos rfl, k1, nn_bd2, if_neg i1_0, k2, nn_bd1, if_neg i1_0, k3, nn_bd1, if_neg i1_0]
    exact e4.trans e5
theorem lw_81 (hL : L < 2147483648) : ∀ (d V fuel : Nat) (z : aS), V + d = 2 → d < fuel → hL_law_81 L xs fuel z z 1 (nI V) = some 1
  | 0, V, fuel, z, h, hf => by
    obtain ⟨f, rfl⟩ : ∃ f, fuel = f + 1 := ⟨fuel - 1, by omega⟩
    obtain rfl : V = 2 := by omega
    unfold hL_law_81
    rw [if_pos (show (2 : Int32) ≤ nI 2 by decide)]
  | d + 1, V, fuel, z, h, hf => by
    obtain ⟨f, rfl⟩ : ∃ f, fuel = f + 1 := ⟨fuel - 1, by omega⟩
    obtain ⟨w, e1, h1⟩ := P_told hL xs (X := 40 * V) (by omega) z
    obtain ⟨k1, k2, k3⟩ := lw_three h1 (by omega)
    obtain ⟨w2, hw2, e2⟩ := lw_136 (xs := xs) hL (hL_law_81 L xs f) (V := V) (by omega) 12 0 13 w rfl (by decide) h1
    have n1 : (40 : Int32) * nI V = nI (40 * V) := nn_mul 40 V
    unfold hL_law_81
    rw [if_neg (show ¬ (2 : Int32) ≤ nI V by rw [show (2 : Int32) = nI 2 from rfl, nn_le (by decide) (by omega)]; omega), if_neg i1_0, n1, e1, nn_bd3, if_neg i1_0, k1, nn_bd2, if_neg i1_0, k2, nn_bd1, if_neg i1_0, k3, nn_bd1, if_neg i1_0]
    exact e2.trans (lw_81 hL d (V + 1) f w2 (by omega) (by omega))
theorem P_law (hL : L < 2147483648) : hL_law L xs zNew zNew = some 1 := by
  obtain ⟨k1, k2, k3⟩ := lw_three Inv_new (by omega)
  have em : A_missedMost zNew = -9999 := rfl
  unfold hL_law
  rw [show A_errorPosition zNew = 0 from rfl, if_pos rfl, show A_tryAbout zNew 0 = 0 from rfl, if_pos rfl, em, if_pos rfl, show A_tryUndo zNew = some (-99003, zNew) from rfl, nn_bd2, if_pos rfl, k1, nn_bd2, if_neg i1_0, k2, nn_bd1, if_neg i1_0, k3, nn_bd1, if_neg i1_0]
  exact lw_81 hL 2 0 3 zNew rfl (by decide)
end S9M
