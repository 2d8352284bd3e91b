/-! SCRIPTS: the whole -/
section S9I
variable {z : aS} {M : Nat}
theorem sp_212 (hW : WF (aN z) M (aV z)) {t : Nat} (ht : t < 2147483648) : hL_scripts_212 z (nI t) (nI (aN z)) 1 = some 1 := by
  have h9 := hW.1
  unfold hL_scripts_212
  rw [li0, le_if (by omega) (by decide)]
  by_cases h0 : aN z ≤ 0
  · rw [if_pos h0]
    exact sp_564 h9 _
  · have hn : 0 < aN z := by omega
    have ha : t % aN z < aN z := Nat.mod_lt _ hn
    have hl : t / 16 % 4 < 4 := Nat.mod_lt _ (by decide)
    rw [if_neg h0, if_neg (show ¬ (1 : Int32) = nI 0 by decide), nn_chk (by rw [nn_eq (by omega) (by decide)]; omega), nn_rem ht hn (by omega), show (16 : Int32) = nI 16 from rfl, nn_div ht (by decide) (by decide), li4, nn_rem (by omega) (by decide) (by decide)]
    generalize t % aN z = a at ha
    generalize t / 16 % 4 = l at hl
    obtain ⟨y, hy, ey⟩ := (hW.2.2.2 a ha).1 l hl
    have hm8 := mem_8 h9 ha
    rw [mb_o h9 ha (show l < 9 by omega), ey, show A_tryMember z (nI a) 8 = aV z (2 + 10 * a + 8) from hm8, show (1 : Int32) = nI 1 from rfl, nn_add, li10, nn_rem (by omega) (by decide) (by decide)]
    have e1 : ∀ w, w < 10 → (9000 : Int64) + 100 * (nI a).toInt64 + 10 * (nI l).toInt64 + (nI w).toInt64 = lN (9000 + 100 * a + 10 * l + w) := fun w hw => by
      rw [ln_n (by omega), ln_n (by omega), ln_n (by omega), show (100 : Int64) = lN 100 from rfl, show (10 : Int64) = lN 10 from rfl, ln_mul, ln_mul, show (9000 : Int64) = lN 9000 from rfl, ln_add, ln_add, ln_add]
    have e3 : ((6000 : Int64) + 100 * (nI a).toInt64 + 10 * (nI l).toInt64 + 7) * 10000 + 9007 + 100 * (nI a).toInt64 + 10 * (nI l).toInt64 = lN ((6000 + 100 * a + 10 * l + 7) * 10000 + (9007 + 100 * a + 10 * l)) := by
      rw [ln_n (by omega), ln_n (by omega), show (100 : Int64) = lN 100 from rfl, show (10 : Int64) = lN 10 from rfl, ln_mul, ln_mul, show (6000 : Int64) = lN 6000 from rfl, show (9007 : Int64) = lN 9007 from rfl, show (10000 : Int64) = lN 10000 from rfl, show (7 : Int64) = lN 7 from rfl, ln_add, ln_add, ln_add, ln_mul, ln_add, ln_add, ln_add]
      exact congrArg lN (by omega)
    have e4 : (9040 : Int64) + 100 * (nI a).toInt64 = lN (9040 + 100 * a) := by
      rw [ln_n (by omega), show (100 : Int64) = lN 100 from rfl, ln_mul, show (9040 : Int64) = lN 9040 from rfl, ln_add]
    have e5 : (2000 : Int64) + 100 * (nI a).toInt64 = lN (2000 + 100 * a) := by
      rw [ln_n (by omega), show (100 : Int64) = lN 100 from rfl, ln_mul, show (2000 : Int64) = lN 2000 from rfl, ln_add]
    have hne : ¬ nI y = nI ((y + 1) % 10) := by
      rw [nn_eq (by omega) (by omega)]; omega
    have s2 := sc_2 (z := z) (X := 6000 + 100 * a + 10 * l + 7) (Y := 9007 + 100 * a + 10 * l) (u := sTest (aV z) a l 70) (by omega) (by omega) (by
      rw [show (6000 + 100 * a + 10 * l + 7) / 1000 = 6 by omega, show (6000 + 100 * a + 10 * l + 7) / 100 % 10 = a by omega, show (6000 + 100 * a + 10 * l + 7) / 10 % 10 = l by omega, show (6000 + 100 * a + 10 * l + 7) % 10 = 7 by omega, cm_6, if_pos ha, if_pos hl])
    have s3 : cmdA (aN z) (sTest (aV z) a l 70) ((9007 + 100 * a + 10 * l) / 1000) ((9007 + 100 * a + 10 * l) / 100 % 10) ((9007 + 100 * a + 10 * l) / 10 % 10) ((9007 + 100 * a + 10 * l) % 10) = some (sTest (aV z) a l 70) := by
      rw [show (9007 + 100 * a + 10 * l) / 1000 = 9 by omega, show (9007 + 100 * a + 10 * l) / 100 % 10 = a by omega, show (9007 + 100 * a + 10 * l) / 10 % 10 = l by omega, show (9007 + 100 * a + 10 * l) % 10 = 7 by omega, cm_9, if_pos ha, if_pos hl, if_pos (test_l (by omega) hl)]
    rw [s3, if_pos (show (some (sTest (aV z) a l 70)).isSome = true from rfl)] at s2
    have m1 : (y + 1) % 10 < 10 := Nat.mod_lt _ (by decide)
    rw [e1 y (by omega), e1 _ m1, e3, e4, e5, show nI 1 = (1 : Int32) from rfl, show nI 0 = (0 : Int32) from rfl, sc_is (q := 9) (x := a) (y := l) (w := y) (by omega) (by decide) (by omega) (by omega) (by omega) (by rw [cm_9, if_pos ha, if_pos hl, if_pos ey]), if_pos rfl, sc_no (q := 9) (x := a) (y := l) (w := (y + 1) % 10) (by omega) (by decide) (by omega) (by omega) m1 (by rw [cm_9, if_pos ha, if_pos hl, ey, if_neg hne]), if_pos rfl, s2, if_pos rfl, sc_no (q := 9) (x := a) (y := 4) (w := 0) (by omega) (by decide) (by omega) (by decide) (by decide) (by rw [cm_9, if_pos ha, if_neg (by decide)]), if_pos rfl]
    rcases wf_par hW ha with ⟨g, -⟩ | ⟨d, hd, hne, g, -, -⟩
    · rw [if_pos g, sc_no (q := 2) (x := a) (y := 0) (w := 0) (by omega) (by decide) (by omega) (by decide) (by decide) (by rw [cm_2, if_pos ha, sFree_t g, ifT])]
      exact sp_434 hW _ ha 0
    · rw [if_neg (show ¬ aV z (2 + 10 * a + 8) = -9999 by rw [g, nn_NI (by omega)]; exact not_false), sc_is (q := 2) (x := a) (y := 0) (w := 0) (by omega) (by decide) (by omega) (by decide) (by decide) (by rw [cm_2, if_pos ha, sFree_f g (by omega), ifF])]
      exact sp_434 hW _ ha (-9999)
theorem P_scripts (hW : WF (aN z) (aM z) (aV z)) (hI : IV (aN z) (aV z)) (hM : aM z ≤ 4000) {t : Nat} (ht : t < 2147483648) : hL_scripts z (nI t) = some 1 := by
  have h9 := hW.1
  have hp := cu_few hW hI
  have hpr := prs_len (n := aN z) (v := aV z)
  obtain ⟨b1, b2⟩ := sim_b hW hM ((nI t).toInt64 * 157)
  unfold hL_scripts
  rw [show A_tryAbout z 1 = nPrs (aN z) (aV z) from rfl, hpr, ln_n (by omega), show (8000 : Int64) = lN 8000 from rfl, show (8001 : Int64) = lN 8001 from rfl, ln_add, ln_add, sc_is (q := 8) (x := 0) (y := 0) (w := (curL (aN z) (aV z) (aN z) 0).length) (by omega) (by decide) (by decide) (by decide) (by omega) (by rw [cm_8, if_pos hpr]), if_pos rfl, sc_no (q := 8) (x := 0) (y := 0) (w := (curL (aN z) (aV z) (aN z) 0).length + 1) (by omega) (by decide) (by decide) (by decide) (by omega) (by rw [cm_8, hpr, if_neg (by rw [nn_eq (by omega) (by omega)]; omega)]), if_pos rfl]
  rw [show A_tryScript z 1 3000 = -9999 from sc_is (X := 3000) (q := 3) (x := 0) (y := 0) (w := 0) rfl (by decide) (by decide) (by decide) (by decide) rfl, if_pos rfl]
  rw [show A_tryScript z 1 3001 = 0 from sc_no (X := 3001) (q := 3) (x := 0) (y := 0) (w := 1) rfl (by decide) (by decide) (by decide) (by decide) rfl, if_pos rfl]
  rw [show A_tryScript z 1 4000 = 0 from sc_no (X := 4000) (q := 4) (x := 0) (y := 0) (w := 0) rfl (by decide) (by decide) (by decide) (by decide) rfl, if_pos rfl]
  rw [show A_tryScript z 1 4051 = 0 from sc_no (X := 4051) (q := 4) (x := 0) (y := 5) (w := 1) rfl (by decide) (by decide) (by decide) (by decide) rfl, if_pos rfl]
  rw [show A_tryScript z 1 4050 = -9999 from sc_is (X := 4050) (q := 4) (x := 0) (y := 5) (w := 0) rfl (by decide) (by decide) (by decide) (by decide) rfl, if_pos rfl]
  rw [show A_tryScript z 1 5512 = 0 from sc_no (X := 5512) (q := 5) (x := 5) (y := 1) (w := 2) rfl (by decide) (by decide) (by decide) (by decide) rfl, if_pos rfl]
  rw [show A_tryScript z 1 5511 = -9999 from sc_is (X := 5511) (q := 5) (x := 5) (y := 1) (w := 1) rfl (by decide) (by decide) (by decide) (by decide) rfl, if_pos rfl]
  have e6 : cmdA (aN z) (aV z) 6 0 4 0 = none := by
    rw [cm_6]
    split
    · rw [if_neg (by decide)]
    · rfl
  rw [show A_tryScript z 1 6040 = 0 from sc_no (X := 6040) (q := 6) (x := 0) (y := 4) (w := 0) rfl (by decide) (by decide) (by decide) (by decide) e6, if_pos rfl]
  rw [show A_tryScript z 1 8009 = 0 from sc_no (X := 8009) (q := 8) (x := 0) (y := 0) (w := 9) rfl (by decide) (by decide) (by decide) (by decide) (by rw [cm_8, hpr, if_neg (by rw [nn_eq (by omega) (by decide)]; omega)]), if_pos rfl]
  rw [show A_tryScript z 1 0 = 0 from sc_no (X := 0) (q := 0) (x := 0) (y := 0) (w := 0) rfl (by decide) (by decide) (by decide) (by decide) rfl, if_pos rfl]
  rw [if_neg b1, if_neg b2, if_pos rfl, show A_tryAbout z 0 = nI (aN z) from rfl]
  exact sp_212 hW ht
end S9I
