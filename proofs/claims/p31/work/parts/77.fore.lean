/-! FORECASTS and simulations -/
def A_tryAhead (z : aS) (x y w o : Int32) : Int32 := if isM (aN z) x = true then (if rg 0 60 y = true then (if rg 0 511 w = true then (if rg 0 10 o = true then sNum (aN z) (wks (aN z) w y.toNatClampNeg (aV z)) x.toNatClampNeg o.toNatClampNeg else -99002) else -99002) else -99002) else -99001
def A_tryLevelAfter (z : aS) (x y : Int32) : Int32 := if isM (aN z) x = true then (if rg 0 9 y = true then lvA (aN z) x.toNatClampNeg y 101 0 (aV z) else -99002) else -99001
def A_tryPartsAfter (z : aS) (x y : Int32) : Int32 := if isM (aN z) x = true then (if rg 0 511 y = true then (if sFree (aV z) x.toNatClampNeg = true then -99003 else paA (aN z) x.toNatClampNeg y 100 1 (aV z)) else -99002) else -99001
def A_trySimulate (z : aS) (x : Int64) (y : Int32) : Int32 := if rg 1 60 y = true then crd (aN z) (sim (aN z) y.toNatClampNeg x (aV z)) else -99002
section S77
variable {S : teS} {z : aS}
theorem rg_sub {lo hi x : Int32} (h0 : 0 ≤ lo) (h : rg lo hi x = true) : rg 0 hi x = true := by
  unfold rg at h ⊢
  rw [Bool.and_eq_true] at h ⊢
  refine ⟨decide_eq_true (fun hx => of_decide_eq_true h.1 (Int32.lt_of_lt_of_le hx h0)), h.2⟩
theorem am_tryAhead (h : AB S z) (x y w o : Int32) : ∃ S1, fL_tryAhead x y w o S = some (A_tryAhead z x y w o, S1) ∧ AB S1 z := by
  have hW := AB_W h
  have hE := AB_E h
  have h9 := hW.1
  have hM := AB_M h
  unfold fL_tryAhead fX5_ahead A_tryAhead
  cases h1 : isM (aN z) x
  · rw [r5_mem_f (AB_e0 h) h1]
    exact ⟨S, rfl, h⟩
  rw [r5_mem_t (AB_e0 h) h1, nn_bx1, ifT]
  cases h2 : rg 0 60 y
  · rw [r5_rg_f h2]
    exact ⟨S, rfl, h⟩
  rw [r5_rg_t h2, nn_bx1, ifT]
  cases h3 : rg 0 511 w
  · rw [r5_rg_f h3]
    exact ⟨S, rfl, h⟩
  rw [r5_rg_t h3, nn_bx1, ifT]
  cases h4 : rg 0 10 o
  · rw [r5_rg_f h4]
    exact ⟨S, rfl, h⟩
  rw [r5_rg_t h4, nn_bx1, ifT]
  obtain ⟨a, ha, rfl⟩ := isM_t h9 h1
  obtain ⟨X, hX, rfl⟩ := rg_nat (N := 60) (by decide) h2
  obtain ⟨q, hq, rfl⟩ := rg_nat (N := 10) (by decide) h4
  obtain ⟨p, k1, k2⟩ := r1_copy (k0 := 1) (k1 := 0) (S := S) (by decide) hW hE
  obtain ⟨p2, k3⟩ := c5_ah hq hX w ha X 0 2000 (aM z) (aV z) (tst S 1 p) hW (by rw [tst_s]; exact k2) (by omega) (by omega) (by omega)
  rw [tst_t] at k3
  refine ⟨tst S 1 p2, ?_, AB_tri h p2⟩
  rw [k1, nn_bd1, li0, k3, nn_tn (by omega), nn_tn (by omega), nn_tn (by omega)]; rfl
theorem am_tryLevelAfter (h : AB S z) (x y : Int32) : ∃ S1, fL_tryLevelAfter x y S = some (A_tryLevelAfter z x y, S1) ∧ AB S1 z := by
  have hW := AB_W h
  have hE := AB_E h
  have h9 := hW.1
  have hM := AB_M h
  unfold fL_tryLevelAfter fX5_levelAfter A_tryLevelAfter
  cases h1 : isM (aN z) x
  · rw [r5_mem_f (AB_e0 h) h1]
    exact ⟨S, rfl, h⟩
  rw [r5_mem_t (AB_e0 h) h1, nn_bx1, ifT]
  cases h2 : rg 0 9 y
  · rw [r5_rg_f h2]
    exact ⟨S, rfl, h⟩
  rw [r5_rg_t h2, nn_bx1, ifT]
  obtain ⟨a, ha, rfl⟩ := isM_t h9 h1
  obtain ⟨p, k1, k2⟩ := r1_copy (k0 := 1) (k1 := 0) (S := S) (by decide) hW hE
  obtain ⟨p2, k3⟩ := c5_lv ha y 101 0 2000 (aM z) (aV z) (tst S 1 p) hW (by rw [tst_s]; exact k2) (by omega) (by omega) (by omega)
  rw [tst_t] at k3
  refine ⟨tst S 1 p2, ?_, AB_tri h p2⟩
  rw [k1, nn_bd1, li0, k3, nn_tn (by omega)]; rfl
theorem am_tryPartsAfter (h : AB S z) (x y : Int32) : ∃ S1, fL_tryPartsAfter x y S = some (A_tryPartsAfter z x y, S1) ∧ AB S1 z := by
  have hW := AB_W h
  have hE := AB_E h
  have h9 := hW.1
  have hM := AB_M h
  unfold fL_tryPartsAfter fX5_partsAfter fX5_requirePartner A_tryPartsAfter
  cases h1 : isM (aN z) x
  · rw [r5_mem_f (AB_e0 h) h1]
    exact ⟨S, rfl, h⟩
  rw [r5_mem_t (AB_e0 h) h1, nn_bx1, ifT]
  cases h2 : rg 0 511 y
  · rw [r5_rg_f h2]
    exact ⟨S, rfl, h⟩
  rw [r5_rg_t h2, nn_bx1, ifT]
  obtain ⟨a, ha, rfl⟩ := isM_t h9 h1
  rw [nn_tn (by omega), r1_free hW hE ha, nn_bd1]
  cases hy : sFree (aV z) a
  · rw [ifF]
    obtain ⟨p, k1, k2⟩ := r1_copy (k0 := 1) (k1 := 0) (S := S) (by decide) hW hE
    obtain ⟨p2, k3⟩ := c5_pa ha y 100 1 2000 (aM z) (aV z) (tst S 1 p) hW (by rw [tst_s]; exact k2) (by omega) (by omega) (by omega)
    rw [tst_t] at k3
    refine ⟨tst S 1 p2, ?_, AB_tri h p2⟩
    rw [if_pos (show bI false = 0 from rfl), nn_bx1, k1, nn_bd1, li1, k3]; rfl
  · rw [ifT, if_neg (show ¬ bI true = 0 by decide)]
    exact ⟨S, rfl, h⟩
theorem am_trySimulate (h : AB S z) (x : Int64) (y : Int32) : ∃ S1, fL_trySimulate x y S = some (A_trySimulate z x y, S1) ∧ AB S1 z := by
  have hW := AB_W h
  have hE := AB_E h
  have h9 := hW.1
  have hM := AB_M h
  unfold fL_trySimulate fX5_simulate A_trySimulate
  cases h1 : rg 1 60 y
  · rw [r5_rg_f h1]
    exact ⟨S, rfl, h⟩
  rw [r5_rg_t h1, nn_bx1, ifT]
  obtain ⟨X, hX, rfl⟩ := rg_nat (N := 60) (by decide) (rg_sub (by decide) h1)
  obtain ⟨p, k1, k2⟩ := r1_copy (k0 := 1) (k1 := 0) (S := S) (by decide) hW hE
  obtain ⟨p2, k3⟩ := c5_sim hX x X 0 2000 (aM z) (aV z) (tst S 1 p) x hW (by rw [tst_s]; exact k2) (by omega) (by omega) (by omega)
  rw [tst_t] at k3
  refine ⟨tst S 1 p2, ?_, AB_tri h p2⟩
  rw [k1, nn_bd1, li0, k3, nn_tn (by omega)]; rfl
end S77
