/-! best, missedMost -/
abbrev bAll (n : Nat) : List Nat := sm n (2 ^ n - 1)
noncomputable def A_tryBest (z : aS) (x : Int32) : Int32 := if rg 0 1 x = true then (if x = 0 then nI (bPz (bR (aV z) (bAll (aN z)))) else Int32.ofInt (bR (aV z) (bAll (aN z)) - 1000000 * (bPz (bR (aV z) (bAll (aN z))) : Int))) else -99002
noncomputable def gB (n : Nat) (v : tePg) : tePg := fun m => Int32.ofInt (bR v (sm n m))
noncomputable def A_missedMost (z : aS) : Int32 := oI (mm (gB (aN z) (aV z)) (2 ^ aN z - 1) (aN z) 0 none)
section S82
variable {n M : Nat} {v : tePg} {S : teS} {z : aS}
theorem mm_cong {g f : tePg} {al B : Nat} (h : ∀ m, m < B → g m = f m) (hB : ∀ a, clr al a < B) : ∀ (d a : Nat) (o : Option Nat), mm g al d a o = mm f al d a o
  | 0, a, o => rfl
  | d + 1, a, o => by
    have e : mmo g al a o = mmo f al a o := by
      cases o with
      | none => rfl
      | some c =>
        show (if g (clr al c) ≤ g (clr al a) then some c else some a) = if f (clr al c) ≤ f (clr al a) then some c else some a
        rw [h _ (hB c), h _ (hB a)]
    rw [mm_s, mm_s, e]
    exact mm_cong h hB d (a + 1) _
theorem clr_al (n a : Nat) : clr (2 ^ n - 1) a < 2 ^ n := by
  have hp := p2_pos n
  refine Nat.lt_of_le_of_lt ?_ (show 2 ^ n - 1 < 2 ^ n by omega)
  refine Nat.le_of_testBit fun i hi => ?_
  rw [clr_tb, Bool.and_eq_true] at hi
  exact hi.1
theorem am_tryBest (h : AB S z) (x : Int32) : ∃ S1, fL_tryBest x S = some (A_tryBest z x, S1) ∧ AB S1 z := by
  have hW := AB_W h
  have hE := AB_E h
  have h9 := hW.1
  have hM := AB_M h
  unfold fL_tryBest fX5_best A_tryBest
  cases h1 : rg 0 1 x
  · rw [r5_rg_f h1]
    exact ⟨S, rfl, h⟩
  rw [r5_rg_t h1, nn_bx1, ifT]
  obtain ⟨g, k1, k2⟩ := r0_fill hW (by omega) hE
  have hp2 := p2_lt h9
  have hp0 := p2_pos (aN z)
  have hv := k2 (2 ^ aN z - 1) (by omega)
  obtain ⟨ps, b1, b2, b3, b4, b5, b6, -⟩ := best_of hW (by omega) (sm_nd _ _) (fun x hx => (sm_in.mp hx).1) hv
  rw [bR_of hv, b4]
  have hq : (Int32.ofInt (msum (aV z) ps)).toInt = msum (aV z) ps := Int32.toInt_ofInt_of_le (by omega) (by omega)
  have hr : (g (2 ^ aN z - 1)).toInt - 1000000 * (ps.length : Int) = msum (aV z) ps := by omega
  refine ⟨tst S 368 g, ?_, AB_rnk h g⟩
  unfold fX0_rankOfAll
  rw [k1, nn_bd1, tst_n _ _ (show 0 ≠ 368 by decide), AB_e0 h, all_i h9, nn_in (show 2 ^ aN z - 1 < 512 by omega) (by decide), nn_tn (by omega), tst_s, nn_bd1, r0_prs (Q := msum (aV z) ps) b2 (by omega) (by omega) (by omega), r0_sum (q := Int32.ofInt (msum (aV z) ps)) (by rw [hq]; exact b2) (by omega) (by rw [hq]; omega) (by rw [hq]; omega), nn_bd1, nn_bd1, hr]
  by_cases h0 : x = 0
  · rw [if_pos h0, if_pos h0]; rfl
  · rw [if_neg h0, if_neg h0]; rfl
theorem am_missedMost (h : AB S z) : ∃ S1, fX5_missedMost S = some (A_missedMost z, S1) ∧ AB S1 z := by
  have hW := AB_W h
  have hE := AB_E h
  have h9 := hW.1
  have hM := AB_M h
  obtain ⟨g, k1, k2⟩ := r0_fill hW (by omega) hE
  refine ⟨tst S 368 g, ?_, AB_rnk h g⟩
  unfold fX5_missedMost A_missedMost
  rw [k1, nn_bd1]
  have e : mm (gB (aN z) (aV z)) (2 ^ aN z - 1) (aN z) 0 none = mm g (2 ^ aN z - 1) (aN z) 0 none := mm_cong (B := 2 ^ aN z) (fun m hm => by
    unfold gB
    rw [bR_of (k2 m hm), Int32.ofInt_toInt]) (clr_al _) _ _ _
  rw [e]
  exact c5_mm h9 (AB_e0 h) (aN z) 0 2000 none (by omega) (by omega) (fun c hc => by cases hc)
end S82
