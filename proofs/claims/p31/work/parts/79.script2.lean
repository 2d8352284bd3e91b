/-! SCRIPTS: the run -/
def scrA (n X : Nat) : Nat → Nat → tePg → Int32
  | 0, _, _ => -9999
  | d + 1, c, v => match cmdA n v (X / 10000 ^ d % 10000 / 1000) (X / 10000 ^ d % 10000 / 100 % 10) (X / 10000 ^ d % 10000 / 10 % 10) (X / 10000 ^ d % 10000 % 10) with | none => nI c | some u => scrA n X d (c + 1) u
def A_tryScript (z : aS) (k : Int32) (s : Int64) : Int32 := if rg 1 4 k = true then (if s < 0 then -99002 else if s.toNatClampNeg < 10000 ^ k.toNatClampNeg then scrA (aN z) s.toNatClampNeg k.toNatClampNeg 0 (aV z) else -99002) else -99002
section S79
variable {n : Nat}
theorem c5_scr {X N : Nat} (hX : X < 9223372036854775808) (hN : N ≤ 4) : ∀ (d c fuel M : Nat) (v : tePg) (S : teS), WF n M v → PE n (S 1) v → M + 9 * d < 100000 → c + d = N → d < fuel →
    ∃ p, fX5_runScript_46 (nI N) (lN X) fuel S (nI c) = some (.inr (scrA n X d c v, tst S 1 p))
  | 0, c, fuel, M, v, S, hW, hE, hM, hc, hf => by
    obtain ⟨f, rfl⟩ : ∃ f, fuel = f + 1 := ⟨fuel - 1, by omega⟩
    unfold fX5_runScript_46
    rw [if_pos (by rw [nn_le (by omega) (by omega)]; omega)]
    exact ⟨S 1, by rw [tst_i]; rfl⟩
  | d + 1, c, fuel, M, v, S, hW, hE, hM, hc, hf => by
    obtain ⟨f, rfl⟩ : ∃ f, fuel = f + 1 := ⟨fuel - 1, by omega⟩
    have hg : X / 10000 ^ d % 10000 < 10000 := Nat.mod_lt _ (by decide)
    have hdl : X / 10000 ^ d < 9223372036854775808 := Nat.lt_of_le_of_lt (Nat.div_le_self _ _) hX
    obtain ⟨p, g1, g2, g3⟩ := c5_cmd hW hE (by omega) hg
    unfold fX5_runScript_46
    rw [if_neg (by rw [nn_le (by omega) (by omega)]; omega), li1, nn_sub (by omega), nn_sub (by omega), show N - 1 - c = d by omega, wlg hX (by omega), nn_bd1, lL10k, pk_lRem hdl (by decide) (by decide), lN_i, g1, nn_bd2, bI_if]
    cases hc2 : cmdA n v (X / 10000 ^ d % 10000 / 1000) (X / 10000 ^ d % 10000 / 100 % 10) (X / 10000 ^ d % 10000 / 10 % 10) (X / 10000 ^ d % 10000 % 10) with
    | none =>
      rw [if_pos (show (none : Option tePg).isSome = false from rfl)]
      have e : scrA n X (d + 1) c v = nI c := by
        rw [scrA, hc2]
      rw [e]
      exact ⟨p, rfl⟩
    | some u =>
      rw [hc2] at g2 g3
      have e : scrA n X (d + 1) c v = scrA n X d (c + 1) u := by
        rw [scrA, hc2]
      rw [e, if_neg (show ¬ (some u).isSome = false from fun e => by cases e), nn_add]
      obtain ⟨p2, k1⟩ := c5_scr hX hN d (c + 1) f (M + 9) u (tst S 1 p) g2 (by rw [tst_s]; exact g3) (by omega) (by omega) (by omega)
      rw [tst_t] at k1
      exact ⟨p2, k1⟩
theorem lN_tn {X : Nat} (hX : X < 9223372036854775808) : (lN X).toNatClampNeg = X := by
  have h : (lN X).toInt = (X : Int) := Int64.toInt_ofNat_of_lt hX
  show (lN X).toInt.toNat = X
  rw [h]
  rfl
theorem am_tryScript {S : teS} {z : aS} (h : AB S z) (k : Int32) (s : Int64) : ∃ S1, fL_tryScript k s S = some (A_tryScript z k s, S1) ∧ AB S1 z := by
  have hW := AB_W h
  have hE := AB_E h
  have h9 := hW.1
  have hM := AB_M h
  unfold fL_tryScript fX5_runScript A_tryScript
  cases h1 : rg 1 4 k
  · rw [r5_rg_f h1]
    exact ⟨S, rfl, h⟩
  rw [r5_rg_t h1, nn_bx1, ifT]
  obtain ⟨N, hN, rfl⟩ := rg_nat (N := 4) (by decide) (rg_sub (by decide) h1)
  by_cases hs : s < 0
  · rw [if_pos ((lg_cmp_lt _ _).mpr hs), if_pos hs]
    exact ⟨S, rfl, h⟩
  · rw [if_neg (fun z => hs ((lg_cmp_lt _ _).mp z)), if_neg hs]
    obtain ⟨X, hX, rfl⟩ := pk_lOf hs
    obtain ⟨p1, p2⟩ := p10k hN
    have hdv : X / 10000 ^ N ≤ X := Nat.div_le_self _ _
    have hz : lg_cmp (lN (X / 10000 ^ N)) 0 = 0 ↔ X < 10000 ^ N := by
      rw [lg_cmp_eq]
      show lN (X / 10000 ^ N) = lN 0 ↔ _
      rw [pk_lEQ (by omega) (by decide), Nat.div_eq_zero_iff]
      omega
    rw [wlg hX (by omega), nn_bd1, nn_tn (by omega), lN_tn hX]
    by_cases hb : X < 10000 ^ N
    · rw [if_pos (hz.mpr hb), if_pos hb]
      obtain ⟨p, k1, k2⟩ := r1_copy (k0 := 1) (k1 := 0) (S := S) (by decide) hW hE
      obtain ⟨p2, k3⟩ := c5_scr hX hN N 0 2000 (aM z) (aV z) (tst S 1 p) hW (by rw [tst_s]; exact k2) (by omega) (by omega) (by omega)
      rw [tst_t] at k3
      refine ⟨tst S 1 p2, ?_, AB_tri h p2⟩
      rw [k1, nn_bd1]
      rw [show fX5_runScript_46 (nI N) (lN X) 2000 (tst S 1 p) 0 = _ from k3]
      rfl
    · rw [if_neg (fun z => hb (hz.mp z)), if_neg hb]
      exact ⟨S, rfl, h⟩
end S79
