/-! SCRIPTS: each one of one or two commands -/
theorem ln_add (a b : Nat) : lN a + lN b = lN (a + b) := (Int64.ofNat_add a b).symm
theorem ln_mul (a b : Nat) : lN a * lN b = lN (a * b) := (Int64.ofNat_mul a b).symm
theorem ln_n {a : Nat} (h : a < 2147483648) : (nI a).toInt64 = lN a := Int64.toInt_inj.mp (by
  rw [Int32.toInt_toInt64, nI_toInt (by omega)]
  exact (Int64.toInt_ofNat_of_lt (by omega)).symm)
theorem ln_ge {a : Nat} (h : a < 2147483648) : ¬ lN a < 0 := by
  rw [Int64.lt_iff_toInt_lt, show (lN a).toInt = (a : Int) from Int64.toInt_ofNat_of_lt (by omega), show (0 : Int64).toInt = 0 from rfl]
  omega
section S9H
variable {n M : Nat} {v : tePg} {z : aS}
theorem sc_1 {X : Nat} (h : X < 10000) : A_tryScript z 1 (lN X) = if (cmdA (aN z) (aV z) (X / 1000) (X / 100 % 10) (X / 10 % 10) (X % 10)).isSome = true then -9999 else 0 := by
  unfold A_tryScript
  rw [show rg 1 4 1 = true by decide, ifT, if_neg (ln_ge (by omega)), lN_tn (by omega), show (1 : Int32).toNatClampNeg = 1 from rfl, if_pos (by omega), scrA, Nat.pow_zero, Nat.div_one, Nat.mod_eq_of_lt h]
  cases cmdA (aN z) (aV z) (X / 1000) (X / 100 % 10) (X / 10 % 10) (X % 10) with
  | none => rfl
  | some u => rfl
theorem sc_2 {X Y : Nat} (h : X < 10000) (hY : Y < 10000) {u : tePg} (h1 : cmdA (aN z) (aV z) (X / 1000) (X / 100 % 10) (X / 10 % 10) (X % 10) = some u) : A_tryScript z 2 (lN (X * 10000 + Y)) = if (cmdA (aN z) u (Y / 1000) (Y / 100 % 10) (Y / 10 % 10) (Y % 10)).isSome = true then -9999 else 1 := by
  unfold A_tryScript
  rw [show rg 1 4 2 = true by decide, ifT, if_neg (ln_ge (by omega)), lN_tn (by omega), show (2 : Int32).toNatClampNeg = 2 from rfl, if_pos (by omega), scrA, Nat.pow_one, show (X * 10000 + Y) / 10000 % 10000 = X by omega, h1]
  show scrA (aN z) (X * 10000 + Y) 1 1 u = _
  rw [scrA, Nat.pow_zero, Nat.div_one, show (X * 10000 + Y) % 10000 = Y by omega]
  cases cmdA (aN z) u (Y / 1000) (Y / 100 % 10) (Y / 10 % 10) (Y % 10) with
  | none => rfl
  | some u => rfl
theorem sc_no {X q x y w : Nat} (h : X = 1000 * q + 100 * x + 10 * y + w) (hq : q < 10) (hx : x < 10) (hy : y < 10) (hw : w < 10) (hc : cmdA (aN z) (aV z) q x y w = none) : A_tryScript z 1 (lN X) = 0 := by
  rw [sc_1 (by omega), show X / 1000 = q by omega, show X / 100 % 10 = x by omega, show X / 10 % 10 = y by omega, show X % 10 = w by omega, hc]; rfl
theorem sc_is {X q x y w : Nat} {u : tePg} (h : X = 1000 * q + 100 * x + 10 * y + w) (hq : q < 10) (hx : x < 10) (hy : y < 10) (hw : w < 10) (hc : cmdA (aN z) (aV z) q x y w = some u) : A_tryScript z 1 (lN X) = -9999 := by
  rw [sc_1 (by omega), show X / 1000 = q by omega, show X / 100 % 10 = x by omega, show X / 10 % 10 = y by omega, show X % 10 = w by omega, hc]; rfl
theorem wf_sim : ∀ (m : Nat) (x : Int64) (M : Nat) (v : tePg), WF n M v → M + 9 * m < 100000 → WF n (M + 9 * m) (sim n m x v)
  | 0, x, M, v, hW, hM => hW
  | m + 1, x, M, v, hW, hM => by
    rw [sim_s]
    generalize (((((x * (6364136223846793005 : Int64)) + (1442695040888963407 : Int64))).toUInt64 >>> (((33 : Int32)).toInt64.toUInt64 &&& Int64.toUInt64 63)).toInt64).toInt32 = r
    generalize (x * (6364136223846793005 : Int64)) + (1442695040888963407 : Int64) = y
    unfold simB
    have h0 : WF n M (if r - r / (4 : Int32) * (4 : Int32) = 0 then (mt n 4 v).2 else v) := by
      split
      · exact wf_mt 4 v hW
      · exact hW
    have h1 := wf_week h0 (by omega) ((r / (4 : Int32)) - (r / (4 : Int32)) / (512 : Int32) * (512 : Int32))
    have h2 := wf_sim m y (M + 9) _ h1 (by omega)
    rw [show M + 9 + 9 * m = M + 9 * (m + 1) by omega] at h2
    exact h2
theorem crd_b (hW : WF n M v) : ∀ (d a : Nat) (acc : Int32), a + d = n → -99 * (a : Int) ≤ acc.toInt → acc.toInt ≤ 99 * (a : Int) → -99 * (n : Int) ≤ (s1 (fun c => v (2 + 10 * c + 6)) d a acc).toInt ∧ (s1 (fun c => v (2 + 10 * c + 6)) d a acc).toInt ≤ 99 * (n : Int)
  | 0, a, acc, h, b1, b2 => by
    have e : a = n := by omega
    subst e
    exact ⟨b1, b2⟩
  | d + 1, a, acc, h, b1, b2 => by
    have h9 := hW.1
    obtain ⟨c, hc, e⟩ := (hW.2.2.2 a (by omega)).2.2.1
    have et : (v (2 + 10 * a + 6)).toInt = (c : Int) - 99 := by
      rw [e]
      exact ti_sub (nI_toInt (by omega)) (by rfl) (by omega) (by omega)
    have e2 : (acc + v (2 + 10 * a + 6)).toInt = acc.toInt + ((c : Int) - 99) := ti_add rfl et (by omega) (by omega)
    rw [s1]
    exact crd_b hW d (a + 1) (acc + v (2 + 10 * a + 6)) (by omega) (by rw [e2]; omega) (by rw [e2]; omega)
theorem sim_b (hW : WF (aN z) (aM z) (aV z)) (hM : aM z ≤ 4000) (s : Int64) : ¬ A_trySimulate z s 15 < -891 ∧ ¬ 891 < A_trySimulate z s 15 := by
  have h9 := hW.1
  have e : A_trySimulate z s 15 = crd (aN z) (sim (aN z) 15 s (aV z)) := by
    unfold A_trySimulate
    rw [show rg 1 60 15 = true by decide, ifT]; rfl
  have hW2 := wf_sim 15 s (aM z) (aV z) hW (by omega)
  obtain ⟨b1, b2⟩ := crd_b hW2 (aN z) 0 0 (Nat.zero_add _) (by decide) (by decide)
  have e2 : crd (aN z) (sim (aN z) 15 s (aV z)) = s1 (fun c => sim (aN z) 15 s (aV z) (2 + 10 * c + 6)) (aN z) 0 0 := rfl
  rw [e, e2]
  constructor
  · rw [Int32.lt_iff_toInt_lt, show (-891 : Int32).toInt = -891 from rfl]; omega
  · rw [Int32.lt_iff_toInt_lt, show (891 : Int32).toInt = 891 from rfl]; omega
/-- the commands -/
theorem cm_1n {x w : Nat} (h : w = 0) : cmdA n v 1 x x w = none := by
  show (if w = 0 then (if x < n then (if x < n then (if x = x then none else if may v x x = true then some (sUni v x x) else none) else none) else none) else none) = none
  rw [if_pos h]
  split
  · rw [if_pos rfl]
  · rfl
theorem cm_2 {x : Nat} : cmdA n v 2 x 0 0 = if x < n then (if sFree v x = true then none else some (mPart v x)) else none := rfl
theorem cm_7 {x y : Nat} : cmdA n v 7 x y 0 = if x < n then (if y < n then (if v (2 + 10 * x + 8) = nI y then some v else none) else none) else none := rfl
theorem cm_8 {w : Nat} : cmdA n v 8 0 0 w = if nPrs n v = nI w then some v else none := rfl
theorem cm_9 {x y w : Nat} : cmdA n v 9 x y w = if x < n then (if y < 4 then (if v (2 + 10 * x + y) = nI w then some v else none) else none) else none := rfl
theorem cm_6 {x y w : Nat} : cmdA n v 6 x y w = if x < n then (if y < 4 then some (sTest v x y (10 * w)) else none) else none := rfl
theorem test_l {a l x : Nat} (ha : a < 9) (hl : l < 4) : sTest v a l x (2 + 10 * a + l) = nI (x / 10) := by
  have e : sTest1 v a l x (2 + 10 * a + l) = nI (x / 10) := by
    unfold sTest1
    split
    · rw [tup_n _ _ (by omega), tup_s]
    · rw [tup_s]
  unfold sTest mMend
  split
  · exact e
  · rw [mp_l _ a a (by omega)]; exact e
theorem sp_564 (h9 : aN z ≤ 9) (x1 : Int32) : hL_scripts_564 z x1 (nI (aN z)) 1 = some 1 := by
  unfold hL_scripts_564
  rw [if_neg i1_0, li9, eq_if (by omega) (by decide)]
  by_cases h : aN z = 9
  · rw [if_pos h]
  · rw [if_neg h, ln_n (by omega), show (100 : Int64) = lN 100 from rfl, ln_mul, show (2000 : Int64) = lN 2000 from rfl, ln_add, sc_no (q := 2) (x := aN z) (y := 0) (w := 0) (by omega) (by decide) (by omega) (by decide) (by decide) (by rw [cm_2, if_neg (Nat.lt_irrefl _)]), if_pos rfl]
theorem sp_519 (hW : WF (aN z) M (aV z)) (x1 : Int32) {a : Nat} (ha : a < aN z) : hL_scripts_519 z x1 (nI (aN z)) (nI a) = some 1 := by
  have h9 := hW.1
  unfold hL_scripts_519
  have hn : ¬ aV z (2 + 10 * a + 8) = nI a := fun e => (wf_back hW ha ha e).1 rfl
  rw [ln_n (by omega), show (110 : Int64) = lN 110 from rfl, ln_mul, show (1000 : Int64) = lN 1000 from rfl, show (7000 : Int64) = lN 7000 from rfl, ln_add, ln_add, sc_no (q := 1) (x := a) (y := a) (w := 0) (by omega) (by decide) (by omega) (by omega) (by decide) (cm_1n rfl), if_pos rfl, sc_no (q := 7) (x := a) (y := a) (w := 0) (by omega) (by decide) (by omega) (by omega) (by decide) (by rw [cm_7, if_pos ha, if_pos ha, if_neg hn]), if_pos rfl]
  exact sp_564 h9 x1
theorem sp_434 (hW : WF (aN z) M (aV z)) (x1 : Int32) {a : Nat} (ha : a < aN z) (y : Int32) : hL_scripts_434 z x1 (nI (aN z)) (nI a) (aV z (2 + 10 * a + 8)) y y = some 1 := by
  have h9 := hW.1
  have k := sp_519 hW x1 ha
  unfold hL_scripts_434
  rw [if_pos rfl]
  rcases wf_par hW ha with ⟨g, -⟩ | ⟨d, hd, hne, g, -, -⟩
  · rw [if_pos g]; exact k
  · have g8 : ¬ mPart (aV z) a (2 + 10 * a + 8) = nI d := by
      rw [mp_8a]
      exact fun e => N_ne (by omega) rfl e
    have e1 : (7000 : Int64) + 100 * (nI a).toInt64 + 10 * (nI d).toInt64 = lN (7000 + 100 * a + 10 * d) := by
      rw [ln_n (by omega), ln_n (by omega), show (100 : Int64) = lN 100 from rfl, show (10 : Int64) = lN 10 from rfl, ln_mul, ln_mul, show (7000 : Int64) = lN 7000 from rfl, ln_add, ln_add]
    have e2 : ((2000 : Int64) + 100 * (nI a).toInt64) * 10000 + 7000 + 100 * (nI a).toInt64 + 10 * (nI d).toInt64 = lN ((2000 + 100 * a) * 10000 + (7000 + 100 * a + 10 * d)) := by
      rw [ln_n (by omega), ln_n (by omega), show (100 : Int64) = lN 100 from rfl, show (10 : Int64) = lN 10 from rfl, ln_mul, ln_mul, show (2000 : Int64) = lN 2000 from rfl, show (7000 : Int64) = lN 7000 from rfl, show (10000 : Int64) = lN 10000 from rfl, ln_add, ln_mul, ln_add, ln_add, ln_add]
      exact congrArg lN (by omega)
    rw [if_neg (by rw [g, nn_NI (by omega)]; exact not_false), g, e1, e2, sc_is (q := 7) (x := a) (y := d) (w := 0) (by omega) (by decide) (by omega) (by omega) (by decide) (by rw [cm_7, if_pos ha, if_pos hd, if_pos g]), if_pos rfl]
    have s2 := sc_2 (z := z) (X := 2000 + 100 * a) (Y := 7000 + 100 * a + 10 * d) (u := mPart (aV z) a) (by omega) (by omega) (by
      rw [show (2000 + 100 * a) / 1000 = 2 by omega, show (2000 + 100 * a) / 100 % 10 = a by omega, show (2000 + 100 * a) / 10 % 10 = 0 by omega, show (2000 + 100 * a) % 10 = 0 by omega, cm_2, if_pos ha, sFree_f g (by omega), ifF])
    rw [s2, show (7000 + 100 * a + 10 * d) / 1000 = 7 by omega, show (7000 + 100 * a + 10 * d) / 100 % 10 = a by omega, show (7000 + 100 * a + 10 * d) / 10 % 10 = d by omega, show (7000 + 100 * a + 10 * d) % 10 = 0 by omega, cm_7, if_pos ha, if_pos hd, if_neg g8, if_neg (show ¬ (none : Option tePg).isSome = true by decide), if_pos rfl]
    exact k
end S9H
