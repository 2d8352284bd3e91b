/-! WHAT A PAIR IS WORTH -/
theorem ti_add {x y : Int32} {a b : Int} (hx : x.toInt = a) (hy : y.toInt = b) (h1 : -2147483648 ≤ a + b) (h2 : a + b < 2147483648) : (x + y).toInt = a + b := by
  rw [Int32.toInt_add, hx, hy]
  exact Int.bmod_eq_of_le (by omega) (by omega)
theorem ti_sub {x y : Int32} {a b : Int} (hx : x.toInt = a) (hy : y.toInt = b) (h1 : -2147483648 ≤ a - b) (h2 : a - b < 2147483648) : (x - y).toInt = a - b := by
  rw [Int32.toInt_sub, hx, hy]
  exact Int.bmod_eq_of_le (by omega) (by omega)
theorem ti_mul {x y : Int32} {a b c : Int} (hx : x.toInt = a) (hy : y.toInt = b) (hc : a * b = c) (h1 : -2147483648 ≤ c) (h2 : c < 2147483648) : (x * y).toInt = c := by
  rw [Int32.toInt_mul, hx, hy, hc]
  exact Int.bmod_eq_of_le (by omega) (by omega)
theorem q_sq : ∀ c : Fin 199, -25 ≤ (sQ (nI c.val - 99)).toInt ∧ (sQ (nI c.val - 99)).toInt ≤ 24 := by decide +kernel
section S65
variable {n M : Nat} {v : tePg}
theorem sc_b (hW : WF n M v) (hM : M ≤ 5000) {a b : Nat} (ha : a < n) (hb : b < n) : -25150 ≤ (sSc v a b).toInt ∧ (sSc v a b).toInt ≤ 25150 := by
  obtain ⟨h9, -, h0, hm⟩ := hW
  obtain ⟨w, hw, ew⟩ := (hm a ha).2.1
  have hp : pw v a = w := by unfold pw; rw [ew, nn_tn (by omega)]
  obtain ⟨x, hx, ex⟩ := (hm b hb).1 w hw
  obtain ⟨y, hy, ey⟩ := (hm a ha).1 w hw
  obtain ⟨c, hc, ec⟩ := (hm b hb).2.2.1
  obtain ⟨m, hm2, em⟩ := (hm b hb).2.2.2.1
  have hL : (sL v a b).toInt = (x : Int) - (y : Int) := by
    unfold sL
    rw [hp, ex, ey]
    exact ti_sub (nI_toInt (by omega)) (nI_toInt (by omega)) (by omega) (by omega)
  have h10 : ((10 : Int32) * sL v a b).toInt = 10 * ((x : Int) - (y : Int)) := ti_mul (show (10 : Int32).toInt = 10 by decide) hL rfl (by omega) (by omega)
  have h5 : ((5 : Int32) * v (2 + 10 * b + 7)).toInt = 5 * (m : Int) := by
    rw [em]
    exact ti_mul (show (5 : Int32).toInt = 5 by decide) (nI_toInt (by omega)) rfl (by omega) (by omega)
  obtain ⟨q1, q2⟩ := q_sq ⟨c, by omega⟩
  rw [← ec] at q1 q2
  have h6 := ti_sub h10 h5 (by omega) (by omega)
  have h7 := ti_add (y := sQ (v (2 + 10 * b + 6))) h6 rfl (by omega) (by omega)
  have h8 : (sSc v a b).toInt = 10 * ((x : Int) - (y : Int)) - 5 * (m : Int) + (sQ (v (2 + 10 * b + 6))).toInt := h7
  omega
theorem vl_b (hW : WF n M v) (hM : M ≤ 5000) {a b : Nat} (ha : a < n) (hb : b < n) : -50300 ≤ (sVal v a b).toInt ∧ (sVal v a b).toInt ≤ 50300 := by
  obtain ⟨h1, h2⟩ := sc_b hW hM ha hb
  obtain ⟨h3, h4⟩ := sc_b hW hM hb ha
  have h5 : (sVal v a b).toInt = (sSc v a b).toInt + (sSc v b a).toInt := ti_add rfl rfl (by omega) (by omega)
  omega
theorem sFit_c (v : tePg) (a b : Nat) : sFit v a b = sFit v b a := Bool.and_comm _ _
theorem sVal_c (v : tePg) (a b : Nat) : sVal v a b = sVal v b a := Int32.add_comm _ _
def Wt (v : tePg) (a b : Nat) : Int := 1000000 + (sVal v a b).toInt
theorem Wt_c (v : tePg) (a b : Nat) : Wt v a b = Wt v b a := by
  unfold Wt
  rw [sVal_c]
abbrev VL (v : tePg) (l : List Nat) (r : Int) : Prop := Val (sFit v) (Wt v) l r
theorem VL_perm {l l' : List Nat} {r : Int} (h : l.Perm l') (hn : l.Nodup) (hv : VL v l r) : VL v l' r := Val_perm (sFit_c v) (Wt_c v) h hn hv
theorem VL_le (hW : WF n M v) (hM : M ≤ 5000) {m : Nat} {r : Int} (h : VL v (sm n m) r) : 0 ≤ r ∧ r ≤ 10000000 := by
  have h9 := hW.1
  refine ⟨Val_ge h, ?_⟩
  have h1 := Val_le (B := 1050300) (by decide) (fun a ha b hb => by
    have := (vl_b hW hM (sm_in.mp ha).1 (sm_in.mp hb).1).2
    unfold Wt
    omega) h
  have h2 := sm_len n m
  omega
end S65
/-! BITS of small numbers -/
theorem q_bit : ∀ o : Fin 512, ∀ b : Fin 9, decide (((nI o.val >>> (nI b.val &&& 31)) &&& (1 : Int32)) = 1) = o.val.testBit b.val := by decide +kernel
theorem q_bit0 : ∀ o : Fin 512, ∀ b : Fin 9, decide (((nI o.val >>> (nI b.val &&& 31)) &&& (1 : Int32)) = 0) = !o.val.testBit b.val := by decide +kernel
theorem q_clr : ∀ o : Fin 512, ∀ b : Fin 9, nI o.val &&& (((1 : Int32) <<< (nI b.val &&& 31)) ^^^ (-1)) = nI (clr o.val b.val) := by decide +kernel
theorem q_clt : ∀ o : Fin 512, ∀ b : Fin 9, o.val.testBit b.val = true → clr o.val b.val < o.val := by decide +kernel
theorem q_or : ∀ k : Fin 9, ∀ o : Fin 256, o.val < 2 ^ k.val → (nI (2 ^ k.val) ||| nI o.val) = nI (2 ^ k.val + o.val) := by decide +kernel
theorem q_sh : ∀ k : Fin 10, (1 : Int32) <<< (nI k.val &&& 31) = nI (2 ^ k.val) := by decide +kernel
theorem bit_p {o b : Nat} (ho : o < 512) (hb : b < 9) (h : o.testBit b = true) : ((nI o >>> (nI b &&& 31)) &&& (1 : Int32)) = 1 := of_decide_eq_true ((q_bit ⟨o, ho⟩ ⟨b, hb⟩).trans h)
theorem bit_n {o b : Nat} (ho : o < 512) (hb : b < 9) (h : o.testBit b = false) : ¬ ((nI o >>> (nI b &&& 31)) &&& (1 : Int32)) = 1 := of_decide_eq_false ((q_bit ⟨o, ho⟩ ⟨b, hb⟩).trans h)
theorem bit0_p {o b : Nat} (ho : o < 512) (hb : b < 9) (h : o.testBit b = false) : ((nI o >>> (nI b &&& 31)) &&& (1 : Int32)) = 0 := of_decide_eq_true ((q_bit0 ⟨o, ho⟩ ⟨b, hb⟩).trans (by rw [show (⟨o, ho⟩ : Fin 512).val.testBit (⟨b, hb⟩ : Fin 9).val = false from h]; rfl))
theorem bit0_n {o b : Nat} (ho : o < 512) (hb : b < 9) (h : o.testBit b = true) : ¬ ((nI o >>> (nI b &&& 31)) &&& (1 : Int32)) = 0 := of_decide_eq_false ((q_bit0 ⟨o, ho⟩ ⟨b, hb⟩).trans (by rw [show (⟨o, ho⟩ : Fin 512).val.testBit (⟨b, hb⟩ : Fin 9).val = true from h]; rfl))
theorem clr_i {o b : Nat} (ho : o < 512) (hb : b < 9) : nI o &&& (((1 : Int32) <<< (nI b &&& 31)) ^^^ (-1)) = nI (clr o b) := q_clr ⟨o, ho⟩ ⟨b, hb⟩
theorem clr_lt {o b : Nat} (ho : o < 512) (hb : b < 9) (h : o.testBit b = true) : clr o b < o := q_clt ⟨o, ho⟩ ⟨b, hb⟩ h
theorem clr_le {o b : Nat} (ho : o < 512) (hb : b < 9) : clr o b ≤ o := by
  by_cases h : o.testBit b = true
  · exact Nat.le_of_lt (clr_lt ho hb h)
  · unfold clr
    rw [if_neg h]
    exact Nat.le_refl _
theorem p2_lt {k : Nat} (h : k ≤ 9) : 2 ^ k ≤ 512 := Nat.le_trans (Nat.pow_le_pow_right (by decide) h) (by decide)
theorem p2_8 {k : Nat} (h : k < 9) : 2 ^ k ≤ 256 := Nat.le_trans (Nat.pow_le_pow_right (by decide) (show k ≤ 8 by omega)) (by decide)
theorem p2_pos (k : Nat) : 0 < 2 ^ k := Nat.pow_pos (by decide)
