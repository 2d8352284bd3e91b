/-! NUMBERS; ACTS: what they keep -/
theorem and_le (x : Int32) {m : Nat} (hm : m < 2147483648) : ∃ k, k ≤ m ∧ x &&& nI m = nI k := by
  refine ⟨(x &&& nI m).toBitVec.toNat, ?_, ?_⟩
  · rw [Int32.toBitVec_and, BitVec.toNat_and]
    have h1 : (nI m).toBitVec.toNat = m := by
      show (BitVec.ofNat 32 m).toNat = m
      rw [BitVec.toNat_ofNat]
      exact Nat.mod_eq_of_lt (by omega)
    rw [h1]
    exact Nat.and_le_right
  · apply Int32.toBitVec_inj.mp
    show (x &&& nI m).toBitVec = BitVec.ofNat 32 (x &&& nI m).toBitVec.toNat
    rw [BitVec.ofNat_toNat, BitVec.setWidth_eq]
theorem P_number {L : Nat} (hL : L < 2147483648) (xs : Nat → Int32) {i : Nat} (hi : i < 2147483648) : ∃ t, t < 2147483648 ∧ hL_number L xs (nI i) = some (nI t) := by
  unfold hL_number
  show ∃ t, t < 2147483648 ∧ (if nI L ≤ nI i then _ else _) = some (nI t)
  rw [le_if hL hi]
  by_cases h : L ≤ i
  · rw [if_pos h]
    obtain ⟨k, h1, h2⟩ := and_le ((15516611 : Int32) * (nI i + 5) + 10091) (m := 2147483647) (by decide)
    exact ⟨k, by omega, congrArg some h2⟩
  · rw [if_neg h, nn_in (by omega) hL, nn_tn hi]
    obtain ⟨k, h1, h2⟩ := and_le (xs i) (m := 2147483647) (by decide)
    exact ⟨k, by omega, congrArg some h2⟩
theorem wkX_rg {t : Nat} (ht : t < 2147483648) : rg 0 511 (wkX (nI t)) = true := by
  unfold wkX
  have e : nI t - nI t / 512 * 512 = nI (t % 512) := by
    rw [show (512 : Int32) = nI 512 from rfl, nn_rem ht (by decide) (by decide)]
  have hm : t % 512 < 512 := Nat.mod_lt _ (by decide)
  rw [e]
  obtain ⟨k, h1, h2⟩ := and_le (nI t / 512) (m := t % 512) (by omega)
  rw [show nI (t % 512) &&& (nI t / 512) = (nI t / 512) &&& nI (t % 512) from Int32.and_comm _ _, h2]
  exact rg_511 (by omega)
def okB (B : Nat) (q : aP) : Prop := WF q.2.1 q.1 q.2.2 ∧ IV q.2.1 q.2.2 ∧ q.1 ≤ B
def Inv (B : Nat) (z : aS) : Prop := okB B z.1 ∧ (∀ q, q ∈ z.2.1 → okB B q) ∧ ∀ j q, z.2.2.1 j = some q → okB B q
theorem okB_m {A B : Nat} {q : aP} (h : okB A q) (hAB : A ≤ B) : okB B q := ⟨h.1, h.2.1, Nat.le_trans h.2.2 hAB⟩
theorem Inv_m {A B : Nat} {z : aS} (h : Inv A z) (hAB : A ≤ B) : Inv B z := ⟨okB_m h.1 hAB, fun q hq => okB_m (h.2.1 q hq) hAB, fun j q hq => okB_m (h.2.2 j q hq) hAB⟩
theorem Inv_act {B : Nat} {z : aS} {q : aP} (h : Inv B z) (hq : okB B q) : Inv B (aAct z q) := ⟨hq, fun p hp => by
  have h1 : p ∈ z.1 :: z.2.1 := List.mem_of_mem_take hp
  rcases List.mem_cons.mp h1 with h2 | h2
  · rw [h2]; exact h.1
  · exact h.2.1 p h2, h.2.2⟩
section S9J
variable {z : aS} {B : Nat}
theorem iv_want (h : Inv B z) (x y : Int32) : ∃ r z', A_tryWant z x y = some (r, z') ∧ Inv B z' := by
  obtain ⟨hW, hI, hM⟩ := h.1
  unfold A_tryWant
  cases h1 : isM (aN z) x
  · exact ⟨_, _, rfl, h⟩
  rw [ifT]
  cases h2 : rg 0 3 y
  · exact ⟨_, _, rfl, h⟩
  rw [ifT]
  obtain ⟨a, ha, rfl⟩ := isM_t hW.1 h1
  obtain ⟨l, hl, rfl⟩ := rg_nat (N := 3) (by decide) h2
  have h9 := hW.1
  rw [nn_tn (by omega), nn_tn (by omega)]
  exact ⟨_, _, rfl, Inv_act h ⟨wf_mend (wf_want1 (a := a) (l := l) hW (by omega)) ha, IV_want hW hI ha (by omega), hM⟩⟩
theorem iv_test (h : Inv B z) (x y w : Int32) : ∃ r z', A_tryTest z x y w = some (r, z') ∧ Inv B z' := by
  obtain ⟨hW, hI, hM⟩ := h.1
  unfold A_tryTest
  cases h1 : isM (aN z) x
  · exact ⟨_, _, rfl, h⟩
  rw [ifT]
  cases h2 : rg 0 3 y
  · exact ⟨_, _, rfl, h⟩
  rw [ifT]
  cases h3 : rg 0 99 w
  · exact ⟨_, _, rfl, h⟩
  rw [ifT]
  obtain ⟨a, ha, rfl⟩ := isM_t hW.1 h1
  obtain ⟨l, hl, rfl⟩ := rg_nat (N := 3) (by decide) h2
  obtain ⟨c, hc, rfl⟩ := rg_nat (N := 99) (by decide) h3
  have h9 := hW.1
  rw [nn_tn (by omega), nn_tn (by omega), nn_tn (by omega)]
  exact ⟨_, _, rfl, Inv_act h ⟨wf_mend (wf_test1 (a := a) (l := l) (x := c) hW (by omega) (by omega)) ha, IV_test hW hI ha (by omega) (by omega), hM⟩⟩
theorem iv_pair (h : Inv B z) (x y : Int32) : ∃ r z', A_tryPair z x y = some (r, z') ∧ Inv B z' := by
  obtain ⟨hW, hI, hM⟩ := h.1
  have h9 := hW.1
  unfold A_tryPair
  cases h1 : isM (aN z) x
  · exact ⟨_, _, rfl, h⟩
  rw [ifT]
  cases h2 : isM (aN z) y
  · exact ⟨_, _, rfl, h⟩
  rw [ifT]
  by_cases h3 : x = y
  · rw [if_pos h3]
    exact ⟨_, _, rfl, h⟩
  rw [if_neg h3]
  obtain ⟨a, ha, rfl⟩ := isM_t hW.1 h1
  obtain ⟨b, hb, rfl⟩ := isM_t hW.1 h2
  have hab : a ≠ b := fun e => h3 (by rw [e])
  rw [nn_tn (by omega), nn_tn (by omega)]
  cases hy : may (aV z) a b
  · exact ⟨_, _, rfl, h⟩
  · obtain ⟨f1, f2⟩ := may_free hy
    have hf : sFit (aV z) a b = true := by
      unfold may at hy
      simp only [Bool.and_eq_true] at hy
      exact hy.2
    exact ⟨_, _, rfl, Inv_act h ⟨wf_uni hW ha hb hab f1 f2, IV_uni hW hI ha hb hab f1 f2 hf, hM⟩⟩
theorem iv_part (h : Inv B z) (x : Int32) : ∃ r z', A_tryPart z x = some (r, z') ∧ Inv B z' := by
  obtain ⟨hW, hI, hM⟩ := h.1
  have h9 := hW.1
  unfold A_tryPart
  cases h1 : isM (aN z) x
  · exact ⟨_, _, rfl, h⟩
  rw [ifT]
  obtain ⟨a, ha, rfl⟩ := isM_t hW.1 h1
  rw [nn_tn (by omega)]
  cases hy : sFree (aV z) a
  · exact ⟨_, _, rfl, Inv_act h ⟨wf_mp hW ha, IV_mp hW ha hI, hM⟩⟩
  · exact ⟨_, _, rfl, h⟩
theorem iv_match (h : Inv B z) : ∃ r z', A_match z = some (r, z') ∧ Inv B z' := by
  obtain ⟨hW, hI, hM⟩ := h.1
  exact ⟨_, _, rfl, Inv_act h ⟨wf_mt 4 _ hW, IV_mt 4 _ hW hI, hM⟩⟩
theorem iv_settle (h : Inv B z) (x : Int32) : ∃ r z', A_trySettle z x = some (r, z') ∧ Inv B z' := by
  obtain ⟨hW, hI, hM⟩ := h.1
  unfold A_trySettle
  cases h1 : rg 1 50 x
  · exact ⟨_, _, rfl, h⟩
  · exact ⟨_, _, rfl, Inv_act h ⟨wf_st _ _ hW, IV_st _ _ hW hI, hM⟩⟩
theorem iv_undo (h : Inv B z) : ∃ r z', A_tryUndo z = some (r, z') ∧ Inv B z' := by
  obtain ⟨q0, ⟨hl, z2⟩⟩ := z
  unfold A_tryUndo
  cases hl with
  | nil => exact ⟨_, _, rfl, h⟩
  | cons q t => exact ⟨_, _, rfl, h.2.1 q List.mem_cons_self, fun p hp => h.2.1 p (List.mem_cons_of_mem _ hp), h.2.2⟩
theorem iv_join (h : Inv B z) (w L x : Int32) : ∃ r z', A_tryJoin z w L x = some (r, z') ∧ Inv B z' := by
  obtain ⟨hW, hI, hM⟩ := h.1
  have h9 := hW.1
  unfold A_tryJoin
  cases h1 : rg 0 3 w
  · exact ⟨_, _, rfl, h⟩
  rw [ifT]
  cases h2 : rg 0 9999 L
  · exact ⟨_, _, rfl, h⟩
  rw [ifT]
  cases h3 : rg (-99) 99 x
  · exact ⟨_, _, rfl, h⟩
  rw [ifT]
  by_cases hn : aN z < 9
  · rw [if_pos hn]
    obtain ⟨w', hw, rfl⟩ := rg_nat (N := 3) (by decide) h1
    obtain ⟨L', hL, rfl⟩ := rg_nat (N := 9999) (by decide) h2
    unfold sJoinL
    rw [nn_tn (by omega), nn_tn (by omega)]
    exact ⟨_, _, rfl, Inv_act h ⟨wf_join hW hn (by omega) (rg_cr h3), IV_join hW hI hn, hM⟩⟩
  · rw [if_neg hn]
    exact ⟨_, _, rfl, h⟩
theorem iv_leave (h : Inv B z) (x : Int32) : ∃ r z', A_tryLeave z x = some (r, z') ∧ Inv B z' := by
  obtain ⟨hW, hI, hM⟩ := h.1
  have h9 := hW.1
  unfold A_tryLeave
  cases h1 : isM (aN z) x
  · exact ⟨_, _, rfl, h⟩
  rw [ifT]
  obtain ⟨a, ha, rfl⟩ := isM_t hW.1 h1
  rw [nn_tn (by omega)]
  exact ⟨_, _, rfl, Inv_act h ⟨wf_leave hW ha, IV_leave hW hI ha, hM⟩⟩
theorem iv_week (h : Inv B z) (hB : B + 9 ≤ 4000) (x : Int32) : ∃ r z', A_tryWeek z x = some (r, z') ∧ Inv (B + 9) z' := by
  obtain ⟨hW, hI, hM⟩ := h.1
  unfold A_tryWeek
  cases h1 : rg 0 511 x
  · exact ⟨_, _, rfl, Inv_m h (by omega)⟩
  · have hM : aM z ≤ B := hM
    rw [ifT, if_pos (by omega)]
    exact ⟨_, _, rfl, Inv_act (Inv_m h (by omega)) ⟨wf_week hW (by omega) x, IV_week hW (by show aM z + 9 < 100000; omega) hI x, by show aM z + 9 ≤ B + 9; omega⟩⟩
theorem iv_save (h : Inv B z) (x : Int32) : ∃ r z', A_trySave z x = some (r, z') ∧ Inv B z' := by
  unfold A_trySave
  cases h1 : rg 0 1 x
  · exact ⟨_, _, rfl, h⟩
  · refine ⟨_, _, rfl, h.1, h.2.1, fun j q hq => ?_⟩
    have hq : aSet z.2.2.1 x.toNatClampNeg z.1 j = some q := hq
    unfold aSet at hq
    split at hq
    · cases hq; exact h.1
    · exact h.2.2 j q hq
theorem iv_restore (h : Inv B z) (x : Int32) : ∃ r z', A_tryRestore z x = some (r, z') ∧ Inv B z' := by
  unfold A_tryRestore
  cases h1 : rg 0 1 x
  · exact ⟨_, _, rfl, h⟩
  · rw [ifT]
    cases hs : z.2.2.1 x.toNatClampNeg with
    | none => exact ⟨_, _, rfl, h⟩
    | some q => exact ⟨_, _, rfl, h.2.2 _ q hs, fun p hp => (by cases hp), h.2.2⟩
theorem iv_bd {o : Option (Int32 × aS)} (h : ∃ r z', o = some (r, z') ∧ Inv B z') {A : Nat} (hA : B ≤ A) : ∃ r z', bd2 o (fun r z' => some (r, z')) = some (r, z') ∧ Inv A z' := by
  obtain ⟨r, z', h1, h2⟩ := h
  exact ⟨r, z', by rw [h1]; rfl, Inv_m h2 hA⟩
theorem ite_ex {c : Prop} [Decidable c] {a b : Option (Int32 × aS)} {A : Nat} (h1 : ∃ r z', a = some (r, z') ∧ Inv A z') (h2 : ∃ r z', b = some (r, z') ∧ Inv A z') : ∃ r z', (if c then a else b) = some (r, z') ∧ Inv A z' := by
  by_cases h : c
  · rw [if_pos h]; exact h1
  · rw [if_neg h]; exact h2
theorem P_act33 (h : Inv B z) (hB : B + 9 ≤ 4000) (x1 x2 v3 v4 y0 : Int32) : ∃ r z', hL_act_33 x1 x2 z v3 v4 y0 = some (r, z') ∧ Inv (B + 9) z' := by
  have jn : ∃ r z', hL_act_112 x1 x2 z = some (r, z') ∧ Inv (B + 9) z' := iv_bd (iv_join h _ _ _) (by omega)
  have wk : ∃ r z', hL_act_234 x1 x2 z = some (r, z') ∧ Inv (B + 9) z' := iv_bd (iv_week h hB _) (Nat.le_refl _)
  unfold hL_act_33
  exact ite_ex jn (ite_ex jn (ite_ex (ite_ex (iv_bd (iv_join h _ _ _) (by omega)) (iv_bd (iv_leave h _) (by omega))) (ite_ex (iv_bd (iv_want h _ _) (by omega)) (ite_ex (iv_bd (iv_test h _ _ _) (by omega)) (ite_ex (iv_bd (iv_pair h _ _) (by omega)) (ite_ex (iv_bd (iv_part h _) (by omega)) (ite_ex (iv_bd (iv_match h) (by omega)) (ite_ex (iv_bd (iv_match h) (by omega)) (ite_ex (iv_bd (iv_settle h _) (by omega)) (ite_ex wk (ite_ex wk (ite_ex wk (ite_ex wk (ite_ex (iv_bd (iv_undo h) (by omega)) (ite_ex (iv_bd (iv_save h _) (by omega)) (iv_bd (iv_restore h _) (by omega)))))))))))))))))
theorem P_act (h : Inv B z) (hB : B + 9 ≤ 4000) (x1 x2 : Int32) : ∃ r z', hL_act x1 x2 z = some (r, z') ∧ Inv (B + 9) z' := by
  have e17 : ∀ v3 y0, ∃ r z', hL_act_17 x1 x2 z v3 y0 = some (r, z') ∧ Inv (B + 9) z' := fun v3 y0 => by
    unfold hL_act_17
    by_cases h0 : v3 = 0
    · rw [if_pos h0]
      exact P_act33 h hB _ _ _ _ _
    · rw [if_neg h0, nn_chk h0]
      exact P_act33 h hB _ _ _ _ _
  unfold hL_act
  by_cases h0 : A_tryAbout z 0 = 0
  · rw [if_pos h0]
    exact e17 _ _
  · rw [if_neg h0, nn_chk h0]
    exact e17 _ _
end S9J
