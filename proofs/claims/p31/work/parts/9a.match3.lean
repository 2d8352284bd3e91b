/-! MATCH: each round makes a pair more; behind four no free pair that fits is left -/
section S9A
variable {n M : Nat} {v : tePg}
theorem bst_some : ∀ (l : List (Nat × Nat)) (o : Option (Nat × Nat)), (o.isSome = true ∨ ∃ q, q ∈ l ∧ may v q.1 q.2 = true) → (bst v l o).isSome = true
  | [], o, h => by
    rcases h with h | ⟨q, hq, -⟩
    · exact h
    · cases hq
  | q :: l, o, h => by
    rw [bst]
    apply bst_some l
    have h1 : (o.isSome = true ∨ may v q.1 q.2 = true) → (bst1 v q o).isSome = true := fun h => by
      unfold bst1
      by_cases hm : may v q.1 q.2 = true
      · rw [if_pos hm]
        cases o with
        | none => rfl
        | some p =>
          show (if sVal v q.1 q.2 ≤ sVal v p.1 p.2 then some p else some q).isSome = true
          split <;> rfl
      · rw [if_neg hm]
        exact h.resolve_right hm
    rcases h with h | ⟨p, hp, hm⟩
    · exact Or.inl (h1 (Or.inl h))
    · rcases List.mem_cons.mp hp with h2 | h2
      · subst h2
        exact Or.inl (h1 (Or.inr hm))
      · exact Or.inr ⟨p, h2, hm⟩
theorem bfp_none (h : bfp v n = none) {a b : Nat} (hab : a < b) (hb : b < n) : may v a b = false := by
  cases hm : may v a b
  · rfl
  · have h1 : (bfp v n).isSome = true := bst_some _ _ (Or.inr ⟨(a, b), pout_in n 0 a b (by omega) (by omega) hab hb, hm⟩)
    rw [h] at h1
    cases h1
theorem gp_uni (hn : n ≤ 9) {a b : Nat} (hab : a < b) (hb : b < n) (fa : v (2 + 10 * a + 8) = -9999) (fb : v (2 + 10 * b + 8) = -9999) (c : Nat) : (gp n (sUni v a b) c = -9999) = if c = a then False else (gp n v c = -9999) := by
  by_cases hca : c = a
  · subst hca
    have h1 : sUni v c b (2 + 10 * c + 8) = nI b := by
      unfold sUni
      rw [tup_n _ _ (by omega), tup_s]
    rw [if_pos rfl, gp_gt h1 (by omega) hab, nn_NI (by omega)]
  · rw [if_neg hca]
    by_cases hcb : c = b
    · subst hcb
      have h1 : sUni v a c (2 + 10 * c + 8) = nI a := tup_s _ _ _
      rw [gp_le h1 (by omega) (by omega), gp_f fb]
    · have h1 : sUni v a b (2 + 10 * c + 8) = v (2 + 10 * c + 8) := by
        unfold sUni
        rw [tup_n _ _ (by omega), tup_n _ _ (by omega)]
      unfold gp sFree pp
      rw [h1]
theorem cu_len (hn : n ≤ 9) {a b : Nat} (hab : a < b) (hb : b < n) (fa : v (2 + 10 * a + 8) = -9999) (fb : v (2 + 10 * b + 8) = -9999) : ∀ (d c : Nat), c + d = n → (curL n (sUni v a b) d c).length = (curL n v d c).length + (if c ≤ a then 1 else 0)
  | 0, c, h => by
    rw [if_neg (by omega)]; rfl
  | d + 1, c, h => by
    have k := cu_len hn hab hb fa fb d (c + 1) (by omega)
    have e := gp_uni hn hab hb fa fb c
    rw [curL, curL]
    by_cases hca : c = a
    · subst hca
      rw [if_pos rfl] at e
      rw [if_neg (show ¬ gp n (sUni v c b) c = -9999 by rw [e]; exact not_false), if_pos (gp_f fa), List.length_cons, k, if_neg (by omega), if_pos (Nat.le_refl _)]
    · rw [if_neg hca] at e
      by_cases hg : gp n v c = -9999
      · rw [if_pos (show gp n (sUni v a b) c = -9999 by rw [e]; exact hg), if_pos hg, k]
        split <;> split <;> omega
      · rw [if_neg (show ¬ gp n (sUni v a b) c = -9999 by rw [e]; exact hg), if_neg hg, List.length_cons, List.length_cons, k]
        split <;> split <;> omega
theorem mt_len (hn : n ≤ 9) : ∀ (m : Nat) (v : tePg), (curL n (mt n m v).2 n 0).length = (curL n v n 0).length + (mt n m v).1
  | 0, v => rfl
  | m + 1, v => by
    rw [mt]
    have ho := ok_bfp v n
    cases hb : bfp v n with
    | none => rfl
    | some q =>
      obtain ⟨h1, h2, h3⟩ := ho q hb
      obtain ⟨fa, fb⟩ := may_free h3
      have k := mt_len hn m (sUni v q.1 q.2)
      have k2 := cu_len hn (show q.1 < q.2 by omega) (by omega) fa fb n 0 (Nat.zero_add _)
      rw [if_pos (Nat.zero_le _)] at k2
      show (curL n (mt n m (sUni v q.1 q.2)).2 n 0).length = _ + ((mt n m (sUni v q.1 q.2)).1 + 1)
      rw [k, k2]
      omega
theorem mt_full : ∀ (m : Nat) (v : tePg), bfp (mt n m v).2 n = none ∨ (mt n m v).1 = m
  | 0, v => Or.inr rfl
  | m + 1, v => by
    rw [mt]
    cases hb : bfp v n with
    | none => exact Or.inl hb
    | some q =>
      rcases mt_full m (sUni v q.1 q.2) with h | h
      · exact Or.inl h
      · right
        show (mt n m (sUni v q.1 q.2)).1 + 1 = m + 1
        rw [h]
theorem cu_few (hW : WF n M v) (hI : IV n v) : 2 * (curL n v n 0).length ≤ n := by
  have h1 := cur_ok hW hI n 0 (Nat.zero_add _)
  have hcur : mOK v (bAll n) (curL n v n 0) := ⟨h1.1, fun x hx => bAll_in.mpr (cur_in hW n 0 (Nat.zero_add _) x hx).1, h1.2⟩
  have h2 := mok_few hcur
  have h3 : (bAll n).length ≤ n := bAll_len (n := n)
  omega
theorem mt_end (hW : WF n M v) (hI : IV n v) : bfp (mt n 4 v).2 n = none := by
  have h9 := hW.1
  rcases mt_full (n := n) 4 v with h | h
  · exact h
  · have hW2 := wf_mt 4 v hW
    have hI2 := IV_mt 4 v hW hI
    have hl := mt_len h9 4 v
    rw [h] at hl
    generalize (mt n 4 v).2 = w at hW2 hI2 hl ⊢
    have ho := ok_bfp w n
    cases hb : bfp w n with
    | none => rfl
    | some q =>
      obtain ⟨h1, h2, h3⟩ := ho q hb
      obtain ⟨fa, fb⟩ := may_free h3
      have hf : sFit w q.1 q.2 = true := by
        unfold may at h3
        simp only [Bool.and_eq_true] at h3
        exact h3.2
      have k2 := cu_len h9 (show q.1 < q.2 by omega) (by omega) fa fb n 0 (Nat.zero_add _)
      rw [if_pos (Nat.zero_le _)] at k2
      have k3 := cu_few (wf_uni hW2 (by omega) (by omega) (by omega) fa fb) (IV_uni hW2 hI2 (by omega) (by omega) (by omega) fa fb hf)
      omega
theorem prs_len : nPrs n v = nI (curL n v n 0).length := by
  have := cur_prs (n := n) (v := v) n 0 0
  rw [Nat.zero_add] at this
  exact this
theorem nPrs_mt (hn : n ≤ 9) : nPrs n (mt n 4 v).2 = nPrs n v + nI (mt n 4 v).1 := by
  rw [prs_len, prs_len, mt_len hn, nn_add]
theorem mt_none (h : bfp v n = none) (m : Nat) : mt n m v = (0, v) := by
  cases m with
  | zero => rfl
  | succ m => rw [mt, h]
theorem mt_4 (m : Nat) : (mt n m v).1 ≤ m := by
  induction m generalizing v with
  | zero => exact Nat.le_refl _
  | succ m ih =>
    rw [mt]
    cases bfp v n with
    | none => exact Nat.zero_le _
    | some q => exact Nat.succ_le_succ ih
end S9A
/-! HANDS: the first loops, and what is restored -/
section S9Ab
variable {z b : aS}
theorem hd_rs (h1 : b.2.1 = []) (h2 : b.2.2.1 0 = some b.1) (hz : z.2.2 = b.2.2) : A_tryRestore z 0 = some (aV b 1, b) := by
  unfold A_tryRestore
  rw [show rg 0 1 0 = true by decide, ifT, show (0 : Int32).toNatClampNeg = 0 from rfl, hz, h2]
  show some (b.1.2.2 1, (b.1, (([] : List aP), b.2.2))) = some (aV b 1, b)
  obtain ⟨b1, b2, b3⟩ := b
  have h1 : b2 = [] := h1
  subst h1
  rfl
theorem hd_134 (x1 : Int32) (q : aS → Int32 → Int32 → Int32 → Int32 → Int32 → Option (Int32 × aS)) (h9 : aN z ≤ 9) (hb : bfp (aV z) (aN z) = none) (v2 v3 v4 : Int32) {i : Nat} (hi : i < aN z) : ∀ (d j fuel : Nat), j + d = i → d < fuel → hL_hands_134 x1 q fuel z v2 v3 v4 1 (nI i) (nI j) = q z v2 v3 v4 1 (nI i + 1)
  | 0, j, fuel, h, hf => by
    obtain ⟨f, rfl⟩ : ∃ f, fuel = f + 1 := ⟨fuel - 1, by omega⟩
    rw [hL_hands_134, if_pos (by rw [nn_le (by omega) (by omega)]; omega)]
  | d + 1, j, fuel, h, hf => by
    obtain ⟨f, rfl⟩ : ∃ f, fuel = f + 1 := ⟨fuel - 1, by omega⟩
    have k := hd_134 x1 q h9 hb v2 v3 v4 hi d (j + 1) f (by omega) (by omega)
    rw [← nn_add j 1] at k
    rw [hL_hands_134, if_neg (by rw [nn_le (by omega) (by omega)]; omega), if_neg i1_0, mem_8 h9 hi, mem_8 h9 (show j < aN z by omega)]
    by_cases f1 : aV z (2 + 10 * i + 8) = -9999
    · rw [if_pos f1]
      by_cases f2 : aV z (2 + 10 * j + 8) = -9999
      · have hm := bfp_none hb (show j < i by omega) hi
        unfold may at hm
        rw [sFree_t f2, sFree_t f1, Bool.true_and, Bool.true_and] at hm
        rw [if_pos f2, bo_2 h9 hi (by omega) (by omega), sFit_sym, hm, if_pos (show bI false = 0 from rfl)]
        exact k
      · rw [if_neg f2]
        exact k
    · rw [if_neg f1]
      exact k
theorem hd_120 (x1 : Int32) (h9 : aN z ≤ 9) (hb : bfp (aV z) (aN z) = none) (v3 v4 : Int32) : ∀ (d i fuel : Nat), i + d = aN z → d < fuel → hL_hands_120 x1 fuel z (nI (aN z)) v3 v4 1 (nI i) = hL_hands_205 x1 z (nI (aN z)) v3 v4 1
  | 0, i, fuel, h, hf => by
    obtain ⟨f, rfl⟩ : ∃ f, fuel = f + 1 := ⟨fuel - 1, by omega⟩
    rw [hL_hands_120, if_pos (by rw [nn_le (by omega) (by omega)]; omega)]
  | d + 1, i, fuel, h, hf => by
    obtain ⟨f, rfl⟩ : ∃ f, fuel = f + 1 := ⟨fuel - 1, by omega⟩
    have k := hd_120 x1 h9 hb v3 v4 d (i + 1) f (by omega) (by omega)
    rw [← nn_add i 1] at k
    rw [hL_hands_120, if_neg (by rw [nn_le (by omega) (by omega)]; omega), if_neg i1_0]
    have k2 := hd_134 x1 (hL_hands_120 x1 f) h9 hb (nI (aN z)) v3 v4 (show i < aN z by omega) i 0 10 (Nat.zero_add _) (by omega)
    exact k2.trans k
theorem hd_205 (x1 : Int32) (h1 : b.2.1 = []) (h2 : b.2.2.1 0 = some b.1) (hz : z.2.2 = b.2.2) (hb : bfp (aV z) (aN z) = none) (v2 v4 : Int32) : hL_hands_205 x1 z v2 (aV b 1) v4 1 = hL_hands_231 x1 b v2 (aV b 1) v4 1 := by
  unfold hL_hands_205
  have e : A_match z = some (0, aAct z (aPg z (aV z))) := by
    unfold A_match
    rw [mt_none hb]; rfl
  rw [if_neg i1_0, e, nn_bd2, if_pos rfl, hd_rs h1 h2 (z := aAct z (aPg z (aV z))) hz, nn_bd2, if_pos rfl]
end S9Ab
