/-! HANDS: parting and pairing anew; the level that is reached; the whole -/
section S9F
variable {n M : Nat} {v : tePg} {a : Nat}
theorem lvA_c (y : Int32) : ∀ (d c : Nat) (v : tePg), lvA n a y d c v = -9999 ∨ ∃ k, k < d ∧ lvA n a y d c v = nI (c + k)
  | 0, c, v => Or.inl rfl
  | d + 1, c, v => by
    rw [lvA]
    split
    · rcases lvA_c y d (c + 1) (sWeek n 0 (mt n 4 v).2) with h | ⟨k, h1, h2⟩
      · exact Or.inl h
      · exact Or.inr ⟨k + 1, by omega, by rw [h2]; congr 1; omega⟩
    · exact Or.inr ⟨0, by omega, rfl⟩
/-- what the first round tells -/
theorem lvA_p {y : Int32} {d c k : Nat} (hk : c + d < 1000) (hk2 : k < 1000) (h : lvA n a y (d + 1) c v = nI k) : (v (2 + 10 * a + pw v a) < y → c < k ∧ lvA n a y d (c + 1) (sWeek n 0 (mt n 4 v).2) = nI k) ∧ (¬ v (2 + 10 * a + pw v a) < y → k = c) := by
  rw [lvA] at h
  constructor
  · intro hl
    rw [if_pos hl] at h
    refine ⟨?_, h⟩
    rcases lvA_c (n := n) (a := a) y d (c + 1) (sWeek n 0 (mt n 4 v).2) with h1 | ⟨j, h1, h2⟩
    · rw [h] at h1
      exact absurd h1 (by rw [nn_NI (by omega)]; exact not_false)
    · rw [h, nn_eq (by omega) (by omega)] at h2
      omega
  · intro hl
    rw [if_neg hl, nn_eq (by omega) (by omega)] at h
    exact h.symm
theorem mt_o : ∀ (m : Nat) (v : tePg) (c o : Nat), o < 8 → (mt n m v).2 (2 + 10 * c + o) = v (2 + 10 * c + o)
  | 0, v, c, o, ho => rfl
  | m + 1, v, c, o, ho => by
    rw [mt]
    cases hb : bfp v n with
    | none => rfl
    | some q =>
      show (mt n m (sUni v q.1 q.2)).2 (2 + 10 * c + o) = v (2 + 10 * c + o)
      rw [mt_o m _ c o ho]
      unfold sUni
      rw [tup_n _ _ (by omega), tup_n _ _ (by omega)]
end S9F
section S9Fb
variable {z b : aS}
theorem hd_1190 (x1 : Int32) (h1 : b.2.1 = []) (h2 : b.2.2.1 0 = some b.1) (hz : z.2.2 = b.2.2) : hL_hands_1190 x1 z (aV b 1) 1 = some (1, b) := by
  unfold hL_hands_1190
  have e : A_tryUndo b = some (-99003, b) := by
    unfold A_tryUndo
    rw [h1]
  rw [if_neg i1_0, hd_rs h1 h2 hz, nn_bd2, if_pos rfl, e, nn_bd2, if_pos rfl]
theorem prs_no {n M : Nat} {v : tePg} (hW : WF n M v) : ¬ nPrs n v < 0 := by
  have h9 := hW.1
  rw [prs_len]
  have : (curL n v n 0).length ≤ n := by
    have h : ∀ d a, (curL n v d a).length ≤ d := fun d => by
      induction d with
      | zero => intro a; exact Nat.le_refl _
      | succ d ih =>
        intro a
        rw [curL]
        split
        · have := ih (a + 1); omega
        · rw [List.length_cons]; have := ih (a + 1); omega
    exact h n 0
  exact nI_pos (by omega)
theorem hd_1089 (x1 : Int32) (h1 : b.2.1 = []) (h2 : b.2.2.1 0 = some b.1) {a : Nat} {y : Int32} {k : Nat} (hk : k < 1000) : ∀ (d c fuel D : Nat) (z : aS), c + d = k → d < fuel → d < D → c + D < 1000 → z.2.2 = b.2.2 → WF (aN z) (aM z) (aV z) → a < aN z → aM z + 9 * d ≤ 4000 → lvA (aN z) a y D c (aV z) = nI k → hL_hands_1089 x1 fuel z (aV b 1) (nI a) 1 y (nI k) (nI c) = some (1, b)
  | 0, c, fuel, D, z, h, hf, hD, hcD, hz, hW, ha, hM, hl => by
    obtain ⟨f, rfl⟩ : ∃ f, fuel = f + 1 := ⟨fuel - 1, by omega⟩
    obtain ⟨D, rfl⟩ : ∃ f, D = f + 1 := ⟨D - 1, by omega⟩
    have h9 := hW.1
    have hn : ¬ aV z (2 + 10 * a + pw (aV z) a) < y := fun hlt => by
      have := ((lvA_p (by omega) hk hl).1 hlt).1
      omega
    rw [hL_hands_1089, if_pos (by rw [nn_le (by omega) (by omega)]; omega), if_neg i1_0, mb_w hW ha, if_neg hn, hd_rs h1 h2 hz, nn_bd2, if_pos rfl]
    exact hd_1190 x1 h1 h2 rfl
  | d + 1, c, fuel, D, z, h, hf, hD, hcD, hz, hW, ha, hM, hl => by
    obtain ⟨f, rfl⟩ : ∃ f, fuel = f + 1 := ⟨fuel - 1, by omega⟩
    obtain ⟨D, rfl⟩ : ∃ f, D = f + 1 := ⟨D - 1, by omega⟩
    have h9 := hW.1
    have hlt : aV z (2 + 10 * a + pw (aV z) a) < y := Classical.byContradiction fun hn => by
      have := (lvA_p (by omega) hk hl).2 hn
      omega
    obtain ⟨hck, hl2⟩ := (lvA_p (by omega) hk hl).1 hlt
    have hW1 := wf_mt 4 (aV z) hW
    have hW2 := wf_week hW1 (by omega) 0
    have em : A_match z = some (nI (mt (aN z) 4 (aV z)).1, aAct z (aPg z (mt (aN z) 4 (aV z)).2)) := rfl
    have hpl := pw_lt hW ha
    have hlev : A_tryMember (aAct z (aPg z (mt (aN z) 4 (aV z)).2)) (nI a) (A_tryMember (aAct z (aPg z (mt (aN z) 4 (aV z)).2)) (nI a) 4) = aV z (2 + 10 * a + pw (aV z) a) := by
      rw [mb_w (z := aAct z (aPg z (mt (aN z) 4 (aV z)).2)) hW1 ha]
      show (mt (aN z) 4 (aV z)).2 (2 + 10 * a + pw (mt (aN z) 4 (aV z)).2 a) = _
      have e : pw (mt (aN z) 4 (aV z)).2 a = pw (aV z) a := by unfold pw; rw [mt_o 4 _ a 4 (by decide)]
      rw [e, mt_o 4 _ a _ (by omega)]
    have ew : A_tryWeek (aAct z (aPg z (mt (aN z) 4 (aV z)).2)) 0 = some (nPrs (aN z) (sWeek (aN z) 0 (mt (aN z) 4 (aV z)).2), aAct (aAct z (aPg z (mt (aN z) 4 (aV z)).2)) (aM z + 9, (aN z, sWeek (aN z) 0 (mt (aN z) 4 (aV z)).2))) := by
      unfold A_tryWeek
      rw [show rg 0 511 0 = true by decide, ifT]
      exact if_pos (by show aM z + 9 ≤ 4000; omega)
    have k2 := hd_1089 x1 h1 h2 (a := a) (y := y) hk d (c + 1) f D (aAct (aAct z (aPg z (mt (aN z) 4 (aV z)).2)) (aM z + 9, (aN z, sWeek (aN z) 0 (mt (aN z) 4 (aV z)).2))) (by omega) (by omega) (by omega) (by omega) hz hW2 ha (by show aM z + 9 + 9 * d ≤ 4000; omega) hl2
    rw [← nn_add c 1] at k2
    have hm4 := mt_4 (n := aN z) (v := aV z) 4
    rw [hL_hands_1089, if_neg (by rw [nn_le (by omega) (by omega)]; omega), em, nn_bd2, if_neg i1_0, if_neg (nI_pos (by omega)), hlev, if_neg (Int32.not_le.mpr hlt), ew, nn_bd2, if_neg (prs_no hW2)]
    exact k2
theorem hd_966 {t : Nat} (ht : t < 2147483648) (h1 : b.2.1 = []) (h2 : b.2.2.1 0 = some b.1) (hW : WF (aN b) (aM b) (aV b)) (hM : aM b + 180 ≤ 4000) {a : Nat} (ha : a < aN b) : hL_hands_966 (nI t) b (aV b 1) (nI a) 1 (aV b (2 + 10 * a + 6)) = some (1, b) := by
  have h9 := hW.1
  have eL : nI t / 64 - nI t / 64 / 10 * 10 = nI (t / 64 % 10) := by
    rw [show (64 : Int32) = nI 64 from rfl, nn_div ht (by decide) (by decide), li10, nn_rem (by omega) (by decide) (by decide)]
  have hL : t / 64 % 10 < 10 := Nat.mod_lt _ (by decide)
  have hmb := mb_w hW ha
  have key : ∀ y : Int32, rg 0 9 y = true → hL_hands_966 (nI t) b (aV b 1) (nI a) 1 (aV b (2 + 10 * a + 6)) = hL_hands_966 (nI t) b (aV b 1) (nI a) 1 (aV b (2 + 10 * a + 6)) := fun _ _ => rfl
  unfold hL_hands_966
  rw [if_neg i1_0, eL]
  generalize t / 64 % 10 = L at hL
  have hr : rg 0 9 (nI L) = true := by
    unfold rg
    rw [decide_eq_true (nI_pos (show L < 2147483648 by omega)), Bool.true_and]
    exact decide_eq_true (by rw [show (9 : Int32) = nI 9 from rfl, nn_lt (by decide) (by omega)]; omega)
  have ev : A_tryLevelAfter b (nI a) (nI L) = lvA (aN b) a (nI L) 101 0 (aV b) := by
    unfold A_tryLevelAfter
    rw [isM_a ha (by omega), ifT, hr, ifT, nn_tn (by omega)]
  have eA : A_tryAhead b (nI a) 0 511 6 = aV b (2 + 10 * a + 6) := by
    unfold A_tryAhead
    rw [isM_a ha (by omega), ifT, show rg 0 60 0 = true by decide, ifT, show rg 0 511 511 = true by decide, ifT, show rg 0 10 6 = true by decide, ifT, nn_tn (by omega)]; rfl
  rw [ev, hmb]
  have hend := hd_1190 (nI t) h1 h2 (z := b) rfl
  -- the level that is asked and what is told
  have k1067 : ∀ w, lvA (aN b) a (nI L) 101 0 (aV b) = w → hL_hands_1067 (nI t) b (aV b 1) (nI a) (nI L) w 1 = some (1, b) := fun w hw => by
    unfold hL_hands_1067
    by_cases c1 : w ≤ 0
    · rw [if_pos c1]; exact hend
    · rw [if_neg c1]
      by_cases c2 : 20 ≤ w
      · rw [if_pos c2]; exact hend
      · rw [if_neg c2, if_neg i1_0]
        rcases lvA_c (n := aN b) (a := a) (nI L) 101 0 (aV b) with h | ⟨k, hk, h⟩
        · rw [hw] at h
          rw [h] at c1
          exact absurd (show (-9999 : Int32) ≤ 0 by decide) c1
        · rw [Nat.zero_add] at h
          have hwk : w = nI k := hw.symm.trans h
          rw [hwk] at c2 ⊢
          rw [show (20 : Int32) = nI 20 from rfl, nn_le (by decide) (by omega)] at c2
          exact hd_1089 (nI t) h1 h2 (by omega) k 0 20 101 b (Nat.zero_add _) (by omega) (by omega) (by omega) rfl hW ha (by omega) h
  have k1045 : ∀ w, lvA (aN b) a (nI L) 101 0 (aV b) = w → hL_hands_1045 (nI t) b (aV b 1) (nI a) (aV b (2 + 10 * a + 6)) (nI L) w = some (1, b) := fun w hw => by
    unfold hL_hands_1045
    rw [eA, if_pos rfl]
    exact k1067 w hw
  have k1027 : ∀ w y, lvA (aN b) a (nI L) 101 0 (aV b) = w → (w = -9999 → aV b (2 + 10 * a + pw (aV b) a) < nI L) → hL_hands_1027 (nI t) b (aV b 1) (nI a) (aV b (2 + 10 * a + 6)) (nI L) w (aV b (2 + 10 * a + pw (aV b) a)) y y = some (1, b) := fun w y hw hn => by
    unfold hL_hands_1027
    rw [if_pos rfl]
    by_cases c1 : w = -9999
    · rw [if_pos c1, if_neg (Int32.not_le.mpr (hn c1))]
      exact k1045 w hw
    · rw [if_neg c1]
      exact k1045 w hw
  by_cases hlt : aV b (2 + 10 * a + pw (aV b) a) < nI L
  · have hne : ¬ lvA (aN b) a (nI L) 101 0 (aV b) = 0 := fun e => by
      have := ((lvA_p (k := 0) (by omega) (by omega) e).1 hlt).1
      omega
    rw [if_neg hne, if_pos hlt]
    exact k1027 _ 0 rfl (fun _ => hlt)
  · have he : lvA (aN b) a (nI L) 101 0 (aV b) = 0 := by
      rw [lvA, if_neg hlt]; rfl
    rw [if_pos he, if_neg hlt]
    exact k1027 _ 1 rfl (fun e => by rw [he] at e; cases e)
theorem hd_868 {t : Nat} (ht : t < 2147483648) (h1 : b.2.1 = []) (h2 : b.2.2.1 0 = some b.1) (hW : WF (aN b) (aM b) (aV b)) (hI : IV (aN b) (aV b)) (hM : aM b + 180 ≤ 4000) {a d : Nat} (ha : a < aN b) (hd : d < aN b) (hne : d ≠ a) (g : aV b (2 + 10 * a + 8) = nI d) : hL_hands_868 (nI t) b (aV b 1) (nI a) (aV b (2 + 10 * a + 6)) (nI d) = some (1, b) := by
  have h9 := hW.1
  have hf := hI.2.1 a d ha hd g
  have hW1 := wf_mp hW ha
  have g8a : mPart (aV b) a (2 + 10 * a + 8) = -9999 := mp_8a
  have g8d : mPart (aV b) a (2 + 10 * d + 8) = -9999 := mp_8d g (by omega)
  have ep : A_tryPart b (nI a) = some (nI d, aAct b (aPg b (mPart (aV b) a))) := by
    unfold A_tryPart
    rw [isM_a ha (by omega), ifT, nn_tn (by omega), sFree_f g (by omega), ifF, g]
  have hb3 : ¬ A_tryBoth (aAct b (aPg b (mPart (aV b) a))) (nI a) (nI d) 3 < 0 := by
    rw [bo_3 (z := aAct b (aPg b (mPart (aV b) a))) h9 ha hd (Ne.symm hne)]
    cases sBlk (aV (aAct b (aPg b (mPart (aV b) a)))) a d <;> decide
  have hmay : may (mPart (aV b) a) a d = true := by
    unfold may
    rw [sFree_t g8a, sFree_t g8d, sFit_mp hW a ha hd, hf]; rfl
  have e2 : A_tryPair (aAct b (aPg b (mPart (aV b) a))) (nI a) (nI d) = some (sVal (sUni (mPart (aV b) a) a d) a d, aAct (aAct b (aPg b (mPart (aV b) a))) (aPg b (sUni (mPart (aV b) a) a d))) := by
    unfold A_tryPair
    rw [isM_a (n := aN (aAct b (aPg b (mPart (aV b) a)))) ha (by show aN b < _; omega), ifT, isM_a (n := aN (aAct b (aPg b (mPart (aV b) a)))) hd (by show aN b < _; omega), ifT, if_neg (by rw [nn_eq (by omega) (by omega)]; omega), nn_tn (by omega), nn_tn (by omega)]
    rw [show may (aV (aAct b (aPg b (mPart (aV b) a)))) a d = true from hmay, ifT]; rfl
  have hm1 : A_tryMember (aAct b (aPg b (mPart (aV b) a))) (nI a) 8 = -9999 := (mem_8 (z := aAct b (aPg b (mPart (aV b) a))) h9 ha).trans g8a
  have hm2 : A_tryMember (aAct b (aPg b (mPart (aV b) a))) (nI d) 8 = -9999 := (mem_8 (z := aAct b (aPg b (mPart (aV b) a))) h9 hd).trans g8d
  have hm9 : A_tryMember (aAct (aAct b (aPg b (mPart (aV b) a))) (aPg b (sUni (mPart (aV b) a) a d))) (nI a) 9 = 0 := by
    rw [mb_9 (z := aAct (aAct b (aPg b (mPart (aV b) a))) (aPg b (sUni (mPart (aV b) a) a d))) h9 ha]
    show (if sFree (sUni (mPart (aV b) a) a d) a = true then -9999 else sUni (mPart (aV b) a) a d (2 + 10 * a + 9)) = 0
    have e8 : sUni (mPart (aV b) a) a d (2 + 10 * a + 8) = nI d := by
      unfold sUni
      rw [tup_n _ _ (by omega), tup_s]
    rw [sFree_f e8 (by omega), ifF]
    unfold sUni
    rw [tup_n _ _ (by omega), tup_n _ _ (by omega)]
    exact mp_9a g (by omega)
  unfold hL_hands_868
  rw [ep, nn_bd2, if_pos rfl, hm1, if_pos rfl, hm2, if_pos rfl, if_neg hb3, e2, nn_bd2, bo_1 (z := aAct (aAct b (aPg b (mPart (aV b) a))) (aPg b (sUni (mPart (aV b) a) a d))) h9 ha hd (Ne.symm hne), if_pos (show sVal (sUni (mPart (aV b) a) a d) a d = sVal (aV (aAct (aAct b (aPg b (mPart (aV b) a))) (aPg b (sUni (mPart (aV b) a) a d)))) a d from rfl), hm9, if_pos rfl, hd_rs h1 h2 (z := aAct (aAct b (aPg b (mPart (aV b) a))) (aPg b (sUni (mPart (aV b) a) a d))) rfl, nn_bd2, if_pos rfl]
  exact hd_966 ht h1 h2 hW hM ha
end S9Fb
