/-! SOUND: all rounds, and the totals against what is told -/
def cB (v : tePg) (l : List (Nat × Nat)) : Nat := (l.filter fun q => sBlk v q.1 q.2).length
def cx (a b : Nat) : Nat := if b ≤ a then a + 1 else b
section S96
variable {n M : Nat} {v : tePg}
theorem cB_app (l m : List (Nat × Nat)) : cB v (l ++ m) = cB v l + cB v m := by
  unfold cB
  rw [List.filter_append, List.length_append]
theorem cB_one (a b : Nat) : nI (cB v [(a, b)]) = bI (sBlk v a b) := by
  unfold cB
  cases h : sBlk v a b
  · rw [List.filter_cons_of_neg (p := fun q : Nat × Nat => sBlk v q.1 q.2) (a := (a, b)) (by show ¬ sBlk v a b = true; rw [h]; decide)]; rfl
  · rw [List.filter_cons_of_pos (p := fun q : Nat × Nat => sBlk v q.1 q.2) (a := (a, b)) h, List.filter_nil, List.length_cons, List.length_nil]
    decide
theorem nI_ge0 {a : Nat} (h : a < 2147483648) : 0 ≤ nI a := Int32.not_lt.mp (nI_pos h)
theorem scn_at {α : Type} (P : Nat → Nat → Bool) (K : Nat → α) (F : Nat → Nat → α) (a b : Nat) (post : List (Nat × Nat)) (h : P a b = true) : ∀ (pre : List (Nat × Nat)), scn P K F (pre ++ (a, b) :: post) (pre.filter fun q => P q.1 q.2).length = F a b
  | [] => by
    show scn P K F ((a, b) :: post) 0 = F a b
    rw [scn, h]
    rfl
  | q :: pre => by
    rw [List.cons_append, scn]
    cases hq : P q.1 q.2
    · rw [List.filter_cons_of_neg (p := fun q : Nat × Nat => P q.1 q.2) (by rw [hq]; decide)]
      exact scn_at P K F a b post h pre
    · rw [List.filter_cons_of_pos (p := fun q : Nat × Nat => P q.1 q.2) hq, List.length_cons]
      have k := scn_at P K F a b post h pre
      rw [ifT, if_neg (by omega), Nat.add_sub_cancel]
      exact k
theorem scn_end {α : Type} (P : Nat → Nat → Bool) (K : Nat → α) (F : Nat → Nat → α) : ∀ (l : List (Nat × Nat)) (k : Nat), scn P K F l ((l.filter fun q => P q.1 q.2).length + k) = K k
  | [], k => by
    show scn P K F [] (0 + k) = K k
    rw [Nat.zero_add]; rfl
  | q :: l, k => by
    rw [scn]
    cases hq : P q.1 q.2
    · rw [List.filter_cons_of_neg (p := fun q : Nat × Nat => P q.1 q.2) (by rw [hq]; decide)]
      exact scn_end P K F l k
    · rw [List.filter_cons_of_pos (p := fun q : Nat × Nat => P q.1 q.2) hq, List.length_cons]
      have k2 := scn_end P K F l k
      rw [ifT, if_neg (by omega), show (l.filter fun q => P q.1 q.2).length + 1 + k - 1 = (l.filter fun q => P q.1 q.2).length + k by omega]
      exact k2
theorem cB_le {pre post : List (Nat × Nat)} (h9 : n ≤ 9) (h : pout n 0 n = pre ++ post) : cB v pre ≤ 81 := by
  have h1 : cB v pre ≤ pre.length := List.length_filter_le _ _
  have h2 := pout_len n n 0
  rw [h, List.length_append] at h2
  have h3 : n * n ≤ 9 * 9 := Nat.mul_le_mul h9 h9
  omega
end S96
section S96b
variable {z : aS} {M : Nat}
theorem bl_at (h9 : aN z ≤ 9) {a b : Nat} {pre post : List (Nat × Nat)} (h : pout (aN z) 0 (aN z) = pre ++ (a, b) :: post) (hb : sBlk (aV z) a b = true) : A_tryBlocking z (nI (cB (aV z) pre)) 0 = nI a ∧ A_tryBlocking z (nI (cB (aV z) pre)) 1 = nI b := by
  have hl := cB_le (v := aV z) h9 h
  have hf : fnd (aV z) (aN z) (cB (aV z) pre) = some (a, b) := by
    unfold fnd
    rw [h]
    exact scn_at _ _ _ a b post hb pre
  have e : ∀ y : Int32, A_tryBlocking z (nI (cB (aV z) pre)) y = if y = 0 then nI a else nI b := fun y => by
    unfold A_tryBlocking
    rw [if_pos (nI_ge0 (show cB (aV z) pre < 2147483648 by omega)), nn_tn (by omega), hf]
  exact ⟨by rw [e, if_pos rfl], by rw [e, if_neg i1_0]⟩
theorem bl_end (h9 : aN z ≤ 9) : A_tryBlocking z (nI (cB (aV z) (pout (aN z) 0 (aN z)))) 0 = -9999 := by
  have hl := cB_le (v := aV z) (pre := pout (aN z) 0 (aN z)) (post := []) h9 (List.append_nil _).symm
  have hf : fnd (aV z) (aN z) (cB (aV z) (pout (aN z) 0 (aN z))) = none := by
    unfold fnd
    exact scn_end (sBlk (aV z)) _ _ (pout (aN z) 0 (aN z)) 0
  unfold A_tryBlocking
  rw [if_pos (nI_ge0 (show cB (aV z) (pout (aN z) 0 (aN z)) < 2147483648 by omega)), nn_tn (by omega), hf]
/-- a round over all others -/
theorem sd_in (hW : WF (aN z) M (aV z)) {a : Nat} (ha : a < aN z) (q22 : Int32 → Int32 → Int32 → Int32 → Int32 → Int32 → Int32 → Option Int32) (post : List (Nat × Nat)) : ∀ (d b fuel : Nat) (pre : List (Nat × Nat)) (v2 v4 v5 v9 : Int32), b + d = aN z → d < fuel → pout (aN z) 0 (aN z) = pre ++ (pin a (cx a b) (aN z - cx a b) ++ post) →
    hL_sound_175 z q22 fuel (nI (aN z)) v2 (nI (cB (aV z) pre)) v4 v5 1 (nI a) (aV z (2 + 10 * a + 8)) v9 (nI b) = hL_sound_596 z q22 (nI (aN z)) (sf (gO (aV z) 0) (pin a (cx a b) (aN z - cx a b)) v2) (nI (cB (aV z) (pre ++ pin a (cx a b) (aN z - cx a b)))) (sf (gO (aV z) 3) (pin a (cx a b) (aN z - cx a b)) v4) (sf (gO (aV z) 1) (pin a (cx a b) (aN z - cx a b)) v5) 1 (nI a) (s1 (fun b => bI (sFit (aV z) a b)) d b v9)
  | 0, b, fuel, pre, v2, v4, v5, v9, h, hf, hp => by
    have h9 := hW.1
    obtain ⟨f, rfl⟩ : ∃ f, fuel = f + 1 := ⟨fuel - 1, by omega⟩
    have e : aN z - cx a b = 0 := by unfold cx; split <;> omega
    rw [e]
    unfold hL_sound_175
    rw [if_pos (by rw [nn_le (by omega) (by omega)]; omega), show pin a (cx a b) 0 = [] from rfl, List.append_nil]; rfl
  | d + 1, b, fuel, pre, v2, v4, v5, v9, h, hf, hp => by
    have h9 := hW.1
    obtain ⟨f, rfl⟩ : ∃ f, fuel = f + 1 := ⟨fuel - 1, by omega⟩
    have hb : b < aN z := by omega
    by_cases hba : b ≤ a
    · have e : cx a (b + 1) = cx a b := by
        show (if b + 1 ≤ a then a + 1 else b + 1) = if b ≤ a then a + 1 else b
        rw [if_pos hba]
        split <;> omega
      have k := sd_in hW ha q22 post d (b + 1) f pre v2 v4 v5 (v9 + bI (sFit (aV z) a b)) (by omega) (by omega) (by rw [e]; exact hp)
      rw [e] at k
      rw [sd_175 hW ha hb q22 f v2 (nI (cB (aV z) pre)) v4 v5 v9 (fun hab => absurd hab (by omega))]
      unfold sdN
      rw [if_pos hba, k]; rfl
    · have e : cx a b = b := if_neg hba
      have e2 : cx a (b + 1) = b + 1 := if_neg (by omega)
      have e3 : aN z - b = (aN z - (b + 1)) + 1 := by omega
      rw [e, e3, pin, List.cons_append] at hp
      have k := sd_in hW ha q22 post d (b + 1) f (pre ++ [(a, b)]) (v2 + gO (aV z) 0 a b) (v4 + bI (sFit (aV z) a b)) (v5 + gO (aV z) 1 a b) (v9 + bI (sFit (aV z) a b)) (by omega) (by omega) (by rw [e2, hp, List.append_assoc]; rfl)
      rw [sd_175 hW ha hb q22 f v2 (nI (cB (aV z) pre)) v4 v5 v9 (fun _ hB => bl_at h9 hp hB)]
      unfold sdN
      rw [if_neg hba]
      rw [e2, cB_app, ← nn_add, cB_one, List.append_assoc] at k
      rw [k, e, e3]; rfl
theorem sd_row (hW : WF (aN z) M (aV z)) (hI : IV (aN z) (aV z)) {a : Nat} (ha : a < aN z) (q22 : Int32 → Int32 → Int32 → Int32 → Int32 → Int32 → Int32 → Option Int32) (v2 v3 v4 v5 y : Int32) (hy : y = if aV z (2 + 10 * a + 8) = -9999 then 1 else 0) : hL_sound_59 z q22 (nI (aN z)) v2 v3 v4 v5 (nI a) (aV z (2 + 10 * a + 8)) 0 y = hL_sound_175 z q22 10 (nI (aN z)) v2 v3 v4 v5 1 (nI a) (aV z (2 + 10 * a + 8)) 0 0 := by
  have h9 := hW.1
  obtain ⟨g, hg, eg⟩ := hI.1 a ha
  have e153 : hL_sound_153 z q22 (nI (aN z)) v2 v3 v4 v5 (nI a) (aV z (2 + 10 * a + 8)) 0 = hL_sound_175 z q22 10 (nI (aN z)) v2 v3 v4 v5 1 (nI a) (aV z (2 + 10 * a + 8)) 0 0 := by
    unfold hL_sound_153
    rw [show A_tryMember z (nI a) 5 = nI g from (mb_o h9 ha (o := 5) (by decide)).trans eg, if_neg (by rw [show (20 : Int32) = nI 20 from rfl, nn_le (by decide) (by omega)]; omega)]
  unfold hL_sound_59
  rw [mb_9 h9 ha]
  rcases wf_par hW ha with ⟨g, -⟩ | ⟨d, hd, hne, g, g2, g3⟩
  · rw [if_pos g] at hy
    rw [sFree_t g, ifT, if_pos rfl, hy]
    unfold hL_sound_78
    rw [if_pos rfl, if_pos g]
    exact e153
  · obtain ⟨r, hr, er⟩ := hI.2.2 a d ha hd g
    have hf := hI.2.1 a d ha hd g
    have hn9 : ¬ aV z (2 + 10 * a + 8) = -9999 := by rw [g, nn_NI (by omega)]; exact not_false
    rw [if_neg hn9] at hy
    rw [sFree_f g (by omega), ifF, er, if_neg (by rw [nn_NI (by omega)]; exact not_false), hy]
    unfold hL_sound_78
    have m8 : A_tryMember z (aV z (2 + 10 * a + 8)) 8 = nI a := by rw [g]; exact (mb_o h9 hd (o := 8) (by decide)).trans g2
    have m9 : A_tryMember z (aV z (2 + 10 * a + 8)) 9 = nI r := by
      rw [g, mb_9 h9 hd, sFree_f g2 (by omega), ifF]
      rw [← er]
      exact g3
    have m9a : A_tryMember z (nI a) 9 = nI r := by rw [mb_9 h9 ha, sFree_f g (by omega), ifF, er]
    have m2 : A_tryBoth z (nI a) (aV z (2 + 10 * a + 8)) 2 = 1 := by rw [g, bo_2 h9 ha hd (Ne.symm hne), hf]; rfl
    rw [if_pos rfl, if_neg hn9, if_neg (by rw [g, nn_eq (by omega) (by omega)]; exact hne), m8, if_pos rfl, m9, m9a, if_pos rfl, if_neg (by rw [show (3 : Int32) = nI 3 from rfl, nn_le (by decide) (by omega)]; omega), m2, if_pos rfl]
    exact e153
theorem sd_22 (hW : WF (aN z) M (aV z)) (hI : IV (aN z) (aV z)) : ∀ (d a fuel : Nat) (pre : List (Nat × Nat)), a + d = aN z → d < fuel → pout (aN z) 0 (aN z) = pre ++ pout (aN z) a d → hL_sound_22 z fuel (nI (aN z)) (sf (gO (aV z) 0) pre 0) (nI (cB (aV z) pre)) (sf (gO (aV z) 3) pre 0) (sf (gO (aV z) 1) pre 0) 1 (nI a) = hL_sound_627 z (nI (aN z)) (nPrs (aN z) (aV z)) (nI (cB (aV z) (pout (aN z) 0 (aN z)))) (nFts (aN z) (aV z)) (nSov (aN z) (aV z)) 1
  | 0, a, fuel, pre, h, hf, hp => by
    have h9 := hW.1
    obtain ⟨f, rfl⟩ : ∃ f, fuel = f + 1 := ⟨fuel - 1, by omega⟩
    rw [show pout (aN z) a 0 = [] from rfl, List.append_nil] at hp
    unfold hL_sound_22
    rw [if_pos (by rw [nn_le (by omega) (by omega)]; omega), ← hp, tot_prs hW, tot_fts hW, tot_sov hW]
  | d + 1, a, fuel, pre, h, hf, hp => by
    have h9 := hW.1
    obtain ⟨f, rfl⟩ : ∃ f, fuel = f + 1 := ⟨fuel - 1, by omega⟩
    have ha : a < aN z := by omega
    rw [pout] at hp
    unfold hL_sound_22
    rw [if_neg (by rw [nn_le (by omega) (by omega)]; omega), if_neg i1_0, show A_tryMember z (nI a) 8 = aV z (2 + 10 * a + 8) from mb_o h9 ha (o := 8) (by decide)]
    have key : hL_sound_175 z (hL_sound_22 z f) 10 (nI (aN z)) (sf (gO (aV z) 0) pre 0) (nI (cB (aV z) pre)) (sf (gO (aV z) 3) pre 0) (sf (gO (aV z) 1) pre 0) 1 (nI a) (aV z (2 + 10 * a + 8)) 0 0 = hL_sound_627 z (nI (aN z)) (nPrs (aN z) (aV z)) (nI (cB (aV z) (pout (aN z) 0 (aN z)))) (nFts (aN z) (aV z)) (nSov (aN z) (aV z)) 1 := by
      have k := sd_in hW ha (hL_sound_22 z f) (pout (aN z) (a + 1) d) (aN z) 0 10 pre (sf (gO (aV z) 0) pre 0) (sf (gO (aV z) 3) pre 0) (sf (gO (aV z) 1) pre 0) 0 (by omega) (by omega) hp
      have e : cx a 0 = a + 1 := if_pos (Nat.zero_le _)
      rw [e, ← sf_app, ← sf_app, ← sf_app] at k
      rw [show (nI 0) = 0 from rfl] at k
      rw [k]
      unfold hL_sound_596
      rw [if_neg i1_0, mb_10 h9 ha, if_pos rfl, show nI a + 1 = nI (a + 1) from nn_add a 1]
      exact sd_22 hW hI d (a + 1) f (pre ++ pin a (a + 1) (aN z - (a + 1))) (by omega) (by omega) (by rw [List.append_assoc]; exact hp)
    by_cases hg : aV z (2 + 10 * a + 8) = -9999
    · rw [if_pos hg, sd_row hW hI ha _ _ _ _ _ _ (if_pos hg).symm]
      exact key
    · rw [if_neg hg, sd_row hW hI ha _ _ _ _ _ _ (if_neg hg).symm]
      exact key
theorem best_facts (hW : WF (aN z) (aM z) (aV z)) (hI : IV (aN z) (aV z)) (hM : aM z ≤ 4000) : ∃ P p f : Nat, ∃ s : Int32, A_tryBest z 0 = nI P ∧ A_tryBest z 1 = s ∧ nPrs (aN z) (aV z) = nI p ∧ nFts (aN z) (aV z) = nI f ∧ p ≤ P ∧ 2 * P ≤ aN z ∧ P ≤ f ∧ f ≤ 81 ∧ (P = p → ¬ s < nSov (aN z) (aV z)) ∧ (f = 0 ↔ P = 0) := by
  have h9 := hW.1
  have hp0 := p2_pos (aN z)
  have hv := bR_ex hW (by omega) (show 2 ^ aN z - 1 < 2 ^ aN z by omega)
  obtain ⟨ps, b1, b2, b3, b4, b5, b6, b7⟩ := best_of hW (by omega) (sm_nd _ _) (fun x hx => (sm_in.mp hx).1) hv
  have hlen : (sm (aN z) (2 ^ aN z - 1)).length ≤ aN z := bAll_len (n := aN z)
  have h2 := mok_few b1
  obtain ⟨f1, f2⟩ := fts_len hW
  have hc1 := cur_ok hW hI (aN z) 0 (Nat.zero_add _)
  have hcur : mOK (aV z) (bAll (aN z)) (curL (aN z) (aV z) (aN z) 0) := ⟨hc1.1, fun x hx => bAll_in.mpr (cur_in hW (aN z) 0 (Nat.zero_add _) x hx).1, hc1.2⟩
  have hprs : nPrs (aN z) (aV z) = nI (curL (aN z) (aV z) (aN z) 0).length := by
    have := cur_prs (n := aN z) (v := aV z) (aN z) 0 0
    rw [Nat.zero_add] at this
    exact this
  have hsov : (nSov (aN z) (aV z)).toInt = msum (aV z) (curL (aN z) (aV z) (aN z) 0) := by
    have := cur_sov hW (by omega) (aN z) 0 0 (Nat.zero_add _) (by decide) (by decide)
    rw [show (0 : Int32).toInt = 0 from rfl, Int.zero_add] at this
    exact this
  have hbc := b7 _ hcur
  have hq : (Int32.ofInt (msum (aV z) ps)).toInt = msum (aV z) ps := Int32.toInt_ofInt_of_le (by omega) (by omega)
  refine ⟨ps.length, (curL (aN z) (aV z) (aN z) 0).length, (fitL (aN z) (aV z)).length, Int32.ofInt (msum (aV z) ps), ?_, ?_, hprs, f1, hbc.1, by omega, mok_fit (fun x hx => bAll_in.mp hx) b1, f2, fun e => ?_, ?_⟩
  · unfold A_tryBest
    rw [show rg 0 1 0 = true by decide, ifT, if_pos rfl, b4]
  · unfold A_tryBest
    rw [show rg 0 1 1 = true by decide, ifT, if_neg i1_0, b4, b2]
    congr 1
    omega
  · rw [Int32.lt_iff_toInt_lt, hq, hsov]
    have := hbc.2 e.symm
    omega
  · constructor
    · intro e
      have := mok_fit (fun x hx => bAll_in.mp hx) b1
      omega
    · intro e
      rcases Nat.eq_zero_or_pos (fitL (aN z) (aV z)).length with h | h
      · exact h
      · obtain ⟨q, hq⟩ := List.exists_mem_of_length_pos h
        obtain ⟨q1, q2⟩ := List.mem_filter.mp hq
        obtain ⟨q3, q4⟩ := pout_mem _ (by omega) q1
        have h1 := (b7 [q] ⟨?_, fun x hx => ?_, fun y hy => ?_⟩).1
        · rw [e] at h1
          exact absurd h1 (Nat.not_succ_le_zero 0)
        · refine List.nodup_cons.mpr ⟨fun hx => ?_, List.nodup_cons.mpr ⟨List.not_mem_nil, List.nodup_nil⟩⟩
          rcases List.mem_cons.mp hx with h5 | h5
          · omega
          · exact absurd h5 List.not_mem_nil
        · rcases List.mem_cons.mp hx with h5 | h5
          · exact bAll_in.mpr (by omega)
          · rcases List.mem_cons.mp h5 with h6 | h6
            · exact bAll_in.mpr (by omega)
            · exact absurd h6 List.not_mem_nil
        · rcases List.mem_cons.mp hy with h5 | h5
          · rw [h5]; exact q2
          · exact absurd h5 List.not_mem_nil
theorem P_sound (hW : WF (aN z) (aM z) (aV z)) (hI : IV (aN z) (aV z)) (hM : aM z ≤ 4000) : hL_sound z = some 1 := by
  have h9 := hW.1
  have k := sd_22 hW hI (aN z) 0 10 [] (Nat.zero_add _) (by omega) rfl
  unfold hL_sound
  rw [show A_tryAbout z 0 = nI (aN z) from rfl]
  refine Eq.trans k ?_
  obtain ⟨P, p, f, s, e1, e2, e3, e4, h1, h2, h3, h4, h5, h6⟩ := best_facts hW hI hM
  have hblk : A_tryAbout z 4 = nI (cB (aV z) (pout (aN z) 0 (aN z))) := by
    show sf (fun x y => bI (sBlk (aV z) x y)) (pout (aN z) 0 (aN z)) 0 = _
    rw [li0, sf_cnt, Nat.zero_add]; rfl
  unfold hL_sound_627
  rw [if_neg i1_0, show A_tryAbout z 1 = nPrs (aN z) (aV z) from rfl, if_pos rfl, show A_tryAbout z 3 = nSov (aN z) (aV z) from rfl, if_pos rfl, hblk, if_pos rfl, show A_tryAbout z 6 = nFts (aN z) (aV z) from rfl, if_pos rfl, e1, e2, e3, e4, if_neg (by rw [nn_lt (by omega) (by omega)]; omega), li2, nn_mul, if_neg (by rw [nn_lt (by omega) (by omega)]; omega), if_neg (by rw [nn_lt (by omega) (by omega)]; omega), eq_if (by omega) (by omega)]
  have e715 : hL_sound_715 z (nI (cB (aV z) (pout (aN z) 0 (aN z)))) (nI f) (nI P) = some 1 := by
    unfold hL_sound_715 hL_sound_735
    rw [bl_end h9, eq0_if (by omega), eq0_if (by omega), eq0_if (by omega)]
    by_cases hf : f = 0
    · rw [if_pos hf, if_pos (h6.mp hf), if_pos rfl, if_pos rfl]
    · rw [if_neg hf, if_neg (fun e => hf (h6.mpr e)), if_pos rfl, if_pos rfl]
  by_cases hP : P = p
  · rw [if_pos hP, if_neg (h5 hP)]
    exact e715
  · rw [if_neg hP]
    exact e715
end S96b
