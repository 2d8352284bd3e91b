/-! READING: both sides tell the ideal page's numbers -/
theorem wf_par {n M a : Nat} {v : tePg} (hW : WF n M v) (ha : a < n) : (v (2 + 10 * a + 8) = -9999 ∧ v (2 + 10 * a + 9) = 0) ∨ ∃ b, b < n ∧ b ≠ a ∧ v (2 + 10 * a + 8) = nI b ∧ v (2 + 10 * b + 8) = nI a ∧ v (2 + 10 * b + 9) = v (2 + 10 * a + 9) := (hW.2.2.2 a ha).2.2.2.2
theorem q_fd : ∀ c : Fin 199, fJ9_floorDiv_7cf53 (nI c.val - 99) 4 (fun _ _ => 0) = some (sQ (nI c.val - 99)) := by decide +kernel
theorem r_fd {c : Nat} (h : c ≤ 198) (S : teS) : fJ9_floorDiv_7cf53 (nI c - 99) 4 S = some (sQ (nI c - 99)) := q_fd ⟨c, by omega⟩
section CL
variable {n M k a b : Nat} {v : tePg} {S : teS}
theorem r1_lead (hW : WF n M v) (hE : PE n (S k) v) (ha : a < n) (hb : b < n) : fX1_lead k (nI a) (nI b) S = some (sL v a b) := by
  obtain ⟨h9, hM, h0, hm⟩ := hW
  obtain ⟨w, hw, ew⟩ := (hm a ha).2.1
  have e4 := ((hE.2.2 a ha).1 4 (by decide)).trans ew
  have ea := (hE.2.2 a ha).1 w (by omega)
  have eb := (hE.2.2 b hb).1 w (by omega)
  unfold fX1_lead sL pw
  simp (disch := omega) only [nn_tn, nn_in, e4, ew, ea, eb]
theorem r1_fit (hW : WF n M v) (hE : PE n (S k) v) (ha : a < n) (hb : b < n) : fX1_fit k (nI a) (nI b) S = some (bI (sFit v a b)) := by
  unfold fX1_fit sFit
  rw [r1_lead hW hE ha hb, nn_bd1]
  by_cases h1 : sL v a b < 2
  · rw [if_pos h1, decide_eq_false (not_not_intro h1)]; rfl
  · rw [if_neg h1, r1_lead hW hE hb ha, nn_bd1, decide_eq_true h1]
    by_cases h2 : sL v b a < 2
    · rw [if_pos h2, decide_eq_false (not_not_intro h2)]; rfl
    · rw [if_neg h2, decide_eq_true h2]; rfl
theorem r1_score (hW : WF n M v) (hE : PE n (S k) v) (ha : a < n) (hb : b < n) : fX1_score k (nI a) (nI b) S = some (sSc v a b) := by
  have hl := r1_lead hW hE ha hb
  obtain ⟨h9, hM, h0, hm⟩ := hW
  obtain ⟨c, hc, ec⟩ := (hm b hb).2.2.1
  have e6 := ((hE.2.2 b hb).1 6 (by decide)).trans ec
  have e7 := (hE.2.2 b hb).1 7 (by decide)
  unfold fX1_score sSc
  simp (disch := omega) only [nn_tn, nn_in, hl, nn_bd1, e6, e7, ec, r_fd hc]
theorem r1_value (hW : WF n M v) (hE : PE n (S k) v) (ha : a < n) (hb : b < n) : fX1_value k (nI a) (nI b) S = some (sVal v a b) := by
  unfold fX1_value sVal
  rw [r1_score hW hE ha hb, nn_bd1, r1_score hW hE hb ha, nn_bd1]
theorem r1_hasN (S : teS) (k : Nat) : fX1_has k (-9999) S = some 0 := by
  unfold fX1_has
  rw [if_pos (by decide)]
theorem r1_has (hW : WF n M v) (hE : PE n (S k) v) (ha : a < n) : fX1_has k (nI a) S = some 1 := by
  obtain ⟨h9, hM, h0, hm⟩ := hW
  unfold fX1_has
  rw [if_neg (nI_pos (by omega)), hE.1, h0, if_neg (by rw [nn_le (by omega) (by omega)]; omega)]
theorem r1_free (hW : WF n M v) (hE : PE n (S k) v) (ha : a < n) : fX1_isFree k (nI a) S = some (bI (sFree v a)) := by
  obtain ⟨h9, hM, h0, hm⟩ := hW
  have e8 := (hE.2.2 a ha).1 8 (by decide)
  unfold fX1_isFree sFree
  simp (disch := omega) only [nn_tn, nn_in, e8]
  by_cases h : v (2 + 10 * a + 8) = -9999
  · rw [if_pos h, decide_eq_true h]; rfl
  · rw [if_neg h, decide_eq_false h]; rfl
theorem r1_pref (hW : WF n M v) (hE : PE n (S k) v) (ha : a < n) (hb : b < n) : fX1_prefers k (nI a) (nI b) S = some (bI (sPref v a b)) := by
  have h9 := hW.1
  have e8 := (hE.2.2 a ha).1 8 (by decide)
  unfold fX1_prefers sPref
  rw [nn_in (by omega) (by decide), nn_tn (by omega), e8]
  rcases wf_par hW ha with ⟨h, -⟩ | ⟨d, hd, -, h, -⟩
  · rw [h, r1_hasN, nn_bd1, if_pos rfl]
    unfold sFree
    rw [decide_eq_true h]; rfl
  · rw [h, r1_has hW hE hd, nn_bd1, if_neg (by decide), r1_score hW hE ha hd, nn_bd1, r1_score hW hE ha hb, nn_bd1]
    have hp : pp v a = d := by unfold pp; rw [h, nn_tn (by omega)]
    have hf : sFree v a = false := by unfold sFree; rw [h]; exact decide_eq_false (by rw [nn_NI (by omega)]; exact not_false)
    rw [hf, hp, Bool.false_or]
    by_cases h2 : sSc v a b ≤ sSc v a d
    · rw [if_pos h2, decide_eq_false (not_not_intro h2)]; rfl
    · rw [if_neg h2, decide_eq_true h2]; rfl
theorem r1_block (hW : WF n M v) (hE : PE n (S k) v) (ha : a < n) (hb : b < n) : fX1_block k (nI a) (nI b) S = some (bI (sBlk v a b)) := by
  have h9 := hW.1
  have e8 := (hE.2.2 a ha).1 8 (by decide)
  unfold fX1_block sBlk
  rw [nn_in (by omega) (by decide), nn_tn (by omega), e8]
  by_cases h : v (2 + 10 * a + 8) = nI b
  · rw [if_pos h, decide_eq_false (not_not_intro h), Bool.and_false]; rfl
  · rw [if_neg h, decide_eq_true h, r1_fit hW hE ha hb, nn_bd1]
    cases sFit v a b
    · rfl
    · rw [if_neg (by decide), r1_pref hW hE ha hb, nn_bd1]
      cases sPref v a b
      · rfl
      · rw [if_neg (by decide), r1_pref hW hE hb ha, nn_bd1]
        cases sPref v b a <;> rfl
theorem r1_can (hW : WF n M v) (hE : PE n (S k) v) (ha : a < n) (hb : b < n) : fX1_canBecomePartners k (nI a) (nI b) S = some (bI (sFree v a && sFree v b && sFit v a b)) := by
  unfold fX1_canBecomePartners
  rw [r1_free hW hE ha, nn_bd1]
  cases sFree v a
  · rfl
  · rw [if_neg (by decide), r1_free hW hE hb, nn_bd1]
    cases sFree v b
    · rfl
    · rw [if_neg (by decide), r1_fit hW hE ha hb, nn_bd1]
      cases sFit v a b <;> rfl
end CL
section MD
variable {n M r a b : Nat} {v : tePg} {S : teS}
theorem sFit_self (v : tePg) (a : Nat) : sFit v a a = false := by
  have h : sL v a a = 0 := by unfold sL; exact Int32.sub_self _
  unfold sFit
  rw [h, decide_eq_false (not_not_intro (by decide))]
  rfl
end MD
