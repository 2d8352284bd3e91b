section S38
variable {n M k r a b : Nat} {v : tePg} {S : teS}
theorem r3_learn {M : Nat} (ha : a < 9) {q : Int32} (hw : rwf M (row (S k) a)) : fX3_learn k a q S = some (tst S k (rop (fL q) a (S k))) := by
  obtain ⟨w, hw4, ew⟩ := hw.2.1
  obtain ⟨y, hy, ey⟩ := hw.1 w hw4
  have ew2 : S k (2 + 10 * a + 4) = nI w := ew
  have ey2 : S k (2 + 10 * a + w) = nI y := ey
  rw [rop_L (S k) hw4 ew2 q, ey2]
  have n45 : (2 + 10 * a + 4) ≠ 2 + 10 * a + 5 := by omega
  have nw5 : (2 + 10 * a + w) ≠ 2 + 10 * a + 5 := by omega
  have n5w : (2 + 10 * a + 5) ≠ 2 + 10 * a + w := by omega
  have n4w : (2 + 10 * a + 4) ≠ 2 + 10 * a + w := by omega
  unfold fX3_learn
  rw [nn_lt1, teu_t, tst_s, tup_s]
  generalize hp : S k (2 + 10 * a + 5) + q = p1
  have tail : ∀ (g : tePg), g (2 + 10 * a + 4) = nI w → fX3_learn_57 k a q (tst S k g) = some (tst S k (if g (2 + 10 * a + w) = 9 then tup g (2 + 10 * a + 5) 0 else g)) := by
    intro g hg
    unfold fX3_learn_57
    rw [tst_s, hg, nn_in (by omega) (by decide), nn_tn (by omega), nn_lt1, teu_t, tst_s, tst_t]
    by_cases h : g (2 + 10 * a + w) = 9
    · rw [if_pos h, if_pos h]
    · rw [if_neg h, if_neg h]
  by_cases h1 : p1 < 20
  · rw [if_pos h1, if_pos h1, if_pos h1, tail _ (by rw [tup_n _ _ n45]; exact ew2), tup_n _ _ nw5, ey2, li9, eq_if (by omega) (by decide), lt_if (by omega) (by decide), le_if (by omega) (by decide), if_pos hy]
    congr 2
    by_cases h9 : y = 9
    · rw [if_pos h9, if_neg (by omega), tup_tup, ← ey2, tup_comm _ n5w, tup_i]
    · rw [if_neg h9, if_pos (by omega), ← ey2, tup_comm _ n5w, tup_i]
  · rw [if_neg h1, if_neg h1, if_neg h1, tup_n _ _ n45, ew2, nn_in (by omega) (by decide), nn_tn (by omega), tup_n _ _ nw5, ey2, li9, le_if (by decide) (by omega), li1, nn_add, lt_if (by omega) (by decide), le_if (by omega) (by decide)]
    by_cases h9 : 9 ≤ y
    · rw [if_pos h9, tail _ (by rw [tup_n _ _ n45]; exact ew2), tup_n _ _ nw5, ey2, li9, eq_if (by omega) (by decide), if_pos (by omega), if_neg (by omega), if_neg (by omega), tup_tup, show nI 9 = S k (2 + 10 * a + w) by rw [ey2]; congr 1; omega, tup_comm _ n5w, tup_i]
    · rw [if_neg h9, if_pos (show y + 1 ≤ 9 by omega)]
      simp only [nn_lt1, teu_t, tst_s, tst_t]
      rw [tail _ (by rw [tup_n _ _ n45, tup_n _ _ n4w, tup_n _ _ n45]; exact ew2), tup_n _ _ nw5, tup_s, tup_n _ _ n5w, tup_s, li9, eq_if (by omega) (by decide)]
      congr 2
      by_cases h8 : y = 8
      · rw [if_pos (show y + 1 = 9 by omega), if_neg (show ¬ y + 1 < 9 by omega), tup_tup, tup_comm _ nw5, tup_tup]
      · rw [if_neg (show ¬ y + 1 = 9 by omega), if_pos (show y + 1 < 9 by omega), tup_comm _ nw5, tup_tup]
theorem r3_meet {M : Nat} (ha : a < 9) {q : Int32} (hw : rwf M (row (S k) a)) : fX3_meet k a q S = some (tst S k (rop (fK q) a (S k))) := by
  unfold fX3_meet
  have h0 : tup (S k) (2 + 10 * a + 9) 0 = rop f0 a (S k) := rop_tup (S k) a (o := 9) (by decide) (fun _ => 0)
  have w0 : rwf M (row (rop f0 a (S k)) a) := by rw [← h0]; exact ⟨fun l hl => by unfold row; rw [tup_n _ _ (by omega)]; exact hw.1 l hl, by unfold row; rw [tup_n _ _ (by omega)]; exact hw.2.1, by unfold row; rw [tup_n _ _ (by omega)]; exact hw.2.2.1, by unfold row; rw [tup_n _ _ (by omega)]; exact hw.2.2.2⟩
  have w1 : rwf M (row (rop (fC 1) a (rop f0 a (S k))) a) := by
    have := rwf_C w0 (b := 1) (Or.inl rfl)
    exact ⟨fun l hl => by unfold row; rw [rop_in _ a _ (by omega)]; exact this.1 l hl, by unfold row; rw [rop_in _ a _ (by omega)]; exact this.2.1, by unfold row; rw [rop_in _ a _ (by omega)]; exact this.2.2.1, by unfold row; rw [rop_in _ a _ (by omega)]; exact this.2.2.2⟩
  rw [nn_lt1, teu_t, h0, r3_cred (M := M) ha (Or.inl rfl) (by rw [tst_s]; exact w0), nn_bd1, tst_s, tst_t, r3_learn (M := M) ha (by rw [tst_s]; exact w1), nn_bd1, tst_s, tst_t, rop_rop (rok_C 1), rop_rop (rok_L q)]
  rfl
theorem r3_miss {M : Nat} (ha : a < 9) (y : Bool) (hw : rwf M (row (S k) a)) : fX3_failToMeet k a (bI y) S = some (tst S k (rop (fM y) a (S k))) := by
  unfold fX3_failToMeet
  have h9 : tup (S k) (2 + 10 * a + 9) (S k (2 + 10 * a + 9) + 1) = rop (fun x => tup x 9 (x 9 + 1)) a (S k) := rop_tup (S k) a (o := 9) (by decide) (fun x => x 9 + 1)
  have ok9 : rok (fun x : tePg => tup x 9 (x 9 + 1)) := rok_tup (y := fun x => x 9 + 1) (fun x z h => by rw [h 9 (by decide)])
  have ok7 : rok (fun x : tePg => tup x 7 (x 7 + 1)) := rok_tup (y := fun x => x 7 + 1) (fun x z h => by rw [h 7 (by decide)])
  have w9 : ∀ N, rwf N (row (S k) a) → rwf N (row (rop (fun x => tup x 9 (x 9 + 1)) a (S k)) a) := by
    intro N hw
    rw [← h9]
    exact ⟨fun l hl => by unfold row; rw [tup_n _ _ (by omega)]; exact hw.1 l hl, by unfold row; rw [tup_n _ _ (by omega)]; exact hw.2.1, by unfold row; rw [tup_n _ _ (by omega)]; exact hw.2.2.1, by unfold row; rw [tup_n _ _ (by omega)]; exact hw.2.2.2⟩
  rw [nn_lt1, teu_t, h9, bI_if]
  cases y
  · rw [if_pos rfl, r3_cred (M := M) ha (Or.inr (Or.inl rfl)) (by rw [tst_s]; exact w9 M hw), nn_bd1, tst_s, tst_t, rop_rop (rok_C 2)]
    congr 3
    funext x
    unfold fM
    rw [bI_f, a_0, tup_i, if_neg (by decide)]
  · rw [if_neg (by decide), nn_lt1, teu_t, tst_s, tst_t]
    have h7 := rop_tup (rop (fun x => tup x 9 (x 9 + 1)) a (S k)) a (o := 7) (by decide) (fun x => x 7 + 1)
    have h7' : tup (rop (fun x => tup x 9 (x 9 + 1)) a (S k)) (2 + 10 * a + 7) (rop (fun x => tup x 9 (x 9 + 1)) a (S k) (2 + 10 * a + 7) + 1) = rop (fun x => tup x 7 (x 7 + 1)) a (rop (fun x => tup x 9 (x 9 + 1)) a (S k)) := h7
    rw [h7']
    have w7 : rwf (M + 1) (row (rop (fun x => tup x 7 (x 7 + 1)) a (rop (fun x => tup x 9 (x 9 + 1)) a (S k))) a) := by
      have h := w9 M hw
      rw [← h7']
      obtain ⟨m, hm, em⟩ := h.2.2.2
      exact ⟨fun l hl => by unfold row; rw [tup_n _ _ (by omega)]; exact h.1 l hl, by unfold row; rw [tup_n _ _ (by omega)]; exact h.2.1, by unfold row; rw [tup_n _ _ (by omega)]; exact h.2.2.1, ⟨m + 1, by omega, by unfold row; rw [tup_s, show rop (fun x => tup x 9 (x 9 + 1)) a (S k) (2 + 10 * a + 7) = nI m from em, li1, nn_add]⟩⟩
    rw [r3_cred (M := M + 1) ha (Or.inr (Or.inr rfl)) (by rw [tst_s]; exact w7), nn_bd1, tst_s, tst_t, rop_rop ok7, rop_rop (rok_C (-3))]
    congr 3
    funext x
    unfold fM
    rw [if_pos rfl, bI_t]
    congr 1
    rw [tup_n _ _ (by decide), tup_comm _ (by decide)]
end S38
