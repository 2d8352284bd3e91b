/-! WHAT joining, leaving and a week keep, beyond WF -/
def sLeave (n a : Nat) (v : tePg) : tePg := dcl a (n - 1) 0 (shr a (n - 1) (tup (mPart v a) 0 (nI (n - 1))))
section S73
variable {n M : Nat} {v : tePg}
theorem jn_o {w L c o : Nat} {x : Int32} (hc : c < n) (ho : o < 10) : sJoin v n w L x (2 + 10 * c + o) = v (2 + 10 * c + o) := by
  unfold sJoin
  rw [tup_n _ _ (by omega), sta_o (by omega)]
theorem jn_n {w L o : Nat} {x : Int32} : sJoin v n w L x (2 + 10 * n + o) = sSta v n w L x (2 + 10 * n + o) := by
  unfold sJoin
  rw [tup_n _ _ (by omega)]
theorem IV_join (hW : WF n M v) (hI : IV n v) (hn : n < 9) {w L : Nat} {x : Int32} : IV (n + 1) (sJoin v n w L x) := by
  have h9 := hW.1
  have key : ∀ c d, c < n + 1 → d < n + 1 → sJoin v n w L x (2 + 10 * c + 8) = nI d → c < n ∧ d < n ∧ v (2 + 10 * c + 8) = nI d := fun c d hc hd h => by
    by_cases hcn : c = n
    · subst hcn
      rw [jn_n, sta_8] at h
      exact (N_ne (by omega) rfl h).elim
    · rw [jn_o (by omega) (by decide)] at h
      rcases wf_par hW (show c < n by omega) with ⟨g, -⟩ | ⟨b, hb, -, g, -⟩
      · exact (N_ne (by omega) g h).elim
      · have e := nI_inj (by omega) (by omega) (g.symm.trans h)
        exact ⟨by omega, by omega, h⟩
  refine ⟨fun c hc => ?_, fun c d hc hd h => ?_, fun c d hc hd h => ?_⟩
  · by_cases hcn : c = n
    · subst hcn
      exact ⟨0, by decide, by rw [jn_n, sta_5]; rfl⟩
    · rw [jn_o (by omega) (by decide)]
      exact hI.1 c (by omega)
  · obtain ⟨g1, g2, g3⟩ := key c d hc hd h
    rw [sFit_cong hW g1 g2 (fun o ho => jn_o g1 (by omega)) (fun o ho => jn_o g2 (by omega))]
    exact hI.2.1 c d g1 g2 g3
  · obtain ⟨g1, g2, g3⟩ := key c d hc hd h
    rw [jn_o g1 (by decide)]
    exact hI.2.2 c d g1 g2 g3
/-- a member leaves -/
theorem lv_sk {n a : Nat} {x w : tePg} (hW : WF n M x) (ha : a < n) (hf : x (2 + 10 * a + 8) = -9999) (hL : LV n a x w) {c d : Nat} (hc : c < n - 1) (hd : d < n - 1) (h : w (2 + 10 * c + 8) = nI d) : x (2 + 10 * sk a c + 8) = nI (sk a d) := by
  have h9 := hW.1
  have hs := sk_n ha hc
  have e := hL.2.2 c hc 8 (by decide)
  rw [if_pos rfl] at e
  rw [e] at h
  rcases wf_par hW hs.1 with ⟨g, -⟩ | ⟨b, hb, -, g, g2, -⟩
  · rw [g, dcr_N a (by omega)] at h
    exact (N_ne (by omega) rfl h).elim
  · have hba : b ≠ a := by
      rintro rfl
      exact N_ne (by omega) hf g2
    rw [g, dcr_b (by omega) (by omega) hba] at h
    have e2 := nI_inj (by split <;> omega) (by omega) h
    rw [g]
    congr 1
    unfold sk
    split at e2 <;> split <;> omega
theorem IV_lv {n a : Nat} {x w : tePg} (hW : WF n M x) (hI : IV n x) (ha : a < n) (hf : x (2 + 10 * a + 8) = -9999) (hL : LV n a x w) : IV (n - 1) w := by
  have e : ∀ c, c < n - 1 → ∀ o, o < 10 → o ≠ 8 → w (2 + 10 * c + o) = x (2 + 10 * sk a c + o) := fun c hc o ho h8 => by
    rw [hL.2.2 c hc o ho, if_neg h8]
  refine ⟨fun c hc => by rw [e c hc 5 (by decide) (by decide)]; exact hI.1 _ (sk_n ha hc).1, fun c d hc hd h => ?_, fun c d hc hd h => ?_⟩
  · have h1 := lv_sk hW ha hf hL hc hd h
    have h2 := hI.2.1 _ _ (sk_n ha hc).1 (sk_n ha hd).1 h1
    have h3 : sL w c d = sL x (sk a c) (sk a d) := by
      have h4 : pw w c = pw x (sk a c) := by unfold pw; rw [e c hc 4 (by decide) (by decide)]
      have h5 := pw_lt hW (sk_n ha hc).1
      unfold sL
      rw [h4, e d hd _ (by omega) (by omega), e c hc _ (by omega) (by omega)]
    have h6 : sL w d c = sL x (sk a d) (sk a c) := by
      have h4 : pw w d = pw x (sk a d) := by unfold pw; rw [e d hd 4 (by decide) (by decide)]
      have h5 := pw_lt hW (sk_n ha hd).1
      unfold sL
      rw [h4, e c hc _ (by omega) (by omega), e d hd _ (by omega) (by omega)]
    unfold sFit at h2 ⊢
    rw [h3, h6]
    exact h2
  · have h1 := lv_sk hW ha hf hL hc hd h
    rw [e c hc 9 (by decide) (by decide)]
    exact hI.2.2 _ _ (sk_n ha hc).1 (sk_n ha hd).1 h1
theorem lv_leave {a : Nat} (hW : WF n M v) (ha : a < n) : LV n a (tup (mPart v a) 0 (nI (n - 1))) (sLeave n a v) := lv_shr ha (tup_s _ _ _)
theorem LV_0b {n a : Nat} {x p : tePg} {z : Int32} (h : LV n a (tup x 0 z) p) : LV n a x p := by
  refine ⟨h.1, by rw [h.2.1, tup_n _ _ (by decide)], fun c hc o ho => ?_⟩
  rw [h.2.2 c hc o ho, tup_n _ _ (by omega), tup_n _ _ (by omega)]
end S73
