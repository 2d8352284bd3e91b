/-! JOINING -/
def sSta (p : tePg) (m w L : Nat) (x : Int32) : tePg := tup (tup (tup (tup (tup (tup (tup (tup (tup (tup p (2 + 10 * m + 3) (nI (L % 10))) (2 + 10 * m + 2) (nI (L / 10 % 10))) (2 + 10 * m + 1) (nI (L / 10 / 10 % 10))) (2 + 10 * m + 0) (nI (L / 10 / 10 / 10 % 10))) (2 + 10 * m + 4) (nI w)) (2 + 10 * m + 5) (0)) (2 + 10 * m + 6) (x)) (2 + 10 * m + 7) (0)) (2 + 10 * m + 8) (-9999)) (2 + 10 * m + 9) (0)
theorem sta_o {p : tePg} {m w L i : Nat} {x : Int32} (h : ¬ (2 + 10 * m ≤ i ∧ i < 12 + 10 * m)) : sSta p m w L x i = p i := by
  unfold sSta
  rw [tup_n _ _ (by omega), tup_n _ _ (by omega), tup_n _ _ (by omega), tup_n _ _ (by omega), tup_n _ _ (by omega), tup_n _ _ (by omega), tup_n _ _ (by omega), tup_n _ _ (by omega), tup_n _ _ (by omega), tup_n _ _ (by omega)]
theorem sta_9 (p : tePg) (m w L : Nat) (x : Int32) : sSta p m w L x (2 + 10 * m + 9) = 0 := by
  unfold sSta
  rw [tup_s]
theorem sta_8 (p : tePg) (m w L : Nat) (x : Int32) : sSta p m w L x (2 + 10 * m + 8) = -9999 := by
  unfold sSta
  rw [tup_n _ _ (by omega), tup_s]
theorem sta_7 (p : tePg) (m w L : Nat) (x : Int32) : sSta p m w L x (2 + 10 * m + 7) = 0 := by
  unfold sSta
  rw [tup_n _ _ (by omega), tup_n _ _ (by omega), tup_s]
theorem sta_6 (p : tePg) (m w L : Nat) (x : Int32) : sSta p m w L x (2 + 10 * m + 6) = x := by
  unfold sSta
  rw [tup_n _ _ (by omega), tup_n _ _ (by omega), tup_n _ _ (by omega), tup_s]
theorem sta_5 (p : tePg) (m w L : Nat) (x : Int32) : sSta p m w L x (2 + 10 * m + 5) = 0 := by
  unfold sSta
  rw [tup_n _ _ (by omega), tup_n _ _ (by omega), tup_n _ _ (by omega), tup_n _ _ (by omega), tup_s]
theorem sta_4 (p : tePg) (m w L : Nat) (x : Int32) : sSta p m w L x (2 + 10 * m + 4) = nI w := by
  unfold sSta
  rw [tup_n _ _ (by omega), tup_n _ _ (by omega), tup_n _ _ (by omega), tup_n _ _ (by omega), tup_n _ _ (by omega), tup_s]
theorem sta_0 (p : tePg) (m w L : Nat) (x : Int32) : sSta p m w L x (2 + 10 * m + 0) = nI (L / 10 / 10 / 10 % 10) := by
  unfold sSta
  rw [tup_n _ _ (by omega), tup_n _ _ (by omega), tup_n _ _ (by omega), tup_n _ _ (by omega), tup_n _ _ (by omega), tup_n _ _ (by omega), tup_s]
theorem sta_1 (p : tePg) (m w L : Nat) (x : Int32) : sSta p m w L x (2 + 10 * m + 1) = nI (L / 10 / 10 % 10) := by
  unfold sSta
  rw [tup_n _ _ (by omega), tup_n _ _ (by omega), tup_n _ _ (by omega), tup_n _ _ (by omega), tup_n _ _ (by omega), tup_n _ _ (by omega), tup_n _ _ (by omega), tup_s]
theorem sta_2 (p : tePg) (m w L : Nat) (x : Int32) : sSta p m w L x (2 + 10 * m + 2) = nI (L / 10 % 10) := by
  unfold sSta
  rw [tup_n _ _ (by omega), tup_n _ _ (by omega), tup_n _ _ (by omega), tup_n _ _ (by omega), tup_n _ _ (by omega), tup_n _ _ (by omega), tup_n _ _ (by omega), tup_n _ _ (by omega), tup_s]
theorem sta_3 (p : tePg) (m w L : Nat) (x : Int32) : sSta p m w L x (2 + 10 * m + 3) = nI (L % 10) := by
  unfold sSta
  rw [tup_n _ _ (by omega), tup_n _ _ (by omega), tup_n _ _ (by omega), tup_n _ _ (by omega), tup_n _ _ (by omega), tup_n _ _ (by omega), tup_n _ _ (by omega), tup_n _ _ (by omega), tup_n _ _ (by omega), tup_s]
theorem sta_r (p q : tePg) (m w L : Nat) (x : Int32) {o : Nat} (ho : o < 10) : sSta p m w L x (2 + 10 * m + o) = sSta q m w L x (2 + 10 * m + o) := by
  rcases (show o = 0 ∨ o = 1 ∨ o = 2 ∨ o = 3 ∨ o = 4 ∨ o = 5 ∨ o = 6 ∨ o = 7 ∨ o = 8 ∨ o = 9 by omega) with rfl | rfl | rfl | rfl | rfl | rfl | rfl | rfl | rfl | rfl
  · rw [sta_0, sta_0]
  · rw [sta_1, sta_1]
  · rw [sta_2, sta_2]
  · rw [sta_3, sta_3]
  · rw [sta_4, sta_4]
  · rw [sta_5, sta_5]
  · rw [sta_6, sta_6]
  · rw [sta_7, sta_7]
  · rw [sta_8, sta_8]
  · rw [sta_9, sta_9]
def sJoin (v : tePg) (n w L : Nat) (x : Int32) : tePg := tup (sSta v n w L x) 0 (nI (n + 1))
theorem wf_join {n M w L : Nat} {x : Int32} {v : tePg} (hW : WF n M v) (hn : n < 9) (hw : w < 4) (hx : ∃ c, c ≤ 198 ∧ x = nI c - 99) : WF (n + 1) M (sJoin v n w L x) := by
  have eo : ∀ c, c < n → ∀ o, o < 10 → sJoin v n w L x (2 + 10 * c + o) = v (2 + 10 * c + o) := fun c hc o ho => by
    unfold sJoin
    rw [tup_n _ _ (by omega), sta_o (by omega)]
  have en : ∀ o, sJoin v n w L x (2 + 10 * n + o) = sSta v n w L x (2 + 10 * n + o) := fun o => by
    unfold sJoin
    rw [tup_n _ _ (by omega)]
  refine ⟨by omega, hW.2.1, by unfold sJoin; rw [tup_s], fun c hc => ?_⟩
  by_cases hcn : c = n
  · subst hcn
    refine ⟨fun l hl => ?_, ⟨w, hw, by rw [en, sta_4]⟩, ?_, ⟨0, by omega, by rw [en, sta_7]; rfl⟩, Or.inl ⟨by rw [en, sta_8], by rw [en, sta_9]⟩⟩
    · rw [en]
      rcases (show l = 0 ∨ l = 1 ∨ l = 2 ∨ l = 3 by omega) with rfl | rfl | rfl | rfl
      · exact ⟨_, by omega, sta_0 _ _ _ _ _⟩
      · exact ⟨_, by omega, sta_1 _ _ _ _ _⟩
      · exact ⟨_, by omega, sta_2 _ _ _ _ _⟩
      · exact ⟨_, by omega, sta_3 _ _ _ _ _⟩
    · rw [en, sta_6]; exact hx
  · obtain ⟨g1, g2, g3, g4, g5⟩ := hW.2.2.2 c (by omega)
    refine ⟨fun l hl => by rw [eo c (by omega) l (by omega)]; exact g1 l hl, by rw [eo c (by omega) 4 (by decide)]; exact g2, by rw [eo c (by omega) 6 (by decide)]; exact g3, by rw [eo c (by omega) 7 (by decide)]; exact g4, ?_⟩
    rw [eo c (by omega) 8 (by decide), eo c (by omega) 9 (by decide)]
    rcases g5 with g5 | ⟨b, hb, hbc, k1, k2, k3⟩
    · exact Or.inl g5
    · exact Or.inr ⟨b, by omega, hbc, k1, by rw [eo b hb 8 (by decide)]; exact k2, by rw [eo b hb 9 (by decide)]; exact k3⟩
theorem PE_join {n w L : Nat} {x : Int32} {p v : tePg} (hE : PE n p v) : PE (n + 1) (sJoin p n w L x) (sJoin v n w L x) := by
  have eo : ∀ (q : tePg) c, c < n → ∀ o, o < 10 → sJoin q n w L x (2 + 10 * c + o) = q (2 + 10 * c + o) := fun q c hc o ho => by
    unfold sJoin
    rw [tup_n _ _ (by omega), sta_o (by omega)]
  have en : ∀ (q : tePg) o, sJoin q n w L x (2 + 10 * n + o) = sSta q n w L x (2 + 10 * n + o) := fun q o => by
    unfold sJoin
    rw [tup_n _ _ (by omega)]
  have e1 : ∀ q : tePg, sJoin q n w L x 1 = q 1 := fun q => by
    unfold sJoin
    rw [tup_n _ _ (by decide), sta_o (by omega)]
  refine ⟨by unfold sJoin; rw [tup_s, tup_s], by rw [e1, e1]; exact hE.2.1, fun c hc => ?_⟩
  by_cases hcn : c = n
  · subst hcn
    exact ⟨fun o ho => by rw [en, en]; exact sta_r _ _ _ _ _ _ (by omega), fun _ => by rw [en, en]; exact sta_r _ _ _ _ _ _ (by omega)⟩
  · refine ⟨fun o ho => by rw [eo _ c (by omega) o (by omega), eo _ c (by omega) o (by omega)]; exact (hE.2.2 c (by omega)).1 o ho, fun hn => ?_⟩
    rw [eo _ c (by omega) 8 (by decide)] at hn
    rw [eo _ c (by omega) 9 (by decide), eo _ c (by omega) 9 (by decide)]
    exact (hE.2.2 c (by omega)).2 hn
theorem l3 : (3 : Int32).toNatClampNeg = 3 := rfl
theorem l2 : (2 : Int32).toNatClampNeg = 2 := rfl
theorem i3m : (3 : Int32) + (-1) = 2 := rfl
theorem i2m : (2 : Int32) + (-1) = 1 := rfl
theorem i1m : (1 : Int32) + (-1) = 0 := rfl
theorem i0m : (0 : Int32) + (-1) = -1 := rfl
theorem rem10 {a : Nat} (ha : a < 2147483648) : nI a - nI (a / 10) * nI 10 = nI (a % 10) := by
  rw [← nn_div (d := 10) ha (by decide) (by decide), nn_rem ha (by decide) (by decide)]
theorem c3_sta (k m f w L : Nat) (x : Int32) (S : teS) (hL : L ≤ 9999) : fX3_start_6 k m (nI w) (nI L) x (f + 5) S (nI L) 3 = some (tst S k (sSta (S k) m w L x)) := by
  unfold fX3_start_6
  rw [if_neg (show ¬ (3 : Int32) < 0 by decide), nn_ch (show tein 3 4 = true by decide), nn_lt1, l3, i3m]
  unfold fX3_start_6
  rw [if_neg (show ¬ (2 : Int32) < 0 by decide), nn_ch (show tein 2 4 = true by decide), nn_lt1, l2, i2m]
  unfold fX3_start_6
  rw [if_neg (show ¬ (1 : Int32) < 0 by decide), nn_ch (show tein 1 4 = true by decide), nn_lt1, l1, i1m]
  unfold fX3_start_6
  rw [if_neg (show ¬ (0 : Int32) < 0 by decide), nn_ch (show tein 0 4 = true by decide), nn_lt1, l0, i0m]
  unfold fX3_start_6
  rw [if_pos (show (-1 : Int32) < 0 by decide)]
  simp (disch := omega) only [nn_lt1, li10, nn_div]
  simp (disch := omega) only [rem10]
  simp only [teu_t, tst_s, tst_t]
  rfl
theorem r1_join {n M w L k : Nat} {x : Int32} {v : tePg} {S : teS} (hW : WF n M v) (hE : PE n (S k) v) (hn : n < 9) (hL : L ≤ 9999) : fX1_add k (nI w) (nI L) x S = some (tst S k (sJoin (S k) n w L x)) := by
  have e0 := hE.1.trans hW.2.2.1
  unfold fX1_add
  rw [e0, li9, if_neg (by rw [nn_le (by omega) (by omega)]; omega), nn_in (by omega) (by decide), nn_tn (by omega)]
  have h : fX3_start k n (nI w) (nI L) x S = some (tst S k (sSta (S k) n w L x)) := c3_sta k n 1995 w L x S hL
  rw [h, nn_bd1, nn_lt1, teu_t, tst_s, tst_t, sta_o (by omega), e0, li1, nn_add]
  rfl
theorem q_cr : ∀ c : Fin 199, (nI c.val - 99).toInt = (c.val : Int) - 99 := by decide +kernel
theorem rg_cr {x : Int32} (h : rg (-99) 99 x = true) : ∃ c, c ≤ 198 ∧ x = nI c - 99 := by
  unfold rg at h
  rw [Bool.and_eq_true] at h
  have h1 := of_decide_eq_true h.1
  have h2 := of_decide_eq_true h.2
  rw [Int32.lt_iff_toInt_lt, show (-99 : Int32).toInt = -99 by decide] at h1
  rw [Int32.lt_iff_toInt_lt, show (99 : Int32).toInt = 99 by decide] at h2
  refine ⟨(x.toInt + 99).toNat, by omega, ?_⟩
  have e := q_cr ⟨(x.toInt + 99).toNat, by omega⟩
  apply Int32.toInt_inj.mp
  rw [e]
  show x.toInt = (((x.toInt + 99).toNat : Nat) : Int) - 99
  omega
