/-! want, test, a number of a member -/
theorem li0 : (0 : Int32) = nI 0 := rfl
theorem lm1 {n : Nat} (h : 0 < n) : nI n + (-1) = nI (n - 1) := sb_m1 h
theorem li1000 : (1000 : Int32) = nI 1000 := rfl
theorem ite_P {α : Type} {c1 c2 : Prop} [Decidable c1] [Decidable c2] (h : c1 = c2) (x y : α) : (if c1 then x else y) = if c2 then x else y := by
  by_cases hc : c1
  · rw [if_pos hc, if_pos (h ▸ hc)]
  · rw [if_neg hc, if_neg (h ▸ hc)]
theorem bI_if {α : Type} (b : Bool) (x y : α) : (if bI b = 0 then x else y) = if b = false then x else y := ite_P (bI_0 b) x y
theorem le_if {α : Type} {a b : Nat} (ha : a < 2147483648) (hb : b < 2147483648) (x y : α) : (if nI a ≤ nI b then x else y) = if a ≤ b then x else y := ite_P (nn_le ha hb) x y
theorem lt_if {α : Type} {a b : Nat} (ha : a < 2147483648) (hb : b < 2147483648) (x y : α) : (if nI a < nI b then x else y) = if a < b then x else y := ite_P (nn_lt ha hb) x y
theorem eq_if {α : Type} {a b : Nat} (ha : a < 2147483648) (hb : b < 2147483648) (x y : α) : (if nI a = nI b then x else y) = if a = b then x else y := ite_P (nn_eq ha hb) x y
theorem eq0_if {α : Type} {a : Nat} (ha : a < 2147483648) (x y : α) : (if nI a = 0 then x else y) = if a = 0 then x else y := ite_P (nn_eq0 ha) x y
def sWant (v : tePg) (a l : Nat) : tePg := mMend (tup (tup v (2 + 10 * a + 4) (nI l)) (2 + 10 * a + 5) 0) a
def sTest1 (v : tePg) (a l x : Nat) : tePg := if v (2 + 10 * a + 4) = nI l then tup (tup v (2 + 10 * a + l) (nI (x / 10))) (2 + 10 * a + 5) (nI (x % 10 * 2)) else tup v (2 + 10 * a + l) (nI (x / 10))
def sTest (v : tePg) (a l x : Nat) : tePg := mMend (sTest1 v a l x) a
section S33
variable {n M k r a l x : Nat} {v : tePg} {S : teS}
theorem wf_want1 (hW : WF n M v) (hl : l < 4) : WF n M (tup (tup v (2 + 10 * a + 4) (nI l)) (2 + 10 * a + 5) 0) :=
  wf_w (wf_w hW (by decide) (fun h => absurd h (by decide)) (fun _ => ⟨l, hl, rfl⟩) (fun h => absurd h (by decide)) (fun h => absurd h (by decide))) (by decide) (fun h => absurd h (by decide)) (fun h => absurd h (by decide)) (fun h => absurd h (by decide)) (fun h => absurd h (by decide))
theorem wf_test1 (hW : WF n M v) (hl : l < 4) (hx : x < 100) : WF n M (sTest1 v a l x) := by
  have h1 : WF n M (tup v (2 + 10 * a + l) (nI (x / 10))) := wf_w hW (by omega) (fun _ => ⟨x / 10, by omega, rfl⟩) (fun h => absurd h (by omega)) (fun h => absurd h (by omega)) (fun h => absurd h (by omega))
  unfold sTest1
  split
  · exact wf_w h1 (by decide) (fun h => absurd h (by decide)) (fun h => absurd h (by decide)) (fun h => absurd h (by decide)) (fun h => absurd h (by decide))
  · exact h1
theorem r1_want (hW : WF n M v) (hE : PE n (S k) v) (ha : a < n) (hl : l < 4) : ∃ p, fX1_changeWish k (nI a) (nI l) S = some (tst S k p) ∧ PE n p (sWant v a l) := by
  have h9 := hW.1
  unfold fX1_changeWish sWant
  simp (disch := omega) only [nn_in, nn_tn, nn_lt1]
  rw [teu_t, teu_t, tst_s, tst_t]
  obtain ⟨p, h1, h2⟩ := r1_mend (S := tst S k (tup (tup (S k) (2 + 10 * a + 4) (nI l)) (2 + 10 * a + 5) 0)) (k := k) (wf_want1 (a := a) hW hl) (by rw [tst_s]; exact PE_w (PE_w hE (by decide) _) (by decide) _) ha
  exact ⟨p, by rw [h1, nn_bd1, tst_t], h2⟩
theorem r1_test (hW : WF n M v) (hE : PE n (S k) v) (ha : a < n) (hl : l < 4) (hx : x < 100) : ∃ p, fX1_grade k (nI a) (nI l) (nI x) S = some (tst S k p) ∧ PE n p (sTest v a l x) := by
  have h9 := hW.1
  have e4 := (hE.2.2 a ha).1 4 (by decide)
  unfold fX1_grade sTest
  simp (disch := omega) only [li10, nn_rem]
  simp (disch := omega) only [nn_in, nn_tn, nn_lt1, li10, li2, nn_div, nn_rem, nn_mul]
  rw [teu_t, tst_s, tup_n _ _ (by omega), e4]
  by_cases h : v (2 + 10 * a + 4) = nI l
  · rw [if_pos h, teu_t, tst_s, tst_t]
    have hs : sTest1 v a l x = tup (tup v (2 + 10 * a + l) (nI (x / 10))) (2 + 10 * a + 5) (nI (x % 10 * 2)) := if_pos h
    obtain ⟨p, h1, h2⟩ := r1_mend (S := tst S k (tup (tup (S k) (2 + 10 * a + l) (nI (x / 10))) (2 + 10 * a + 5) (nI (x % 10 * 2)))) (k := k) (wf_test1 (a := a) hW hl hx) (by rw [tst_s, hs]; exact PE_w (PE_w hE (by omega) _) (by decide) _) ha
    exact ⟨p, by rw [h1, nn_bd1, tst_t], h2⟩
  · rw [if_neg h]
    have hs : sTest1 v a l x = tup v (2 + 10 * a + l) (nI (x / 10)) := if_neg h
    obtain ⟨p, h1, h2⟩ := r1_mend (S := tst S k (tup (S k) (2 + 10 * a + l) (nI (x / 10)))) (k := k) (wf_test1 (a := a) hW hl hx) (by rw [tst_s, hs]; exact PE_w hE (by omega) _) ha
    exact ⟨p, by rw [h1, nn_bd1, tst_t], h2⟩
theorem tup_i (p : tePg) (i : Nat) : tup p i (p i) = p := by
  funext j
  unfold tup
  split
  · rename_i h; rw [h]
  · rfl
end S33
