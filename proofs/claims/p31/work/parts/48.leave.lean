/-! LEAVING; restore -/
def sk (a c : Nat) : Nat := if c < a then c else c + 1
def dcr (a : Nat) (z : Int32) : Int32 := if z ≤ nI a then z else z - 1
/-- w is x without member a -/
def LV (n a : Nat) (x w : tePg) : Prop := w 0 = nI (n - 1) ∧ w 1 = x 1 ∧ ∀ c, c < n - 1 → ∀ o, o < 10 → w (2 + 10 * c + o) = if o = 8 then dcr a (x (2 + 10 * sk a c + 8)) else x (2 + 10 * sk a c + o)
theorem dcr_N (a : Nat) (h : a < 9) : dcr a (-9999) = -9999 := if_pos (Int32.le_trans (b := 0) (by decide) (nI_pos' (by omega)))
theorem dcr_b {a b : Nat} (ha : a < 9) (hb : b < 9) (hab : b ≠ a) : dcr a (nI b) = nI (if b < a then b else b - 1) := by
  unfold dcr
  rw [le_if (by omega) (by omega)]
  by_cases h : b ≤ a
  · rw [if_pos h, if_pos (show b < a by omega)]
  · rw [if_neg h, if_neg (show ¬ b < a by omega), li1, nn_sub (by omega)]
theorem sk_n {n a c : Nat} (ha : a < n) (hc : c < n - 1) : sk a c < n ∧ sk a c ≠ a := by
  unfold sk
  split <;> omega
theorem wf_lv {n M a : Nat} {x w : tePg} (hW : WF n M x) (ha : a < n) (hf : x (2 + 10 * a + 8) = -9999) (hL : LV n a x w) : WF (n - 1) M w := by
  have h9 := hW.1
  obtain ⟨l0, l1, lr⟩ := hL
  have ne : ∀ c, c < n - 1 → ∀ o, o < 10 → o ≠ 8 → w (2 + 10 * c + o) = x (2 + 10 * sk a c + o) := fun c hc o ho h8 => by rw [lr c hc o ho, if_neg h8]
  have e8 : ∀ c, c < n - 1 → w (2 + 10 * c + 8) = dcr a (x (2 + 10 * sk a c + 8)) := fun c hc => by rw [lr c hc 8 (by decide), if_pos rfl]
  refine ⟨by omega, hW.2.1, l0, fun c hc => ?_⟩
  have hs := sk_n ha hc
  obtain ⟨g1, g2, g3, g4, g5⟩ := hW.2.2.2 (sk a c) hs.1
  refine ⟨fun l hl => by rw [ne c hc l (by omega) (by omega)]; exact g1 l hl, by rw [ne c hc 4 (by decide) (by decide)]; exact g2, by rw [ne c hc 6 (by decide) (by decide)]; exact g3, by rw [ne c hc 7 (by decide) (by decide)]; exact g4, ?_⟩
  rw [e8 c hc, ne c hc 9 (by decide) (by decide)]
  rcases g5 with ⟨k1, k2⟩ | ⟨b, hb, hbc, k1, k2, k3⟩
  · exact Or.inl ⟨by rw [k1]; exact dcr_N a (by omega), k2⟩
  · have hba : b ≠ a := by
      rintro rfl
      rw [hf] at k2
      exact absurd k2.symm (by rw [nn_NI (by omega)]; exact not_false)
    have hbn : (if b < a then b else b - 1) < n - 1 := by split <;> omega
    have hsb : sk a (if b < a then b else b - 1) = b := by
      unfold sk
      by_cases h : b < a
      · rw [if_pos h, if_pos h]
      · rw [if_neg h, if_neg (show ¬ b - 1 < a by omega)]; omega
    refine Or.inr ⟨if b < a then b else b - 1, hbn, ?_, by rw [k1]; exact dcr_b (by omega) (by omega) hba, ?_, ?_⟩
    · intro h
      have h2 : sk a (if b < a then b else b - 1) = sk a c := by rw [h]
      rw [hsb] at h2
      exact hbc h2
    · rw [e8 _ hbn, hsb, k2, dcr_b (by omega) (by omega) hs.2]
      congr 1
      unfold sk
      by_cases h : c < a
      · rw [if_pos h, if_pos h]
      · rw [if_neg h, if_neg (show ¬ c + 1 < a by omega)]; omega
    · rw [ne _ hbn 9 (by decide) (by decide), hsb, k3]
theorem PE_lv {n a : Nat} {x y w p : tePg} (h9 : n ≤ 9) (hE : PE n x y) (ha : a < n) (hp : LV n a x p) (hw : LV n a y w) : PE (n - 1) p w := by
  refine ⟨by rw [hp.1, hw.1], by rw [hp.2.1, hw.2.1]; exact hE.2.1, fun c hc => ⟨fun o ho => ?_, fun hn => ?_⟩⟩
  · have hs := sk_n ha hc
    rw [hp.2.2 c hc o (by omega), hw.2.2 c hc o (by omega), (hE.2.2 _ hs.1).1 8 (by decide), (hE.2.2 _ hs.1).1 o ho]
  · have hs := sk_n ha hc
    rw [hw.2.2 c hc 8 (by decide), if_pos rfl] at hn
    rw [hp.2.2 c hc 9 (by decide), hw.2.2 c hc 9 (by decide), if_neg (by decide), if_neg (by decide)]
    exact (hE.2.2 _ hs.1).2 (fun z => hn (by rw [z]; exact dcr_N a (by omega)))
/-- the second loop of both -/
def dcl (a : Nat) : Nat → Nat → tePg → tePg
  | 0, _, y => y
  | d + 1, b, y => dcl a d (b + 1) (tup y (2 + 10 * b + 8) (dcr a (y (2 + 10 * b + 8))))
theorem dcl_n (a : Nat) : ∀ (d b : Nat) (y : tePg) (i : Nat), (∀ c, b ≤ c → i ≠ 2 + 10 * c + 8) → dcl a d b y i = y i
  | 0, _, _, _, _ => rfl
  | d + 1, b, y, i, h => by rw [dcl, dcl_n a d (b + 1) _ i (fun c hc => h c (by omega)), tup_n _ _ (h b (by omega))]
theorem dcl_8 (a : Nat) : ∀ (d b : Nat) (y : tePg) (c : Nat), b ≤ c → c < b + d → dcl a d b y (2 + 10 * c + 8) = dcr a (y (2 + 10 * c + 8))
  | 0, b, y, c, h1, h2 => absurd h2 (by omega)
  | d + 1, b, y, c, h1, h2 => by
    rw [dcl]
    by_cases h : c = b
    · subst h
      rw [dcl_n a d (c + 1) _ _ (fun e he => by omega), tup_s]
    · rw [dcl_8 a d (b + 1) _ c (by omega) (by omega), tup_n _ _ (by omega)]
def shr (a m : Nat) (x : tePg) : tePg := fun i => if 2 + 10 * a ≤ i ∧ i < 2 + 10 * m then x (i + 10) else x i
theorem shr_s {a m : Nat} (h : a ≤ m) (x : tePg) : cprow (shr a m x) m (shr a m x) (m + 1) = shr a (m + 1) x := by
  funext i
  show (if 2 + 10 * m ≤ i ∧ i < 12 + 10 * m then shr a m x (2 + 10 * (m + 1) + (i - (2 + 10 * m))) else shr a m x i) = (if 2 + 10 * a ≤ i ∧ i < 2 + 10 * (m + 1) then x (i + 10) else x i)
  unfold shr
  by_cases h1 : 2 + 10 * m ≤ i ∧ i < 12 + 10 * m
  · rw [if_pos h1, if_neg (show ¬ (2 + 10 * a ≤ 2 + 10 * (m + 1) + (i - (2 + 10 * m)) ∧ 2 + 10 * (m + 1) + (i - (2 + 10 * m)) < 2 + 10 * m) by omega), if_pos (show 2 + 10 * a ≤ i ∧ i < 2 + 10 * (m + 1) by omega), show 2 + 10 * (m + 1) + (i - (2 + 10 * m)) = i + 10 by omega]
  · rw [if_neg h1]
    by_cases h2 : 2 + 10 * a ≤ i ∧ i < 2 + 10 * m
    · rw [if_pos h2, if_pos (show 2 + 10 * a ≤ i ∧ i < 2 + 10 * (m + 1) by omega)]
    · rw [if_neg h2, if_neg (show ¬ (2 + 10 * a ≤ i ∧ i < 2 + 10 * (m + 1)) by omega)]
theorem c1_rm2 {a N : Nat} (hN : N ≤ 9) : ∀ (d b fuel : Nat) (S : teS) (y : tePg), S 0 = y → y 0 = nI N → b + d = N → d < fuel → fX1_remove_50 0 (nI a) fuel S (nI b) = some (tst S 0 (dcl a d b y))
  | 0, b, fuel, S, y, hy, y0, hb, hf => by
    obtain ⟨f, rfl⟩ : ∃ f, fuel = f + 1 := ⟨fuel - 1, by omega⟩
    unfold fX1_remove_50
    rw [hy, y0, if_pos (by rw [nn_le (by omega) (by omega)]; omega), dcl, ← hy, tst_i]
  | d + 1, b, fuel, S, y, hy, y0, hb, hf => by
    obtain ⟨f, rfl⟩ : ∃ f, fuel = f + 1 := ⟨fuel - 1, by omega⟩
    unfold fX1_remove_50
    rw [hy, y0, if_neg (by rw [nn_le (by omega) (by omega)]; omega), nn_in (by omega) (by decide), nn_tn (by omega), li1, nn_add, dcl]
    unfold dcr
    by_cases h : y (2 + 10 * b + 8) ≤ nI a
    · rw [if_pos h, if_pos h, tup_i]
      exact c1_rm2 hN d (b + 1) f S y hy y0 (by omega) (by omega)
    · rw [if_neg h, if_neg h, nn_lt1, teu_t, hy, c1_rm2 hN d (b + 1) f _ (tup y (2 + 10 * b + 8) (y (2 + 10 * b + 8) - nI 1)) (tst_s _ _ _) (by rw [tup_n _ _ (by omega)]; exact y0) (by omega) (by omega), tst_t]
      rfl
theorem c1_rm1 {a N : Nat} (hN : N < 9) : ∀ (d m fuel : Nat) (S : teS) (x : tePg), S 0 = shr a m x → x 0 = nI N → a ≤ m → m + d = N → d < fuel → fX1_remove_17 0 (nI a) fuel S (nI m) = some (tst S 0 (dcl a N 0 (shr a N x)))
  | 0, m, fuel, S, x, hy, x0, ham, hm, hf => by
    obtain ⟨f, rfl⟩ : ∃ f, fuel = f + 1 := ⟨fuel - 1, by omega⟩
    have y0 : shr a m x 0 = nI N := by unfold shr; rw [if_neg (by omega)]; exact x0
    obtain rfl : m = N := by omega
    unfold fX1_remove_17
    rw [hy, y0, if_pos (by rw [nn_le (by omega) (by omega)]; omega), li0, c1_rm2 (by omega) m 0 2000 S (shr a m x) hy y0 (by omega) (by omega)]
  | d + 1, m, fuel, S, x, hy, x0, ham, hm, hf => by
    obtain ⟨f, rfl⟩ : ∃ f, fuel = f + 1 := ⟨fuel - 1, by omega⟩
    have y0 : shr a m x 0 = nI N := by unfold shr; rw [if_neg (by omega)]; exact x0
    unfold fX1_remove_17
    rw [hy, y0, if_neg (by rw [nn_le (by omega) (by omega)]; omega), li1, nn_add, nn_in (by omega) (by decide), nn_in (by omega) (by decide), nn_tn (by omega), nn_tn (by omega), x3_copy (Or.inr (by omega)), nn_bd1, hy, shr_s ham, c1_rm1 hN d (m + 1) f _ x (tst_s _ _ _) x0 (by omega) (by omega) (by omega), tst_t]
theorem lv_shr {n a : Nat} (ha : a < n) {x : tePg} (x0 : x 0 = nI (n - 1)) : LV n a x (dcl a (n - 1) 0 (shr a (n - 1) x)) := by
  refine ⟨?_, ?_, fun c hc o ho => ?_⟩
  · rw [dcl_n _ _ _ _ _ (fun c _ => by omega)]
    unfold shr
    rw [if_neg (by omega)]; exact x0
  · rw [dcl_n _ _ _ _ _ (fun c _ => by omega)]
    unfold shr
    rw [if_neg (by omega)]
  · have hsh : shr a (n - 1) x (2 + 10 * c + o) = x (2 + 10 * sk a c + o) := by
      unfold shr sk
      by_cases h : c < a
      · rw [if_neg (by omega), if_pos h]
      · rw [if_pos (by omega), if_neg h]
        congr 1
        omega
    by_cases h8 : o = 8
    · subst h8
      rw [dcl_8 _ _ _ _ _ (by omega) (by omega), if_pos rfl, hsh]
    · rw [dcl_n _ _ _ _ _ (fun e _ => by omega), if_neg h8, hsh]
theorem r1_rm {n M a : Nat} {v : tePg} {S : teS} (hW : WF n M v) (hE : PE n (S 0) v) (ha : a < n) : ∃ p x, fX1_remove 0 (nI a) S = some (tst S 0 p) ∧ PE n (tup x 0 (nI n)) (mPart v a) ∧ LV n a x p := by
  have h9 := hW.1
  obtain ⟨p1, h1, h2⟩ := r1_sep hW hE ha
  have q0 : p1 0 = nI n := h2.1.trans (wf_mp hW ha).2.2.1
  have x0 : tup p1 0 (nI (n - 1)) 0 = nI (n - 1) := tup_s _ _ _
  have hr := c1_rm1 (a := a) (N := n - 1) (by omega) (n - 1 - a) a 2000 (tst S 0 (tup p1 0 (nI (n - 1)))) (tup p1 0 (nI (n - 1))) (by
    rw [tst_s]
    funext i
    unfold shr
    rw [if_neg (by omega)]) x0 (by omega) (by omega) (by omega)
  refine ⟨_, tup p1 0 (nI (n - 1)), ?_, ?_, lv_shr ha x0⟩
  · unfold fX1_remove
    rw [h1, nn_bd1, nn_lt1, teu_t, tst_s, tst_t, q0, li1, nn_sub (by omega), hr, tst_t]
  · rw [tup_tup, ← q0, tup_i]; exact h2
/-- the reference -/
def shv (A m : Nat) (x : tePg) : tePg := fun i => if A ≤ i ∧ i < m then x (i + 10) else x i
theorem shv_s {A m : Nat} (h : A ≤ m) (x : tePg) : tup (shv A m x) m (shv A m x (m + 10)) = shv A (m + 1) x := by
  funext i
  show (if i = m then shv A m x (m + 10) else shv A m x i) = (if A ≤ i ∧ i < m + 1 then x (i + 10) else x i)
  unfold shv
  by_cases h1 : i = m
  · rw [if_pos h1, if_neg (show ¬ (A ≤ m + 10 ∧ m + 10 < m) by omega), if_pos (show A ≤ i ∧ i < m + 1 by omega), h1]
  · rw [if_neg h1]
    by_cases h2 : A ≤ i ∧ i < m
    · rw [if_pos h2, if_pos (show A ≤ i ∧ i < m + 1 by omega)]
    · rw [if_neg h2, if_neg (show ¬ (A ≤ i ∧ i < m + 1) by omega)]
theorem lv_shv {n a : Nat} (ha : a < n) (h9 : n ≤ 9) {x : tePg} : LV n a x (dcl a (n - 1) 0 (tup (shv (2 + 10 * a) 82 x) 0 (nI (n - 1)))) := by
  refine ⟨?_, ?_, fun c hc o ho => ?_⟩
  · rw [dcl_n _ _ _ _ _ (fun c _ => by omega), tup_s]
  · rw [dcl_n _ _ _ _ _ (fun c _ => by omega), tup_n _ _ (by decide)]
    unfold shv
    rw [if_neg (by omega)]
  · have hsh : tup (shv (2 + 10 * a) 82 x) 0 (nI (n - 1)) (2 + 10 * c + o) = x (2 + 10 * sk a c + o) := by
      rw [tup_n _ _ (by omega)]
      unfold shv sk
      by_cases h : c < a
      · rw [if_neg (by omega), if_pos h]
      · rw [if_pos (by omega), if_neg h]
        congr 1
        omega
    by_cases h8 : o = 8
    · subst h8
      rw [dcl_8 _ _ _ _ _ (by omega) (by omega), if_pos rfl, hsh]
    · rw [dcl_n _ _ _ _ _ (fun e _ => by omega), if_neg h8, hsh]
theorem LV_0 {n a : Nat} {x p : tePg} (z : Int32) (h : LV n a x p) : LV n a (tup x 0 z) p := by
  refine ⟨h.1, by rw [tup_n _ _ (by decide)]; exact h.2.1, fun c hc o ho => ?_⟩
  rw [tup_n _ _ (by omega), tup_n _ _ (by omega)]
  exact h.2.2 c hc o ho
