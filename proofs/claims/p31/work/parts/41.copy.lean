/-! COPIES of pages; the history of both sides -/
def cprow (p : tePg) (m : Nat) (q : tePg) (m2 : Nat) : tePg := fun i => if 2 + 10 * m ≤ i ∧ i < 12 + 10 * m then q (2 + 10 * m2 + (i - (2 + 10 * m))) else p i
def cpr (m d : Nat) (p q : tePg) : tePg := fun i => if 2 + 10 * m ≤ i ∧ i < 2 + 10 * (m + d) then q i else p i
theorem x3_rd {k0 k1 m0 m1 : Nat} (h : k0 ≠ k1 ∨ m0 ≠ m1) (S : teS) {o o2 : Nat} (ho : o < 10) (h2 : o2 < 10) (x : Int32) : teu S k0 (2 + 10 * m0 + o) x k1 (2 + 10 * m1 + o2) = S k1 (2 + 10 * m1 + o2) := teu_n S x (fun hk => by
  rcases h with h | h
  · exact absurd hk.symm h
  · omega)
theorem x3_cp {k0 k1 m0 m1 : Nat} (h : k0 ≠ k1 ∨ m0 ≠ m1) (S : teS) {o2 : Nat} (h4 : 4 ≤ o2) (h2 : o2 < 10) : tecp S k0 m0 k1 m1 k1 (2 + 10 * m1 + o2) = S k1 (2 + 10 * m1 + o2) := by
  unfold tecp
  rw [if_neg]
  rintro ⟨g1, g2, g3⟩
  rcases h with h | h
  · exact h g1.symm
  · omega
theorem x3_copy {k0 k1 m0 m1 : Nat} (h : k0 ≠ k1 ∨ m0 ≠ m1) (S : teS) : fX3_copyFrom k0 m0 k1 m1 S = some (tst S k0 (cprow (S k0) m0 (S k1) m1)) := by
  unfold fX3_copyFrom
  simp only [nn_lt1]
  simp (disch := omega) only [x3_rd h, x3_cp h]
  refine congrArg some ?_
  funext a b
  by_cases ha : a = k0
  · subst ha
    rw [tst_s]
    unfold cprow
    by_cases hb : 2 + 10 * m0 ≤ b ∧ b < 12 + 10 * m0
    · rw [if_pos hb]
      obtain ⟨o, rfl⟩ : ∃ o, b = 2 + 10 * m0 + o := ⟨b - (2 + 10 * m0), by omega⟩
      rw [show 2 + 10 * m0 + o - (2 + 10 * m0) = o by omega]
      rcases (show o < 4 ∨ o = 4 ∨ o = 5 ∨ o = 6 ∨ o = 7 ∨ o = 8 ∨ o = 9 by omega) with h1 | rfl | rfl | rfl | rfl | rfl | rfl
      · rw [teu_n _ _ (fun _ => by omega), teu_n _ _ (fun _ => by omega), teu_n _ _ (fun _ => by omega), teu_n _ _ (fun _ => by omega), teu_n _ _ (fun _ => by omega), teu_n _ _ (fun _ => by omega)]
        unfold tecp
        rw [if_pos ⟨rfl, by omega, by omega⟩, show 2 + 10 * m0 + o - (2 + 10 * m0) = o by omega]
      · rw [teu_n _ _ (fun _ => by omega), teu_n _ _ (fun _ => by omega), teu_n _ _ (fun _ => by omega), teu_n _ _ (fun _ => by omega), teu_n _ _ (fun _ => by omega), teu_s]
      · rw [teu_n _ _ (fun _ => by omega), teu_n _ _ (fun _ => by omega), teu_n _ _ (fun _ => by omega), teu_n _ _ (fun _ => by omega), teu_s]
      · rw [teu_n _ _ (fun _ => by omega), teu_n _ _ (fun _ => by omega), teu_n _ _ (fun _ => by omega), teu_s]
      · rw [teu_n _ _ (fun _ => by omega), teu_n _ _ (fun _ => by omega), teu_s]
      · rw [teu_n _ _ (fun _ => by omega), teu_s]
      · rw [teu_s]
    · rw [if_neg hb, teu_n _ _ (fun _ => by omega), teu_n _ _ (fun _ => by omega), teu_n _ _ (fun _ => by omega), teu_n _ _ (fun _ => by omega), teu_n _ _ (fun _ => by omega), teu_n _ _ (fun _ => by omega)]
      unfold tecp
      rw [if_neg (fun z => hb ⟨z.2.1, by omega⟩)]
  · have h1 : ∀ (T : teS) (j : Nat) (x : Int32), teu T k0 j x a b = T a b := fun T j x => teu_n T x (fun z => absurd z ha)
    rw [tst_n _ _ ha, h1, h1, h1, h1, h1, h1]
    unfold tecp
    rw [if_neg (fun z => ha z.1)]
theorem cpr_0 (m : Nat) (p q : tePg) : cpr m 0 p q = p := by
  funext i
  unfold cpr
  rw [if_neg (by omega)]
theorem cpr_s (m d : Nat) (p q : tePg) : cpr (m + 1) d (cprow p m q m) q = cpr m (d + 1) p q := by
  funext i
  unfold cpr cprow
  by_cases h1 : 2 + 10 * (m + 1) ≤ i ∧ i < 2 + 10 * (m + 1 + d)
  · rw [if_pos h1, if_pos ⟨by omega, by omega⟩]
  · rw [if_neg h1]
    by_cases h2 : 2 + 10 * m ≤ i ∧ i < 12 + 10 * m
    · rw [if_pos h2, if_pos ⟨by omega, by omega⟩, show 2 + 10 * m + (i - (2 + 10 * m)) = i by omega]
    · rw [if_neg h2, if_neg (by omega)]
theorem c1_cp {k0 k1 n : Nat} (hk : k0 ≠ k1) (h9 : n ≤ 9) : ∀ (d m fuel : Nat) (S : teS), S k1 0 = nI n → m + d = n → d < fuel → fX1_copyFrom_2 k0 k1 fuel S (nI m) = some (tst S k0 (tup (tup (cpr m d (S k0) (S k1)) 0 (S k1 0)) 1 (S k1 1)))
  | 0, m, fuel, S, e0, hm, hf => by
    obtain ⟨f, rfl⟩ : ∃ f, fuel = f + 1 := ⟨fuel - 1, by omega⟩
    unfold fX1_copyFrom_2
    rw [e0, if_pos (by rw [nn_le (by omega) (by omega)]; omega), nn_lt1, nn_lt1, teu_t, teu_t, tst_s, tst_t, tst_n _ _ (Ne.symm hk), cpr_0]
  | d + 1, m, fuel, S, e0, hm, hf => by
    obtain ⟨f, rfl⟩ : ∃ f, fuel = f + 1 := ⟨fuel - 1, by omega⟩
    unfold fX1_copyFrom_2
    rw [e0, if_neg (by rw [nn_le (by omega) (by omega)]; omega), nn_in (by omega) (by decide), nn_tn (by omega), x3_copy (Or.inl hk), nn_bd1, li1, nn_add, c1_cp hk h9 d (m + 1) f _ (by rw [tst_n _ _ (Ne.symm hk)]; exact e0) (by omega) (by omega), tst_s, tst_t, tst_n _ _ (Ne.symm hk), cpr_s, e0]
theorem r1_copy {n M k0 k1 : Nat} {v : tePg} {S : teS} (hk : k0 ≠ k1) (hW : WF n M v) (hE : PE n (S k1) v) : ∃ p, fX1_copyFrom k0 k1 S = some (tst S k0 p) ∧ PE n p v := by
  have h9 := hW.1
  refine ⟨_, by unfold fX1_copyFrom; rw [li0]; exact c1_cp hk h9 n 0 2000 S (hE.1.trans hW.2.2.1) (by omega) (by omega), ?_⟩
  have e : ∀ a, a < n → ∀ o, o < 10 → tup (tup (cpr 0 n (S k0) (S k1)) 0 (S k1 0)) 1 (S k1 1) (2 + 10 * a + o) = S k1 (2 + 10 * a + o) := fun a ha o ho => by
    rw [tup_n _ _ (by omega), tup_n _ _ (by omega)]
    unfold cpr
    rw [if_pos ⟨by omega, by omega⟩]
  refine ⟨by rw [tup_n _ _ (by decide), tup_s]; exact hE.1, by rw [tup_s]; exact hE.2.1, fun a ha => ⟨fun o ho => by rw [e a ha o (by omega)]; exact (hE.2.2 a ha).1 o ho, fun hn => by rw [e a ha 9 (by decide)]; exact (hE.2.2 a ha).2 hn⟩⟩
/-- the reference copies 92 numbers -/
def cpg (p q : tePg) (x y m : Nat) : tePg := fun i => if y ≤ i ∧ i < y + m then q (x + (i - y)) else p i
theorem cpg_0 (p q : tePg) (x y : Nat) : cpg p q x y 0 = p := by
  funext i
  unfold cpg
  rw [if_neg (by omega)]
theorem cpg_s (p q : tePg) (x y m : Nat) : tup (cpg p q x y m) (y + m) (q (x + m)) = cpg p q x y (m + 1) := by
  funext i
  unfold cpg tup
  by_cases h : i = y + m
  · rw [if_pos h, if_pos ⟨by omega, by omega⟩, h, show y + m - y = m by omega]
  · rw [if_neg h]
    show (if y ≤ i ∧ i < y + m then q (x + (i - y)) else p i) = _
    by_cases h2 : y ≤ i ∧ i < y + m
    · rw [if_pos h2, if_pos ⟨by omega, by omega⟩]
    · rw [if_neg h2, if_neg (by omega)]
theorem wf_cong {n M : Nat} {u w : tePg} (h : ∀ i, i < 92 → w i = u i) (hW : WF n M u) : WF n M w := by
  have h9 := hW.1
  refine ⟨h9, hW.2.1, by rw [h 0 (by decide)]; exact hW.2.2.1, fun a ha => ?_⟩
  obtain ⟨g1, g2, g3, g4, g5⟩ := hW.2.2.2 a ha
  refine ⟨fun l hl => by rw [h _ (by omega)]; exact g1 l hl, by rw [h _ (by omega)]; exact g2, by rw [h _ (by omega)]; exact g3, by rw [h _ (by omega)]; exact g4, ?_⟩
  rw [h _ (by omega), h _ (by omega)]
  rcases g5 with g5 | ⟨b, hb, hbc, k1, k2, k3⟩
  · exact Or.inl g5
  · exact Or.inr ⟨b, hb, hbc, k1, by rw [h _ (by omega)]; exact k2, by rw [h _ (by omega)]; exact k3⟩
theorem PE_cong {n : Nat} {p u w : tePg} (h9 : n ≤ 9) (h : ∀ i, i < 92 → w i = u i) (hE : PE n p u) : PE n p w := by
  refine ⟨by rw [h 0 (by decide)]; exact hE.1, by rw [h 1 (by decide)]; exact hE.2.1, fun a ha => ⟨fun o ho => by rw [h _ (by omega)]; exact (hE.2.2 a ha).1 o ho, fun hn => ?_⟩⟩
  rw [h _ (by omega)] at hn
  rw [h _ (by omega)]
  exact (hE.2.2 a ha).2 hn
/-- a page of the class and a page of the reference show the same state -/
def HP (M : Nat) (p u : tePg) : Prop := ∃ m, WF m M u ∧ PE m p u
theorem HP_cong {M : Nat} {p u w : tePg} (h : ∀ i, i < 92 → w i = u i) (hH : HP M p u) : HP M p w := by
  obtain ⟨m, h1, h2⟩ := hH
  exact ⟨m, wf_cong h h1, PE_cong h1.1 h h2⟩
theorem HP_le {M N : Nat} {p u : tePg} (hH : HP M p u) (h : M ≤ N) (hN : N < 100000) : HP N p u := by
  obtain ⟨m, h1, h2⟩ := hH
  exact ⟨m, wf_le h1 h hN, h2⟩
def slc (D : tePg) (x : Nat) : tePg := fun i => D (x + i)
theorem li14 : (14 : Int32) = nI 14 := rfl
theorem li1196 : (1196 : Int32) = nI 1196 := rfl
/-- the class remembers -/
theorem r2_rem1 {n M ol ct : Nat} {v : tePg} {S : teS} (hW : WF n M v) (hE : PE n (S 0) v) (ho : ol < 14) (hc : ct < 14) (e0 : S 363 0 = nI ol) (e1 : S 363 1 = nI ct) : ∃ S1 p, fX2_remember_32 0 S = some S1 ∧ S1 363 = tup (S 363) 1 (nI (ct + 1)) ∧ PE n p v ∧ ∀ a, a ≠ 363 → S1 a = if a = 2 + (ol + ct) % 14 then p else S a := by
  unfold fX2_remember_32
  rw [e0, e1, li14, nn_add, nn_rem (by omega) (by decide) (by decide), nn_in (by omega) (by decide), nn_tn (by omega)]
  obtain ⟨p, h1, h2⟩ := r1_copy (k0 := 2 + (ol + ct) % 14) (k1 := 0) (by omega) hW hE
  rw [h1, nn_bd1, nn_lt1, teu_t, tst_n _ _ (show 363 ≠ 2 + (ol + ct) % 14 by omega), e1, li1, nn_add]
  refine ⟨_, p, rfl, tst_s _ _ _, h2, fun a ha => ?_⟩
  rw [tst_n _ _ ha]
  by_cases h : a = 2 + (ol + ct) % 14
  · rw [h, tst_s, if_pos rfl]
  · rw [tst_n _ _ h, if_neg h]
theorem r2_rem {n M ol ct : Nat} {v : tePg} {S : teS} (hW : WF n M v) (hE : PE n (S 0) v) (ho : ol < 14) (hc : ct ≤ 14) (e0 : S 363 0 = nI ol) (e1 : S 363 1 = nI ct) : ∃ S1 p, fX2_remember 0 S = some S1 ∧ S1 363 0 = nI (if ct < 14 then ol else (ol + 1) % 14) ∧ S1 363 1 = nI (if ct < 14 then ct + 1 else 14) ∧ PE n p v ∧ ∀ a, a ≠ 363 → S1 a = if a = 2 + (ol + ct) % 14 then p else S a := by
  unfold fX2_remember
  rw [e1, li14, lt_if (by omega) (by decide)]
  by_cases h : ct < 14
  · rw [if_pos h, if_pos h, if_pos h]
    obtain ⟨S1, p, h1, h2, h3, h4⟩ := r2_rem1 hW hE ho h e0 e1
    refine ⟨S1, p, h1, ?_, ?_, h3, h4⟩
    · rw [h2, tup_n _ _ (by decide), e0]
    · rw [h2, tup_s]
  · rw [if_neg h, if_neg h, if_neg h]
    obtain rfl : ct = 14 := by omega
    rw [e0, li1, nn_add, nn_rem (by omega) (by decide) (by decide), nn_lt1, nn_lt1, teu_t, teu_t, tst_s, tst_t, tup_n _ _ (by decide), e1, nn_sub (by decide)]
    obtain ⟨S1, p, h1, h2, h3, h4⟩ := r2_rem1 (ol := (ol + 1) % 14) (ct := 13) (S := tst S 363 (tup (tup (S 363) 0 (nI ((ol + 1) % 14))) 1 (nI (14 - 1)))) hW (by rw [tst_n _ _ (by decide)]; exact hE) (by omega) (by decide) (by rw [tst_s, tup_n _ _ (by decide), tup_s]) (by rw [tst_s, tup_s])
    refine ⟨S1, p, h1, ?_, ?_, h3, fun a ha => ?_⟩
    · rw [h2, tup_n _ _ (by decide), tst_s, tup_n _ _ (by decide), tup_s]
    · rw [h2, tup_s]
    · rw [h4 a ha, tst_n _ _ ha, show ((ol + 1) % 14 + 13) % 14 = (ol + 14) % 14 by omega]
/-- the reference notes -/
def shf (D : tePg) (m : Nat) : tePg := fun i => if i < m then D (i + 92) else D i
theorem shf_0 (D : tePg) : shf D 0 = D := by
  funext i
  unfold shf
  rw [if_neg (by omega)]
theorem shf_s (D : tePg) (m : Nat) : tup (shf D m) m (shf D m (m + 92)) = shf D (m + 1) := by
  funext i
  unfold shf tup
  by_cases h : i = m
  · rw [if_pos h, if_neg (show ¬ m + 92 < m by omega), if_pos (show i < m + 1 by omega), h]
  · rw [if_neg h]
    show (if i < m then D (i + 92) else D i) = _
    by_cases h2 : i < m
    · rw [if_pos h2, if_pos (show i < m + 1 by omega)]
    · rw [if_neg h2, if_neg (show ¬ i < m + 1 by omega)]
