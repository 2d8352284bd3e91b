/-! CHANGES of pairs: the ideal page behind them, what both sides do -/
def mPart (v : tePg) (a : Nat) : tePg := if sFree v a = true then v else tup (tup (tup (tup v (2 + 10 * a + 8) (-9999)) (2 + 10 * a + 9) 0) (2 + 10 * pp v a + 8) (-9999)) (2 + 10 * pp v a + 9) 0
def sUni (v : tePg) (a b : Nat) : tePg := tup (tup v (2 + 10 * a + 8) (nI b)) (2 + 10 * b + 8) (nI a)
def mUni (v : tePg) (a b : Nat) : tePg := sUni (mPart (mPart v a) b) a b
def mMend (v : tePg) (a : Nat) : tePg := if sFree v a || sFit v a (pp v a) then v else mPart v a
theorem sFree_t {v : tePg} {a : Nat} (h : v (2 + 10 * a + 8) = -9999) : sFree v a = true := decide_eq_true h
theorem sFree_f {v : tePg} {a b : Nat} (h : v (2 + 10 * a + 8) = nI b) (hb : b < 9) : sFree v a = false := by
  unfold sFree
  rw [h]
  exact decide_eq_false (by rw [nn_NI (by omega)]; exact not_false)
theorem pp_b {v : tePg} {a b : Nat} (h : v (2 + 10 * a + 8) = nI b) (hb : b < 9) : pp v a = b := by unfold pp; rw [h, nn_tn (by omega)]
theorem mp_free {v : tePg} {a : Nat} (h : sFree v a = true) : mPart v a = v := if_pos h
theorem mp_eq {v : tePg} {a d : Nat} (h : v (2 + 10 * a + 8) = nI d) (hd : d < 9) : mPart v a = tup (tup (tup (tup v (2 + 10 * a + 8) (-9999)) (2 + 10 * a + 9) 0) (2 + 10 * d + 8) (-9999)) (2 + 10 * d + 9) 0 := by
  unfold mPart
  rw [sFree_f h hd, if_neg (by decide), pp_b h hd]
theorem mp_o (v : tePg) (a : Nat) {i : Nat} (h : ∀ c, i ≠ 2 + 10 * c + 8 ∧ i ≠ 2 + 10 * c + 9) : mPart v a i = v i := by
  unfold mPart
  split
  · rfl
  · rw [tup_n _ _ (h _).2, tup_n _ _ (h _).1, tup_n _ _ (h _).2, tup_n _ _ (h _).1]
theorem mp_l (v : tePg) (a c : Nat) {o : Nat} (h : o < 8) : mPart v a (2 + 10 * c + o) = v (2 + 10 * c + o) := mp_o v a (fun d => ⟨by omega, by omega⟩)
theorem mp_8a {v : tePg} {a : Nat} : mPart v a (2 + 10 * a + 8) = -9999 := by
  unfold mPart
  split
  · rename_i h
    exact of_decide_eq_true h
  · rw [tup_n _ _ (by omega)]
    by_cases h : pp v a = a
    · rw [h, tup_s]
    · rw [tup_n _ _ (by omega), tup_n _ _ (by omega), tup_s]
theorem mp_8d {v : tePg} {a d : Nat} (h : v (2 + 10 * a + 8) = nI d) (hd : d < 9) : mPart v a (2 + 10 * d + 8) = -9999 := by
  rw [mp_eq h hd, tup_n _ _ (by omega), tup_s]
theorem mp_9d {v : tePg} {a d : Nat} (h : v (2 + 10 * a + 8) = nI d) (hd : d < 9) : mPart v a (2 + 10 * d + 9) = 0 := by
  rw [mp_eq h hd, tup_s]
theorem mp_9a {v : tePg} {a d : Nat} (h : v (2 + 10 * a + 8) = nI d) (hd : d < 9) : mPart v a (2 + 10 * a + 9) = 0 := by
  rw [mp_eq h hd]
  by_cases h2 : d = a
  · rw [h2, tup_s]
  · rw [tup_n _ _ (by omega), tup_n _ _ (by omega), tup_s]
theorem mp_89 {v : tePg} {a d c o : Nat} (h : v (2 + 10 * a + 8) = nI d) (hd : d < 9) (ho : o < 10) (h1 : c ≠ a) (h2 : c ≠ d) : mPart v a (2 + 10 * c + o) = v (2 + 10 * c + o) := by
  rw [mp_eq h hd, tup_n _ _ (by omega), tup_n _ _ (by omega), tup_n _ _ (by omega), tup_n _ _ (by omega)]
theorem wf_mp {n M a : Nat} {v : tePg} (hW : WF n M v) (ha : a < n) : WF n M (mPart v a) := by
  rcases wf_par hW ha with ⟨h, -⟩ | ⟨d, hd, hne, h, hda, h9a⟩
  · rw [mp_free (sFree_t h)]; exact hW
  · have h9 := hW.1
    refine ⟨h9, hW.2.1, (mp_o v a (fun c => ⟨by omega, by omega⟩)).trans hW.2.2.1, fun c hc => ?_⟩
    obtain ⟨g1, g2, g3, g4, g5⟩ := hW.2.2.2 c hc
    refine ⟨fun l hl => by rw [mp_l v a c (by omega)]; exact g1 l hl, by rw [mp_l v a c (by decide)]; exact g2, by rw [mp_l v a c (by decide)]; exact g3, by rw [mp_l v a c (by decide)]; exact g4, ?_⟩
    by_cases h1 : c = a
    · subst h1
      exact Or.inl ⟨mp_8a, mp_9a h (by omega)⟩
    · by_cases h2 : c = d
      · subst h2
        exact Or.inl ⟨mp_8d h (by omega), mp_9d h (by omega)⟩
      · rw [mp_89 h (by omega) (by decide) h1 h2, mp_89 h (by omega) (by decide) h1 h2]
        rcases g5 with g5 | ⟨b, hb, hbc, k1, k2, k3⟩
        · exact Or.inl g5
        · have n1 : b ≠ a := by
            rintro rfl
            rw [h, nn_eq (by omega) (by omega)] at k2
            exact h2 k2.symm
          have n2 : b ≠ d := by
            rintro rfl
            rw [hda, nn_eq (by omega) (by omega)] at k2
            exact h1 k2.symm
          refine Or.inr ⟨b, hb, hbc, k1, ?_, ?_⟩
          · rw [mp_89 h (by omega) (by decide) n1 n2]; exact k2
          · rw [mp_89 h (by omega) (by decide) n1 n2]; exact k3
theorem r1_sep {n M k a : Nat} {v : tePg} {S : teS} (hW : WF n M v) (hE : PE n (S k) v) (ha : a < n) : ∃ p, fX1_separate k (nI a) S = some (tst S k p) ∧ PE n p (mPart v a) := by
  have h9 := hW.1
  have e8 := (hE.2.2 a ha).1 8 (by decide)
  unfold fX1_separate
  rw [nn_in (by omega) (by decide), nn_tn (by omega), e8]
  rcases wf_par hW ha with ⟨h, -⟩ | ⟨d, hd, hne, h, hda, h9a⟩
  · rw [h, r1_hasN, nn_bd1, if_pos rfl]
    refine ⟨S k, by rw [tst_i], ?_⟩
    rw [mp_free (sFree_t h)]
    exact hE
  · rw [h, r1_has hW hE hd, nn_bd1, if_neg (by decide), nn_lt1, nn_in (by omega) (by decide), nn_lt1, nn_tn (by omega), teu_t, teu_t, tst_s, tst_t]
    refine ⟨_, rfl, ?_, ?_, fun c hc => ⟨fun o ho => ?_, fun hn => ?_⟩⟩
    · rw [mp_o v a (fun c => ⟨by omega, by omega⟩), tup_n _ _ (by omega), tup_n _ _ (by omega)]; exact hE.1
    · rw [mp_o v a (fun c => ⟨by omega, by omega⟩), tup_n _ _ (by omega), tup_n _ _ (by omega)]; exact hE.2.1
    · rcases Nat.lt_or_ge o 8 with h8 | h8
      · rw [mp_l v a c h8, tup_n _ _ (by omega), tup_n _ _ (by omega)]; exact (hE.2.2 c hc).1 o ho
      · obtain rfl : o = 8 := by omega
        by_cases h1 : c = a
        · subst h1
          rw [mp_8a, tup_n _ _ (by omega), tup_s]
        · by_cases h2 : c = d
          · subst h2
            rw [mp_8d h (by omega), tup_s]
          · rw [mp_89 h (by omega) (by decide) h1 h2, tup_n _ _ (by omega), tup_n _ _ (by omega)]; exact (hE.2.2 c hc).1 8 ho
    · have h1 : c ≠ a := by
        rintro rfl
        exact hn mp_8a
      have h2 : c ≠ d := by
        rintro rfl
        exact hn (mp_8d h (by omega))
      rw [mp_89 h (by omega) (by decide) h1 h2] at hn ⊢
      rw [tup_n _ _ (by omega), tup_n _ _ (by omega)]
      exact (hE.2.2 c hc).2 hn
/-- two free members become partners -/
theorem wf_uni {n M a b : Nat} {v : tePg} (hW : WF n M v) (ha : a < n) (hb : b < n) (hab : a ≠ b) (fa : v (2 + 10 * a + 8) = -9999) (fb : v (2 + 10 * b + 8) = -9999) : WF n M (sUni v a b) := by
  have h9 := hW.1
  have za : v (2 + 10 * a + 9) = 0 := by
    rcases wf_par hW ha with h | ⟨d, hd, -, h, -⟩
    · exact h.2
    · rw [fa] at h; exact absurd h.symm (by rw [nn_NI (by omega)]; exact not_false)
  have zb : v (2 + 10 * b + 9) = 0 := by
    rcases wf_par hW hb with h | ⟨d, hd, -, h, -⟩
    · exact h.2
    · rw [fb] at h; exact absurd h.symm (by rw [nn_NI (by omega)]; exact not_false)
  have e : ∀ i, (∀ c, i ≠ 2 + 10 * c + 8) → sUni v a b i = v i := fun i h => by unfold sUni; rw [tup_n _ _ (h _), tup_n _ _ (h _)]
  have ea : sUni v a b (2 + 10 * a + 8) = nI b := by unfold sUni; rw [tup_n _ _ (by omega), tup_s]
  have eb : sUni v a b (2 + 10 * b + 8) = nI a := by unfold sUni; rw [tup_s]
  have ec : ∀ c, c ≠ a → c ≠ b → sUni v a b (2 + 10 * c + 8) = v (2 + 10 * c + 8) := fun c h1 h2 => by unfold sUni; rw [tup_n _ _ (by omega), tup_n _ _ (by omega)]
  refine ⟨h9, hW.2.1, (e _ (fun c => by omega)).trans hW.2.2.1, fun c hc => ?_⟩
  obtain ⟨g1, g2, g3, g4, g5⟩ := hW.2.2.2 c hc
  refine ⟨fun l hl => by rw [e _ (fun c => by omega)]; exact g1 l hl, by rw [e _ (fun c => by omega)]; exact g2, by rw [e _ (fun c => by omega)]; exact g3, by rw [e _ (fun c => by omega)]; exact g4, ?_⟩
  by_cases h1 : c = a
  · subst h1
    exact Or.inr ⟨b, hb, fun h => hab h.symm, ea, eb, by rw [e _ (fun c => by omega), e _ (fun c => by omega), za, zb]⟩
  · by_cases h2 : c = b
    · subst h2
      exact Or.inr ⟨a, ha, hab, eb, ea, by rw [e _ (fun c => by omega), e _ (fun c => by omega), za, zb]⟩
    · rw [ec c h1 h2, e (2 + 10 * c + 9) (fun c => by omega)]
      rcases g5 with g5 | ⟨d, hd, hdc, k1, k2, k3⟩
      · exact Or.inl g5
      · have n1 : d ≠ a := by
          rintro rfl
          rw [fa] at k2
          exact absurd k2.symm (by rw [nn_NI (by omega)]; exact not_false)
        have n2 : d ≠ b := by
          rintro rfl
          rw [fb] at k2
          exact absurd k2.symm (by rw [nn_NI (by omega)]; exact not_false)
        exact Or.inr ⟨d, hd, hdc, k1, by rw [ec d n1 n2]; exact k2, by rw [e _ (fun c => by omega)]; exact k3⟩
theorem r1_uni {n M k a b : Nat} {v : tePg} {S : teS} (hW : WF n M v) (hE : PE n (S k) v) (ha : a < n) (hb : b < n) (hab : a ≠ b) (fa : v (2 + 10 * a + 8) = -9999) (fb : v (2 + 10 * b + 8) = -9999) : ∃ p, fX1_unite k (nI a) (nI b) S = some (tst S k p) ∧ PE n p (sUni v a b) := by
  have h9 := hW.1
  have za : v (2 + 10 * a + 9) = 0 := by
    rcases wf_par hW ha with h | ⟨d, hd, -, h, -⟩
    · exact h.2
    · rw [fa] at h; exact absurd h.symm (by rw [nn_NI (by omega)]; exact not_false)
  have zb : v (2 + 10 * b + 9) = 0 := by
    rcases wf_par hW hb with h | ⟨d, hd, -, h, -⟩
    · exact h.2
    · rw [fb] at h; exact absurd h.symm (by rw [nn_NI (by omega)]; exact not_false)
  unfold fX1_unite
  simp (disch := omega) only [nn_in, nn_tn, nn_lt1]
  rw [teu_t, teu_t, teu_t, teu_t, tst_s, tst_t, tst_s, tst_t, tst_s, tst_t]
  refine ⟨_, rfl, ?_, ?_, fun c hc => ⟨fun o ho => ?_, fun hn => ?_⟩⟩
  · unfold sUni
    rw [tup_n _ _ (by omega), tup_n _ _ (by omega), tup_n _ _ (by omega), tup_n _ _ (by omega), tup_n _ _ (by omega), tup_n _ _ (by omega)]; exact hE.1
  · unfold sUni
    rw [tup_n _ _ (by omega), tup_n _ _ (by omega), tup_n _ _ (by omega), tup_n _ _ (by omega), tup_n _ _ (by omega), tup_n _ _ (by omega)]; exact hE.2.1
  · have hc2 := (hE.2.2 c hc).1 o ho
    unfold sUni
    rw [tup_n _ _ (by omega), tup_n _ _ (by omega)]
    unfold tup
    split
    · rfl
    · split
      · rfl
      · exact hc2
  · unfold sUni at hn ⊢
    by_cases h1 : c = b
    · subst h1
      rw [tup_s, tup_n _ _ (by omega), tup_n _ _ (by omega)]
      exact zb.symm
    · by_cases h2 : c = a
      · subst h2
        rw [tup_n _ _ (by omega), tup_s, tup_n _ _ (by omega), tup_n _ _ (by omega)]
        exact za.symm
      · rw [tup_n _ _ (by omega), tup_n _ _ (by omega)] at hn
        rw [tup_n _ _ (by omega), tup_n _ _ (by omega), tup_n _ _ (by omega), tup_n _ _ (by omega), tup_n _ _ (by omega), tup_n _ _ (by omega)]
        exact (hE.2.2 c hc).2 hn
theorem r1_mend {n M k a : Nat} {v : tePg} {S : teS} (hW : WF n M v) (hE : PE n (S k) v) (ha : a < n) : ∃ p, fX1_separateIfUnfit k (nI a) S = some (tst S k p) ∧ PE n p (mMend v a) := by
  have h9 := hW.1
  have e8 := (hE.2.2 a ha).1 8 (by decide)
  unfold fX1_separateIfUnfit mMend
  rw [nn_in (by omega) (by decide), nn_tn (by omega), e8]
  rcases wf_par hW ha with ⟨h, -⟩ | ⟨d, hd, hne, h, hda, h9a⟩
  · rw [h, r1_hasN, nn_bd1, if_pos rfl, sFree_t h, Bool.true_or, if_pos rfl]
    exact ⟨S k, by rw [tst_i], hE⟩
  · rw [h, r1_has hW hE hd, nn_bd1, if_neg (by decide), r1_fit hW hE ha hd, nn_bd1, sFree_f h (by omega), Bool.false_or, pp_b h (by omega)]
    cases sFit v a d
    · rw [if_pos (show bI false = 0 from rfl), if_neg (by decide)]
      obtain ⟨p, h1, h2⟩ := r1_sep hW hE ha
      exact ⟨p, by rw [h1, nn_bd1], h2⟩
    · rw [if_neg (show ¬ bI true = 0 by decide), if_pos rfl]
      exact ⟨S k, by rw [tst_i], hE⟩
theorem wf_mend {n M a : Nat} {v : tePg} (hW : WF n M v) (ha : a < n) : WF n M (mMend v a) := by
  unfold mMend
  split
  · exact hW
  · exact wf_mp hW ha
/-- the same number written on both sides, no partner and no row of missed meetings -/
theorem PE_w {n a o : Nat} {p v : tePg} (hE : PE n p v) (ho : o < 8) (x : Int32) : PE n (tup p (2 + 10 * a + o) x) (tup v (2 + 10 * a + o) x) := by
  refine ⟨?_, ?_, fun c hc => ⟨fun q hq => ?_, fun hn => ?_⟩⟩
  · rw [tup_n _ _ (by omega), tup_n _ _ (by omega)]; exact hE.1
  · rw [tup_n _ _ (by omega), tup_n _ _ (by omega)]; exact hE.2.1
  · unfold tup
    split
    · rfl
    · exact (hE.2.2 c hc).1 q hq
  · rw [tup_n _ _ (by omega)] at hn
    rw [tup_n _ _ (by omega), tup_n _ _ (by omega)]
    exact (hE.2.2 c hc).2 hn
theorem wf_w {n M a o : Nat} {v : tePg} (hW : WF n M v) (ho : o < 8) {x : Int32} (h1 : o < 4 → ∃ y, y ≤ 9 ∧ x = nI y) (h2 : o = 4 → ∃ w, w < 4 ∧ x = nI w) (h3 : o = 6 → ∃ c, c ≤ 198 ∧ x = nI c - 99) (h4 : o = 7 → ∃ m, m ≤ M ∧ x = nI m) : WF n M (tup v (2 + 10 * a + o) x) := by
  refine ⟨hW.1, hW.2.1, (tup_n _ _ (by omega)).trans hW.2.2.1, fun c hc => ?_⟩
  obtain ⟨g1, g2, g3, g4, g5⟩ := hW.2.2.2 c hc
  refine ⟨fun l hl => ?_, ?_, ?_, ?_, ?_⟩
  · unfold tup
    split
    · exact h1 (by omega)
    · exact g1 l hl
  · unfold tup
    split
    · exact h2 (by omega)
    · exact g2
  · unfold tup
    split
    · exact h3 (by omega)
    · exact g3
  · unfold tup
    split
    · exact h4 (by omega)
    · exact g4
  · rw [tup_n _ _ (by omega), tup_n _ _ (by omega)]
    rcases g5 with g5 | ⟨b, hb, hbc, k1, k2, k3⟩
    · exact Or.inl g5
    · exact Or.inr ⟨b, hb, hbc, k1, by rw [tup_n _ _ (by omega)]; exact k2, by rw [tup_n _ _ (by omega)]; exact k3⟩
