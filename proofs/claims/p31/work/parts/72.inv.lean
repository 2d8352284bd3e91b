/-! WHAT EACH CHANGE KEEPS, beyond WF -/
section S72
variable {n M : Nat} {v u : tePg}
theorem pw_lt (hW : WF n M v) {a : Nat} (ha : a < n) : pw v a < 4 := by
  obtain ⟨w, hw, e⟩ := (hW.2.2.2 a ha).2.1
  unfold pw
  rw [e, nn_tn (by omega)]
  exact hw
theorem sL_cong (hW : WF n M v) {a b : Nat} (ha : a < n) (h4 : u (2 + 10 * a + 4) = v (2 + 10 * a + 4)) (hla : ∀ l, l < 4 → u (2 + 10 * a + l) = v (2 + 10 * a + l)) (hlb : ∀ l, l < 4 → u (2 + 10 * b + l) = v (2 + 10 * b + l)) : sL u a b = sL v a b := by
  have h1 := pw_lt hW ha
  have h2 : pw u a = pw v a := by unfold pw; rw [h4]
  unfold sL
  rw [h2, hla _ h1, hlb _ h1]
theorem sFit_cong (hW : WF n M v) {a b : Nat} (ha : a < n) (hb : b < n) (hA : ∀ o, o < 5 → u (2 + 10 * a + o) = v (2 + 10 * a + o)) (hB : ∀ o, o < 5 → u (2 + 10 * b + o) = v (2 + 10 * b + o)) : sFit u a b = sFit v a b := by
  unfold sFit
  rw [sL_cong hW ha (hA 4 (by decide)) (fun l hl => hA l (by omega)) (fun l hl => hB l (by omega)), sL_cong hW hb (hB 4 (by decide)) (fun l hl => hB l (by omega)) (fun l hl => hA l (by omega))]
/-- a partner is a member, and the other way round -/
theorem wf_back (hW : WF n M v) {a b : Nat} (ha : a < n) (hb : b < n) (h : v (2 + 10 * a + 8) = nI b) : b ≠ a ∧ v (2 + 10 * b + 8) = nI a := by
  have h9 := hW.1
  rcases wf_par hW ha with ⟨g, -⟩ | ⟨d, hd, hne, g, g2, -⟩
  · rw [g] at h
    exact absurd h.symm (by rw [nn_NI (by omega)]; exact not_false)
  · rw [g, nn_eq (by omega) (by omega)] at h
    subst h
    exact ⟨hne, g2⟩
theorem N_ne {b : Nat} (hb : b < 9) {x : Int32} (h1 : x = -9999) (h2 : x = nI b) : False := by
  rw [h1] at h2
  exact absurd h2.symm (by rw [nn_NI (by omega)]; exact not_false)
theorem nI_inj {a b : Nat} (ha : a < 9) (hb : b < 9) (h : nI a = nI b) : a = b := by
  rwa [nn_eq (by omega) (by omega)] at h
/-- who has a partner behind mPart -/
theorem mp_par (hW : WF n M v) {a c b : Nat} (ha : a < n) (hc : c < n) (hb : b < n) (h : mPart v a (2 + 10 * c + 8) = nI b) : c ≠ a ∧ b ≠ a ∧ v (2 + 10 * c + 8) = nI b ∧ mPart v a (2 + 10 * c + 9) = v (2 + 10 * c + 9) := by
  have h9 := hW.1
  rcases wf_par hW ha with ⟨g, -⟩ | ⟨d, hd, hne, g, g2, -⟩
  · rw [mp_free (sFree_t g)] at h ⊢
    refine ⟨?_, ?_, h, rfl⟩
    · rintro rfl
      exact N_ne (by omega) g h
    · rintro rfl
      exact N_ne (by omega) g (wf_back hW hc hb h).2
  · have h1 : c ≠ a := by
      rintro rfl
      exact N_ne (by omega) mp_8a h
    have h2 : c ≠ d := by
      rintro rfl
      exact N_ne (by omega) (mp_8d g (by omega)) h
    rw [mp_89 g (by omega) (by decide) h1 h2] at h
    refine ⟨h1, ?_, h, mp_89 g (by omega) (by decide) h1 h2⟩
    rintro rfl
    exact h2 (nI_inj (by omega) (by omega) ((wf_back hW hc hb h).2.symm.trans g))
theorem IV_mp (hW : WF n M v) {a : Nat} (ha : a < n) (hI : IV n v) : IV n (mPart v a) := by
  refine ⟨fun c hc => by rw [mp_l v a c (by decide)]; exact hI.1 c hc, fun c b hc hb h => ?_, fun c b hc hb h => ?_⟩
  · obtain ⟨-, -, h3, -⟩ := mp_par hW ha hc hb h
    rw [sFit_mp hW a hc hb]
    exact hI.2.1 c b hc hb h3
  · obtain ⟨-, -, h3, h4⟩ := mp_par hW ha hc hb h
    rw [h4]
    exact hI.2.2 c b hc hb h3
theorem IV_mend (hW : WF n M v) {a : Nat} (ha : a < n) (h1 : ∀ c, c < n → ∃ g, g ≤ 19 ∧ v (2 + 10 * c + 5) = nI g) (h2 : ∀ c b, c < n → b < n → c ≠ a → b ≠ a → v (2 + 10 * c + 8) = nI b → sFit v c b = true) (h3 : ∀ c b, c < n → b < n → v (2 + 10 * c + 8) = nI b → ∃ r, r < 3 ∧ v (2 + 10 * c + 9) = nI r) : IV n (mMend v a) := by
  have h9 := hW.1
  unfold mMend
  by_cases hq : (sFree v a || sFit v a (pp v a)) = true
  · rw [if_pos hq]
    refine ⟨h1, fun c b hc hb h => ?_, h3⟩
    have key : ∀ d, d < n → v (2 + 10 * a + 8) = nI d → sFit v a d = true := fun d hd g => by
      rw [sFree_f g (by omega), pp_b g (by omega)] at hq
      exact hq
    by_cases hca : c = a
    · subst hca
      exact key b hb h
    · by_cases hba : b = a
      · subst hba
        rw [sFit_sym]
        exact key c hc (wf_back hW hc hb h).2
      · exact h2 c b hc hb hca hba h
  · rw [if_neg hq]
    refine ⟨fun c hc => by rw [mp_l v a c (by decide)]; exact h1 c hc, fun c b hc hb h => ?_, fun c b hc hb h => ?_⟩
    · obtain ⟨g1, g2, g3, -⟩ := mp_par hW ha hc hb h
      rw [sFit_mp hW a hc hb]
      exact h2 c b hc hb g1 g2 g3
    · obtain ⟨-, -, g3, g4⟩ := mp_par hW ha hc hb h
      rw [g4]
      exact h3 c b hc hb g3
theorem IV_want (hW : WF n M v) (hI : IV n v) {a l : Nat} (ha : a < n) (hl : l < 4) : IV n (sWant v a l) := by
  have e : ∀ c o, o < 10 → (c ≠ a ∨ (o ≠ 4 ∧ o ≠ 5)) → tup (tup v (2 + 10 * a + 4) (nI l)) (2 + 10 * a + 5) 0 (2 + 10 * c + o) = v (2 + 10 * c + o) := fun c o ho h => by
    rw [tup_n _ _ (by omega), tup_n _ _ (by omega)]
  unfold sWant
  refine IV_mend (wf_want1 hW hl) ha (fun c hc => ?_) (fun c b hc hb g1 g2 h => ?_) (fun c b hc hb h => ?_)
  · by_cases h : c = a
    · subst h
      exact ⟨0, by decide, tup_s _ _ _⟩
    · rw [e c 5 (by decide) (Or.inl h)]
      exact hI.1 c hc
  · rw [e c 8 (by decide) (Or.inl g1)] at h
    rw [sFit_cong hW hc hb (fun o ho => e c o (by omega) (Or.inl g1)) (fun o ho => e b o (by omega) (Or.inl g2))]
    exact hI.2.1 c b hc hb h
  · rw [e c 8 (by decide) (Or.inr (by decide))] at h
    rw [e c 9 (by decide) (Or.inr (by decide))]
    exact hI.2.2 c b hc hb h
theorem IV_test (hW : WF n M v) (hI : IV n v) {a l x : Nat} (ha : a < n) (hl : l < 4) (hx : x < 100) : IV n (sTest v a l x) := by
  have e : ∀ c o, o < 10 → (c ≠ a ∨ (o ≠ 5 ∧ o ≠ l)) → sTest1 v a l x (2 + 10 * c + o) = v (2 + 10 * c + o) := fun c o ho h => by
    unfold sTest1
    split
    · rw [tup_n _ _ (by omega), tup_n _ _ (by omega)]
    · rw [tup_n _ _ (by omega)]
  unfold sTest
  refine IV_mend (wf_test1 hW hl hx) ha (fun c hc => ?_) (fun c b hc hb g1 g2 h => ?_) (fun c b hc hb h => ?_)
  · by_cases h : c = a
    · subst h
      unfold sTest1
      split
      · exact ⟨x % 10 * 2, by omega, tup_s _ _ _⟩
      · rw [tup_n _ _ (by omega)]
        exact hI.1 c hc
    · rw [e c 5 (by decide) (Or.inl h)]
      exact hI.1 c hc
  · rw [e c 8 (by decide) (Or.inl g1)] at h
    rw [sFit_cong hW hc hb (fun o ho => e c o (by omega) (Or.inl g1)) (fun o ho => e b o (by omega) (Or.inl g2))]
    exact hI.2.1 c b hc hb h
  · rw [e c 8 (by decide) (Or.inr ⟨by decide, by omega⟩)] at h
    rw [e c 9 (by decide) (Or.inr ⟨by decide, by omega⟩)]
    exact hI.2.2 c b hc hb h
theorem IV_uni (hW : WF n M v) (hI : IV n v) {a b : Nat} (ha : a < n) (hb : b < n) (hab : a ≠ b) (fa : v (2 + 10 * a + 8) = -9999) (fb : v (2 + 10 * b + 8) = -9999) (hf : sFit v a b = true) : IV n (sUni v a b) := by
  have h9 := hW.1
  have e : ∀ c o, o < 10 → (o ≠ 8 ∨ (c ≠ a ∧ c ≠ b)) → sUni v a b (2 + 10 * c + o) = v (2 + 10 * c + o) := fun c o ho h => by
    unfold sUni
    rw [tup_n _ _ (by omega), tup_n _ _ (by omega)]
  have ea : sUni v a b (2 + 10 * a + 8) = nI b := by
    unfold sUni
    rw [tup_n _ _ (by omega), tup_s]
  have eb : sUni v a b (2 + 10 * b + 8) = nI a := tup_s _ _ _
  have hs : ∀ c d, c < n → d < n → sFit (sUni v a b) c d = sFit v c d := fun c d hc hd => sFit_cong hW hc hd (fun o ho => e c o (by omega) (Or.inl (by omega))) (fun o ho => e d o (by omega) (Or.inl (by omega)))
  have z0 : ∀ c, c < n → v (2 + 10 * c + 8) = -9999 → v (2 + 10 * c + 9) = 0 := fun c hc h => by
    rcases wf_par hW hc with g | ⟨d, hd, -, g, -⟩
    · exact g.2
    · exact (N_ne (by omega) h g).elim
  refine ⟨fun c hc => by rw [e c 5 (by decide) (Or.inl (by decide))]; exact hI.1 c hc, fun c d hc hd h => ?_, fun c d hc hd h => ?_⟩
  · rw [hs c d hc hd]
    by_cases h1 : c = a
    · subst h1
      rw [ea] at h
      rw [← nI_inj (by omega) (by omega) h]
      exact hf
    · by_cases h2 : c = b
      · subst h2
        rw [eb] at h
        rw [← nI_inj (by omega) (by omega) h, sFit_sym]
        exact hf
      · rw [e c 8 (by decide) (Or.inr ⟨h1, h2⟩)] at h
        exact hI.2.1 c d hc hd h
  · rw [e c 9 (by decide) (Or.inl (by decide))]
    by_cases h1 : c = a
    · subst h1
      exact ⟨0, by decide, z0 c hc fa⟩
    · by_cases h2 : c = b
      · subst h2
        exact ⟨0, by decide, z0 c hc fb⟩
      · rw [e c 8 (by decide) (Or.inr ⟨h1, h2⟩)] at h
        exact hI.2.2 c d hc hd h
theorem IV_mt : ∀ (m : Nat) (v : tePg), WF n M v → IV n v → IV n (mt n m v).2
  | 0, v, hW, hI => hI
  | m + 1, v, hW, hI => by
    unfold mt
    have ho := ok_bfp v n
    cases hb : bfp v n with
    | none => exact hI
    | some q =>
      obtain ⟨h1, h2, h3⟩ := ho q hb
      obtain ⟨fa, fb⟩ := may_free h3
      have hf : sFit v q.1 q.2 = true := by
        unfold may at h3
        simp only [Bool.and_eq_true] at h3
        exact h3.2
      exact IV_mt m _ (wf_uni hW (by omega) (by omega) (by omega) fa fb) (IV_uni hW hI (by omega) (by omega) (by omega) fa fb hf)
theorem IV_mUni (hW : WF n M v) (hI : IV n v) {a b : Nat} (ha : a < n) (hb : b < n) (hab : a ≠ b) (hf : sFit v a b = true) : IV n (mUni v a b) := by
  unfold mUni
  have h1 := wf_mp hW ha
  have h2 := wf_mp h1 hb
  refine IV_uni h2 (IV_mp h1 hb (IV_mp hW ha hI)) ha hb hab ?_ mp_8a ?_
  · exact mp_fr mp_8a
  · rw [sFit_mp h1 b ha hb, sFit_mp hW a ha hb]
    exact hf
theorem sBlk_fit {a b : Nat} (h : sBlk v a b = true) : sFit v a b = true := by
  unfold sBlk at h
  simp only [Bool.and_eq_true] at h
  exact h.1.1.1
theorem IV_st : ∀ (m : Nat) (v : tePg), WF n M v → IV n v → IV n (st n m v).2
  | 0, v, hW, hI => hI
  | m + 1, v, hW, hI => by
    unfold st
    cases hb : fnd v n 0 with
    | none => exact hI
    | some q =>
      obtain ⟨h1, h2, h3⟩ := fnd_lt (a := q.1) (b := q.2) hb
      exact IV_st m _ (wf_mUni hW (by omega) (by omega) (by omega)) (IV_mUni hW hI (by omega) (by omega) (by omega) (sBlk_fit h3))
end S72
