/-! A WEEK: both loops; SETTLING -/
def sOk (v : tePg) (a : Nat) : Bool := sFree v a || (sFit v a (pp v a) && decide (v (2 + 10 * a + 9) < 3))
def sBrk (v : tePg) (a : Nat) : tePg := if sOk v a = true then v else mPart v a
def brk : Nat → Nat → tePg → tePg
  | 0, _, v => v
  | d + 1, a, v => brk d (a + 1) (sBrk v a)
def wkE (n : Nat) (w : tePg) : tePg := tup (brk n 0 w) 1 (brk n 0 w 1 + 1)
def mts (n : Nat) (x : Int32) : Nat → Nat → tePg → tePg
  | 0, _, v => v
  | d + 1, a, v => mts n x d (a + 1) (if gp n v a = -9999 then v else sMeet x a (pp v a) v)
def sWeek (n : Nat) (x : Int32) (v : tePg) : tePg := wkE n (mts n x n 0 v)
section S40
variable {n M k r a b : Nat} {v : tePg} {S : teS}
theorem gp_f (h : v (2 + 10 * a + 8) = -9999) : gp n v a = -9999 := by
  unfold gp
  rw [sFree_t h, if_pos rfl]
theorem gp_le {d : Nat} (h : v (2 + 10 * a + 8) = nI d) (hd : d < 9) (hl : d ≤ a) : gp n v a = -9999 := by
  unfold gp
  rw [sFree_f h hd, if_neg (by decide), pp_b h hd, if_pos hl]
theorem gp_gt {d : Nat} (h : v (2 + 10 * a + 8) = nI d) (hd : d < 9) (hl : a < d) : gp n v a = nI d := by
  unfold gp
  rw [sFree_f h hd, if_neg (by decide), pp_b h hd, if_neg (by omega)]
theorem sL_mp (hW : WF n M v) (c : Nat) (ha : a < n) (b : Nat) : sL (mPart v c) a b = sL v a b := by
  obtain ⟨w, hw, ew⟩ := (hW.2.2.2 a ha).2.1
  unfold sL pw
  rw [mp_l v c a (by decide), ew, nn_tn (by omega), mp_l v c b (by omega), mp_l v c a (by omega)]
theorem sFit_mp (hW : WF n M v) (c : Nat) (ha : a < n) (hb : b < n) : sFit (mPart v c) a b = sFit v a b := by
  unfold sFit
  rw [sL_mp hW c ha b, sL_mp hW c hb a]
theorem sOk_mp (hW : WF n M v) (ha : a < n) {c : Nat} (hc : c < n) (h : sOk v c = true) : sOk (mPart v a) c = true := by
  have h9 := hW.1
  rcases wf_par hW ha with ⟨hf, -⟩ | ⟨d, hd, hne, hp, hda, -⟩
  · rw [mp_free (sFree_t hf)]; exact h
  · by_cases h1 : c = a
    · subst h1
      unfold sOk
      rw [sFree_t mp_8a, Bool.true_or]
    · by_cases h2 : c = d
      · subst h2
        unfold sOk
        rw [sFree_t (mp_8d hp (by omega)), Bool.true_or]
      · have e8 := mp_89 (o := 8) hp (by omega) (by decide) h1 h2
        have e9 := mp_89 (o := 9) hp (by omega) (by decide) h1 h2
        have f1 : sFree (mPart v a) c = sFree v c := by unfold sFree; rw [e8]
        have f2 : pp (mPart v a) c = pp v c := by unfold pp; rw [e8]
        unfold sOk at h ⊢
        rw [f1, f2, e9]
        rcases wf_par hW hc with ⟨g, -⟩ | ⟨b, hb, -, g, -⟩
        · rw [sFree_t g, Bool.true_or]
        · rw [pp_b g (by omega)] at h ⊢
          rw [sFit_mp hW a hc hb]
          exact h
theorem sOk_sym (hW : WF n M v) {d : Nat} (ha : a < n) (hd : d < n) (h1 : v (2 + 10 * a + 8) = nI d) (h2 : v (2 + 10 * d + 8) = nI a) (h3 : v (2 + 10 * d + 9) = v (2 + 10 * a + 9)) : sOk v a = sOk v d := by
  have h9 := hW.1
  unfold sOk
  rw [sFree_f h1 (by omega), sFree_f h2 (by omega), pp_b h1 (by omega), pp_b h2 (by omega), h3, sFit_sym]
theorem wf_brk1 (hW : WF n M v) (ha : a < n) : WF n M (sBrk v a) := by
  unfold sBrk
  split
  · exact hW
  · exact wf_mp hW ha
theorem wf_brk : ∀ (d a : Nat) (v : tePg), WF n M v → a + d = n → WF n M (brk d a v)
  | 0, _, _, h, _ => h
  | d + 1, a, v, h, ha => wf_brk d (a + 1) _ (wf_brk1 h (by omega)) (by omega)
theorem wf_1 (hW : WF n M v) (x : Int32) : WF n M (tup v 1 x) := by
  have e : ∀ a o, tup v 1 x (2 + 10 * a + o) = v (2 + 10 * a + o) := fun a o => tup_n _ _ (by omega)
  refine ⟨hW.1, hW.2.1, (tup_n _ _ (by decide)).trans hW.2.2.1, fun c hc => ?_⟩
  obtain ⟨g1, g2, g3, g4, g5⟩ := hW.2.2.2 c hc
  refine ⟨fun l hl => by rw [e]; exact g1 l hl, by rw [e]; exact g2, by rw [e]; exact g3, by rw [e]; exact g4, ?_⟩
  rw [e, e]
  rcases g5 with g5 | ⟨b, hb, hbc, k1, k2, k3⟩
  · exact Or.inl g5
  · exact Or.inr ⟨b, hb, hbc, k1, by rw [e]; exact k2, by rw [e]; exact k3⟩
theorem PE_1 {p : tePg} (hE : PE n p v) : PE n (tup p 1 (p 1 + 1)) (tup v 1 (v 1 + 1)) := by
  refine ⟨by rw [tup_n _ _ (by decide), tup_n _ _ (by decide)]; exact hE.1, by rw [tup_s, tup_s, hE.2.1], fun c hc => ⟨fun o ho => ?_, fun hn => ?_⟩⟩
  · rw [tup_n _ _ (by omega), tup_n _ _ (by omega)]; exact (hE.2.2 c hc).1 o ho
  · rw [tup_n _ _ (by omega)] at hn
    rw [tup_n _ _ (by omega), tup_n _ _ (by omega)]; exact (hE.2.2 c hc).2 hn
theorem wf_wkE (hW : WF n M v) : WF n M (wkE n v) := wf_1 (wf_brk n 0 v hW (by omega)) _
theorem wf_mts (x : Int32) : ∀ (d a M : Nat) (v : tePg), WF n M v → M + d < 100000 → a + d = n → WF n (M + d) (mts n x d a v)
  | 0, _, _, _, h, _, _ => h
  | d + 1, a, M, v, h, hM, ha => by
    have h9 := h.1
    rw [mts]
    have h1 : WF n (M + 1) (if gp n v a = -9999 then v else sMeet x a (pp v a) v) := by
      split
      · exact wf_le h (by omega) (by omega)
      · rename_i hg
        rcases wf_par h (show a < n by omega) with ⟨hf, -⟩ | ⟨d2, hd, hne, hp, hda, h9a⟩
        · exact absurd (gp_f hf) hg
        · rw [pp_b hp (by omega)]
          exact wf_meet h (by omega) (by omega) hd (Ne.symm hne) hp hda h9a x
    have h2 := wf_mts x d (a + 1) (M + 1) _ h1 (by omega) (by omega)
    rw [show M + (d + 1) = M + 1 + d by omega]
    exact h2
theorem wf_week (hW : WF n M v) (hM : M + 9 < 100000) (x : Int32) : WF n (M + 9) (sWeek n x v) := by
  have h9 := hW.1
  exact wf_le (wf_wkE (wf_mts x n 0 M v hW (by omega) (by omega))) (by omega) hM
/-- the second loop, the class -/
theorem c1_wk2 (x : Int32) : ∀ (d a fuel : Nat) (v : tePg) (S : teS), WF n M v → PE n (S k) v → (∀ c, c < a → sOk v c = true) → a + d = n → d < fuel → ∃ p, fX1_passWeek_38 k x fuel S (nI a) = some (tst S k p) ∧ PE n p (tup (brk d a v) 1 (brk d a v 1 + 1))
  | 0, a, fuel, v, S, hW, hE, hO, ha, hf => by
    obtain ⟨f, rfl⟩ : ∃ f, fuel = f + 1 := ⟨fuel - 1, by omega⟩
    have h9 := hW.1
    have e0 := hE.1.trans hW.2.2.1
    unfold fX1_passWeek_38
    rw [e0, if_pos (by rw [nn_le (by omega) (by omega)]; omega), nn_lt1, teu_t]
    exact ⟨_, rfl, PE_1 hE⟩
  | d + 1, a, fuel, v, S, hW, hE, hO, ha, hf => by
    obtain ⟨f, rfl⟩ : ∃ f, fuel = f + 1 := ⟨fuel - 1, by omega⟩
    have h9 := hW.1
    have e0 := hE.1.trans hW.2.2.1
    have han : a < n := by omega
    have hkeep : sOk v a = true → ∃ p, fX1_passWeek_38 k x f S (nI (a + 1)) = some (tst S k p) ∧ PE n p (tup (brk (d + 1) a v) 1 (brk (d + 1) a v 1 + 1)) := by
      intro ho
      have hb : sBrk v a = v := if_pos ho
      rw [brk, hb]
      exact c1_wk2 x d (a + 1) f v S hW hE (fun c hc => by
        by_cases h : c = a
        · rw [h]; exact ho
        · exact hO c (by omega)) (by omega) (by omega)
    have hsep : sOk v a = false → ∃ p, (bd1 (fX1_separate k (nI a) S) fun S3 => fX1_passWeek_38 k x f S3 (nI (a + 1))) = some (tst S k p) ∧ PE n p (tup (brk (d + 1) a v) 1 (brk (d + 1) a v 1 + 1)) := by
      intro ho
      have hb : sBrk v a = mPart v a := if_neg (by rw [ho]; decide)
      rw [brk, hb]
      obtain ⟨p, h1, h2⟩ := r1_sep hW hE han
      obtain ⟨p2, h3, h4⟩ := c1_wk2 x d (a + 1) f (mPart v a) (tst S k p) (wf_mp hW han) (by rw [tst_s]; exact h2) (fun c hc => by
        by_cases h : c = a
        · rw [h]
          unfold sOk
          rw [sFree_t mp_8a, Bool.true_or]
        · exact sOk_mp hW han (by omega) (hO c (by omega))) (by omega) (by omega)
      exact ⟨p2, by rw [h1, nn_bd1, h3, tst_t], h4⟩
    unfold fX1_passWeek_38
    rw [e0, if_neg (by rw [nn_le (by omega) (by omega)]; omega), r1_gp hW hE han, nn_bd1, li1, nn_add]
    rcases wf_par hW han with ⟨hfr, -⟩ | ⟨d2, hd, hne, hp, hda, h9a⟩
    · rw [gp_f hfr, if_pos rfl]
      exact hkeep (by unfold sOk; rw [sFree_t hfr, Bool.true_or])
    · by_cases hl : d2 ≤ a
      · rw [gp_le hp (by omega) hl, if_pos rfl]
        exact hkeep (by rw [sOk_sym hW han hd hp hda h9a]; exact hO d2 (by omega))
      · rw [gp_gt hp (by omega) (by omega), if_neg (by rw [nn_NI (by omega)]; exact not_false), r1_fit hW hE han hd, nn_bd1, bI_if]
        have hok : sOk v a = (sFit v a d2 && decide (v (2 + 10 * a + 9) < 3)) := by
          unfold sOk
          rw [sFree_f hp (by omega), pp_b hp (by omega), Bool.false_or]
        cases hft : sFit v a d2
        · rw [if_pos rfl]
          exact hsep (by rw [hok, hft, Bool.false_and])
        · rw [if_neg (by decide), nn_in (by omega) (by decide), nn_tn (by omega), (hE.2.2 a han).2 (by rw [hp]; intro h; exact absurd h (by rw [nn_NI (by omega)]; exact not_false))]
          by_cases h3 : v (2 + 10 * a + 9) < 3
          · rw [if_pos h3]
            exact hkeep (by rw [hok, hft, decide_eq_true h3]; rfl)
          · rw [if_neg h3]
            exact hsep (by rw [hok, hft, decide_eq_false h3]; rfl)
theorem c1_wk1 (x : Int32) : ∀ (d a fuel M : Nat) (v : tePg) (S : teS), WF n M v → PE n (S k) v → M + d < 100000 → a + d = n → d < fuel → ∃ p, fX1_passWeek_2 k x fuel S (nI a) = some (tst S k p) ∧ PE n p (wkE n (mts n x d a v))
  | 0, a, fuel, M, v, S, hW, hE, hM, ha, hf => by
    obtain ⟨f, rfl⟩ : ∃ f, fuel = f + 1 := ⟨fuel - 1, by omega⟩
    have h9 := hW.1
    have e0 := hE.1.trans hW.2.2.1
    unfold fX1_passWeek_2
    rw [e0, if_pos (by rw [nn_le (by omega) (by omega)]; omega), li0]
    exact c1_wk2 x n 0 2000 v S hW hE (fun c hc => absurd hc (by omega)) (by omega) (by omega)
  | d + 1, a, fuel, M, v, S, hW, hE, hM, ha, hf => by
    obtain ⟨f, rfl⟩ : ∃ f, fuel = f + 1 := ⟨fuel - 1, by omega⟩
    have h9 := hW.1
    have e0 := hE.1.trans hW.2.2.1
    have han : a < n := by omega
    have hskip : gp n v a = -9999 → ∃ p, fX1_passWeek_2 k x f S (nI (a + 1)) = some (tst S k p) ∧ PE n p (wkE n (mts n x (d + 1) a v)) := by
      intro hg
      rw [mts, if_pos hg]
      exact c1_wk1 x d (a + 1) f (M + 1) v S (wf_le hW (by omega) (by omega)) hE (by omega) (by omega) (by omega)
    unfold fX1_passWeek_2
    rw [e0, if_neg (by rw [nn_le (by omega) (by omega)]; omega), r1_gp hW hE han, nn_bd1, li1, nn_add]
    rcases wf_par hW han with ⟨hfr, -⟩ | ⟨d2, hd, hne, hp, hda, h9a⟩
    · have hg := gp_f (n := n) hfr
      rw [hg, if_pos rfl]
      exact hskip hg
    · by_cases hl : d2 ≤ a
      · have hg := gp_le (n := n) hp (by omega) hl
        rw [hg, if_pos rfl]
        exact hskip hg
      · have hg := gp_gt (n := n) hp (by omega) (by omega)
        have hng : ¬ nI d2 = -9999 := by rw [nn_NI (by omega)]; exact not_false
        rw [hg, if_neg hng]
        obtain ⟨p, h1, h2⟩ := r1_meet hW hE han hd (Ne.symm hne) hp hda x
        obtain ⟨p2, h3, h4⟩ := c1_wk1 x d (a + 1) f (M + 1) (sMeet x a d2 v) (tst S k p) (wf_meet hW (by omega) han hd (Ne.symm hne) hp hda h9a x) (by rw [tst_s]; exact h2) (by omega) (by omega) (by omega)
        refine ⟨p2, by rw [h1, nn_bd1, h3, tst_t], ?_⟩
        rw [mts, hg, if_neg hng, pp_b hp (by omega)]
        exact h4
theorem r1_week (hW : WF n M v) (hE : PE n (S k) v) (hM : M + 9 < 100000) (x : Int32) : ∃ p, fX1_passWeek k x S = some (tst S k p) ∧ PE n p (sWeek n x v) := by
  have h9 := hW.1
  unfold fX1_passWeek
  rw [li0]
  exact c1_wk1 x n 0 2000 M v S hW hE (by omega) (by omega) (by omega)
/-! settling -/
theorem mp_fr {c : Nat} (h : v (2 + 10 * c + 8) = -9999) : mPart v a (2 + 10 * c + 8) = -9999 := by
  unfold mPart
  split
  · exact h
  · rw [tup_n _ _ (by omega)]
    by_cases hd : c = pp v a
    · rw [hd, tup_s]
    · rw [tup_n _ _ (by omega), tup_n _ _ (by omega)]
      by_cases h2 : c = a
      · rw [h2, tup_s]
      · rw [tup_n _ _ (by omega)]; exact h
theorem wf_mUni (hW : WF n M v) (ha : a < n) (hb : b < n) (hab : a ≠ b) : WF n M (mUni v a b) :=
  wf_uni (wf_mp (wf_mp hW ha) hb) ha hb hab (mp_fr mp_8a) mp_8a
def st (n : Nat) : Nat → tePg → Nat × tePg
  | 0, v => (0, v)
  | m + 1, v => match fnd v n 0 with | none => (0, v) | some q => ((st n m (mUni v q.1 q.2)).1 + 1, (st n m (mUni v q.1 q.2)).2)
theorem st_le : ∀ (m : Nat) (v : tePg), (st n m v).1 ≤ m
  | 0, v => Nat.le_refl _
  | m + 1, v => by
    rw [st]
    cases hb : fnd v n 0 with
    | none => exact Nat.zero_le _
    | some q => exact Nat.succ_le_succ (st_le m _)
theorem wf_st : ∀ (m : Nat) (v : tePg), WF n M v → WF n M (st n m v).2
  | 0, v, h => h
  | m + 1, v, h => by
    rw [st]
    cases hb : fnd v n 0 with
    | none => exact h
    | some q =>
      obtain ⟨g1, g2, -⟩ := fnd_lt (a := q.1) (b := q.2) hb
      exact wf_st m _ (wf_mUni h (by omega) g2 (by omega))
theorem c1_uf2 (hW : WF n M v) (hE : PE n (S k) v) (ha : a < n) (q : teS → Int32 → Option (Int32 × teS)) : ∀ (d b fuel : Nat), b + d = n → d < fuel →
    fX1_uniteFirstBlockingPair_14 k q fuel S (nI a) (nI b) = scn (sBlk v) (fun _ => q S (nI (a + 1))) (fun a b => bd1 (fX1_separate k (nI a) S) fun S2 => bd1 (fX1_separate k (nI b) S2) fun S3 => bd1 (fX1_unite k (nI a) (nI b) S3) fun S4 => some ((1 : Int32), S4)) (pin a b d) 0 := by
  have h9 := hW.1
  have e0 := hE.1.trans hW.2.2.1
  intro d
  induction d with
  | zero =>
    intro b fuel hb hf
    obtain ⟨f, rfl⟩ : ∃ f, fuel = f + 1 := ⟨fuel - 1, by omega⟩
    unfold fX1_uniteFirstBlockingPair_14
    rw [e0, if_pos (by rw [nn_le (by omega) (by omega)]; omega), li1, nn_add]
    rfl
  | succ d ih =>
    intro b fuel hb hf
    obtain ⟨f, rfl⟩ : ∃ f, fuel = f + 1 := ⟨fuel - 1, by omega⟩
    unfold fX1_uniteFirstBlockingPair_14
    rw [e0, if_neg (by rw [nn_le (by omega) (by omega)]; omega), r1_block hW hE ha (by omega), nn_bd1, li1, nn_add, ih (b + 1) f (by omega) (by omega), bI_if]
    show _ = if sBlk v a b = true then _ else _
    cases sBlk v a b
    · rw [if_pos rfl, if_neg (by decide)]; try rfl
    · rw [if_neg (by decide), if_pos rfl, if_pos rfl]; try rfl
theorem c1_uf1 (hW : WF n M v) (hE : PE n (S k) v) : ∀ (d a fuel : Nat), a + d = n → d < fuel →
    fX1_uniteFirstBlockingPair_2 k fuel S (nI a) = scn (sBlk v) (fun _ => some ((0 : Int32), S)) (fun a b => bd1 (fX1_separate k (nI a) S) fun S2 => bd1 (fX1_separate k (nI b) S2) fun S3 => bd1 (fX1_unite k (nI a) (nI b) S3) fun S4 => some ((1 : Int32), S4)) (pout n a d) 0 := by
  have h9 := hW.1
  have e0 := hE.1.trans hW.2.2.1
  intro d
  induction d with
  | zero =>
    intro a fuel ha hf
    obtain ⟨f, rfl⟩ : ∃ f, fuel = f + 1 := ⟨fuel - 1, by omega⟩
    unfold fX1_uniteFirstBlockingPair_2
    rw [e0, if_pos (by rw [nn_le (by omega) (by omega)]; omega)]
    rfl
  | succ d ih =>
    intro a fuel ha hf
    obtain ⟨f, rfl⟩ : ∃ f, fuel = f + 1 := ⟨fuel - 1, by omega⟩
    unfold fX1_uniteFirstBlockingPair_2
    rw [e0, if_neg (by rw [nn_le (by omega) (by omega)]; omega), li1, nn_add, c1_uf2 hW hE (by omega) _ (n - (a + 1)) (a + 1) _ (by omega) (by omega)]
    show _ = scn _ _ _ (pin a (a + 1) (n - (a + 1)) ++ pout n (a + 1) d) 0
    rw [scn_app]
    refine scn_Kb _ _ (fun y hy => ?_)
    obtain rfl : y = 0 := by omega
    exact ih (a + 1) f (by omega) (by omega)
theorem r1_ufb (hW : WF n M v) (hE : PE n (S k) v) : (fnd v n 0 = none ∧ fX1_uniteFirstBlockingPair k S = some (0, S)) ∨ ∃ q p, fnd v n 0 = some q ∧ fX1_uniteFirstBlockingPair k S = some (1, tst S k p) ∧ PE n p (mUni v q.1 q.2) := by
  have h9 := hW.1
  have h : fX1_uniteFirstBlockingPair k S = _ := c1_uf1 hW hE n 0 2000 (by omega) (by omega)
  rw [fnd_map] at h
  cases hb : fnd v n 0 with
  | none => rw [hb] at h; exact Or.inl ⟨rfl, h⟩
  | some q =>
    rw [hb] at h
    obtain ⟨g1, g2, -⟩ := fnd_lt (a := q.1) (b := q.2) hb
    obtain ⟨p1, h1, h2⟩ := r1_sep (S := S) (k := k) hW hE (show q.1 < n by omega)
    have hW1 := wf_mp hW (show q.1 < n by omega)
    obtain ⟨p2, h3, h4⟩ := r1_sep (S := tst S k p1) (k := k) hW1 (by rw [tst_s]; exact h2) g2
    have hW2 := wf_mp hW1 g2
    obtain ⟨p3, h5, h6⟩ := r1_uni (S := tst S k p2) (k := k) hW2 (by rw [tst_s]; exact h4) (show q.1 < n by omega) g2 (by omega) (mp_fr mp_8a) mp_8a
    refine Or.inr ⟨q, p3, rfl, ?_, h6⟩
    rw [h]
    show (bd1 (fX1_separate k (nI q.1) S) fun S2 => bd1 (fX1_separate k (nI q.2) S2) fun S3 => bd1 (fX1_unite k (nI q.1) (nI q.2) S3) fun S4 => some ((1 : Int32), S4)) = _
    rw [h1, nn_bd1, h3, nn_bd1, tst_t, h5, nn_bd1, tst_t]
theorem c1_st {X : Nat} (hX : X ≤ 50) : ∀ (m c fuel : Nat) (v : tePg) (S : teS), WF n M v → PE n (S k) v → c + m = X → m < fuel → ∃ p, fX1_settleBy_2 k (nI X) fuel S (nI c) = some (nI (c + (st n m v).1), tst S k p) ∧ PE n p (st n m v).2
  | 0, c, fuel, v, S, hW, hE, hc, hf => by
    obtain ⟨f, rfl⟩ : ∃ f, fuel = f + 1 := ⟨fuel - 1, by omega⟩
    unfold fX1_settleBy_2
    rw [le_if (by omega) (by omega), if_pos (by omega)]
    exact ⟨S k, by rw [tst_i]; rfl, hE⟩
  | m + 1, c, fuel, v, S, hW, hE, hc, hf => by
    obtain ⟨f, rfl⟩ : ∃ f, fuel = f + 1 := ⟨fuel - 1, by omega⟩
    unfold fX1_settleBy_2
    rw [le_if (by omega) (by omega), if_neg (by omega), st]
    rcases r1_ufb hW hE with ⟨hb, h⟩ | ⟨q, p, hb, h, hp⟩
    · rw [h, nn_bd2, if_pos rfl, hb]
      exact ⟨S k, by rw [tst_i]; rfl, hE⟩
    · rw [h, nn_bd2, if_neg (by decide), hb]
      obtain ⟨g1, g2, -⟩ := fnd_lt (a := q.1) (b := q.2) hb
      obtain ⟨p2, e1, e2⟩ := c1_st hX m (c + 1) f (mUni v q.1 q.2) (tst S k p) (wf_mUni hW (by omega) g2 (by omega)) (by rw [tst_s]; exact hp) (by omega) (by omega)
      refine ⟨p2, ?_, e2⟩
      rw [li1, nn_add, e1, tst_t]
      show _ = some (nI (c + ((st n m (mUni v q.1 q.2)).1 + 1)), _)
      rw [show c + 1 + (st n m (mUni v q.1 q.2)).1 = c + ((st n m (mUni v q.1 q.2)).1 + 1) by omega]
theorem r1_settle {X : Nat} (hX : X ≤ 50) (hW : WF n M v) (hE : PE n (S k) v) : ∃ p, fX1_settleBy k (nI X) S = some (nI (st n X v).1, tst S k p) ∧ PE n p (st n X v).2 := by
  obtain ⟨p, h1, h2⟩ := c1_st (k := k) hX X 0 2000 v S hW hE (by omega) (by omega)
  exact ⟨p, by unfold fX1_settleBy; rw [li0, h1, Nat.zero_add], h2⟩
def oN (o : Option (Nat × Nat)) : Int32 := match o with | none => -9999 | some q => nI (10 * q.1 + q.2)
end S40
