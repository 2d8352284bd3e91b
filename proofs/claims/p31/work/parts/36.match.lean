/-! MATCHING and SETTLING -/
def may (v : tePg) (a b : Nat) : Bool := sFree v a && sFree v b && sFit v a b
def bst1 (v : tePg) (q : Nat × Nat) (o : Option (Nat × Nat)) : Option (Nat × Nat) := if may v q.1 q.2 = true then (match o with | none => some q | some p => if sVal v q.1 q.2 ≤ sVal v p.1 p.2 then some p else some q) else o
def bst (v : tePg) : List (Nat × Nat) → Option (Nat × Nat) → Option (Nat × Nat)
  | [], o => o
  | q :: l, o => bst v l (bst1 v q o)
theorem bst_app (v : tePg) : ∀ (l m : List (Nat × Nat)) (o : Option (Nat × Nat)), bst v (l ++ m) o = bst v m (bst v l o)
  | [], _, _ => rfl
  | q :: l, m, o => by rw [List.cons_append, bst, bst, bst_app v l m]
def oA (o : Option (Nat × Nat)) : Int32 := match o with | none => -9999 | some q => nI q.1
def oB (o : Option (Nat × Nat)) : Int32 := match o with | none => -9999 | some q => nI q.2
def oV (v : tePg) (o : Option (Nat × Nat)) : Int32 := match o with | none => 0 | some q => sVal v q.1 q.2
/-- a found pair is a pair of members who may -/
def okO (v : tePg) (n : Nat) (o : Option (Nat × Nat)) : Prop := ∀ q, o = some q → q.1 < q.2 ∧ q.2 < n ∧ may v q.1 q.2 = true
theorem ok_bst1 {v : tePg} {n : Nat} {q : Nat × Nat} {o : Option (Nat × Nat)} (ho : okO v n o) (h1 : q.1 < q.2) (h2 : q.2 < n) : okO v n (bst1 v q o) := by
  unfold bst1
  split
  · rename_i hm
    cases o with
    | none => intro z hz; cases hz; exact ⟨h1, h2, hm⟩
    | some p =>
      show okO v n (if sVal v q.1 q.2 ≤ sVal v p.1 p.2 then some p else some q)
      split
      · exact ho
      · intro z hz; cases hz; exact ⟨h1, h2, hm⟩
  · exact ho
theorem ok_bst {v : tePg} {n : Nat} : ∀ (l : List (Nat × Nat)) (o : Option (Nat × Nat)), okO v n o → (∀ q ∈ l, q.1 < q.2 ∧ q.2 < n) → okO v n (bst v l o)
  | [], o, ho, _ => ho
  | q :: l, o, ho, h => ok_bst l _ (ok_bst1 ho (h q List.mem_cons_self).1 (h q List.mem_cons_self).2) (fun z hz => h z (List.mem_cons_of_mem _ hz))
theorem ok_pin {n a b d : Nat} (hab : a < b) (hb : b + d = n) : ∀ q ∈ pin a b d, q.1 < q.2 ∧ q.2 < n := fun q hq => by
  have := pin_mem (b := 0) d hq
  omega
def uU (k : Nat) (S : teS) (o : Option (Nat × Nat)) : Option (Int32 × teS) := match o with | none => some ((0 : Int32), S) | some q => bd1 (fX1_unite k (nI q.1) (nI q.2) S) fun S2 => some ((1 : Int32), S2)
section S36
variable {n M k r : Nat} {v : tePg} {S : teS}
theorem c1_um2 (hW : WF n M v) (hE : PE n (S k) v) {a : Nat} (ha : a < n) (q : teS → Int32 → Int32 → Int32 → Int32 → Option (Int32 × teS)) : ∀ (d b fuel : Nat) (o : Option (Nat × Nat)), a < b → b + d = n → d < fuel → okO v n o →
    fX1_uniteBestFreePair_28 k q fuel S (oA o) (oB o) (oV v o) (nI a) (nI b) = q S (oA (bst v (pin a b d) o)) (oB (bst v (pin a b d) o)) (oV v (bst v (pin a b d) o)) (nI (a + 1)) := by
  have h9 := hW.1
  have e0 := hE.1.trans hW.2.2.1
  intro d
  induction d with
  | zero =>
    intro b fuel o hab hb hf ho
    obtain ⟨f, rfl⟩ : ∃ f, fuel = f + 1 := ⟨fuel - 1, by omega⟩
    unfold fX1_uniteBestFreePair_28
    rw [e0, if_pos (by rw [nn_le (by omega) (by omega)]; omega), li1, nn_add]
    rfl
  | succ d ih =>
    intro b fuel o hab hb hf ho
    obtain ⟨f, rfl⟩ : ∃ f, fuel = f + 1 := ⟨fuel - 1, by omega⟩
    have ho1 : okO v n (bst1 v (a, b) o) := ok_bst1 ho hab (by show b < n; omega)
    have h1 := ih (b + 1) f _ (by omega) (by omega) (by omega) ho1
    unfold fX1_uniteBestFreePair_28
    rw [e0, if_neg (by rw [nn_le (by omega) (by omega)]; omega), r1_can hW hE ha (by omega), nn_bd1, li1, nn_add, bI_if]
    show _ = q S (oA (bst v (pin a (b + 1) d) (bst1 v (a, b) o))) (oB (bst v (pin a (b + 1) d) (bst1 v (a, b) o))) (oV v (bst v (pin a (b + 1) d) (bst1 v (a, b) o))) (nI (a + 1))
    rw [← h1]
    have hmay : (sFree v a && sFree v b && sFit v a b) = may v a b := rfl
    rw [hmay]
    unfold bst1
    cases hm : may v a b
    · rw [if_pos rfl, if_neg (show ¬ false = true by decide)]
    · rw [if_neg (show ¬ true = false by decide), if_pos (show true = true from rfl)]
      unfold fX1_uniteBestFreePair_67
      rw [r1_value hW hE ha (show b < n by omega), nn_bd1, li1, nn_add]
      cases o with
      | none => rw [if_pos (show oA none = -9999 from rfl)]; rfl
      | some p =>
        have hp := ho p rfl
        rw [if_neg (show ¬ oA (some p) = -9999 by show ¬ nI p.1 = -9999; rw [nn_NI (by omega)]; exact not_false), nn_bd1]
        show (if sVal v a b ≤ sVal v p.1 p.2 then _ else _) = _
        by_cases h : sVal v a b ≤ sVal v p.1 p.2
        · rw [if_pos h]
          show _ = fX1_uniteBestFreePair_28 k q f S (oA (if sVal v a b ≤ sVal v p.1 p.2 then some p else some (a, b))) (oB (if sVal v a b ≤ sVal v p.1 p.2 then some p else some (a, b))) (oV v (if sVal v a b ≤ sVal v p.1 p.2 then some p else some (a, b))) (nI a) (nI (b + 1))
          rw [if_pos h]
        · rw [if_neg h]
          show _ = fX1_uniteBestFreePair_28 k q f S (oA (if sVal v a b ≤ sVal v p.1 p.2 then some p else some (a, b))) (oB (if sVal v a b ≤ sVal v p.1 p.2 then some p else some (a, b))) (oV v (if sVal v a b ≤ sVal v p.1 p.2 then some p else some (a, b))) (nI a) (nI (b + 1))
          rw [if_neg h]
          rfl
theorem c1_um1 (hW : WF n M v) (hE : PE n (S k) v) : ∀ (d a fuel : Nat) (o : Option (Nat × Nat)), a + d = n → d < fuel → okO v n o →
    fX1_uniteBestFreePair_13 k fuel S (oA o) (oB o) (oV v o) (nI a) = uU k S (bst v (pout n a d) o) := by
  have h9 := hW.1
  have e0 := hE.1.trans hW.2.2.1
  intro d
  induction d with
  | zero =>
    intro a fuel o ha hf ho
    obtain ⟨f, rfl⟩ : ∃ f, fuel = f + 1 := ⟨fuel - 1, by omega⟩
    unfold fX1_uniteBestFreePair_13
    rw [e0, if_pos (by rw [nn_le (by omega) (by omega)]; omega)]
    show _ = uU k S (o)
    cases o with
    | none =>
      show bd1 (fX1_has k (-9999) S) _ = _
      rw [r1_hasN, nn_bd1, if_pos rfl]
      rfl
    | some p =>
      have hp := ho p rfl
      show bd1 (fX1_has k (nI p.1) S) _ = _
      rw [r1_has hW hE (show p.1 < n by omega), nn_bd1, if_neg (by decide)]
      show bd1 (fX1_has k (nI p.2) S) _ = _
      rw [r1_has hW hE hp.2.1, nn_bd1, if_neg (by decide)]
      rfl
  | succ d ih =>
    intro a fuel o ha hf ho
    obtain ⟨f, rfl⟩ : ∃ f, fuel = f + 1 := ⟨fuel - 1, by omega⟩
    unfold fX1_uniteBestFreePair_13
    rw [e0, if_neg (by rw [nn_le (by omega) (by omega)]; omega), li1, nn_add, c1_um2 hW hE (by omega) _ (n - (a + 1)) (a + 1) _ o (by omega) (by omega) (by omega) ho, ih (a + 1) f _ (by omega) (by omega) (ok_bst _ _ ho (ok_pin (by omega) (by omega)))]
    show _ = uU k S (bst v (pin a (a + 1) (n - (a + 1)) ++ pout n (a + 1) d) o)
    rw [bst_app]
/-- the best free pair -/
def bfp (v : tePg) (n : Nat) : Option (Nat × Nat) := bst v (pout n 0 n) none
theorem ok_bfp (v : tePg) (n : Nat) : okO v n (bfp v n) := ok_bst _ _ (fun q h => by cases h) (fun q hq => pout_mem n (by omega) hq)
theorem may_free {a b : Nat} (h : may v a b = true) : v (2 + 10 * a + 8) = -9999 ∧ v (2 + 10 * b + 8) = -9999 := by
  unfold may at h
  rw [Bool.and_eq_true, Bool.and_eq_true] at h
  exact ⟨of_decide_eq_true h.1.1, of_decide_eq_true h.1.2⟩
theorem r1_ubf (hW : WF n M v) (hE : PE n (S k) v) : (bfp v n = none ∧ fX1_uniteBestFreePair k S = some (0, S)) ∨ ∃ q p, bfp v n = some q ∧ fX1_uniteBestFreePair k S = some (1, tst S k p) ∧ PE n p (sUni v q.1 q.2) := by
  have h9 := hW.1
  have h := c1_um1 hW hE n 0 2000 none (by omega) (by omega) (fun q h => by cases h)
  have h2 : fX1_uniteBestFreePair k S = uU k S (bfp v n) := h
  cases hb : bfp v n with
  | none => rw [hb] at h2; exact Or.inl ⟨rfl, h2⟩
  | some q =>
    rw [hb] at h2
    obtain ⟨g1, g2, g3⟩ := ok_bfp v n q hb
    obtain ⟨f1, f2⟩ := may_free g3
    obtain ⟨p, e1, e2⟩ := r1_uni hW hE (show q.1 < n by omega) g2 (by omega) f1 f2
    refine Or.inr ⟨q, p, rfl, ?_, e2⟩
    rw [h2]
    show bd1 _ _ = _
    rw [e1, nn_bd1]
/-- matching in at most m steps -/
def mt (n : Nat) : Nat → tePg → Nat × tePg
  | 0, v => (0, v)
  | m + 1, v => match bfp v n with | none => (0, v) | some q => ((mt n m (sUni v q.1 q.2)).1 + 1, (mt n m (sUni v q.1 q.2)).2)
theorem wf_mt : ∀ (m : Nat) (v : tePg), WF n M v → WF n M (mt n m v).2
  | 0, v, h => h
  | m + 1, v, h => by
    rw [mt]
    cases hb : bfp v n with
    | none => exact h
    | some q =>
      obtain ⟨g1, g2, g3⟩ := ok_bfp v n q hb
      obtain ⟨f1, f2⟩ := may_free g3
      exact wf_mt m _ (wf_uni h (by omega) g2 (by omega) f1 f2)
theorem c1_mt : ∀ (m c fuel : Nat) (v : tePg) (S : teS), WF n M v → PE n (S k) v → c + m = 4 → m < fuel → ∃ p, fX1_matchFree_2 k fuel S (nI c) = some (nI (c + (mt n m v).1), tst S k p) ∧ PE n p (mt n m v).2
  | 0, c, fuel, v, S, hW, hE, hc, hf => by
    obtain ⟨f, rfl⟩ : ∃ f, fuel = f + 1 := ⟨fuel - 1, by omega⟩
    unfold fX1_matchFree_2
    rw [li4, le_if (by omega) (by omega), if_pos (by omega)]
    exact ⟨S k, by rw [tst_i]; rfl, hE⟩
  | m + 1, c, fuel, v, S, hW, hE, hc, hf => by
    obtain ⟨f, rfl⟩ : ∃ f, fuel = f + 1 := ⟨fuel - 1, by omega⟩
    unfold fX1_matchFree_2
    rw [li4, le_if (by omega) (by omega), if_neg (by omega), mt]
    rcases r1_ubf hW hE with ⟨hb, h⟩ | ⟨q, p, hb, h, hp⟩
    · rw [h, nn_bd2, if_pos rfl, hb]
      exact ⟨S k, by rw [tst_i]; rfl, hE⟩
    · rw [h, nn_bd2, if_neg (by decide), hb]
      obtain ⟨g1, g2, g3⟩ := ok_bfp v n q hb
      obtain ⟨f1, f2⟩ := may_free g3
      obtain ⟨p2, e1, e2⟩ := c1_mt m (c + 1) f (sUni v q.1 q.2) (tst S k p) (wf_uni hW (by omega) g2 (by omega) f1 f2) (by rw [tst_s]; exact hp) (by omega) (by omega)
      refine ⟨p2, ?_, e2⟩
      rw [li1, nn_add, e1, tst_t]
      show _ = some (nI (c + ((mt n m (sUni v q.1 q.2)).1 + 1)), _)
      rw [show c + 1 + (mt n m (sUni v q.1 q.2)).1 = c + ((mt n m (sUni v q.1 q.2)).1 + 1) by omega]
theorem r1_match (hW : WF n M v) (hE : PE n (S k) v) : ∃ p, fX1_matchFree k S = some (nI (mt n 4 v).1, tst S k p) ∧ PE n p (mt n 4 v).2 := by
  obtain ⟨p, h1, h2⟩ := c1_mt (k := k) 4 0 2000 v S hW hE rfl (by decide)
  exact ⟨p, by unfold fX1_matchFree; rw [li0, h1, Nat.zero_add], h2⟩
/-- the free members -/
def frc (v : tePg) (n : Nat) : Nat := t1 (fun a => bN (sFree v a)) n 0
theorem t1_upd {g f : Nat → Nat} {a : Nat} (h : ∀ i, i ≠ a → f i = g i) : ∀ d c, c ≤ a → a < c + d → t1 f d c + g a = t1 g d c + f a
  | 0, c, h1, h2 => by omega
  | d + 1, c, h1, h2 => by
    rw [t1, t1]
    by_cases hc : c = a
    · subst hc
      rw [t1_cong (g := f) (f := g) d (c + 1) (fun i h3 _ => h i (by omega))]
      omega
    · have := t1_upd h d (c + 1) (by omega) (by omega)
      rw [h c hc]
      omega
theorem t1_one {g : Nat → Nat} {a : Nat} : ∀ d c, c ≤ a → a < c + d → g a ≤ t1 g d c
  | 0, c, h1, h2 => by omega
  | d + 1, c, h1, h2 => by
    rw [t1]
    by_cases hc : c = a
    · subst hc; omega
    · have := t1_one (g := g) d (c + 1) (show c + 1 ≤ a by omega) (by omega)
      omega
theorem t1_two {g : Nat → Nat} {a b : Nat} (hab : a < b) : ∀ d c, c ≤ a → b < c + d → g a + g b ≤ t1 g d c
  | 0, c, h1, h2 => by omega
  | d + 1, c, h1, h2 => by
    rw [t1]
    by_cases hc : c = a
    · subst hc
      have := t1_one (g := g) d (c + 1) (show c + 1 ≤ b by omega) (by omega)
      omega
    · have := t1_two (g := g) hab d (c + 1) (show c + 1 ≤ a by omega) (by omega)
      omega
theorem frc_uni {a b : Nat} (h9 : n ≤ 9) (hab : a < b) (hb : b < n) (fa : v (2 + 10 * a + 8) = -9999) (fb : v (2 + 10 * b + 8) = -9999) : frc (sUni v a b) n + 2 = frc v n := by
  have ea : sFree (sUni v a b) a = false := sFree_f (b := b) (by unfold sUni; rw [tup_n _ _ (by omega), tup_s]) (by omega)
  have eb : sFree (sUni v a b) b = false := sFree_f (b := a) (by unfold sUni; rw [tup_s]) (by omega)
  have ec : ∀ c, c ≠ a → c ≠ b → sFree (sUni v a b) c = sFree v c := fun c h1 h2 => by
    unfold sFree sUni
    rw [tup_n _ _ (by omega), tup_n _ _ (by omega)]
  have h1 := t1_upd (g := fun c => bN (sFree v c)) (f := fun c => if c = a then 0 else bN (sFree v c)) (a := a) (fun i hi => if_neg hi) n 0 (by omega) (by omega)
  have h2 := t1_upd (g := fun c => if c = a then 0 else bN (sFree v c)) (f := fun c => bN (sFree (sUni v a b) c)) (a := b) (fun i hi => by
    show bN (sFree (sUni v a b) i) = if i = a then 0 else bN (sFree v i)
    by_cases h : i = a
    · subst h; rw [if_pos rfl, ea]; rfl
    · rw [if_neg h, ec i h hi]) n 0 (by omega) (by omega)
  simp only [if_true] at h1
  rw [sFree_t fa] at h1
  simp only [show ¬ b = a by omega, if_false] at h2
  rw [sFree_t fb, eb] at h2
  unfold frc
  have e1 : bN true = 1 := rfl
  have e2 : bN false = 0 := rfl
  rw [e1] at h1 h2
  rw [e2] at h2
  omega
theorem bfp_few (h : frc v n ≤ 1) : bfp v n = none := by
  cases hb : bfp v n with
  | none => rfl
  | some q =>
    obtain ⟨g1, g2, g3⟩ := ok_bfp v n q hb
    obtain ⟨f1, f2⟩ := may_free g3
    have := t1_two (g := fun a => bN (sFree v a)) g1 n 0 (by omega) (by omega)
    simp only [sFree_t f1, sFree_t f2] at this
    unfold frc at h
    have e1 : bN true = 1 := rfl
    omega
theorem frc_le (v : tePg) (n : Nat) : frc v n ≤ n := Nat.le_trans (t1_le (c := 1) (fun j => by unfold bN; split <;> omega) n 0) (by omega)
theorem mUni_free {a b : Nat} (fa : v (2 + 10 * a + 8) = -9999) (fb : v (2 + 10 * b + 8) = -9999) : mUni v a b = sUni v a b := by
  unfold mUni
  rw [mp_free (sFree_t fa), mp_free (sFree_t fb)]
theorem mt_le : ∀ (m : Nat) (v : tePg), (mt n m v).1 ≤ m
  | 0, v => Nat.le_refl _
  | m + 1, v => by
    rw [mt]
    cases hb : bfp v n with
    | none => exact Nat.zero_le _
    | some q => exact Nat.succ_le_succ (mt_le m _)
end S36
