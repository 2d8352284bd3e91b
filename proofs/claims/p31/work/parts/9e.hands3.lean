/-! HANDS: the best partner; when the pair breaks up -/
def bpO (v : tePg) (a : Nat) (y : Int32) (b : Nat) (o : Option Nat) : Prop := (o = none → ∀ e, e < b → bpn v a y e = false) ∧ ∀ c, o = some c → c < b ∧ bpn v a y c = true ∧ ∀ e, e < b → bpn v a y e = true → sSc v a e ≤ sSc v a c ∧ (sSc v a e = sSc v a c → c ≤ e)
section S9E
variable {n M : Nat} {v : tePg} {a : Nat} {y : Int32}
theorem bpO_s {b : Nat} {o : Option Nat} (h : bpO v a y b o) : bpO v a y (b + 1) (if bpn v a y b = true then bpo v a b o else o) := by
  obtain ⟨h1, h2⟩ := h
  cases hb : bpn v a y b
  · rw [ifF]
    refine ⟨fun e c hc => ?_, fun c hc => ?_⟩
    · by_cases hcb : c = b
      · rw [hcb]; exact hb
      · exact h1 e c (by omega)
    · obtain ⟨k1, k2, k3⟩ := h2 c hc
      refine ⟨by omega, k2, fun e he hf => ?_⟩
      by_cases heb : e = b
      · rw [heb, hb] at hf; cases hf
      · exact k3 e (by omega) hf
  · rw [ifT]
    cases o with
    | none =>
      refine ⟨fun e => (by cases e), fun c hc => ?_⟩
      have hc : some b = some c := hc
      cases hc
      refine ⟨by omega, hb, fun e he hf => ?_⟩
      by_cases heb : e = b
      · rw [heb]; exact ⟨Int32.le_refl _, fun _ => Nat.le_refl _⟩
      · rw [h1 rfl e (by omega)] at hf; cases hf
    | some c0 =>
      obtain ⟨k1, k2, k3⟩ := h2 c0 rfl
      have e0 : bpo v a b (some c0) = if sSc v a b ≤ sSc v a c0 then some c0 else some b := rfl
      rw [e0]
      by_cases hs : sSc v a b ≤ sSc v a c0
      · rw [if_pos hs]
        refine ⟨fun e => (by cases e), fun c hc => ?_⟩
        cases hc
        refine ⟨by omega, k2, fun e he hf => ?_⟩
        by_cases heb : e = b
        · rw [heb]; exact ⟨hs, fun _ => by omega⟩
        · exact k3 e (by omega) hf
      · rw [if_neg hs]
        refine ⟨fun e => (by cases e), fun c hc => ?_⟩
        cases hc
        have hlt := Int32.not_le.mp hs
        refine ⟨by omega, hb, fun e he hf => ?_⟩
        by_cases heb : e = b
        · rw [heb]; exact ⟨Int32.le_refl _, fun _ => Nat.le_refl _⟩
        · have k4 := (k3 e (by omega) hf).1
          have k5 := Int32.lt_of_le_of_lt k4 hlt
          exact ⟨Int32.le_of_lt k5, fun e2 => by rw [e2] at k5; exact (Int32.lt_irrefl k5).elim⟩
theorem bpO_all : ∀ (d b : Nat) (o : Option Nat), bpO v a y b o → bpO v a y (b + d) (bp v a y d b o)
  | 0, b, o, h => h
  | d + 1, b, o, h => by
    rw [bp_s, show b + (d + 1) = b + 1 + d by omega]
    exact bpO_all d (b + 1) _ (bpO_s h)
theorem bpO_n : bpO v a y n (bp v a y n 0 none) := by
  have := bpO_all (v := v) (a := a) (y := y) n 0 none ⟨fun _ e he => absurd he (by omega), fun c hc => by cases hc⟩
  rwa [Nat.zero_add] at this
theorem bpn_0 (b : Nat) : bpn v a 0 b = sFit v a b := by
  unfold bpn
  rw [decide_eq_true rfl, Bool.true_or, Bool.and_true]
theorem bpn_1 (b : Nat) : bpn v a 1 b = (sFit v a b && sFree v b) := by
  unfold bpn
  rw [decide_eq_false (show ¬ (1 : Int32) = 0 by decide), Bool.false_or]
theorem t1_0 {g : Nat → Nat} : ∀ (d c : Nat), (t1 g d c = 0 ↔ ∀ i, c ≤ i → i < c + d → g i = 0)
  | 0, c => ⟨fun _ i h1 h2 => by omega, fun _ => rfl⟩
  | d + 1, c => by
    have k := t1_0 (g := g) d (c + 1)
    have e : t1 g (d + 1) c = g c + t1 g d (c + 1) := rfl
    rw [e]
    constructor
    · intro h i h1 h2
      by_cases hic : i = c
      · rw [hic]; omega
      · exact k.mp (by omega) i (by omega) (by omega)
    · intro h
      have h1 := h c (Nat.le_refl _) (by omega)
      have h2 := k.mpr (fun i h1 h2 => h i (by omega) (by omega))
      omega
theorem fit_cnt (h9 : n ≤ 9) : (s1 (fun b => bI (sFit v a b)) n 0 0 = 0) ↔ ∀ b, b < n → sFit v a b = false := by
  have h1 : t1 (fun b => bN (sFit v a b)) n 0 ≤ 9 := Nat.le_trans (t1_le (c := 1) (fun j => by unfold bN; split <;> omega) n 0) (by omega)
  rw [s1_cong (f := fun b => nI (bN (sFit v a b))) n 0 0 (fun i _ _ => bI_N _)]
  have e : s1 (fun b => nI (bN (sFit v a b))) n 0 0 = nI (t1 (fun b => bN (sFit v a b)) n 0) := by
    have := s1_n (fun b => bN (sFit v a b)) n 0 0
    rw [Nat.zero_add] at this
    exact this
  rw [e, nn_eq0 (by omega), t1_0]
  constructor
  · intro h b hb
    have := h b (Nat.zero_le _) (by omega)
    cases hf : sFit v a b
    · rfl
    · have h2 : bN (sFit v a b) = 0 := this
      rw [hf] at h2
      cases h2
  · intro h i _ hi
    show bN (sFit v a i) = 0
    rw [h i (by omega)]; rfl
/-- the partner stays or is gone -/
theorem wks_wf (x : Int32) : ∀ (j M : Nat) (v : tePg), WF n M v → M + 9 * j < 100000 → WF n (M + 9 * j) (wks n x j v)
  | 0, M, v, hW, hM => hW
  | j + 1, M, v, hW, hM => by
    have h1 := wf_week hW (by omega) x
    have h2 := wks_wf x j (M + 9) _ h1 (by omega)
    rw [show M + 9 + 9 * j = M + 9 * (j + 1) by omega] at h2
    exact h2
theorem wks_par (x : Int32) (ha : a < n) : ∀ (j M : Nat) (v : tePg), WF n M v → M + 9 * j < 100000 → wks n x j v (2 + 10 * a + 8) = v (2 + 10 * a + 8) ∨ wks n x j v (2 + 10 * a + 8) = -9999
  | 0, M, v, hW, hM => Or.inl rfl
  | j + 1, M, v, hW, hM => by
    have h9 := hW.1
    have h1 := wf_week hW (by omega) x
    have h2 := wks_par x ha j (M + 9) _ h1 (by omega)
    have h3 : sWeek n x v (2 + 10 * a + 8) = v (2 + 10 * a + 8) ∨ sWeek n x v (2 + 10 * a + 8) = -9999 := by
      obtain ⟨-, -, hw⟩ := week_row hW (by omega) x
      cases ho : sOk (mts n x n 0 v) a
      · exact Or.inr ((hw a ha).2.2 ho).1
      · exact Or.inl ((hw a ha).2.1 ho).1
    show wks n x j (sWeek n x v) (2 + 10 * a + 8) = _ ∨ wks n x j (sWeek n x v) (2 + 10 * a + 8) = _
    rcases h2 with h2 | h2
    · rw [h2]; exact h3
    · exact Or.inr h2
theorem paA_c (x : Int32) : ∀ (d c : Nat) (v : tePg), paA n a x d c v = -9999 ∨ ∃ k, k < d ∧ paA n a x d c v = nI (c + k) ∧ sFree (wks n x (k + 1) v) a = true ∧ ∀ j, j < k → sFree (wks n x (j + 1) v) a = false
  | 0, c, v => Or.inl rfl
  | d + 1, c, v => by
    rw [paA]
    cases hf : sFree (sWeek n x v) a
    · rw [ifF]
      rcases paA_c x d (c + 1) (sWeek n x v) with h | ⟨k, h1, h2, h3, h4⟩
      · exact Or.inl h
      · refine Or.inr ⟨k + 1, by omega, by rw [h2]; congr 1; omega, h3, fun j hj => ?_⟩
        cases j with
        | zero => exact hf
        | succ j => exact h4 j (by omega)
    · rw [ifT]
      exact Or.inr ⟨0, by omega, rfl, hf, fun j hj => by omega⟩
end S9E
section S9Eb
variable {b : aS}
theorem bp_t {a : Nat} (h9 : aN b ≤ 9) (ha : a < aN b) (y : Int32) : A_tryBestPartner b (nI a) y = oI (bp (aV b) a y (aN b) 0 none) := by
  unfold A_tryBestPartner
  rw [isM_a ha (by omega), ifT, nn_tn (by omega)]
theorem fit_ne {v : tePg} {a c : Nat} (h : sFit v a c = true) : a ≠ c := by
  rintro rfl
  rw [sFit_self] at h
  cases h
theorem hd_657 (x1 : Int32) (h9 : aN b ≤ 9) {a : Nat} (ha : a < aN b) (v3 v14 : Int32) : ∀ (d j fuel : Nat), j + d = aN b → d < fuel → hL_hands_657 x1 fuel b (nI (aN b)) v3 (nI a) 1 v14 (oI (bp (aV b) a 0 (aN b) 0 none)) (nI j) = hL_hands_762 x1 b v3 (nI a) 1 v14
  | 0, j, fuel, h, hf => by
    obtain ⟨f, rfl⟩ : ∃ f, fuel = f + 1 := ⟨fuel - 1, by omega⟩
    rw [hL_hands_657, if_pos (by rw [nn_le (by omega) (by omega)]; omega)]
  | d + 1, j, fuel, h, hf => by
    obtain ⟨f, rfl⟩ : ∃ f, fuel = f + 1 := ⟨fuel - 1, by omega⟩
    have k := hd_657 x1 h9 ha v3 v14 d (j + 1) f (by omega) (by omega)
    rw [← nn_add j 1] at k
    have hO := bpO_n (v := aV b) (a := a) (y := 0) (n := aN b)
    generalize bp (aV b) a 0 (aN b) 0 none = o at k hO ⊢
    have k0 : hL_hands_693 x1 (hL_hands_657 x1 f) b (nI (aN b)) v3 (nI a) v14 (oI o) (nI j) 0 = hL_hands_762 x1 b v3 (nI a) 1 v14 := by
      unfold hL_hands_693
      rw [if_pos rfl]
      exact k
    rw [hL_hands_657, if_neg (by rw [nn_le (by omega) (by omega)]; omega), if_neg i1_0, eq_if (by omega) (by omega)]
    by_cases hja : j = a
    · rw [if_pos hja]
      exact k0
    · rw [if_neg hja, bo_2 h9 ha (show j < aN b by omega) (fun e => hja e.symm)]
      cases hf : sFit (aV b) a j
      · rw [if_neg (show ¬ bI false = 1 by decide)]
        exact k0
      · rw [if_pos (show bI true = 1 from rfl)]
        cases o with
        | none =>
          have := hO.1 rfl j (by omega)
          rw [bpn_0, hf] at this
          cases this
        | some c =>
          obtain ⟨c1, c2, c3⟩ := hO.2 c rfl
          rw [bpn_0] at c2
          obtain ⟨k1, k2⟩ := c3 j (by omega) (by rw [bpn_0]; exact hf)
          unfold hL_hands_693
          rw [if_neg i1_0, show oI (some c) = nI c from rfl, bo_0 h9 ha (show j < aN b by omega) (fun e => hja e.symm), bo_0 h9 ha c1 (fit_ne c2)]
          by_cases hlt : sSc (aV b) a j < sSc (aV b) a c
          · rw [if_pos hlt]
            exact k
          · have heq : sSc (aV b) a j = sSc (aV b) a c := Int32.le_antisymm k1 (Int32.not_lt.mp hlt)
            rw [if_neg hlt, if_pos heq, if_neg (by rw [nn_lt (by omega) (by omega)]; have := k2 heq; omega)]
            exact k
theorem hd_539 (x1 : Int32) (h9 : aN b ≤ 9) {a : Nat} (ha : a < aN b) (v3 v14 : Int32) : hL_hands_539 x1 b (nI (aN b)) v3 (nI a) v14 1 = hL_hands_762 x1 b v3 (nI a) 1 v14 := by
  have k := hd_657 x1 h9 ha v3 v14 (aN b) 0 10 (Nat.zero_add _) (by omega)
  have hO := bpO_n (v := aV b) (a := a) (y := 0) (n := aN b)
  have hO1 := bpO_n (v := aV b) (a := a) (y := 1) (n := aN b)
  unfold hL_hands_539
  rw [if_neg i1_0, bp_t h9 ha, bp_t h9 ha, mb_10 h9 ha]
  have hc := fit_cnt (v := aV b) (a := a) h9
  generalize bp (aV b) a 0 (aN b) 0 none = o at k hO ⊢
  generalize bp (aV b) a 1 (aN b) 0 none = o1 at hO1 ⊢
  have k593 : ∀ y : Int32, hL_hands_593 x1 b (nI (aN b)) v3 (nI a) v14 (oI o) (oI o1) y y = hL_hands_762 x1 b v3 (nI a) 1 v14 := fun y => by
    unfold hL_hands_593
    rw [if_pos rfl]
    cases o1 with
    | none =>
      rw [if_pos (show oI none = -9999 from rfl)]
      exact k
    | some c1 =>
      obtain ⟨e1, e2, e3⟩ := hO1.2 c1 rfl
      rw [bpn_1, Bool.and_eq_true] at e2
      rw [if_neg (show ¬ oI (some c1) = -9999 by show ¬ nI c1 = -9999; rw [nn_NI (by omega)]; exact not_false)]
      cases o with
      | none =>
        have := hO.1 rfl c1 e1
        rw [bpn_0, e2.1] at this
        cases this
      | some c =>
        obtain ⟨f1, f2, f3⟩ := hO.2 c rfl
        rw [bpn_0] at f2
        have hle := (f3 c1 e1 (by rw [bpn_0]; exact e2.1)).1
        rw [if_neg (show ¬ oI (some c) = -9999 by show ¬ nI c = -9999; rw [nn_NI (by omega)]; exact not_false), show oI (some c1) = nI c1 from rfl, show oI (some c) = nI c from rfl, mem_8 h9 e1, if_pos (of_decide_eq_true e2.2), bo_0 h9 ha f1 (fit_ne f2), bo_0 h9 ha e1 (fit_ne e2.1), if_neg (Int32.not_lt.mpr hle)]
        exact k
  cases o with
  | none =>
    have h0 : s1 (fun b_1 => bI (sFit (aV b) a b_1)) (aN b) 0 0 = 0 := hc.mpr (fun e he => by
      have := hO.1 rfl e he
      rwa [bpn_0] at this)
    rw [if_pos (show oI none = -9999 from rfl), if_pos h0]
    exact k593 1
  | some c =>
    obtain ⟨f1, f2, f3⟩ := hO.2 c rfl
    rw [bpn_0] at f2
    have h0 : ¬ s1 (fun b_1 => bI (sFit (aV b) a b_1)) (aN b) 0 0 = 0 := fun h => by
      have := hc.mp h c f1
      rw [f2] at this
      cases this
    rw [if_neg (show ¬ oI (some c) = -9999 by show ¬ nI c = -9999; rw [nn_NI (by omega)]; exact not_false), if_neg h0]
    exact k593 0
end S9Eb
