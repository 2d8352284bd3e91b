/-! THE BEST MATCHING as a list of pairs -/
def fl : List (Nat × Nat) → List Nat
  | [] => []
  | q :: ps => q.1 :: q.2 :: fl ps
def mok (ft : Nat → Nat → Bool) (l : List Nat) (ps : List (Nat × Nat)) : Prop := (fl ps).Nodup ∧ (∀ x, x ∈ fl ps → x ∈ l) ∧ ∀ q, q ∈ ps → ft q.1 q.2 = true
def mval (W : Nat → Nat → Int) : List (Nat × Nat) → Int
  | [] => 0
  | q :: ps => W q.1 q.2 + mval W ps
theorem fl_perm {ps qs : List (Nat × Nat)} (h : ps.Perm qs) : (fl ps).Perm (fl qs) := by
  induction h with
  | nil => exact List.Perm.refl _
  | cons x _ ih => exact (ih.cons _).cons _
  | swap x y l =>
    show (y.1 :: y.2 :: x.1 :: x.2 :: fl l).Perm (x.1 :: x.2 :: y.1 :: y.2 :: fl l)
    have h1 : (y.2 :: x.1 :: x.2 :: fl l).Perm (x.1 :: x.2 :: y.2 :: fl l) := ((List.Perm.swap _ _ _).trans ((List.Perm.swap _ _ _).cons _))
    have h2 : (y.1 :: x.1 :: x.2 :: y.2 :: fl l).Perm (x.1 :: x.2 :: y.1 :: y.2 :: fl l) := ((List.Perm.swap _ _ _).trans ((List.Perm.swap _ _ _).cons _))
    exact (h1.cons _).trans h2
  | trans _ _ ih1 ih2 => exact ih1.trans ih2
theorem mval_perm (W : Nat → Nat → Int) {ps qs : List (Nat × Nat)} (h : ps.Perm qs) : mval W ps = mval W qs := by
  induction h with
  | nil => rfl
  | cons x _ ih => show W x.1 x.2 + _ = W x.1 x.2 + _; rw [ih]
  | swap x y l => show W y.1 y.2 + (W x.1 x.2 + mval W l) = W x.1 x.2 + (W y.1 y.2 + mval W l); omega
  | trans _ _ ih1 ih2 => exact ih1.trans ih2
theorem mok_perm {ft : Nat → Nat → Bool} {l : List Nat} {ps qs : List (Nat × Nat)} (h : ps.Perm qs) (hm : mok ft l ps) : mok ft l qs :=
  ⟨(fl_perm h).nodup_iff.mp hm.1, fun x hx => hm.2.1 x ((fl_perm h).mem_iff.mpr hx), fun q hq => hm.2.2 q (h.mem_iff.mpr hq)⟩
theorem fl_mem {x : Nat} : ∀ {ps : List (Nat × Nat)}, x ∈ fl ps → ∃ q, q ∈ ps ∧ (x = q.1 ∨ x = q.2)
  | [], h => by cases h
  | q :: ps, h => by
    rcases List.mem_cons.mp h with h | h
    · exact ⟨q, List.mem_cons_self, Or.inl h⟩
    · rcases List.mem_cons.mp h with h | h
      · exact ⟨q, List.mem_cons_self, Or.inr h⟩
      · obtain ⟨p, h1, h2⟩ := fl_mem h
        exact ⟨p, List.mem_cons_of_mem _ h1, h2⟩
theorem mem_fl {q : Nat × Nat} : ∀ {ps : List (Nat × Nat)}, q ∈ ps → q.1 ∈ fl ps ∧ q.2 ∈ fl ps
  | [], h => by cases h
  | p :: ps, h => by
    rcases List.mem_cons.mp h with h | h
    · subst h
      exact ⟨List.mem_cons_self, List.mem_cons_of_mem _ List.mem_cons_self⟩
    · obtain ⟨h1, h2⟩ := mem_fl h
      exact ⟨List.mem_cons_of_mem _ (List.mem_cons_of_mem _ h1), List.mem_cons_of_mem _ (List.mem_cons_of_mem _ h2)⟩
theorem fl_len : ∀ (ps : List (Nat × Nat)), (fl ps).length = 2 * ps.length
  | [] => rfl
  | q :: ps => by
    show (fl ps).length + 1 + 1 = 2 * (ps.length + 1)
    rw [fl_len ps]; omega
section S81
variable {ft : Nat → Nat → Bool} {W : Nat → Nat → Int}
/-- no pair, or one ahead of all -/
theorem mok_front (hs : ∀ a b, ft a b = ft b a) (hw : ∀ a b, W a b = W b a) {l : List Nat} {ps : List (Nat × Nat)} (hm : mok ft l ps) {a : Nat} (ha : a ∈ fl ps) : ∃ b ps', mok ft l ((a, b) :: ps') ∧ mval W ps = W a b + mval W ps' ∧ ps.length = ps'.length + 1 := by
  obtain ⟨q, hq, hx⟩ := fl_mem ha
  have hp := List.perm_cons_erase hq
  have h2 := mok_perm hp hm
  have hv := mval_perm W hp
  have hlen : ps.length = (ps.erase q).length + 1 := hp.length_eq
  rcases hx with hx | hx
  · refine ⟨q.2, ps.erase q, ?_, ?_, hlen⟩
    · rw [hx]; exact h2
    · rw [hv, hx]; rfl
  · refine ⟨q.1, ps.erase q, ?_, ?_, hlen⟩
    · rw [hx]
      refine ⟨?_, fun y hy => h2.2.1 y ?_, fun p hp2 => ?_⟩
      · exact (List.Perm.swap q.2 q.1 _).nodup_iff.mp h2.1
      · exact (List.Perm.swap q.2 q.1 _).mem_iff.mpr hy
      · rcases List.mem_cons.mp hp2 with h | h
        · subst h
          rw [hs]
          exact h2.2.2 q List.mem_cons_self
        · exact h2.2.2 p (List.mem_cons_of_mem _ h)
    · rw [hv, hx, hw q.2 q.1]; rfl
theorem BD_mok (hs : ∀ a b, ft a b = ft b a) (hw : ∀ a b, W a b = W b a) : ∀ (d : Nat) (l : List Nat), l.length ≤ d → l.Nodup → ∀ x, BD ft W d l x ↔ ∀ ps, mok ft l ps → mval W ps ≤ x
  | d, [], hl, hn, x => by
    have h0 : BD ft W d [] x ↔ 0 ≤ x := by
      cases d
      · exact Iff.rfl
      · exact Iff.rfl
    rw [h0]
    constructor
    · intro h ps hm
      cases ps with
      | nil => exact h
      | cons q ps => exact absurd (hm.2.1 q.1 List.mem_cons_self) List.not_mem_nil
    · intro h
      exact h [] ⟨List.nodup_nil, fun x hx => hx, fun q hq => by cases hq⟩
  | 0, a :: r, hl, hn, x => absurd hl (by show ¬ r.length + 1 ≤ 0; omega)
  | d + 1, a :: r, hl, hn, x => by
    have hlr : r.length ≤ d := by have : r.length + 1 ≤ d + 1 := hl; omega
    have hnr := (List.nodup_cons.mp hn).2
    have har := (List.nodup_cons.mp hn).1
    rw [BD_c, BD_mok hs hw d r hlr hnr x]
    constructor
    · rintro ⟨h1, h2⟩ ps hm
      by_cases ha : a ∈ fl ps
      · obtain ⟨b, ps', k1, k2, -⟩ := mok_front hs hw hm ha
        have hb : b ∈ a :: r := k1.2.1 b (List.mem_cons_of_mem _ List.mem_cons_self)
        have hab : b ≠ a := by
          rintro rfl
          exact (List.nodup_cons.mp k1.1).1 List.mem_cons_self
        have hbr : b ∈ r := (List.mem_cons.mp hb).resolve_left hab
        have n1 := (List.nodup_cons.mp k1.1)
        have n2 := (List.nodup_cons.mp n1.2)
        have h3 := (BD_mok hs hw d (r.erase b) (Nat.le_trans List.length_erase_le hlr) (hnr.erase b) (x - W a b)).mp (h2 b hbr (k1.2.2 (a, b) List.mem_cons_self)) ps' ⟨n2.2, fun y hy => ?_, fun q hq => k1.2.2 q (List.mem_cons_of_mem _ hq)⟩
        · rw [k2]; omega
        · have y1 : y ≠ a := by
            rintro rfl
            exact n1.1 (List.mem_cons_of_mem _ hy)
          have y2 : y ≠ b := by
            rintro rfl
            exact n2.1 hy
          have y3 := (List.mem_cons.mp (k1.2.1 y (List.mem_cons_of_mem _ (List.mem_cons_of_mem _ hy)))).resolve_left y1
          exact (List.mem_erase_of_ne y2).mpr y3
      · exact h1 ps ⟨hm.1, fun y hy => (List.mem_cons.mp (hm.2.1 y hy)).resolve_left (by rintro rfl; exact ha hy), hm.2.2⟩
    · intro h
      refine ⟨fun ps hm => h ps ⟨hm.1, fun y hy => List.mem_cons_of_mem _ (hm.2.1 y hy), hm.2.2⟩, fun b hb hf => ?_⟩
      rw [BD_mok hs hw d (r.erase b) (Nat.le_trans List.length_erase_le hlr) (hnr.erase b)]
      intro ps hm
      have hab : a ≠ b := by
        rintro rfl
        exact har hb
      have h1 := h ((a, b) :: ps) ⟨?_, fun y hy => ?_, fun q hq => ?_⟩
      · have h2 : W a b + mval W ps ≤ x := h1
        omega
      · refine List.nodup_cons.mpr ⟨fun h2 => ?_, List.nodup_cons.mpr ⟨fun h2 => ?_, hm.1⟩⟩
        · rcases List.mem_cons.mp h2 with h3 | h3
          · exact hab h3
          · exact har (List.mem_of_mem_erase (hm.2.1 a h3))
        · exact hnr.not_mem_erase (hm.2.1 b h2)
      · rcases List.mem_cons.mp hy with h2 | h2
        · rw [h2]; exact List.mem_cons_self
        · rcases List.mem_cons.mp h2 with h3 | h3
          · rw [h3]; exact List.mem_cons_of_mem _ hb
          · exact List.mem_cons_of_mem _ (List.mem_of_mem_erase (hm.2.1 y h3))
      · rcases List.mem_cons.mp hq with h2 | h2
        · rw [h2]; exact hf
        · exact hm.2.2 q h2
theorem Val_mok (hs : ∀ a b, ft a b = ft b a) (hw : ∀ a b, W a b = W b a) {l : List Nat} (hn : l.Nodup) {r : Int} (h : Val ft W l r) : (∀ ps, mok ft l ps → mval W ps ≤ r) ∧ ∃ ps, mok ft l ps ∧ mval W ps = r := by
  have h1 : ∀ ps, mok ft l ps → mval W ps ≤ r := (BD_mok hs hw _ l (Nat.le_refl _) hn r).mp ((h _ (Nat.le_refl _) r).mp (Int.le_refl r))
  refine ⟨h1, ?_⟩
  have h2 : ¬ ∀ ps, mok ft l ps → mval W ps ≤ r - 1 := fun h3 => by
    have := (h _ (Nat.le_refl _) (r - 1)).mpr ((BD_mok hs hw _ l (Nat.le_refl _) hn (r - 1)).mpr h3)
    omega
  have h3 : ∃ ps, ¬ (mok ft l ps → mval W ps ≤ r - 1) := Classical.not_forall.mp h2
  obtain ⟨ps, h4⟩ := h3
  have h5 : mok ft l ps := Classical.byContradiction fun h6 => h4 fun h7 => absurd h7 h6
  have h6 := h1 ps h5
  have h7 : ¬ mval W ps ≤ r - 1 := fun h8 => h4 fun _ => h8
  exact ⟨ps, h5, by omega⟩
end S81
/-- pairs and their values -/
def msum (v : tePg) : List (Nat × Nat) → Int
  | [] => 0
  | q :: ps => (sVal v q.1 q.2).toInt + msum v ps
theorem mval_ms (v : tePg) : ∀ (ps : List (Nat × Nat)), mval (Wt v) ps = 1000000 * (ps.length : Int) + msum v ps
  | [] => rfl
  | q :: ps => by
    show Wt v q.1 q.2 + mval (Wt v) ps = 1000000 * ((ps.length + 1 : Nat) : Int) + ((sVal v q.1 q.2).toInt + msum v ps)
    rw [mval_ms v ps]
    unfold Wt
    omega
section S81b
variable {n M : Nat} {v : tePg}
abbrev mOK (v : tePg) (l : List Nat) (ps : List (Nat × Nat)) : Prop := mok (sFit v) l ps
theorem msum_b (hW : WF n M v) (hM : M ≤ 5000) {l : List Nat} (hl : ∀ x, x ∈ l → x < n) : ∀ (ps : List (Nat × Nat)), (∀ x, x ∈ fl ps → x ∈ l) → -50300 * (ps.length : Int) ≤ msum v ps ∧ msum v ps ≤ 50300 * (ps.length : Int)
  | [], _ => ⟨Int.le_refl 0, Int.le_refl 0⟩
  | q :: ps, h => by
    obtain ⟨h1, h2⟩ := msum_b hW hM hl ps (fun x hx => h x (List.mem_cons_of_mem _ (List.mem_cons_of_mem _ hx)))
    obtain ⟨k1, k2⟩ := vl_b hW hM (hl _ (h q.1 List.mem_cons_self)) (hl _ (h q.2 (List.mem_cons_of_mem _ List.mem_cons_self)))
    have e : ((q :: ps).length : Int) = (ps.length : Int) + 1 := by
      show ((ps.length + 1 : Nat) : Int) = _
      omega
    rw [e]
    show _ ≤ (sVal v q.1 q.2).toInt + msum v ps ∧ (sVal v q.1 q.2).toInt + msum v ps ≤ _
    omega
theorem mok_few {l : List Nat} {ps : List (Nat × Nat)} (hm : mOK v l ps) : 2 * ps.length ≤ l.length := by
  rw [← fl_len]
  exact hm.1.length_le_of_subset (fun x hx => hm.2.1 x hx)
/-- the best: pairs, then the sum -/
noncomputable def bR (v : tePg) (l : List Nat) : Int := Classical.epsilon (VL v l)
def bPz (r : Int) : Nat := ((r + 500000) / 1000000).toNat
theorem bR_of {l : List Nat} {r : Int} (h : VL v l r) : bR v l = r := Val_uniq (Classical.epsilon_spec (p := VL v l) ⟨r, h⟩) h
theorem bR_ex (hW : WF n M v) (hM : M ≤ 5000) {m : Nat} (hm : m < 2 ^ n) : VL v (sm n m) (bR v (sm n m)) := by
  obtain ⟨g, -, h2⟩ := r0_fill (S := fun _ => v) hW hM (PE_rf n v)
  rw [bR_of (h2 m hm)]
  exact h2 m hm
/-- what the best of a list is -/
theorem best_of (hW : WF n M v) (hM : M ≤ 5000) {l : List Nat} (hn : l.Nodup) (hl : ∀ x, x ∈ l → x < n) {r : Int} (h : VL v l r) : ∃ ps, mOK v l ps ∧ r = 1000000 * (ps.length : Int) + msum v ps ∧ ps.length ≤ 4 ∧ bPz r = ps.length ∧ -300000 < msum v ps ∧ msum v ps < 300000 ∧ ∀ qs, mOK v l qs → qs.length ≤ ps.length ∧ (qs.length = ps.length → msum v qs ≤ msum v ps) := by
  obtain ⟨h1, ps, h2, h3⟩ := Val_mok (sFit_c v) (Wt_c v) hn h
  have h9 := hW.1
  have hlen : l.length ≤ n := by
    have : l.length ≤ (List.range n).length := hn.length_le_of_subset (fun x hx => List.mem_range.mpr (hl x hx))
    rwa [List.length_range] at this
  have hp4 : ps.length ≤ 4 := by have := mok_few h2; omega
  obtain ⟨b1, b2⟩ := msum_b hW hM hl ps h2.2.1
  rw [mval_ms] at h3
  refine ⟨ps, h2, h3.symm, hp4, ?_, by omega, by omega, fun qs hq => ?_⟩
  · unfold bPz
    rw [← h3]
    omega
  · have hq4 : qs.length ≤ 4 := by have := mok_few hq; omega
    obtain ⟨c1, c2⟩ := msum_b hW hM hl qs hq.2.1
    have h4 := h1 qs hq
    rw [mval_ms, ← h3] at h4
    constructor
    · omega
    · intro e
      rw [e] at h4
      omega
end S81b
