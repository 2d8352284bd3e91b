/-! THE BEST MATCHING against the present one, and against who fits -/
/-- the present pairs, from a on -/
def curL (n : Nat) (v : tePg) : Nat → Nat → List (Nat × Nat)
  | 0, _ => []
  | d + 1, a => if gp n v a = -9999 then curL n v d (a + 1) else (a, pp v a) :: curL n v d (a + 1)
def fitL (n : Nat) (v : tePg) : List (Nat × Nat) := (pout n 0 n).filter fun q => sFit v q.1 q.2
def nrm (q : Nat × Nat) : Nat × Nat := if q.1 < q.2 then q else (q.2, q.1)
section S95
variable {n M : Nat} {v : tePg}
theorem pin_in {a : Nat} : ∀ (d c b : Nat), c ≤ b → b < c + d → (a, b) ∈ pin a c d
  | 0, c, b, h1, h2 => by omega
  | d + 1, c, b, h1, h2 => by
    by_cases h : b = c
    · subst h; exact List.mem_cons_self
    · exact List.mem_cons_of_mem _ (pin_in d (c + 1) b (by omega) (by omega))
theorem pout_in {n : Nat} : ∀ (d c a b : Nat), c + d = n → c ≤ a → a < b → b < n → (a, b) ∈ pout n c d
  | 0, c, a, b, h, h1, h2, h3 => by omega
  | d + 1, c, a, b, h, h1, h2, h3 => by
    rw [pout]
    by_cases hac : a = c
    · subst hac
      exact List.mem_append_left _ (pin_in _ _ _ (by omega) (by omega))
    · exact List.mem_append_right _ (pout_in d (c + 1) a b (by omega) (by omega) h2 h3)
theorem sf_cnt (P : Nat → Nat → Bool) : ∀ (l : List (Nat × Nat)) (k : Nat), sf (fun x y => bI (P x y)) l (nI k) = nI (k + (l.filter fun q => P q.1 q.2).length)
  | [], k => rfl
  | q :: l, k => by
    rw [sf]
    cases h : P q.1 q.2
    · rw [show bI false = 0 from rfl, a_0, sf_cnt P l k, List.filter_cons_of_neg (by rw [h]; decide)]
    · rw [show bI true = nI 1 from rfl, nn_add, sf_cnt P l (k + 1), List.filter_cons_of_pos (p := fun q : Nat × Nat => P q.1 q.2) h, List.length_cons, show k + 1 + (l.filter fun q => P q.1 q.2).length = k + ((l.filter fun q => P q.1 q.2).length + 1) by omega]
theorem pin_len (a : Nat) : ∀ d c, (pin a c d).length = d
  | 0, _ => rfl
  | d + 1, c => by rw [pin, List.length_cons, pin_len a d]
theorem pout_len (n : Nat) : ∀ d c, (pout n c d).length ≤ d * n
  | 0, _ => by rw [Nat.zero_mul]; exact Nat.le_refl _
  | d + 1, c => by
    rw [pout, List.length_append, pin_len]
    have := pout_len n d (c + 1)
    rw [Nat.succ_mul]
    omega
theorem tot_prs (hW : WF n M v) : sf (gO v 0) (pout n 0 n) 0 = nPrs n v := by
  unfold nPrs
  rw [sf_out (gO v 0) (fun a => if gp n v a = -9999 then 0 else 1) n (fun a ha => one_par hW ha (fun _ => 1)) n 0 0 (by omega)]
theorem tot_sov (hW : WF n M v) : sf (gO v 1) (pout n 0 n) 0 = nSov n v := by
  unfold nSov
  rw [sf_out (gO v 1) (fun a => if gp n v a = -9999 then 0 else sVal v a (pp v a)) n (fun a ha => one_par hW ha (fun b => sVal v a b)) n 0 0 (by omega)]
theorem tot_fts (hW : WF n M v) : sf (gO v 3) (pout n 0 n) 0 = nFts n v := by
  have h9 := hW.1
  unfold nFts
  rw [sf_out (gO v 3) (fun a => s1 (fun b => bI (sFit v a b)) (n - (a + 1)) (a + 1) 0) n (fun a ha => rfl) n 0 0 (by omega)]
  have e1 : ∀ m c a, s1 (fun b => bI (sFit v a b)) m c 0 = nI (t1 (fun b => bN (sFit v a b)) m c) := by
    intro m c a
    rw [s1_cong (f := fun b => nI (bN (sFit v a b))) m c 0 (fun i _ _ => bI_N _), li0, s1_n, Nat.zero_add]
  rw [s1_cong (f := fun a => nI (t1 (fun b => bN (sFit v a b)) (n - (a + 1)) (a + 1))) n 0 0 (fun i _ _ => e1 _ _ _), s1_cong (g := fun a => s1 (fun b => bI (sFit v a b)) n 0 0) (f := fun a => nI (t1 (fun b => bN (sFit v a b)) n 0)) n 0 0 (fun i _ _ => e1 _ _ _), li0, s1_n, s1_n, Nat.zero_add, Nat.zero_add]
  have h2 := t1_sym (fun a b => bN (sFit v a b)) (fun a => by show bN (sFit v a a) = 0; rw [sFit_self]; rfl) (fun a b => by show bN (sFit v a b) = bN (sFit v b a); rw [sFit_sym]) n
  have h3 : t1 (fun a => t1 (fun b => bN (sFit v a b)) (n - (a + 1)) (a + 1)) n 0 ≤ 1000 := by
    have hb : ∀ i, t1 (fun b => bN (sFit v i b)) n 0 ≤ 9 := fun i => Nat.le_trans (t1_le (c := 1) (fun j => by unfold bN; split <;> omega) n 0) (by omega)
    have h4 := t1_le hb n 0
    have h5 : n * 9 ≤ 81 := by omega
    have h6 : t1 (fun a => t1 (fun b => bN (sFit v a b)) n 0) n 0 ≤ 81 := Nat.le_trans h4 h5
    omega
  rw [h2, nn_div (by omega) (by decide) (by decide)]
  congr 1
  omega
theorem fts_len (hW : WF n M v) : nFts n v = nI (fitL n v).length ∧ (fitL n v).length ≤ 81 := by
  have h9 := hW.1
  refine ⟨?_, ?_⟩
  · rw [← tot_fts hW]
    have e : gO v 3 = fun x y => bI (sFit v x y) := rfl
    rw [e, li0, sf_cnt, Nat.zero_add]; rfl
  · have h1 : (fitL n v).length ≤ (pout n 0 n).length := List.length_filter_le _ _
    have h2 := pout_len n n 0
    have h3 : n * n ≤ 9 * 9 := Nat.mul_le_mul h9 h9
    omega
theorem nrm_lt {q : Nat × Nat} (h : q.1 ≠ q.2) : (nrm q).1 < (nrm q).2 := by
  unfold nrm
  split
  · assumption
  · show q.2 < q.1
    omega
theorem nrm_eq {p q : Nat × Nat} (h : nrm p = nrm q) : q.1 = p.1 ∨ q.1 = p.2 := by
  unfold nrm at h
  split at h <;> split at h
  · left; rw [h]
  · right; rw [h]
  · right
    have := congrArg Prod.fst h
    exact this.symm
  · left
    have := congrArg Prod.snd h
    exact this.symm
theorem nrm_nd : ∀ (ps : List (Nat × Nat)), (fl ps).Nodup → (ps.map nrm).Nodup
  | [], _ => List.nodup_nil
  | q :: ps, h => by
    have h1 := List.nodup_cons.mp h
    have h2 := List.nodup_cons.mp h1.2
    refine List.nodup_cons.mpr ⟨fun hm => ?_, nrm_nd ps h2.2⟩
    obtain ⟨p, hp, e⟩ := List.mem_map.mp hm
    have h3 := mem_fl hp
    rcases nrm_eq e with h4 | h4
    · exact h1.1 (List.mem_cons_of_mem _ (by rw [h4]; exact h3.1))
    · exact h1.1 (List.mem_cons_of_mem _ (by rw [h4]; exact h3.2))
/-- no matching has more pairs than there are that fit -/
theorem mok_fit {l : List Nat} (hl : ∀ x, x ∈ l → x < n) {ps : List (Nat × Nat)} (hm : mOK v l ps) : ps.length ≤ (fitL n v).length := by
  have h1 := nrm_nd ps hm.1
  have h2 : (ps.map nrm).length ≤ (fitL n v).length := h1.length_le_of_subset (fun x hx => by
    obtain ⟨q, hq, rfl⟩ := List.mem_map.mp hx
    have h3 := mem_fl hq
    have hf := hm.2.2 q hq
    have hne : q.1 ≠ q.2 := fun e => by
      rw [e, sFit_self] at hf
      cases hf
    have ha := hl _ (hm.2.1 _ h3.1)
    have hb := hl _ (hm.2.1 _ h3.2)
    refine List.mem_filter.mpr ⟨?_, ?_⟩
    · have h4 := nrm_lt hne
      have h5 : (nrm q).2 < n := by
        unfold nrm
        split
        · exact hb
        · exact ha
      exact pout_in n 0 _ _ (by omega) (by omega) h4 h5
    · unfold nrm
      split
      · exact hf
      · show sFit v q.2 q.1 = true
        rw [sFit_sym]
        exact hf)
  rwa [List.length_map] at h2
/-- the present pairs are a matching -/
theorem cur_in (hW : WF n M v) : ∀ (d a : Nat), a + d = n → ∀ x, x ∈ fl (curL n v d a) → x < n ∧ a ≤ x ∧ sFree v x = false ∧ a ≤ pp v x
  | 0, a, h, x, hx => by cases hx
  | d + 1, a, h, x, hx => by
    have h9 := hW.1
    unfold curL at hx
    by_cases hg : gp n v a = -9999
    · rw [if_pos hg] at hx
      obtain ⟨h1, h2, h3, h4⟩ := cur_in hW d (a + 1) (by omega) x hx
      exact ⟨h1, by omega, h3, by omega⟩
    · rw [if_neg hg] at hx
      rcases wf_par hW (show a < n by omega) with ⟨g, -⟩ | ⟨b, hb, -, g, g2, -⟩
      · exact absurd (gp_f g) hg
      · have hab : a < b := by
          rcases Nat.lt_or_ge a b with h1 | h1
          · exact h1
          · exact absurd (gp_le g (by omega) h1) hg
        rcases List.mem_cons.mp hx with h1 | h1
        · have h1 : x = a := h1
          subst h1
          exact ⟨by omega, Nat.le_refl _, sFree_f g (by omega), by rw [pp_b g (by omega)]; omega⟩
        · rcases List.mem_cons.mp h1 with h2 | h2
          · have h2 : x = pp v a := h2
            rw [pp_b g (by omega)] at h2
            subst h2
            exact ⟨hb, by omega, sFree_f g2 (by omega), by rw [pp_b g2 (by omega)]; exact Nat.le_refl _⟩
          · obtain ⟨h1, h2, h3, h4⟩ := cur_in hW d (a + 1) (by omega) x h2
            exact ⟨h1, by omega, h3, by omega⟩
theorem cur_ok (hW : WF n M v) (hI : IV n v) : ∀ (d a : Nat), a + d = n → (fl (curL n v d a)).Nodup ∧ ∀ q, q ∈ curL n v d a → sFit v q.1 q.2 = true
  | 0, a, h => ⟨List.nodup_nil, fun q hq => by cases hq⟩
  | d + 1, a, h => by
    have h9 := hW.1
    obtain ⟨k1, k2⟩ := cur_ok hW hI d (a + 1) (by omega)
    unfold curL
    by_cases hg : gp n v a = -9999
    · rw [if_pos hg]
      exact ⟨k1, k2⟩
    · rw [if_neg hg]
      rcases wf_par hW (show a < n by omega) with ⟨g, -⟩ | ⟨b, hb, hne, g, g2, -⟩
      · exact absurd (gp_f g) hg
      · rw [pp_b g (by omega)]
        refine ⟨List.nodup_cons.mpr ⟨fun hx => ?_, List.nodup_cons.mpr ⟨fun hx => ?_, k1⟩⟩, fun q hq => ?_⟩
        · rcases List.mem_cons.mp hx with h1 | h1
          · exact hne h1.symm
          · have := (cur_in hW d (a + 1) (by omega) _ h1).2.1
            have e : (a, b).1 = a := rfl
            omega
        · have := (cur_in hW d (a + 1) (by omega) _ hx).2.2.2
          rw [show pp v ((a, b).2) = a from pp_b g2 (by omega)] at this
          omega
        · rcases List.mem_cons.mp hq with h1 | h1
          · rw [h1]
            exact hI.2.1 a b (by omega) hb g
          · exact k2 q h1
theorem cur_prs : ∀ (d a k : Nat), s1 (fun a => if gp n v a = -9999 then 0 else 1) d a (nI k) = nI (k + (curL n v d a).length)
  | 0, a, k => rfl
  | d + 1, a, k => by
    rw [s1, curL]
    by_cases hg : gp n v a = -9999
    · rw [if_pos hg, if_pos hg, a_0]
      exact cur_prs d (a + 1) k
    · rw [if_neg hg, if_neg hg, show nI k + 1 = nI (k + 1) from nn_add k 1, cur_prs d (a + 1) (k + 1), List.length_cons, show k + 1 + (curL n v d (a + 1)).length = k + ((curL n v d (a + 1)).length + 1) by omega]
theorem cur_sov (hW : WF n M v) (hM : M ≤ 5000) : ∀ (d a : Nat) (acc : Int32), a + d = n → -50300 * (a : Int) ≤ acc.toInt → acc.toInt ≤ 50300 * (a : Int) → (s1 (fun a => if gp n v a = -9999 then 0 else sVal v a (pp v a)) d a acc).toInt = acc.toInt + msum v (curL n v d a)
  | 0, a, acc, h, _, _ => by
    show acc.toInt = acc.toInt + 0
    omega
  | d + 1, a, acc, h, b1, b2 => by
    have h9 := hW.1
    rw [s1, curL]
    by_cases hg : gp n v a = -9999
    · rw [if_pos hg, if_pos hg, a_0]
      exact cur_sov hW hM d (a + 1) acc (by omega) (by omega) (by omega)
    · rw [if_neg hg, if_neg hg]
      rcases wf_par hW (show a < n by omega) with ⟨g, -⟩ | ⟨b, hb, hne, g, g2, -⟩
      · exact absurd (gp_f g) hg
      · rw [pp_b g (by omega)]
        obtain ⟨c1, c2⟩ := vl_b hW hM (show a < n by omega) hb
        have e : (acc + sVal v a b).toInt = acc.toInt + (sVal v a b).toInt := ti_add rfl rfl (by omega) (by omega)
        rw [cur_sov hW hM d (a + 1) (acc + sVal v a b) (by omega) (by rw [e]; omega) (by rw [e]; omega), e]
        show _ = acc.toInt + ((sVal v a b).toInt + msum v (curL n v d (a + 1)))
        omega
theorem bAll_in {x : Nat} : x ∈ bAll n ↔ x < n := by
  rw [sm_in, Nat.testBit_two_pow_sub_one]
  constructor
  · exact fun h => h.1
  · exact fun h => ⟨h, decide_eq_true h⟩
theorem bAll_len : (bAll n).length ≤ n := sm_len _ _
end S95
