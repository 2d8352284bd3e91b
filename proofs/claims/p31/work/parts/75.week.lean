/-! A WEEK, member by member -/
/-- what each member has behind the meetings -/
def wRow (x : Int32) (v : tePg) (a : Nat) : tePg := if sFree v a = true then row v a else if (bt x a || bt x (pp v a)) = true then fM (bt x a) (row v a) else fK (cM (4 + sL v a (pp v a))) (row v a)
section S75
variable {n M : Nat} {v u w : tePg}
theorem wRow_f {x : Int32} {a : Nat} (h : sFree v a = true) : wRow x v a = row v a := if_pos h
theorem wRow_p {x : Int32} {a d : Nat} (h : v (2 + 10 * a + 8) = nI d) (hd : d < 9) : wRow x v a = if (bt x a || bt x d) = true then fM (bt x a) (row v a) else fK (cM (4 + sL v a d)) (row v a) := by
  unfold wRow
  rw [sFree_f h hd, pp_b h hd]; rfl
theorem wRow_8 (x : Int32) (a : Nat) : wRow x v a 8 = v (2 + 10 * a + 8) := by
  unfold wRow
  split
  · rfl
  · split
    · exact (fM_8 _ _).1
    · exact (fK_8 _ _).1
/-- behind the meetings of those below a -/
def wJ (x : Int32) (n : Nat) (v u : tePg) (a : Nat) : Prop := u 0 = v 0 ∧ u 1 = v 1 ∧ ∀ c, c < n → ∀ o, o < 10 → u (2 + 10 * c + o) = if sFree v c = true ∨ (a ≤ c ∧ a ≤ pp v c) then v (2 + 10 * c + o) else wRow x v c o
theorem row_eq {a : Nat} (h : ∀ o, o < 10 → u (2 + 10 * a + o) = v (2 + 10 * a + o)) : ∀ o, o < 10 → row u a o = row v a o := h
theorem wJ_s (hW : WF n M v) {x : Int32} {a : Nat} (ha : a < n) (hJ : wJ x n v u a) : wJ x n v (if gp n u a = -9999 then u else sMeet x a (pp u a) u) (a + 1) := by
  have h9 := hW.1
  obtain ⟨j0, j1, hJ⟩ := hJ
  have e8 : ∀ c, c < n → u (2 + 10 * c + 8) = v (2 + 10 * c + 8) := fun c hc => by
    rw [hJ c hc 8 (by decide)]
    split
    · rfl
    · exact wRow_8 x c
  rcases wf_par hW ha with ⟨g, -⟩ | ⟨d, hd, hne, g, g2, -⟩
  · rw [if_pos (gp_f ((e8 a ha).trans g))]
    refine ⟨j0, j1, fun c hc o ho => ?_⟩
    rw [hJ c hc o ho]
    by_cases hca : c = a
    · subst hca
      rw [if_pos (Or.inl (sFree_t g)), if_pos (Or.inl (sFree_t g))]
    · by_cases hf : sFree v c = true
      · rw [if_pos (Or.inl hf), if_pos (Or.inl hf)]
      · rcases wf_par hW hc with ⟨k, -⟩ | ⟨b, hb, hbc, k, k2, -⟩
        · exact absurd (sFree_t k) hf
        · have hba : b ≠ a := by
            rintro rfl
            exact N_ne (by omega) g k2
          rw [pp_b k (by omega)]
          by_cases h2 : a ≤ c ∧ a ≤ b
          · rw [if_pos (Or.inr h2), if_pos (Or.inr ⟨by omega, by omega⟩)]
          · rw [if_neg (by rintro (h | h); exact hf h; exact h2 h), if_neg (by rintro (h | h); exact hf h; exact h2 ⟨by omega, by omega⟩)]
  · have ppa := pp_b ((e8 a ha).trans g) (show d < 9 by omega)
    by_cases hl : d ≤ a
    · -- met before
      rw [if_pos (gp_le ((e8 a ha).trans g) (by omega) hl)]
      refine ⟨j0, j1, fun c hc o ho => ?_⟩
      rw [hJ c hc o ho]
      by_cases hf : sFree v c = true
      · rw [if_pos (Or.inl hf), if_pos (Or.inl hf)]
      · rcases wf_par hW hc with ⟨k, -⟩ | ⟨b, hb, hbc, k, k2, -⟩
        · exact absurd (sFree_t k) hf
        · rw [pp_b k (by omega)]
          by_cases h2 : a ≤ c ∧ a ≤ b
          · have h3 : c ≠ a ∧ b ≠ a := by
              constructor
              · rintro rfl
                have := nI_inj (by omega) (by omega) (k.symm.trans g)
                omega
              · rintro rfl
                have := nI_inj (by omega) (by omega) (k2.symm.trans g)
                omega
            rw [if_pos (Or.inr h2), if_pos (Or.inr ⟨by omega, by omega⟩)]
          · rw [if_neg (by rintro (h | h); exact hf h; exact h2 h), if_neg (by rintro (h | h); exact hf h; exact h2 ⟨by omega, by omega⟩)]
    · rw [if_neg (by rw [gp_gt ((e8 a ha).trans g) (by omega) (by omega), nn_NI (by omega)]; exact not_false), ppa]
      have ra : ∀ o, o < 10 → u (2 + 10 * a + o) = v (2 + 10 * a + o) := fun o ho => by
        rw [hJ a ha o ho, if_pos (Or.inr ⟨Nat.le_refl _, by rw [pp_b g (by omega)]; omega⟩)]
      have rd : ∀ o, o < 10 → u (2 + 10 * d + o) = v (2 + 10 * d + o) := fun o ho => by
        rw [hJ d hd o ho, if_pos (Or.inr ⟨by omega, by rw [pp_b g2 (by omega)]; exact Nat.le_refl _⟩)]
      have l1 : sL u a d = sL v a d := sL_cong hW ha (ra 4 (by decide)) (fun l hl => ra l (by omega)) (fun l hl => rd l (by omega))
      have l2 : sL u d a = sL v d a := sL_cong hW hd (rd 4 (by decide)) (fun l hl => rd l (by omega)) (fun l hl => ra l (by omega))
      have key : ∀ F G : tePg → tePg, rok F → rok G → (wRow x v a = F (row v a)) → (wRow x v d = G (row v d)) → wJ x n v (rop G d (rop F a u)) (a + 1) := fun F G hF hG ea ed => by
        refine ⟨by rw [rop_out _ _ (by omega), rop_out _ _ (by omega)]; exact j0, by rw [rop_out _ _ (by omega), rop_out _ _ (by omega)]; exact j1, fun c hc o ho => ?_⟩
        by_cases hcd : c = d
        · subst hcd
          rw [rop_in _ _ _ ho, if_neg (by rintro (h | h); rw [sFree_f g2 (by omega)] at h; cases h; rw [pp_b g2 (by omega)] at h; omega), ed]
          exact hG _ _ (fun o2 ho2 => (rop_c F u (by omega) ho2).trans (rd o2 ho2)) o ho
        · rw [rop_c _ _ hcd ho]
          by_cases hca : c = a
          · subst hca
            rw [rop_in _ _ _ ho, if_neg (by rintro (h | h); rw [sFree_f g (by omega)] at h; cases h; omega), ea]
            exact hF _ _ (fun o2 ho2 => ra o2 ho2) o ho
          · rw [rop_c _ _ hca ho, hJ c hc o ho]
            by_cases hf : sFree v c = true
            · rw [if_pos (Or.inl hf), if_pos (Or.inl hf)]
            · rcases wf_par hW hc with ⟨k, -⟩ | ⟨b, hb, hbc, k, k2, -⟩
              · exact absurd (sFree_t k) hf
              · rw [pp_b k (by omega)]
                have hba : b ≠ a := by
                  rintro rfl
                  exact hcd (nI_inj (by omega) (by omega) (k2.symm.trans g))
                by_cases h2 : a ≤ c ∧ a ≤ b
                · rw [if_pos (Or.inr h2), if_pos (Or.inr ⟨by omega, by omega⟩)]
                · rw [if_neg (by rintro (h | h); exact hf h; exact h2 h), if_neg (by rintro (h | h); exact hf h; exact h2 ⟨by omega, by omega⟩)]
      unfold sMeet
      rw [l1, l2]
      cases hy : (bt x a || bt x d)
      · rw [if_neg (show ¬ false = true by decide)]
        exact key _ _ (rok_K _) (rok_K _) (by rw [wRow_p g (by omega), hy]; rfl) (by rw [wRow_p g2 (by omega), Bool.or_comm, hy]; rfl)
      · rw [if_pos rfl]
        exact key _ _ (rok_M _) (rok_M _) (by rw [wRow_p g (by omega), hy]; rfl) (by rw [wRow_p g2 (by omega), Bool.or_comm, hy]; rfl)
theorem wJ_all (hW : WF n M v) {x : Int32} : ∀ (d a : Nat) (u : tePg), a + d = n → wJ x n v u a → wJ x n v (mts n x d a u) n
  | 0, a, u, h, hJ => by
    obtain rfl : a = n := by omega
    exact hJ
  | d + 1, a, u, h, hJ => by
    unfold mts
    exact wJ_all hW d (a + 1) _ (by omega) (wJ_s hW (by omega) hJ)
theorem mts_row (hW : WF n M v) (x : Int32) : mts n x n 0 v 0 = v 0 ∧ mts n x n 0 v 1 = v 1 ∧ ∀ c, c < n → ∀ o, o < 10 → mts n x n 0 v (2 + 10 * c + o) = wRow x v c o := by
  have h0 : wJ x n v v 0 := ⟨rfl, rfl, fun c hc o ho => by rw [if_pos (Or.inr ⟨Nat.zero_le _, Nat.zero_le _⟩)]⟩
  obtain ⟨h1, h2, h3⟩ := wJ_all hW n 0 v (by omega) h0
  refine ⟨h1, h2, fun c hc o ho => ?_⟩
  rw [h3 c hc o ho]
  by_cases hf : sFree v c = true
  · rw [if_pos (Or.inl hf), wRow_f hf]; rfl
  · rw [if_neg (by rintro (h | h); exact hf h; omega)]
/-- pairs that break up -/
def bJ (n : Nat) (w u : tePg) (a : Nat) : Prop := u 0 = w 0 ∧ u 1 = w 1 ∧ ∀ c, c < n → (∀ o, o < 8 → u (2 + 10 * c + o) = w (2 + 10 * c + o)) ∧ ((u (2 + 10 * c + 8) = w (2 + 10 * c + 8) ∧ u (2 + 10 * c + 9) = w (2 + 10 * c + 9) ∧ (sOk w c = true ∨ a ≤ c)) ∨ (sOk w c = false ∧ u (2 + 10 * c + 8) = -9999 ∧ u (2 + 10 * c + 9) = 0))
theorem bJ_s (hW : WF n M w) (hU : WF n M u) {a : Nat} (ha : a < n) (hJ : bJ n w u a) : bJ n w (sBrk u a) (a + 1) := by
  have h9 := hW.1
  obtain ⟨j0, j1, hJ⟩ := hJ
  have up : ∀ c, c < n → c ≠ a → ((u (2 + 10 * c + 8) = w (2 + 10 * c + 8) ∧ u (2 + 10 * c + 9) = w (2 + 10 * c + 9) ∧ (sOk w c = true ∨ a ≤ c)) ∨ (sOk w c = false ∧ u (2 + 10 * c + 8) = -9999 ∧ u (2 + 10 * c + 9) = 0)) → ((u (2 + 10 * c + 8) = w (2 + 10 * c + 8) ∧ u (2 + 10 * c + 9) = w (2 + 10 * c + 9) ∧ (sOk w c = true ∨ a + 1 ≤ c)) ∨ (sOk w c = false ∧ u (2 + 10 * c + 8) = -9999 ∧ u (2 + 10 * c + 9) = 0)) := fun c hc hca h => by
    rcases h with ⟨h1, h2, h3⟩ | h
    · exact Or.inl ⟨h1, h2, h3.elim Or.inl (fun h => Or.inr (by omega))⟩
    · exact Or.inr h
  unfold sBrk
  obtain ⟨ra, hA⟩ := hJ a ha
  rcases hA with ⟨a8, a9, -⟩ | ⟨k1, k2, k3⟩
  · rcases wf_par hU ha with ⟨g, -⟩ | ⟨d, hd, hne, g, g2, g3⟩
    · have ho : sOk u a = true := by unfold sOk; rw [sFree_t g]; rfl
      have ho2 : sOk w a = true := by unfold sOk; rw [sFree_t (a8.symm.trans g)]; rfl
      rw [if_pos ho]
      refine ⟨j0, j1, fun c hc => ⟨(hJ c hc).1, ?_⟩⟩
      by_cases hca : c = a
      · subst hca
        exact Or.inl ⟨a8, a9, Or.inl ho2⟩
      · exact up c hc hca (hJ c hc).2
    · have gw : w (2 + 10 * a + 8) = nI d := a8.symm.trans g
      have hf : sFit u a d = sFit w a d := sFit_cong hW ha hd (fun o ho => ra o (by omega)) (fun o ho => (hJ d hd).1 o (by omega))
      have he : sOk u a = sOk w a := by
        unfold sOk
        rw [sFree_f g (by omega), sFree_f gw (by omega), pp_b g (by omega), pp_b gw (by omega), hf, a9]
      cases ho : sOk u a
      · rw [if_neg (show ¬ false = true by decide)]
        have how : sOk w a = false := he.symm.trans ho
        have hbk := wf_back hW ha hd gw
        have h99 : w (2 + 10 * d + 9) = w (2 + 10 * a + 9) := by
          rcases wf_par hW ha with ⟨k, -⟩ | ⟨b, hb, -, k, -, k3⟩
          · exact (N_ne (by omega) k gw).elim
          · rw [← nI_inj (by omega) (by omega) (k.symm.trans gw)]
            exact k3
        have hod : sOk w d = false := (sOk_sym hW ha hd gw hbk.2 h99).symm.trans how
        refine ⟨(mp_o u a (fun c => ⟨by omega, by omega⟩)).trans j0, (mp_o u a (fun c => ⟨by omega, by omega⟩)).trans j1, fun c hc => ⟨fun o ho => (mp_l u a c ho).trans ((hJ c hc).1 o ho), ?_⟩⟩
        by_cases hca : c = a
        · subst hca
          exact Or.inr ⟨how, mp_8a, mp_9a g (by omega)⟩
        · by_cases hcd : c = d
          · subst hcd
            exact Or.inr ⟨hod, mp_8d g (by omega), mp_9d g (by omega)⟩
          · rw [mp_89 g (by omega) (by decide) hca hcd, mp_89 g (by omega) (by decide) hca hcd]
            exact up c hc hca (hJ c hc).2
      · rw [if_pos rfl]
        refine ⟨j0, j1, fun c hc => ⟨(hJ c hc).1, ?_⟩⟩
        by_cases hca : c = a
        · subst hca
          exact Or.inl ⟨a8, a9, Or.inl (he.symm.trans ho)⟩
        · exact up c hc hca (hJ c hc).2
  · have ho : sOk u a = true := by unfold sOk; rw [sFree_t k2]; rfl
    rw [if_pos ho]
    refine ⟨j0, j1, fun c hc => ⟨(hJ c hc).1, ?_⟩⟩
    by_cases hca : c = a
    · subst hca
      exact Or.inr ⟨k1, k2, k3⟩
    · exact up c hc hca (hJ c hc).2
theorem bJ_all (hW : WF n M w) : ∀ (d a : Nat) (u : tePg), WF n M u → a + d = n → bJ n w u a → bJ n w (brk d a u) n
  | 0, a, u, hU, h, hJ => by
    obtain rfl : a = n := by omega
    exact hJ
  | d + 1, a, u, hU, h, hJ => by
    unfold brk
    exact bJ_all hW d (a + 1) _ (wf_brk1 hU (by omega)) (by omega) (bJ_s hW hU (by omega) hJ)
/-- a week, told of each member: the row behind the meetings; the pair stays or breaks up -/
theorem week_row (hW : WF n M v) (hM : M + n < 100000) (x : Int32) : sWeek n x v 0 = v 0 ∧ sWeek n x v 1 = v 1 + 1 ∧ ∀ c, c < n → (∀ o, o < 8 → sWeek n x v (2 + 10 * c + o) = wRow x v c o) ∧ (sOk (mts n x n 0 v) c = true → sWeek n x v (2 + 10 * c + 8) = v (2 + 10 * c + 8) ∧ sWeek n x v (2 + 10 * c + 9) = wRow x v c 9) ∧ (sOk (mts n x n 0 v) c = false → sWeek n x v (2 + 10 * c + 8) = -9999 ∧ sWeek n x v (2 + 10 * c + 9) = 0) := by
  obtain ⟨m0, m1, hm⟩ := mts_row hW x
  have hU : WF n (M + n) (mts n x n 0 v) := wf_mts x n 0 M v hW hM (by omega)
  have hs : sWeek n x v = wkE n (mts n x n 0 v) := rfl
  rw [hs]
  generalize mts n x n 0 v = w at m0 m1 hm hU ⊢
  obtain ⟨b0, b1, hb⟩ := bJ_all hU n 0 w hU (by omega) ⟨rfl, rfl, fun c hc => ⟨fun o ho => rfl, Or.inl ⟨rfl, rfl, Or.inr (Nat.zero_le _)⟩⟩⟩
  unfold wkE
  refine ⟨by rw [tup_n _ _ (by decide), b0, m0], by rw [tup_s, b1, m1], fun c hc => ⟨fun o ho => by rw [tup_n _ _ (by omega), (hb c hc).1 o ho, hm c hc o (by omega)], fun ho => ?_, fun ho => ?_⟩⟩
  · rw [tup_n _ _ (by omega), tup_n _ _ (by omega)]
    rcases (hb c hc).2 with ⟨k1, k2, -⟩ | ⟨k1, -⟩
    · exact ⟨by rw [k1, hm c hc 8 (by decide), wRow_8], by rw [k2, hm c hc 9 (by decide)]⟩
    · rw [ho] at k1; cases k1
  · rw [tup_n _ _ (by omega), tup_n _ _ (by omega)]
    rcases (hb c hc).2 with ⟨-, -, k1 | k1⟩ | ⟨-, k2, k3⟩
    · rw [ho] at k1; cases k1
    · omega
    · exact ⟨k2, k3⟩
end S75
