/-! HANDS: leaving against the best -/
section S9D
variable {n M : Nat} {v : tePg}
theorem bst_ex (hW : WF n M v) (hM : M ≤ 4000) {m : Nat} (hm : m < 2 ^ n) : ∃ ps, mOK v (sm n m) ps ∧ bR v (sm n m) = 1000000 * (ps.length : Int) + msum v ps ∧ ps.length ≤ 4 ∧ bPz (bR v (sm n m)) = ps.length ∧ -300000 < msum v ps ∧ msum v ps < 300000 ∧ ∀ qs, mOK v (sm n m) qs → qs.length ≤ ps.length ∧ (qs.length = ps.length → msum v qs ≤ msum v ps) :=
  best_of hW (by omega) (sm_nd _ _) (fun x hx => (sm_in.mp hx).1) (bR_ex hW (by omega) hm)
def bSz (r : Int) : Int32 := Int32.ofInt (r - 1000000 * (bPz r : Int))
theorem bS_le {a b c d : Int} (h1 : -300000 < a) (h2 : a < 300000) (h3 : -300000 < b) (h4 : b < 300000) (h : b ≤ a) : ¬ Int32.ofInt a < Int32.ofInt b := by
  rw [Int32.lt_iff_toInt_lt, Int32.toInt_ofInt_of_le (by omega) (by omega), Int32.toInt_ofInt_of_le (by omega) (by omega)]
  omega
/-- without a member: at most a pair less, never better -/
theorem lv_best (hW : WF n M v) (hM : M ≤ 4000) {a : Nat} (ha : a < n) : ∃ P Q : Nat, bPz (bR v (bAll n)) = P ∧ bPz (bR v (lWo n a)) = Q ∧ Q ≤ P ∧ P ≤ Q + 1 ∧ P ≤ 4 ∧ (Q = P → ¬ bSz (bR v (bAll n)) < bSz (bR v (lWo n a))) := by
  have hp1 := p2_pos n
  obtain ⟨ps, b1, b2, b3, b4, b5, b6, b7⟩ := bst_ex hW hM (show 2 ^ n - 1 < 2 ^ n by omega)
  obtain ⟨qs, c1, c2, c3, c4, c5, c6, c7⟩ := bst_ex hW hM (clr_al n a)
  have m1 : mOK v (bAll n) qs := ⟨c1.1, fun x hx => bAll_in.mpr (lWo_in.mp (c1.2.1 x hx)).1, c1.2.2⟩
  have k1 := b7 qs m1
  refine ⟨ps.length, qs.length, b4, c4, k1.1, ?_, b3, fun e => ?_⟩
  · by_cases hx : a ∈ fl ps
    · obtain ⟨d, ps', k2, -, k3⟩ := mok_front (W := Wt v) (sFit_c v) (Wt_c v) b1 hx
      have n1 := List.nodup_cons.mp k2.1
      have n2 := List.nodup_cons.mp n1.2
      have m2 : mOK v (lWo n a) ps' := ⟨n2.2, fun y hy => lWo_in.mpr ⟨bAll_in.mp (k2.2.1 y (List.mem_cons_of_mem _ (List.mem_cons_of_mem _ hy))), fun e => n1.1 (by rw [← e]; exact List.mem_cons_of_mem _ hy)⟩, fun q hq => k2.2.2 q (List.mem_cons_of_mem _ hq)⟩
      have := (c7 ps' m2).1
      omega
    · have m2 : mOK v (lWo n a) ps := ⟨b1.1, fun y hy => lWo_in.mpr ⟨bAll_in.mp (b1.2.1 y hy), fun e => hx (by rw [← e]; exact hy)⟩, b1.2.2⟩
      have := (c7 ps m2).1
      omega
  · have k2 := k1.2 e
    unfold bSz
    have e1 : bR v (bAll n) - 1000000 * (bPz (bR v (bAll n)) : Int) = msum v ps := by
      show bR v (sm n (2 ^ n - 1)) - 1000000 * (bPz (bR v (sm n (2 ^ n - 1))) : Int) = msum v ps
      rw [b4, b2]; omega
    have e2 : bR v (lWo n a) - 1000000 * (bPz (bR v (lWo n a)) : Int) = msum v qs := by
      show bR v (sm n (clr (2 ^ n - 1) a)) - 1000000 * (bPz (bR v (sm n (clr (2 ^ n - 1) a))) : Int) = msum v qs
      rw [c4, c2]; omega
    rw [e1, e2]
    exact bS_le (c := 0) (d := 0) b5 b6 c5 c6 k2
/-- the least of the best without a member -/
theorem mm_min {g : tePg} {al : Nat} : ∀ (d a : Nat) (o : Option Nat), (∀ c, o = some c → c < a ∧ ∀ e, e < a → g (clr al c) ≤ g (clr al e)) → (o = none → a = 0) → 0 < a + d → ∃ m, mm g al d a o = some m ∧ m < a + d ∧ ∀ e, e < a + d → g (clr al m) ≤ g (clr al e)
  | 0, a, o, h1, h2, h3 => by
    cases o with
    | none => exact absurd (h2 rfl) (by omega)
    | some c => exact ⟨c, rfl, (h1 c rfl).1, (h1 c rfl).2⟩
  | d + 1, a, o, h1, h2, h3 => by
    rw [mm_s]
    have k := mm_min (g := g) (al := al) d (a + 1) (mmo g al a o) (fun c hc => by
      cases o with
      | none =>
        have h0 := h2 rfl
        have hc : some a = some c := hc
        cases hc
        exact ⟨by omega, fun e he => by rw [show e = a by omega]; exact Int32.le_refl _⟩
      | some c0 =>
        obtain ⟨k1, k2⟩ := h1 c0 rfl
        have hc : (if g (clr al c0) ≤ g (clr al a) then some c0 else some a) = some c := hc
        by_cases hg : g (clr al c0) ≤ g (clr al a)
        · rw [if_pos hg] at hc
          cases hc
          exact ⟨by omega, fun e he => by
            by_cases hea : e = a
            · rw [hea]; exact hg
            · exact k2 e (by omega)⟩
        · rw [if_neg hg] at hc
          cases hc
          exact ⟨by omega, fun e he => by
            by_cases hea : e = a
            · rw [hea]; exact Int32.le_refl _
            · exact Int32.le_trans (Int32.le_of_lt (Int32.not_le.mp hg)) (k2 e (by omega))⟩) (fun hn => by
      cases o with
      | none => cases hn
      | some c0 =>
        have hn : (if g (clr al c0) ≤ g (clr al a) then some c0 else some a) = none := hn
        split at hn <;> cases hn) (by omega)
    rw [show a + (d + 1) = a + 1 + d by omega]
    exact k
theorem gB_int (hW : WF n M v) (hM : M ≤ 4000) {m : Nat} (hm : m < 2 ^ n) : (gB n v m).toInt = bR v (sm n m) := by
  obtain ⟨h1, h2⟩ := VL_le hW (by omega) (bR_ex hW (by omega) hm)
  exact Int32.toInt_ofInt_of_le (by omega) (by omega)
/-- who is missed most: without that one the best is the least -/
theorem most_le (hW : WF n M v) (hM : M ≤ 4000) (h0 : 0 < n) : ∃ m, m < n ∧ oI (mm (gB n v) (2 ^ n - 1) n 0 none) = nI m ∧ ∀ a, a < n → ∃ P Q : Nat, bPz (bR v (lWo n m)) = P ∧ bPz (bR v (lWo n a)) = Q ∧ P ≤ Q ∧ Q ≤ 4 ∧ (P = Q → ¬ bSz (bR v (lWo n a)) < bSz (bR v (lWo n m))) := by
  obtain ⟨m, e, h1, h2⟩ := mm_min (g := gB n v) (al := 2 ^ n - 1) n 0 none (fun c hc => by cases hc) (fun _ => rfl) (by omega)
  rw [Nat.zero_add] at h1 h2
  refine ⟨m, h1, by rw [e]; rfl, fun a ha => ?_⟩
  have h3 := h2 a ha
  rw [Int32.le_iff_toInt_le, gB_int hW hM (clr_al n m), gB_int hW hM (clr_al n a)] at h3
  obtain ⟨ps, b1, b2, b3, b4, b5, b6, -⟩ := bst_ex hW hM (clr_al n m)
  obtain ⟨qs, c1, c2, c3, c4, c5, c6, -⟩ := bst_ex hW hM (clr_al n a)
  refine ⟨ps.length, qs.length, b4, c4, by omega, c3, fun e => ?_⟩
  unfold bSz
  have e1 : bR v (lWo n m) - 1000000 * (bPz (bR v (lWo n m)) : Int) = msum v ps := by
    show bR v (sm n (clr (2 ^ n - 1) m)) - 1000000 * (bPz (bR v (sm n (clr (2 ^ n - 1) m))) : Int) = msum v ps
    rw [b4, b2]; omega
  have e2 : bR v (lWo n a) - 1000000 * (bPz (bR v (lWo n a)) : Int) = msum v qs := by
    show bR v (sm n (clr (2 ^ n - 1) a)) - 1000000 * (bPz (bR v (sm n (clr (2 ^ n - 1) a))) : Int) = msum v qs
    rw [c4, c2]; omega
  rw [e1, e2]
  exact bS_le (c := 0) (d := 0) c5 c6 b5 b6 (by omega)
end S9D
section S9Db
variable {z b : aS}
theorem tb_0 : A_tryBest z 0 = nI (bPz (bR (aV z) (bAll (aN z)))) := by
  unfold A_tryBest
  rw [show rg 0 1 0 = true by decide, ifT, if_pos rfl]
theorem tb_1 : A_tryBest z 1 = bSz (bR (aV z) (bAll (aN z))) := by
  unfold A_tryBest
  rw [show rg 0 1 1 = true by decide, ifT, if_neg i1_0]; rfl
/-- behind the leaving of a -/
def aLv (b : aS) (a : Nat) : aS := aAct b (aM b, (aN b - 1, sLeave (aN b) a (aV b)))
theorem lv_try (h9 : aN b ≤ 9) {a : Nat} (ha : a < aN b) : A_tryLeave b (nI a) = some (aV b (2 + 10 * a + 6), aLv b a) := by
  unfold A_tryLeave
  rw [isM_a ha (by omega), ifT, nn_tn (by omega)]; rfl
theorem lv_tb0 (hW : WF (aN b) (aM b) (aV b)) (hM : aM b ≤ 4000) {a : Nat} (ha : a < aN b) : A_tryBest (aLv b a) 0 = nI (bPz (bR (aV b) (lWo (aN b) a))) := by
  rw [tb_0]
  show nI (bPz (bR (sLeave (aN b) a (aV b)) (bAll (aN b - 1)))) = _
  rw [best_leave hW hM ha]
theorem lv_tb1 (hW : WF (aN b) (aM b) (aV b)) (hM : aM b ≤ 4000) {a : Nat} (ha : a < aN b) : A_tryBest (aLv b a) 1 = bSz (bR (aV b) (lWo (aN b) a)) := by
  rw [tb_1]
  show bSz (bR (sLeave (aN b) a (aV b)) (bAll (aN b - 1))) = _
  rw [best_leave hW hM ha]
theorem crd_no {n M : Nat} {v : tePg} (hW : WF n M v) {a : Nat} (ha : a < n) : ¬ v (2 + 10 * a + 6) ≤ -99003 := by
  obtain ⟨c, hc, e⟩ := (hW.2.2.2 a ha).2.2.1
  have q : ∀ c : Fin 199, ¬ (nI c.val - 99 ≤ -99003) := by decide +kernel
  rw [e]
  exact q ⟨c, by omega⟩
theorem hd_454 (x1 : Int32) (h1 : b.2.1 = []) (h2 : b.2.2.1 0 = some b.1) (hW : WF (aN b) (aM b) (aV b)) (hM : aM b ≤ 4000) {a : Nat} (ha : a < aN b) (v2 v4 v14 : Int32) : hL_hands_454 x1 (aLv b a) v2 (aV b 1) v4 (A_missedMost b) v14 1 = hL_hands_539 x1 b v2 (aV b 1) v4 v14 1 := by
  have h9 := hW.1
  obtain ⟨m, hm, em, hle⟩ := most_le hW hM (show 0 < aN b by omega)
  obtain ⟨P, Q, p1, p2, p3, p4, p5⟩ := hle a ha
  unfold hL_hands_454
  rw [if_neg i1_0, hd_rs h1 h2 (z := aLv b a) rfl, nn_bd2, if_pos rfl, show A_missedMost b = nI m from em, lv_try h9 hm, nn_bd2, if_neg (crd_no hW hm), lv_tb0 hW hM hm, lv_tb0 hW hM ha, p1, p2, lt_if (by omega) (by omega), lv_tb1 hW hM hm, lv_tb1 hW hM ha, eq_if (by omega) (by omega)]
  have e : A_tryRestore (aLv b m) 0 = some (aV b 1, b) := hd_rs h1 h2 (z := aLv b m) rfl
  by_cases hlt : P < Q
  · rw [if_pos hlt, e, nn_bd2, if_pos rfl]
  · have hpq : P = Q := by omega
    rw [if_neg hlt, if_pos hpq, if_neg (p5 hpq), e, nn_bd2, if_pos rfl]
theorem hd_321 (x1 : Int32) (h1 : b.2.1 = []) (h2 : b.2.2.1 0 = some b.1) (hW : WF (aN b) (aM b) (aV b)) (hI : IV (aN b) (aV b)) (hM : aM b ≤ 4000) {a : Nat} (ha : a < aN b) : hL_hands_321 x1 b (nI (aN b)) (aV b 1) (nI a) 1 = hL_hands_539 x1 b (nI (aN b)) (aV b 1) (nI a) (aV b (2 + 10 * a + 6)) 1 := by
  have h9 := hW.1
  have m6 : A_tryMember b (nI a) 6 = aV b (2 + 10 * a + 6) := mb_o h9 ha (o := 6) (by decide)
  obtain ⟨P, Q, p1, p2, p3, p4, p5, p6⟩ := lv_best hW hM ha
  have hs : hL_sound (aLv b a) = some 1 := P_sound (z := aLv b a) (wf_leave hW ha) (IV_leave hW hI ha) hM
  have k := hd_454 x1 h1 h2 hW hM ha (nI (aN b)) (nI a) (aV b (2 + 10 * a + 6))
  have hbm : ¬ nI Q < nI P - 1 := by
    by_cases h0 : P = 0
    · rw [h0]
      intro h
      rw [Int32.lt_iff_toInt_lt, nI_toInt (by omega)] at h
      rw [show (nI 0 - 1 : Int32).toInt = -1 from rfl] at h
      omega
    · rw [li1, nn_sub (by omega), nn_lt (by omega) (by omega)]; omega
  unfold hL_hands_321
  rw [if_neg i1_0, lv_try h9 ha, nn_bd2, m6, if_pos rfl, show A_tryAbout (aLv b a) 0 = nI (aN b - 1) from rfl, show nI (aN b) - 1 = nI (aN b - 1) by rw [li1, nn_sub (by omega)], if_pos rfl, show A_tryAbout (aLv b a) 5 = crd (aN b - 1) (sLeave (aN b) a (aV b)) from rfl, show A_tryAbout b 5 = crd (aN b) (aV b) from rfl, lv_crd hW ha, if_pos rfl, lv_tb0 hW hM ha, tb_0, p1, p2, if_neg (by rw [nn_lt (by omega) (by omega)]; omega), if_neg hbm, lt_if (by omega) (by omega), tb_1, lv_tb1 hW hM ha, hs]
  by_cases hlt : Q < P
  · rw [if_pos hlt, nn_bd1, if_neg i1_0]
    exact k
  · rw [if_neg hlt, if_neg (p6 (by omega)), nn_bd1, if_neg i1_0]
    exact k
end S9Db
