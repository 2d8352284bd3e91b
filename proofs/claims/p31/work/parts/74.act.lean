/-! THE CALLS THAT CHANGE one object, as the law makes them -/
theorem ifT {α : Type} (a b : α) : (if true = true then a else b) = a := rfl
theorem ifF {α : Type} (a b : α) : (if false = true then a else b) = b := rfl
def aPg (z : aS) (v : tePg) : aP := (aM z, (aN z, v))
def A_tryWant (z : aS) (x y : Int32) : Option (Int32 × aS) := if isM (aN z) x = true then (if rg 0 3 y = true then some (aV z (2 + 10 * x.toNatClampNeg + 4), aAct z (aPg z (sWant (aV z) x.toNatClampNeg y.toNatClampNeg))) else some (-99002, z)) else some (-99001, z)
def A_tryTest (z : aS) (x y w : Int32) : Option (Int32 × aS) := if isM (aN z) x = true then (if rg 0 3 y = true then (if rg 0 99 w = true then some (aV z (2 + 10 * x.toNatClampNeg + y.toNatClampNeg), aAct z (aPg z (sTest (aV z) x.toNatClampNeg y.toNatClampNeg w.toNatClampNeg))) else some (-99002, z)) else some (-99002, z)) else some (-99001, z)
def A_tryPair (z : aS) (x y : Int32) : Option (Int32 × aS) := if isM (aN z) x = true then (if isM (aN z) y = true then (if x = y then some (-99002, z) else if may (aV z) x.toNatClampNeg y.toNatClampNeg = true then some (sVal (sUni (aV z) x.toNatClampNeg y.toNatClampNeg) x.toNatClampNeg y.toNatClampNeg, aAct z (aPg z (sUni (aV z) x.toNatClampNeg y.toNatClampNeg))) else some (-99003, z)) else some (-99001, z)) else some (-99001, z)
def A_tryPart (z : aS) (x : Int32) : Option (Int32 × aS) := if isM (aN z) x = true then (if sFree (aV z) x.toNatClampNeg = true then some (-99003, z) else some (aV z (2 + 10 * x.toNatClampNeg + 8), aAct z (aPg z (mPart (aV z) x.toNatClampNeg)))) else some (-99001, z)
def A_match (z : aS) : Option (Int32 × aS) := some (nI (mt (aN z) 4 (aV z)).1, aAct z (aPg z (mt (aN z) 4 (aV z)).2))
def A_trySettle (z : aS) (x : Int32) : Option (Int32 × aS) := if rg 1 50 x = true then some (nI (st (aN z) x.toNatClampNeg (aV z)).1, aAct z (aPg z (st (aN z) x.toNatClampNeg (aV z)).2)) else some (-99002, z)
def A_tryUndo (z : aS) : Option (Int32 × aS) := match z.2.1 with | [] => some (-99003, z) | q :: t => some (nI t.length, (q, (t, z.2.2)))
def sJoinL (w L : Int32) (n : Nat) (v : tePg) (x : Int32) : tePg := sJoin v n w.toNatClampNeg L.toNatClampNeg x
def A_tryJoin (z : aS) (w L x : Int32) : Option (Int32 × aS) := if rg 0 3 w = true then (if rg 0 9999 L = true then (if rg (-99) 99 x = true then (if aN z < 9 then some (nI (aN z), aAct z (aM z, (aN z + 1, sJoinL w L (aN z) (aV z) x))) else some (-99003, z)) else some (-99002, z)) else some (-99002, z)) else some (-99002, z)
def A_tryLeave (z : aS) (x : Int32) : Option (Int32 × aS) := if isM (aN z) x = true then some (aV z (2 + 10 * x.toNatClampNeg + 6), aAct z (aM z, (aN z - 1, sLeave (aN z) x.toNatClampNeg (aV z)))) else some (-99001, z)
def aSet (f : Nat → Option aP) (k : Nat) (q : aP) : Nat → Option aP := fun j => if j = k then some q else f j
def A_trySave (z : aS) (x : Int32) : Option (Int32 × aS) := if rg 0 1 x = true then some (aV z 1, (z.1, (z.2.1, (aSet z.2.2.1 x.toNatClampNeg z.1, z.2.2.2)))) else some (-99001, z)
def A_tryRestore (z : aS) (x : Int32) : Option (Int32 × aS) := if rg 0 1 x = true then (match z.2.2.1 x.toNatClampNeg with | none => some (-99003, z) | some q => some (q.2.2 1, (q, ([], z.2.2)))) else some (-99001, z)
section S74
variable {S : teS} {z z1 : aS} {r : Int32}
theorem am_act {n2 : Nat} {v2 : tePg} {M2 : Nat} (h : AB S z) {S1 : teS} {p : tePg} (g : ∀ p q, okP p q → AB (tst S1 0 p) (aAct z q)) (hW : WF n2 M2 v2) (hM : M2 ≤ 4000) (hI : IV n2 v2) (hE : PE n2 p v2) : AB (tst S1 0 p) (aAct z (M2, (n2, v2))) := g p _ ⟨⟨hW, hM, hI⟩, hE⟩
theorem AB_I (h : AB S z) : IV (aN z) (aV z) := h.1.1.2.2
theorem am_tryWant (h : AB S z) {x y : Int32} (hr : A_tryWant z x y = some (r, z1)) : ∃ S1, fL_tryWant x y S = some (r, S1) ∧ AB S1 z1 := by
  have hW := AB_W h
  have hE := AB_E h
  have h9 := hW.1
  unfold A_tryWant at hr
  unfold fL_tryWant fX5_want
  cases h1 : isM (aN z) x
  · rw [h1, ifF] at hr
    cases hr
    rw [r5_mem_f (AB_e0 h) h1]
    exact ⟨S, rfl, h⟩
  rw [h1, ifT] at hr
  cases h2 : rg 0 3 y
  · rw [h2, ifF] at hr
    cases hr
    rw [r5_mem_t (AB_e0 h) h1, nn_bx1, r5_lg_f h2]
    exact ⟨S, rfl, h⟩
  rw [h2, ifT] at hr
  obtain ⟨a, ha, rfl⟩ := isM_t h9 h1
  obtain ⟨l, hl, rfl⟩ := rg_nat (N := 3) (by decide) h2
  rw [nn_tn (by omega), nn_tn (by omega)] at hr
  cases hr
  obtain ⟨S1, g1, g2, g3⟩ := AB_act h
  obtain ⟨p, k1, k2⟩ := r1_want (k := 0) (S := S1) (l := l) hW (by rw [g2]; exact hE) ha (by omega)
  refine ⟨tst S1 0 p, ?_, am_act h g3 (wf_mend (wf_want1 (a := a) (l := l) hW (by omega)) ha) (AB_M h) (IV_want hW (AB_I h) ha (by omega)) k2⟩
  rw [r5_mem_t (AB_e0 h) h1, nn_bx1, r5_lg_t h2, nn_bx1, g1, nn_bd1, nn_in (by omega) (by decide), k1, nn_bd1, g2, nn_tn (by omega), (hE.2.2 a ha).1 4 (by decide)]; rfl
theorem am_tryTest (h : AB S z) {x y w : Int32} (hr : A_tryTest z x y w = some (r, z1)) : ∃ S1, fL_tryTest x y w S = some (r, S1) ∧ AB S1 z1 := by
  have hW := AB_W h
  have hE := AB_E h
  have h9 := hW.1
  unfold A_tryTest at hr
  unfold fL_tryTest fX5_test
  cases h1 : isM (aN z) x
  · rw [h1, ifF] at hr
    cases hr
    rw [r5_mem_f (AB_e0 h) h1]
    exact ⟨S, rfl, h⟩
  rw [h1, ifT] at hr
  cases h2 : rg 0 3 y
  · rw [h2, ifF] at hr
    cases hr
    rw [r5_mem_t (AB_e0 h) h1, nn_bx1, r5_lg_f h2]
    exact ⟨S, rfl, h⟩
  rw [h2, ifT] at hr
  cases h3 : rg 0 99 w
  · rw [h3, ifF] at hr
    cases hr
    rw [r5_mem_t (AB_e0 h) h1, nn_bx1, r5_lg_t h2, nn_bx1, r5_rg_f h3]
    exact ⟨S, rfl, h⟩
  rw [h3, ifT] at hr
  obtain ⟨a, ha, rfl⟩ := isM_t h9 h1
  obtain ⟨l, hl, rfl⟩ := rg_nat (N := 3) (by decide) h2
  obtain ⟨c, hc, rfl⟩ := rg_nat (N := 99) (by decide) h3
  rw [nn_tn (by omega), nn_tn (by omega), nn_tn (by omega)] at hr
  cases hr
  obtain ⟨S1, g1, g2, g3⟩ := AB_act h
  obtain ⟨p, k1, k2⟩ := r1_test (k := 0) (S := S1) (l := l) (x := c) hW (by rw [g2]; exact hE) ha (by omega) (by omega)
  refine ⟨tst S1 0 p, ?_, am_act h g3 (wf_mend (wf_test1 (a := a) (l := l) (x := c) hW (by omega) (by omega)) ha) (AB_M h) (IV_test hW (AB_I h) ha (by omega) (by omega)) k2⟩
  rw [r5_mem_t (AB_e0 h) h1, nn_bx1, r5_lg_t h2, nn_bx1, r5_rg_t h3, nn_bx1, g1, nn_bd1, nn_in (by omega) (by decide), nn_in (by omega) (by decide), k1, nn_bd1, g2, nn_tn (by omega), nn_tn (by omega), (hE.2.2 a ha).1 l (by omega)]; rfl
theorem am_tryPair (h : AB S z) {x y : Int32} (hr : A_tryPair z x y = some (r, z1)) : ∃ S1, fL_tryPair x y S = some (r, S1) ∧ AB S1 z1 := by
  have hW := AB_W h
  have hE := AB_E h
  have h9 := hW.1
  unfold A_tryPair at hr
  unfold fL_tryPair fX5_pair
  cases h1 : isM (aN z) x
  · rw [h1, ifF] at hr
    cases hr
    rw [r5_two_1 (AB_e0 h) h1]
    exact ⟨S, rfl, h⟩
  rw [h1, ifT] at hr
  cases h2 : isM (aN z) y
  · rw [h2, ifF] at hr
    cases hr
    rw [r5_two_2 (AB_e0 h) h1 h2]
    exact ⟨S, rfl, h⟩
  rw [h2, ifT] at hr
  by_cases h3 : x = y
  · rw [if_pos h3] at hr
    cases hr
    rw [r5_two_3 (AB_e0 h) h1 h2 h3]
    exact ⟨S, rfl, h⟩
  rw [if_neg h3] at hr
  rw [r5_two_t (AB_e0 h) h1 h2 h3, nn_bx1]
  obtain ⟨a, ha, rfl⟩ := isM_t h9 h1
  obtain ⟨b, hb, rfl⟩ := isM_t h9 h2
  have hab : a ≠ b := fun e => h3 (by rw [e])
  rw [nn_tn (by omega), nn_tn (by omega)] at hr
  have c1 : fX1_canBecomePartners 0 (nI a) (nI b) S = some (bI (may (aV z) a b)) := r1_can hW hE ha hb
  rw [c1, nn_bd1]
  cases hy : may (aV z) a b
  · rw [hy, ifF] at hr
    cases hr
    exact ⟨S, rfl, h⟩
  rw [hy, ifT] at hr
  cases hr
  obtain ⟨f1, f2⟩ := may_free hy
  have hf : sFit (aV z) a b = true := by
    unfold may at hy
    simp only [Bool.and_eq_true] at hy
    exact hy.2
  obtain ⟨S1, g1, g2, g3⟩ := AB_act h
  obtain ⟨p, k1, k2⟩ := r1_uni (k := 0) (S := S1) hW (by rw [g2]; exact hE) ha hb hab f1 f2
  have hW2 := wf_uni hW ha hb hab f1 f2
  refine ⟨tst S1 0 p, ?_, am_act h g3 hW2 (AB_M h) (IV_uni hW (AB_I h) ha hb hab f1 f2 hf) k2⟩
  rw [if_neg (show ¬ bI true = 0 by decide), g1, nn_bd1, k1, nn_bd1, r1_value hW2 (by rw [tst_s]; exact k2) ha hb, nn_bd1]; rfl
theorem am_tryPart (h : AB S z) {x : Int32} (hr : A_tryPart z x = some (r, z1)) : ∃ S1, fL_tryPart x S = some (r, S1) ∧ AB S1 z1 := by
  have hW := AB_W h
  have hE := AB_E h
  have h9 := hW.1
  unfold A_tryPart at hr
  unfold fL_tryPart fX5_part fX5_requirePartner
  cases h1 : isM (aN z) x
  · rw [h1, ifF] at hr
    cases hr
    rw [r5_mem_f (AB_e0 h) h1]
    exact ⟨S, rfl, h⟩
  rw [h1, ifT] at hr
  obtain ⟨a, ha, rfl⟩ := isM_t h9 h1
  rw [nn_tn (by omega)] at hr
  rw [r5_mem_t (AB_e0 h) h1, nn_bx1, r1_free hW hE ha, nn_bd1]
  cases hy : sFree (aV z) a
  · rw [hy, ifF] at hr
    cases hr
    obtain ⟨S1, g1, g2, g3⟩ := AB_act h
    obtain ⟨p, k1, k2⟩ := r1_sep (k := 0) (S := S1) hW (by rw [g2]; exact hE) ha
    refine ⟨tst S1 0 p, ?_, am_act h g3 (wf_mp hW ha) (AB_M h) (IV_mp hW ha (AB_I h)) k2⟩
    rw [if_pos (show bI false = 0 from rfl), nn_bx1, g1, nn_bd1, nn_in (by omega) (by decide), k1, nn_bd1, g2, nn_tn (by omega), (hE.2.2 a ha).1 8 (by decide)]; rfl
  · rw [hy, ifT] at hr
    cases hr
    exact ⟨S, rfl, h⟩
theorem am_match (h : AB S z) (hr : A_match z = some (r, z1)) : ∃ S1, fX5_match S = some (r, S1) ∧ AB S1 z1 := by
  have hW := AB_W h
  have hE := AB_E h
  cases hr
  obtain ⟨S1, g1, g2, g3⟩ := AB_act h
  obtain ⟨p, k1, k2⟩ := r1_match (k := 0) (S := S1) hW (by rw [g2]; exact hE)
  refine ⟨tst S1 0 p, ?_, am_act h g3 (wf_mt 4 _ hW) (AB_M h) (IV_mt 4 _ hW (AB_I h)) k2⟩
  unfold fX5_match
  rw [g1, nn_bd1, k1, nn_bd2]
theorem am_trySettle (h : AB S z) {x : Int32} (hr : A_trySettle z x = some (r, z1)) : ∃ S1, fL_trySettle x S = some (r, S1) ∧ AB S1 z1 := by
  have hW := AB_W h
  have hE := AB_E h
  unfold A_trySettle at hr
  unfold fL_trySettle fX5_settle
  cases h1 : rg 1 50 x
  · rw [h1, ifF] at hr
    cases hr
    rw [r5_rg_f h1]
    exact ⟨S, rfl, h⟩
  rw [h1, ifT] at hr
  obtain ⟨X, hX, rfl⟩ : ∃ X, X ≤ 50 ∧ x = nI X := by
    refine rg_nat (N := 50) (by decide) ?_
    unfold rg at h1 ⊢
    rw [Bool.and_eq_true] at h1 ⊢
    refine ⟨?_, h1.2⟩
    have h2 := of_decide_eq_true h1.1
    refine decide_eq_true (fun z => h2 (Int32.lt_trans z (by decide)))
  rw [nn_tn (by omega)] at hr
  cases hr
  obtain ⟨S1, g1, g2, g3⟩ := AB_act h
  obtain ⟨p, k1, k2⟩ := r1_settle (k := 0) (S := S1) hX hW (by rw [g2]; exact hE)
  refine ⟨tst S1 0 p, ?_, am_act h g3 (wf_st X _ hW) (AB_M h) (IV_st X _ hW (AB_I h)) k2⟩
  rw [r5_rg_t h1, nn_bx1, g1, nn_bd1, k1, nn_bd2]; rfl
theorem am_tryUndo (h : AB S z) (hr : A_tryUndo z = some (r, z1)) : ∃ S1, fL_tryUndo S = some (r, S1) ∧ AB S1 z1 := by
  obtain ⟨q0, ⟨hl, z2, z3⟩⟩ := z
  obtain ⟨h1, ⟨h2, ol, h3, h4, h5, h6⟩, h7, h8⟩ := h
  unfold A_tryUndo at hr
  unfold fL_tryUndo fX5_undo
  cases hl with
  | nil =>
    cases hr
    have h5' : S 363 1 = nI 0 := h5
    rw [h5', if_pos (show nI 0 = 0 from rfl)]
    exact ⟨S, rfl, h1, ⟨h2, ol, h3, h4, h5, h6⟩, h7, h8⟩
  | cons q t =>
    cases hr
    have hlen : (q :: t).length = t.length + 1 := rfl
    have ht : t.length + 1 ≤ 14 := h2
    have hq : okP (S (2 + (ol + (t.length + 1 - 1 - 0)) % 14)) q := h6 0 q rfl
    rw [show t.length + 1 - 1 - 0 = t.length by omega] at hq
    have h5 : S 363 1 = nI (t.length + 1) := h5
    obtain ⟨p, k1, k2⟩ := r1_copy (k0 := 0) (k1 := 2 + (ol + t.length) % 14) (S := tst S 363 (tup (S 363) 1 (nI t.length))) (by omega) hq.1.1 (by rw [tst_n _ _ (by omega)]; exact hq.2)
    refine ⟨tst (tst S 363 (tup (S 363) 1 (nI t.length))) 0 p, ?_, ?_⟩
    · unfold fX2_takeBack
      rw [h5, if_neg (by rw [nn_eq0 (by omega)]; omega), li0, if_neg (by rw [nn_le (by omega) (by omega)]; omega), nn_lt1, li1, nn_sub (by omega), teu_t, tst_s, tup_s, tup_n _ _ (by decide), h4, li14, nn_add, nn_rem (by omega) (by decide) (by decide), nn_in (by omega) (by decide), nn_tn (by omega), show t.length + 1 - 1 = t.length by omega]
      rw [k1, nn_bd1, nn_bd1, tst_n _ _ (by decide), tst_s, tup_s]; rfl
    · have hT : ∀ a, a ≠ 363 → a ≠ 0 → tst (tst S 363 (tup (S 363) 1 (nI t.length))) 0 p a = S a := fun a q1 q2 => by rw [tst_n _ _ q2, tst_n _ _ q1]
      refine ⟨by rw [tst_s]; exact ⟨hq.1, k2⟩, ⟨by show t.length ≤ 14; omega, ol, h3, ?_, ?_, fun j x hx => ?_⟩, ?_, ?_⟩
      · rw [tst_n _ _ (by decide), tst_s, tup_n _ _ (by decide)]; exact h4
      · rw [tst_n _ _ (by decide), tst_s, tup_s]
      · have hj := (List.getElem?_eq_some_iff.mp hx).1
        have h9 : okP (S (2 + (ol + (t.length + 1 - 1 - (j + 1))) % 14)) x := h6 (j + 1) x hx
        rw [show t.length + 1 - 1 - (j + 1) = t.length - 1 - j by omega] at h9
        rw [hT _ (by omega) (by omega)]
        exact h9
      · exact ZB_cong h7 (hT _ (by decide) (by decide)) (fun k _ => hT _ (by omega) (by omega))
      · exact TB_cong h8 (hT _ (by decide) (by decide)) (hT _ (by decide) (by decide))
theorem am_trySave (h : AB S z) {x : Int32} (hr : A_trySave z x = some (r, z1)) : ∃ S1, fL_trySave x S = some (r, S1) ∧ AB S1 z1 := by
  have hW := AB_W h
  have hE := AB_E h
  unfold A_trySave at hr
  unfold fL_trySave fX5_save
  rw [r5_sl]
  cases h1 : rg 0 1 x
  · rw [h1, ifF] at hr
    cases hr
    exact ⟨S, rfl, h⟩
  rw [h1, ifT] at hr
  obtain ⟨q, hq, rfl⟩ := rg_nat (N := 1) (by decide) h1
  rw [nn_tn (by omega)] at hr
  cases hr
  obtain ⟨p, k1, k2⟩ := r1_copy (k0 := 16 + q) (k1 := 0) (S := S) (by omega) hW hE
  refine ⟨tst (tst S (16 + q) p) 366 (tup (S 366) q 1), ?_, ?_⟩
  · rw [if_pos rfl, nn_bx1, nn_in (by omega) (by decide), nn_tn (by omega), k1, nn_bd1, nn_lt1, bl_1, teu_t, tst_n _ _ (show 366 ≠ 16 + q by omega), tst_n _ _ (show 0 ≠ 366 by decide), tst_n _ _ (show 0 ≠ 16 + q by omega), hE.2.1]; rfl
  · have hT : ∀ a, a ≠ 366 → a ≠ 16 + q → tst (tst S (16 + q) p) 366 (tup (S 366) q 1) a = S a := fun a g1 g2 => by rw [tst_n _ _ g1, tst_n _ _ g2]
    refine ⟨by rw [hT 0 (by decide) (by omega)]; exact h.1, HB_cong h.2.1 (hT _ (by decide) (by omega)) (fun k _ _ => hT _ (by omega) (by omega)), fun j hj => ?_, TB_cong h.2.2.2 (hT _ (by decide) (by omega)) (hT _ (by decide) (by omega))⟩
    rw [tst_s]
    by_cases hjq : j = q
    · subst hjq
      refine ⟨fun e => ?_, fun y e => ?_⟩
      · have e2 : aSet z.2.2.1 j z.1 j = none := e
        unfold aSet at e2
        rw [if_pos rfl] at e2
        cases e2
      · have e2 : aSet z.2.2.1 j z.1 j = some y := e
        unfold aSet at e2
        rw [if_pos rfl] at e2
        cases e2
        exact ⟨tup_s _ _ _, by rw [tst_n _ _ (by omega), tst_s]; exact ⟨h.1.1, k2⟩⟩
    · have e0 : aSet z.2.2.1 q z.1 j = z.2.2.1 j := if_neg hjq
      rw [tup_n _ _ hjq, hT (16 + j) (by omega) (by omega)]
      exact ⟨fun e => (h.2.2.1 j hj).1 (e0.symm.trans e), fun y e => (h.2.2.1 j hj).2 y (e0.symm.trans e)⟩
theorem am_tryRestore (h : AB S z) {x : Int32} (hr : A_tryRestore z x = some (r, z1)) : ∃ S1, fL_tryRestore x S = some (r, S1) ∧ AB S1 z1 := by
  unfold A_tryRestore at hr
  unfold fL_tryRestore fX5_restore
  rw [r5_sl]
  cases h1 : rg 0 1 x
  · rw [h1, ifF] at hr
    cases hr
    exact ⟨S, rfl, h⟩
  rw [h1, ifT] at hr
  obtain ⟨q, hq, rfl⟩ := rg_nat (N := 1) (by decide) h1
  rw [nn_tn (by omega)] at hr
  rw [if_pos rfl, nn_bx1, nn_in (by omega) (by decide), nn_tn (by omega)]
  cases hs : z.2.2.1 q with
  | none =>
    rw [hs] at hr
    cases hr
    rw [(h.2.2.1 q (by omega)).1 hs, if_pos rfl]
    exact ⟨S, rfl, h⟩
  | some y =>
    rw [hs] at hr
    cases hr
    obtain ⟨e1, gP⟩ := (h.2.2.1 q (by omega)).2 y hs
    obtain ⟨p, k1, k2⟩ := r1_copy (k0 := 0) (k1 := 16 + q) (S := S) (by omega) gP.1.1 gP.2
    refine ⟨tst (tst S 0 p) 363 (tup (S 363) 1 0), ?_, ?_⟩
    · unfold fX2_forget
      rw [e1, if_neg i1_0, k1, nn_bd1, nn_lt1, teu_t, tst_n _ _ (show 363 ≠ 0 by decide), nn_bd1, tst_n _ _ (show 0 ≠ 363 by decide), tst_s, k2.2.1]; rfl
    · have hT : ∀ a, a ≠ 363 → a ≠ 0 → tst (tst S 0 p) 363 (tup (S 363) 1 0) a = S a := fun a g1 g2 => by rw [tst_n _ _ g1, tst_n _ _ g2]
      obtain ⟨-, ol, d1, d2, -, -⟩ := h.2.1
      refine ⟨by rw [tst_n _ _ (by decide), tst_s]; exact ⟨gP.1, k2⟩, ⟨Nat.zero_le _, ol, d1, by rw [tst_s, tup_n _ _ (by decide)]; exact d2, by rw [tst_s, tup_s]; rfl, fun j x hx => by cases hx⟩, ZB_cong h.2.2.1 (hT _ (by decide) (by decide)) (fun k _ => hT _ (by omega) (by omega)), TB_cong h.2.2.2 (hT _ (by decide) (by decide)) (hT _ (by decide) (by decide))⟩
end S74
