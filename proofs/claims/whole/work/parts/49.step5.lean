/-! STEPS: restore, join, the best partner -/
section S49
variable {K n : Nat} {S : teS}
theorem st_restore (h : REL K n S) (hK : 9 * (K + 200) < 100000) (x1 : Int32) (O : Int64) : STEP K (fL_restore x1 S O) (fX6_restore x1) := by
  have h0 := h
  obtain ⟨hW, hE, hH, hSL, hTX⟩ := h
  cases hr : rg 0 1 x1
  · refine st_ref h0 (by omega) (code := 1) (O := O) (by decide) ?_ ?_
    · unfold fL_restore fX5_restore
      rw [r5_sl, hr]; rfl
    · unfold fX6_restore
      rw [r6_rg_f (lo := 0) (hi := 1) (by decide) (by decide) hr, nn_bd1, if_pos rfl]
      unfold fX6_restore_29
      rw [r6_ref1, nn_bd2, if_neg i1_0]
  · obtain ⟨q, hq, rfl⟩ := rg_nat (N := 1) (by decide) hr
    obtain ⟨s1, s2, s3⟩ := hSL q (by omega)
    rcases s2 with s2 | s2
    · refine st_ref h0 (by omega) (code := 2) (O := O) (by decide) ?_ ?_
      · unfold fL_restore fX5_restore
        rw [r5_sl, hr, if_pos rfl, nn_bx1, nn_in (by omega) (by decide), nn_tn (by omega), s1, s2, if_pos rfl]; rfl
      · unfold fX6_restore
        rw [r6_rg_t (lo := 0) (hi := 1) (by decide) (by decide) hr, nn_bd1, if_neg i1_0, nn_in (by omega) (by decide), nn_tn (by omega), s2, if_pos rfl]
        unfold fX6_restore_29
        rw [r6_ref2, nn_bd2, if_neg i1_0]
    · obtain ⟨m, gW, gE⟩ := s3 s2
      obtain ⟨p, h1, h2⟩ := r1_copy (k0 := 0) (k1 := 16 + q) (S := S) (by omega) gW gE
      have c5 : fX5_restore (nI q) S = some (.inr (p 1, tst (tst S 0 p) 363 (tup (S 363) 1 0))) := by
        unfold fX5_restore fX2_forget
        rw [r5_sl, hr, if_pos rfl, nn_bx1, nn_in (by omega) (by decide), nn_tn (by omega), s1, s2, if_neg i1_0, h1, nn_bd1, nn_lt1, teu_t, tst_n _ _ (show 363 ≠ 0 by decide), nn_bd1, tst_n _ _ (show 0 ≠ 363 by decide), tst_s]
      have hT : ∀ a, a ≠ 363 → a ≠ 0 → tst (tst S 0 p) 363 (tup (S 363) 1 0) a = S a := fun a g1 g2 => by rw [tst_n _ _ g1, tst_n _ _ g2]
      have f1 : tst (tst S 0 p) 363 (tup (S 363) 1 0) 363 = tup (S 363) 1 0 := tst_s _ _ _
      have f2 : tst (tst S 0 p) 363 (tup (S 363) 1 0) 0 = p := by rw [tst_n _ _ (by decide), tst_s]
      generalize tst (tst S 0 p) 363 (tup (S 363) 1 0) = S1 at c5 hT f1 f2
      have t2 : teI 372 = 92 := rfl
      have t5 : teI 375 = 184 := rfl
      have hcp := r6_copy (r0 := 375) (r2 := 372) (x := 92 * q) (y := 0) (by decide) (by rw [t5]; omega) (by rw [t2]; decide) (by rw [t5]; decide) (by rw [t2]; decide) (sRef S1 0)
      rw [sR_p _ _ (show 375 ≠ 369 by decide), sR_p _ _ (show 372 ≠ 369 by decide), hT 375 (by decide) (by decide), hT 372 (by decide) (by decide)] at hcp
      have hv : ∀ i, i < 92 → cpg (S 372) (S 375) (92 * q) 0 92 i = slc (S 375) (92 * q) i := fun i hi => by
        unfold cpg
        rw [if_pos ⟨by omega, by omega⟩, Nat.sub_zero]
        rfl
      have c6 : fX6_restore (nI q) S1 = some (slc (S 375) (92 * q) 1, tst (tst (sRef S1 0) 372 (cpg (S 372) (S 375) (92 * q) 0 92)) 369 (tup (tup (S 369) 0 0) 3 0)) := by
        unfold fX6_restore
        rw [r6_rg_t (lo := 0) (hi := 1) (by decide) (by decide) hr, nn_bd1, if_neg i1_0, nn_in (by omega) (by decide), nn_tn (by omega), hT 376 (by decide) (by decide), s2, if_neg i1_0]
        unfold fX6_restore_29
        rw [r6_ref0, nn_bd2, if_pos rfl, li92, nn_mul]
        show (bd1 (fX6_copyPage 375 (nI (92 * q)) 372 (nI 0) (sRef S1 0)) fun S3 => lt1 (teu S3 369 3 (0 : Int32)) fun S4 => chk (tein (1 : Int32) 92) (some (S4 372 (1 : Int32).toNatClampNeg, S4))) = _
        rw [hcp, nn_bd1, nn_lt1, teu_t, tst_n _ _ (show 369 ≠ 372 by decide), sR_s, hT 369 (by decide) (by decide), nn_ch (show tein (1 : Int32) 92 = true by decide), l1, tst_n _ _ (show 372 ≠ 369 by decide), tst_s, hv 1 (by decide)]
      have hU : ∀ a, a ≠ 363 → a ≠ 0 → a ≠ 369 → a ≠ 372 → tst (tst (sRef S1 0) 372 (cpg (S 372) (S 375) (92 * q) 0 92)) 369 (tup (tup (S 369) 0 0) 3 0) a = S a := fun a g1 g2 g3 g4 => by rw [tst_n _ _ g3, tst_n _ _ g4, sR_p _ _ g3, hT a g1 g2]
      refine ⟨0, _, S1, slc (S 375) (92 * q) 1, _, by unfold fL_restore; rw [c5, h2.2.1]; rfl, c6, by rw [tst_s, tup_n _ _ (by decide), tup_s], fun _ => rfl, m, ?_, ?_, ?_, ?_, ?_⟩
      · rw [tst_n _ _ (by decide), tst_s]
        exact wf_le (wf_cong hv gW) (by omega) (by omega)
      · have u0 : tst (tst (sRef S1 0) 372 (cpg (S 372) (S 375) (92 * q) 0 92)) 369 (tup (tup (S 369) 0 0) 3 0) 0 = p := by rw [tst_n _ _ (by decide), tst_n _ _ (by decide), sR_p _ _ (by decide), f2]
        have u2 : tst (tst (sRef S1 0) 372 (cpg (S 372) (S 375) (92 * q) 0 92)) 369 (tup (tup (S 369) 0 0) 3 0) 372 = cpg (S 372) (S 375) (92 * q) 0 92 := by rw [tst_n _ _ (by decide), tst_s]
        rw [u0, u2]
        exact PE_cong gW.1 hv h2
      · obtain ⟨ol, ct, d1, d2, d3, d4, d5, d6⟩ := hH
        refine ⟨ol, 0, d1, by decide, ?_, ?_, by rw [tst_s, tup_s]; rfl, fun j hj => absurd hj (by omega)⟩
        · rw [tst_n _ _ (by decide), tst_n _ _ (by decide), sR_p _ _ (by decide), f1, tup_n _ _ (by decide)]; exact d3
        · rw [tst_n _ _ (by decide), tst_n _ _ (by decide), sR_p _ _ (by decide), f1, tup_s]; rfl
      · exact SL_cong hSL (by omega) (by omega) (hU _ (by decide) (by decide) (by decide) (by decide)) (hU _ (by decide) (by decide) (by decide) (by decide)) (hU _ (by decide) (by decide) (by decide) (by decide)) (fun q hq => hU _ (by omega) (by omega) (by omega) (by omega))
      · exact TX_cong hTX (hU _ (by decide) (by decide) (by decide) (by decide)) (by rw [tst_s, tup_n _ _ (by decide), tup_n _ _ (by decide)]) (hU _ (by decide) (by decide) (by decide) (by decide)) (hU _ (by decide) (by decide) (by decide) (by decide))
/-- the best partner: found so far -/
def bpn (v : tePg) (a : Nat) (y : Int32) (b : Nat) : Bool := sFit v a b && (decide (y = 0) || sFree v b)
def bpo (v : tePg) (a b : Nat) (o : Option Nat) : Option Nat := match o with | none => some b | some c => if sSc v a b ≤ sSc v a c then some c else some b
def bp (v : tePg) (a : Nat) (y : Int32) : Nat → Nat → Option Nat → Option Nat
  | 0, _, o => o
  | d + 1, b, o => bp v a y d (b + 1) (if bpn v a y b = true then bpo v a b o else o)
theorem bp_s (v : tePg) (a : Nat) (y : Int32) (d b : Nat) (o : Option Nat) : bp v a y (d + 1) b o = bp v a y d (b + 1) (if bpn v a y b = true then bpo v a b o else o) := rfl
theorem bp_0 (v : tePg) (a : Nat) (y : Int32) (b : Nat) (o : Option Nat) : bp v a y 0 b o = o := rfl
def oI (o : Option Nat) : Int32 := match o with | none => -9999 | some c => nI c
def oS (v : tePg) (a : Nat) (o : Option Nat) : Int32 := match o with | none => 0 | some c => sSc v a c
theorem c5_bp {M a : Nat} {v : tePg} (hW : WF n M v) (hE : PE n (S 0) v) (ha : a < n) (y : Int32) : ∀ (d b fuel : Nat) (o : Option Nat), b + d = n → d < fuel → (∀ c, o = some c → c < n) → fX5_bestPartner_15 (nI a) y fuel S (oI o) (oS v a o) (nI b) = some (.inr (oI (bp v a y d b o), S))
  | 0, b, fuel, o, hb, hf, ho => by
    obtain ⟨f, rfl⟩ : ∃ f, fuel = f + 1 := ⟨fuel - 1, by omega⟩
    have h9 := hW.1
    unfold fX5_bestPartner_15
    rw [hE.1.trans hW.2.2.1, if_pos (by rw [nn_le (by omega) (by omega)]; omega), bp_0]
  | d + 1, b, fuel, o, hb, hf, ho => by
    obtain ⟨f, rfl⟩ : ∃ f, fuel = f + 1 := ⟨fuel - 1, by omega⟩
    have h9 := hW.1
    have hbn : b < n := by omega
    have hskip : bpn v a y b = false → fX5_bestPartner_15 (nI a) y f S (oI o) (oS v a o) (nI (b + 1)) = some (.inr (oI (bp v a y (d + 1) b o), S)) := fun hz => by
      rw [bp_s, hz, if_neg (show ¬ false = true by decide)]
      exact c5_bp hW hE ha y d (b + 1) f o (by omega) (by omega) ho
    have hmay : bpn v a y b = true → fX5_bestPartner_56 (nI a) y (fX5_bestPartner_15 (nI a) y f) S (oI o) (oS v a o) (nI b) = some (.inr (oI (bp v a y (d + 1) b o), S)) := fun hz => by
      unfold fX5_bestPartner_56
      rw [bp_s, hz, if_pos (show true = true from rfl), r1_score hW hE ha hbn, nn_bd1, li1, nn_add]
      cases o with
      | none =>
        rw [if_pos (show oI none = -9999 from rfl)]
        exact c5_bp hW hE ha y d (b + 1) f (some b) (by omega) (by omega) (fun c hc => by cases hc; exact hbn)
      | some c =>
        have hc := ho c rfl
        rw [if_neg (show ¬ oI (some c) = -9999 by show ¬ nI c = -9999; rw [nn_NI (by omega)]; exact not_false)]
        rw [show oS v a (some c) = sSc v a c from rfl, show bpo v a b (some c) = if sSc v a b ≤ sSc v a c then some c else some b from rfl]
        by_cases h : sSc v a b ≤ sSc v a c
        · rw [if_pos h, if_pos h]
          exact c5_bp hW hE ha y d (b + 1) f (some c) (by omega) (by omega) ho
        · rw [if_neg h, if_neg h]
          exact c5_bp hW hE ha y d (b + 1) f (some b) (by omega) (by omega) (fun e he => by cases he; exact hbn)
    unfold fX5_bestPartner_15
    rw [hE.1.trans hW.2.2.1, if_neg (by rw [nn_le (by omega) (by omega)]; omega), r1_fit hW hE ha hbn, nn_bd1, bI_if, li1, nn_add]
    cases hft : sFit v a b
    · rw [if_pos rfl]
      exact hskip (by unfold bpn; rw [hft, Bool.false_and])
    · rw [if_neg (show ¬ true = false by decide)]
      by_cases hy : y = 0
      · rw [if_pos hy]
        exact hmay (by unfold bpn; rw [hft, decide_eq_true hy]; rfl)
      · rw [if_neg hy, r1_free hW hE hbn, nn_bd1, bI_if]
        cases hfr : sFree v b
        · rw [if_pos rfl]
          exact hskip (by unfold bpn; rw [hft, decide_eq_false hy, hfr]; rfl)
        · rw [if_neg (show ¬ true = false by decide)]
          exact hmay (by unfold bpn; rw [hft, hfr, Bool.or_true]; rfl)
theorem c6_bp {M a : Nat} {v : tePg} (hW : WF n M v) (hv : S 372 = v) (ha : a < n) (y : Int32) : ∀ (d b fuel : Nat) (o : Option Nat), b + d = n → d < fuel → (∀ c, o = some c → c < n) → fX6_bestPartner_32 (nI a) y fuel S (oI o) (nI b) = some (oI (bp v a y d b o), S)
  | 0, b, fuel, o, hb, hf, ho => by
    obtain ⟨f, rfl⟩ : ∃ f, fuel = f + 1 := ⟨fuel - 1, by omega⟩
    have h9 := hW.1
    unfold fX6_bestPartner_32
    rw [nn_ch (show tein (0 : Int32) 92 = true by decide), l0, hv, hW.2.2.1, if_pos (by rw [nn_le (by omega) (by omega)]; omega), bp_0]
  | d + 1, b, fuel, o, hb, hf, ho => by
    obtain ⟨f, rfl⟩ : ∃ f, fuel = f + 1 := ⟨fuel - 1, by omega⟩
    have h9 := hW.1
    have hbn : b < n := by omega
    have key : ∀ z : Bool, bpn v a y b = z → fX6_bestPartner_77 (nI a) y (fX6_bestPartner_32 (nI a) y f) S (oI o) (nI b) (bI z) = some (oI (bp v a y (d + 1) b o), S) := fun z hz => by
      unfold fX6_bestPartner_77
      rw [bp_s, hz, bI_if, li1, nn_add]
      cases z
      · rw [if_pos rfl, if_neg (show ¬ false = true by decide)]
        exact c6_bp hW hv ha y d (b + 1) f o (by omega) (by omega) ho
      · rw [if_neg (show ¬ true = false by decide), if_pos (show true = true from rfl)]
        cases o with
        | none =>
          rw [if_pos (show oI none = -9999 from rfl)]
          exact c6_bp hW hv ha y d (b + 1) f (some b) (by omega) (by omega) (fun c hc => by cases hc; exact hbn)
        | some c =>
          have hc := ho c rfl
          rw [if_neg (show ¬ oI (some c) = -9999 by show ¬ nI c = -9999; rw [nn_NI (by omega)]; exact not_false), r6_score rfl hW hv ha hbn, nn_bd1]
          show (bd1 (fX6_score 372 (nI a) (nI c) S) fun r_23 => if sSc v a b ≤ r_23 then fX6_bestPartner_32 (nI a) y f S (nI c) (nI (b + 1)) else fX6_bestPartner_32 (nI a) y f S (nI b) (nI (b + 1))) = some (oI (bp v a y d (b + 1) (if sSc v a b ≤ sSc v a c then some c else some b)), S)
          rw [r6_score rfl hW hv ha hc, nn_bd1]
          by_cases h : sSc v a b ≤ sSc v a c
          · rw [if_pos h, if_pos h]
            exact c6_bp hW hv ha y d (b + 1) f (some c) (by omega) (by omega) ho
          · rw [if_neg h, if_neg h]
            exact c6_bp hW hv ha y d (b + 1) f (some b) (by omega) (by omega) (fun e he => by cases he; exact hbn)
    unfold fX6_bestPartner_32
    rw [nn_ch (show tein (0 : Int32) 92 = true by decide), l0, hv, hW.2.2.1, if_neg (by rw [nn_le (by omega) (by omega)]; omega), r6_fit rfl hW hv ha hbn, nn_bd1, bI_if]
    cases hft : sFit v a b
    · rw [if_pos rfl]
      exact key false (by unfold bpn; rw [hft, Bool.false_and])
    · rw [if_neg (show ¬ true = false by decide)]
      by_cases hy : y = 0
      · rw [if_pos hy]
        exact key true (by unfold bpn; rw [hft, decide_eq_true hy]; rfl)
      · rw [if_neg hy, r6_free rfl h9 hv hbn, nn_bd1, bI_if]
        cases hfr : sFree v b
        · rw [if_pos rfl]
          exact key false (by unfold bpn; rw [hft, decide_eq_false hy, hfr]; rfl)
        · rw [if_neg (show ¬ true = false by decide)]
          exact key true (by unfold bpn; rw [hft, hfr, Bool.or_true]; rfl)
theorem st_bestPartner (h : REL K n S) (hK : 9 * (K + 200) < 100000) (x1 x2 : Int32) (O : Int64) : STEP K (fL_bestPartner x1 x2 S O) (fX6_bestPartner x1 x2) := by
  have hW := h.1
  have hE := h.2.1
  have h9 := hW.1
  have e0 : S 0 0 = nI n := hE.1.trans hW.2.2.1
  have e6 : S 372 0 = nI n := hW.2.2.1
  cases hm : isM n x1
  · refine st_ref h (by omega) (code := 1) (O := O) (by decide) ?_ ?_
    · unfold fL_bestPartner fX5_bestPartner
      rw [r5_mem_f e0 hm]; rfl
    · unfold fX6_bestPartner
      rw [r6_mem_f h9 e6 hm, nn_bd1, if_pos rfl, r6_ref1, nn_bd2, if_neg i1_0]
  · obtain ⟨a, ha, rfl⟩ := isM_t h9 hm
    refine st_read h (by omega) (v := oI (bp (S 372) a x2 n 0 none)) ?_ ?_
    · have c5 := c5_bp hW hE ha x2 n 0 2000 none (by omega) (by omega) (fun c hc => by cases hc)
      have c5' : fX5_bestPartner_15 (nI a) x2 2000 S (-9999) 0 0 = some (.inr (oI (bp (S 372) a x2 n 0 none), S)) := c5
      unfold fL_bestPartner fX5_bestPartner
      rw [r5_mem_t e0 hm, nn_bx1, c5']; rfl
    · have c6 := c6_bp (S := sRef S 0) hW (sR_p _ _ (by decide)) ha x2 n 0 2000 none (by omega) (by omega) (fun c hc => by cases hc)
      unfold fX6_bestPartner
      rw [r6_mem_t h9 e6 hm, nn_bd1, if_neg i1_0, r6_ref0, nn_bd2, if_pos rfl]
      exact c6
end S49
