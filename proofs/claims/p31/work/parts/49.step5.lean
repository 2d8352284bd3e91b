/-! STEPS: restore, join, the best partner -/
section S49
variable {K n : Nat} {S : teS}
/-- the best partner: found so far -/
def bpn (v : tePg) (a : Nat) (y : Int32) (b : Nat) : Bool := sFit v a b && (decide (y = 0) || sFree v b)
def bpo (v : tePg) (a b : Nat) (o : Option Nat) : Option Nat := match o with | none => some b | some c => if sSc v a b ≤ sSc v a c then some c else some b
def bp (v : tePg) (a : Nat) (y : Int32) : Nat → Nat → Option Nat → Option Nat
  | 0, _, o => o
  | d + 1, b, o => bp v a y d (b + 1) (if bpn v a y b = true then bpo v a b o else o)
theorem bp_s (v : tePg) (a : Nat) (y : Int32) (d b : Nat) (o : Option Nat) : bp v a y (d + 1) b o = bp v a y d (b + 1) (if bpn v a y b = true then bpo v a b o else o) := rfl
theorem bp_0 (v : tePg) (a : Nat) (y : Int32) (b : Nat) (o : Option Nat) : bp v a y 0 b o = o := rfl
def oI (o : Option Nat) : Int32 := match o with | none => -9999 | some c => nI c
def oS (v : tePg) (a : Nat) (o : Option Nat) : Int32 := match o with | none => 0 | some c => sSc v a c
theorem c5_bp {M a : Nat} {v : tePg} (hW : WF n M v) (hE : PE n (S 0) v) (ha : a < n) (y : Int32) : ∀ (d b fuel : Nat) (o : Option Nat), b + d = n → d < fuel → (∀ c, o = some c → c < n) → fX5_bestPartner_15 (nI a) y fuel S (oI o) (oS v a o) (nI b) = some (.inr (oI (bp v a y d b o), S))
  | 0, b, fuel, o, hb, hf, ho => by
    obtain ⟨f, rfl⟩ : ∃ f, fuel = f + 1 := ⟨fuel - 1, by omega⟩
    have h9 := hW.1
    unfold fX5_bestPartner_15
    rw [hE.1.trans hW.2.2.1, if_pos (by rw [nn_le (by omega) (by omega)]; omega), bp_0]
  | d + 1, b, fuel, o, hb, hf, ho => by
    obtain ⟨f, rfl⟩ : ∃ f, fuel = f + 1 := ⟨fuel - 1, by omega⟩
    have h9 := hW.1
    have hbn : b < n := by omega
    have hskip : bpn v a y b = false → fX5_bestPartner_15 (nI a) y f S (oI o) (oS v a o) (nI (b + 1)) = some (.inr (oI (bp v a y (d + 1) b o), S)) := fun hz => by
      rw [bp_s, hz, if_neg (show ¬ false = true by decide)]
      exact c5_bp hW hE ha y d (b + 1) f o (by omega) (by omega) ho
    have hmay : bpn v a y b = true → fX5_bestPartner_56 (nI a) y (fX5_bestPartner_15 (nI a) y f) S (oI o) (oS v a o) (nI b) = some (.inr (oI (bp v a y (d + 1) b o), S)) := fun hz => by
      unfold fX5_bestPartner_56
      rw [bp_s, hz, if_pos (show true = true from rfl), r1_score hW hE ha hbn, nn_bd1, li1, nn_add]
      cases o with
      | none =>
        rw [if_pos (show oI none = -9999 from rfl)]
        exact c5_bp hW hE ha y d (b + 1) f (some b) (by omega) (by omega) (fun c hc => by cases hc; exact hbn)
      | some c =>
        have hc := ho c rfl
        rw [if_neg (show ¬ oI (some c) = -9999 by show ¬ nI c = -9999; rw [nn_NI (by omega)]; exact not_false)]
        rw [show oS v a (some c) = sSc v a c from rfl, show bpo v a b (some c) = if sSc v a b ≤ sSc v a c then some c else some b from rfl]
        by_cases h : sSc v a b ≤ sSc v a c
        · rw [if_pos h, if_pos h]
          exact c5_bp hW hE ha y d (b + 1) f (some c) (by omega) (by omega) ho
        · rw [if_neg h, if_neg h]
          exact c5_bp hW hE ha y d (b + 1) f (some b) (by omega) (by omega) (fun e he => by cases he; exact hbn)
    unfold fX5_bestPartner_15
    rw [hE.1.trans hW.2.2.1, if_neg (by rw [nn_le (by omega) (by omega)]; omega), r1_fit hW hE ha hbn, nn_bd1, bI_if, li1, nn_add]
    cases hft : sFit v a b
    · rw [if_pos rfl]
      exact hskip (by unfold bpn; rw [hft, Bool.false_and])
    · rw [if_neg (show ¬ true = false by decide)]
      by_cases hy : y = 0
      · rw [if_pos hy]
        exact hmay (by unfold bpn; rw [hft, decide_eq_true hy]; rfl)
      · rw [if_neg hy, r1_free hW hE hbn, nn_bd1, bI_if]
        cases hfr : sFree v b
        · rw [if_pos rfl]
          exact hskip (by unfold bpn; rw [hft, decide_eq_false hy, hfr]; rfl)
        · rw [if_neg (show ¬ true = false by decide)]
          exact hmay (by unfold bpn; rw [hft, hfr, Bool.or_true]; rfl)
end S49
