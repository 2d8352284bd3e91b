/-! THE READING CALLS of one object, as the law makes them -/
def nPrs (n : Nat) (v : tePg) : Int32 := s1 (fun a => if gp n v a = -9999 then 0 else 1) n 0 0
def nSov (n : Nat) (v : tePg) : Int32 := s1 (fun a => if gp n v a = -9999 then 0 else sVal v a (pp v a)) n 0 0
def nBlk (n : Nat) (v : tePg) : Int32 := sf (fun x y => bI (sBlk v x y)) (pout n 0 n) 0
def nFts (n : Nat) (v : tePg) : Int32 := s1 (fun a => s1 (fun b => bI (sFit v a b)) n 0 0) n 0 0 / nI 2
def A_tryAbout (z : aS) (x : Int32) : Int32 := if x = 0 then nI (aN z) else if x = 1 then nPrs (aN z) (aV z) else if x = 2 then aV z 1 else if x = 3 then nSov (aN z) (aV z) else if x = 4 then nBlk (aN z) (aV z) else if x = 5 then crd (aN z) (aV z) else if x = 6 then nFts (aN z) (aV z) else -99002
def A_tryMember (z : aS) (x y : Int32) : Int32 := if isM (aN z) x = true then (if rg 0 10 y = true then sNum (aN z) (aV z) x.toNatClampNeg y.toNatClampNeg else -99002) else -99001
def A_tryBoth (z : aS) (x y w : Int32) : Int32 := if isM (aN z) x = true then (if isM (aN z) y = true then (if x = y then -99002 else if w = 0 then sSc (aV z) x.toNatClampNeg y.toNatClampNeg else if w = 1 then sVal (aV z) x.toNatClampNeg y.toNatClampNeg else if w = 2 then bI (sFit (aV z) x.toNatClampNeg y.toNatClampNeg) else if w = 3 then bI (sBlk (aV z) x.toNatClampNeg y.toNatClampNeg) else -99002) else -99001) else -99001
def A_tryBlocking (z : aS) (x y : Int32) : Int32 := if 0 ≤ x then (match fnd (aV z) (aN z) x.toNatClampNeg with | none => -9999 | some q => if y = 0 then nI q.1 else nI q.2) else -99002
def A_tryBestPartner (z : aS) (x y : Int32) : Int32 := if isM (aN z) x = true then oI (bp (aV z) x.toNatClampNeg y (aN z) 0 none) else -99001
section S71
variable {S : teS} {z : aS}
theorem nI_tn (x : Int32) (h : 0 ≤ x) : x = nI x.toNatClampNeg := by
  have h1 : x.toInt = (x.toNatClampNeg : Int) := by
    have := Int32.le_iff_toInt_le.mp h
    have h0 : (0 : Int32).toInt = 0 := rfl
    rw [h0] at this
    show x.toInt = (x.toInt.toNat : Int)
    omega
  have h2 : x.toNatClampNeg < 2147483648 := by
    have := x.toInt_lt
    omega
  exact of_ti h1 h2
theorem am_tryAbout (h : AB S z) (x : Int32) : fL_tryAbout x S = some (A_tryAbout z x, S) := by
  have hW := AB_W h
  have hE := AB_E h
  have h9 := hW.1
  unfold fL_tryAbout fX5_about A_tryAbout
  by_cases h0 : x = 0
  · rw [if_pos h0, if_pos h0, AB_e0 h]; rfl
  rw [if_neg h0, if_neg h0]
  by_cases h0 : x = 1
  · rw [if_pos h0, if_pos h0]
    unfold fX1_countPairs
    rw [li0, c1_prs1 hW hE (aN z) 0 2000 _ (by omega) (by omega), nn_bd1]; rfl
  rw [if_neg h0, if_neg h0]
  by_cases h0 : x = 2
  · rw [if_pos h0, if_pos h0, hE.2.1]; rfl
  rw [if_neg h0, if_neg h0]
  by_cases h0 : x = 3
  · rw [if_pos h0, if_pos h0]
    unfold fX1_sumOfValues
    rw [li0, c1_sov1 hW hE (aN z) 0 2000 _ (by omega) (by omega), nn_bd1]; rfl
  rw [if_neg h0, if_neg h0]
  by_cases h0 : x = 4
  · rw [if_pos h0, if_pos h0, c1_blk hW hE, nn_bd1]; rfl
  rw [if_neg h0, if_neg h0]
  by_cases h0 : x = 5
  · rw [if_pos h0, if_pos h0, r1_crd hW hE, nn_bd1]; rfl
  rw [if_neg h0, if_neg h0]
  by_cases h0 : x = 6
  · rw [if_pos h0, if_pos h0]
    unfold fX1_countFitting
    rw [li0, c1_cft hW hE (aN z) 0 2000 _ (by omega) (by omega), nn_bd1]; rfl
  rw [if_neg h0, if_neg h0]; rfl
theorem am_tryMember (h : AB S z) (x y : Int32) : fL_tryMember x y S = some (A_tryMember z x y, S) := by
  have hW := AB_W h
  have hE := AB_E h
  have h9 := hW.1
  unfold fL_tryMember fX5_member A_tryMember
  cases h1 : isM (aN z) x
  · rw [r5_mem_f (AB_e0 h) h1, nn_bx1l]; rfl
  · rw [r5_mem_t (AB_e0 h) h1, nn_bx1, if_pos rfl]
    cases h2 : rg 0 10 y
    · rw [r5_rg_f h2, nn_bx1l]; rfl
    · obtain ⟨a, ha, rfl⟩ := isM_t h9 h1
      obtain ⟨o, ho, rfl⟩ := rg_nat (N := 10) (by decide) h2
      rw [r5_rg_t h2, nn_bx1, r1_num hW hE ha ho, nn_bd1, if_pos rfl, nn_tn (by omega), nn_tn (by omega)]; rfl
theorem am_tryBoth (h : AB S z) (x y w : Int32) : fL_tryBoth x y w S = some (A_tryBoth z x y w, S) := by
  have hW := AB_W h
  have hE := AB_E h
  have h9 := hW.1
  unfold fL_tryBoth fX5_both A_tryBoth
  cases h1 : isM (aN z) x
  · rw [r5_two_1 (AB_e0 h) h1, nn_bx1l]; rfl
  rw [if_pos rfl]
  cases h2 : isM (aN z) y
  · rw [r5_two_2 (AB_e0 h) h1 h2, nn_bx1l]; rfl
  rw [if_pos rfl]
  by_cases h3 : x = y
  · rw [r5_two_3 (AB_e0 h) h1 h2 h3, nn_bx1l, if_pos h3]; rfl
  rw [r5_two_t (AB_e0 h) h1 h2 h3, nn_bx1, if_neg h3]
  obtain ⟨a, ha, rfl⟩ := isM_t h9 h1
  obtain ⟨b, hb, rfl⟩ := isM_t h9 h2
  rw [nn_tn (by omega), nn_tn (by omega)]
  by_cases h0 : w = 0
  · rw [if_pos h0, if_pos h0, r1_score hW hE ha hb, nn_bd1]; rfl
  rw [if_neg h0, if_neg h0]
  by_cases h0 : w = 1
  · rw [if_pos h0, if_pos h0, r1_value hW hE ha hb, nn_bd1]; rfl
  rw [if_neg h0, if_neg h0]
  by_cases h0 : w = 2
  · rw [if_pos h0, if_pos h0, r1_fit hW hE ha hb, nn_bd1, bI_if]
    cases sFit (aV z) a b <;> rfl
  rw [if_neg h0, if_neg h0]
  by_cases h0 : w = 3
  · rw [if_pos h0, if_pos h0, r1_block hW hE ha hb, nn_bd1, bI_if]
    cases sBlk (aV z) a b <;> rfl
  rw [if_neg h0, if_neg h0]; rfl
theorem am_tryBlocking (h : AB S z) (x y : Int32) : fL_tryBlocking x y S = some (A_tryBlocking z x y, S) := by
  have hW := AB_W h
  have hE := AB_E h
  have h9 := hW.1
  unfold fL_tryBlocking fX5_blocking A_tryBlocking
  by_cases h0 : 0 ≤ x
  · have hx := nI_tn x h0
    have hb : x.toNatClampNeg < 2147483648 := by have := x.toInt_lt; show x.toInt.toNat < _; omega
    rw [if_pos h0, if_pos h0]
    generalize x.toNatClampNeg = k at hx hb
    subst hx
    rw [li0, c5_bl1 hW hE _ _ (aN z) 0 2000 k hb (by omega) (by omega), fnd_map]
    cases fnd (aV z) (aN z) k with
    | none => rfl
    | some q => rfl
  · rw [if_neg h0, if_neg h0]; rfl
theorem am_tryBestPartner (h : AB S z) (x y : Int32) : fL_tryBestPartner x y S = some (A_tryBestPartner z x y, S) := by
  have hW := AB_W h
  have hE := AB_E h
  have h9 := hW.1
  unfold fL_tryBestPartner fX5_bestPartner A_tryBestPartner
  cases h1 : isM (aN z) x
  · rw [r5_mem_f (AB_e0 h) h1, nn_bx1l]; rfl
  · rw [r5_mem_t (AB_e0 h) h1, nn_bx1, if_pos rfl]
    obtain ⟨a, ha, rfl⟩ := isM_t h9 h1
    rw [nn_tn (by omega)]
    rw [show fX5_bestPartner_15 (nI a) y 2000 S (-9999) 0 0 = _ from c5_bp hW hE ha y (aN z) 0 2000 none (Nat.zero_add _) (by omega) (fun c hc => by cases hc)]; rfl
end S71
