/-! STEPS: best, missedMost -/
theorem nI_x (a b : Nat) : nI a ^^^ nI b = nI (a ^^^ b) := by
  apply Int32.toBitVec_inj.1
  show BitVec.ofNat 32 a ^^^ BitVec.ofNat 32 b = BitVec.ofNat 32 (a ^^^ b)
  apply BitVec.eq_of_getLsbD_eq
  intro i hi
  simp [hi]
theorem fdv {X : Nat} (hX : X < 2147483648) (S : teS) : fJ9_floorDiv_7cf53 (nI X) 1000000 S = some (nI (X / 1000000)) := by
  have h2 : X ^^^ 1000000 < 2 ^ 31 := Nat.xor_lt_two_pow (show X < 2 ^ 31 by omega) (by decide)
  unfold fJ9_floorDiv_7cf53
  rw [nn_ch (show decide (¬ (1000000 : Int32) = 0) = true by decide), li1m, nI_x, if_pos (nI_pos' h2), nn_div hX (by decide) (by decide)]
theorem of_ti {x : Int32} {X : Nat} (h : x.toInt = (X : Int)) (hX : X < 2147483648) : x = nI X := Int32.toInt_inj.mp (by rw [nI_toInt (by omega)]; exact h)
section S68
variable {K n M : Nat} {v : tePg} {S : teS}
theorem r0_prs {r : Int32} {P : Nat} {Q : Int} (h : r.toInt = 1000000 * (P : Int) + Q) (hP : P ≤ 9) (h1 : -500000 < Q) (h2 : Q < 500000) (S : teS) : fX0_pairsOf r S = some (nI P) := by
  have h4 : r + 500000 = nI (1000000 * (P : Int) + Q + 500000).toNat := by
    refine of_ti ?_ (by omega)
    rw [ti_add h (show (500000 : Int32).toInt = 500000 by decide) (by omega) (by omega)]
    omega
  unfold fX0_pairsOf
  rw [h4, fdv (by omega), nn_bd1]
  refine congrArg (fun y => some (nI y)) ?_
  omega
theorem r0_sum {r q : Int32} {P : Nat} (h : r.toInt = 1000000 * (P : Int) + q.toInt) (hP : P ≤ 9) (h1 : -500000 < q.toInt) (h2 : q.toInt < 500000) (S : teS) : fX0_sumOf r S = some q := by
  unfold fX0_sumOf
  rw [r0_prs h hP h1 h2, nn_bd1, li1m, nn_mul]
  refine congrArg some (Int32.toInt_inj.mp ?_)
  rw [ti_sub h (nI_toInt (show P * 1000000 < 2 ^ 31 by omega)) (by omega) (by omega)]
  omega
/-- both tables tell the same -/
theorem tb_eq {g p q : tePg} {m : Nat} (hg : VL v (sm n m) (g m).toInt) (h9 : n ≤ 9) (hq : PQ v (sm n m) (p m) (q m)) : ∃ P : Nat, p m = nI P ∧ P ≤ 9 ∧ -500000 < (q m).toInt ∧ (q m).toInt < 500000 ∧ (g m).toInt = 1000000 * (P : Int) + (q m).toInt := by
  obtain ⟨P, h1, h2, h3, h4, h5⟩ := hq
  have h6 := sm_len n m
  exact ⟨P, h1, by omega, by omega, by omega, Val_uniq hg h5⟩
theorem REL_tb (h : REL K n S) (hK : 9 * (K + 1) < 100000) (g p q : tePg) : REL (K + 1) n (LT (sRef (tst S 368 g) 0) p q) := by
  have hU : ∀ a, a ≠ 368 → a ≠ 369 → a ≠ 377 → a ≠ 378 → LT (sRef (tst S 368 g) 0) p q a = S a := fun a g1 g2 g3 g4 => by rw [lt_o g3 g4, sR_p _ _ g2, tst_n _ _ g1]
  have h9 : LT (sRef (tst S 368 g) 0) p q 369 = tup (S 369) 0 0 := by rw [lt_o (by decide) (by decide), sR_s, tst_n _ _ (by decide)]
  exact REL_cong h hK (hU _ (by decide) (by decide) (by decide) (by decide)) (hU _ (by decide) (by decide) (by decide) (by decide)) (hU _ (by decide) (by decide) (by decide) (by decide)) (by rw [h9, tup_n _ _ (by decide)]) (hU _ (by decide) (by decide) (by decide) (by decide)) (fun q q1 q2 => hU _ (by omega) (by omega) (by omega) (by omega)) (hU _ (by decide) (by decide) (by decide) (by decide)) (hU _ (by decide) (by decide) (by decide) (by decide)) (hU _ (by decide) (by decide) (by decide) (by decide)) (hU _ (by decide) (by decide) (by decide) (by decide)) (by rw [h9, tup_n _ _ (by decide)]) (hU _ (by decide) (by decide) (by decide) (by decide)) (hU _ (by decide) (by decide) (by decide) (by decide))
theorem rg01 {x : Int32} (h : rg 0 1 x = true) : x = 0 ∨ x = 1 := by
  obtain ⟨j, hj, rfl⟩ := rg_nat (N := 1) (by decide) h
  rcases (show j = 0 ∨ j = 1 by omega) with rfl | rfl
  · exact Or.inl rfl
  · exact Or.inr rfl
theorem st_best (h : REL K n S) (hK : K ≤ 550) (x1 : Int32) (O : Int64) : STEP K (fL_best x1 S O) (fX6_best x1) := by
  have hW := h.1
  have hE := h.2.1
  have h9 := hW.1
  cases hr : rg 0 1 x1
  · refine st_ref h (by omega) (code := 1) (O := O) (by decide) ?_ ?_
    · unfold fL_best fX5_best
      rw [r5_rg_f hr]; rfl
    · unfold fX6_best
      rw [r6_rg_f (lo := 0) (hi := 1) (by decide) (by decide) hr, nn_bd1, if_pos rfl]
      unfold fX6_best_16
      rw [r6_ref1, nn_bd2, if_neg i1_0]
  · obtain ⟨g, k1, k2⟩ := r0_fill hW (by omega) hE
    obtain ⟨p, q, k3, k4⟩ := r6_lay (T := sRef (tst S 368 g) 0) hW (by omega) (by rw [sR_p _ _ (by decide), tst_n _ _ (by decide)])
    have hp2 := p2_lt h9
    have hp0 := p2_pos n
    obtain ⟨P, m1, m2, m3, m4, m5⟩ := tb_eq (k2 (2 ^ n - 1) (by omega)) h9 (k4 (2 ^ n - 1) (by omega))
    have c5 : fX5_best x1 S = (if x1 = 0 then some (.inr (nI P, tst S 368 g)) else some (.inr (q (2 ^ n - 1), tst S 368 g))) := by
      unfold fX5_best fX0_rankOfAll
      rw [r5_rg_t hr, nn_bx1, k1, nn_bd1, tst_n _ _ (show 0 ≠ 368 by decide), hE.1.trans hW.2.2.1, all_i h9, nn_in (show 2 ^ n - 1 < 512 by omega) (by decide), nn_tn (by omega), tst_s, nn_bd1, r0_prs m5 m2 m3 m4, r0_sum m5 m2 m3 m4, nn_bd1, nn_bd1]
    have e372 : LT (sRef (tst S 368 g) 0) p q 372 0 = nI n := by rw [lt_o (by decide) (by decide), sR_p _ _ (by decide), tst_n _ _ (by decide)]; exact hW.2.2.1
    have c6 : fX6_best x1 (tst S 368 g) = (if x1 = 0 then some (nI P, LT (sRef (tst S 368 g) 0) p q) else some (q (2 ^ n - 1), LT (sRef (tst S 368 g) 0) p q)) := by
      unfold fX6_best
      rw [r6_rg_t (lo := 0) (hi := 1) (by decide) (by decide) hr, nn_bd1, if_neg i1_0]
      unfold fX6_best_16
      rw [r6_ref0, nn_bd2, if_pos rfl, k3, nn_bd1, nn_ch (show tein (0 : Int32) 92 = true by decide), l0, e372, all_i h9, nn_in (show 2 ^ n - 1 < 512 by omega) (by decide), nn_in (show 2 ^ n - 1 < 512 by omega) (by decide), nn_tn (by omega), lt_7, lt_8, m1]
    have h369 : LT (sRef (tst S 368 g) 0) p q 369 0 = 0 := by rw [lt_o (by decide) (by decide), sR_s, tup_s]
    rcases rg01 hr with h0 | h0
    · rw [if_pos h0] at c5 c6
      exact ⟨0, _, tst S 368 g, nI P, _, by unfold fL_best; rw [c5]; rfl, c6, h369, fun _ => rfl, n, REL_tb h (by omega) g p q⟩
    · have hn0 : ¬ x1 = 0 := by rw [h0]; decide
      rw [if_neg hn0] at c5 c6
      exact ⟨0, _, tst S 368 g, q (2 ^ n - 1), _, by unfold fL_best; rw [c5]; rfl, c6, h369, fun _ => rfl, n, REL_tb h (by omega) g p q⟩
/-- who is missed most so far -/
def mmo (g : tePg) (al a : Nat) (o : Option Nat) : Option Nat := match o with | none => some a | some c => if g (clr al c) ≤ g (clr al a) then some c else some a
def mm (g : tePg) (al : Nat) : Nat → Nat → Option Nat → Option Nat
  | 0, _, o => o
  | d + 1, a, o => mm g al d (a + 1) (mmo g al a o)
theorem mm_s (g : tePg) (al d a : Nat) (o : Option Nat) : mm g al (d + 1) a o = mm g al d (a + 1) (mmo g al a o) := rfl
theorem mm_0 (g : tePg) (al a : Nat) (o : Option Nat) : mm g al 0 a o = o := rfl
def mC (g : tePg) (al : Nat) (o : Option Nat) : Int32 := match o with | none => 0 | some c => g (clr al c)
def mR (al : Nat) (o : Option Nat) : Int32 := match o with | none => 0 | some c => nI (clr al c)
theorem c5_mm {g : tePg} (h9 : n ≤ 9) (e0 : S 0 0 = nI n) : ∀ (d a fuel : Nat) (o : Option Nat), a + d = n → d < fuel → (∀ c, o = some c → c < n) → fX5_missedMost_19 fuel (tst S 368 g) (oI o) (mC g (2 ^ n - 1) o) (nI a) = some (oI (mm g (2 ^ n - 1) d a o), tst S 368 g)
  | 0, a, fuel, o, had, hf, ho => by
    obtain ⟨f, rfl⟩ : ∃ f, fuel = f + 1 := ⟨fuel - 1, by omega⟩
    unfold fX5_missedMost_19
    rw [tst_n _ _ (show 0 ≠ 368 by decide), e0, if_pos (by rw [nn_le (by omega) (by omega)]; omega), mm_0]
  | d + 1, a, fuel, o, had, hf, ho => by
    obtain ⟨f, rfl⟩ : ∃ f, fuel = f + 1 := ⟨fuel - 1, by omega⟩
    have hp2 := p2_lt h9
    have hp0 := p2_pos n
    have hcl := clr_le (o := 2 ^ n - 1) (b := a) (by omega) (by omega)
    have hrw : fX0_rankWithout 0 (nI a) (tst S 368 g) = some (g (clr (2 ^ n - 1) a)) := by
      unfold fX0_rankWithout
      rw [tst_n _ _ (show 0 ≠ 368 by decide), e0, all_i h9, clr_i (by omega) (by omega), nn_in (by omega) (by decide), nn_tn (by omega), tst_s]
    unfold fX5_missedMost_19
    rw [tst_n _ _ (show 0 ≠ 368 by decide), e0, if_neg (by rw [nn_le (by omega) (by omega)]; omega), hrw, nn_bd1, nI_1, mm_s]
    cases o with
    | none =>
      rw [if_pos (show oI none = -9999 from rfl)]
      exact c5_mm h9 e0 d (a + 1) f (some a) (by omega) (by omega) (fun c hc => by cases hc; omega)
    | some c =>
      have hc := ho c rfl
      rw [if_neg (show ¬ oI (some c) = -9999 by show ¬ nI c = -9999; rw [nn_NI (by omega)]; exact not_false)]
      show (if g (clr (2 ^ n - 1) c) ≤ g (clr (2 ^ n - 1) a) then fX5_missedMost_19 f (tst S 368 g) (nI c) (g (clr (2 ^ n - 1) c)) (nI (a + 1)) else fX5_missedMost_19 f (tst S 368 g) (nI a) (g (clr (2 ^ n - 1) a)) (nI (a + 1))) = some (oI (mm g (2 ^ n - 1) d (a + 1) (if g (clr (2 ^ n - 1) c) ≤ g (clr (2 ^ n - 1) a) then some c else some a)), tst S 368 g)
      by_cases hle : g (clr (2 ^ n - 1) c) ≤ g (clr (2 ^ n - 1) a)
      · rw [if_pos hle, if_pos hle]
        exact c5_mm h9 e0 d (a + 1) f (some c) (by omega) (by omega) ho
      · rw [if_neg hle, if_neg hle]
        exact c5_mm h9 e0 d (a + 1) f (some a) (by omega) (by omega) (fun e he => by cases he; omega)
theorem c6_mm {g p q : tePg} {T : teS} (h9 : n ≤ 9) (e0 : T 372 0 = nI n) (hg : ∀ m, m < 2 ^ n → VL v (sm n m) (g m).toInt) (hpq : ∀ m, m < 512 → PQ v (sm n m) (p m) (q m)) : ∀ (d a fuel : Nat) (o : Option Nat), a + d = n → d < fuel → (∀ c, o = some c → c < n) → fX6_missedMost_33 fuel (LT T p q) (nI (2 ^ n - 1)) (oI o) (mR (2 ^ n - 1) o) (nI a) = some (oI (mm g (2 ^ n - 1) d a o), LT T p q)
  | 0, a, fuel, o, had, hf, ho => by
    obtain ⟨f, rfl⟩ : ∃ f, fuel = f + 1 := ⟨fuel - 1, by omega⟩
    unfold fX6_missedMost_33
    rw [nn_ch (show tein (0 : Int32) 92 = true by decide), l0, lt_o (by decide) (by decide), e0, if_pos (by rw [nn_le (by omega) (by omega)]; omega), mm_0]
  | d + 1, a, fuel, o, had, hf, ho => by
    obtain ⟨f, rfl⟩ : ∃ f, fuel = f + 1 := ⟨fuel - 1, by omega⟩
    have hp2 := p2_lt h9
    have hp0 := p2_pos n
    have hcl := clr_le (o := 2 ^ n - 1) (b := a) (by omega) (by omega)
    have h109 : ∀ (x y w : Int32), fX6_missedMost_109 (fX6_missedMost_33 f) (LT T p q) (nI (2 ^ n - 1)) x y (nI a) w = fX6_missedMost_33 f (LT T p q) (nI (2 ^ n - 1)) (nI a) w (nI (a + 1)) := fun x y w => by
      unfold fX6_missedMost_109
      rw [if_neg i1_0]
      unfold fX6_missedMost_127
      rw [if_neg i1_0, nI_1]
    have h127 : ∀ (y w x : Int32), fX6_missedMost_127 (fX6_missedMost_33 f) (LT T p q) (nI (2 ^ n - 1)) y (nI a) w 0 x = fX6_missedMost_33 f (LT T p q) (nI (2 ^ n - 1)) x y (nI (a + 1)) := fun y w x => by
      unfold fX6_missedMost_127
      rw [if_pos rfl, nI_1]
    unfold fX6_missedMost_33
    rw [nn_ch (show tein (0 : Int32) 92 = true by decide), l0, lt_o (by decide) (by decide), e0, if_neg (by rw [nn_le (by omega) (by omega)]; omega), clr_i (show 2 ^ n - 1 < 512 by omega) (show a < 9 by omega), mm_s]
    cases o with
    | none =>
      rw [if_pos (show oI none = -9999 from rfl), h109]
      exact c6_mm h9 e0 hg hpq d (a + 1) f (some a) (by omega) (by omega) (fun c hc => by cases hc; omega)
    | some c =>
      have hc := ho c rfl
      have hcl2 := clr_le (o := 2 ^ n - 1) (b := c) (by omega) (by omega)
      obtain ⟨P1, x1, x2, x3, x4, x5⟩ := tb_eq (hg (clr (2 ^ n - 1) a) (by omega)) h9 (hpq (clr (2 ^ n - 1) a) (by omega))
      obtain ⟨P2, y1, y2, y3, y4, y5⟩ := tb_eq (hg (clr (2 ^ n - 1) c) (by omega)) h9 (hpq (clr (2 ^ n - 1) c) (by omega))
      have more : ¬ g (clr (2 ^ n - 1) c) ≤ g (clr (2 ^ n - 1) a) → fX6_missedMost_33 f (LT T p q) (nI (2 ^ n - 1)) (nI a) (nI (clr (2 ^ n - 1) a)) (nI (a + 1)) = some (oI (mm g (2 ^ n - 1) d (a + 1) (mmo g (2 ^ n - 1) a (some c))), LT T p q) := fun hle => by
        show _ = some (oI (mm g (2 ^ n - 1) d (a + 1) (if g (clr (2 ^ n - 1) c) ≤ g (clr (2 ^ n - 1) a) then some c else some a)), LT T p q)
        rw [if_neg hle]
        exact c6_mm h9 e0 hg hpq d (a + 1) f (some a) (by omega) (by omega) (fun e he => by cases he; omega)
      have less : g (clr (2 ^ n - 1) c) ≤ g (clr (2 ^ n - 1) a) → fX6_missedMost_33 f (LT T p q) (nI (2 ^ n - 1)) (nI c) (nI (clr (2 ^ n - 1) c)) (nI (a + 1)) = some (oI (mm g (2 ^ n - 1) d (a + 1) (mmo g (2 ^ n - 1) a (some c))), LT T p q) := fun hle => by
        show _ = some (oI (mm g (2 ^ n - 1) d (a + 1) (if g (clr (2 ^ n - 1) c) ≤ g (clr (2 ^ n - 1) a) then some c else some a)), LT T p q)
        rw [if_pos hle]
        exact c6_mm h9 e0 hg hpq d (a + 1) f (some c) (by omega) (by omega) ho
      rw [if_neg (show ¬ oI (some c) = -9999 by show ¬ nI c = -9999; rw [nn_NI (by omega)]; exact not_false), show mR (2 ^ n - 1) (some c) = nI (clr (2 ^ n - 1) c) from rfl, show oI (some c) = nI c from rfl, nn_in (show clr (2 ^ n - 1) a < 512 by omega) (by decide), nn_in (show clr (2 ^ n - 1) c < 512 by omega) (by decide), nn_tn (show clr (2 ^ n - 1) a < 2147483648 by omega), nn_tn (show clr (2 ^ n - 1) c < 2147483648 by omega), lt_7, lt_8, x1, y1]
      by_cases c1 : P1 < P2
      · rw [if_pos (by rw [nn_lt (by omega) (by omega)]; exact c1), h109]
        exact more (by rw [Int32.le_iff_toInt_le]; omega)
      · rw [if_neg (by rw [nn_lt (by omega) (by omega)]; exact c1)]
        by_cases c2 : P1 = P2
        · rw [if_pos (by rw [c2])]
          by_cases c3 : q (clr (2 ^ n - 1) c) ≤ q (clr (2 ^ n - 1) a)
          · rw [if_pos c3, if_pos rfl, h127]
            rw [Int32.le_iff_toInt_le] at c3
            exact less (by rw [Int32.le_iff_toInt_le]; omega)
          · rw [if_neg c3, h109]
            rw [Int32.le_iff_toInt_le] at c3
            exact more (by rw [Int32.le_iff_toInt_le]; omega)
        · rw [if_neg (by rw [nn_eq (by omega) (by omega)]; exact c2), if_pos rfl, h127]
          exact less (by rw [Int32.le_iff_toInt_le]; omega)
theorem st_missed (h : REL K n S) (hK : K ≤ 550) : ∃ v S1 S2, fX5_missedMost S = some (v, S1) ∧ fX6_missedMost S1 = some (v, S2) ∧ REL (K + 1) n S2 := by
  have hW := h.1
  have hE := h.2.1
  have h9 := hW.1
  obtain ⟨g, k1, k2⟩ := r0_fill hW (by omega) hE
  obtain ⟨p, q, k3, k4⟩ := r6_lay (T := sRef (tst S 368 g) 0) hW (by omega) (by rw [sR_p _ _ (by decide), tst_n _ _ (by decide)])
  have e372 : sRef (tst S 368 g) 0 372 0 = nI n := by rw [sR_p _ _ (by decide), tst_n _ _ (by decide)]; exact hW.2.2.1
  refine ⟨oI (mm g (2 ^ n - 1) n 0 none), tst S 368 g, LT (sRef (tst S 368 g) 0) p q, ?_, ?_, REL_tb h (by omega) g p q⟩
  · unfold fX5_missedMost
    rw [k1, nn_bd1]
    exact c5_mm h9 (hE.1.trans hW.2.2.1) n 0 2000 none (by omega) (by omega) (fun c hc => by cases hc)
  · unfold fX6_missedMost
    rw [nn_lt1, teu_t]
    rw [show fX6_laySets 372 (tst (tst S 368 g) 369 (tup (tst S 368 g 369) 0 0)) = _ from k3, nn_bd1, nn_ch (show tein (0 : Int32) 92 = true by decide), l0, lt_o (show 372 ≠ 377 by decide) (by decide), e372, all_i h9]
    exact c6_mm h9 e372 k2 k4 n 0 2000 none (by omega) (by omega) (fun c hc => by cases hc)
end S68
