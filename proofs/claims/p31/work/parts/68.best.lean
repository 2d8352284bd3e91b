/-! STEPS: best, missedMost -/
theorem nI_x (a b : Nat) : nI a ^^^ nI b = nI (a ^^^ b) := by
  apply Int32.toBitVec_inj.1
  show BitVec.ofNat 32 a ^^^ BitVec.ofNat 32 b = BitVec.ofNat 32 (a ^^^ b)
  apply BitVec.eq_of_getLsbD_eq
  intro i hi
  simp [hi]
theorem fdv {X : Nat} (hX : X < 2147483648) (S : teS) : fJ9_floorDiv_7cf53 (nI X) 1000000 S = some (nI (X / 1000000)) := by
  have h2 : X ^^^ 1000000 < 2 ^ 31 := Nat.xor_lt_two_pow (show X < 2 ^ 31 by omega) (by decide)
  unfold fJ9_floorDiv_7cf53
  rw [nn_ch (show decide (¬ (1000000 : Int32) = 0) = true by decide), li1m, nI_x, if_pos (nI_pos' h2), nn_div hX (by decide) (by decide)]
theorem of_ti {x : Int32} {X : Nat} (h : x.toInt = (X : Int)) (hX : X < 2147483648) : x = nI X := Int32.toInt_inj.mp (by rw [nI_toInt (by omega)]; exact h)
section S68
variable {K n M : Nat} {v : tePg} {S : teS}
theorem r0_prs {r : Int32} {P : Nat} {Q : Int} (h : r.toInt = 1000000 * (P : Int) + Q) (hP : P ≤ 9) (h1 : -500000 < Q) (h2 : Q < 500000) (S : teS) : fX0_pairsOf r S = some (nI P) := by
  have h4 : r + 500000 = nI (1000000 * (P : Int) + Q + 500000).toNat := by
    refine of_ti ?_ (by omega)
    rw [ti_add h (show (500000 : Int32).toInt = 500000 by decide) (by omega) (by omega)]
    omega
  unfold fX0_pairsOf
  rw [h4, fdv (by omega), nn_bd1]
  refine congrArg (fun y => some (nI y)) ?_
  omega
theorem r0_sum {r q : Int32} {P : Nat} (h : r.toInt = 1000000 * (P : Int) + q.toInt) (hP : P ≤ 9) (h1 : -500000 < q.toInt) (h2 : q.toInt < 500000) (S : teS) : fX0_sumOf r S = some q := by
  unfold fX0_sumOf
  rw [r0_prs h hP h1 h2, nn_bd1, li1m, nn_mul]
  refine congrArg some (Int32.toInt_inj.mp ?_)
  rw [ti_sub h (nI_toInt (show P * 1000000 < 2 ^ 31 by omega)) (by omega) (by omega)]
  omega
/-- both tables tell the same -/
theorem tb_eq {g p q : tePg} {m : Nat} (hg : VL v (sm n m) (g m).toInt) (h9 : n ≤ 9) (hq : PQ v (sm n m) (p m) (q m)) : ∃ P : Nat, p m = nI P ∧ P ≤ 9 ∧ -500000 < (q m).toInt ∧ (q m).toInt < 500000 ∧ (g m).toInt = 1000000 * (P : Int) + (q m).toInt := by
  obtain ⟨P, h1, h2, h3, h4, h5⟩ := hq
  have h6 := sm_len n m
  exact ⟨P, h1, by omega, by omega, by omega, Val_uniq hg h5⟩
theorem rg01 {x : Int32} (h : rg 0 1 x = true) : x = 0 ∨ x = 1 := by
  obtain ⟨j, hj, rfl⟩ := rg_nat (N := 1) (by decide) h
  rcases (show j = 0 ∨ j = 1 by omega) with rfl | rfl
  · exact Or.inl rfl
  · exact Or.inr rfl
/-- who is missed most so far -/
def mmo (g : tePg) (al a : Nat) (o : Option Nat) : Option Nat := match o with | none => some a | some c => if g (clr al c) ≤ g (clr al a) then some c else some a
def mm (g : tePg) (al : Nat) : Nat → Nat → Option Nat → Option Nat
  | 0, _, o => o
  | d + 1, a, o => mm g al d (a + 1) (mmo g al a o)
theorem mm_s (g : tePg) (al d a : Nat) (o : Option Nat) : mm g al (d + 1) a o = mm g al d (a + 1) (mmo g al a o) := rfl
theorem mm_0 (g : tePg) (al a : Nat) (o : Option Nat) : mm g al 0 a o = o := rfl
def mC (g : tePg) (al : Nat) (o : Option Nat) : Int32 := match o with | none => 0 | some c => g (clr al c)
def mR (al : Nat) (o : Option Nat) : Int32 := match o with | none => 0 | some c => nI (clr al c)
theorem c5_mm {g : tePg} (h9 : n ≤ 9) (e0 : S 0 0 = nI n) : ∀ (d a fuel : Nat) (o : Option Nat), a + d = n → d < fuel → (∀ c, o = some c → c < n) → fX5_missedMost_19 fuel (tst S 368 g) (oI o) (mC g (2 ^ n - 1) o) (nI a) = some (oI (mm g (2 ^ n - 1) d a o), tst S 368 g)
  | 0, a, fuel, o, had, hf, ho => by
    obtain ⟨f, rfl⟩ : ∃ f, fuel = f + 1 := ⟨fuel - 1, by omega⟩
    unfold fX5_missedMost_19
    rw [tst_n _ _ (show 0 ≠ 368 by decide), e0, if_pos (by rw [nn_le (by omega) (by omega)]; omega), mm_0]
  | d + 1, a, fuel, o, had, hf, ho => by
    obtain ⟨f, rfl⟩ : ∃ f, fuel = f + 1 := ⟨fuel - 1, by omega⟩
    have hp2 := p2_lt h9
    have hp0 := p2_pos n
    have hcl := clr_le (o := 2 ^ n - 1) (b := a) (by omega) (by omega)
    have hrw : fX0_rankWithout 0 (nI a) (tst S 368 g) = some (g (clr (2 ^ n - 1) a)) := by
      unfold fX0_rankWithout
      rw [tst_n _ _ (show 0 ≠ 368 by decide), e0, all_i h9, clr_i (by omega) (by omega), nn_in (by omega) (by decide), nn_tn (by omega), tst_s]
    unfold fX5_missedMost_19
    rw [tst_n _ _ (show 0 ≠ 368 by decide), e0, if_neg (by rw [nn_le (by omega) (by omega)]; omega), hrw, nn_bd1, nI_1, mm_s]
    cases o with
    | none =>
      rw [if_pos (show oI none = -9999 from rfl)]
      exact c5_mm h9 e0 d (a + 1) f (some a) (by omega) (by omega) (fun c hc => by cases hc; omega)
    | some c =>
      have hc := ho c rfl
      rw [if_neg (show ¬ oI (some c) = -9999 by show ¬ nI c = -9999; rw [nn_NI (by omega)]; exact not_false)]
      show (if g (clr (2 ^ n - 1) c) ≤ g (clr (2 ^ n - 1) a) then fX5_missedMost_19 f (tst S 368 g) (nI c) (g (clr (2 ^ n - 1) c)) (nI (a + 1)) else fX5_missedMost_19 f (tst S 368 g) (nI a) (g (clr (2 ^ n - 1) a)) (nI (a + 1))) = some (oI (mm g (2 ^ n - 1) d (a + 1) (if g (clr (2 ^ n - 1) c) ≤ g (clr (2 ^ n - 1) a) then some c else some a)), tst S 368 g)
      by_cases hle : g (clr (2 ^ n - 1) c) ≤ g (clr (2 ^ n - 1) a)
      · rw [if_pos hle, if_pos hle]
        exact c5_mm h9 e0 d (a + 1) f (some c) (by omega) (by omega) ho
      · rw [if_neg hle, if_neg hle]
        exact c5_mm h9 e0 d (a + 1) f (some a) (by omega) (by omega) (fun e he => by cases he; omega)
end S68
