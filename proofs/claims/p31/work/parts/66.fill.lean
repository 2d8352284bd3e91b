/-! THE CLASS fills its table of ranks -/
section S66
variable {n M : Nat} {v : tePg} {S : teS}
theorem li1m : (1000000 : Int32) = nI 1000000 := rfl
theorem rk_b (x w : Int) (h0 : 0 ≤ x) (h1 : x ≤ 10000000) (w0 : -50300 ≤ w) (w1 : w ≤ 50300) : (-2147483648 ≤ x + 1000000 ∧ x + 1000000 < 2147483648) ∧ -2147483648 ≤ x + 1000000 + w ∧ x + 1000000 + w < 2147483648 := by omega
theorem rk_add {x w : Int32} (h0 : 0 ≤ x.toInt) (h1 : x.toInt ≤ 10000000) (w0 : -50300 ≤ w.toInt) (w1 : w.toInt ≤ 50300) : (x + 1000000 + w).toInt = x.toInt + 1000000 + w.toInt :=
  ti_add (ti_add rfl (show (1000000 : Int32).toInt = 1000000 by decide) (rk_b _ _ h0 h1 w0 w1).1.1 (rk_b _ _ h0 h1 w0 w1).1.2) rfl (rk_b _ _ h0 h1 w0 w1).2.1 (rk_b _ _ h0 h1 w0 w1).2.2
theorem rk_sub (x w : Int) : x + 1000000 + w - (1000000 + w) = x := by omega
theorem rk_max (r t : Int32) (x : Int) : (if r < t then t else r).toInt ≤ x ↔ (r.toInt ≤ x ∧ t.toInt ≤ x) := by
  by_cases hlt : r < t
  · rw [if_pos hlt]
    rw [Int32.lt_iff_toInt_lt] at hlt
    omega
  · rw [if_neg hlt]
    rw [Int32.lt_iff_toInt_lt] at hlt
    omega
theorem c0_rw (hW : WF n M v) (hM : M ≤ 5000) (hE : PE n (S 0) v) {last o : Nat} (hl : last < n) (ho : o < 2 ^ last) (hI : ∀ m, m < 2 ^ last → VL v (sm n m) (S 368 m).toInt) : ∀ (d b fuel : Nat) (r : Int32), b + d = last → d < fuel → PB (sFit v) (Wt v) (sm n o) last b r.toInt →
    ∃ r', fX0_rankWith_11 0 (nI last) (nI o) fuel S r (nI b) = some r' ∧ PB (sFit v) (Wt v) (sm n o) last last r'.toInt
  | 0, b, fuel, r, hb, hf, hp => by
    obtain ⟨f, rfl⟩ : ∃ f, fuel = f + 1 := ⟨fuel - 1, by omega⟩
    obtain rfl : b = last := by omega
    unfold fX0_rankWith_11
    rw [if_pos (Int32.le_refl _)]
    exact ⟨r, rfl, hp⟩
  | d + 1, b, fuel, r, hb, hf, hp => by
    obtain ⟨f, rfl⟩ : ∃ f, fuel = f + 1 := ⟨fuel - 1, by omega⟩
    have h9 := hW.1
    have hbl : b < last := by omega
    have ho5 : o < 512 := Nat.lt_of_lt_of_le ho (p2_lt (by omega))
    unfold fX0_rankWith_11
    rw [if_neg (by rw [nn_le (by omega) (by omega)]; omega), nI_1]
    cases hbit : o.testBit b
    · rw [if_neg (bit_n ho5 (by omega) hbit)]
      exact c0_rw hW hM hE hl ho hI d (b + 1) f r (by omega) (by omega) (PB_skip hp fun h _ => by
        have h1 := (sm_in.mp h).2
        rw [hbit] at h1
        exact absurd h1 (by decide))
    · rw [if_pos (bit_p ho5 (by omega) hbit), r1_fit hW hE (show b < n by omega) hl, nn_bd1, bI_if]
      cases hft : sFit v b last
      · rw [if_pos rfl]
        exact c0_rw hW hM hE hl ho hI d (b + 1) f r (by omega) (by omega) (PB_skip hp fun _ h => by
          rw [sFit_c, hft] at h
          exact absurd h (by decide))
      · have hcl := clr_lt ho5 (show b < 9 by omega) hbit
        have hR := hI (clr o b) (by omega)
        obtain ⟨R0, R1⟩ := VL_le hW hM hR
        obtain ⟨w0, w1⟩ := vl_b hW hM (show b < n by omega) hl
        have hbs : b ∈ sm n o := sm_in.mpr ⟨by omega, hbit⟩
        obtain ⟨t, ht⟩ : ∃ t : Int32, t = S 368 (clr o b) + (1000000 : Int32) + sVal v b last := ⟨_, rfl⟩
        have e1 : t.toInt - Wt v last b = (S 368 (clr o b)).toInt := by
          rw [ht, rk_add R0 R1 w0 w1]
          unfold Wt
          rw [sVal_c v last b]
          exact rk_sub _ _
        have hT : VL v ((sm n o).erase b) (t.toInt - Wt v last b) := by
          rw [e1]
          exact VL_perm sm_clr (sm_nd _ _) hR
        rw [if_neg (show ¬ true = false by decide), clr_i ho5 (show b < 9 by omega), nn_in (by omega) (by decide), r1_value hW hE (show b < n by omega) hl, nn_bd1, nn_tn (by omega), ← ht]
        clear ht e1 R0 R1 w0 w1 hR
        refine c0_rw hW hM hE hl ho hI d (b + 1) f _ (by omega) (by omega) (PB_take hp hbs (by rw [sFit_c]; exact hft) hT (rk_max r t))
theorem c0_in (hW : WF n M v) (hM : M ≤ 5000) (hE : PE n (S 0) v) {last : Nat} (hl : last < n) (q : teS → Int32 → Option teS) : ∀ (d o fuel : Nat) (g : tePg), o + d = 2 ^ last → d < fuel → (∀ m, m < 2 ^ last + o → VL v (sm n m) (g m).toInt) →
    ∃ g', fX0_fill_24 0 q fuel (tst S 368 g) (nI last) (nI (2 ^ last)) (nI o) = q (tst S 368 g') (nI (last + 1)) ∧ ∀ m, m < 2 ^ (last + 1) → VL v (sm n m) (g' m).toInt
  | 0, o, fuel, g, hod, hf, hI => by
    obtain ⟨f, rfl⟩ : ∃ f, fuel = f + 1 := ⟨fuel - 1, by omega⟩
    obtain rfl : o = 2 ^ last := by omega
    unfold fX0_fill_24
    rw [if_pos (Int32.le_refl _), nI_1]
    exact ⟨g, rfl, fun m hm => hI m (by rw [Nat.pow_succ] at hm; omega)⟩
  | d + 1, o, fuel, g, hod, hf, hI => by
    obtain ⟨f, rfl⟩ : ∃ f, fuel = f + 1 := ⟨fuel - 1, by omega⟩
    have h9 := hW.1
    have hp8 := p2_8 (show last < 9 by omega)
    have ho : o < 2 ^ last := by omega
    have hw := c0_rw (S := tst S 368 g) hW hM (by rw [tst_n _ _ (by decide)]; exact hE) hl ho (fun m hm => by rw [tst_s]; exact hI m (by omega)) last 0 2000 (g o) (by omega) (by omega) (PB_0 (hI o (by omega)) (fun c _ => Nat.zero_le c))
    obtain ⟨r, h1, h2⟩ := hw
    have hrw : fX0_rankWith 0 (nI last) (nI o) (tst S 368 g) = some r := by
      unfold fX0_rankWith
      rw [nn_in (by omega) (by decide), nn_tn (by omega), tst_s]
      exact h1
    obtain ⟨t1, t2⟩ := sm_top hl ho
    have hV : VL v (sm n (2 ^ last + o)) r.toInt := VL_perm t1 (List.nodup_cons.mpr ⟨t2, sm_nd _ _⟩) (PB_end h2 (fun c hc => by
      have h3 := (sm_in.mp hc).2
      by_cases hcl : c < last
      · exact hcl
      · rw [tb_hi ho (by omega)] at h3
        exact absurd h3 (by decide)))
    have hor : (nI (2 ^ last) ||| nI o) = nI (2 ^ last + o) := q_or ⟨last, by omega⟩ ⟨o, by omega⟩ ho
    unfold fX0_fill_24
    rw [if_neg (by rw [nn_le (by omega) (by omega)]; omega), hrw, nn_bd1, hor, nn_in (by omega) (by decide), nn_lt1, nn_tn (by omega), teu_t, tst_s, tst_t, nI_1]
    exact c0_in hW hM hE hl q d (o + 1) f _ (by omega) (by omega) (fun m hm => by
      by_cases hmo : m = 2 ^ last + o
      · rw [hmo, tup_s]; exact hV
      · rw [tup_n _ _ hmo]; exact hI m (by omega))
theorem c0_out (hW : WF n M v) (hM : M ≤ 5000) (hE : PE n (S 0) v) : ∀ (d last fuel : Nat) (g : tePg), last + d = n → d < fuel → (∀ m, m < 2 ^ last → VL v (sm n m) (g m).toInt) →
    ∃ g', fX0_fill_9 0 fuel (tst S 368 g) (nI last) = some (tst S 368 g') ∧ ∀ m, m < 2 ^ n → VL v (sm n m) (g' m).toInt
  | 0, last, fuel, g, hld, hf, hI => by
    obtain ⟨f, rfl⟩ : ∃ f, fuel = f + 1 := ⟨fuel - 1, by omega⟩
    obtain rfl : last = n := by omega
    have h9 := hW.1
    unfold fX0_fill_9
    rw [tst_n _ _ (show 0 ≠ 368 by decide), hE.1.trans hW.2.2.1, if_pos (Int32.le_refl _)]
    exact ⟨g, rfl, hI⟩
  | d + 1, last, fuel, g, hld, hf, hI => by
    obtain ⟨f, rfl⟩ : ∃ f, fuel = f + 1 := ⟨fuel - 1, by omega⟩
    have h9 := hW.1
    have hp8 := p2_8 (show last < 9 by omega)
    obtain ⟨g1, k1, k2⟩ := c0_in hW hM hE (show last < n by omega) (fX0_fill_9 0 f) (2 ^ last) 0 2000 g (by omega) (by omega) (fun m hm => hI m (by omega))
    obtain ⟨g2, k3, k4⟩ := c0_out hW hM hE d (last + 1) f g1 (by omega) (by omega) k2
    have hsh : (1 : Int32) <<< (nI last &&& 31) = nI (2 ^ last) := q_sh ⟨last, by omega⟩
    unfold fX0_fill_9
    rw [tst_n _ _ (show 0 ≠ 368 by decide), hE.1.trans hW.2.2.1, if_neg (by rw [nn_le (by omega) (by omega)]; omega), hsh]
    exact ⟨g2, k1.trans k3, k4⟩
theorem sm_0 (n : Nat) : sm n 0 = [] := by
  cases h : sm n 0 with
  | nil => rfl
  | cons a r =>
    have h1 : a ∈ sm n 0 := by rw [h]; exact List.mem_cons_self
    have h2 := (sm_in.mp h1).2
    rw [Nat.zero_testBit] at h2
    exact absurd h2 (by decide)
theorem r0_fill (hW : WF n M v) (hM : M ≤ 5000) (hE : PE n (S 0) v) : ∃ g, fX0_fill 0 S = some (tst S 368 g) ∧ ∀ m, m < 2 ^ n → VL v (sm n m) (g m).toInt := by
  have h9 := hW.1
  obtain ⟨g, k1, k2⟩ := c0_out hW hM hE n 0 2000 (tup (S 368) 0 0) (by omega) (by omega) (fun m hm => by
    obtain rfl : m = 0 := by
      have : (2 : Nat) ^ 0 = 1 := rfl
      omega
    rw [tup_s, sm_0]
    exact Val_nil)
  refine ⟨g, ?_, k2⟩
  unfold fX0_fill
  rw [nn_ch (show tein (0 : Int32) 512 = true by decide), nn_lt1, l0, teu_t]
  exact k1
theorem all_i {k : Nat} (hk : k ≤ 9) : ((1 : Int32) <<< (nI k &&& 31)) - (1 : Int32) = nI (2 ^ k - 1) := by
  have hsh : (1 : Int32) <<< (nI k &&& 31) = nI (2 ^ k) := q_sh ⟨k, by omega⟩
  rw [hsh]
  exact nn_sub (p2_pos k)
end S66
