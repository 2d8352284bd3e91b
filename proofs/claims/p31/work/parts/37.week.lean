/-! A WEEK: row by row -/
def row (v : tePg) (a : Nat) : tePg := fun o => v (2 + 10 * a + o)
def rop (F : tePg → tePg) (a : Nat) (v : tePg) : tePg := fun i => if 2 + 10 * a ≤ i ∧ i < 12 + 10 * a then F (row v a) (i - (2 + 10 * a)) else v i
theorem rop_in (F : tePg → tePg) (a : Nat) (v : tePg) {o : Nat} (h : o < 10) : rop F a v (2 + 10 * a + o) = F (row v a) o := by
  unfold rop
  rw [if_pos ⟨by omega, by omega⟩, show 2 + 10 * a + o - (2 + 10 * a) = o by omega]
theorem rop_out (F : tePg → tePg) {a : Nat} (v : tePg) {i : Nat} (h : ¬ (2 + 10 * a ≤ i ∧ i < 12 + 10 * a)) : rop F a v i = v i := if_neg h
theorem rop_c (F : tePg → tePg) {a c : Nat} (v : tePg) {o : Nat} (h : c ≠ a) (ho : o < 10) : rop F a v (2 + 10 * c + o) = v (2 + 10 * c + o) := rop_out F v (by omega)
/-- only the ten numbers of a row are looked at -/
def rok (F : tePg → tePg) : Prop := ∀ x y : tePg, (∀ o, o < 10 → x o = y o) → ∀ o, o < 10 → F x o = F y o
theorem rop_comm {F G : tePg → tePg} (hF : rok F) (hG : rok G) {a b : Nat} (h : a ≠ b) (v : tePg) : rop F a (rop G b v) = rop G b (rop F a v) := by
  funext i
  by_cases ha : 2 + 10 * a ≤ i ∧ i < 12 + 10 * a
  · obtain ⟨o, rfl⟩ : ∃ o, i = 2 + 10 * a + o := ⟨i - (2 + 10 * a), by omega⟩
    rw [rop_in F a _ (by omega), rop_c G _ h (by omega), rop_in F a _ (by omega)]
    exact hF _ _ (fun q hq => rop_c G v h hq) o (by omega)
  · rw [rop_out F _ ha]
    by_cases hb : 2 + 10 * b ≤ i ∧ i < 12 + 10 * b
    · obtain ⟨o, rfl⟩ : ∃ o, i = 2 + 10 * b + o := ⟨i - (2 + 10 * b), by omega⟩
      rw [rop_in G b _ (by omega), rop_in G b _ (by omega)]
      exact (hG _ _ (fun q hq => rop_c F v (Ne.symm h) hq) o (by omega)).symm
    · rw [rop_out G _ hb, rop_out G _ hb, rop_out F _ ha]
theorem rop_rop {F G : tePg → tePg} (hF : rok F) (a : Nat) (v : tePg) : rop F a (rop G a v) = rop (fun x => F (G x)) a v := by
  funext i
  by_cases ha : 2 + 10 * a ≤ i ∧ i < 12 + 10 * a
  · obtain ⟨o, rfl⟩ : ∃ o, i = 2 + 10 * a + o := ⟨i - (2 + 10 * a), by omega⟩
    rw [rop_in F a _ (by omega), rop_in _ a _ (by omega)]
    exact hF _ _ (fun q hq => rop_in G a v hq) o (by omega)
  · rw [rop_out F _ ha, rop_out G _ ha, rop_out _ _ ha]
theorem rop_tup (v : tePg) (a : Nat) {o : Nat} (ho : o < 10) (y : tePg → Int32) : tup v (2 + 10 * a + o) (y (row v a)) = rop (fun x => tup x o (y x)) a v := by
  funext i
  by_cases ha : 2 + 10 * a ≤ i ∧ i < 12 + 10 * a
  · obtain ⟨q, rfl⟩ : ∃ q, i = 2 + 10 * a + q := ⟨i - (2 + 10 * a), by omega⟩
    rw [rop_in _ a _ (by omega)]
    unfold tup
    by_cases hq : q = o
    · rw [if_pos (by omega), if_pos hq]
    · rw [if_neg (by omega), if_neg hq]; rfl
  · rw [rop_out _ _ ha, tup_n _ _ (by omega)]
theorem rok_tup {o : Nat} {y : tePg → Int32} (hy : ∀ x z : tePg, (∀ o, o < 10 → x o = z o) → y x = y z) : rok (fun x => tup x o (y x)) := by
  intro x z h q hq
  show tup x o (y x) q = tup z o (y z) q
  unfold tup
  split
  · exact hy x z h
  · exact h q hq
theorem rok_c {F G : tePg → tePg} (hF : rok F) (hG : rok G) : rok (fun x => F (G x)) := fun x y h => hF _ _ (hG x y h)
/-- the clamp of credits -/
def cr (x b : Int32) : Int32 := if x + b ≤ 99 then (if -99 ≤ x + b then x + b else -99) else 99
def cl (x b : Int32) : Int32 := if (-99 : Int32) < (if x + b < 99 then x + b else 99) then (if x + b < 99 then x + b else 99) else -99
theorem cr1 : ∀ c : Fin 199, cr (nI c.val - 99) 1 = nI (min 198 (c.val + 1)) - 99 ∧ cl (nI c.val - 99) 1 = cr (nI c.val - 99) 1 := by decide +kernel
theorem cr2 : ∀ c : Fin 199, cr (nI c.val - 99) 2 = nI (min 198 (c.val + 2)) - 99 ∧ cl (nI c.val - 99) 2 = cr (nI c.val - 99) 2 := by decide +kernel
theorem cr3 : ∀ c : Fin 199, cr (nI c.val - 99) (-3) = nI (c.val - 3) - 99 ∧ cl (nI c.val - 99) (-3) = cr (nI c.val - 99) (-3) := by decide +kernel
/-- the rows' own steps -/
def f0 (x : tePg) : tePg := tup x 9 0
def fC (b : Int32) (x : tePg) : tePg := tup x 6 (cr (x 6) b)
def lw (x : tePg) : Nat := (x 4).toNatClampNeg % 4
theorem lw_lt (x : tePg) : lw x < 4 := Nat.mod_lt _ (by decide)
theorem lw_w {x : tePg} {w : Nat} (hw : w < 4) (h : x 4 = nI w) : lw x = w := by unfold lw; rw [h, nn_tn (by omega), Nat.mod_eq_of_lt hw]
def fLL (q : Int32) (x : tePg) : Int32 := if x 5 + q < 20 then x (lw x) else x (lw x) + 1
def fLP (q : Int32) (x : tePg) : Int32 := if x 5 + q < 20 then x 5 + q else x 5 + q - 20
def fL (q : Int32) (x : tePg) : tePg := tup (tup x 5 (if fLL q x < 9 then fLP q x else 0)) (lw x) (if fLL q x ≤ 9 then fLL q x else 9)
def fM (b : Bool) (x : tePg) : tePg := fC (if b = true then -3 else 2) (tup (tup x 7 (x 7 + bI b)) 9 (x 9 + 1))
def fK (q : Int32) (x : tePg) : tePg := fL q (fC 1 (f0 x))
/-- a row that an ideal page may hold, but for the partner -/
def rwf (M : Nat) (x : tePg) : Prop := (∀ l, l < 4 → ∃ y, y ≤ 9 ∧ x l = nI y) ∧ (∃ w, w < 4 ∧ x 4 = nI w) ∧ (∃ c, c ≤ 198 ∧ x 6 = nI c - 99) ∧ (∃ m, m ≤ M ∧ x 7 = nI m)
theorem wf_row {n M a : Nat} {v : tePg} (hW : WF n M v) (ha : a < n) : rwf M (row v a) := ⟨(hW.2.2.2 a ha).1, (hW.2.2.2 a ha).2.1, (hW.2.2.2 a ha).2.2.1, (hW.2.2.2 a ha).2.2.2.1⟩
theorem tup_tup (p : tePg) (i : Nat) (x y : Int32) : tup (tup p i x) i y = tup p i y := by
  funext j
  unfold tup
  split <;> rfl
theorem tup_comm (p : tePg) {i j : Nat} (h : i ≠ j) (x y : Int32) : tup (tup p i x) j y = tup (tup p j y) i x := by
  funext q
  unfold tup
  by_cases h1 : q = j
  · rw [if_pos h1, if_neg (by omega), if_pos h1]
  · rw [if_neg h1]
    by_cases h2 : q = i
    · rw [if_pos h2, if_pos h2]
    · rw [if_neg h2, if_neg h2, if_neg h1]
theorem rwf_C {M : Nat} {x : tePg} (h : rwf M x) {b : Int32} (hb : b = 1 ∨ b = 2 ∨ b = -3) : rwf M (fC b x) := by
  obtain ⟨h1, h2, ⟨c, hc, ec⟩, h4⟩ := h
  refine ⟨fun l hl => by unfold fC; rw [tup_n _ _ (by omega)]; exact h1 l hl, by unfold fC; rw [tup_n _ _ (by decide)]; exact h2, ?_, by unfold fC; rw [tup_n _ _ (by decide)]; exact h4⟩
  unfold fC
  rw [tup_s, ec]
  rcases hb with rfl | rfl | rfl
  · exact ⟨_, by omega, (cr1 ⟨c, by omega⟩).1⟩
  · exact ⟨_, by omega, (cr2 ⟨c, by omega⟩).1⟩
  · exact ⟨_, by omega, (cr3 ⟨c, by omega⟩).1⟩
theorem rwf_9 {M : Nat} {x : tePg} (h : rwf M x) (y : Int32) : rwf M (tup x 9 y) :=
  ⟨fun l hl => by rw [tup_n _ _ (by omega)]; exact h.1 l hl, by rw [tup_n _ _ (by decide)]; exact h.2.1, by rw [tup_n _ _ (by decide)]; exact h.2.2.1, by rw [tup_n _ _ (by decide)]; exact h.2.2.2⟩
theorem rwf_m {M N : Nat} {x : tePg} (h : rwf M x) (hN : M ≤ N) : rwf N x := ⟨h.1, h.2.1, h.2.2.1, h.2.2.2.elim fun m hm => ⟨m, by omega, hm.2⟩⟩
theorem rwf_M {M : Nat} {x : tePg} (h : rwf M x) (b : Bool) : rwf (M + 1) (fM b x) := by
  unfold fM
  refine rwf_C (rwf_9 ?_ _) (by cases b <;> simp)
  refine ⟨fun l hl => by rw [tup_n _ _ (by omega)]; exact h.1 l hl, by rw [tup_n _ _ (by decide)]; exact h.2.1, by rw [tup_n _ _ (by decide)]; exact h.2.2.1, ?_⟩
  obtain ⟨m, hm, em⟩ := h.2.2.2
  rw [tup_s, em]
  cases b
  · exact ⟨m, by omega, by rw [bI_f, a_0]⟩
  · exact ⟨m + 1, by omega, by rw [bI_t, li1, nn_add]⟩
theorem rwf_L {M : Nat} {x : tePg} (h : rwf M x) (q : Int32) : rwf M (fL q x) := by
  obtain ⟨w, hw, ew⟩ := h.2.1
  have hlw : lw x = w := lw_w hw ew
  obtain ⟨y, hy, ey⟩ := h.1 w hw
  unfold fL
  rw [hlw]
  refine ⟨fun l hl => ?_, by rw [tup_n _ _ (by omega), tup_n _ _ (by decide)]; exact h.2.1, by rw [tup_n _ _ (by omega), tup_n _ _ (by decide)]; exact h.2.2.1, by rw [tup_n _ _ (by omega), tup_n _ _ (by decide)]; exact h.2.2.2⟩
  by_cases hl2 : l = w
  · subst hl2
    rw [tup_s]
    unfold fLL
    rw [hlw, ey, li1, li9, nn_add]
    split
    · rw [le_if (by omega) (by omega), if_pos hy]
      exact ⟨y, hy, rfl⟩
    · rw [le_if (by omega) (by omega)]
      split
      · exact ⟨y + 1, by assumption, rfl⟩
      · exact ⟨9, by decide, rfl⟩
  · rw [tup_n _ _ hl2, tup_n _ _ (by omega)]
    exact h.1 l hl
theorem rok_0 : rok f0 := rok_tup (y := fun _ => 0) (fun _ _ _ => rfl)
theorem rok_C (b : Int32) : rok (fC b) := rok_tup (y := fun x => cr (x 6) b) (fun x z h => by rw [h 6 (by decide)])
theorem rok_M (b : Bool) : rok (fM b) := by
  refine rok_c (F := fC _) (rok_C _) ?_
  intro x z h o ho
  have e7 := h 7 (by decide)
  have e9 := h 9 (by decide)
  show tup (tup x 7 (x 7 + bI b)) 9 (x 9 + 1) o = tup (tup z 7 (z 7 + bI b)) 9 (z 9 + 1) o
  unfold tup
  rw [e7, e9, h o ho]
theorem fL_8 (q : Int32) (x : tePg) : fL q x 8 = x 8 ∧ fL q x 9 = x 9 := by
  have hw := lw_lt x
  unfold fL
  exact ⟨by rw [tup_n _ _ (by omega), tup_n _ _ (by decide)], by rw [tup_n _ _ (by omega), tup_n _ _ (by decide)]⟩
theorem rok_L (q : Int32) : rok (fL q) := by
  intro x y h o ho
  have hw := lw_lt x
  have e4 : lw x = lw y := by unfold lw; rw [h 4 (by decide)]
  have e5 := h (lw x) (by omega)
  rw [e4] at e5
  have e1 : fLL q x = fLL q y := by unfold fLL; rw [h 5 (by decide), e4, e5]
  have e2 : fLP q x = fLP q y := by unfold fLP; rw [h 5 (by decide)]
  unfold fL tup
  rw [e4, e1, e2, h o ho]
theorem rok_K (q : Int32) : rok (fK q) := rok_c (F := fL q) (rok_L q) (rok_c (F := fC 1) (rok_C 1) rok_0)
theorem rwf_K {M : Nat} {x : tePg} (h : rwf M x) (q : Int32) : rwf M (fK q x) := rwf_L (rwf_C (rwf_9 h 0) (Or.inl rfl)) q
theorem fK_8 (q : Int32) (x : tePg) : fK q x 8 = x 8 ∧ fK q x 9 = 0 := by
  unfold fK
  rw [(fL_8 q _).1, (fL_8 q _).2]
  exact ⟨by unfold fC f0; rw [tup_n _ _ (by decide), tup_n _ _ (by decide)], by unfold fC f0; rw [tup_n _ _ (by decide), tup_s]⟩
theorem fM_8 (b : Bool) (x : tePg) : fM b x 8 = x 8 ∧ fM b x 9 = x 9 + 1 := by
  unfold fM fC
  exact ⟨by rw [tup_n _ _ (by decide), tup_n _ _ (by decide), tup_n _ _ (by decide)], by rw [tup_n _ _ (by decide), tup_s]⟩
section S37
variable {n M k r a b : Nat} {v : tePg} {S : teS}
theorem r3_cred {M : Nat} (ha : a < 9) {b : Int32} (hb : b = 1 ∨ b = 2 ∨ b = -3) (hw : rwf M (row (S k) a)) : fX3_gainCredits k a b S = some (tst S k (rop (fC b) a (S k))) := by
  obtain ⟨c, hc, ec⟩ := hw.2.2.1
  have ec2 : S k (2 + 10 * a + 6) = nI c - 99 := ec
  unfold fX3_gainCredits
  rw [nn_lt1, teu_t]
  have h := rop_tup (S k) a (o := 6) (by decide) (fun x => cr (x 6) b)
  have e : rop (fC b) a (S k) = tup (S k) (2 + 10 * a + 6) (cr (S k (2 + 10 * a + 6)) b) := h.symm
  rw [e]
  have e2 : cl (S k (2 + 10 * a + 6)) b = cr (S k (2 + 10 * a + 6)) b := by
    rw [ec2]
    rcases hb with rfl | rfl | rfl
    · exact (cr1 ⟨c, by omega⟩).2
    · exact (cr2 ⟨c, by omega⟩).2
    · exact (cr3 ⟨c, by omega⟩).2
  rw [← e2]
  rfl
theorem rop_L (p : tePg) {w : Nat} (hw4 : w < 4) (ew : p (2 + 10 * a + 4) = nI w) (q : Int32) : rop (fL q) a p = tup (tup p (2 + 10 * a + 5) (if (if p (2 + 10 * a + 5) + q < 20 then p (2 + 10 * a + w) else p (2 + 10 * a + w) + 1) < 9 then (if p (2 + 10 * a + 5) + q < 20 then p (2 + 10 * a + 5) + q else p (2 + 10 * a + 5) + q - 20) else 0)) (2 + 10 * a + w) (if (if p (2 + 10 * a + 5) + q < 20 then p (2 + 10 * a + w) else p (2 + 10 * a + w) + 1) ≤ 9 then (if p (2 + 10 * a + 5) + q < 20 then p (2 + 10 * a + w) else p (2 + 10 * a + w) + 1) else 9) := by
  have hlw : lw (row p a) = w := lw_w hw4 ew
  have hLL : fLL q (row p a) = (if p (2 + 10 * a + 5) + q < 20 then p (2 + 10 * a + w) else p (2 + 10 * a + w) + 1) := by
    unfold fLL
    rw [hlw]
    rfl
  have hLP : fLP q (row p a) = (if p (2 + 10 * a + 5) + q < 20 then p (2 + 10 * a + 5) + q else p (2 + 10 * a + 5) + q - 20) := rfl
  funext i
  by_cases hi : 2 + 10 * a ≤ i ∧ i < 12 + 10 * a
  · obtain ⟨o, rfl⟩ : ∃ o, i = 2 + 10 * a + o := ⟨i - (2 + 10 * a), by omega⟩
    rw [rop_in _ a _ (by omega)]
    show tup (tup (row p a) 5 (if fLL q (row p a) < 9 then fLP q (row p a) else 0)) (lw (row p a)) (if fLL q (row p a) ≤ 9 then fLL q (row p a) else 9) o = _
    rw [hlw, hLL, hLP]
    by_cases h1 : o = w
    · rw [h1, tup_s, tup_s]
    · rw [tup_n _ _ h1, tup_n _ _ (show 2 + 10 * a + o ≠ 2 + 10 * a + w by omega)]
      by_cases h2 : o = 5
      · rw [h2, tup_s, tup_s]
      · rw [tup_n _ _ h2, tup_n _ _ (show 2 + 10 * a + o ≠ 2 + 10 * a + 5 by omega)]
        rfl
  · rw [rop_out _ _ hi, tup_n _ _ (by omega), tup_n _ _ (by omega)]
end S37
