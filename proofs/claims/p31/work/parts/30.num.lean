/-! NUMBERS: small ints as natural numbers; pages -/
theorem nn_tn {n : Nat} (h : n < 2147483648) : (nI n).toNatClampNeg = n := nI_clamp h
theorem nn_in {α : Type} {i n : Nat} {x : Option α} (h : i < n) (hn : n < 2147483648) : chk (tein (nI i) n) x = x := by
  have h1 : tein (nI i) n = true := by
    simp only [tein, Bool.and_eq_true, decide_eq_true_eq]
    exact ⟨nI_pos (by omega), by rw [nn_tn (by omega)]; exact h⟩
  unfold chk
  rw [if_pos h1]
theorem nn_chk {α : Type} {c : Prop} [Decidable c] {x : Option α} (h : c) : chk (decide c) x = x := by
  unfold chk
  rw [if_pos (decide_eq_true h)]
theorem nn_bd1 {α β : Type} (a : α) (k : α → Option β) : bd1 (some a) k = k a := rfl
theorem nn_bd2 {α γ β : Type} (a : α) (b : γ) (k : α → γ → Option β) : bd2 (some (a, b)) k = k a b := rfl
theorem nn_bx1 {α β : Type} (a : α) (k : α → Option (Nat ⊕ β)) : bx1 (some (.inr a)) k = k a := rfl
theorem nn_bx1l {α β : Type} (c : Nat) (k : α → Option (Nat ⊕ β)) : bx1 (some (.inl c)) k = some (.inl c) := rfl
theorem nn_lt1 {α β : Type} (x : α) (f : α → β) : lt1 x f = f x := rfl
theorem nn_add (a b : Nat) : nI a + nI b = nI (a + b) := nI_add a b
theorem nn_mul (a b : Nat) : nI a * nI b = nI (a * b) := pk_mul a b
theorem nn_sub {a b : Nat} (h : b ≤ a) : nI a - nI b = nI (a - b) := pk_sub h
theorem nn_div {a d : Nat} (ha : a < 2147483648) (h0 : 0 < d) (hd : d < 2147483648) : nI a / nI d = nI (a / d) := pk_div ha h0 hd
theorem nn_rem {a d : Nat} (ha : a < 2147483648) (h0 : 0 < d) (hd : d < 2147483648) : nI a - nI a / nI d * nI d = nI (a % d) := pk_rem ha h0 hd
theorem nn_lt {a b : Nat} (ha : a < 2147483648) (hb : b < 2147483648) : (nI a < nI b) = (a < b) := propext (nI_ltI ha hb)
theorem nn_le {a b : Nat} (ha : a < 2147483648) (hb : b < 2147483648) : (nI a ≤ nI b) = (a ≤ b) := propext (nI_leI ha hb)
theorem nn_eq {a b : Nat} (ha : a < 2147483648) (hb : b < 2147483648) : (nI a = nI b) = (a = b) := propext (nI_eq ha hb)
theorem nn_neg {a : Nat} (ha : a < 2147483648) : (nI a < 0) = False := eq_false (nI_pos ha)
theorem nn_ge0 {a : Nat} (ha : a < 2147483648) : (0 ≤ nI a) = True := eq_true (nI_pos' ha)
theorem nn_eq0 {a : Nat} (ha : a < 2147483648) : (nI a = 0) = (a = 0) := propext (by rw [← nI_0]; exact nI_eq ha (by decide))
theorem nn_NI {a : Nat} (ha : a < 2147483648) : (nI a = -9999) = False := by
  refine eq_false (fun h => ?_)
  have h1 := nI_pos' ha
  rw [h] at h1
  exact absurd h1 (by decide)
/-- the numbers that the code writes -/
theorem li1 : (1 : Int32) = nI 1 := rfl
theorem li2 : (2 : Int32) = nI 2 := rfl
theorem li3 : (3 : Int32) = nI 3 := rfl
theorem li4 : (4 : Int32) = nI 4 := rfl
theorem li5 : (5 : Int32) = nI 5 := rfl
theorem li6 : (6 : Int32) = nI 6 := rfl
theorem li7 : (7 : Int32) = nI 7 := rfl
theorem li8 : (8 : Int32) = nI 8 := rfl
theorem li9 : (9 : Int32) = nI 9 := rfl
theorem li10 : (10 : Int32) = nI 10 := rfl
theorem li92 : (92 : Int32) = nI 92 := rfl
theorem l0 : (0 : Int32).toNatClampNeg = 0 := rfl
theorem l1 : (1 : Int32).toNatClampNeg = 1 := rfl
/-- a page with one number changed; the state with one page changed -/
abbrev tePg : Type := Nat → Int32
def tup (p : tePg) (i : Nat) (v : Int32) : tePg := fun j => if j = i then v else p j
def tst (S : teS) (k : Nat) (p : tePg) : teS := fun a => if a = k then p else S a
theorem tup_s (p : tePg) (i : Nat) (v : Int32) : tup p i v i = v := if_pos rfl
theorem tup_n (p : tePg) {i j : Nat} (v : Int32) (h : j ≠ i) : tup p i v j = p j := if_neg h
theorem tst_s (S : teS) (k : Nat) (p : tePg) : tst S k p k = p := if_pos rfl
theorem tst_n (S : teS) {k a : Nat} (p : tePg) (h : a ≠ k) : tst S k p a = S a := if_neg h
theorem tst_t (S : teS) (k : Nat) (p q : tePg) : tst (tst S k p) k q = tst S k q := by
  funext a
  unfold tst
  by_cases h : a = k
  · rw [if_pos h, if_pos h]
  · rw [if_neg h, if_neg h, if_neg h]
theorem tst_i (S : teS) (k : Nat) : tst S k (S k) = S := by
  funext a
  unfold tst
  by_cases h : a = k
  · rw [if_pos h, h]
  · rw [if_neg h]
theorem teu_t (S : teS) (k j : Nat) (v : Int32) : teu S k j v = tst S k (tup (S k) j v) := by
  funext a b
  unfold teu tst tup
  by_cases h : a = k
  · subst h
    by_cases h2 : b = j
    · rw [if_pos ⟨rfl, h2⟩, if_pos rfl, if_pos h2]
    · rw [if_neg (fun z => h2 z.2), if_pos rfl, if_neg h2]
  · rw [if_neg (fun z => h z.1), if_neg h]
/-- the ideal page v of n members: what each number may be; M bounds the missed meetings -/
def WF (n M : Nat) (v : tePg) : Prop := n ≤ 9 ∧ M < 100000 ∧ v 0 = nI n ∧ ∀ a, a < n →
  (∀ l, l < 4 → ∃ x, x ≤ 9 ∧ v (2 + 10 * a + l) = nI x) ∧ (∃ w, w < 4 ∧ v (2 + 10 * a + 4) = nI w) ∧
  (∃ c, c ≤ 198 ∧ v (2 + 10 * a + 6) = nI c - 99) ∧ (∃ m, m ≤ M ∧ v (2 + 10 * a + 7) = nI m) ∧
  ((v (2 + 10 * a + 8) = -9999 ∧ v (2 + 10 * a + 9) = 0) ∨ ∃ b, b < n ∧ b ≠ a ∧ v (2 + 10 * a + 8) = nI b ∧ v (2 + 10 * b + 8) = nI a ∧ v (2 + 10 * b + 9) = v (2 + 10 * a + 9))
/-- a page of the class shows the ideal page -/
def PE (n : Nat) (p v : tePg) : Prop := p 0 = v 0 ∧ p 1 = v 1 ∧ ∀ a, a < n → (∀ o, o < 9 → p (2 + 10 * a + o) = v (2 + 10 * a + o)) ∧ (v (2 + 10 * a + 8) ≠ -9999 → p (2 + 10 * a + 9) = v (2 + 10 * a + 9))
theorem PE_rf (n : Nat) (v : tePg) : PE n v v := ⟨rfl, rfl, fun _ _ => ⟨fun _ _ => rfl, fun _ => rfl⟩⟩
/-- what is read off an ideal page -/
def pw (v : tePg) (a : Nat) : Nat := (v (2 + 10 * a + 4)).toNatClampNeg
def sL (v : tePg) (a b : Nat) : Int32 := v (2 + 10 * b + pw v a) - v (2 + 10 * a + pw v a)
def sFit (v : tePg) (a b : Nat) : Bool := decide (¬ sL v a b < 2) && decide (¬ sL v b a < 2)
def sQ (x : Int32) : Int32 := if 0 ≤ x then x / 4 else -((3 - x) / 4)
def sSc (v : tePg) (a b : Nat) : Int32 := 10 * sL v a b - 5 * v (2 + 10 * b + 7) + sQ (v (2 + 10 * b + 6))
def sVal (v : tePg) (a b : Nat) : Int32 := sSc v a b + sSc v b a
def sFree (v : tePg) (a : Nat) : Bool := decide (v (2 + 10 * a + 8) = -9999)
def pp (v : tePg) (a : Nat) : Nat := (v (2 + 10 * a + 8)).toNatClampNeg
def sPref (v : tePg) (a b : Nat) : Bool := sFree v a || decide (¬ sSc v a b ≤ sSc v a (pp v a))
def sBlk (v : tePg) (a b : Nat) : Bool := sFit v a b && decide (¬ v (2 + 10 * a + 8) = nI b) && sPref v a b && sPref v b a
def bI (b : Bool) : Int32 := if b = true then 1 else 0
theorem bI_t : bI true = 1 := rfl
theorem bI_f : bI false = 0 := rfl
theorem bI_0 (b : Bool) : (bI b = 0) = (b = false) := by cases b <;> simp [bI]
theorem bI_n (b : Bool) : bI b &&& 1 = bI b := by cases b <;> rfl
