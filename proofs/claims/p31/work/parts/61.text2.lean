/-! THE TEXT: a member is read -/
/-- what a page shows of the member b of the text c -/
def RD (c : Nat → Nat) (b : Nat) (v : tePg) : Prop := (∀ l, l < 4 → v (2 + 10 * b + l) = nI (c (3 + 8 * b + l) - 48)) ∧ v (2 + 10 * b + 4) = nI (c (2 + 8 * b) - 48) ∧ v (2 + 10 * b + 5) = 0 ∧ v (2 + 10 * b + 6) = nI (10 * (c (7 + 8 * b) - 48) + (c (8 + 8 * b) - 48)) ∧ v (2 + 10 * b + 7) = 0 ∧ v (2 + 10 * b + 8) = -9999 ∧ v (2 + 10 * b + 9) = 0
theorem RD_cong {c : Nat → Nat} {b : Nat} {v u : tePg} (h : RD c b v) (e : ∀ o, o < 10 → u (2 + 10 * b + o) = v (2 + 10 * b + o)) : RD c b u :=
  ⟨fun l hl => (e l (by omega)).trans (h.1 l hl), (e 4 (by decide)).trans h.2.1, (e 5 (by decide)).trans h.2.2.1, (e 6 (by decide)).trans h.2.2.2.1, (e 7 (by decide)).trans h.2.2.2.2.1, (e 8 (by decide)).trans h.2.2.2.2.2.1, (e 9 (by decide)).trans h.2.2.2.2.2.2⟩
/-- the reading of the member a's rest from the spot p on, l levels read: it ends at p' with the page w -/
def RM (c : Nat → Nat) (t a l : Nat) (v : tePg) (p : Nat) (z : Bool) (w : tePg) (p' : Nat) : Prop :=
  p ≤ p' ∧ p' ≤ t ∧ (∀ i, p ≤ i → i < p' → okT i (c i) = true) ∧ (z = false → 2 + 8 * a ≤ p' ∧ p' < 9 + 8 * a ∧ (p' < t → okT p' (c p') = false)) ∧
  (z = true → p' = 9 + 8 * a ∧ w 0 = nI (a + 1) ∧ w 1 = v 1 ∧ (∀ k, l ≤ k → k < 4 → w (2 + 10 * a + k) = nI (c (3 + 8 * a + k) - 48)) ∧ (∀ k, k < l → w (2 + 10 * a + k) = v (2 + 10 * a + k)) ∧ w (2 + 10 * a + 4) = v (2 + 10 * a + 4) ∧ w (2 + 10 * a + 5) = 0 ∧ w (2 + 10 * a + 6) = nI (10 * (c (7 + 8 * a) - 48) + (c (8 + 8 * a) - 48)) ∧ w (2 + 10 * a + 7) = 0 ∧ w (2 + 10 * a + 8) = -9999 ∧ w (2 + 10 * a + 9) = 0 ∧ ∀ i, 2 ≤ i → i < 2 + 10 * a → w i = v i)
section S61
variable {t : Nat} {c : Nat → Nat} {T : teS} {v : tePg} {p a : Nat}
/-- what the whole reading tells -/
def RA (c : Nat → Nat) (t : Nat) (v : tePg) (z : Bool) (w : tePg) (p' : Nat) : Prop :=
  p' ≤ t ∧ (∀ i, i < p' → okT i (c i) = true) ∧ (p' < t → okT p' (c p') = false) ∧ z = decide (p' = t ∧ 0 < t ∧ (t - 1) % 8 = 0) ∧ (z = true → ∃ n, n ≤ 9 ∧ t = 1 + 8 * n ∧ w 0 = nI n ∧ w 1 = v 1 ∧ ∀ b, b < n → RD c b w)
end S61
