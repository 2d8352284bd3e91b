/-! THE REFERENCE lays its sets -/
section S67
variable {n M : Nat} {v : tePg} {T : teS} {p q : tePg}
/-- what the reference has laid for a list -/
def PQ (v : tePg) (l : List Nat) (x y : Int32) : Prop := ∃ P : Nat, x = nI P ∧ P ≤ l.length ∧ -50300 * (P : Int) ≤ y.toInt ∧ y.toInt ≤ 50300 * (P : Int) ∧ VL v l (1000000 * (P : Int) + y.toInt)
def PR (v : tePg) (l : List Nat) (a b : Nat) (x y : Int32) : Prop := ∃ P : Nat, x = nI P ∧ P ≤ l.length + 1 ∧ -50300 * (P : Int) ≤ y.toInt ∧ y.toInt ≤ 50300 * (P : Int) ∧ PB (sFit v) (Wt v) l a b (1000000 * (P : Int) + y.toInt)
theorem PR_0 {l : List Nat} {a b : Nat} {x y : Int32} (h : PQ v l x y) (hb : ∀ c, c ∈ l → b ≤ c) : PR v l a b x y := by
  obtain ⟨P, h1, h2, h3, h4, h5⟩ := h
  exact ⟨P, h1, by omega, h3, h4, PB_0 h5 hb⟩
theorem PR_end {l l' : List Nat} {a b : Nat} {x y : Int32} (h : PR v l a b x y) (hb : ∀ c, c ∈ l → c < b) (hp : (a :: l).Perm l') (hn : (a :: l).Nodup) : PQ v l' x y := by
  obtain ⟨P, h1, h2, h3, h4, h5⟩ := h
  exact ⟨P, h1, by rw [← hp.length_eq, List.length_cons]; exact h2, h3, h4, VL_perm hp hn (PB_end h5 hb)⟩
end S67
