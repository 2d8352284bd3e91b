/-! THE STATE: all numbers that the system holds, as one function; the world that tells where they lie -/
abbrev teS : Type := Nat → Nat → Int32
def teu (S : teS) (k j : Nat) (v : Int32) : teS := fun a b => if a = k ∧ b = j then v else S a b
theorem teu_s (S : teS) (k j : Nat) (v : Int32) : teu S k j v k j = v := by simp [teu]
theorem teu_n (S : teS) {k j a b : Nat} (v : Int32) (h : a = k → b ≠ j) : teu S k j v a b = S a b := by
  unfold teu
  rw [if_neg]
  rintro ⟨h1, h2⟩
  exact h h1 h2
def tein (i : Int32) (n : Nat) : Bool := decide (¬ i < 0) && decide (i.toNatClampNeg < n)
theorem tein_in {i : Int32} {n : Nat} (h : tein i n = true) : vp_in i n := by
  simp only [tein, Bool.and_eq_true, decide_eq_true_eq] at h
  rintro (q | q)
  · exact h.1 q
  · omega
theorem tein_lt {i : Int32} {n : Nat} (h : tein i n = true) : i.toNatClampNeg < n := by
  simp only [tein, Bool.and_eq_true, decide_eq_true_eq] at h
  exact h.2
def chk {α : Type} (b : Bool) (x : Option α) : Option α := if b = true then x else none
theorem chk_some {α : Type} {b : Bool} {x : Option α} {r : α} (h : chk b x = some r) : b = true ∧ x = some r := by
  unfold chk at h
  split at h
  · exact ⟨by assumption, h⟩
  · cases h
def bd1 {α β : Type} (x : Option α) (k : α → Option β) : Option β := match x with
  | none => none
  | some a => k a
theorem bd1_some {α β : Type} {x : Option α} {k : α → Option β} {r : β} (h : bd1 x k = some r) : ∃ a, x = some a ∧ k a = some r := by
  cases x with
  | none => cases h
  | some a => exact ⟨a, rfl, h⟩
def bd2 {α γ β : Type} (x : Option (α × γ)) (k : α → γ → Option β) : Option β := match x with
  | none => none
  | some a => k a.1 a.2
theorem bd2_some {α γ β : Type} {x : Option (α × γ)} {k : α → γ → Option β} {r : β} (h : bd2 x k = some r) : ∃ a b, x = some (a, b) ∧ k a b = some r := by
  cases x with
  | none => cases h
  | some a => exact ⟨a.1, a.2, rfl, h⟩
/-- a call that may throw (the number of the exception on the left) -/
def bx1 {α β : Type} (x : Option (Nat ⊕ α)) (k : α → Option (Nat ⊕ β)) : Option (Nat ⊕ β) := match x with
  | none => none
  | some (.inl c) => some (.inl c)
  | some (.inr a) => k a
theorem bx1_some {α β : Type} {x : Option (Nat ⊕ α)} {k : α → Option (Nat ⊕ β)} {r : Nat ⊕ β} (h : bx1 x k = some r) : (∃ c, x = some (.inl c) ∧ r = .inl c) ∨ ∃ a, x = some (.inr a) ∧ k a = some r := by
  match x, h with
  | some (.inl c), h => exact Or.inl ⟨c, rfl, (Option.some.inj h).symm⟩
  | some (.inr a), h => exact Or.inr ⟨a, rfl, h⟩
theorem ite_t {c : Prop} [Decidable c] {α : Type} {a b r : α} (h : c) (hf : (if c then a else b) = r) : a = r := by rw [if_pos h] at hf; exact hf
theorem ite_f {c : Prop} [Decidable c] {α : Type} {a b r : α} (h : ¬ c) (hf : (if c then a else b) = r) : b = r := by rw [if_neg h] at hf; exact hf
/-- the classes of arrays, and what they hold -/
abbrev teT (cy : Nat → ClassId) : List (ClassId × FieldType) := [(cy 0, .int), (cy 1, .char), (cy 2, .boolean), (cy 3, .int), (cy 4, .object "TandemExchange$Circle"), (cy 5, .object "TandemExchange$Member")]
/-- the length of a row of ints by its number (0: no such row) -/
def teI (i : Nat) : Nat := match i with
  | 368 => 512
  | _ => 0
/-- the cell of the thing number i -/
def teE (cy : Nat → ClassId) (ad : Nat → Nat) (O : Int64) (S : teS) (i : Nat) : va_E :=
  if i < 360 then
    if i % 20 = 0 then .inr (1, [.ref (ad (i + 1)), .int (S (i / 20) 0), .int (S (i / 20) 1)])
    else if i % 20 = 1 then .inl (cy 5, 9, .inr (.inr (.inr (.inr fun j => if j < 9 then some (ad (i + 1 + j)) else none))))
    else if i % 20 < 11 then .inr (3, [.ref (ad (i + 9)), .int (S (i / 20) (2 + 10 * (i % 20 - 2) + 4)), .int (S (i / 20) (2 + 10 * (i % 20 - 2) + 5)), .int (S (i / 20) (2 + 10 * (i % 20 - 2) + 6)), .int (S (i / 20) (2 + 10 * (i % 20 - 2) + 7)), .int (S (i / 20) (2 + 10 * (i % 20 - 2) + 8)), .int (S (i / 20) (2 + 10 * (i % 20 - 2) + 9))])
    else .inl (cy 0, 4, .inl fun j => if j < 4 then S (i / 20) (2 + 10 * (i % 20 - 11) + j) else 0)
  else match i with
    | 360 => .inr (5, [.ref (ad 361), .ref (ad (20 * 0)), .ref (ad (20 * 1)), .ref (ad 363), .ref (ad 365), .ref (ad 366), .ref (ad 367)])
    | 361 => .inr (4, [.ref (ad 362), .int (S 361 0)])
    | 362 => .inl (cy 1, 90, .inl (S 362))
    | 363 => .inr (2, [.ref (ad 364), .int (S 363 0), .int (S 363 1)])
    | 364 => .inl (cy 4, 14, .inr (.inr (.inr (.inr fun j => if j < 14 then some (ad (20 * (2 + j))) else none))))
    | 365 => .inl (cy 4, 2, .inr (.inr (.inr (.inr fun j => if j < 2 then some (ad (20 * (16 + j))) else none))))
    | 366 => .inl (cy 2, 2, .inl (S 366))
    | 367 => .inr (0, [.ref (ad 368)])
    | n => .inl (cy 0, teI n, .inl (S n))
abbrev teA (ba : Nat → Prop) : Nat → Prop := ba
/-- the whole system's world in the heap H -/
def teR (D : va_G) (cy : Nat → ClassId) (ad : Nat → Nat) (ba : Nat → Prop) (O : Int64) (S : teS) (H : Heap) : Prop :=
  ∃ (L : List Nat) (f : Nat → va_E), va_P D vwCl ([] ++ va_pl L f) H ∧ va_D (teA ba) ([] ++ va_pl L f) ∧ (∀ i, i < 369 → ad i ∈ L ∧ f (ad i) = teE cy ad O S i) ∧ (∀ i j, i < 369 → j < 369 → ad i = ad j → i = j) ∧ 0 ≤ H.size
/-- the texts of the exceptions: their places in the class file -/
def teX : List (Nat × String) := [(58, "the text is full"), (71, "the text is not as described"), (103, "what is not 0 to 6"), (131, "what is not 0 to 3"), (136, "the circle is full"), (171, "one of them has a partner, or they do not fit"), (198, "no state is remembered"), (203, "i is negative"), (236, "the script is negative or too long"), (250, "nothing has been saved in the slot"), (257, "there is no such member"), (260, "the members are the same"), (262, "the member has no partner"), (264, "an argument is out of its range"), (266, "there is no such save slot")]
/-- the exceptions by their numbers -/
def teN (c : Nat) : String := match c with
  | 1 => "java/lang/IllegalArgumentException"
  | 2 => "java/lang/IllegalStateException"
  | _ => "java/lang/IndexOutOfBoundsException"
/-- what a throw rests on: the statics of Throwable, the classes of the exceptions, their texts -/
def teF (ba : Nat → Prop) (s : State) (H : Heap) : Prop :=
  vx_Zq Bundle.tN "UNASSIGNED_STACK" Bundle.steD (teA ba) s H ∧ vx_Zq Bundle.tN "SUPPRESSED_SENTINEL" Bundle.listD (teA ba) s H ∧
  (va_Nw (.castable "java/lang/IllegalArgumentException" "java/lang/IllegalArgumentException") s ∧ va_Nw (.castable "java/lang/IllegalStateException" "java/lang/IllegalStateException") s ∧ va_Nw (.castable "java/lang/IndexOutOfBoundsException" "java/lang/IndexOutOfBoundsException") s ∧ (∀ i j : Nat, 1 ≤ i → i < 4 → 1 ≤ j → j < 4 → i ≠ j → va_Nc (teN i) (teN j) s) ∧ ∀ Y ∈ ["java/lang/RuntimeException", "java/lang/Exception", "java/lang/Throwable"], va_Nw (.declares (Bundle.initS Y)) s) ∧
  (∀ q ∈ teX, ∃ sa, vk_R "TandemExchange" q.1 q.2 sa s) ∧ 0 ≤ H.size
/-- what holds before and behind each method: the tables, the world -/
def teU (D : va_G) (cy : Nat → ClassId) (ad : Nat → Nat) (ba : Nat → Prop) (O : Int64) (S : teS) (U : State) : Prop :=
  va_K D vwCl (teT cy) U ∧ teF ba U U.heap ∧ teR D cy ad ba O S U.heap
/-- what holds all through a method's body -/
def teC (Ts : List Cond) (own : String) (cc : ByteArray) (nL : Nat) (ret : Option FieldType) (D : va_G) (cy : Nat → ClassId) (ba : Nat → Prop) (p : Program) (s : State) (m : MethodId) (args : Array Value) (meth : Method) (c : Code) : Prop :=
  p.tables.exec = Jvm.exec ∧ c.code = cc ∧ c.maxLocals = nL ∧ meth.sig.returnType = ret ∧ s.vm.findClass own = some m.cls ∧ (∀ w ∈ Ts, w.before args s = true) ∧ meth.locks = false ∧ va_K D vwCl (teT cy) s ∧ teF ba s s.heap
theorem teF_kept {ba : Nat → Prop} {s : State} {H H1 : Heap} (h : teF ba s H) (hz : H.size ≤ H1.size) (hq : ∀ a : Nat, a < H.size → ¬ teA ba a → H1[a]? = H[a]?) : teF ba s H1 :=
  ⟨h.1.kept hq, h.2.1.kept hq, h.2.2.1, h.2.2.2.1, Nat.le_trans h.2.2.2.2 hz⟩
theorem teF_moved {ba : Nat → Prop} {s U : State} {H : Heap} (hW : s.WarmedH U.vm) (h : teF ba s H) : teF ba U H :=
  ⟨h.1.moved hW.alike, h.2.1.moved hW.alike, ⟨h.2.2.1.1.warmC hW, h.2.2.1.2.1.warmC hW, h.2.2.1.2.2.1.warmC hW, fun i j h1 h2 h3 h4 h5 => (h.2.2.1.2.2.2.1 i j h1 h2 h3 h4 h5).moved hW.alike, fun Y hY => (h.2.2.1.2.2.2.2 Y hY).warmD hW⟩, fun q hq => (h.2.2.2.1 q hq).elim fun sa z => ⟨sa, z.warm hW⟩, h.2.2.2.2⟩
theorem teF_S {ba : Nat → Prop} {s : State} {H : Heap} {locs : List Loc} (h : teF ba s s.heap) (hS : va_S (teA ba) s.heap H locs) : teF ba s H :=
  teF_kept h hS.1 hS.2.1

/-- a cell that speaks of none of the changed numbers is the same -/
theorem teE_circ (cy : Nat → ClassId) (ad : Nat → Nat) (O : Int64) (S : teS) {k : Nat} (hk : k < 18) : teE cy ad O S (20 * k) = .inr (1, [.ref (ad (20 * k + 1)), .int (S k 0), .int (S k 1)]) := by
  have h1 : 20 * k < 360 := by omega
  have h2 : 20 * k % 20 = 0 := by omega
  have h3 : 20 * k / 20 = k := by omega
  unfold teE
  rw [if_pos h1, if_pos h2, h3]
theorem teE_mems (cy : Nat → ClassId) (ad : Nat → Nat) (O : Int64) (S : teS) {k : Nat} (hk : k < 18) : teE cy ad O S (20 * k + 1) = .inl (cy 5, 9, .inr (.inr (.inr (.inr fun j => if j < 9 then some (ad (20 * k + 2 + j)) else none)))) := by
  have h1 : 20 * k + 1 < 360 := by omega
  have h2 : ¬ (20 * k + 1) % 20 = 0 := by omega
  have h3 : (20 * k + 1) % 20 = 1 := by omega
  unfold teE
  rw [if_pos h1, if_neg h2, if_pos h3]
theorem teE_memb (cy : Nat → ClassId) (ad : Nat → Nat) (O : Int64) (S : teS) {k a : Nat} (hk : k < 18) (ha : a < 9) : teE cy ad O S (20 * k + 2 + a) = .inr (3, [.ref (ad (20 * k + 11 + a)), .int (S k (2 + 10 * a + 4)), .int (S k (2 + 10 * a + 5)), .int (S k (2 + 10 * a + 6)), .int (S k (2 + 10 * a + 7)), .int (S k (2 + 10 * a + 8)), .int (S k (2 + 10 * a + 9))]) := by
  have h1 : 20 * k + 2 + a < 360 := by omega
  have h2 : ¬ (20 * k + 2 + a) % 20 = 0 := by omega
  have h3 : ¬ (20 * k + 2 + a) % 20 = 1 := by omega
  have h4 : (20 * k + 2 + a) % 20 < 11 := by omega
  have h5 : (20 * k + 2 + a) / 20 = k := by omega
  have h6 : (20 * k + 2 + a) % 20 - 2 = a := by omega
  have h7 : 20 * k + 2 + a + 9 = 20 * k + 11 + a := by omega
  unfold teE
  rw [if_pos h1, if_neg h2, if_neg h3, if_pos h4, h5, h6, h7]
theorem teE_levs (cy : Nat → ClassId) (ad : Nat → Nat) (O : Int64) (S : teS) {k a : Nat} (hk : k < 18) (ha : a < 9) : teE cy ad O S (20 * k + 11 + a) = .inl (cy 0, 4, .inl fun j => if j < 4 then S k (2 + 10 * a + j) else 0) := by
  have h1 : 20 * k + 11 + a < 360 := by omega
  have h2 : ¬ (20 * k + 11 + a) % 20 = 0 := by omega
  have h3 : ¬ (20 * k + 11 + a) % 20 = 1 := by omega
  have h4 : ¬ (20 * k + 11 + a) % 20 < 11 := by omega
  have h5 : (20 * k + 11 + a) / 20 = k := by omega
  have h6 : (20 * k + 11 + a) % 20 - 11 = a := by omega
  unfold teE
  rw [if_pos h1, if_neg h2, if_neg h3, if_neg h4, h5, h6]
/-- a number that cell i tells -/
def teW (i k j : Nat) : Prop := if i < 360 then k = i / 20 ∧ ((i % 20 = 0 ∧ j < 2) ∨ (2 ≤ i % 20 ∧ i % 20 < 11 ∧ 2 + 10 * (i % 20 - 2) + 4 ≤ j ∧ j < 2 + 10 * (i % 20 - 2) + 10) ∨ (11 ≤ i % 20 ∧ 2 + 10 * (i % 20 - 11) ≤ j ∧ j < 2 + 10 * (i % 20 - 11) + 4)) else k = i
theorem teE_same (cy : Nat → ClassId) (ad : Nat → Nat) (O : Int64) {S S1 : teS} {i : Nat} (h : ∀ k j, teW i k j → S1 k j = S k j) : teE cy ad O S1 i = teE cy ad O S i := by
  by_cases h1 : i < 360
  · have hw : ∀ j, ((i % 20 = 0 ∧ j < 2) ∨ (2 ≤ i % 20 ∧ i % 20 < 11 ∧ 2 + 10 * (i % 20 - 2) + 4 ≤ j ∧ j < 2 + 10 * (i % 20 - 2) + 10) ∨ (11 ≤ i % 20 ∧ 2 + 10 * (i % 20 - 11) ≤ j ∧ j < 2 + 10 * (i % 20 - 11) + 4)) → S1 (i / 20) j = S (i / 20) j := fun j hj => h _ _ (by unfold teW; rw [if_pos h1]; exact ⟨rfl, hj⟩)
    unfold teE
    rw [if_pos h1, if_pos h1]
    by_cases h2 : i % 20 = 0
    · rw [if_pos h2, if_pos h2, hw 0 (by omega), hw 1 (by omega)]
    · rw [if_neg h2, if_neg h2]
      by_cases h3 : i % 20 = 1
      · rw [if_pos h3, if_pos h3]
      · rw [if_neg h3, if_neg h3]
        by_cases h4 : i % 20 < 11
        · rw [if_pos h4, if_pos h4, hw (2 + 10 * (i % 20 - 2) + 4) (by omega), hw (2 + 10 * (i % 20 - 2) + 5) (by omega), hw (2 + 10 * (i % 20 - 2) + 6) (by omega), hw (2 + 10 * (i % 20 - 2) + 7) (by omega), hw (2 + 10 * (i % 20 - 2) + 8) (by omega), hw (2 + 10 * (i % 20 - 2) + 9) (by omega)]
        · rw [if_neg h4, if_neg h4]
          congr 5
          funext j
          by_cases hj : j < 4
          · rw [if_pos hj, if_pos hj, hw _ (by omega)]
          · rw [if_neg hj, if_neg hj]
  · have hw : ∀ j, S1 i j = S i j := fun j => h _ _ (by unfold teW; rw [if_neg h1])
    have hf : S1 i = S i := funext hw
    unfold teE
    rw [if_neg h1, if_neg h1]
    split <;> simp only [hf]
def bxw {α : Type} (x : Option (Nat ⊕ (Int32 × teS))) (h : Nat → Option α) (k : Int32 → teS → Option α) : Option α := match x with
  | none => none
  | some (.inl c) => h c
  | some (.inr a) => k a.1 a.2
theorem bxw_some {α : Type} {x : Option (Nat ⊕ (Int32 × teS))} {h : Nat → Option α} {k : Int32 → teS → Option α} {r : α} (hf : bxw x h k = some r) : (∃ c, x = some (.inl c) ∧ h c = some r) ∨ ∃ a S1, x = some (.inr (a, S1)) ∧ k a S1 = some r := by
  match x, hf with
  | some (.inl c), hf => exact Or.inl ⟨c, rfl, hf⟩
  | some (.inr a), hf => exact Or.inr ⟨a.1, a.2, rfl, hf⟩
def bd3 {α β γ δ : Type} (x : Option (α × (β × γ))) (k : α → β → γ → Option δ) : Option δ := match x with
  | none => none
  | some a => k a.1 a.2.1 a.2.2
theorem bd3_some {α β γ δ : Type} {x : Option (α × (β × γ))} {k : α → β → γ → Option δ} {r : δ} (h : bd3 x k = some r) : ∃ a b c, x = some (a, (b, c)) ∧ k a b c = some r := by
  cases x with
  | none => cases h
  | some a => exact ⟨a.1, a.2.1, a.2.2, rfl, h⟩
def lt1 {α β : Type} (x : α) (f : α → β) : β := f x
theorem lt1_e {α β : Type} {x : α} {f : α → β} {r : β} (h : lt1 x f = r) : f x = r := h
def tecp (S : teS) (k a k2 a2 : Nat) : teS := fun x y => if x = k ∧ 2 + 10 * a ≤ y ∧ y < 2 + 10 * a + 4 then S k2 (2 + 10 * a2 + (y - (2 + 10 * a))) else S x y
