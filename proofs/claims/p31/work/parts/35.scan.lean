/-! LOOKING pairs through; who fits; the best partner -/
theorem lm1b {n : Nat} (h : 0 < n) : nI n + -nI 1 = nI (n - 1) := lm1 h
def scn {α : Type} (P : Nat → Nat → Bool) (K : Nat → α) (F : Nat → Nat → α) : List (Nat × Nat) → Nat → α
  | [], x => K x
  | q :: l, x => if P q.1 q.2 = true then (if x = 0 then F q.1 q.2 else scn P K F l (x - 1)) else scn P K F l x
theorem scn_app {α : Type} (P : Nat → Nat → Bool) (K : Nat → α) (F : Nat → Nat → α) : ∀ (l m : List (Nat × Nat)) (x : Nat), scn P K F (l ++ m) x = scn P (fun y => scn P K F m y) F l x
  | [], m, x => rfl
  | q :: l, m, x => by
    rw [List.cons_append, scn, scn]
    split
    · split
      · rfl
      · exact scn_app P K F l m _
    · exact scn_app P K F l m _
theorem scn_map {α β : Type} (h : α → β) (P : Nat → Nat → Bool) (K : Nat → α) (F : Nat → Nat → α) : ∀ (l : List (Nat × Nat)) (x : Nat), scn P (fun y => h (K y)) (fun a b => h (F a b)) l x = h (scn P K F l x)
  | [], x => rfl
  | q :: l, x => by
    rw [scn, scn]
    split
    · split
      · rfl
      · exact scn_map h P K F l _
    · exact scn_map h P K F l _
theorem scn_Kb {α : Type} {P : Nat → Nat → Bool} {K K2 : Nat → α} {F : Nat → Nat → α} : ∀ (l : List (Nat × Nat)) (x : Nat), (∀ y, y ≤ x → K y = K2 y) → scn P K F l x = scn P K2 F l x
  | [], x, h => h x (Nat.le_refl _)
  | q :: l, x, h => by
    rw [scn, scn]
    split
    · split
      · rfl
      · exact scn_Kb l _ (fun y hy => h y (by omega))
    · exact scn_Kb l _ h
/-- what is found is one of the pairs, and P holds of it -/
theorem scn_in {α : Type} {P : Nat → Nat → Bool} {K : Nat → α} {F : Nat → Nat → α} {Z : α → Prop} (hK : ∀ y, Z (K y)) : ∀ (l : List (Nat × Nat)) (x : Nat), (∀ q ∈ l, P q.1 q.2 = true → Z (F q.1 q.2)) → Z (scn P K F l x)
  | [], x, _ => hK x
  | q :: l, x, h => by
    rw [scn]
    split
    · rename_i h1
      split
      · exact h q List.mem_cons_self h1
      · exact scn_in hK l _ (fun z hz => h z (List.mem_cons_of_mem _ hz))
    · exact scn_in hK l _ (fun z hz => h z (List.mem_cons_of_mem _ hz))
theorem pin_mem {a b : Nat} : ∀ (d : Nat) {c : Nat} {q : Nat × Nat}, q ∈ pin a c d → q.1 = a ∧ c ≤ q.2 ∧ q.2 < c + d
  | 0, c, q, h => by cases h
  | d + 1, c, q, h => by
    rcases List.mem_cons.mp h with h | h
    · subst h; exact ⟨rfl, Nat.le_refl _, by show c < c + (d + 1); omega⟩
    · have := pin_mem (b := b) d h
      exact ⟨this.1, by omega, by omega⟩
theorem pout_mem {n : Nat} : ∀ (d : Nat) {a : Nat} {q : Nat × Nat}, a + d = n → q ∈ pout n a d → q.1 < q.2 ∧ q.2 < n
  | 0, a, q, _, h => by cases h
  | d + 1, a, q, ha, h => by
    rcases List.mem_append.mp h with h | h
    · have := pin_mem (b := 0) _ h
      omega
    · exact pout_mem d (by omega) h
section S35
variable {n M k r : Nat} {v : tePg} {S : teS}
theorem c5_bl2 (hW : WF n M v) (hE : PE n (S 0) v) {a : Nat} (ha : a < n) (x0 y : Int32) (q : teS → Int32 → Int32 → Option (Nat ⊕ (Int32 × teS))) : ∀ (d b fuel x : Nat), x < 2147483648 → b + d = n → d < fuel →
    fX5_blocking_37 x0 y q fuel S (nI x) (nI a) (nI b) = scn (sBlk v) (fun z => q S (nI z) (nI (a + 1))) (fun a b => some (.inr (if y = 0 then nI a else nI b, S))) (pin a b d) x := by
  have h9 := hW.1
  have e0 := hE.1.trans hW.2.2.1
  intro d
  induction d with
  | zero =>
    intro b fuel x hx hb hf
    obtain ⟨f, rfl⟩ : ∃ f, fuel = f + 1 := ⟨fuel - 1, by omega⟩
    unfold fX5_blocking_37
    rw [e0, if_pos (by rw [nn_le (by omega) (by omega)]; omega), li1, nn_add]
    rfl
  | succ d ih =>
    intro b fuel x hx hb hf
    obtain ⟨f, rfl⟩ : ∃ f, fuel = f + 1 := ⟨fuel - 1, by omega⟩
    unfold fX5_blocking_37
    rw [e0, if_neg (by rw [nn_le (by omega) (by omega)]; omega), r1_block hW hE ha (by omega), nn_bd1, li1, nn_add, ih (b + 1) f x hx (by omega) (by omega), bI_if, eq0_if hx]
    show _ = if sBlk v a b = true then _ else _
    cases sBlk v a b
    · rw [if_pos rfl, if_neg (by decide)]
    · rw [if_neg (by decide), if_pos rfl]
      by_cases h : x = 0
      · rw [if_pos h, if_pos h]
        split <;> rfl
      · rw [if_neg h, if_neg h, lm1b (by omega), ih (b + 1) f (x - 1) (by omega) (by omega) (by omega)]
theorem c5_bl1 (hW : WF n M v) (hE : PE n (S 0) v) (x0 y : Int32) : ∀ (d a fuel x : Nat), x < 2147483648 → a + d = n → d < fuel →
    fX5_blocking_19 x0 y fuel S (nI x) (nI a) = scn (sBlk v) (fun _ => some (.inr (-9999, S))) (fun a b => some (.inr (if y = 0 then nI a else nI b, S))) (pout n a d) x := by
  have h9 := hW.1
  have e0 := hE.1.trans hW.2.2.1
  intro d
  induction d with
  | zero =>
    intro a fuel x hx ha hf
    obtain ⟨f, rfl⟩ : ∃ f, fuel = f + 1 := ⟨fuel - 1, by omega⟩
    unfold fX5_blocking_19
    rw [e0, if_pos (by rw [nn_le (by omega) (by omega)]; omega)]
    rfl
  | succ d ih =>
    intro a fuel x hx ha hf
    obtain ⟨f, rfl⟩ : ∃ f, fuel = f + 1 := ⟨fuel - 1, by omega⟩
    unfold fX5_blocking_19
    rw [e0, if_neg (by rw [nn_le (by omega) (by omega)]; omega), li1, nn_add, c5_bl2 hW hE (by omega) x0 y _ (n - (a + 1)) (a + 1) _ x hx (by omega) (by omega)]
    show _ = scn _ _ _ (pin a (a + 1) (n - (a + 1)) ++ pout n (a + 1) d) x
    rw [scn_app]
    exact scn_Kb _ _ (fun y hy => ih (a + 1) f y (by omega) (by omega) (by omega))
/-- a blocking pair found by the one and by the other -/
def fnd (v : tePg) (n x : Nat) : Option (Nat × Nat) := scn (sBlk v) (fun _ => none) (fun a b => some (a, b)) (pout n 0 n) x
theorem fnd_map {α : Type} (v : tePg) (n x : Nat) (K : α) (F : Nat → Nat → α) : scn (sBlk v) (fun _ => K) F (pout n 0 n) x = match fnd v n x with | none => K | some q => F q.1 q.2 := by
  have h := scn_map (fun o : Option (Nat × Nat) => match o with | none => K | some q => F q.1 q.2) (sBlk v) (fun _ => none) (fun a b => some (a, b)) (pout n 0 n) x
  exact h
theorem fnd_lt {a b x : Nat} (h : fnd v n x = some (a, b)) : a < b ∧ b < n ∧ sBlk v a b = true := by
  have h2 : ∀ y, fnd v n x = some y → y.1 < y.2 ∧ y.2 < n ∧ sBlk v y.1 y.2 = true := by
    refine scn_in (Z := fun o => ∀ y : Nat × Nat, o = some y → y.1 < y.2 ∧ y.2 < n ∧ sBlk v y.1 y.2 = true) (fun y z hz => by cases hz) (pout n 0 n) x (fun q hq hP z hz => ?_)
    cases hz
    have := pout_mem n (by omega) hq
    exact ⟨this.1, this.2, hP⟩
  exact h2 _ h
/-- who fits -/
theorem c1_cfw (hW : WF n M v) (hE : PE n (S k) v) {a : Nat} (ha : a < n) : ∀ (d b fuel : Nat) (acc : Int32), b + d = n → d < fuel →
    fX1_countFittingWith_4 k (nI a) fuel S acc (nI b) = some (s1 (fun b => bI (sFit v a b)) d b acc) := by
  have h9 := hW.1
  have e0 := hE.1.trans hW.2.2.1
  intro d
  induction d with
  | zero =>
    intro b fuel acc hb hf
    obtain ⟨f, rfl⟩ : ∃ f, fuel = f + 1 := ⟨fuel - 1, by omega⟩
    unfold fX1_countFittingWith_4
    rw [e0, if_pos (by rw [nn_le (by omega) (by omega)]; omega)]
    rfl
  | succ d ih =>
    intro b fuel acc hb hf
    obtain ⟨f, rfl⟩ : ∃ f, fuel = f + 1 := ⟨fuel - 1, by omega⟩
    unfold fX1_countFittingWith_4
    rw [e0, if_neg (by rw [nn_le (by omega) (by omega)]; omega), r1_fit hW hE ha (by omega), nn_bd1, li1, nn_add, ih (b + 1) f acc (by omega) (by omega), ih (b + 1) f _ (by omega) (by omega)]
    show _ = some (s1 _ d (b + 1) (acc + bI (sFit v a b)))
    cases sFit v a b
    · rw [if_pos (show bI false = 0 from rfl), bI_f, a_0]
    · rw [if_neg (by decide)]; rfl
/-- a number of a member, by its kind -/
def sNum (n : Nat) (v : tePg) (a o : Nat) : Int32 := if o = 9 then (if sFree v a = true then -9999 else v (2 + 10 * a + 9)) else if o = 10 then s1 (fun b => bI (sFit v a b)) n 0 0 else v (2 + 10 * a + o)
theorem r1_num (hW : WF n M v) (hE : PE n (S k) v) {a o : Nat} (ha : a < n) (ho : o ≤ 10) : fX1_numberOf k (nI a) (nI o) S = some (sNum n v a o) := by
  have h9 := hW.1
  have hp := hE.2.2 a ha
  unfold fX1_numberOf sNum
  rw [nn_in (by omega) (by decide), if_neg (nI_pos (by omega)), li4, le_if (by decide) (by omega), nn_tn (by omega)]
  by_cases h4 : 4 ≤ o
  · rw [if_pos h4]
    unfold fX1_numberOf_23
    simp (disch := omega) only [li4, li5, li6, li7, li8, li9, li10, nn_eq]
    rcases (show o = 4 ∨ o = 5 ∨ o = 6 ∨ o = 7 ∨ o = 8 ∨ o = 9 ∨ o = 10 by omega) with rfl | rfl | rfl | rfl | rfl | rfl | rfl
    · rw [if_pos rfl, hp.1 4 (by decide)]; rfl
    · rw [if_neg (by decide), if_pos rfl, hp.1 5 (by decide)]; rfl
    · rw [if_neg (by decide), if_neg (by decide), if_pos rfl, hp.1 6 (by decide)]; rfl
    · rw [if_neg (by decide), if_neg (by decide), if_neg (by decide), if_pos rfl, hp.1 7 (by decide)]; rfl
    · rw [if_neg (by decide), if_neg (by decide), if_neg (by decide), if_neg (by decide), if_pos rfl, hp.1 8 (by decide)]; rfl
    · rw [if_neg (by decide), if_neg (by decide), if_neg (by decide), if_neg (by decide), if_neg (by decide), if_pos rfl, if_pos rfl, r1_free hW hE ha, nn_bd1, bI_if]
      cases hs : sFree v a
      · rw [if_pos rfl, if_neg (by decide), hp.2 (of_decide_eq_false hs)]
      · rw [if_neg (by decide), if_pos rfl]
    · rw [if_neg (by decide), if_neg (by decide), if_neg (by decide), if_neg (by decide), if_neg (by decide), if_neg (by decide), if_pos rfl, if_neg (by decide), if_pos rfl]
      unfold fX1_countFittingWith
      rw [li0, c1_cfw hW hE ha n 0 2000 _ (by omega) (by omega), nn_bd1]
  · rw [if_neg h4, nn_in (by omega) (by decide), nn_tn (by omega), hp.1 o (by omega), if_neg (by omega), if_neg (by omega)]
/-- half of all who fit -/
def t1 (g : Nat → Nat) : Nat → Nat → Nat
  | 0, _ => 0
  | d + 1, a => g a + t1 g d (a + 1)
theorem t1_end (g : Nat → Nat) : ∀ d a, t1 g (d + 1) a = t1 g d a + g (a + d)
  | 0, a => by simp [t1]
  | d + 1, a => by rw [t1, t1_end g d (a + 1), t1, show a + 1 + d = a + (d + 1) by omega]; omega
theorem t1_cong {g f : Nat → Nat} : ∀ d a, (∀ i, a ≤ i → i < a + d → g i = f i) → t1 g d a = t1 f d a
  | 0, _, _ => rfl
  | d + 1, a, h => by rw [t1, t1, h a (by omega) (by omega), t1_cong d (a + 1) (fun i h1 h2 => h i (by omega) (by omega))]
theorem t1_add (g f : Nat → Nat) : ∀ d a, t1 (fun i => g i + f i) d a = t1 g d a + t1 f d a
  | 0, _ => rfl
  | d + 1, a => by rw [t1, t1, t1, t1_add g f d]; omega
theorem t1_le {g : Nat → Nat} {c : Nat} (h : ∀ i, g i ≤ c) : ∀ d a, t1 g d a ≤ d * c
  | 0, _ => by simp [t1]
  | d + 1, a => by rw [t1, Nat.succ_mul]; have := t1_le h d (a + 1); have := h a; omega
theorem s1_n (g : Nat → Nat) : ∀ d a x, s1 (fun i => nI (g i)) d a (nI x) = nI (x + t1 g d a)
  | 0, _, x => by simp [s1, t1]
  | d + 1, a, x => by rw [s1, nn_add, s1_n g d, t1, Nat.add_assoc]
theorem t1_sym (F : Nat → Nat → Nat) (h0 : ∀ a, F a a = 0) (hs : ∀ a b, F a b = F b a) : ∀ n, t1 (fun a => t1 (F a) n 0) n 0 = 2 * t1 (fun a => t1 (F a) (n - (a + 1)) (a + 1)) n 0
  | 0 => rfl
  | n + 1 => by
    rw [t1_end (fun a => t1 (F a) (n + 1) 0) n 0, t1_end (fun a => t1 (F a) (n + 1 - (a + 1)) (a + 1)) n 0]
    rw [t1_cong (g := fun a => t1 (F a) (n + 1) 0) (f := fun a => t1 (F a) n 0 + F a n) n 0 (fun i _ hi => by rw [t1_end]; simp)]
    rw [t1_cong (g := fun a => t1 (F a) (n + 1 - (a + 1)) (a + 1)) (f := fun a => t1 (F a) (n - (a + 1)) (a + 1) + F a n) n 0 (fun i _ hi => by
      rw [show n + 1 - (i + 1) = (n - (i + 1)) + 1 by omega, t1_end, show i + 1 + (n - (i + 1)) = n by omega])]
    rw [t1_add, t1_add, t1_sym F h0 hs n, t1_end]
    rw [show 0 + n = n by omega, h0, t1_cong (g := F n) (f := fun a => F a n) n 0 (fun i _ _ => hs n i), show n + 1 - (n + 1) = 0 by omega]
    simp only [t1]
    omega
def bN (b : Bool) : Nat := if b = true then 1 else 0
theorem bI_N (b : Bool) : bI b = nI (bN b) := by cases b <;> rfl
theorem sFit_sym (v : tePg) (a b : Nat) : sFit v a b = sFit v b a := by unfold sFit; rw [Bool.and_comm]
theorem c1_cft (hW : WF n M v) (hE : PE n (S k) v) : ∀ (d a fuel : Nat) (acc : Int32), a + d = n → d < fuel →
    fX1_countFitting_4 k fuel S acc (nI a) = some (s1 (fun a => s1 (fun b => bI (sFit v a b)) n 0 0) d a acc / nI 2) := by
  have h9 := hW.1
  have e0 := hE.1.trans hW.2.2.1
  intro d
  induction d with
  | zero =>
    intro a fuel acc ha hf
    obtain ⟨f, rfl⟩ : ∃ f, fuel = f + 1 := ⟨fuel - 1, by omega⟩
    unfold fX1_countFitting_4
    rw [e0, if_pos (by rw [nn_le (by omega) (by omega)]; omega)]
    rfl
  | succ d ih =>
    intro a fuel acc ha hf
    obtain ⟨f, rfl⟩ : ∃ f, fuel = f + 1 := ⟨fuel - 1, by omega⟩
    unfold fX1_countFitting_4 fX1_countFittingWith
    rw [e0, if_neg (by rw [nn_le (by omega) (by omega)]; omega), li0, c1_cfw hW hE (by omega) n 0 2000 _ (by omega) (by omega), nn_bd1, li1, nn_add, ih (a + 1) f _ (by omega) (by omega)]
    rfl
end S35
