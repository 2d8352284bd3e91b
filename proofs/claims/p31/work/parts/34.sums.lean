/-! SUMS over members and over pairs -/
def pin (a b : Nat) : Nat → List (Nat × Nat)
  | 0 => []
  | d + 1 => (a, b) :: pin a (b + 1) d
def pout (n a : Nat) : Nat → List (Nat × Nat)
  | 0 => []
  | d + 1 => pin a (a + 1) (n - (a + 1)) ++ pout n (a + 1) d
/-- the sum of g over pairs, onto acc; of one after the other of d members from a on -/
def sf (g : Nat → Nat → Int32) : List (Nat × Nat) → Int32 → Int32
  | [], acc => acc
  | q :: l, acc => sf g l (acc + g q.1 q.2)
theorem sf_app (g : Nat → Nat → Int32) : ∀ (l m : List (Nat × Nat)) (acc : Int32), sf g (l ++ m) acc = sf g m (sf g l acc)
  | [], m, acc => rfl
  | q :: l, m, acc => by rw [List.cons_append, sf, sf, sf_app g l m]
def s1 (g : Nat → Int32) : Nat → Nat → Int32 → Int32
  | 0, _, acc => acc
  | d + 1, a, acc => s1 g d (a + 1) (acc + g a)
theorem bI_c (x : Int32) (b : Bool) : (if bI b = 0 then x else x + nI 1) = x + bI b := by
  cases b
  · rw [if_pos (show bI false = 0 from rfl)]; show x = x + 0; exact (Int32.add_zero x).symm
  · rw [if_neg (by decide)]; rfl
theorem a_0 (x : Int32) : x + 0 = x := Int32.add_zero x
/-- the partner, if his number is the greater one -/
def gp (n : Nat) (v : tePg) (a : Nat) : Int32 := if sFree v a = true then -9999 else if pp v a ≤ a then -9999 else nI (pp v a)
section S34
variable {n M k r : Nat} {v : tePg} {S : teS}
theorem c1_blk2 (hW : WF n M v) (hE : PE n (S k) v) {a : Nat} (ha : a < n) (q : teS → Int32 → Int32 → Option Int32) : ∀ (d b fuel : Nat) (acc : Int32), b + d = n → d < fuel →
    fX1_countBlocking_16 k q fuel S acc (nI a) (nI b) = q S (sf (fun x y => bI (sBlk v x y)) (pin a b d) acc) (nI (a + 1)) := by
  have h9 := hW.1
  have e0 := hE.1.trans hW.2.2.1
  intro d
  induction d with
  | zero =>
    intro b fuel acc hb hf
    obtain ⟨f, rfl⟩ : ∃ f, fuel = f + 1 := ⟨fuel - 1, by omega⟩
    unfold fX1_countBlocking_16
    rw [e0, if_pos (by rw [nn_le (by omega) (by omega)]; omega), li1, nn_add]
    rfl
  | succ d ih =>
    intro b fuel acc hb hf
    obtain ⟨f, rfl⟩ : ∃ f, fuel = f + 1 := ⟨fuel - 1, by omega⟩
    unfold fX1_countBlocking_16
    rw [e0, if_neg (by rw [nn_le (by omega) (by omega)]; omega), r1_block hW hE ha (by omega), nn_bd1, li1, nn_add, ih (b + 1) f acc (by omega) (by omega), ih (b + 1) f _ (by omega) (by omega)]
    show _ = q S (sf _ (pin a (b + 1) d) (acc + bI (sBlk v a b))) _
    cases sBlk v a b
    · rw [if_pos (show bI false = 0 from rfl)]
      show _ = q S (sf _ _ (acc + 0)) _
      rw [a_0]
    · rw [if_neg (by decide)]; rfl
theorem c1_blk1 (hW : WF n M v) (hE : PE n (S k) v) : ∀ (d a fuel : Nat) (acc : Int32), a + d = n → d < fuel →
    fX1_countBlocking_4 k fuel S acc (nI a) = some (sf (fun x y => bI (sBlk v x y)) (pout n a d) acc) := by
  have h9 := hW.1
  have e0 := hE.1.trans hW.2.2.1
  intro d
  induction d with
  | zero =>
    intro a fuel acc ha hf
    obtain ⟨f, rfl⟩ : ∃ f, fuel = f + 1 := ⟨fuel - 1, by omega⟩
    unfold fX1_countBlocking_4
    rw [e0, if_pos (by rw [nn_le (by omega) (by omega)]; omega)]
    rfl
  | succ d ih =>
    intro a fuel acc ha hf
    obtain ⟨f, rfl⟩ : ∃ f, fuel = f + 1 := ⟨fuel - 1, by omega⟩
    unfold fX1_countBlocking_4
    rw [e0, if_neg (by rw [nn_le (by omega) (by omega)]; omega), li1, nn_add, c1_blk2 hW hE (by omega) _ (n - (a + 1)) (a + 1) _ _ (by omega) (by omega), ih (a + 1) f _ (by omega) (by omega)]
    show _ = some (sf _ (pin a (a + 1) (n - (a + 1)) ++ pout n (a + 1) d) acc)
    rw [sf_app]
theorem c1_blk (hW : WF n M v) (hE : PE n (S k) v) : fX1_countBlocking k S = some (sf (fun x y => bI (sBlk v x y)) (pout n 0 n) 0) := by
  have h9 := hW.1
  unfold fX1_countBlocking
  exact c1_blk1 hW hE n 0 2000 0 (by omega) (by omega)
/-- what 'over' adds for a pair -/
def gO (v : tePg) (x : Nat) (a b : Nat) : Int32 := if x = 1 then (if v (2 + 10 * a + 8) = nI b then sVal v a b else 0) else if x = 0 then (if v (2 + 10 * a + 8) = nI b then 1 else 0) else if x = 2 then bI (sBlk v a b) else bI (sFit v a b)
theorem r1_gp (hW : WF n M v) (hE : PE n (S k) v) {a : Nat} (ha : a < n) : fX1_greaterPartner k (nI a) S = some (gp n v a) := by
  have h9 := hW.1
  have e8 := (hE.2.2 a ha).1 8 (by decide)
  unfold fX1_greaterPartner gp
  rw [nn_in (by omega) (by decide), nn_tn (by omega), e8]
  rcases wf_par hW ha with ⟨h, -⟩ | ⟨d, hd, hne, h, hda, h9a⟩
  · rw [h, r1_hasN, nn_bd1, if_pos rfl, sFree_t h, if_pos rfl]
  · rw [h, r1_has hW hE hd, nn_bd1, if_neg (show ¬ (1 : Int32) = 0 by decide), sFree_f h (by omega), if_neg (show ¬ false = true by decide), pp_b h (by omega), le_if (by omega) (by omega)]
    by_cases h2 : d ≤ a
    · rw [if_pos h2, if_pos h2]
    · rw [if_neg h2, if_neg h2]
theorem c1_prs1 (hW : WF n M v) (hE : PE n (S k) v) : ∀ (d a fuel : Nat) (acc : Int32), a + d = n → d < fuel →
    fX1_countPairs_4 k fuel S acc (nI a) = some (s1 (fun a => if gp n v a = -9999 then 0 else 1) d a acc) := by
  have h9 := hW.1
  have e0 := hE.1.trans hW.2.2.1
  intro d
  induction d with
  | zero =>
    intro a fuel acc ha hf
    obtain ⟨f, rfl⟩ : ∃ f, fuel = f + 1 := ⟨fuel - 1, by omega⟩
    unfold fX1_countPairs_4
    rw [e0, if_pos (by rw [nn_le (by omega) (by omega)]; omega)]
    rfl
  | succ d ih =>
    intro a fuel acc ha hf
    obtain ⟨f, rfl⟩ : ∃ f, fuel = f + 1 := ⟨fuel - 1, by omega⟩
    unfold fX1_countPairs_4
    rw [e0, if_neg (by rw [nn_le (by omega) (by omega)]; omega), r1_gp hW hE (by omega), nn_bd1, li1, nn_add, ih (a + 1) f _ (by omega) (by omega), ih (a + 1) f _ (by omega) (by omega)]
    show _ = some (s1 _ d (a + 1) (acc + if gp n v a = -9999 then 0 else 1))
    by_cases h : gp n v a = -9999
    · rw [if_pos h, if_pos h, a_0]; try rfl
    · rw [if_neg h, if_neg h]; try rfl
theorem c1_sov1 (hW : WF n M v) (hE : PE n (S k) v) : ∀ (d a fuel : Nat) (acc : Int32), a + d = n → d < fuel →
    fX1_sumOfValues_4 k fuel S acc (nI a) = some (s1 (fun a => if gp n v a = -9999 then 0 else sVal v a (pp v a)) d a acc) := by
  have h9 := hW.1
  have e0 := hE.1.trans hW.2.2.1
  intro d
  induction d with
  | zero =>
    intro a fuel acc ha hf
    obtain ⟨f, rfl⟩ : ∃ f, fuel = f + 1 := ⟨fuel - 1, by omega⟩
    unfold fX1_sumOfValues_4
    rw [e0, if_pos (by rw [nn_le (by omega) (by omega)]; omega)]
    rfl
  | succ d ih =>
    intro a fuel acc ha hf
    obtain ⟨f, rfl⟩ : ∃ f, fuel = f + 1 := ⟨fuel - 1, by omega⟩
    unfold fX1_sumOfValues_4
    rw [e0, if_neg (by rw [nn_le (by omega) (by omega)]; omega), r1_gp hW hE (by omega), nn_bd1, li1, nn_add]
    show _ = some (s1 _ d (a + 1) (acc + if gp n v a = -9999 then 0 else sVal v a (pp v a)))
    by_cases h : gp n v a = -9999
    · rw [if_pos h, if_pos h, a_0, ih (a + 1) f _ (by omega) (by omega)]
    · rw [if_neg h, if_neg h]
      rcases wf_par hW (show a < n by omega) with ⟨h2, -⟩ | ⟨d2, hd, hne, h2, hda, h9a⟩
      · exact absurd (by unfold gp; rw [sFree_t h2, if_pos rfl]) h
      · have hg : gp n v a = nI d2 := by
          unfold gp at h ⊢
          rw [sFree_f h2 (by omega), if_neg (by decide), pp_b h2 (by omega)] at h ⊢
          by_cases h3 : d2 ≤ a
          · rw [if_pos h3] at h; exact absurd rfl h
          · rw [if_neg h3]
        rw [hg, r1_value hW hE (by omega) hd, nn_bd1, ih (a + 1) f _ (by omega) (by omega), pp_b h2 (by omega)]
theorem c1_crd1 (hW : WF n M v) (hE : PE n (S k) v) : ∀ (d a fuel : Nat) (acc : Int32), a + d = n → d < fuel →
    fX1_sumOfCredits_4 k fuel S acc (nI a) = some (s1 (fun a => v (2 + 10 * a + 6)) d a acc) := by
  have h9 := hW.1
  have e0 := hE.1.trans hW.2.2.1
  intro d
  induction d with
  | zero =>
    intro a fuel acc ha hf
    obtain ⟨f, rfl⟩ : ∃ f, fuel = f + 1 := ⟨fuel - 1, by omega⟩
    unfold fX1_sumOfCredits_4
    rw [e0, if_pos (by rw [nn_le (by omega) (by omega)]; omega)]
    rfl
  | succ d ih =>
    intro a fuel acc ha hf
    obtain ⟨f, rfl⟩ : ∃ f, fuel = f + 1 := ⟨fuel - 1, by omega⟩
    unfold fX1_sumOfCredits_4
    rw [e0, if_neg (by rw [nn_le (by omega) (by omega)]; omega), nn_in (by omega) (by decide), nn_tn (by omega), (hE.2.2 a (by omega)).1 6 (by decide), li1, nn_add, ih (a + 1) f _ (by omega) (by omega)]
    rfl
/-- sums over the pairs, by rows -/
theorem sf_row (g : Nat → Nat → Int32) (a : Nat) : ∀ (d b : Nat) (acc : Int32), sf g (pin a b d) acc = s1 (fun b => g a b) d b acc
  | 0, _, _ => rfl
  | d + 1, b, acc => by rw [pin, sf, s1, sf_row g a d]
theorem s1_acc (g : Nat → Int32) : ∀ (d b : Nat) (x y : Int32), s1 g d b (x + y) = x + s1 g d b y
  | 0, _, _, _ => rfl
  | d + 1, b, x, y => by rw [s1, s1, Int32.add_assoc, s1_acc g d]
theorem s1_cong {g f : Nat → Int32} : ∀ (d a : Nat) (acc : Int32), (∀ i, a ≤ i → i < a + d → g i = f i) → s1 g d a acc = s1 f d a acc
  | 0, _, _, _ => rfl
  | d + 1, a, acc, h => by rw [s1, s1, h a (by omega) (by omega), s1_cong d (a + 1) _ (fun i h1 h2 => h i (by omega) (by omega))]
theorem s1_zero : ∀ (d a : Nat) (acc : Int32), s1 (fun _ => 0) d a acc = acc
  | 0, _, _ => rfl
  | d + 1, a, acc => by rw [s1, a_0, s1_zero d]
/-- one place alone counts -/
theorem s1_one (x : Int32) (c : Nat) : ∀ (d b : Nat) (acc : Int32), s1 (fun i => if c = i then x else 0) d b acc = acc + (if b ≤ c ∧ c < b + d then x else 0)
  | 0, b, acc => by rw [s1, if_neg (by omega), a_0]
  | d + 1, b, acc => by
    rw [s1, s1_one x c d]
    by_cases h : c = b
    · rw [if_pos h, if_neg (by omega), if_pos (by omega), a_0]
    · rw [if_neg h, a_0]
      by_cases h2 : b + 1 ≤ c ∧ c < b + 1 + d
      · rw [if_pos h2, if_pos (by omega)]
      · rw [if_neg h2, if_neg (by omega)]
theorem sf_out (g : Nat → Nat → Int32) (f : Nat → Int32) (n : Nat) (h : ∀ a, a < n → s1 (fun b => g a b) (n - (a + 1)) (a + 1) 0 = f a) : ∀ (d a : Nat) (acc : Int32), a + d = n → sf g (pout n a d) acc = s1 f d a acc
  | 0, _, _, _ => rfl
  | d + 1, a, acc, ha => by
    rw [pout, sf_app, s1, sf_row, sf_out g f n h d (a + 1) _ (by omega)]
    congr 1
    have e : acc = acc + 0 := (a_0 acc).symm
    rw [e, s1_acc, h a (by omega), ← e]
/-- for each member: the sum over the greater ones who are the partner -/
theorem one_par (hW : WF n M v) {a : Nat} (ha : a < n) (x : Nat → Int32) : s1 (fun b => if v (2 + 10 * a + 8) = nI b then x b else 0) (n - (a + 1)) (a + 1) 0 = if gp n v a = -9999 then 0 else x (pp v a) := by
  have h9 := hW.1
  rcases wf_par hW ha with ⟨h, -⟩ | ⟨d, hd, hne, h, hda, h9a⟩
  · rw [if_pos (by unfold gp; rw [sFree_t h, if_pos rfl]), s1_cong (f := fun _ => 0), s1_zero]
    intro i h1 h2
    rw [h, if_neg]
    intro h3
    exact absurd h3.symm (by rw [nn_NI (by omega)]; exact not_false)
  · have e : ∀ i, a + 1 ≤ i → i < a + 1 + (n - (a + 1)) → (if v (2 + 10 * a + 8) = nI i then x i else 0) = (if d = i then x d else 0) := by
      intro i h1 h2
      rw [h, eq_if (by omega) (by omega)]
      by_cases h3 : d = i
      · rw [if_pos h3, if_pos h3, h3]
      · rw [if_neg h3, if_neg h3]
    rw [s1_cong _ _ _ e, s1_one, pp_b h (by omega)]
    unfold gp
    rw [sFree_f h (by omega), if_neg (show ¬ false = true by decide), pp_b h (by omega)]
    by_cases h2 : d ≤ a
    · rw [if_neg (show ¬ (a + 1 ≤ d ∧ d < a + 1 + (n - (a + 1))) by omega), if_pos h2, if_pos rfl]; try rfl
    · rw [if_pos (show a + 1 ≤ d ∧ d < a + 1 + (n - (a + 1)) by omega), if_neg h2, if_neg (by rw [nn_NI (by omega)]; exact not_false)]
      exact Int32.zero_add _
end S34
