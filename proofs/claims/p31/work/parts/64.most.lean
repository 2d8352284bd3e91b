/-! THE BEST MATCHING of a list of members: BD d l x says that no matching within l is worth more than x -/
def BD (ft : Nat → Nat → Bool) (W : Nat → Nat → Int) : Nat → List Nat → Int → Prop
  | 0, _, x => 0 ≤ x
  | _ + 1, [], x => 0 ≤ x
  | d + 1, a :: r, x => BD ft W d r x ∧ ∀ b, b ∈ r → ft a b = true → BD ft W d (r.erase b) (x - W a b)
section S64
variable {ft : Nat → Nat → Bool} {W : Nat → Nat → Int}
theorem BD_c {d a : Nat} {r : List Nat} {x : Int} : BD ft W (d + 1) (a :: r) x ↔ (BD ft W d r x ∧ ∀ b, b ∈ r → ft a b = true → BD ft W d (r.erase b) (x - W a b)) := Iff.rfl
theorem BD_mono : ∀ (d : Nat) (l : List Nat) (x y : Int), BD ft W d l x → x ≤ y → BD ft W d l y
  | 0, _, _, _, h, hxy => Int.le_trans h hxy
  | _ + 1, [], _, _, h, hxy => Int.le_trans h hxy
  | d + 1, a :: r, x, y, h, hxy => ⟨BD_mono d r x y h.1 hxy, fun b hb hf => BD_mono d (r.erase b) (x - W a b) (y - W a b) (h.2 b hb hf) (by omega)⟩
theorem BD_ge : ∀ (d : Nat) (l : List Nat) (x : Int), BD ft W d l x → 0 ≤ x
  | 0, _, _, h => h
  | _ + 1, [], _, h => h
  | d + 1, _ :: r, x, h => BD_ge d r x h.1
theorem BD_big {B : Int} (hB : 0 ≤ B) : ∀ (d : Nat) (l : List Nat), (∀ a, a ∈ l → ∀ b, b ∈ l → W a b ≤ B) → BD ft W d l (B * (l.length : Int))
  | 0, l, _ => Int.mul_nonneg hB (Int.natCast_nonneg _)
  | _ + 1, [], _ => Int.mul_nonneg hB (Int.natCast_nonneg _)
  | d + 1, a :: r, hW => by
    have e : B * ((a :: r).length : Int) = B * (r.length : Int) + B := by
      rw [List.length_cons, Int.natCast_add, Int.mul_add]
      show B * (r.length : Int) + B * 1 = _
      rw [Int.mul_one]
    rw [e]
    refine ⟨BD_mono d r _ _ (BD_big hB d r fun x hx y hy => hW x (List.mem_cons_of_mem _ hx) y (List.mem_cons_of_mem _ hy)) (by omega), fun b hb _ => ?_⟩
    have h1 : ((r.erase b).length : Int) ≤ (r.length : Int) := Int.ofNat_le.mpr List.length_erase_le
    have h2 : B * ((r.erase b).length : Int) ≤ B * (r.length : Int) := Int.mul_le_mul_of_nonneg_left h1 hB
    have h3 := hW a List.mem_cons_self b (List.mem_cons_of_mem _ hb)
    exact BD_mono d _ _ _ (BD_big hB d (r.erase b) fun x hx y hy => hW x (List.mem_cons_of_mem _ (List.mem_of_mem_erase hx)) y (List.mem_cons_of_mem _ (List.mem_of_mem_erase hy))) (by omega)
theorem BD_two {e y x : Nat} {r : List Nat} {X : Int} (hn : (y :: x :: r).Nodup) : BD ft W (e + 2) (y :: x :: r) X ↔ (BD ft W e r X ∧ (∀ c, c ∈ r → ft x c = true → BD ft W e (r.erase c) (X - W x c)) ∧ (ft y x = true → BD ft W (e + 1) r (X - W y x)) ∧ (∀ b, b ∈ r → ft y b = true → BD ft W e (r.erase b) (X - W y b)) ∧ ∀ b, b ∈ r → ft y b = true → ∀ c, c ∈ r → c ≠ b → ft x c = true → BD ft W e ((r.erase b).erase c) (X - W y b - W x c)) := by
  obtain ⟨-, hn1⟩ := List.nodup_cons.mp hn
  obtain ⟨hxr, hnr⟩ := List.nodup_cons.mp hn1
  have hne : ∀ b, b ∈ r → ¬ (x == b) = true := fun b hb z => hxr (by rw [beq_iff_eq] at z; rw [z]; exact hb)
  constructor
  · rintro ⟨⟨h1, h2⟩, h3⟩
    have hb : ∀ b, b ∈ r → ft y b = true → BD ft W (e + 1) (x :: (r.erase b)) (X - W y b) := fun b hb hf => by
      have h4 := h3 b (List.mem_cons_of_mem _ hb) hf
      rw [List.erase_cons_tail (hne b hb)] at h4
      exact h4
    refine ⟨h1, h2, fun hf => ?_, fun b hb' hf => (hb b hb' hf).1, fun b hb' hf c hc hcb hg => (hb b hb' hf).2 c ((List.Nodup.mem_erase_iff hnr).mpr ⟨hcb, hc⟩) hg⟩
    have h4 := h3 x List.mem_cons_self hf
    rw [List.erase_cons_head] at h4
    exact h4
  · rintro ⟨h1, h2, h3, h4, h5⟩
    refine ⟨⟨h1, h2⟩, fun b hb hf => ?_⟩
    by_cases hbx : b = x
    · subst hbx
      rw [List.erase_cons_head]
      exact h3 hf
    · have hbr : b ∈ r := (List.mem_cons.mp hb).resolve_left hbx
      rw [List.erase_cons_tail (hne b hbr)]
      exact ⟨h4 b hbr hf, fun c hc hg => h5 b hbr hf c ((List.Nodup.mem_erase_iff hnr).mp hc).2 ((List.Nodup.mem_erase_iff hnr).mp hc).1 hg⟩
theorem BD_sw (hs : ∀ a b, ft a b = ft b a) (hw : ∀ a b, W a b = W b a) {e y x : Nat} {r : List Nat} {X : Int} (hn : (y :: x :: r).Nodup) (hn2 : (x :: y :: r).Nodup) (h : BD ft W (e + 2) (y :: x :: r) X) : BD ft W (e + 2) (x :: y :: r) X := by
  obtain ⟨h1, h2, h3, h4, h5⟩ := (BD_two hn).mp h
  refine (BD_two hn2).mpr ⟨h1, h4, fun hf => ?_, h2, fun c hc hf b hb hne hg => ?_⟩
  · have h6 := h3 (by rw [hs]; exact hf)
    rw [hw y x] at h6
    exact h6
  · have h6 := h5 b hb hg c hc (Ne.symm hne) hf
    rw [List.erase_comm, show X - W y b - W x c = X - W x c - W y b by omega] at h6
    exact h6
theorem BD_perm1 (hs : ∀ a b, ft a b = ft b a) (hw : ∀ a b, W a b = W b a) (d : Nat) (ih : ∀ l l' : List Nat, l.Perm l' → l.Nodup → l.length ≤ d → ∀ x, BD ft W d l x ↔ BD ft W d l' x) {l l' : List Nat} (h : l.Perm l') : l.Nodup → l.length ≤ d + 1 → ∀ x, BD ft W (d + 1) l x ↔ BD ft W (d + 1) l' x := by
  induction h with
  | nil => intro _ _ x; exact Iff.rfl
  | cons a h ih2 =>
    rename_i r r'
    intro hn hl x
    have hr := (List.nodup_cons.mp hn).2
    rw [List.length_cons] at hl
    have hlr : r.length ≤ d := by omega
    rw [BD_c, BD_c]
    refine and_congr (ih _ _ h hr hlr x) (forall_congr' fun b => ?_)
    have e1 : BD ft W d (r.erase b) (x - W a b) ↔ BD ft W d (r'.erase b) (x - W a b) := ih _ _ (h.erase b) (hr.erase b) (Nat.le_trans List.length_erase_le hlr) _
    constructor
    · intro g hb hf
      exact e1.mp (g (h.mem_iff.mpr hb) hf)
    · intro g hb hf
      exact e1.mpr (g (h.mem_iff.mp hb) hf)
  | swap a b r =>
    intro hn hl x
    rw [List.length_cons, List.length_cons] at hl
    obtain ⟨e, rfl⟩ : ∃ e, d = e + 1 := ⟨d - 1, by omega⟩
    have hn2 : (a :: b :: r).Nodup := (List.Perm.swap a b r).nodup_iff.mp hn
    exact ⟨BD_sw hs hw hn hn2, BD_sw hs hw hn2 hn⟩
  | trans h1 h2 i1 i2 =>
    intro hn hl x
    exact (i1 hn hl x).trans (i2 (h1.nodup_iff.mp hn) (by rw [← h1.length_eq]; exact hl) x)
theorem BD_perm (hs : ∀ a b, ft a b = ft b a) (hw : ∀ a b, W a b = W b a) : ∀ (d : Nat) (l l' : List Nat), l.Perm l' → l.Nodup → l.length ≤ d → ∀ x, BD ft W d l x ↔ BD ft W d l' x
  | 0, _, _, _, _, _, _ => Iff.rfl
  | d + 1, _, _, h, hn, hl, x => BD_perm1 hs hw d (BD_perm hs hw d) h hn hl x
/-- r is what the best matching within l is worth -/
def Val (ft : Nat → Nat → Bool) (W : Nat → Nat → Int) (l : List Nat) (r : Int) : Prop := ∀ d, l.length ≤ d → ∀ x, r ≤ x ↔ BD ft W d l x
theorem Val_perm (hs : ∀ a b, ft a b = ft b a) (hw : ∀ a b, W a b = W b a) {l l' : List Nat} {r : Int} (h : l.Perm l') (hn : l.Nodup) (hv : Val ft W l r) : Val ft W l' r := fun d hd x => by
  have hl : l.length ≤ d := by rw [h.length_eq]; exact hd
  rw [hv d hl x]
  exact BD_perm hs hw d _ _ h hn hl x
theorem Val_uniq {l : List Nat} {r s : Int} (h1 : Val ft W l r) (h2 : Val ft W l s) : r = s :=
  Int.le_antisymm ((h1 _ (Nat.le_refl _) s).mpr ((h2 _ (Nat.le_refl _) s).mp (Int.le_refl s))) ((h2 _ (Nat.le_refl _) r).mpr ((h1 _ (Nat.le_refl _) r).mp (Int.le_refl r)))
theorem Val_nil : Val ft W [] 0 := fun d _ x => by
  cases d
  · exact Iff.rfl
  · exact Iff.rfl
theorem Val_ge {l : List Nat} {r : Int} (h : Val ft W l r) : 0 ≤ r := BD_ge _ _ _ ((h _ (Nat.le_refl _) r).mp (Int.le_refl r))
theorem Val_le {B : Int} (hB : 0 ≤ B) {l : List Nat} {r : Int} (hW : ∀ a, a ∈ l → ∀ b, b ∈ l → W a b ≤ B) (h : Val ft W l r) : r ≤ B * (l.length : Int) := (h _ (Nat.le_refl _) _).mpr (BD_big hB _ _ hW)
/-- a walk over the partners of a: those below b are looked at -/
def PB (ft : Nat → Nat → Bool) (W : Nat → Nat → Int) (l : List Nat) (a b : Nat) (r : Int) : Prop := ∀ d, l.length ≤ d → ∀ x, r ≤ x ↔ (BD ft W d l x ∧ ∀ c, c < b → c ∈ l → ft a c = true → BD ft W d (l.erase c) (x - W a c))
theorem PB_0 {l : List Nat} {a b : Nat} {r : Int} (h : Val ft W l r) (hb : ∀ c, c ∈ l → b ≤ c) : PB ft W l a b r := fun d hd x => by
  rw [h d hd x]
  exact ⟨fun g => ⟨g, fun c h1 h2 => absurd (hb c h2) (by omega)⟩, fun g => g.1⟩
theorem PB_end {l : List Nat} {a b : Nat} {r : Int} (h : PB ft W l a b r) (hb : ∀ c, c ∈ l → c < b) : Val ft W (a :: l) r := fun d hd x => by
  rw [List.length_cons] at hd
  obtain ⟨e, rfl⟩ : ∃ e, d = e + 1 := ⟨d - 1, by omega⟩
  rw [h e (by omega) x, BD_c]
  exact ⟨fun g => ⟨g.1, fun c h2 => g.2 c (hb c h2) h2⟩, fun g => ⟨g.1, fun c _ h2 => g.2 c h2⟩⟩
theorem PB_skip {l : List Nat} {a b : Nat} {r : Int} (h : PB ft W l a b r) (hb : b ∈ l → ft a b = true → False) : PB ft W l a (b + 1) r := fun d hd x => by
  rw [h d hd x]
  refine ⟨fun g => ⟨g.1, fun c h1 h2 h3 => ?_⟩, fun g => ⟨g.1, fun c h1 h2 h3 => g.2 c (by omega) h2 h3⟩⟩
  by_cases hc : c = b
  · subst hc
    exact (hb h2 h3).elim
  · exact g.2 c (by omega) h2 h3
theorem PB_take {l : List Nat} {a b : Nat} {r T r' : Int} (h : PB ft W l a b r) (hb : b ∈ l) (hf : ft a b = true) (hT : Val ft W (l.erase b) (T - W a b)) (hm : ∀ x, r' ≤ x ↔ (r ≤ x ∧ T ≤ x)) : PB ft W l a (b + 1) r' := fun d hd x => by
  have e1 : T ≤ x ↔ BD ft W d (l.erase b) (x - W a b) := by
    rw [← hT d (Nat.le_trans List.length_erase_le hd) (x - W a b)]
    omega
  rw [hm, h d hd x, e1]
  constructor
  · rintro ⟨⟨g1, g2⟩, g3⟩
    refine ⟨g1, fun c h1 h2 h3 => ?_⟩
    by_cases hc : c = b
    · subst hc
      exact g3
    · exact g2 c (by omega) h2 h3
  · rintro ⟨g1, g2⟩
    exact ⟨⟨g1, fun c h1 h2 h3 => g2 c (by omega) h2 h3⟩, g2 b (by omega) hb hf⟩
end S64
/-! SETS of members as bits of a number -/
def sm (n m : Nat) : List Nat := (List.range n).filter fun b => m.testBit b
theorem sm_nd (n m : Nat) : (sm n m).Nodup := List.Nodup.sublist List.filter_sublist List.nodup_range
theorem sm_in {n m b : Nat} : b ∈ sm n m ↔ b < n ∧ m.testBit b = true := by
  unfold sm
  rw [List.mem_filter, List.mem_range]
theorem sm_len (n m : Nat) : (sm n m).length ≤ n := by
  unfold sm
  have h := List.length_filter_le (fun b => m.testBit b) (List.range n)
  rw [List.length_range] at h
  exact h
def clr (m a : Nat) : Nat := if m.testBit a = true then m ^^^ 2 ^ a else m
theorem clr_tb (m a x : Nat) : (clr m a).testBit x = (m.testBit x && !decide (a = x)) := by
  unfold clr
  by_cases h : m.testBit a = true
  · rw [if_pos h, Nat.testBit_xor, Nat.testBit_two_pow]
    by_cases hx : a = x
    · subst hx
      rw [h, decide_eq_true rfl]; rfl
    · rw [decide_eq_false hx]
      cases m.testBit x <;> rfl
  · rw [if_neg h]
    by_cases hx : a = x
    · subst hx
      rw [Bool.not_eq_true] at h
      rw [h]; rfl
    · rw [decide_eq_false hx]
      cases m.testBit x <;> rfl
theorem sm_clr {n m b : Nat} : (sm n (clr m b)).Perm ((sm n m).erase b) := by
  refine (List.perm_ext_iff_of_nodup (sm_nd _ _) ((sm_nd _ _).erase b)).mpr fun x => ?_
  rw [sm_in, List.Nodup.mem_erase_iff (sm_nd _ _), sm_in, clr_tb, Bool.and_eq_true]
  constructor
  · rintro ⟨h1, h2, h3⟩
    refine ⟨fun z => ?_, h1, h2⟩
    rw [decide_eq_true z.symm] at h3
    exact absurd h3 (by decide)
  · rintro ⟨h1, h2, h3⟩
    refine ⟨h2, h3, ?_⟩
    rw [decide_eq_false (fun z => h1 z.symm)]; rfl
theorem sm_low {n m a : Nat} (ha : a < n) (h : m.testBit a = true) : (a :: sm n (clr m a)).Perm (sm n m) ∧ a ∉ sm n (clr m a) := by
  have hna : a ∉ sm n (clr m a) := fun z => by
    have h1 := (sm_in.mp z).2
    rw [clr_tb, decide_eq_true rfl] at h1
    rw [Bool.and_eq_true] at h1
    exact absurd h1.2 (by decide)
  refine ⟨(List.perm_ext_iff_of_nodup (List.nodup_cons.mpr ⟨hna, sm_nd _ _⟩) (sm_nd _ _)).mpr fun x => ?_, hna⟩
  rw [List.mem_cons, sm_in, sm_in, clr_tb, Bool.and_eq_true]
  constructor
  · rintro (rfl | ⟨h1, h2, -⟩)
    · exact ⟨ha, h⟩
    · exact ⟨h1, h2⟩
  · rintro ⟨h1, h2⟩
    by_cases hx : x = a
    · exact Or.inl hx
    · refine Or.inr ⟨h1, h2, ?_⟩
      rw [decide_eq_false (fun z => hx z.symm)]; rfl
theorem tb_top {l o x : Nat} (ho : o < 2 ^ l) : (2 ^ l + o).testBit x = (decide (l = x) || o.testBit x) := by
  have h := Nat.two_pow_add_eq_or_of_lt ho 1
  rw [Nat.mul_one] at h
  rw [h, Nat.testBit_or, Nat.testBit_two_pow]
theorem tb_hi {l o x : Nat} (ho : o < 2 ^ l) (hx : l ≤ x) : o.testBit x = false :=
  Nat.testBit_lt_two_pow (Nat.lt_of_lt_of_le ho (Nat.pow_le_pow_right (by decide) hx))
theorem sm_top {n l o : Nat} (hl : l < n) (ho : o < 2 ^ l) : (l :: sm n o).Perm (sm n (2 ^ l + o)) ∧ l ∉ sm n o := by
  have hna : l ∉ sm n o := fun z => by
    have h1 := (sm_in.mp z).2
    rw [tb_hi ho (Nat.le_refl _)] at h1
    exact absurd h1 (by decide)
  refine ⟨(List.perm_ext_iff_of_nodup (List.nodup_cons.mpr ⟨hna, sm_nd _ _⟩) (sm_nd _ _)).mpr fun x => ?_, hna⟩
  rw [List.mem_cons, sm_in, sm_in, tb_top ho, Bool.or_eq_true]
  constructor
  · rintro (rfl | ⟨h1, h2⟩)
    · exact ⟨hl, Or.inl (decide_eq_true rfl)⟩
    · exact ⟨h1, Or.inr h2⟩
  · rintro ⟨h1, h2 | h2⟩
    · exact Or.inl (of_decide_eq_true h2).symm
    · exact Or.inr ⟨h1, h2⟩
