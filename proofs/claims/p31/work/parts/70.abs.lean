/-! THE ABSTRACT STATE of one object: the page (bound of missed meetings, members, numbers), the remembered pages (newest first), the slots, the text -/
abbrev aP : Type := Nat × (Nat × tePg)
abbrev aS : Type := aP × (List aP × ((Nat → Option aP) × List Nat))
abbrev aM (z : aS) : Nat := z.1.1
abbrev aN (z : aS) : Nat := z.1.2.1
abbrev aV (z : aS) : tePg := z.1.2.2
/-- beyond WF: progress, pairs that fit, meetings missed in a row -/
def IV (n : Nat) (v : tePg) : Prop := (∀ a, a < n → ∃ g, g ≤ 19 ∧ v (2 + 10 * a + 5) = nI g) ∧ (∀ a b, a < n → b < n → v (2 + 10 * a + 8) = nI b → sFit v a b = true) ∧ ∀ a b, a < n → b < n → v (2 + 10 * a + 8) = nI b → ∃ r, r < 3 ∧ v (2 + 10 * a + 9) = nI r
def okQ (q : aP) : Prop := WF q.2.1 q.1 q.2.2 ∧ q.1 ≤ 4000 ∧ IV q.2.1 q.2.2
def okP (p : tePg) (q : aP) : Prop := okQ q ∧ PE q.2.1 p q.2.2
def HB (S : teS) (h : List aP) : Prop := h.length ≤ 14 ∧ ∃ ol, ol < 14 ∧ S 363 0 = nI ol ∧ S 363 1 = nI h.length ∧ ∀ j x, h[j]? = some x → okP (S (2 + (ol + (h.length - 1 - j)) % 14)) x
def ZB (S : teS) (f : Nat → Option aP) : Prop := ∀ q, q < 2 → (f q = none → S 366 q = 0) ∧ ∀ x, f q = some x → S 366 q = 1 ∧ okP (S (16 + q)) x
def TB (S : teS) (t : List Nat) : Prop := t.length ≤ 90 ∧ S 361 0 = nI t.length ∧ ∀ i, i < t.length → t.getD i 0 ≤ 255 ∧ S 362 i = nI (t.getD i 0)
def AB (S : teS) (z : aS) : Prop := okP (S 0) z.1 ∧ HB S z.2.1 ∧ ZB S z.2.2.1 ∧ TB S z.2.2.2
/-- what matters not: the trial circle, the ranks -/
theorem HB_cong {S T : teS} {h : List aP} (hH : HB S h) (e1 : T 363 = S 363) (e2 : ∀ q, 2 ≤ q → q < 16 → T q = S q) : HB T h := by
  obtain ⟨h1, ol, h2, h3, h4, h5⟩ := hH
  exact ⟨h1, ol, h2, by rw [e1]; exact h3, by rw [e1]; exact h4, fun j x hx => by rw [e2 _ (by omega) (by omega)]; exact h5 j x hx⟩
theorem ZB_cong {S T : teS} {f : Nat → Option aP} (hH : ZB S f) (e1 : T 366 = S 366) (e2 : ∀ q, q < 2 → T (16 + q) = S (16 + q)) : ZB T f := fun q hq => ⟨fun h => by rw [e1]; exact (hH q hq).1 h, fun x h => by rw [e1, e2 q hq]; exact (hH q hq).2 x h⟩
theorem TB_cong {S T : teS} {t : List Nat} (hT : TB S t) (e1 : T 361 = S 361) (e2 : T 362 = S 362) : TB T t := by
  obtain ⟨h1, h2, h3⟩ := hT
  exact ⟨h1, by rw [e1]; exact h2, by rw [e2]; exact h3⟩
theorem AB_off {S T : teS} {z : aS} (h : AB S z) (e : ∀ k, k ≠ 1 → k ≠ 368 → T k = S k) : AB T z :=
  ⟨by rw [e 0 (by decide) (by decide)]; exact h.1, HB_cong h.2.1 (e _ (by decide) (by decide)) (fun q _ _ => e q (by omega) (by omega)), ZB_cong h.2.2.1 (e _ (by decide) (by decide)) (fun q _ => e _ (by omega) (by omega)), TB_cong h.2.2.2 (e _ (by decide) (by decide)) (e _ (by decide) (by decide))⟩
theorem AB_tri {S : teS} {z : aS} (h : AB S z) (p : tePg) : AB (tst S 1 p) z := AB_off h (fun k h1 _ => tst_n _ _ h1)
theorem AB_rnk {S : teS} {z : aS} (h : AB S z) (p : tePg) : AB (tst S 368 p) z := AB_off h (fun k _ h1 => tst_n _ _ h1)
theorem AB_W {S : teS} {z : aS} (h : AB S z) : WF (aN z) (aM z) (aV z) := h.1.1.1
theorem AB_E {S : teS} {z : aS} (h : AB S z) : PE (aN z) (S 0) (aV z) := h.1.2
theorem AB_M {S : teS} {z : aS} (h : AB S z) : aM z ≤ 4000 := h.1.1.2.1
theorem AB_e0 {S : teS} {z : aS} (h : AB S z) : S 0 0 = nI (aN z) := (AB_E h).1.trans (AB_W h).2.2.1
theorem PE_oth {n : Nat} {p v : tePg} {S : teS} (hE : PE n (S 0) v) : PE n (S 0) v := hE
/-- an action: the page is remembered, another one stands -/
def remH (h : List aP) (x : aP) : List aP := (x :: h).take 14
def aAct (z : aS) (q : aP) : aS := (q, (remH z.2.1 z.1, z.2.2))
theorem remH_len (h : List aP) (x : aP) : (remH h x).length = if h.length < 14 then h.length + 1 else 14 := by
  unfold remH
  rw [List.length_take, List.length_cons]
  split <;> omega
theorem remH_get {h : List aP} {x y : aP} {j : Nat} (hy : (remH h x)[j]? = some y) : (j = 0 ∧ y = x) ∨ ∃ i, j = i + 1 ∧ i < 13 ∧ h[i]? = some y := by
  unfold remH at hy
  rw [List.getElem?_take] at hy
  split at hy
  · cases j with
    | zero => left; exact ⟨rfl, (Option.some.inj hy).symm⟩
    | succ i => right; exact ⟨i, rfl, by omega, hy⟩
  · cases hy
theorem HB_rem {S : teS} {h : List aP} {x : aP} (hH : HB S h) (hx : okP (S 0) x) : ∃ S1, fX2_remember 0 S = some S1 ∧ S1 0 = S 0 ∧ (∀ a, a ≠ 363 → ¬ (2 ≤ a ∧ a < 16) → S1 a = S a) ∧ HB S1 (remH h x) := by
  obtain ⟨h1, ol, h2, h3, h4, h5⟩ := hH
  obtain ⟨S1, p, g1, g2, g3, g4, g5⟩ := r2_rem hx.1.1 hx.2 h2 h1 h3 h4
  have f : ∀ a, a ≠ 363 → ¬ (2 ≤ a ∧ a < 16) → S1 a = S a := fun a q1 q2 => by rw [g5 a q1, if_neg (by omega)]
  refine ⟨S1, g1, f 0 (by decide) (by decide), f, ?_⟩
  have hl := remH_len h x
  refine ⟨by rw [hl]; split <;> omega, if h.length < 14 then ol else (ol + 1) % 14, by split <;> omega, g2, by rw [hl]; exact g3, fun j y hy => ?_⟩
  rw [hl]
  rcases remH_get hy with ⟨rfl, rfl⟩ | ⟨i, rfl, hi, hy2⟩
  · have e : 2 + ((if h.length < 14 then ol else (ol + 1) % 14) + ((if h.length < 14 then h.length + 1 else 14) - 1 - 0)) % 14 = 2 + (ol + h.length) % 14 := by split <;> omega
    rw [e, g5 _ (by omega), if_pos rfl]
    exact ⟨hx.1, g4⟩
  · have hil := (List.getElem?_eq_some_iff.mp hy2).1
    have e : 2 + ((if h.length < 14 then ol else (ol + 1) % 14) + ((if h.length < 14 then h.length + 1 else 14) - 1 - (i + 1))) % 14 = 2 + (ol + (h.length - 1 - i)) % 14 := by split <;> omega
    rw [e, g5 _ (by omega), if_neg (by omega)]
    exact h5 i y hy2
theorem AB_act {S : teS} {z : aS} (h : AB S z) : ∃ S1, fX2_remember 0 S = some S1 ∧ S1 0 = S 0 ∧ ∀ p q, okP p q → AB (tst S1 0 p) (aAct z q) := by
  obtain ⟨S1, g1, g2, g3, g4⟩ := HB_rem h.2.1 h.1
  refine ⟨S1, g1, g2, fun p q hq => ⟨by rw [tst_s]; exact hq, HB_cong g4 (tst_n _ _ (by decide)) (fun k _ _ => tst_n _ _ (by omega)), ?_, ?_⟩⟩
  · exact ZB_cong h.2.2.1 (by rw [tst_n _ _ (by decide), g3 _ (by decide) (by decide)]) (fun k _ => by rw [tst_n _ _ (by omega), g3 _ (by omega) (by omega)])
  · exact TB_cong h.2.2.2 (by rw [tst_n _ _ (by decide), g3 _ (by decide) (by decide)]) (by rw [tst_n _ _ (by decide), g3 _ (by decide) (by decide)])
