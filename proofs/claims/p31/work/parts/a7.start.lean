/-! THE LAW, from its entry -/
theorem te_arrP {s : State} {A : Array Value} {ty : FieldType} (h : (Cond.arrayClass ty).before A s = true) (hty : ∀ (U : State) (cA : ClassId), U.vm.findClass ("[" ++ ty.toString) = some cA → va_RA U cA ty) : ∃ cA, ArrOfT s cA ty ∧ va_RA s cA ty := by
  obtain ⟨cA, kA, comp, h1, h2, h3⟩ := Cond.arrayClass_spec h
  exact ⟨cA, fun n z => ⟨fun k h => (by cases h), kA, h2, comp, h3⟩, hty s cA h1⟩
theorem te_arrO {s : State} {C : String} (h : va_AO C s) : ∃ cA, ArrOfT s cA (.object C) ∧ va_RA s cA (.object C) := by
  obtain ⟨comp, c, k, h1, h2, h3, h4, h5⟩ := Cond.arrayOver_spec h
  exact ⟨c, fun n z => ⟨fun k h => (by cases h), k, h3, comp, h4⟩, k, comp, h3, h4, h1, h5⟩
theorem te_str {s : State} {args : Array Value} {own tx : String} {k : Nat} (h1 : (Cond.stringRef own k tx).before args s = true) (h2 : (Cond.exactly (.string own k) "java/lang/String").before args s = true) : ∃ sa, vk_R own k tx sa s := by
  obtain ⟨a, c, cA, kA, q1, -⟩ := Cond.exactly_spec (args := args) (first := s) (o := none) (s := s) (idx := []) (t := .string own k) (cls := "java/lang/String") h2
  exact ⟨a, vk_R.of h1 q1⟩
section S75
variable {s : State} {b : Nat}
set_option maxRecDepth 20000 in
theorem te_tcN (hts : ∀ w ∈ lw_tbl, w.before #[Value.ref b] s = true) : tcN s :=
  ⟨va_AO.of (hts _ (List.mem_of_getElem? (i := 50) (by decide +kernel))), va_AO.of (hts _ (List.mem_of_getElem? (i := 113) (by decide +kernel))), va_Nw.of rfl (hts _ (List.mem_of_getElem? (i := 52) (by decide +kernel))), va_Nw.of rfl (hts _ (List.mem_of_getElem? (i := 30) (by decide +kernel))), va_Nw.of rfl (hts _ (List.mem_of_getElem? (i := 128) (by decide +kernel)))⟩
set_option maxRecDepth 20000 in
theorem te_cy (hts : ∀ w ∈ lw_tbl, w.before #[Value.ref b] s = true) : ∃ cy : Nat → ClassId, ∀ (k : Nat) (q : ClassId × FieldType), (teT cy)[k]? = some q → ArrOfT s q.1 q.2 ∧ va_RA s q.1 q.2 := by
  obtain ⟨c0, a0⟩ := te_arrP (ty := .int) (hts _ (List.mem_of_getElem? (i := 89) (by decide +kernel))) (fun _ _ h => h)
  obtain ⟨c1, a1⟩ := te_arrP (ty := .char) (hts _ (List.mem_of_getElem? (i := 42) (by decide +kernel))) (fun _ _ h => h)
  obtain ⟨c2, a2⟩ := te_arrP (ty := .boolean) (hts _ (List.mem_of_getElem? (i := 136) (by decide +kernel))) (fun _ _ h => h)
  obtain ⟨c3, a3⟩ := te_arrP (ty := .int) (hts _ (List.mem_of_getElem? (i := 89) (by decide +kernel))) (fun _ _ h => h)
  have hN := te_tcN hts
  obtain ⟨c4, a4⟩ := te_arrO hN.2.1
  obtain ⟨c5, a5⟩ := te_arrO hN.1
  refine ⟨fun k => match k with | 0 => c0 | 1 => c1 | 2 => c2 | 3 => c3 | 4 => c4 | _ => c5, fun k q hq => ?_⟩
  match k, hq with
  | 0, hq => cases hq; exact a0
  | 1, hq => cases hq; exact a1
  | 2, hq => cases hq; exact a2
  | 3, hq => cases hq; exact a3
  | 4, hq => cases hq; exact a4
  | 5, hq => cases hq; exact a5
  | k + 6, hq => exact absurd (List.getElem?_eq_some_iff.mp hq).1 (by show ¬ k + 6 < 6; omega)
set_option maxRecDepth 20000 in
theorem te_tx (hts : ∀ w ∈ lw_tbl, w.before #[Value.ref b] s = true) (hgv : (Jvm.Cond.and given_1 narrow_1).before #[Value.ref b] s = true) : ∀ q ∈ teX, ∃ sa, vk_R "TandemExchange" q.1 q.2 sa s := by
  have hg := flat_of_before _ hgv
  intro q hq
  have x0 : ∃ sa, vk_R "TandemExchange" 58 "the text is full" sa s := te_str (hts _ (List.mem_of_getElem? (i := 440) (by decide +kernel))) (hg _ (List.mem_of_getElem? (i := 211) (by decide +kernel)))
  have x1 : ∃ sa, vk_R "TandemExchange" 71 "the text is not as described" sa s := te_str (hts _ (List.mem_of_getElem? (i := 454) (by decide +kernel))) (hg _ (List.mem_of_getElem? (i := 236) (by decide +kernel)))
  have x2 : ∃ sa, vk_R "TandemExchange" 103 "what is not 0 to 6" sa s := te_str (hts _ (List.mem_of_getElem? (i := 305) (by decide +kernel))) (hg _ (List.mem_of_getElem? (i := 50) (by decide +kernel)))
  have x3 : ∃ sa, vk_R "TandemExchange" 131 "what is not 0 to 3" sa s := te_str (hts _ (List.mem_of_getElem? (i := 514) (by decide +kernel))) (hg _ (List.mem_of_getElem? (i := 344) (by decide +kernel)))
  have x4 : ∃ sa, vk_R "TandemExchange" 136 "the circle is full" sa s := te_str (hts _ (List.mem_of_getElem? (i := 525) (by decide +kernel))) (hg _ (List.mem_of_getElem? (i := 375) (by decide +kernel)))
  have x5 : ∃ sa, vk_R "TandemExchange" 171 "one of them has a partner, or they do not fit" sa s := te_str (hts _ (List.mem_of_getElem? (i := 583) (by decide +kernel))) (hg _ (List.mem_of_getElem? (i := 407) (by decide +kernel)))
  have x6 : ∃ sa, vk_R "TandemExchange" 198 "no state is remembered" sa s := te_str (hts _ (List.mem_of_getElem? (i := 350) (by decide +kernel))) (hg _ (List.mem_of_getElem? (i := 72) (by decide +kernel)))
  have x7 : ∃ sa, vk_R "TandemExchange" 203 "i is negative" sa s := te_str (hts _ (List.mem_of_getElem? (i := 672) (by decide +kernel))) (hg _ (List.mem_of_getElem? (i := 508) (by decide +kernel)))
  have x8 : ∃ sa, vk_R "TandemExchange" 236 "the script is negative or too long" sa s := te_str (hts _ (List.mem_of_getElem? (i := 740) (by decide +kernel))) (hg _ (List.mem_of_getElem? (i := 538) (by decide +kernel)))
  have x9 : ∃ sa, vk_R "TandemExchange" 250 "nothing has been saved in the slot" sa s := te_str (hts _ (List.mem_of_getElem? (i := 409) (by decide +kernel))) (hg _ (List.mem_of_getElem? (i := 131) (by decide +kernel)))
  have x10 : ∃ sa, vk_R "TandemExchange" 257 "there is no such member" sa s := te_str (hts _ (List.mem_of_getElem? (i := 483) (by decide +kernel))) (hg _ (List.mem_of_getElem? (i := 274) (by decide +kernel)))
  have x11 : ∃ sa, vk_R "TandemExchange" 260 "the members are the same" sa s := te_str (hts _ (List.mem_of_getElem? (i := 509) (by decide +kernel))) (hg _ (List.mem_of_getElem? (i := 308) (by decide +kernel)))
  have x12 : ∃ sa, vk_R "TandemExchange" 262 "the member has no partner" sa s := te_str (hts _ (List.mem_of_getElem? (i := 600) (by decide +kernel))) (hg _ (List.mem_of_getElem? (i := 467) (by decide +kernel)))
  have x13 : ∃ sa, vk_R "TandemExchange" 264 "an argument is out of its range" sa s := te_str (hts _ (List.mem_of_getElem? (i := 439) (by decide +kernel))) (hg _ (List.mem_of_getElem? (i := 172) (by decide +kernel)))
  have x14 : ∃ sa, vk_R "TandemExchange" 266 "there is no such save slot" sa s := te_str (hts _ (List.mem_of_getElem? (i := 393) (by decide +kernel))) (hg _ (List.mem_of_getElem? (i := 99) (by decide +kernel)))
  simp only [teX, List.mem_cons, List.not_mem_nil, or_false] at hq
  rcases hq with rfl | rfl | rfl | rfl | rfl | rfl | rfl | rfl | rfl | rfl | rfl | rfl | rfl | rfl | rfl
  · exact x0
  · exact x1
  · exact x2
  · exact x3
  · exact x4
  · exact x5
  · exact x6
  · exact x7
  · exact x8
  · exact x9
  · exact x10
  · exact x11
  · exact x12
  · exact x13
  · exact x14
set_option maxRecDepth 20000 in
theorem te_F (hts : ∀ w ∈ lw_tbl, w.before #[Value.ref b] s = true) (hgv : (Jvm.Cond.and given_1 narrow_1).before #[Value.ref b] s = true) : teF (fun q => s.heap.size ≤ q) s s.heap := by
  have hg := flat_of_before _ hgv
  have hA : ∀ a : Nat, a < s.heap.size → ¬ (fun q => s.heap.size ≤ q) a := fun a h => Nat.not_le.mpr h
  refine ⟨vx_Zqof (hts _ (List.mem_of_getElem? (i := 291) (by decide +kernel))) (hts _ (List.mem_of_getElem? (i := 13) (by decide +kernel))) (hg _ (List.mem_of_getElem? (i := 4) (by decide +kernel))) hA, vx_Zqof (hts _ (List.mem_of_getElem? (i := 293) (by decide +kernel))) (hts _ (List.mem_of_getElem? (i := 13) (by decide +kernel))) (hg _ (List.mem_of_getElem? (i := 5) (by decide +kernel))) hA, ⟨va_Nw.of rfl (hts _ (List.mem_of_getElem? (i := 266) (by decide +kernel))), va_Nw.of rfl (hts _ (List.mem_of_getElem? (i := 343) (by decide +kernel))), va_Nw.of rfl (hts _ (List.mem_of_getElem? (i := 386) (by decide +kernel))), ?_, ?_⟩, te_tx hts hgv, Nat.zero_le _⟩
  · intro i j h1 h2 h3 h4 h5
    rcases (show (i = 1 ∧ j = 2) ∨ (i = 1 ∧ j = 3) ∨ (i = 2 ∧ j = 1) ∨ (i = 2 ∧ j = 3) ∨ (i = 3 ∧ j = 1) ∨ (i = 3 ∧ j = 2) by omega) with ⟨rfl, rfl⟩ | ⟨rfl, rfl⟩ | ⟨rfl, rfl⟩ | ⟨rfl, rfl⟩ | ⟨rfl, rfl⟩ | ⟨rfl, rfl⟩
    · exact va_Nc.of (args := #[Value.ref b]) (C := "java/lang/IllegalArgumentException") (T := "java/lang/IllegalStateException") (hg _ (List.mem_of_getElem? (i := 20) (by decide +kernel)))
    · exact va_Nc.of (args := #[Value.ref b]) (C := "java/lang/IllegalArgumentException") (T := "java/lang/IndexOutOfBoundsException") (hg _ (List.mem_of_getElem? (i := 28) (by decide +kernel)))
    · exact va_Nc.of (args := #[Value.ref b]) (C := "java/lang/IllegalStateException") (T := "java/lang/IllegalArgumentException") (hg _ (List.mem_of_getElem? (i := 12) (by decide +kernel)))
    · exact va_Nc.of (args := #[Value.ref b]) (C := "java/lang/IllegalStateException") (T := "java/lang/IndexOutOfBoundsException") (hg _ (List.mem_of_getElem? (i := 29) (by decide +kernel)))
    · exact va_Nc.of (args := #[Value.ref b]) (C := "java/lang/IndexOutOfBoundsException") (T := "java/lang/IllegalArgumentException") (hg _ (List.mem_of_getElem? (i := 13) (by decide +kernel)))
    · exact va_Nc.of (args := #[Value.ref b]) (C := "java/lang/IndexOutOfBoundsException") (T := "java/lang/IllegalStateException") (hg _ (List.mem_of_getElem? (i := 21) (by decide +kernel)))
  · intro Y hY
    simp only [List.mem_cons, List.not_mem_nil, or_false] at hY
    rcases hY with rfl | rfl | rfl
    · exact va_Nw.of rfl (hts _ (List.mem_of_getElem? (i := 268) (by decide +kernel)))
    · exact va_Nw.of rfl (hts _ (List.mem_of_getElem? (i := 270) (by decide +kernel)))
    · exact va_Nw.of rfl (hts _ (List.mem_of_getElem? (i := 272) (by decide +kernel)))
set_option maxRecDepth 20000 in
theorem te_D (hts : ∀ w ∈ lw_tbl, w.before #[Value.ref b] s = true) : ∃ D : va_G, ∀ (k : Nat) (q : vw_C), vwCl[k]? = some q → u_Kn s q.1 q.2.1 q.2.2 (D.1 k) (D.2 k) := by
  obtain ⟨c0, i0, h0⟩ := u_known (C := RX0) (T := TX0) (N := 1) (n := 1) hts inX0 (hts _ (List.mem_of_getElem? (i := 127) (by decide +kernel)))
  obtain ⟨c1, i1, h1⟩ := u_known (C := RX1) (T := TX1) (N := 3) (n := 3) hts inX1 (hts _ (List.mem_of_getElem? (i := 44) (by decide +kernel)))
  obtain ⟨c2, i2, h2⟩ := u_known (C := RX2) (T := TX2) (N := 3) (n := 3) hts inX2 (hts _ (List.mem_of_getElem? (i := 107) (by decide +kernel)))
  obtain ⟨c3, i3, h3⟩ := u_known (C := RX3) (T := TX3) (N := 7) (n := 7) hts inX3 (hts _ (List.mem_of_getElem? (i := 51) (by decide +kernel)))
  obtain ⟨c4, i4, h4⟩ := u_known (C := RX4) (T := TX4) (N := 2) (n := 2) hts inX4 (hts _ (List.mem_of_getElem? (i := 29) (by decide +kernel)))
  obtain ⟨c5, i5, h5⟩ := u_known (C := RX5) (T := TX5) (N := 7) (n := 7) hts inX5 (hts _ (List.mem_of_getElem? (i := 21) (by decide +kernel)))
  refine ⟨(fun k => match k with | 0 => c0 | 1 => c1 | 2 => c2 | 3 => c3 | 4 => c4 | _ => c5, fun k => match k with | 0 => i0 | 1 => i1 | 2 => i2 | 3 => i3 | 4 => i4 | _ => i5), fun k q hq => ?_⟩
  match k, hq with
  | 0, hq => cases hq; exact h0
  | 1, hq => cases hq; exact h1
  | 2, hq => cases hq; exact h2
  | 3, hq => cases hq; exact h3
  | 4, hq => cases hq; exact h4
  | 5, hq => cases hq; exact h5
  | k + 6, hq => exact absurd (List.getElem?_eq_some_iff.mp hq).1 (by show ¬ k + 6 < 6; omega)
end S75
theorem va_Pl {D : va_G} {cl : List vw_C} {wl wr : va_W} {H : Heap} (h : va_P D cl (wl ++ wr) H) : va_P D cl wl H ∧ va_P D cl wr H :=
  ⟨fun k q hq => h k q (by rw [List.getElem?_append_left (List.getElem?_eq_some_iff.mp hq).1]; exact hq), fun k q hq => h (wl.length + k) q (by rw [List.getElem?_append_right (Nat.le_add_right _ _), Nat.add_sub_cancel_left]; exact hq)⟩
theorem va_Dl {A B C : Nat → Prop} {wl wr : va_W} (h : va_D A (wl ++ wr)) (hB : ∀ (k : Nat) (q : Nat × va_E), wl[k]? = some q → B q.1) (hC : ∀ (k : Nat) (q : Nat × va_E), wr[k]? = some q → C q.1) : va_D B wl ∧ va_D C wr ∧ (∀ (k : Nat) (q : Nat × va_E), wl[k]? = some q → A q.1) ∧ (∀ (k : Nat) (q : Nat × va_E), wr[k]? = some q → A q.1) ∧ ∀ (i j : Nat) (p q : Nat × va_E), wl[i]? = some p → wr[j]? = some q → p.1 ≠ q.1 := by
  have el : ∀ k q, wl[k]? = some q → (wl ++ wr)[k]? = some q := fun k q hq => by rw [List.getElem?_append_left (List.getElem?_eq_some_iff.mp hq).1]; exact hq
  have er : ∀ k q, wr[k]? = some q → (wl ++ wr)[wl.length + k]? = some q := fun k q hq => by rw [List.getElem?_append_right (Nat.le_add_right _ _), Nat.add_sub_cancel_left]; exact hq
  refine ⟨⟨fun i j a b ha hb e => h.1 i j a b (el i a ha) (el j b hb) e, hB⟩, ⟨fun i j a b ha hb e => ?_, hC⟩, fun k q hq => h.2 k q (el k q hq), fun k q hq => h.2 _ q (er k q hq), fun i j a b ha hb e => ?_⟩
  · have := h.1 _ _ a b (er i a ha) (er j b hb) e
    omega
  · have := h.1 _ _ a b (el i a ha) (er j b hb) e
    have := (List.getElem?_eq_some_iff.mp ha).1
    omega
/-- an object's own cells -/
def baF (ad : Nat → Nat) (q : Nat) : Prop := ∃ i, i < 369 ∧ q = ad i
theorem gW_at {cy : Nat → ClassId} {ad : Nat → Nat} : ∀ (k : Nat) (q : Nat × va_E), (xIds.map (gW cy ad))[k]? = some q → baF ad q.1 := fun k q hq => by
  rw [List.getElem?_map] at hq
  cases hx : xIds[k]? with
  | none => rw [hx] at hq; cases hq
  | some i =>
    rw [hx] at hq
    cases hq
    exact ⟨i, q_lt i (List.mem_of_getElem? hx), rfl⟩
theorem at_gW {cy : Nat → ClassId} {ad : Nat → Nat} {q : Nat} (h : baF ad q) : ∃ (k : Nat) (x : Nat × va_E), (xIds.map (gW cy ad))[k]? = some x ∧ x.1 = q := by
  obtain ⟨i, hi, rfl⟩ := h
  obtain ⟨k, hk⟩ := List.getElem?_of_mem (q_in ⟨i, hi⟩)
  have hk : xIds[k]? = some i := hk
  refine ⟨k, gW cy ad i, ?_, rfl⟩
  rw [List.getElem?_map, hk]; rfl
theorem AB_new : AB S00 zNew := by
  refine ⟨⟨⟨Inv_new.1.1, Nat.zero_le _, Inv_new.1.2.1⟩, rfl, rfl, fun a ha => absurd ha (Nat.not_lt_zero a)⟩, ⟨Nat.zero_le _, 0, by decide, rfl, rfl, fun j x hx => by cases hx⟩, fun q hq => ⟨fun _ => rfl, fun x hx => by cases hx⟩, ⟨Nat.zero_le _, rfl, fun i hi => absurd hi (Nat.not_lt_zero i)⟩⟩
set_option maxRecDepth 20000 in
set_option maxHeartbeats 4000000 in
/-- from the entry, for every script of at most 260 ints, the law comes to its end with true -/
theorem whole_start {p : Program} {e : Env} {s : State} {m : MethodId} {below : List Frame} {meth : Method} {c : Code} (l : Launch) (hflags : l.flags = flags0) {b L : Nat} {xs : Nat → Int32} (hL : L ≤ 260) (C0 : lw_At p s m meth c b L xs) : W p l e room_1 s m #[Value.ref b] below meth c s.heap [] 0 0 (lw_Z below #[Value.ref b] s) (entryFrame m ([Value.ref b] : List Value).toArray 9) := by
  obtain ⟨hx, hb, hr, hml, hown, hts, hX, hbl, hlocks, hgv⟩ := id C0
  have hl0 : l.stackTraces = false := by unfold Launch.stackTraces; rw [hflags]; decide
  obtain ⟨cy, hcy⟩ := te_cy hts
  obtain ⟨D, hDk⟩ := te_D hts
  have hK : va_K D vwCl (teT cy) s := ⟨hDk, hcy⟩
  have hF := te_F hts hgv
  have hts2 : ∀ w ∈ wsL_law, w.before #[Value.ref b] s = true := fun w h => hts w (wsL_law_in w h)
  have XL : teC wsL_law RL cL_law 9 ret D cy (fun q => s.heap.size ≤ q) p s m #[Value.ref b] meth c := ⟨hx, hb, hml, hr, hown, hts2, hlocks, hK, hF⟩
  have X : tcY D cy RL cL_law 9 wsL_law p s m #[Value.ref b] c := ⟨hx, hb, hml, hown, hts2, hK, te_tcN hts⟩
  have hA : ∀ q : Nat, s.heap.size ≤ q → (fun q => s.heap.size ≤ q) q := fun _ h => h
  have hS : va_S (fun q => s.heap.size ≤ q) s.heap s.heap [] := va_S.rf
  have hP : va_P D vwCl [] s.heap := fun k q h => by simp at h
  have hD : va_D (fun q => s.heap.size ≤ q) [] := ⟨fun i j p q h => by simp at h, fun k q h => by simp at h⟩
  have hl := lv_entry ([.ref b]) (n := 9) (Nat.le_of_ble_eq_true rfl)
  rw [lg_entry_eq]
  generalize (lg_sl ([.ref b]) ++ List.replicate (9 - (lg_sl ([.ref b])).length) Slot.unset).toArray = ls at hl ⊢
  have hl : lv_has ls 9 [(0, .ref b)] := hl
  refine tc_mkL (C := RX5) (ci := 5) (N := 7) (T := TX5) (ix1 := 8) (ix2 := 260) (fs := [.null, .null, .null, .null, .null, .null, .null]) (y := yX5_init) (bytes := cX5_init) (maxL := 2) (ws := wsX5_init) (rm := { frames := 4, cells := 368, slots := 2624, locals := 74 }) (mc := 368) (ms := 2624) (post := fun q w => ∃ (tx tc : Nat) (a0 a1 : Nat → Nat) (hh ha : Nat) (bm : Nat → Nat → Nat) (sl : Nat) (a2 a3 : Nat → Nat) (sv bq rk : Nat), w = xW cy q tx tc a0 a1 hh ha bm sl a2 a3 sv bq rk) X (fun q => c5_new l D cy q) (cwI 0 X.2.2.2.2.1 gL_law_X5_init rfl rfl rfl (X.2.2.2.2.1 _ (List.mem_of_getElem? (i := 2) rfl)) (X.2.2.2.2.1 _ (List.mem_of_getElem? (i := 4) rfl)) (X.2.2.2.2.1 _ (List.mem_of_getElem? (i := 5) rfl)) rfl (by decide +kernel) ⟨Nat.le_of_ble_eq_true rfl, Nat.le_of_ble_eq_true rfl⟩) inlX5 tyX5 tyX5_ok (List.mem_of_getElem? (i := 0) rfl) (List.mem_of_getElem? (i := 1) rfl) (List.mem_of_getElem? (i := 2) rfl) rfl (fun j hj => by rcases (show j = 0 ∨ j = 1 ∨ j = 2 ∨ j = 3 ∨ j = 4 ∨ j = 5 ∨ j = 6 by omega) with rfl | rfl | rfl | rfl | rfl | rfl | rfl <;> rfl) hP hD hS hA (Nat.le_of_ble_eq_true rfl) (Nat.le_of_ble_eq_true rfl) hl.1 (fun _ => Nat.le_of_ble_eq_true rfl) dL_law_0 dL_law_3 dL_law_4 (fun q w1 H locs hw hP hD hS => ?_)
  obtain ⟨tx, tc, a0, a1, hh, ha, bm, sl, a2, a3, sv, bq, rk, rfl⟩ := hw
  obtain ⟨h0, rfl⟩ : ∃ z, z = q := ⟨_, rfl⟩
  refine lv_astore_n (lv' := [(1, .ref h0), (0, .ref b)]) hx hb dL_law_7 rfl hl (by decide) rfl (fun ls hl => ?_)
  refine tc_mkL (C := RX5) (ci := 5) (N := 7) (T := TX5) (ix1 := 8) (ix2 := 260) (fs := [.null, .null, .null, .null, .null, .null, .null]) (y := yX5_init) (bytes := cX5_init) (maxL := 2) (ws := wsX5_init) (rm := { frames := 4, cells := 368, slots := 2624, locals := 74 }) (mc := 368) (ms := 2624) (post := fun q w => ∃ (tx tc : Nat) (a0 a1 : Nat → Nat) (hh ha : Nat) (bm : Nat → Nat → Nat) (sl : Nat) (a2 a3 : Nat → Nat) (sv bq rk : Nat), w = xW cy q tx tc a0 a1 hh ha bm sl a2 a3 sv bq rk) X (fun q => c5_new l D cy q) (cwI 0 X.2.2.2.2.1 gL_law_X5_init rfl rfl rfl (X.2.2.2.2.1 _ (List.mem_of_getElem? (i := 2) rfl)) (X.2.2.2.2.1 _ (List.mem_of_getElem? (i := 4) rfl)) (X.2.2.2.2.1 _ (List.mem_of_getElem? (i := 5) rfl)) rfl (by decide +kernel) ⟨Nat.le_of_ble_eq_true rfl, Nat.le_of_ble_eq_true rfl⟩) inlX5 tyX5 tyX5_ok (List.mem_of_getElem? (i := 0) rfl) (List.mem_of_getElem? (i := 1) rfl) (List.mem_of_getElem? (i := 2) rfl) rfl (fun j hj => by rcases (show j = 0 ∨ j = 1 ∨ j = 2 ∨ j = 3 ∨ j = 4 ∨ j = 5 ∨ j = 6 by omega) with rfl | rfl | rfl | rfl | rfl | rfl | rfl <;> rfl) hP hD hS hA (Nat.le_of_ble_eq_true rfl) (Nat.le_of_ble_eq_true rfl) hl.1 (fun _ => Nat.le_of_ble_eq_true rfl) dL_law_8 dL_law_11 dL_law_12 (fun q w1 H locs hw hP hD hS => ?_)
  obtain ⟨ux, uc, d0, d1, gh, ga, em, gs, d2, d3, gv, gq, gk, rfl⟩ := hw
  obtain ⟨g0, rfl⟩ : ∃ z, z = q := ⟨_, rfl⟩
  refine lv_astore_n (lv' := [(2, .ref g0), (1, .ref h0), (0, .ref b)]) hx hb dL_law_15 rfl hl (by decide) rfl (fun ls hl => ?_)
  have hP : va_P D vwCl (xW cy h0 tx tc a0 a1 hh ha bm sl a2 a3 sv bq rk ++ xW cy g0 ux uc d0 d1 gh ga em gs d2 d3 gv gq gk) H := hP
  have hD : va_D (fun q => s.heap.size ≤ q) (xW cy h0 tx tc a0 a1 hh ha bm sl a2 a3 sv bq rk ++ xW cy g0 ux uc d0 d1 gh ga em gs d2 d3 gv gq gk) := hD
  have hid0 := all_ids (cy := cy) h0 tx tc a0 a1 hh ha bm sl a2 a3 sv bq rk
  have hid1 := all_ids (cy := cy) g0 ux uc d0 d1 gh ga em gs d2 d3 gv gq gk
  have s0 : adF (amF a0 a1 bm a2 a3) [h0, tx, tc, hh, ha, sl, sv, bq, rk] 360 = h0 := rfl
  have s1 : adF (amF d0 d1 em d2 d3) [g0, ux, uc, gh, ga, gs, gv, gq, gk] 360 = g0 := rfl
  rw [hid0, hid1] at hP hD
  clear hid0 hid1
  generalize adF (amF a0 a1 bm a2 a3) [h0, tx, tc, hh, ha, sl, sv, bq, rk] = ad0 at s0 hP hD
  generalize adF (amF d0 d1 em d2 d3) [g0, ux, uc, gh, ga, gs, gv, gq, gk] = ad1 at s1 hP hD
  obtain ⟨hP0, hP1⟩ := va_Pl hP
  obtain ⟨hD0, hD1, hE0, hE1, hne⟩ := va_Dl (B := baF ad0) (C := baF ad1) hD gW_at gW_at
  have hdj : ∀ q, baF ad0 q → ¬ baF ad1 q := fun q k0 k1 => by
    obtain ⟨i, x, i1, i2⟩ := at_gW (cy := cy) k0
    obtain ⟨j, y, j1, j2⟩ := at_gW (cy := cy) k1
    exact hne i j x y i1 j1 (i2.trans j2.symm)
  have hb0 : ∀ q, baF ad0 q → s.heap.size ≤ q := fun q k0 => by
    obtain ⟨i, x, i1, i2⟩ := at_gW (cy := cy) k0
    rw [← i2]
    exact hE0 i x i1
  have hb1 : ∀ q, baF ad1 q → s.heap.size ≤ q := fun q k0 => by
    obtain ⟨i, x, i1, i2⟩ := at_gW (cy := cy) k0
    rw [← i2]
    exact hE1 i x i1
  have ht0 : ∀ q, baF ad0 q → q < H.size := fun q k0 => by
    obtain ⟨i, x, i1, i2⟩ := at_gW (cy := cy) k0
    rw [← i2]
    exact (hP0 i x i1).lt
  have ht1 : ∀ q, baF ad1 q → q < H.size := fun q k0 => by
    obtain ⟨i, x, i1, i2⟩ := at_gW (cy := cy) k0
    rw [← i2]
    exact (hP1 i x i1).lt
  have hR0 : teR D cy ad0 (baF ad0) 0 S00 H := te_make (fun i hi => q_in ⟨i, hi⟩) hP0 hD0
  have hR1 : teR D cy ad1 (baF ad1) 0 S00 H := te_make (fun i hi => q_in ⟨i, hi⟩) hP1 hD1
  exact bL_law_16 (L := L) (xs := xs) (b := b) XL hl0 hdj (fun _ => ⟨hX, hbl⟩) (Nat.not_le.mpr hbl) hb0 hb1 zNew zNew H _ ls _ _ (Nat.le_of_ble_eq_true rfl) (Nat.le_of_ble_eq_true rfl) ⟨ht0, S00, AB_new, hR0⟩ ⟨ht1, S00, AB_new, hR1⟩ hS (by rw [s0, s1]; exact lv_sub hl [2, 1, 0] rfl) (P_law (by omega))
