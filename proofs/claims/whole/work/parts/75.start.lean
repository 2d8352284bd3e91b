/-! THE LAW, from its entry -/
theorem te_arrP {s : State} {A : Array Value} {ty : FieldType} (h : (Cond.arrayClass ty).before A s = true) (hty : ∀ (U : State) (cA : ClassId), U.vm.findClass ("[" ++ ty.toString) = some cA → va_RA U cA ty) : ∃ cA, ArrOfT s cA ty ∧ va_RA s cA ty := by
  obtain ⟨cA, kA, comp, h1, h2, h3⟩ := Cond.arrayClass_spec h
  exact ⟨cA, fun n z => ⟨fun k h => (by cases h), kA, h2, comp, h3⟩, hty s cA h1⟩
theorem te_arrO {s : State} {C : String} (h : va_AO C s) : ∃ cA, ArrOfT s cA (.object C) ∧ va_RA s cA (.object C) := by
  obtain ⟨comp, c, k, h1, h2, h3, h4, h5⟩ := Cond.arrayOver_spec h
  exact ⟨c, fun n z => ⟨fun k h => (by cases h), k, h3, comp, h4⟩, k, comp, h3, h4, h1, h5⟩
theorem te_str {s : State} {args : Array Value} {own tx : String} {k : Nat} (h1 : (Cond.stringRef own k tx).before args s = true) (h2 : (Cond.exactly (.string own k) "java/lang/String").before args s = true) : ∃ sa, vk_R own k tx sa s := by
  obtain ⟨a, c, cA, kA, q1, -⟩ := Cond.exactly_spec (args := args) (first := s) (o := none) (s := s) (idx := []) (t := .string own k) (cls := "java/lang/String") h2
  exact ⟨a, vk_R.of h1 q1⟩
section S75
variable {s : State} {b : Nat}
set_option maxRecDepth 20000 in
theorem te_tcN (hts : ∀ w ∈ lw_tbl, w.before #[Value.ref b] s = true) : tcN s :=
  ⟨va_AO.of (hts _ (List.mem_of_getElem? (i := 59) (by decide +kernel))), va_AO.of (hts _ (List.mem_of_getElem? (i := 122) (by decide +kernel))), va_Nw.of rfl (hts _ (List.mem_of_getElem? (i := 61) (by decide +kernel))), va_Nw.of rfl (hts _ (List.mem_of_getElem? (i := 39) (by decide +kernel))), va_Nw.of rfl (hts _ (List.mem_of_getElem? (i := 137) (by decide +kernel)))⟩
set_option maxRecDepth 20000 in
theorem te_cy (hts : ∀ w ∈ lw_tbl, w.before #[Value.ref b] s = true) : ∃ cy : Nat → ClassId, ∀ (k : Nat) (q : ClassId × FieldType), (teT cy)[k]? = some q → ArrOfT s q.1 q.2 ∧ va_RA s q.1 q.2 := by
  obtain ⟨c0, a0⟩ := te_arrP (ty := .int) (hts _ (List.mem_of_getElem? (i := 98) (by decide +kernel))) (fun _ _ h => h)
  obtain ⟨c1, a1⟩ := te_arrP (ty := .char) (hts _ (List.mem_of_getElem? (i := 51) (by decide +kernel))) (fun _ _ h => h)
  obtain ⟨c2, a2⟩ := te_arrP (ty := .boolean) (hts _ (List.mem_of_getElem? (i := 145) (by decide +kernel))) (fun _ _ h => h)
  obtain ⟨c3, a3⟩ := te_arrP (ty := .long) (hts _ (List.mem_of_getElem? (i := 1048) (by decide +kernel))) (fun _ _ h => h)
  have hN := te_tcN hts
  obtain ⟨c4, a4⟩ := te_arrO hN.2.1
  obtain ⟨c5, a5⟩ := te_arrO hN.1
  refine ⟨fun k => match k with | 0 => c0 | 1 => c1 | 2 => c2 | 3 => c3 | 4 => c4 | _ => c5, fun k q hq => ?_⟩
  match k, hq with
  | 0, hq => cases hq; exact a0
  | 1, hq => cases hq; exact a1
  | 2, hq => cases hq; exact a2
  | 3, hq => cases hq; exact a3
  | 4, hq => cases hq; exact a4
  | 5, hq => cases hq; exact a5
  | k + 6, hq => exact absurd (List.getElem?_eq_some_iff.mp hq).1 (by show ¬ k + 6 < 6; omega)
set_option maxRecDepth 20000 in
theorem te_tx (hts : ∀ w ∈ lw_tbl, w.before #[Value.ref b] s = true) (hgv : (Jvm.Cond.and given_1 narrow_1).before #[Value.ref b] s = true) : ∀ q ∈ teX, ∃ sa, vk_R "TandemExchange" q.1 q.2 sa s := by
  have hg := flat_of_before _ hgv
  intro q hq
  have x0 : ∃ sa, vk_R "TandemExchange" 58 "the text is full" sa s := te_str (hts _ (List.mem_of_getElem? (i := 361) (by decide +kernel))) (hg _ (List.mem_of_getElem? (i := 90) (by decide +kernel)))
  have x1 : ∃ sa, vk_R "TandemExchange" 71 "the text is not as described" sa s := te_str (hts _ (List.mem_of_getElem? (i := 379) (by decide +kernel))) (hg _ (List.mem_of_getElem? (i := 111) (by decide +kernel)))
  have x2 : ∃ sa, vk_R "TandemExchange" 103 "what is not 0 to 6" sa s := te_str (hts _ (List.mem_of_getElem? (i := 443) (by decide +kernel))) (hg _ (List.mem_of_getElem? (i := 145) (by decide +kernel)))
  have x3 : ∃ sa, vk_R "TandemExchange" 131 "what is not 0 to 3" sa s := te_str (hts _ (List.mem_of_getElem? (i := 493) (by decide +kernel))) (hg _ (List.mem_of_getElem? (i := 234) (by decide +kernel)))
  have x4 : ∃ sa, vk_R "TandemExchange" 136 "the circle is full" sa s := te_str (hts _ (List.mem_of_getElem? (i := 504) (by decide +kernel))) (hg _ (List.mem_of_getElem? (i := 262) (by decide +kernel)))
  have x5 : ∃ sa, vk_R "TandemExchange" 171 "one of them has a partner, or they do not fit" sa s := te_str (hts _ (List.mem_of_getElem? (i := 555) (by decide +kernel))) (hg _ (List.mem_of_getElem? (i := 291) (by decide +kernel)))
  have x6 : ∃ sa, vk_R "TandemExchange" 198 "no state is remembered" sa s := te_str (hts _ (List.mem_of_getElem? (i := 633) (by decide +kernel))) (hg _ (List.mem_of_getElem? (i := 386) (by decide +kernel)))
  have x7 : ∃ sa, vk_R "TandemExchange" 203 "i is negative" sa s := te_str (hts _ (List.mem_of_getElem? (i := 645) (by decide +kernel))) (hg _ (List.mem_of_getElem? (i := 422) (by decide +kernel)))
  have x8 : ∃ sa, vk_R "TandemExchange" 236 "the script is negative or too long" sa s := te_str (hts _ (List.mem_of_getElem? (i := 712) (by decide +kernel))) (hg _ (List.mem_of_getElem? (i := 450) (by decide +kernel)))
  have x9 : ∃ sa, vk_R "TandemExchange" 250 "nothing has been saved in the slot" sa s := te_str (hts _ (List.mem_of_getElem? (i := 744) (by decide +kernel))) (hg _ (List.mem_of_getElem? (i := 543) (by decide +kernel)))
  have x10 : ∃ sa, vk_R "TandemExchange" 257 "there is no such member" sa s := te_str (hts _ (List.mem_of_getElem? (i := 466) (by decide +kernel))) (hg _ (List.mem_of_getElem? (i := 170) (by decide +kernel)))
  have x11 : ∃ sa, vk_R "TandemExchange" 260 "the members are the same" sa s := te_str (hts _ (List.mem_of_getElem? (i := 488) (by decide +kernel))) (hg _ (List.mem_of_getElem? (i := 201) (by decide +kernel)))
  have x12 : ∃ sa, vk_R "TandemExchange" 262 "the member has no partner" sa s := te_str (hts _ (List.mem_of_getElem? (i := 569) (by decide +kernel))) (hg _ (List.mem_of_getElem? (i := 348) (by decide +kernel)))
  have x13 : ∃ sa, vk_R "TandemExchange" 264 "an argument is out of its range" sa s := te_str (hts _ (List.mem_of_getElem? (i := 325) (by decide +kernel))) (hg _ (List.mem_of_getElem? (i := 55) (by decide +kernel)))
  have x14 : ∃ sa, vk_R "TandemExchange" 266 "there is no such save slot" sa s := te_str (hts _ (List.mem_of_getElem? (i := 736) (by decide +kernel))) (hg _ (List.mem_of_getElem? (i := 500) (by decide +kernel)))
  simp only [teX, List.mem_cons, List.not_mem_nil, or_false] at hq
  rcases hq with rfl | rfl | rfl | rfl | rfl | rfl | rfl | rfl | rfl | rfl | rfl | rfl | rfl | rfl | rfl
  · exact x0
  · exact x1
  · exact x2
  · exact x3
  · exact x4
  · exact x5
  · exact x6
  · exact x7
  · exact x8
  · exact x9
  · exact x10
  · exact x11
  · exact x12
  · exact x13
  · exact x14
set_option maxRecDepth 20000 in
theorem te_F (hts : ∀ w ∈ lw_tbl, w.before #[Value.ref b] s = true) (hgv : (Jvm.Cond.and given_1 narrow_1).before #[Value.ref b] s = true) : teF s.heap.size s s.heap := by
  have hg := flat_of_before _ hgv
  have hA : ∀ a : Nat, a < s.heap.size → ¬ teA s.heap.size a := fun a h => Nat.not_le.mpr h
  refine ⟨vx_Zqof (hts _ (List.mem_of_getElem? (i := 311) (by decide +kernel))) (hts _ (List.mem_of_getElem? (i := 21) (by decide +kernel))) (hg _ (List.mem_of_getElem? (i := 4) (by decide +kernel))) hA, vx_Zqof (hts _ (List.mem_of_getElem? (i := 313) (by decide +kernel))) (hts _ (List.mem_of_getElem? (i := 21) (by decide +kernel))) (hg _ (List.mem_of_getElem? (i := 5) (by decide +kernel))) hA, ⟨va_Nw.of rfl (hts _ (List.mem_of_getElem? (i := 286) (by decide +kernel))), va_Nw.of rfl (hts _ (List.mem_of_getElem? (i := 354) (by decide +kernel))), va_Nw.of rfl (hts _ (List.mem_of_getElem? (i := 459) (by decide +kernel))), ?_, ?_⟩, te_tx hts hgv, Nat.le_refl _⟩
  · intro i j h1 h2 h3 h4 h5
    rcases (show (i = 1 ∧ j = 2) ∨ (i = 1 ∧ j = 3) ∨ (i = 2 ∧ j = 1) ∨ (i = 2 ∧ j = 3) ∨ (i = 3 ∧ j = 1) ∨ (i = 3 ∧ j = 2) by omega) with ⟨rfl, rfl⟩ | ⟨rfl, rfl⟩ | ⟨rfl, rfl⟩ | ⟨rfl, rfl⟩ | ⟨rfl, rfl⟩ | ⟨rfl, rfl⟩
    · exact va_Nc.of (args := #[Value.ref b]) (C := "java/lang/IllegalArgumentException") (T := "java/lang/IllegalStateException") (hg _ (List.mem_of_getElem? (i := 22) (by decide +kernel)))
    · exact va_Nc.of (args := #[Value.ref b]) (C := "java/lang/IllegalArgumentException") (T := "java/lang/IndexOutOfBoundsException") (hg _ (List.mem_of_getElem? (i := 31) (by decide +kernel)))
    · exact va_Nc.of (args := #[Value.ref b]) (C := "java/lang/IllegalStateException") (T := "java/lang/IllegalArgumentException") (hg _ (List.mem_of_getElem? (i := 13) (by decide +kernel)))
    · exact va_Nc.of (args := #[Value.ref b]) (C := "java/lang/IllegalStateException") (T := "java/lang/IndexOutOfBoundsException") (hg _ (List.mem_of_getElem? (i := 32) (by decide +kernel)))
    · exact va_Nc.of (args := #[Value.ref b]) (C := "java/lang/IndexOutOfBoundsException") (T := "java/lang/IllegalArgumentException") (hg _ (List.mem_of_getElem? (i := 14) (by decide +kernel)))
    · exact va_Nc.of (args := #[Value.ref b]) (C := "java/lang/IndexOutOfBoundsException") (T := "java/lang/IllegalStateException") (hg _ (List.mem_of_getElem? (i := 23) (by decide +kernel)))
  · intro Y hY
    simp only [List.mem_cons, List.not_mem_nil, or_false] at hY
    rcases hY with rfl | rfl | rfl
    · exact va_Nw.of rfl (hts _ (List.mem_of_getElem? (i := 288) (by decide +kernel)))
    · exact va_Nw.of rfl (hts _ (List.mem_of_getElem? (i := 290) (by decide +kernel)))
    · exact va_Nw.of rfl (hts _ (List.mem_of_getElem? (i := 292) (by decide +kernel)))
set_option maxRecDepth 20000 in
theorem te_D (hts : ∀ w ∈ lw_tbl, w.before #[Value.ref b] s = true) : ∃ D : va_G, ∀ (k : Nat) (q : vw_C), vwCl[k]? = some q → u_Kn s q.1 q.2.1 q.2.2 (D.1 k) (D.2 k) := by
  obtain ⟨c0, i0, h0⟩ := u_known (C := RX0) (T := TX0) (N := 1) (n := 1) hts inX0 (hts _ (List.mem_of_getElem? (i := 136) (by decide +kernel)))
  obtain ⟨c1, i1, h1⟩ := u_known (C := RX1) (T := TX1) (N := 3) (n := 3) hts inX1 (hts _ (List.mem_of_getElem? (i := 53) (by decide +kernel)))
  obtain ⟨c2, i2, h2⟩ := u_known (C := RX2) (T := TX2) (N := 3) (n := 3) hts inX2 (hts _ (List.mem_of_getElem? (i := 116) (by decide +kernel)))
  obtain ⟨c3, i3, h3⟩ := u_known (C := RX3) (T := TX3) (N := 7) (n := 7) hts inX3 (hts _ (List.mem_of_getElem? (i := 60) (by decide +kernel)))
  obtain ⟨c4, i4, h4⟩ := u_known (C := RX4) (T := TX4) (N := 2) (n := 2) hts inX4 (hts _ (List.mem_of_getElem? (i := 38) (by decide +kernel)))
  obtain ⟨c5, i5, h5⟩ := u_known (C := RX5) (T := TX5) (N := 7) (n := 7) hts inX5 (hts _ (List.mem_of_getElem? (i := 30) (by decide +kernel)))
  obtain ⟨c6, i6, h6⟩ := u_known (C := RX6) (T := TX6) (N := 13) (n := 13) hts inX6 (hts _ (List.mem_of_getElem? (i := 746) (by decide +kernel)))
  refine ⟨(fun k => match k with | 0 => c0 | 1 => c1 | 2 => c2 | 3 => c3 | 4 => c4 | 5 => c5 | _ => c6, fun k => match k with | 0 => i0 | 1 => i1 | 2 => i2 | 3 => i3 | 4 => i4 | 5 => i5 | _ => i6), fun k q hq => ?_⟩
  match k, hq with
  | 0, hq => cases hq; exact h0
  | 1, hq => cases hq; exact h1
  | 2, hq => cases hq; exact h2
  | 3, hq => cases hq; exact h3
  | 4, hq => cases hq; exact h4
  | 5, hq => cases hq; exact h5
  | 6, hq => cases hq; exact h6
  | k + 7, hq => exact absurd (List.getElem?_eq_some_iff.mp hq).1 (by show ¬ k + 7 < 7; omega)
end S75
set_option maxRecDepth 20000 in
set_option maxHeartbeats 4000000 in
/-- from the entry, for every script of at most 2560 ints, the law comes to its end with true -/
theorem whole_start {p : Program} {e : Env} {s : State} {m : MethodId} {below : List Frame} {meth : Method} {c : Code} (l : Launch) (hflags : l.flags = flags0) {b L : Nat} {xs : Nat → Int32} (hL : L ≤ 2560) (C0 : lw_At p s m meth c b L xs) : W p l e room_1 s m #[Value.ref b] below meth c s.heap [] 0 0 (lw_Z below #[Value.ref b] s) (entryFrame m ([Value.ref b] : List Value).toArray 7) := by
  obtain ⟨hx, hb, hr, hml, hown, hts, hX, hbl, hlocks, hgv⟩ := id C0
  have hl0 : l.stackTraces = false := by unfold Launch.stackTraces; rw [hflags]; decide
  obtain ⟨cy, hcy⟩ := te_cy hts
  obtain ⟨D, hDk⟩ := te_D hts
  have hK : va_K D vwCl (teT cy) s := ⟨hDk, hcy⟩
  have hF := te_F hts hgv
  have hts2 : ∀ w ∈ wsL_law, w.before #[Value.ref b] s = true := fun w h => hts w (wsL_law_in w h)
  have XL : teC wsL_law RL cL_law 7 ret D cy s.heap.size p s m #[Value.ref b] meth c := ⟨hx, hb, hml, hr, hown, hts2, hlocks, hK, hF⟩
  have X : tcY D cy RL cL_law 7 wsL_law p s m #[Value.ref b] c := ⟨hx, hb, hml, hown, hts2, hK, te_tcN hts⟩
  have hA : ∀ q : Nat, s.heap.size ≤ q → teA s.heap.size q := fun _ h => h
  have hS : va_S (teA s.heap.size) s.heap s.heap [] := va_S.rf
  have hP : va_P D vwCl [] s.heap := fun k q h => by simp at h
  have hD : va_D (teA s.heap.size) [] := ⟨fun i j p q h => by simp at h, fun k q h => by simp at h⟩
  have hl := lv_entry ([.ref b]) (n := 7) (Nat.le_of_ble_eq_true rfl)
  rw [lg_entry_eq]
  generalize (lg_sl ([.ref b]) ++ List.replicate (7 - (lg_sl ([.ref b])).length) Slot.unset).toArray = ls at hl ⊢
  have hl : lv_has ls 7 [(0, .ref b)] := hl
  refine tc_mkL (C := RX5) (ci := 5) (N := 7) (T := TX5) (ix1 := 8) (ix2 := 95) (fs := [.null, .null, .null, .null, .null, .null, .null]) (y := yX5_init) (bytes := cX5_init) (maxL := 2) (ws := wsX5_init) (rm := { frames := 4, cells := 368, slots := 2624, locals := 74 }) (mc := 368) (ms := 2624) (post := fun q w => ∃ (tx tc : Nat) (a0 a1 : Nat → Nat) (hh ha : Nat) (bm : Nat → Nat → Nat) (sl : Nat) (a2 a3 : Nat → Nat) (sv bq rk : Nat), w = xW cy q tx tc a0 a1 hh ha bm sl a2 a3 sv bq rk) X (fun q => c5_new l D cy q) (cwI 0 X.2.2.2.2.1 gL_law_X5_init rfl rfl rfl (X.2.2.2.2.1 _ (List.mem_of_getElem? (i := 2) rfl)) (X.2.2.2.2.1 _ (List.mem_of_getElem? (i := 8) rfl)) (X.2.2.2.2.1 _ (List.mem_of_getElem? (i := 9) rfl)) rfl (by decide +kernel) ⟨Nat.le_of_ble_eq_true rfl, Nat.le_of_ble_eq_true rfl⟩) inlX5 tyX5 tyX5_ok (List.mem_of_getElem? (i := 0) rfl) (List.mem_of_getElem? (i := 1) rfl) (List.mem_of_getElem? (i := 2) rfl) rfl (fun j hj => by rcases (show j = 0 ∨ j = 1 ∨ j = 2 ∨ j = 3 ∨ j = 4 ∨ j = 5 ∨ j = 6 by omega) with rfl | rfl | rfl | rfl | rfl | rfl | rfl <;> rfl) hP hD hS hA (Nat.le_of_ble_eq_true rfl) (Nat.le_of_ble_eq_true rfl) hl.1 (fun _ => Nat.le_of_ble_eq_true rfl) dL_law_0 dL_law_3 dL_law_4 (fun q w1 H locs hw hP hD hS => ?_)
  obtain ⟨tx, tc, a0, a1, hh, ha, bm, sl, a2, a3, sv, bq, rk, rfl⟩ := hw
  obtain ⟨h0, rfl⟩ : ∃ z, z = q := ⟨_, rfl⟩
  refine lv_astore_n (lv' := [(1, .ref h0), (0, .ref b)]) hx hb dL_law_7 rfl hl (by decide) rfl (fun ls hl => ?_)
  refine tc_mkL (C := RX6) (ci := 6) (N := 13) (T := TX6) (ix1 := 96) (ix2 := 98) (fs := [.int 0, .null, .int 0, .int 0, .null, .null, .null, .null, .int 0, .null, .null, .null, .null]) (y := yX6_init) (bytes := cX6_init) (maxL := 1) (ws := wsX6_init) (rm := { frames := 1, cells := 9, slots := 2864, locals := 12 }) (mc := 9) (ms := 2864) (post := fun q w => ∃ r0 r1 r2 r3 r4 r5 r6 r7 r8 : Nat, w = rV cy q r0 r1 r2 r3 r4 r5 r6 r7 r8) X (fun q => c6_new l D cy q) (cwI 0 X.2.2.2.2.1 gL_law_X6_init rfl rfl rfl (X.2.2.2.2.1 _ (List.mem_of_getElem? (i := 5) rfl)) (X.2.2.2.2.1 _ (List.mem_of_getElem? (i := 63) rfl)) (X.2.2.2.2.1 _ (List.mem_of_getElem? (i := 64) rfl)) rfl (by decide +kernel) ⟨Nat.le_of_ble_eq_true rfl, Nat.le_of_ble_eq_true rfl⟩) inlX6 tyX6 tyX6_ok (List.mem_of_getElem? (i := 3) rfl) (List.mem_of_getElem? (i := 4) rfl) (List.mem_of_getElem? (i := 5) rfl) rfl (fun j hj => by rcases (show j = 0 ∨ j = 1 ∨ j = 2 ∨ j = 3 ∨ j = 4 ∨ j = 5 ∨ j = 6 ∨ j = 7 ∨ j = 8 ∨ j = 9 ∨ j = 10 ∨ j = 11 ∨ j = 12 by omega) with rfl | rfl | rfl | rfl | rfl | rfl | rfl | rfl | rfl | rfl | rfl | rfl | rfl <;> rfl) hP hD hS hA (Nat.le_of_ble_eq_true rfl) (Nat.le_of_ble_eq_true rfl) hl.1 (fun _ => Nat.le_of_ble_eq_true rfl) dL_law_8 dL_law_11 dL_law_12 (fun q w1 H locs hw hP hD hS => ?_)
  obtain ⟨q0, q1, q2, q3, q4, q5, q6, q7, q8, rfl⟩ := hw
  obtain ⟨r0, rfl⟩ : ∃ z, z = q := ⟨_, rfl⟩
  refine lv_astore_n (lv' := [(2, .ref r0), (1, .ref h0), (0, .ref b)]) hx hb dL_law_15 rfl hl (by decide) rfl (fun ls hl => ?_)
  refine lv_iconst (v := 1) hx hb dL_law_16 (by decide) ?_
  refine tc_newaL (atype := .long) (k := 3) (N' := 1) (a0 := (1, .inr (.inl fun _ => 0))) X (List.mem_of_getElem? (i := 6) rfl) rfl hP hD hS hA (fun cA => rfl) (by decide) rfl (Nat.le_of_ble_eq_true rfl) (Nat.le_of_ble_eq_true rfl) (Nat.le_of_ble_eq_true rfl) dL_law_17 (fun ar H hP hD hS => ?_)
  refine lv_astore_n (lv' := [(3, .ref ar), (2, .ref r0), (1, .ref h0), (0, .ref b)]) hx hb dL_law_19 rfl hl (by decide) rfl (fun ls hl => ?_)
  refine lv_iconst (v := 0) hx hb dL_law_20 (by decide) ?_
  refine lv_istore (lv' := [(4, .int 0), (3, .ref ar), (2, .ref r0), (1, .ref h0), (0, .ref b)]) hx hb dL_law_21 hl (by decide) rfl (fun ls hl => ?_)
  have hids := all_ids (cy := cy) h0 tx tc a0 a1 hh ha bm sl a2 a3 sv bq rk r0 q0 q1 q2 q3 q4 q5 q6 q7 q8 ar
  have s360 : adF (amF a0 a1 bm a2 a3) [h0, tx, tc, hh, ha, sl, sv, bq, rk, r0, q0, q1, q2, q3, q4, q5, q6, q7, q8, ar] 360 = h0 := rfl
  have s369 : adF (amF a0 a1 bm a2 a3) [h0, tx, tc, hh, ha, sl, sv, bq, rk, r0, q0, q1, q2, q3, q4, q5, q6, q7, q8, ar] 369 = r0 := rfl
  have s379 : adF (amF a0 a1 bm a2 a3) [h0, tx, tc, hh, ha, sl, sv, bq, rk, r0, q0, q1, q2, q3, q4, q5, q6, q7, q8, ar] 379 = ar := rfl
  generalize adF (amF a0 a1 bm a2 a3) [h0, tx, tc, hh, ha, sl, sv, bq, rk, r0, q0, q1, q2, q3, q4, q5, q6, q7, q8, ar] = ad at *
  have hP : va_P D vwCl ((xW cy h0 tx tc a0 a1 hh ha bm sl a2 a3 sv bq rk ++ rV cy r0 q0 q1 q2 q3 q4 q5 q6 q7 q8) ++ [(ar, .inl (cy 3, 1, .inr (.inl fun _ => 0)))]) H := hP
  have hD : va_D (teA s.heap.size) ((xW cy h0 tx tc a0 a1 hh ha bm sl a2 a3 sv bq rk ++ rV cy r0 q0 q1 q2 q3 q4 q5 q6 q7 q8) ++ [(ar, .inl (cy 3, 1, .inr (.inl fun _ => 0)))]) := hD
  rw [hids] at hP hD
  have hR : teR D cy ad s.heap.size 0 S00 H := te_make (fun i hi => q_in ⟨i, hi⟩) hP hD hS.1 q_nd
  exact bL_law_23 (S := S00) (nn := 0) (ad := ad) XL hl0 hX hbl (Nat.not_le.mpr hbl) (Nat.le_refl _) 2000 S00 0 0 H _ ls _ _ (Nat.le_of_ble_eq_true rfl) (Nat.le_of_ble_eq_true rfl) hR hS (by rw [s360, s369, s379]; exact lv_sub hl [4, 3, 2, 1, 0] rfl) (law_all xs hL 0)
