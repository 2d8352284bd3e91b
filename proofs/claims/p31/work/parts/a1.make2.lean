/-! THE CONSTRUCTORS of what holds one row, of a circle, of the history -/
theorem c3_new (l : Launch) (D : va_G) (cy : Nat → ClassId) (h0 : Nat) : tcM l D cy yX3_init wsX3_init { frames := 1, cells := 1, slots := 4, locals := 12 } h0 (.inr (3, [.null, .int 0, .int 0, .int 0, .int 0, .int 0, .int 0])) (fun w => ∃ q, w = [(h0, .inr (3, [.ref q, .int 0, .int 0, .int 0, .int 0, .int 0, .int 0])), (q, .inl (cy 0, 4, .inl fun _ => 0))]) 1 4 := by
  refine tc_of (i1 := 3) (by decide) rfl rfl (List.mem_of_getElem? (i := 1) rfl) (List.mem_of_getElem? (i := 2) rfl) (List.mem_of_getElem? (i := 3) rfl) dX3_init_0 dX3_init_1 (by decide) ⟨by decide, by decide⟩ ?_
  intro p e s m args below meth c ls A X hP hD hA hl
  have hS : va_S A s.heap s.heap [] := va_S.rf
  refine lv_aload_n X.1 X.2.1 dX3_init_4 rfl (lv_at hl 0 rfl) ?_
  refine lv_iconst (v := 4) X.1 X.2.1 dX3_init_5 (by decide) ?_
  refine tc_newa (atype := .int) (k := 0) (N' := 4) (a0 := (4, .inl fun _ => 0)) X (List.mem_of_getElem? (i := 4) rfl) rfl hP hD hS hA (fun cA => rfl) (by decide) rfl (by decide) (by decide) (by decide) dX3_init_6 (fun q H hP hD hS => ?_)
  refine tc_put (k := 0) (ci := 3) (N := 7) (T := TX3) (ty := tyX3 0) X rfl (fun w h => List.mem_cons_of_mem _ (List.mem_append_right _ h)) tyX3 tyX3_ok nmX3 hP hD hS (by decide) (List.mem_of_getElem? (i := 5) rfl) rfl rfl (tyX3_ok 0 (by decide)) rfl rfl (by decide) dX3_init_8 (fun H locs hP hD hS => ?_)
  exact tc_ret X hP hD hS ⟨q, rfl⟩ dX3_init_11
theorem c4_new (l : Launch) (D : va_G) (cy : Nat → ClassId) (h0 : Nat) : tcM l D cy yX4_init wsX4_init { frames := 1, cells := 1, slots := 90, locals := 12 } h0 (.inr (4, [.null, .int 0])) (fun w => ∃ q, w = [(h0, .inr (4, [.ref q, .int 0])), (q, .inl (cy 1, 90, .inl fun _ => 0))]) 1 90 := by
  refine tc_of (i1 := 3) (by decide) rfl rfl (List.mem_of_getElem? (i := 1) rfl) (List.mem_of_getElem? (i := 2) rfl) (List.mem_of_getElem? (i := 3) rfl) dX4_init_0 dX4_init_1 (by decide) ⟨by decide, by decide⟩ ?_
  intro p e s m args below meth c ls A X hP hD hA hl
  have hS : va_S A s.heap s.heap [] := va_S.rf
  refine lv_aload_n X.1 X.2.1 dX4_init_4 rfl (lv_at hl 0 rfl) ?_
  refine lv_bipush (v := 90) X.1 X.2.1 dX4_init_5 (by decide) ?_
  refine tc_newa (atype := .char) (k := 1) (N' := 90) (a0 := (90, .inl fun _ => 0)) X (List.mem_of_getElem? (i := 4) rfl) rfl hP hD hS hA (fun cA => rfl) (by decide) rfl (by decide) (by decide) (by decide) dX4_init_7 (fun q H hP hD hS => ?_)
  refine tc_put (k := 0) (ci := 4) (N := 2) (T := TX4) (ty := tyX4 0) X rfl (fun w h => List.mem_cons_of_mem _ (List.mem_append_right _ h)) tyX4 tyX4_ok nmX4 hP hD hS (by decide) (List.mem_of_getElem? (i := 5) rfl) rfl rfl (tyX4_ok 0 (by decide)) rfl rfl (by decide) dX4_init_9 (fun H locs hP hD hS => ?_)
  exact tc_ret X hP hD hS ⟨q, rfl⟩ dX4_init_12
theorem c0_new (l : Launch) (D : va_G) (cy : Nat → ClassId) (h0 : Nat) : tcM l D cy yX0_init wsX0_init { frames := 1, cells := 1, slots := 512, locals := 12 } h0 (.inr (0, [.null])) (fun w => ∃ q, w = [(h0, .inr (0, [.ref q])), (q, .inl (cy 0, 512, .inl fun _ => 0))]) 1 512 := by
  refine tc_of (i1 := 3) (by decide) rfl rfl (List.mem_of_getElem? (i := 1) rfl) (List.mem_of_getElem? (i := 2) rfl) (List.mem_of_getElem? (i := 3) rfl) dX0_init_0 dX0_init_1 (by decide) ⟨by decide, by decide⟩ ?_
  intro p e s m args below meth c ls A X hP hD hA hl
  have hS : va_S A s.heap s.heap [] := va_S.rf
  refine lv_aload_n X.1 X.2.1 dX0_init_4 rfl (lv_at hl 0 rfl) ?_
  refine lv_sipush (v := 512) X.1 X.2.1 dX0_init_5 (by decide) ?_
  refine tc_newa (atype := .int) (k := 0) (N' := 512) (a0 := (512, .inl fun _ => 0)) X (List.mem_of_getElem? (i := 4) rfl) rfl hP hD hS hA (fun cA => rfl) (by decide) rfl (Nat.le_of_ble_eq_true rfl) (Nat.le_of_ble_eq_true rfl) (Nat.le_of_ble_eq_true rfl) dX0_init_8 (fun q H hP hD hS => ?_)
  refine tc_put (k := 0) (ci := 0) (N := 1) (T := TX0) (ty := tyX0 0) X rfl (fun w h => List.mem_cons_of_mem _ (List.mem_append_right _ h)) tyX0 tyX0_ok nmX0 hP hD hS (by decide) (List.mem_of_getElem? (i := 5) rfl) rfl rfl (tyX0_ok 0 (by decide)) rfl rfl (by decide) dX0_init_10 (fun H locs hP hD hS => ?_)
  exact tc_ret X hP hD hS ⟨q, rfl⟩ dX0_init_13
/-- the cells of i members -/
def mE (am : Nat → Nat) (j : Nat) : va_E := .inr (3, [.ref (am (11 + j)), .int 0, .int 0, .int 0, .int 0, .int 0, .int 0])
def mW (cy : Nat → ClassId) (am : Nat → Nat) : Nat → va_W
  | 0 => []
  | i + 1 => mW cy am i ++ [(am (2 + i), mE am i), (am (11 + i), .inl (cy 0, 4, .inl fun _ => 0))]
def mA (am : Nat → Nat) (i : Nat) : Nat → Option Nat := fun x => if x < i then some (am (2 + x)) else none
/-- a circle of which i members are made -/
def tcV (cy : Nat → ClassId) (am : Nat → Nat) (i : Nat) : va_W := (am 0, .inr (1, [.ref (am 1), .int 0, .int 0])) :: (am 1, .inl (cy 5, 9, .inr (.inr (.inr (.inr (mA am i)))))) :: mW cy am i
theorem mW_cong (cy : Nat → ClassId) {am bm : Nat → Nat} : ∀ i, i ≤ 9 → (∀ j, j < i → bm (2 + j) = am (2 + j) ∧ bm (11 + j) = am (11 + j)) → mW cy bm i = mW cy am i
  | 0, _, _ => rfl
  | i + 1, h9, h => by
    show mW cy bm i ++ [(bm (2 + i), mE bm i), (bm (11 + i), _)] = mW cy am i ++ [(am (2 + i), mE am i), (am (11 + i), _)]
    rw [mW_cong cy i (by omega) (fun j hj => h j (by omega)), (h i (by omega)).1, (h i (by omega)).2]
    unfold mE
    rw [(h i (by omega)).2]
theorem tcV_next (cy : Nat → ClassId) (am : Nat → Nat) {i : Nat} (hi : i < 9) (q lv : Nat) : ∃ bm : Nat → Nat, bm 0 = am 0 ∧ bm 1 = am 1 ∧ tcV cy bm (i + 1) = (am 0, .inr (1, [.ref (am 1), .int 0, .int 0])) :: (am 1, .inl (cy 5, 9, .inr (.inr (.inr (.inr (va_up (mA am i) i (some q))))))) :: (mW cy am i ++ (q, .inr (3, [.ref lv, .int 0, .int 0, .int 0, .int 0, .int 0, .int 0])) :: [(lv, .inl (cy 0, 4, .inl fun _ => 0))]) := by
  obtain ⟨bm, hbm⟩ : ∃ bm : Nat → Nat, bm = fun x => if x = 2 + i then q else if x = 11 + i then lv else am x := ⟨_, rfl⟩
  have bx : ∀ x, bm x = if x = 2 + i then q else if x = 11 + i then lv else am x := fun x => by rw [hbm]
  have b0 : bm 0 = am 0 := by rw [bx, if_neg (by omega), if_neg (by omega)]
  have b1 : bm 1 = am 1 := by rw [bx, if_neg (by omega), if_neg (by omega)]
  have bq : bm (2 + i) = q := by rw [bx, if_pos rfl]
  have bl : bm (11 + i) = lv := by rw [bx, if_neg (by omega), if_pos rfl]
  have bo : ∀ j, j < i → bm (2 + j) = am (2 + j) ∧ bm (11 + j) = am (11 + j) := fun j hj => by
    constructor
    · rw [bx, if_neg (by omega), if_neg (by omega)]
    · rw [bx, if_neg (by omega), if_neg (by omega)]
  have hA : mA bm (i + 1) = va_up (mA am i) i (some q) := by
    funext x
    unfold mA va_up
    by_cases hx : x = i
    · rw [if_pos hx, if_pos (by omega), hx, bq]
    · rw [if_neg hx]
      show (if x < i + 1 then some (bm (2 + x)) else none) = (if x < i then some (am (2 + x)) else none)
      by_cases hx2 : x < i
      · rw [if_pos hx2, if_pos (by omega), (bo x hx2).1]
      · rw [if_neg hx2, if_neg (by omega)]
  refine ⟨bm, b0, b1, ?_⟩
  unfold tcV
  rw [b0, b1, hA]
  show _ :: _ :: (mW cy bm i ++ [(bm (2 + i), mE bm i), (bm (11 + i), _)]) = _
  rw [mW_cong cy i (by omega) bo, bq, bl]
  unfold mE
  rw [bl]
section C71
variable {l : Launch} {D : va_G} {cy : Nat → ClassId}
theorem c1_loop {p : Program} {e : Env} {s : State} {m : MethodId} {args : Array Value} {below : List Frame} {meth : Method} {c : Code} {A : Nat → Prop} {h0 : Nat} (X : tcX D cy yX1_init.cls cX1_init 2 wsX1_init p s m args meth c) (hA : ∀ q : Nat, s.heap.size ≤ q → A q) : ∀ (d i : Nat) (am : Nat → Nat) (H : Heap) (locs : List Loc) (ls : Array Slot), i + d = 9 → am 0 = h0 → va_P D vwCl (tcV cy am i) H → va_D A (tcV cy am i) → va_S A s.heap H locs → lv_has ls 2 [(0, .ref h0), (1, .int (nI i))] →
    W p l e { frames := 2, cells := 19, slots := 108, locals := 32 } s m args below meth c H locs (1 + 2 * i) (9 + 11 * i) (MQ below (va_Qv (fun w => ∃ am : Nat → Nat, am 0 = h0 ∧ w = tcV cy am 9) (fun (w : va_W) t => va_P D vwCl w t.heap ∧ va_D A w) A) args s 19 108 A) (F0 m 15 ls [])
  | 0, i, am, H, locs, ls, hi, h00, hP, hD, hS, hl => by
    obtain rfl : i = 9 := by omega
    refine lv_iload_n X.1 X.2.1 dX1_init_15 rfl (lv_at hl 1 rfl) ?_
    refine lv_bipush (v := 9) X.1 X.2.1 dX1_init_16 (by decide) ?_
    refine lv_icmp_ge (tgt := 40) X.1 X.2.1 dX1_init_18 (by decide) (fun _ => ?_) (fun h => absurd h (by decide))
    exact tc_ret X hP hD hS ⟨am, h00, rfl⟩ dX1_init_40
  | d + 1, i, am, H, locs, ls, hi, h00, hP, hD, hS, hl => by
    have hi9 : i < 9 := by omega
    refine lv_iload_n X.1 X.2.1 dX1_init_15 rfl (lv_at hl 1 rfl) ?_
    refine lv_bipush (v := 9) X.1 X.2.1 dX1_init_16 (by decide) ?_
    refine lv_icmp_ge (tgt := 40) X.1 X.2.1 dX1_init_18 (by decide) (fun h => absurd h (by rw [show (9 : Int32) = nI 9 from rfl, nn_le (by omega) (by omega)]; omega)) (fun _ => ?_)
    refine lv_aload_n X.1 X.2.1 dX1_init_21 rfl (lv_at hl 0 rfl) ?_
    subst h00
    refine va_get (D := D) (ci := 1) (v := .ref (am 1)) (C := RX1) (T := TX1) (N := 3) X.1 X.2.1 X.2.2.2.2.1 (fun w h => List.mem_cons_of_mem _ (List.mem_append_left _ (List.mem_append_right _ h))) X.2.2.2.1 X.2.2.2.2.2.2.2.2.1 hP 0 rfl rfl 0 (by decide) (X.2.2.2.2.1 _ (List.mem_of_getElem? (i := 5) rfl)) (fun _ h9 => h9) rfl dX1_init_22 ?_
    refine lv_iload_n X.1 X.2.1 dX1_init_25 rfl (lv_at hl 1 rfl) ?_
    refine tc_mkN (C := RX3) (host := RX5) (ci := 3) (N := 7) (T := TX3) (ix1 := 9) (ix2 := 17) (fs := [.null, .int 0, .int 0, .int 0, .int 0, .int 0, .int 0]) (y := yX3_init) (bytes := cX3_init) (maxL := 1) (ws := wsX3_init) (rm := { frames := 1, cells := 1, slots := 4, locals := 12 }) (mc := 1) (ms := 4) (post := fun q w => ∃ lv, w = [(q, .inr (3, [.ref lv, .int 0, .int 0, .int 0, .int 0, .int 0, .int 0])), (lv, .inl (cy 0, 4, .inl fun _ => 0))]) X (fun q => c3_new l D cy q) ⟨va_cnB 0 X.2.2.2.2.1 gX1_init_X3_init_n17 rfl rfl rfl X.2.2.2.2.2.2.2.2.2.2.2.1 (X.2.2.2.2.1 _ (List.mem_of_getElem? (i := 7) rfl)) (by decide +kernel) ⟨Nat.le_of_ble_eq_true rfl, Nat.le_of_ble_eq_true rfl⟩, rfl, X.2.2.2.2.1 _ (List.mem_of_getElem? (i := 8) rfl)⟩ (fun w h => List.mem_cons_of_mem _ (List.mem_append_right _ h)) tyX3 tyX3_ok (List.mem_of_getElem? (i := 4) rfl) (List.mem_of_getElem? (i := 6) rfl) (List.mem_of_getElem? (i := 7) rfl) rfl (fun j hj => by rcases (show j = 0 ∨ j = 1 ∨ j = 2 ∨ j = 3 ∨ j = 4 ∨ j = 5 ∨ j = 6 by omega) with rfl | rfl | rfl | rfl | rfl | rfl | rfl <;> rfl) hP hD hS hA (by show 1 + 2 * i + 1 + 1 ≤ 19; omega) (by show 9 + 11 * i + 7 + 4 ≤ 108; omega) hl.1 (fun _ => Nat.le_of_ble_eq_true rfl) dX1_init_26 dX1_init_29 dX1_init_30 (fun q w1 H locs hw hP hD hS => ?_)
    obtain ⟨lv, rfl⟩ := hw
    refine tc_ast (P := [(am 0, .inr (1, [.ref (am 1), .int 0, .int 0]))]) (M := mW cy am i) (R' := [(lv, .inl (cy 0, 4, .inl fun _ => 0))]) (a := am 1) (v := q) (n := 9) (ci := 3) (k := 5) (i := i) (r := (RX3, TX3, 7)) (f := mA am i) X hP hD hS rfl rfl rfl hi9 (by decide) dX1_init_33 (fun H locs hP hD hS => ?_)
    obtain ⟨bm, b0, b1, hb⟩ := tcV_next cy am hi9 q lv
    have hP : va_P D vwCl (tcV cy bm (i + 1)) H := by rw [hb]; exact hP
    have hD : va_D A (tcV cy bm (i + 1)) := by rw [hb]; exact hD
    refine lv_iinc (v := nI (i + 1)) (lv' := [(1, .int (nI (i + 1))), (0, .ref (am 0))]) X.1 X.2.1 dX1_init_34 hl (k := 1) rfl (nI_1 i) (by decide) rfl (fun ls hl => ?_)
    refine lv_goto (tgt := 15) X.1 X.2.1 dX1_init_37 (by decide) ?_
    refine W.widen (k := 1 + 2 * (i + 1)) (n := 9 + 11 * (i + 1)) (by omega) (by omega) ?_
    exact c1_loop X hA d (i + 1) bm H locs ls (by omega) b0 hP hD hS (lv_sub hl [1, 0] rfl)
theorem c1_new (l : Launch) (D : va_G) (cy : Nat → ClassId) (h0 : Nat) : tcM l D cy yX1_init wsX1_init { frames := 2, cells := 19, slots := 108, locals := 32 } h0 (.inr (1, [.null, .int 0, .int 0])) (fun w => ∃ am : Nat → Nat, am 0 = h0 ∧ w = tcV cy am 9) 19 108 := by
  refine tc_of (i1 := 3) (by decide) rfl rfl (List.mem_of_getElem? (i := 1) rfl) (List.mem_of_getElem? (i := 2) rfl) (List.mem_of_getElem? (i := 3) rfl) dX1_init_0 dX1_init_1 (by decide) ⟨by decide, by decide⟩ ?_
  intro p e s m args below meth c ls A X hP hD hA hl
  have hS : va_S A s.heap s.heap [] := va_S.rf
  refine lv_aload_n X.1 X.2.1 dX1_init_4 rfl (lv_at hl 0 rfl) ?_
  refine lv_bipush (v := 9) X.1 X.2.1 dX1_init_5 (by decide) ?_
  refine tc_newq (C := RX3) (k := 5) (N' := 9) X (List.mem_of_getElem? (i := 4) rfl) X.2.2.2.2.2.2.2.2.2.1 rfl hP hD hS hA (by decide) rfl (by decide) (by decide) (by decide) dX1_init_7 (fun q H hP hD hS => ?_)
  refine tc_put (k := 0) (ci := 1) (N := 3) (T := TX1) (ty := tyX1 0) X rfl (fun w h => List.mem_cons_of_mem _ (List.mem_append_left _ (List.mem_append_right _ h))) tyX1 tyX1_ok nmX1 hP hD hS (by decide) (List.mem_of_getElem? (i := 5) rfl) rfl rfl (tyX1_ok 0 (by decide)) rfl rfl (by decide) dX1_init_10 (fun H locs hP hD hS => ?_)
  refine lv_iconst (v := 0) X.1 X.2.1 dX1_init_13 (by decide) ?_
  refine lv_istore_n (lv' := [(1, .int 0), (0, .ref h0)]) X.1 X.2.1 dX1_init_14 rfl hl (by decide) rfl (fun ls hl => ?_)
  have e0 : tcV cy (fun x => if x = 0 then h0 else q) 0 = (h0, .inr (1, [.ref q, .int 0, .int 0])) :: (q, .inl (cy 5, 9, .inr (.inr (.inr (.inr fun _ => none))))) :: [] := by
    unfold tcV
    have hm : mA (fun x => if x = 0 then h0 else q) 0 = fun _ => none := by
      funext x
      unfold mA
      rw [if_neg (by omega)]
    rw [hm]
    rfl
  exact c1_loop X hA 9 0 (fun x => if x = 0 then h0 else q) H locs ls rfl rfl (by rw [e0]; exact hP) (by rw [e0]; exact hD) hS (lv_sub hl [1, 0] rfl)
end C71
