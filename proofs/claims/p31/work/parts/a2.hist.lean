/-! THE HISTORY is made -/
def kW (cy : Nat → ClassId) (bm : Nat → Nat → Nat) : Nat → va_W
  | 0 => []
  | i + 1 => kW cy bm i ++ tcV cy (bm i) 9
def hhA (bm : Nat → Nat → Nat) (i : Nat) : Nat → Option Nat := fun x => if x < i then some (bm x 0) else none
def hV (cy : Nat → ClassId) (hh ha : Nat) (bm : Nat → Nat → Nat) (i : Nat) : va_W := (hh, .inr (2, [.ref ha, .int 0, .int 0])) :: (ha, .inl (cy 4, 14, .inr (.inr (.inr (.inr (hhA bm i)))))) :: kW cy bm i
theorem kW_cong (cy : Nat → ClassId) {am bm : Nat → Nat → Nat} : ∀ i, (∀ j, j < i → bm j = am j) → kW cy bm i = kW cy am i
  | 0, _ => rfl
  | i + 1, h => by
    show kW cy bm i ++ tcV cy (bm i) 9 = kW cy am i ++ tcV cy (am i) 9
    rw [kW_cong cy i (fun j hj => h j (by omega)), h i (by omega)]
theorem hV_next (cy : Nat → ClassId) (hh ha : Nat) (bm : Nat → Nat → Nat) (i : Nat) (am : Nat → Nat) : ∃ dm : Nat → Nat → Nat, hV cy hh ha dm (i + 1) = (hh, .inr (2, [.ref ha, .int 0, .int 0])) :: (ha, .inl (cy 4, 14, .inr (.inr (.inr (.inr (va_up (hhA bm i) i (some (am 0)))))))) :: (kW cy bm i ++ tcV cy am 9) := by
  obtain ⟨dm, hdm⟩ : ∃ dm : Nat → Nat → Nat, dm = fun x => if x = i then am else bm x := ⟨_, rfl⟩
  have dx : ∀ x, dm x = if x = i then am else bm x := fun x => by rw [hdm]
  have di : dm i = am := by rw [dx, if_pos rfl]
  have dl : ∀ j, j < i → dm j = bm j := fun j hj => by rw [dx, if_neg (by omega)]
  have hA : hhA dm (i + 1) = va_up (hhA bm i) i (some (am 0)) := by
    funext x
    unfold hhA va_up
    by_cases hx : x = i
    · rw [if_pos hx, if_pos (by omega), hx, di]
    · rw [if_neg hx]
      show (if x < i + 1 then some (dm x 0) else none) = (if x < i then some (bm x 0) else none)
      by_cases hx2 : x < i
      · rw [if_pos hx2, if_pos (by omega), dl x hx2]
      · rw [if_neg hx2, if_neg (by omega)]
  refine ⟨dm, ?_⟩
  unfold hV
  rw [hA]
  show _ :: _ :: (kW cy dm i ++ tcV cy (dm i) 9) = _
  rw [kW_cong cy i dl, di]
section C72
variable {l : Launch} {D : va_G} {cy : Nat → ClassId}
theorem c2_loop {p : Program} {e : Env} {s : State} {m : MethodId} {args : Array Value} {below : List Frame} {meth : Method} {c : Code} {A : Nat → Prop} {h0 ha : Nat} (X : tcX D cy yX2_init.cls cX2_init 2 wsX2_init p s m args meth c) (hA : ∀ q : Nat, s.heap.size ≤ q → A q) : ∀ (d i : Nat) (bm : Nat → Nat → Nat) (H : Heap) (locs : List Loc) (ls : Array Slot), i + d = 14 → va_P D vwCl (hV cy h0 ha bm i) H → va_D A (hV cy h0 ha bm i) → va_S A s.heap H locs → lv_has ls 2 [(0, .ref h0), (1, .int (nI i))] →
    W p l e { frames := 3, cells := 281, slots := 1568, locals := 53 } s m args below meth c H locs (1 + 20 * i) (14 + 111 * i) (MQ below (va_Qv (fun w => ∃ (ha : Nat) (bm : Nat → Nat → Nat), w = hV cy h0 ha bm 14) (fun (w : va_W) t => va_P D vwCl w t.heap ∧ va_D A w) A) args s 281 1568 A) (F0 m 15 ls [])
  | 0, i, bm, H, locs, ls, hi, hP, hD, hS, hl => by
    obtain rfl : i = 14 := by omega
    refine lv_iload_n X.1 X.2.1 dX2_init_15 rfl (lv_at hl 1 rfl) ?_
    refine lv_bipush (v := 14) X.1 X.2.1 dX2_init_16 (by decide) ?_
    refine lv_icmp_ge (tgt := 40) X.1 X.2.1 dX2_init_18 (by decide) (fun _ => ?_) (fun h => absurd h (by decide))
    exact tc_ret X hP hD hS ⟨ha, bm, rfl⟩ dX2_init_40
  | d + 1, i, bm, H, locs, ls, hi, hP, hD, hS, hl => by
    have hi9 : i < 14 := by omega
    refine lv_iload_n X.1 X.2.1 dX2_init_15 rfl (lv_at hl 1 rfl) ?_
    refine lv_bipush (v := 14) X.1 X.2.1 dX2_init_16 (by decide) ?_
    refine lv_icmp_ge (tgt := 40) X.1 X.2.1 dX2_init_18 (by decide) (fun h => absurd h (by rw [show (14 : Int32) = nI 14 from rfl, nn_le (by omega) (by omega)]; omega)) (fun _ => ?_)
    refine lv_aload_n X.1 X.2.1 dX2_init_21 rfl (lv_at hl 0 rfl) ?_
    refine va_get (D := D) (ci := 2) (v := .ref ha) (C := RX2) (T := TX2) (N := 3) X.1 X.2.1 X.2.2.2.2.1 (fun w h => List.mem_cons_of_mem _ (List.mem_append_left _ (List.mem_append_left _ (List.mem_append_right _ h)))) X.2.2.2.1 X.2.2.2.2.2.2.2.2.1 hP 0 rfl rfl 0 (by decide) (X.2.2.2.2.1 _ (List.mem_of_getElem? (i := 5) rfl)) (fun _ h9 => h9) rfl dX2_init_22 ?_
    refine lv_iload_n X.1 X.2.1 dX2_init_25 rfl (lv_at hl 1 rfl) ?_
    refine tc_mk (C := RX1) (ci := 1) (N := 3) (T := TX1) (ix1 := 9) (ix2 := 17) (fs := [.null, .int 0, .int 0]) (y := yX1_init) (bytes := cX1_init) (maxL := 2) (ws := wsX1_init) (rm := { frames := 2, cells := 19, slots := 108, locals := 32 }) (mc := 19) (ms := 108) (post := fun q w => ∃ am : Nat → Nat, am 0 = q ∧ w = tcV cy am 9) X (fun q => c1_new l D cy q) (cwI 0 X.2.2.2.2.1 gX2_init_X1_init rfl rfl rfl (X.2.2.2.2.1 _ (List.mem_of_getElem? (i := 7) rfl)) (X.2.2.2.2.1 _ (List.mem_of_getElem? (i := 8) rfl)) (X.2.2.2.2.1 _ (List.mem_of_getElem? (i := 9) rfl)) rfl (by decide +kernel) ⟨Nat.le_of_ble_eq_true rfl, Nat.le_of_ble_eq_true rfl⟩) (fun w h => List.mem_cons_of_mem _ (List.mem_append_left _ (List.mem_append_right _ h))) tyX1 tyX1_ok (List.mem_of_getElem? (i := 4) rfl) (List.mem_of_getElem? (i := 6) rfl) (List.mem_of_getElem? (i := 7) rfl) rfl (fun j hj => by rcases (show j = 0 ∨ j = 1 ∨ j = 2 by omega) with rfl | rfl | rfl <;> rfl) hP hD hS hA (by show 1 + 20 * i + 1 + 19 ≤ 281; omega) (by show 14 + 111 * i + 3 + 108 ≤ 1568; omega) hl.1 (fun _ => Nat.le_of_ble_eq_true rfl) dX2_init_26 dX2_init_29 dX2_init_30 (fun q w1 H locs hw hP hD hS => ?_)
    obtain ⟨am, rfl, rfl⟩ := hw
    refine tc_ast (P := [(h0, .inr (2, [.ref ha, .int 0, .int 0]))]) (M := kW cy bm i) (R' := (am 1, .inl (cy 5, 9, .inr (.inr (.inr (.inr (mA am 9)))))) :: mW cy am 9) (a := ha) (v := am 0) (vs := [.ref (am 1), .int 0, .int 0]) (n := 14) (ci := 1) (k := 4) (i := i) (r := (RX1, TX1, 3)) (f := hhA bm i) X hP hD hS rfl rfl rfl hi9 (by decide) dX2_init_33 (fun H locs hP hD hS => ?_)
    obtain ⟨dm, hb⟩ := hV_next cy h0 ha bm i am
    have hP : va_P D vwCl (hV cy h0 ha dm (i + 1)) H := by rw [hb]; exact hP
    have hD : va_D A (hV cy h0 ha dm (i + 1)) := by rw [hb]; exact hD
    refine lv_iinc (v := nI (i + 1)) (lv' := [(1, .int (nI (i + 1))), (0, .ref h0)]) X.1 X.2.1 dX2_init_34 hl (k := 1) rfl (nI_1 i) (by decide) rfl (fun ls hl => ?_)
    refine lv_goto (tgt := 15) X.1 X.2.1 dX2_init_37 (by decide) ?_
    refine W.widen (k := 1 + 20 * (i + 1)) (n := 14 + 111 * (i + 1)) (by omega) (by omega) ?_
    exact c2_loop X hA d (i + 1) dm H locs ls (by omega) hP hD hS (lv_sub hl [1, 0] rfl)
theorem c2_new (l : Launch) (D : va_G) (cy : Nat → ClassId) (h0 : Nat) : tcM l D cy yX2_init wsX2_init { frames := 3, cells := 281, slots := 1568, locals := 53 } h0 (.inr (2, [.null, .int 0, .int 0])) (fun w => ∃ (ha : Nat) (bm : Nat → Nat → Nat), w = hV cy h0 ha bm 14) 281 1568 := by
  refine tc_of (i1 := 3) (by decide) rfl rfl (List.mem_of_getElem? (i := 1) rfl) (List.mem_of_getElem? (i := 2) rfl) (List.mem_of_getElem? (i := 3) rfl) dX2_init_0 dX2_init_1 (by decide) ⟨by decide, by decide⟩ ?_
  intro p e s m args below meth c ls A X hP hD hA hl
  have hS : va_S A s.heap s.heap [] := va_S.rf
  refine lv_aload_n X.1 X.2.1 dX2_init_4 rfl (lv_at hl 0 rfl) ?_
  refine lv_bipush (v := 14) X.1 X.2.1 dX2_init_5 (by decide) ?_
  refine tc_newq (C := RX1) (k := 4) (N' := 14) X (List.mem_of_getElem? (i := 4) rfl) X.2.2.2.2.2.2.2.2.2.2.1 rfl hP hD hS hA (by decide) rfl (by decide) (by decide) (by decide) dX2_init_7 (fun q H hP hD hS => ?_)
  refine tc_put (k := 0) (ci := 2) (N := 3) (T := TX2) (ty := tyX2 0) X rfl (fun w h => List.mem_cons_of_mem _ (List.mem_append_left _ (List.mem_append_left _ (List.mem_append_right _ h)))) tyX2 tyX2_ok nmX2 hP hD hS (by decide) (List.mem_of_getElem? (i := 5) rfl) rfl rfl (tyX2_ok 0 (by decide)) rfl rfl (by decide) dX2_init_10 (fun H locs hP hD hS => ?_)
  refine lv_iconst (v := 0) X.1 X.2.1 dX2_init_13 (by decide) ?_
  refine lv_istore_n (lv' := [(1, .int 0), (0, .ref h0)]) X.1 X.2.1 dX2_init_14 rfl hl (by decide) rfl (fun ls hl => ?_)
  have e0 : hV cy h0 q (fun _ _ => 0) 0 = (h0, .inr (2, [.ref q, .int 0, .int 0])) :: (q, .inl (cy 4, 14, .inr (.inr (.inr (.inr fun _ => none))))) :: [] := by
    unfold hV
    have hm : hhA (fun _ _ => 0) 0 = fun _ => none := by
      funext x
      unfold hhA
      rw [if_neg (by omega)]
    rw [hm]
    rfl
  exact c2_loop X hA 14 0 (fun _ _ => 0) H locs ls rfl (by rw [e0]; exact hP) (by rw [e0]; exact hD) hS (lv_sub hl [1, 0] rfl)
end C72
