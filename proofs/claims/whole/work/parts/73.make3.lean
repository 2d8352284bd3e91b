/-! THE CONSTRUCTORS of class and reference -/
section C73
variable {l : Launch} {D : va_G} {cy : Nat → ClassId}
theorem e5_4 : ∀ w ∈ u_ws RX4 TX4 2, w ∈ wsX5_init := fun w h => List.mem_cons_of_mem _ (List.mem_append_left _ (List.mem_append_left _ (List.mem_append_left _ (List.mem_append_left _ (List.mem_append_left _ (List.mem_append_right _ h))))))
theorem e5_5 : ∀ w ∈ u_ws RX5 TX5 7, w ∈ wsX5_init := fun w h => List.mem_cons_of_mem _ (List.mem_append_left _ (List.mem_append_left _ (List.mem_append_left _ (List.mem_append_left _ (List.mem_append_right _ h)))))
theorem e5_1 : ∀ w ∈ u_ws RX1 TX1 3, w ∈ wsX5_init := fun w h => List.mem_cons_of_mem _ (List.mem_append_left _ (List.mem_append_left _ (List.mem_append_left _ (List.mem_append_right _ h))))
theorem e5_2 : ∀ w ∈ u_ws RX2 TX2 3, w ∈ wsX5_init := fun w h => List.mem_cons_of_mem _ (List.mem_append_left _ (List.mem_append_left _ (List.mem_append_right _ h)))
theorem e5_0 : ∀ w ∈ u_ws RX0 TX0 1, w ∈ wsX5_init := fun w h => List.mem_cons_of_mem _ (List.mem_append_left _ (List.mem_append_right _ h))
/-- what the class lays, the row of slots in the state f -/
def xV0 (h0 : Nat) (fs : List Value) (P0 : va_W) : va_W := (h0, .inr (5, fs)) :: P0
def xT (cy : Nat → ClassId) (tx tc : Nat) : va_W := [(tx, .inr (4, [.ref tc, .int 0])), (tc, .inl (cy 1, 90, .inl fun _ => 0))]
def xB (cy : Nat → ClassId) (bq rk : Nat) : va_W := [(bq, .inr (0, [.ref rk])), (rk, .inl (cy 0, 512, .inl fun _ => 0))]
def xW (cy : Nat → ClassId) (h0 tx tc : Nat) (a0 a1 : Nat → Nat) (hh ha : Nat) (bm : Nat → Nat → Nat) (sl : Nat) (a2 a3 : Nat → Nat) (sv bq rk : Nat) : va_W :=
  (h0, .inr (5, [.ref tx, .ref (a0 0), .ref (a1 0), .ref hh, .ref sl, .ref sv, .ref bq])) :: (((((xT cy tx tc ++ tcV cy a0 9) ++ tcV cy a1 9) ++ hV cy hh ha bm 14) ++ ((sl, .inl (cy 4, 2, .inr (.inr (.inr (.inr (va_up (va_up (fun _ => none) 0 (some (a2 0))) 1 (some (a3 0)))))))) :: (tcV cy a2 9 ++ tcV cy a3 9))) ++ ((sv, .inl (cy 2, 2, .inl fun _ => 0)) :: xB cy bq rk))
set_option maxHeartbeats 4000000 in
theorem c5_new (l : Launch) (D : va_G) (cy : Nat → ClassId) (h0 : Nat) : tcM l D cy yX5_init wsX5_init { frames := 4, cells := 368, slots := 2624, locals := 74 } h0 (.inr (5, [.null, .null, .null, .null, .null, .null, .null])) (fun w => ∃ (tx tc : Nat) (a0 a1 : Nat → Nat) (hh ha : Nat) (bm : Nat → Nat → Nat) (sl : Nat) (a2 a3 : Nat → Nat) (sv bq rk : Nat), w = xW cy h0 tx tc a0 a1 hh ha bm sl a2 a3 sv bq rk) 368 2624 := by
  refine tc_of (i1 := 3) (by decide) rfl rfl (List.mem_of_getElem? (i := 1) rfl) (List.mem_of_getElem? (i := 2) rfl) (List.mem_of_getElem? (i := 3) rfl) dX5_init_0 dX5_init_1 (by decide) ⟨by decide, by decide⟩ ?_
  intro p e s m args below meth c ls A X hP hD hA hl
  have hS : va_S A s.heap s.heap [] := va_S.rf
  refine lv_aload_n X.1 X.2.1 dX5_init_4 rfl (lv_at hl 0 rfl) ?_
  refine tc_mkN (host := RX5) (C := RX4) (ci := 4) (N := 2) (T := TX4) (ix1 := 9) (ix2 := 11) (fs := [.null, .int 0]) (y := yX4_init) (bytes := cX4_init) (maxL := 1) (ws := wsX4_init) (rm := { frames := 1, cells := 1, slots := 90, locals := 12 }) (mc := 1) (ms := 90) (post := fun q w => ∃ c, w = [(q, .inr (4, [.ref c, .int 0])), (c, .inl (cy 1, 90, .inl fun _ => 0))]) X (fun q => c4_new l D cy q) ⟨va_cnB 0 X.2.2.2.2.1 gX5_init_X4_init_n11 rfl rfl rfl X.2.2.2.2.2.2.2.2.2.2.2.2.1 (X.2.2.2.2.1 _ (List.mem_of_getElem? (i := 6) rfl)) (by decide +kernel) ⟨Nat.le_of_ble_eq_true rfl, Nat.le_of_ble_eq_true rfl⟩, rfl, X.2.2.2.2.1 _ (List.mem_of_getElem? (i := 24) rfl)⟩ e5_4 tyX4 tyX4_ok (List.mem_of_getElem? (i := 4) rfl) (List.mem_of_getElem? (i := 5) rfl) (List.mem_of_getElem? (i := 6) rfl) rfl (fun j hj => by rcases (show j = 0 ∨ j = 1 by omega) with rfl | rfl <;> rfl) hP hD hS hA (Nat.le_of_ble_eq_true rfl) (Nat.le_of_ble_eq_true rfl) hl.1 (fun _ => Nat.le_of_ble_eq_true rfl) dX5_init_5 dX5_init_8 dX5_init_9 (fun q w1 H locs hw hP hD hS => ?_)
  obtain ⟨tc, rfl⟩ := hw
  obtain ⟨tx, rfl⟩ : ∃ z, z = q := ⟨_, rfl⟩
  refine tc_put (k := 0) (ci := 5) (N := 7) (T := TX5) (ty := tyX5 0) X rfl e5_5 tyX5 tyX5_ok nmX5 hP hD hS (by decide) (List.mem_of_getElem? (i := 7) rfl) rfl rfl (tyX5_ok 0 (by decide)) rfl rfl (Nat.le_of_ble_eq_true rfl) dX5_init_12 (fun H locs hP hD hS => ?_)
  have hP : va_P D vwCl ((h0, .inr (5, [.ref tx, .null, .null, .null, .null, .null, .null])) :: xT cy tx tc) H := hP
  have hD : va_D A ((h0, .inr (5, [.ref tx, .null, .null, .null, .null, .null, .null])) :: xT cy tx tc) := hD
  refine lv_aload_n X.1 X.2.1 dX5_init_15 rfl (lv_at hl 0 rfl) ?_
  refine tc_mk (C := RX1) (ci := 1) (N := 3) (T := TX1) (ix1 := 16) (ix2 := 18) (fs := [.null, .int 0, .int 0]) (y := yX1_init) (bytes := cX1_init) (maxL := 2) (ws := wsX1_init) (rm := { frames := 2, cells := 19, slots := 108, locals := 32 }) (mc := 19) (ms := 108) (post := fun q w => ∃ am : Nat → Nat, am 0 = q ∧ w = tcV cy am 9) X (fun q => c1_new l D cy q) (cwI 0 X.2.2.2.2.1 gX5_init_X1_init rfl rfl rfl (X.2.2.2.2.1 _ (List.mem_of_getElem? (i := 10) rfl)) (X.2.2.2.2.1 _ (List.mem_of_getElem? (i := 29) rfl)) (X.2.2.2.2.1 _ (List.mem_of_getElem? (i := 30) rfl)) rfl (by decide +kernel) ⟨Nat.le_of_ble_eq_true rfl, Nat.le_of_ble_eq_true rfl⟩) e5_1 tyX1 tyX1_ok (List.mem_of_getElem? (i := 8) rfl) (List.mem_of_getElem? (i := 9) rfl) (List.mem_of_getElem? (i := 10) rfl) rfl (fun j hj => by rcases (show j = 0 ∨ j = 1 ∨ j = 2 by omega) with rfl | rfl | rfl <;> rfl) hP hD hS hA (Nat.le_of_ble_eq_true rfl) (Nat.le_of_ble_eq_true rfl) hl.1 (fun _ => Nat.le_of_ble_eq_true rfl) dX5_init_16 dX5_init_19 dX5_init_20 (fun q w1 H locs hw hP hD hS => ?_)
  obtain ⟨a0, rfl, rfl⟩ := hw
  refine tc_put (k := 1) (ci := 5) (N := 7) (T := TX5) (ty := tyX5 1) X rfl e5_5 tyX5 tyX5_ok nmX5 hP hD hS (by decide) (List.mem_of_getElem? (i := 11) rfl) rfl rfl (tyX5_ok 1 (by decide)) rfl rfl (Nat.le_of_ble_eq_true rfl) dX5_init_23 (fun H locs hP hD hS => ?_)
  have hP : va_P D vwCl ((h0, .inr (5, [.ref tx, .ref (a0 0), .null, .null, .null, .null, .null])) :: (xT cy tx tc ++ tcV cy a0 9)) H := hP
  have hD : va_D A ((h0, .inr (5, [.ref tx, .ref (a0 0), .null, .null, .null, .null, .null])) :: (xT cy tx tc ++ tcV cy a0 9)) := hD
  refine lv_aload_n X.1 X.2.1 dX5_init_26 rfl (lv_at hl 0 rfl) ?_
  refine tc_mk (C := RX1) (ci := 1) (N := 3) (T := TX1) (ix1 := 16) (ix2 := 18) (fs := [.null, .int 0, .int 0]) (y := yX1_init) (bytes := cX1_init) (maxL := 2) (ws := wsX1_init) (rm := { frames := 2, cells := 19, slots := 108, locals := 32 }) (mc := 19) (ms := 108) (post := fun q w => ∃ am : Nat → Nat, am 0 = q ∧ w = tcV cy am 9) X (fun q => c1_new l D cy q) (cwI 0 X.2.2.2.2.1 gX5_init_X1_init rfl rfl rfl (X.2.2.2.2.1 _ (List.mem_of_getElem? (i := 10) rfl)) (X.2.2.2.2.1 _ (List.mem_of_getElem? (i := 29) rfl)) (X.2.2.2.2.1 _ (List.mem_of_getElem? (i := 30) rfl)) rfl (by decide +kernel) ⟨Nat.le_of_ble_eq_true rfl, Nat.le_of_ble_eq_true rfl⟩) e5_1 tyX1 tyX1_ok (List.mem_of_getElem? (i := 8) rfl) (List.mem_of_getElem? (i := 9) rfl) (List.mem_of_getElem? (i := 10) rfl) rfl (fun j hj => by rcases (show j = 0 ∨ j = 1 ∨ j = 2 by omega) with rfl | rfl | rfl <;> rfl) hP hD hS hA (Nat.le_of_ble_eq_true rfl) (Nat.le_of_ble_eq_true rfl) hl.1 (fun _ => Nat.le_of_ble_eq_true rfl) dX5_init_27 dX5_init_30 dX5_init_31 (fun q w1 H locs hw hP hD hS => ?_)
  obtain ⟨a1, rfl, rfl⟩ := hw
  refine tc_put (k := 2) (ci := 5) (N := 7) (T := TX5) (ty := tyX5 2) X rfl e5_5 tyX5 tyX5_ok nmX5 hP hD hS (by decide) (List.mem_of_getElem? (i := 12) rfl) rfl rfl (tyX5_ok 2 (by decide)) rfl rfl (Nat.le_of_ble_eq_true rfl) dX5_init_34 (fun H locs hP hD hS => ?_)
  have hP : va_P D vwCl ((h0, .inr (5, [.ref tx, .ref (a0 0), .ref (a1 0), .null, .null, .null, .null])) :: ((xT cy tx tc ++ tcV cy a0 9) ++ tcV cy a1 9)) H := hP
  have hD : va_D A ((h0, .inr (5, [.ref tx, .ref (a0 0), .ref (a1 0), .null, .null, .null, .null])) :: ((xT cy tx tc ++ tcV cy a0 9) ++ tcV cy a1 9)) := hD
  refine lv_aload_n X.1 X.2.1 dX5_init_37 rfl (lv_at hl 0 rfl) ?_
  refine tc_mk (C := RX2) (ci := 2) (N := 3) (T := TX2) (ix1 := 26) (ix2 := 28) (fs := [.null, .int 0, .int 0]) (y := yX2_init) (bytes := cX2_init) (maxL := 2) (ws := wsX2_init) (rm := { frames := 3, cells := 281, slots := 1568, locals := 53 }) (mc := 281) (ms := 1568) (post := fun q w => ∃ (ha : Nat) (bm : Nat → Nat → Nat), w = hV cy q ha bm 14) X (fun q => c2_new l D cy q) (cwI 0 X.2.2.2.2.1 gX5_init_X2_init rfl rfl rfl (X.2.2.2.2.1 _ (List.mem_of_getElem? (i := 15) rfl)) (X.2.2.2.2.1 _ (List.mem_of_getElem? (i := 42) rfl)) (X.2.2.2.2.1 _ (List.mem_of_getElem? (i := 43) rfl)) rfl (by decide +kernel) ⟨Nat.le_of_ble_eq_true rfl, Nat.le_of_ble_eq_true rfl⟩) e5_2 tyX2 tyX2_ok (List.mem_of_getElem? (i := 13) rfl) (List.mem_of_getElem? (i := 14) rfl) (List.mem_of_getElem? (i := 15) rfl) rfl (fun j hj => by rcases (show j = 0 ∨ j = 1 ∨ j = 2 by omega) with rfl | rfl | rfl <;> rfl) hP hD hS hA (Nat.le_of_ble_eq_true rfl) (Nat.le_of_ble_eq_true rfl) hl.1 (fun _ => Nat.le_of_ble_eq_true rfl) dX5_init_38 dX5_init_41 dX5_init_42 (fun q w1 H locs hw hP hD hS => ?_)
  obtain ⟨ha, bm, rfl⟩ := hw
  obtain ⟨hh, rfl⟩ : ∃ z, z = q := ⟨_, rfl⟩
  refine tc_put (k := 3) (ci := 5) (N := 7) (T := TX5) (ty := tyX5 3) X rfl e5_5 tyX5 tyX5_ok nmX5 hP hD hS (by decide) (List.mem_of_getElem? (i := 16) rfl) rfl rfl (tyX5_ok 3 (by decide)) rfl rfl (Nat.le_of_ble_eq_true rfl) dX5_init_45 (fun H locs hP hD hS => ?_)
  obtain ⟨P0, hP0⟩ : ∃ P0 : va_W, P0 = ((xT cy tx tc ++ tcV cy a0 9) ++ tcV cy a1 9) ++ hV cy hh ha bm 14 := ⟨_, rfl⟩
  have hP : va_P D vwCl ((h0, .inr (5, [.ref tx, .ref (a0 0), .ref (a1 0), .ref hh, .null, .null, .null])) :: P0) H := by rw [hP0]; exact hP
  have hD : va_D A ((h0, .inr (5, [.ref tx, .ref (a0 0), .ref (a1 0), .ref hh, .null, .null, .null])) :: P0) := by rw [hP0]; exact hD
  refine lv_aload_n X.1 X.2.1 dX5_init_48 rfl (lv_at hl 0 rfl) ?_
  refine lv_iconst (v := 2) X.1 X.2.1 dX5_init_49 (by decide) ?_
  refine tc_newq (C := RX1) (k := 4) (N' := 2) X (List.mem_of_getElem? (i := 8) rfl) X.2.2.2.2.2.2.2.2.2.2.1 rfl hP hD hS hA (by decide) rfl (by decide) (Nat.le_of_ble_eq_true rfl) (Nat.le_of_ble_eq_true rfl) dX5_init_50 (fun sl H hP hD hS => ?_)
  refine tc_put (k := 4) (ci := 5) (N := 7) (T := TX5) (ty := tyX5 4) X rfl e5_5 tyX5 tyX5_ok nmX5 hP hD hS (by decide) (List.mem_of_getElem? (i := 17) rfl) rfl rfl (tyX5_ok 4 (by decide)) rfl rfl (Nat.le_of_ble_eq_true rfl) dX5_init_53 (fun H locs hP hD hS => ?_)
  have hP : va_P D vwCl ((h0, .inr (5, [.ref tx, .ref (a0 0), .ref (a1 0), .ref hh, .ref sl, .null, .null])) :: (P0 ++ [(sl, .inl (cy 4, 2, .inr (.inr (.inr (.inr (fun _ => none))))))])) H := hP
  have hD : va_D A ((h0, .inr (5, [.ref tx, .ref (a0 0), .ref (a1 0), .ref hh, .ref sl, .null, .null])) :: (P0 ++ [(sl, .inl (cy 4, 2, .inr (.inr (.inr (.inr (fun _ => none))))))])) := hD
  refine lv_iconst (v := 0) X.1 X.2.1 dX5_init_56 (by decide) ?_
  refine lv_istore_n (lv' := [(1, .int (nI 0)), (0, .ref h0)]) X.1 X.2.1 dX5_init_57 rfl hl (by decide) rfl (fun ls hl => ?_)
  refine lv_iload_n X.1 X.2.1 dX5_init_58 rfl (lv_at hl 0 rfl) ?_
  refine lv_iconst (v := 2) X.1 X.2.1 dX5_init_59 (by decide) ?_
  refine lv_icmp_ge (tgt := 82) X.1 X.2.1 dX5_init_60 (by decide) (fun h => absurd h (by decide)) (fun _ => ?_)
  refine lv_aload_n X.1 X.2.1 dX5_init_63 rfl (lv_at hl 1 rfl) ?_
  refine va_get (D := D) (ci := 5) (v := .ref sl) (C := RX5) (T := TX5) (N := 7) X.1 X.2.1 X.2.2.2.2.1 e5_5 X.2.2.2.1 X.2.2.2.2.2.2.2.2.1 hP 0 rfl rfl 4 (by decide) (X.2.2.2.2.1 _ (List.mem_of_getElem? (i := 17) rfl)) (fun _ h9 => h9) rfl dX5_init_64 ?_
  refine lv_iload_n X.1 X.2.1 dX5_init_67 rfl (lv_at hl 0 rfl) ?_
  refine tc_mk (C := RX1) (ci := 1) (N := 3) (T := TX1) (ix1 := 16) (ix2 := 18) (fs := [.null, .int 0, .int 0]) (y := yX1_init) (bytes := cX1_init) (maxL := 2) (ws := wsX1_init) (rm := { frames := 2, cells := 19, slots := 108, locals := 32 }) (mc := 19) (ms := 108) (post := fun q w => ∃ am : Nat → Nat, am 0 = q ∧ w = tcV cy am 9) X (fun q => c1_new l D cy q) (cwI 0 X.2.2.2.2.1 gX5_init_X1_init rfl rfl rfl (X.2.2.2.2.1 _ (List.mem_of_getElem? (i := 10) rfl)) (X.2.2.2.2.1 _ (List.mem_of_getElem? (i := 29) rfl)) (X.2.2.2.2.1 _ (List.mem_of_getElem? (i := 30) rfl)) rfl (by decide +kernel) ⟨Nat.le_of_ble_eq_true rfl, Nat.le_of_ble_eq_true rfl⟩) e5_1 tyX1 tyX1_ok (List.mem_of_getElem? (i := 8) rfl) (List.mem_of_getElem? (i := 9) rfl) (List.mem_of_getElem? (i := 10) rfl) rfl (fun j hj => by rcases (show j = 0 ∨ j = 1 ∨ j = 2 by omega) with rfl | rfl | rfl <;> rfl) hP hD hS hA (Nat.le_of_ble_eq_true rfl) (Nat.le_of_ble_eq_true rfl) hl.1 (fun _ => Nat.le_of_ble_eq_true rfl) dX5_init_68 dX5_init_71 dX5_init_72 (fun q w1 H locs hw hP hD hS => ?_)
  obtain ⟨a2, rfl, rfl⟩ := hw
  refine tc_ast (P := (h0, .inr (5, [.ref tx, .ref (a0 0), .ref (a1 0), .ref hh, .ref sl, .null, .null])) :: P0) (M := []) (R' := (a2 1, .inl (cy 5, 9, .inr (.inr (.inr (.inr (mA a2 9)))))) :: mW cy a2 9) (a := sl) (v := a2 0) (vs := [.ref (a2 1), .int 0, .int 0]) (n := 2) (ci := 1) (k := 4) (i := 0) (r := (RX1, TX1, 3)) (f := fun _ => none) X hP hD hS (congrArg (List.cons _) (List.append_assoc _ _ _)) rfl rfl (by decide) (by decide) dX5_init_75 (fun H locs hP hD hS => ?_)
  have hP : va_P D vwCl ((h0, .inr (5, [.ref tx, .ref (a0 0), .ref (a1 0), .ref hh, .ref sl, .null, .null])) :: (P0 ++ ((sl, .inl (cy 4, 2, .inr (.inr (.inr (.inr (va_up (fun _ => none) 0 (some (a2 0)))))))) :: tcV cy a2 9))) H := hP
  have hD : va_D A ((h0, .inr (5, [.ref tx, .ref (a0 0), .ref (a1 0), .ref hh, .ref sl, .null, .null])) :: (P0 ++ ((sl, .inl (cy 4, 2, .inr (.inr (.inr (.inr (va_up (fun _ => none) 0 (some (a2 0)))))))) :: tcV cy a2 9))) := hD
  refine lv_iinc (v := nI 1) (lv' := [(1, .int (nI 1)), (0, .ref h0)]) X.1 X.2.1 dX5_init_76 hl (k := 0) rfl (nI_1 0) (by decide) rfl (fun ls hl => ?_)
  refine lv_goto (tgt := 58) X.1 X.2.1 dX5_init_79 (by decide) ?_
  refine lv_iload_n X.1 X.2.1 dX5_init_58 rfl (lv_at hl 0 rfl) ?_
  refine lv_iconst (v := 2) X.1 X.2.1 dX5_init_59 (by decide) ?_
  refine lv_icmp_ge (tgt := 82) X.1 X.2.1 dX5_init_60 (by decide) (fun h => absurd h (by decide)) (fun _ => ?_)
  refine lv_aload_n X.1 X.2.1 dX5_init_63 rfl (lv_at hl 1 rfl) ?_
  refine va_get (D := D) (ci := 5) (v := .ref sl) (C := RX5) (T := TX5) (N := 7) X.1 X.2.1 X.2.2.2.2.1 e5_5 X.2.2.2.1 X.2.2.2.2.2.2.2.2.1 hP 0 rfl rfl 4 (by decide) (X.2.2.2.2.1 _ (List.mem_of_getElem? (i := 17) rfl)) (fun _ h9 => h9) rfl dX5_init_64 ?_
  refine lv_iload_n X.1 X.2.1 dX5_init_67 rfl (lv_at hl 0 rfl) ?_
  refine tc_mk (C := RX1) (ci := 1) (N := 3) (T := TX1) (ix1 := 16) (ix2 := 18) (fs := [.null, .int 0, .int 0]) (y := yX1_init) (bytes := cX1_init) (maxL := 2) (ws := wsX1_init) (rm := { frames := 2, cells := 19, slots := 108, locals := 32 }) (mc := 19) (ms := 108) (post := fun q w => ∃ am : Nat → Nat, am 0 = q ∧ w = tcV cy am 9) X (fun q => c1_new l D cy q) (cwI 0 X.2.2.2.2.1 gX5_init_X1_init rfl rfl rfl (X.2.2.2.2.1 _ (List.mem_of_getElem? (i := 10) rfl)) (X.2.2.2.2.1 _ (List.mem_of_getElem? (i := 29) rfl)) (X.2.2.2.2.1 _ (List.mem_of_getElem? (i := 30) rfl)) rfl (by decide +kernel) ⟨Nat.le_of_ble_eq_true rfl, Nat.le_of_ble_eq_true rfl⟩) e5_1 tyX1 tyX1_ok (List.mem_of_getElem? (i := 8) rfl) (List.mem_of_getElem? (i := 9) rfl) (List.mem_of_getElem? (i := 10) rfl) rfl (fun j hj => by rcases (show j = 0 ∨ j = 1 ∨ j = 2 by omega) with rfl | rfl | rfl <;> rfl) hP hD hS hA (Nat.le_of_ble_eq_true rfl) (Nat.le_of_ble_eq_true rfl) hl.1 (fun _ => Nat.le_of_ble_eq_true rfl) dX5_init_68 dX5_init_71 dX5_init_72 (fun q w1 H locs hw hP hD hS => ?_)
  obtain ⟨a3, rfl, rfl⟩ := hw
  refine tc_ast (P := (h0, .inr (5, [.ref tx, .ref (a0 0), .ref (a1 0), .ref hh, .ref sl, .null, .null])) :: P0) (M := tcV cy a2 9) (R' := (a3 1, .inl (cy 5, 9, .inr (.inr (.inr (.inr (mA a3 9)))))) :: mW cy a3 9) (a := sl) (v := a3 0) (vs := [.ref (a3 1), .int 0, .int 0]) (n := 2) (ci := 1) (k := 4) (i := 1) (r := (RX1, TX1, 3)) (f := va_up (fun _ => none) 0 (some (a2 0))) X hP hD hS (congrArg (List.cons _) (List.append_assoc _ _ _)) rfl rfl (by decide) (by decide) dX5_init_75 (fun H locs hP hD hS => ?_)
  have hP : va_P D vwCl ((h0, .inr (5, [.ref tx, .ref (a0 0), .ref (a1 0), .ref hh, .ref sl, .null, .null])) :: (P0 ++ ((sl, .inl (cy 4, 2, .inr (.inr (.inr (.inr (va_up (va_up (fun _ => none) 0 (some (a2 0))) 1 (some (a3 0)))))))) :: (tcV cy a2 9 ++ tcV cy a3 9)))) H := hP
  have hD : va_D A ((h0, .inr (5, [.ref tx, .ref (a0 0), .ref (a1 0), .ref hh, .ref sl, .null, .null])) :: (P0 ++ ((sl, .inl (cy 4, 2, .inr (.inr (.inr (.inr (va_up (va_up (fun _ => none) 0 (some (a2 0))) 1 (some (a3 0)))))))) :: (tcV cy a2 9 ++ tcV cy a3 9)))) := hD
  refine lv_iinc (v := nI 2) (lv' := [(1, .int (nI 2)), (0, .ref h0)]) X.1 X.2.1 dX5_init_76 hl (k := 0) rfl (nI_1 1) (by decide) rfl (fun ls hl => ?_)
  refine lv_goto (tgt := 58) X.1 X.2.1 dX5_init_79 (by decide) ?_
  refine lv_iload_n X.1 X.2.1 dX5_init_58 rfl (lv_at hl 0 rfl) ?_
  refine lv_iconst (v := 2) X.1 X.2.1 dX5_init_59 (by decide) ?_
  refine lv_icmp_ge (tgt := 82) X.1 X.2.1 dX5_init_60 (by decide) (fun _ => ?_) (fun h => absurd h (by decide))
  refine lv_aload_n X.1 X.2.1 dX5_init_82 rfl (lv_at hl 1 rfl) ?_
  refine lv_iconst (v := 2) X.1 X.2.1 dX5_init_83 (by decide) ?_
  refine tc_newa (atype := .boolean) (k := 2) (N' := 2) (a0 := (2, .inl fun _ => 0)) X (List.mem_of_getElem? (i := 18) rfl) rfl hP hD hS hA (fun cA => rfl) (by decide) rfl (Nat.le_of_ble_eq_true rfl) (Nat.le_of_ble_eq_true rfl) (Nat.le_of_ble_eq_true rfl) dX5_init_84 (fun sv H hP hD hS => ?_)
  refine tc_put (k := 5) (ci := 5) (N := 7) (T := TX5) (ty := tyX5 5) X rfl e5_5 tyX5 tyX5_ok nmX5 hP hD hS (by decide) (List.mem_of_getElem? (i := 19) rfl) rfl rfl (tyX5_ok 5 (by decide)) rfl rfl (Nat.le_of_ble_eq_true rfl) dX5_init_86 (fun H locs hP hD hS => ?_)
  refine lv_aload_n X.1 X.2.1 dX5_init_89 rfl (lv_at hl 1 rfl) ?_
  refine tc_mkN (host := RX5) (C := RX0) (ci := 0) (N := 1) (T := TX0) (ix1 := 41) (ix2 := 43) (fs := [.null]) (y := yX0_init) (bytes := cX0_init) (maxL := 1) (ws := wsX0_init) (rm := { frames := 1, cells := 1, slots := 512, locals := 12 }) (mc := 1) (ms := 512) (post := fun q w => ∃ c, w = [(q, .inr (0, [.ref c])), (c, .inl (cy 0, 512, .inl fun _ => 0))]) X (fun q => c0_new l D cy q) ⟨va_cnB 0 X.2.2.2.2.1 gX5_init_X0_init_n43 rfl rfl rfl X.2.2.2.2.2.2.2.2.2.2.2.2.2 (X.2.2.2.2.1 _ (List.mem_of_getElem? (i := 22) rfl)) (by decide +kernel) ⟨Nat.le_of_ble_eq_true rfl, Nat.le_of_ble_eq_true rfl⟩, rfl, X.2.2.2.2.1 _ (List.mem_of_getElem? (i := 49) rfl)⟩ e5_0 tyX0 tyX0_ok (List.mem_of_getElem? (i := 20) rfl) (List.mem_of_getElem? (i := 21) rfl) (List.mem_of_getElem? (i := 22) rfl) rfl (fun j hj => Nat.lt_one_iff.mp hj ▸ rfl) hP hD hS hA (Nat.le_of_ble_eq_true rfl) (Nat.le_of_ble_eq_true rfl) hl.1 (fun _ => Nat.le_of_ble_eq_true rfl) dX5_init_90 dX5_init_93 dX5_init_94 (fun q w1 H locs hw hP hD hS => ?_)
  obtain ⟨rk, rfl⟩ := hw
  obtain ⟨bq, rfl⟩ : ∃ z, z = q := ⟨_, rfl⟩
  refine tc_put (k := 6) (ci := 5) (N := 7) (T := TX5) (ty := tyX5 6) X rfl e5_5 tyX5 tyX5_ok nmX5 hP hD hS (by decide) (List.mem_of_getElem? (i := 23) rfl) rfl rfl (tyX5_ok 6 (by decide)) rfl rfl (Nat.le_of_ble_eq_true rfl) dX5_init_97 (fun H locs hP hD hS => ?_)
  have ef : ((h0, (Sum.inr (5, [.ref tx, .ref (a0 0), .ref (a1 0), .ref hh, .ref sl, .ref sv, .ref bq]) : va_E)) :: (((P0 ++ ((sl, .inl (cy 4, 2, .inr (.inr (.inr (.inr (va_up (va_up (fun _ => none) 0 (some (a2 0))) 1 (some (a3 0)))))))) :: (tcV cy a2 9 ++ tcV cy a3 9))) ++ [(sv, .inl (cy 2, 2, .inl fun _ => 0))]) ++ xB cy bq rk)) = xW cy h0 tx tc a0 a1 hh ha bm sl a2 a3 sv bq rk := by
    rw [hP0]
    exact congrArg (List.cons _) (List.append_assoc _ _ _)
  have hP : va_P D vwCl (xW cy h0 tx tc a0 a1 hh ha bm sl a2 a3 sv bq rk) H := by rw [← ef]; exact hP
  have hD : va_D A (xW cy h0 tx tc a0 a1 hh ha bm sl a2 a3 sv bq rk) := by rw [← ef]; exact hD
  exact tc_ret X hP hD hS ⟨tx, tc, a0, a1, hh, ha, bm, sl, a2, a3, sv, bq, rk, rfl⟩ dX5_init_100
/-- what the reference lays -/
def rV (cy : Nat → ClassId) (h0 r0 r1 r2 r3 r4 r5 r6 r7 r8 : Nat) : va_W := [(h0, .inr (6, [.int 0, .ref r0, .int 0, .int 0, .ref r1, .ref r2, .ref r3, .ref r4, .int 0, .ref r5, .ref r6, .ref r7, .ref r8])), (r0, .inl (cy 0, 90, .inl fun _ => 0)), (r1, .inl (cy 0, 92, .inl fun _ => 0)), (r2, .inl (cy 0, 92, .inl fun _ => 0)), (r3, .inl (cy 0, 92, .inl fun _ => 0)), (r4, .inl (cy 0, 1288, .inl fun _ => 0)), (r5, .inl (cy 0, 184, .inl fun _ => 0)), (r6, .inl (cy 2, 2, .inl fun _ => 0)), (r7, .inl (cy 0, 512, .inl fun _ => 0)), (r8, .inl (cy 0, 512, .inl fun _ => 0))]
set_option maxHeartbeats 4000000 in
theorem c6_new (l : Launch) (D : va_G) (cy : Nat → ClassId) (h0 : Nat) : tcM l D cy yX6_init wsX6_init { frames := 1, cells := 9, slots := 2864, locals := 12 } h0 (.inr (6, [.int 0, .null, .int 0, .int 0, .null, .null, .null, .null, .int 0, .null, .null, .null, .null])) (fun w => ∃ r0 r1 r2 r3 r4 r5 r6 r7 r8 : Nat, w = rV cy h0 r0 r1 r2 r3 r4 r5 r6 r7 r8) 9 2864 := by
  refine tc_of (i1 := 1) (by decide) rfl rfl (List.mem_of_getElem? (i := 1) rfl) (List.mem_of_getElem? (i := 2) rfl) (List.mem_of_getElem? (i := 3) rfl) dX6_init_0 dX6_init_1 (by decide) ⟨by decide, by decide⟩ ?_
  intro p e s m args below meth c ls A X hP hD hA hl
  have hS : va_S A s.heap s.heap [] := va_S.rf
  refine lv_aload_n X.1 X.2.1 dX6_init_4 rfl (lv_at hl 0 rfl) ?_
  refine lv_bipush (v := 90) X.1 X.2.1 dX6_init_5 (by decide) ?_
  refine tc_newa (atype := .int) (k := 0) (N' := 90) (a0 := (90, .inl fun _ => 0)) X (List.mem_of_getElem? (i := 4) rfl) rfl hP hD hS hA (fun cA => rfl) (by decide) rfl (Nat.le_of_ble_eq_true rfl) (Nat.le_of_ble_eq_true rfl) (Nat.le_of_ble_eq_true rfl) dX6_init_7 (fun r0 H hP hD hS => ?_)
  refine tc_put (k := 1) (ci := 6) (N := 13) (T := TX6) (ty := tyX6 1) X rfl (fun w h => List.mem_cons_of_mem _ (List.mem_append_right _ h)) tyX6 tyX6_ok nmX6 hP hD hS (by decide) (List.mem_of_getElem? (i := 5) rfl) rfl rfl (tyX6_ok 1 (by decide)) rfl rfl (Nat.le_of_ble_eq_true rfl) dX6_init_9 (fun H locs hP hD hS => ?_)
  refine lv_aload_n X.1 X.2.1 dX6_init_12 rfl (lv_at hl 0 rfl) ?_
  refine lv_bipush (v := 92) X.1 X.2.1 dX6_init_13 (by decide) ?_
  refine tc_newa (atype := .int) (k := 0) (N' := 92) (a0 := (92, .inl fun _ => 0)) X (List.mem_of_getElem? (i := 4) rfl) rfl hP hD hS hA (fun cA => rfl) (by decide) rfl (Nat.le_of_ble_eq_true rfl) (Nat.le_of_ble_eq_true rfl) (Nat.le_of_ble_eq_true rfl) dX6_init_15 (fun r1 H hP hD hS => ?_)
  refine tc_put (k := 4) (ci := 6) (N := 13) (T := TX6) (ty := tyX6 4) X rfl (fun w h => List.mem_cons_of_mem _ (List.mem_append_right _ h)) tyX6 tyX6_ok nmX6 hP hD hS (by decide) (List.mem_of_getElem? (i := 6) rfl) rfl rfl (tyX6_ok 4 (by decide)) rfl rfl (Nat.le_of_ble_eq_true rfl) dX6_init_17 (fun H locs hP hD hS => ?_)
  refine lv_aload_n X.1 X.2.1 dX6_init_20 rfl (lv_at hl 0 rfl) ?_
  refine lv_bipush (v := 92) X.1 X.2.1 dX6_init_21 (by decide) ?_
  refine tc_newa (atype := .int) (k := 0) (N' := 92) (a0 := (92, .inl fun _ => 0)) X (List.mem_of_getElem? (i := 4) rfl) rfl hP hD hS hA (fun cA => rfl) (by decide) rfl (Nat.le_of_ble_eq_true rfl) (Nat.le_of_ble_eq_true rfl) (Nat.le_of_ble_eq_true rfl) dX6_init_23 (fun r2 H hP hD hS => ?_)
  refine tc_put (k := 5) (ci := 6) (N := 13) (T := TX6) (ty := tyX6 5) X rfl (fun w h => List.mem_cons_of_mem _ (List.mem_append_right _ h)) tyX6 tyX6_ok nmX6 hP hD hS (by decide) (List.mem_of_getElem? (i := 7) rfl) rfl rfl (tyX6_ok 5 (by decide)) rfl rfl (Nat.le_of_ble_eq_true rfl) dX6_init_25 (fun H locs hP hD hS => ?_)
  refine lv_aload_n X.1 X.2.1 dX6_init_28 rfl (lv_at hl 0 rfl) ?_
  refine lv_bipush (v := 92) X.1 X.2.1 dX6_init_29 (by decide) ?_
  refine tc_newa (atype := .int) (k := 0) (N' := 92) (a0 := (92, .inl fun _ => 0)) X (List.mem_of_getElem? (i := 4) rfl) rfl hP hD hS hA (fun cA => rfl) (by decide) rfl (Nat.le_of_ble_eq_true rfl) (Nat.le_of_ble_eq_true rfl) (Nat.le_of_ble_eq_true rfl) dX6_init_31 (fun r3 H hP hD hS => ?_)
  refine tc_put (k := 6) (ci := 6) (N := 13) (T := TX6) (ty := tyX6 6) X rfl (fun w h => List.mem_cons_of_mem _ (List.mem_append_right _ h)) tyX6 tyX6_ok nmX6 hP hD hS (by decide) (List.mem_of_getElem? (i := 8) rfl) rfl rfl (tyX6_ok 6 (by decide)) rfl rfl (Nat.le_of_ble_eq_true rfl) dX6_init_33 (fun H locs hP hD hS => ?_)
  refine lv_aload_n X.1 X.2.1 dX6_init_36 rfl (lv_at hl 0 rfl) ?_
  refine lv_sipush (v := 1288) X.1 X.2.1 dX6_init_37 (by decide) ?_
  refine tc_newa (atype := .int) (k := 0) (N' := 1288) (a0 := (1288, .inl fun _ => 0)) X (List.mem_of_getElem? (i := 4) rfl) rfl hP hD hS hA (fun cA => rfl) (by decide) rfl (Nat.le_of_ble_eq_true rfl) (Nat.le_of_ble_eq_true rfl) (Nat.le_of_ble_eq_true rfl) dX6_init_40 (fun r4 H hP hD hS => ?_)
  refine tc_put (k := 7) (ci := 6) (N := 13) (T := TX6) (ty := tyX6 7) X rfl (fun w h => List.mem_cons_of_mem _ (List.mem_append_right _ h)) tyX6 tyX6_ok nmX6 hP hD hS (by decide) (List.mem_of_getElem? (i := 9) rfl) rfl rfl (tyX6_ok 7 (by decide)) rfl rfl (Nat.le_of_ble_eq_true rfl) dX6_init_42 (fun H locs hP hD hS => ?_)
  refine lv_aload_n X.1 X.2.1 dX6_init_45 rfl (lv_at hl 0 rfl) ?_
  refine lv_sipush (v := 184) X.1 X.2.1 dX6_init_46 (by decide) ?_
  refine tc_newa (atype := .int) (k := 0) (N' := 184) (a0 := (184, .inl fun _ => 0)) X (List.mem_of_getElem? (i := 4) rfl) rfl hP hD hS hA (fun cA => rfl) (by decide) rfl (Nat.le_of_ble_eq_true rfl) (Nat.le_of_ble_eq_true rfl) (Nat.le_of_ble_eq_true rfl) dX6_init_49 (fun r5 H hP hD hS => ?_)
  refine tc_put (k := 9) (ci := 6) (N := 13) (T := TX6) (ty := tyX6 9) X rfl (fun w h => List.mem_cons_of_mem _ (List.mem_append_right _ h)) tyX6 tyX6_ok nmX6 hP hD hS (by decide) (List.mem_of_getElem? (i := 10) rfl) rfl rfl (tyX6_ok 9 (by decide)) rfl rfl (Nat.le_of_ble_eq_true rfl) dX6_init_51 (fun H locs hP hD hS => ?_)
  refine lv_aload_n X.1 X.2.1 dX6_init_54 rfl (lv_at hl 0 rfl) ?_
  refine lv_iconst (v := 2) X.1 X.2.1 dX6_init_55 (by decide) ?_
  refine tc_newa (atype := .boolean) (k := 2) (N' := 2) (a0 := (2, .inl fun _ => 0)) X (List.mem_of_getElem? (i := 11) rfl) rfl hP hD hS hA (fun cA => rfl) (by decide) rfl (Nat.le_of_ble_eq_true rfl) (Nat.le_of_ble_eq_true rfl) (Nat.le_of_ble_eq_true rfl) dX6_init_56 (fun r6 H hP hD hS => ?_)
  refine tc_put (k := 10) (ci := 6) (N := 13) (T := TX6) (ty := tyX6 10) X rfl (fun w h => List.mem_cons_of_mem _ (List.mem_append_right _ h)) tyX6 tyX6_ok nmX6 hP hD hS (by decide) (List.mem_of_getElem? (i := 12) rfl) rfl rfl (tyX6_ok 10 (by decide)) rfl rfl (Nat.le_of_ble_eq_true rfl) dX6_init_58 (fun H locs hP hD hS => ?_)
  refine lv_aload_n X.1 X.2.1 dX6_init_61 rfl (lv_at hl 0 rfl) ?_
  refine lv_sipush (v := 512) X.1 X.2.1 dX6_init_62 (by decide) ?_
  refine tc_newa (atype := .int) (k := 0) (N' := 512) (a0 := (512, .inl fun _ => 0)) X (List.mem_of_getElem? (i := 4) rfl) rfl hP hD hS hA (fun cA => rfl) (by decide) rfl (Nat.le_of_ble_eq_true rfl) (Nat.le_of_ble_eq_true rfl) (Nat.le_of_ble_eq_true rfl) dX6_init_65 (fun r7 H hP hD hS => ?_)
  refine tc_put (k := 11) (ci := 6) (N := 13) (T := TX6) (ty := tyX6 11) X rfl (fun w h => List.mem_cons_of_mem _ (List.mem_append_right _ h)) tyX6 tyX6_ok nmX6 hP hD hS (by decide) (List.mem_of_getElem? (i := 13) rfl) rfl rfl (tyX6_ok 11 (by decide)) rfl rfl (Nat.le_of_ble_eq_true rfl) dX6_init_67 (fun H locs hP hD hS => ?_)
  refine lv_aload_n X.1 X.2.1 dX6_init_70 rfl (lv_at hl 0 rfl) ?_
  refine lv_sipush (v := 512) X.1 X.2.1 dX6_init_71 (by decide) ?_
  refine tc_newa (atype := .int) (k := 0) (N' := 512) (a0 := (512, .inl fun _ => 0)) X (List.mem_of_getElem? (i := 4) rfl) rfl hP hD hS hA (fun cA => rfl) (by decide) rfl (Nat.le_of_ble_eq_true rfl) (Nat.le_of_ble_eq_true rfl) (Nat.le_of_ble_eq_true rfl) dX6_init_74 (fun r8 H hP hD hS => ?_)
  refine tc_put (k := 12) (ci := 6) (N := 13) (T := TX6) (ty := tyX6 12) X rfl (fun w h => List.mem_cons_of_mem _ (List.mem_append_right _ h)) tyX6 tyX6_ok nmX6 hP hD hS (by decide) (List.mem_of_getElem? (i := 14) rfl) rfl rfl (tyX6_ok 12 (by decide)) rfl rfl (Nat.le_of_ble_eq_true rfl) dX6_init_76 (fun H locs hP hD hS => ?_)
  have hP : va_P D vwCl (rV cy h0 r0 r1 r2 r3 r4 r5 r6 r7 r8) H := hP
  have hD : va_D A (rV cy h0 r0 r1 r2 r3 r4 r5 r6 r7 r8) := hD
  exact tc_ret X hP hD hS ⟨r0, r1, r2, r3, r4, r5, r6, r7, r8, rfl⟩ dX6_init_79
end C73
