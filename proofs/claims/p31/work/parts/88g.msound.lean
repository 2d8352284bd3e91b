abbrev rmL_sound : Room := { frames := 10, cells := 2798, slots := 16788, locals := 180 }
theorem kdL_sound : yL_sound.cls = RL ∧ yL_sound.cls ≠ "java/lang/invoke/MethodHandle" ∧ yL_sound.cls ≠ "java/lang/invoke/VarHandle" ∧ (parseMethodDescriptor yL_sound.desc).map (fun d => d.parameters.length) = some 1 := by decide +kernel
set_option maxRecDepth 100000 in
set_option maxHeartbeats 4000000 in
theorem bL_sound_596 {p : Program} {l : Launch} {e : Env} {s : State} {m : MethodId} {args : Array Value} {below : List Frame} {meth : Method} {c : Code} {D : va_G} {cy : Nat → ClassId} {ad0 : Nat → Nat} {ba0 : Nat → Prop} {z0 : aS} {res : Int32} (X : teC wsL_sound RL cL_sound 14 (some .boolean) D cy ba0 p s m args meth c) (hl0 : l.stackTraces = false) {n22 : Nat} {q22 : Int32 → Int32 → Int32 → Int32 → Int32 → Int32 → Int32 → Option Int32} (hq22 : ∀ (v1 : Int32) (v2 : Int32) (v3 : Int32) (v4 : Int32) (v5 : Int32) (v6 : Int32) (v7 : Int32) (H : Heap) (locs : List Loc) (ls : Array Slot) (ce sl : Nat), ce + (279 * n22 + 7) ≤ 2798 → sl + (1674 * n22 + 42) ≤ 16788 → aR D cy ad0 ba0 z0 H → va_S ba0 s.heap H locs → lv_has ls 14 [(0, .ref (ad0 360)), (1, .int v1), (2, .int v2), (3, .int v3), (4, .int v4), (5, .int v5), (6, .int v6), (7, .int v7)] → q22 v1 v2 v3 v4 v5 v6 v7 = some res → W p l e (headSpec wsL_sound rmL_sound).room s m args below meth c H locs ce sl (MQ below (va_Qi (fun a (_ : Unit) => a = res) (fun _ t => (aR D cy ad0 ba0 z0) t.heap) ba0) args s 2798 16788 ba0) (F0 m 22 ls [])) : ∀ (v1 : Int32) (v2 : Int32) (v3 : Int32) (v4 : Int32) (v5 : Int32) (v6 : Int32) (v7 : Int32) (v9 : Int32) (H : Heap) (locs : List Loc) (ls : Array Slot) (ce sl : Nat), ce + (279 * n22 + 8) ≤ 2798 → sl + (1674 * n22 + 48) ≤ 16788 → aR D cy ad0 ba0 z0 H → va_S ba0 s.heap H locs → lv_has ls 14 [(0, .ref (ad0 360)), (1, .int v1), (2, .int v2), (3, .int v3), (4, .int v4), (5, .int v5), (6, .int v6), (7, .int v7), (9, .int v9)] → hL_sound_596 z0 q22 v1 v2 v3 v4 v5 v6 v7 v9 = some res → W p l e (headSpec wsL_sound rmL_sound).room s m args below meth c H locs ce sl (MQ below (va_Qi (fun a (_ : Unit) => a = res) (fun _ t => (aR D cy ad0 ba0 z0) t.heap) ba0) args s 2798 16788 ba0) (F0 m 596 ls []) := by
  have hx := X.1
  have hb := X.2.1
  have hown := X.2.2.2.2.1
  intro v1 v2 v3 v4 v5 v6 v7 v9 H locs ls ce sl hb1_ hb2_ hW0 hS hl hf
  unfold hL_sound_596 at hf
  refine lv_iload hx hb dL_sound_596 (lv_at hl 6 rfl) ?_
  refine lv_if_eq (tgt := 618) hx hb dL_sound_598 (by decide) (fun c_37 => ?_) (fun c_37 => ?_)
  · replace hf := ite_t c_37 hf
    refine lv_iconst (v := (0 : Int32)) hx hb dL_sound_618 (by decide) ?_
    refine lv_istore (lv' := [(6, .int (0 : Int32)), (0, .ref (ad0 360)), (1, .int v1), (2, .int v2), (3, .int v3), (4, .int v4), (5, .int v5), (7, .int v7), (9, .int v9)]) hx hb dL_sound_619 hl (by decide) rfl (fun ls hl => ?_)
    refine lv_iinc (v := (v7 + (1 : Int32))) (lv' := [(7, .int (v7 + (1 : Int32))), (6, .int (0 : Int32)), (0, .ref (ad0 360)), (1, .int v1), (2, .int v2), (3, .int v3), (4, .int v4), (5, .int v5), (9, .int v9)]) hx hb dL_sound_621 hl (k := 7) rfl rfl (by decide) rfl (fun ls hl => ?_)
    refine lv_goto (tgt := 22) hx hb dL_sound_624 (by decide) ?_
    exact hq22 v1 v2 v3 v4 v5 (0 : Int32) (v7 + (1 : Int32)) _ _ _ _ _ (by omega) (by omega) hW0 hS (lv_sub hl [2, 3, 4, 5, 6, 7, 1, 0] rfl) hf
  · replace hf := ite_f c_37 hf
    refine lv_aload_n hx hb dL_sound_601 rfl (lv_at hl 0 rfl) ?_
    refine lv_iload hx hb dL_sound_602 (lv_at hl 7 rfl) ?_
    refine lv_bipush (v := (10 : Int32)) hx hb dL_sound_604 (by decide) ?_
    refine kA (As := [.ref (ad0 360), .int v7, .int (10 : Int32)]) (rest := []) X (fun q h => h) hW0 hS (tI_tryMember l D cy ad0 ba0 hl0 z0 v7 (10 : Int32)) (vx_cwSW (hh := [(0, 6, 7, 30), (0, 6, 11, 13)]) 3 X.2.2.2.2.2.1 gL_sound_L_tryMember rfl rfl rfl kdL_tryMember.2 ⟨(Nat.le_of_ble_eq_true rfl), (Nat.le_of_ble_eq_true rfl)⟩) rfl rfl hl.1 (Nat.le_of_ble_eq_true rfl) ⟨by show _ ≤ 2798; omega, by show _ ≤ 16788; omega⟩ dL_sound_606 (fun H locs hW0 hS hz hk => ?_)
    clear hz hk
    refine lv_iload hx hb dL_sound_609 (lv_at hl 8 rfl) ?_
    refine lv_icmp_ne (tgt := 618) hx hb dL_sound_611 (by decide) (fun c_38 => ?_) (fun c_38 => ?_)
    · replace hf := ite_f c_38 hf
      refine lv_iconst (v := (0 : Int32)) hx hb dL_sound_618 (by decide) ?_
      refine lv_istore (lv' := [(6, .int (0 : Int32)), (0, .ref (ad0 360)), (1, .int v1), (2, .int v2), (3, .int v3), (4, .int v4), (5, .int v5), (7, .int v7), (9, .int v9)]) hx hb dL_sound_619 hl (by decide) rfl (fun ls hl => ?_)
      refine lv_iinc (v := (v7 + (1 : Int32))) (lv' := [(7, .int (v7 + (1 : Int32))), (6, .int (0 : Int32)), (0, .ref (ad0 360)), (1, .int v1), (2, .int v2), (3, .int v3), (4, .int v4), (5, .int v5), (9, .int v9)]) hx hb dL_sound_621 hl (k := 7) rfl rfl (by decide) rfl (fun ls hl => ?_)
      refine lv_goto (tgt := 22) hx hb dL_sound_624 (by decide) ?_
      exact hq22 v1 v2 v3 v4 v5 (0 : Int32) (v7 + (1 : Int32)) _ _ _ _ _ (by omega) (by omega) hW0 hS (lv_sub hl [2, 3, 4, 5, 6, 7, 1, 0] rfl) hf
    · replace hf := ite_t c_38 hf
      refine lv_iconst (v := (1 : Int32)) hx hb dL_sound_614 (by decide) ?_
      refine lv_goto (tgt := 619) hx hb dL_sound_615 (by decide) ?_
      refine lv_istore (lv' := [(6, .int (1 : Int32)), (0, .ref (ad0 360)), (1, .int v1), (2, .int v2), (3, .int v3), (4, .int v4), (5, .int v5), (7, .int v7), (9, .int v9)]) hx hb dL_sound_619 hl (by decide) rfl (fun ls hl => ?_)
      refine lv_iinc (v := (v7 + (1 : Int32))) (lv' := [(7, .int (v7 + (1 : Int32))), (6, .int (1 : Int32)), (0, .ref (ad0 360)), (1, .int v1), (2, .int v2), (3, .int v3), (4, .int v4), (5, .int v5), (9, .int v9)]) hx hb dL_sound_621 hl (k := 7) rfl rfl (by decide) rfl (fun ls hl => ?_)
      refine lv_goto (tgt := 22) hx hb dL_sound_624 (by decide) ?_
      exact hq22 v1 v2 v3 v4 v5 (1 : Int32) (v7 + (1 : Int32)) _ _ _ _ _ (by omega) (by omega) hW0 hS (lv_sub hl [2, 3, 4, 5, 6, 7, 1, 0] rfl) hf
set_option maxRecDepth 100000 in
set_option maxHeartbeats 4000000 in
theorem bL_sound_575 {p : Program} {l : Launch} {e : Env} {s : State} {m : MethodId} {args : Array Value} {below : List Frame} {meth : Method} {c : Code} {D : va_G} {cy : Nat → ClassId} {ad0 : Nat → Nat} {ba0 : Nat → Prop} {z0 : aS} {res : Int32} (X : teC wsL_sound RL cL_sound 14 (some .boolean) D cy ba0 p s m args meth c) (hl0 : l.stackTraces = false) {n22 : Nat} {q22 : Int32 → Int32 → Int32 → Int32 → Int32 → Int32 → Int32 → Option Int32} (hq22 : ∀ (v1 : Int32) (v2 : Int32) (v3 : Int32) (v4 : Int32) (v5 : Int32) (v6 : Int32) (v7 : Int32) (H : Heap) (locs : List Loc) (ls : Array Slot) (ce sl : Nat), ce + (279 * n22 + 7) ≤ 2798 → sl + (1674 * n22 + 42) ≤ 16788 → aR D cy ad0 ba0 z0 H → va_S ba0 s.heap H locs → lv_has ls 14 [(0, .ref (ad0 360)), (1, .int v1), (2, .int v2), (3, .int v3), (4, .int v4), (5, .int v5), (6, .int v6), (7, .int v7)] → q22 v1 v2 v3 v4 v5 v6 v7 = some res → W p l e (headSpec wsL_sound rmL_sound).room s m args below meth c H locs ce sl (MQ below (va_Qi (fun a (_ : Unit) => a = res) (fun _ t => (aR D cy ad0 ba0 z0) t.heap) ba0) args s 2798 16788 ba0) (F0 m 22 ls [])) {n175 : Nat} {q175 : Int32 → Int32 → Int32 → Int32 → Int32 → Int32 → Int32 → Int32 → Int32 → Int32 → Option Int32} (hq175 : ∀ (v1 : Int32) (v2 : Int32) (v3 : Int32) (v4 : Int32) (v5 : Int32) (v6 : Int32) (v7 : Int32) (v8 : Int32) (v9 : Int32) (v10 : Int32) (H : Heap) (locs : List Loc) (ls : Array Slot) (ce sl : Nat), ce + (279 * n22 + 27 * n175 + 8) ≤ 2798 → sl + (1674 * n22 + 162 * n175 + 48) ≤ 16788 → aR D cy ad0 ba0 z0 H → va_S ba0 s.heap H locs → lv_has ls 14 [(0, .ref (ad0 360)), (1, .int v1), (2, .int v2), (3, .int v3), (4, .int v4), (5, .int v5), (6, .int v6), (7, .int v7), (8, .int v8), (9, .int v9), (10, .int v10)] → q175 v1 v2 v3 v4 v5 v6 v7 v8 v9 v10 = some res → W p l e (headSpec wsL_sound rmL_sound).room s m args below meth c H locs ce sl (MQ below (va_Qi (fun a (_ : Unit) => a = res) (fun _ t => (aR D cy ad0 ba0 z0) t.heap) ba0) args s 2798 16788 ba0) (F0 m 175 ls [])) : ∀ (v1 : Int32) (v2 : Int32) (v3 : Int32) (v4 : Int32) (v5 : Int32) (v7 : Int32) (v8 : Int32) (v9 : Int32) (v10 : Int32) (v13 : Int32) (y0 : Int32) (H : Heap) (locs : List Loc) (ls : Array Slot) (ce sl : Nat), ce + (279 * n22 + 27 * n175 + 8) ≤ 2798 → sl + (1674 * n22 + 162 * n175 + 48) ≤ 16788 → aR D cy ad0 ba0 z0 H → va_S ba0 s.heap H locs → lv_has ls 14 [(0, .ref (ad0 360)), (1, .int v1), (2, .int v2), (3, .int v3), (4, .int v4), (5, .int v5), (7, .int v7), (8, .int v8), (9, .int v9), (10, .int v10), (13, .int v13)] → hL_sound_575 z0 q22 q175 v1 v2 v3 v4 v5 v7 v8 v9 v10 v13 y0 = some res → W p l e (headSpec wsL_sound rmL_sound).room s m args below meth c H locs ce sl (MQ below (va_Qi (fun a (_ : Unit) => a = res) (fun _ t => (aR D cy ad0 ba0 z0) t.heap) ba0) args s 2798 16788 ba0) (F0 m 575 ls [.int y0]) := by
  have hx := X.1
  have hb := X.2.1
  have hown := X.2.2.2.2.1
  intro v1 v2 v3 v4 v5 v7 v8 v9 v10 v13 y0 H locs ls ce sl hb1_ hb2_ hW0 hS hl hf
  unfold hL_sound_575 at hf
  refine lv_istore (lv' := [(6, .int y0), (0, .ref (ad0 360)), (1, .int v1), (2, .int v2), (3, .int v3), (4, .int v4), (5, .int v5), (7, .int v7), (8, .int v8), (9, .int v9), (10, .int v10), (13, .int v13)]) hx hb dL_sound_575 hl (by decide) rfl (fun ls hl => ?_)
  refine lv_iload_n hx hb dL_sound_577 rfl (lv_at hl 4 rfl) ?_
  refine lv_iload hx hb dL_sound_578 (lv_at hl 11 rfl) ?_
  refine lv_if_eq (tgt := 587) hx hb dL_sound_580 (by decide) (fun c_66 => ?_) (fun c_66 => ?_)
  · replace hf := ite_t c_66 hf
    refine lv_iconst (v := (0 : Int32)) hx hb dL_sound_587 (by decide) ?_
    refine lv_iadd hx hb dL_sound_588 ?_
    refine lv_istore_n (lv' := [(3, .int (v3 + (0 : Int32))), (6, .int y0), (0, .ref (ad0 360)), (1, .int v1), (2, .int v2), (4, .int v4), (5, .int v5), (7, .int v7), (8, .int v8), (9, .int v9), (10, .int v10), (13, .int v13)]) hx hb dL_sound_589 rfl hl (by decide) rfl (fun ls hl => ?_)
    refine lv_iinc (v := (v10 + (1 : Int32))) (lv' := [(10, .int (v10 + (1 : Int32))), (3, .int (v3 + (0 : Int32))), (6, .int y0), (0, .ref (ad0 360)), (1, .int v1), (2, .int v2), (4, .int v4), (5, .int v5), (7, .int v7), (8, .int v8), (9, .int v9), (13, .int v13)]) hx hb dL_sound_590 hl (k := 10) rfl rfl (by decide) rfl (fun ls hl => ?_)
    refine lv_goto (tgt := 175) hx hb dL_sound_593 (by decide) ?_
    exact hq175 v1 v2 (v3 + (0 : Int32)) v4 v5 y0 v7 v8 v9 (v10 + (1 : Int32)) _ _ _ _ _ (by omega) (by omega) hW0 hS (lv_sub hl [3, 4, 5, 1, 6, 7, 2, 8, 9, 10, 0] rfl) hf
  · replace hf := ite_f c_66 hf
    refine lv_iconst (v := (1 : Int32)) hx hb dL_sound_583 (by decide) ?_
    refine lv_goto (tgt := 588) hx hb dL_sound_584 (by decide) ?_
    refine lv_iadd hx hb dL_sound_588 ?_
    refine lv_istore_n (lv' := [(3, .int (v3 + (1 : Int32))), (6, .int y0), (0, .ref (ad0 360)), (1, .int v1), (2, .int v2), (4, .int v4), (5, .int v5), (7, .int v7), (8, .int v8), (9, .int v9), (10, .int v10), (13, .int v13)]) hx hb dL_sound_589 rfl hl (by decide) rfl (fun ls hl => ?_)
    refine lv_iinc (v := (v10 + (1 : Int32))) (lv' := [(10, .int (v10 + (1 : Int32))), (3, .int (v3 + (1 : Int32))), (6, .int y0), (0, .ref (ad0 360)), (1, .int v1), (2, .int v2), (4, .int v4), (5, .int v5), (7, .int v7), (8, .int v8), (9, .int v9), (13, .int v13)]) hx hb dL_sound_590 hl (k := 10) rfl rfl (by decide) rfl (fun ls hl => ?_)
    refine lv_goto (tgt := 175) hx hb dL_sound_593 (by decide) ?_
    exact hq175 v1 v2 (v3 + (1 : Int32)) v4 v5 y0 v7 v8 v9 (v10 + (1 : Int32)) _ _ _ _ _ (by omega) (by omega) hW0 hS (lv_sub hl [3, 4, 5, 1, 6, 7, 2, 8, 9, 10, 0] rfl) hf
set_option maxRecDepth 100000 in
set_option maxHeartbeats 4000000 in
theorem bL_sound_535 {p : Program} {l : Launch} {e : Env} {s : State} {m : MethodId} {args : Array Value} {below : List Frame} {meth : Method} {c : Code} {D : va_G} {cy : Nat → ClassId} {ad0 : Nat → Nat} {ba0 : Nat → Prop} {z0 : aS} {res : Int32} (X : teC wsL_sound RL cL_sound 14 (some .boolean) D cy ba0 p s m args meth c) (hl0 : l.stackTraces = false) {n22 : Nat} {q22 : Int32 → Int32 → Int32 → Int32 → Int32 → Int32 → Int32 → Option Int32} (hq22 : ∀ (v1 : Int32) (v2 : Int32) (v3 : Int32) (v4 : Int32) (v5 : Int32) (v6 : Int32) (v7 : Int32) (H : Heap) (locs : List Loc) (ls : Array Slot) (ce sl : Nat), ce + (279 * n22 + 7) ≤ 2798 → sl + (1674 * n22 + 42) ≤ 16788 → aR D cy ad0 ba0 z0 H → va_S ba0 s.heap H locs → lv_has ls 14 [(0, .ref (ad0 360)), (1, .int v1), (2, .int v2), (3, .int v3), (4, .int v4), (5, .int v5), (6, .int v6), (7, .int v7)] → q22 v1 v2 v3 v4 v5 v6 v7 = some res → W p l e (headSpec wsL_sound rmL_sound).room s m args below meth c H locs ce sl (MQ below (va_Qi (fun a (_ : Unit) => a = res) (fun _ t => (aR D cy ad0 ba0 z0) t.heap) ba0) args s 2798 16788 ba0) (F0 m 22 ls [])) {n175 : Nat} {q175 : Int32 → Int32 → Int32 → Int32 → Int32 → Int32 → Int32 → Int32 → Int32 → Int32 → Option Int32} (hq175 : ∀ (v1 : Int32) (v2 : Int32) (v3 : Int32) (v4 : Int32) (v5 : Int32) (v6 : Int32) (v7 : Int32) (v8 : Int32) (v9 : Int32) (v10 : Int32) (H : Heap) (locs : List Loc) (ls : Array Slot) (ce sl : Nat), ce + (279 * n22 + 27 * n175 + 8) ≤ 2798 → sl + (1674 * n22 + 162 * n175 + 48) ≤ 16788 → aR D cy ad0 ba0 z0 H → va_S ba0 s.heap H locs → lv_has ls 14 [(0, .ref (ad0 360)), (1, .int v1), (2, .int v2), (3, .int v3), (4, .int v4), (5, .int v5), (6, .int v6), (7, .int v7), (8, .int v8), (9, .int v9), (10, .int v10)] → q175 v1 v2 v3 v4 v5 v6 v7 v8 v9 v10 = some res → W p l e (headSpec wsL_sound rmL_sound).room s m args below meth c H locs ce sl (MQ below (va_Qi (fun a (_ : Unit) => a = res) (fun _ t => (aR D cy ad0 ba0 z0) t.heap) ba0) args s 2798 16788 ba0) (F0 m 175 ls [])) : ∀ (v1 : Int32) (v2 : Int32) (v3 : Int32) (v5 : Int32) (v6 : Int32) (v7 : Int32) (v8 : Int32) (v9 : Int32) (v10 : Int32) (v13 : Int32) (y0 : Int32) (y1 : Int32) (H : Heap) (locs : List Loc) (ls : Array Slot) (ce sl : Nat), ce + (279 * n22 + 27 * n175 + 10) ≤ 2798 → sl + (1674 * n22 + 162 * n175 + 60) ≤ 16788 → aR D cy ad0 ba0 z0 H → va_S ba0 s.heap H locs → lv_has ls 14 [(0, .ref (ad0 360)), (1, .int v1), (2, .int v2), (3, .int v3), (5, .int v5), (6, .int v6), (7, .int v7), (8, .int v8), (9, .int v9), (10, .int v10), (13, .int v13)] → hL_sound_535 z0 q22 q175 v1 v2 v3 v5 v6 v7 v8 v9 v10 v13 y0 y1 = some res → W p l e (headSpec wsL_sound rmL_sound).room s m args below meth c H locs ce sl (MQ below (va_Qi (fun a (_ : Unit) => a = res) (fun _ t => (aR D cy ad0 ba0 z0) t.heap) ba0) args s 2798 16788 ba0) (F0 m 535 ls [.int y0, .int y1]) := by
  have hx := X.1
  have hb := X.2.1
  have hown := X.2.2.2.2.1
  intro v1 v2 v3 v5 v6 v7 v8 v9 v10 v13 y0 y1 H locs ls ce sl hb1_ hb2_ hW0 hS hl hf
  unfold hL_sound_535 at hf
  refine lv_iadd hx hb dL_sound_535 ?_
  refine lv_istore (lv' := [(4, .int (y1 + y0)), (0, .ref (ad0 360)), (1, .int v1), (2, .int v2), (3, .int v3), (5, .int v5), (6, .int v6), (7, .int v7), (8, .int v8), (9, .int v9), (10, .int v10), (13, .int v13)]) hx hb dL_sound_536 hl (by decide) rfl (fun ls hl => ?_)
  refine lv_iload hx hb dL_sound_538 (lv_at hl 6 rfl) ?_
  refine lv_if_eq (tgt := 574) hx hb dL_sound_540 (by decide) (fun c_62 => ?_) (fun c_62 => ?_)
  · replace hf := ite_t c_62 hf
    refine lv_iconst (v := (0 : Int32)) hx hb dL_sound_574 (by decide) ?_
    exact bL_sound_575 (z0 := z0) X hl0 hq22 hq175 v1 v2 v3 (y1 + y0) v5 v7 v8 v9 v10 v13 (0 : Int32) _ _ _ _ _ (by omega) (by omega) hW0 hS (lv_sub hl [1, 2, 3, 4, 0, 5, 7, 8, 9, 10, 11] rfl) hf
  · replace hf := ite_f c_62 hf
    refine lv_iload hx hb dL_sound_543 (lv_at hl 11 rfl) ?_
    refine lv_if_eq (tgt := 570) hx hb dL_sound_545 (by decide) (fun c_63 => ?_) (fun c_63 => ?_)
    · replace hf := ite_t c_63 hf
      refine lv_iconst (v := (1 : Int32)) hx hb dL_sound_570 (by decide) ?_
      refine lv_goto (tgt := 575) hx hb dL_sound_571 (by decide) ?_
      exact bL_sound_575 (z0 := z0) X hl0 hq22 hq175 v1 v2 v3 (y1 + y0) v5 v7 v8 v9 v10 v13 (1 : Int32) _ _ _ _ _ (by omega) (by omega) hW0 hS (lv_sub hl [1, 2, 3, 4, 0, 5, 7, 8, 9, 10, 11] rfl) hf
    · replace hf := ite_f c_63 hf
      refine lv_aload_n hx hb dL_sound_548 rfl (lv_at hl 1 rfl) ?_
      refine lv_iload_n hx hb dL_sound_549 rfl (lv_at hl 4 rfl) ?_
      refine lv_iconst (v := (0 : Int32)) hx hb dL_sound_550 (by decide) ?_
      refine kA (As := [.ref (ad0 360), .int v3, .int (0 : Int32)]) (rest := []) X (fun q h => h) hW0 hS (tI_tryBlocking l D cy ad0 ba0 hl0 z0 v3 (0 : Int32)) (vx_cwSW (hh := [(0, 6, 7, 13)]) 3 X.2.2.2.2.2.1 gL_sound_L_tryBlocking rfl rfl rfl kdL_tryBlocking.2 ⟨(Nat.le_of_ble_eq_true rfl), (Nat.le_of_ble_eq_true rfl)⟩) rfl rfl hl.1 (Nat.le_of_ble_eq_true rfl) ⟨by show _ ≤ 2798; omega, by show _ ≤ 16788; omega⟩ dL_sound_551 (fun H locs hW0 hS hz hk => ?_)
      clear hz hk
      refine lv_iload hx hb dL_sound_554 (lv_at hl 7 rfl) ?_
      refine lv_icmp_ne (tgt := 574) hx hb dL_sound_556 (by decide) (fun c_64 => ?_) (fun c_64 => ?_)
      · replace hf := ite_f c_64 hf
        refine lv_iconst (v := (0 : Int32)) hx hb dL_sound_574 (by decide) ?_
        exact bL_sound_575 (z0 := z0) X hl0 hq22 hq175 v1 v2 v3 (y1 + y0) v5 v7 v8 v9 v10 v13 (0 : Int32) _ _ _ _ _ (by omega) (by omega) hW0 hS (lv_sub hl [1, 2, 3, 4, 0, 5, 7, 8, 9, 10, 11] rfl) hf
      · replace hf := ite_t c_64 hf
        refine lv_aload_n hx hb dL_sound_559 rfl (lv_at hl 1 rfl) ?_
        refine lv_iload_n hx hb dL_sound_560 rfl (lv_at hl 4 rfl) ?_
        refine lv_iconst (v := (1 : Int32)) hx hb dL_sound_561 (by decide) ?_
        refine kA (As := [.ref (ad0 360), .int v3, .int (1 : Int32)]) (rest := []) X (fun q h => h) hW0 hS (tI_tryBlocking l D cy ad0 ba0 hl0 z0 v3 (1 : Int32)) (vx_cwSW (hh := [(0, 6, 7, 13)]) 3 X.2.2.2.2.2.1 gL_sound_L_tryBlocking rfl rfl rfl kdL_tryBlocking.2 ⟨(Nat.le_of_ble_eq_true rfl), (Nat.le_of_ble_eq_true rfl)⟩) rfl rfl hl.1 (Nat.le_of_ble_eq_true rfl) ⟨by show _ ≤ 2798; omega, by show _ ≤ 16788; omega⟩ dL_sound_562 (fun H locs hW0 hS hz hk => ?_)
        clear hz hk
        refine lv_iload hx hb dL_sound_565 (lv_at hl 10 rfl) ?_
        refine lv_icmp_ne (tgt := 574) hx hb dL_sound_567 (by decide) (fun c_65 => ?_) (fun c_65 => ?_)
        · replace hf := ite_f c_65 hf
          refine lv_iconst (v := (0 : Int32)) hx hb dL_sound_574 (by decide) ?_
          exact bL_sound_575 (z0 := z0) X hl0 hq22 hq175 v1 v2 v3 (y1 + y0) v5 v7 v8 v9 v10 v13 (0 : Int32) _ _ _ _ _ (by omega) (by omega) hW0 hS (lv_sub hl [1, 2, 3, 4, 0, 5, 7, 8, 9, 10, 11] rfl) hf
        · replace hf := ite_t c_65 hf
          refine lv_iconst (v := (1 : Int32)) hx hb dL_sound_570 (by decide) ?_
          refine lv_goto (tgt := 575) hx hb dL_sound_571 (by decide) ?_
          exact bL_sound_575 (z0 := z0) X hl0 hq22 hq175 v1 v2 v3 (y1 + y0) v5 v7 v8 v9 v10 v13 (1 : Int32) _ _ _ _ _ (by omega) (by omega) hW0 hS (lv_sub hl [1, 2, 3, 4, 0, 5, 7, 8, 9, 10, 11] rfl) hf
set_option maxRecDepth 100000 in
set_option maxHeartbeats 4000000 in
theorem bL_sound_496 {p : Program} {l : Launch} {e : Env} {s : State} {m : MethodId} {args : Array Value} {below : List Frame} {meth : Method} {c : Code} {D : va_G} {cy : Nat → ClassId} {ad0 : Nat → Nat} {ba0 : Nat → Prop} {z0 : aS} {res : Int32} (X : teC wsL_sound RL cL_sound 14 (some .boolean) D cy ba0 p s m args meth c) (hl0 : l.stackTraces = false) {n22 : Nat} {q22 : Int32 → Int32 → Int32 → Int32 → Int32 → Int32 → Int32 → Option Int32} (hq22 : ∀ (v1 : Int32) (v2 : Int32) (v3 : Int32) (v4 : Int32) (v5 : Int32) (v6 : Int32) (v7 : Int32) (H : Heap) (locs : List Loc) (ls : Array Slot) (ce sl : Nat), ce + (279 * n22 + 7) ≤ 2798 → sl + (1674 * n22 + 42) ≤ 16788 → aR D cy ad0 ba0 z0 H → va_S ba0 s.heap H locs → lv_has ls 14 [(0, .ref (ad0 360)), (1, .int v1), (2, .int v2), (3, .int v3), (4, .int v4), (5, .int v5), (6, .int v6), (7, .int v7)] → q22 v1 v2 v3 v4 v5 v6 v7 = some res → W p l e (headSpec wsL_sound rmL_sound).room s m args below meth c H locs ce sl (MQ below (va_Qi (fun a (_ : Unit) => a = res) (fun _ t => (aR D cy ad0 ba0 z0) t.heap) ba0) args s 2798 16788 ba0) (F0 m 22 ls [])) {n175 : Nat} {q175 : Int32 → Int32 → Int32 → Int32 → Int32 → Int32 → Int32 → Int32 → Int32 → Int32 → Option Int32} (hq175 : ∀ (v1 : Int32) (v2 : Int32) (v3 : Int32) (v4 : Int32) (v5 : Int32) (v6 : Int32) (v7 : Int32) (v8 : Int32) (v9 : Int32) (v10 : Int32) (H : Heap) (locs : List Loc) (ls : Array Slot) (ce sl : Nat), ce + (279 * n22 + 27 * n175 + 8) ≤ 2798 → sl + (1674 * n22 + 162 * n175 + 48) ≤ 16788 → aR D cy ad0 ba0 z0 H → va_S ba0 s.heap H locs → lv_has ls 14 [(0, .ref (ad0 360)), (1, .int v1), (2, .int v2), (3, .int v3), (4, .int v4), (5, .int v5), (6, .int v6), (7, .int v7), (8, .int v8), (9, .int v9), (10, .int v10)] → q175 v1 v2 v3 v4 v5 v6 v7 v8 v9 v10 = some res → W p l e (headSpec wsL_sound rmL_sound).room s m args below meth c H locs ce sl (MQ below (va_Qi (fun a (_ : Unit) => a = res) (fun _ t => (aR D cy ad0 ba0 z0) t.heap) ba0) args s 2798 16788 ba0) (F0 m 175 ls [])) : ∀ (v1 : Int32) (v3 : Int32) (v4 : Int32) (v5 : Int32) (v6 : Int32) (v7 : Int32) (v8 : Int32) (v9 : Int32) (v10 : Int32) (v11 : Int32) (v13 : Int32) (y0 : Int32) (y1 : Int32) (H : Heap) (locs : List Loc) (ls : Array Slot) (ce sl : Nat), ce + (279 * n22 + 27 * n175 + 11) ≤ 2798 → sl + (1674 * n22 + 162 * n175 + 66) ≤ 16788 → aR D cy ad0 ba0 z0 H → va_S ba0 s.heap H locs → lv_has ls 14 [(0, .ref (ad0 360)), (1, .int v1), (3, .int v3), (4, .int v4), (5, .int v5), (6, .int v6), (7, .int v7), (8, .int v8), (9, .int v9), (10, .int v10), (11, .int v11), (13, .int v13)] → hL_sound_496 z0 q22 q175 v1 v3 v4 v5 v6 v7 v8 v9 v10 v11 v13 y0 y1 = some res → W p l e (headSpec wsL_sound rmL_sound).room s m args below meth c H locs ce sl (MQ below (va_Qi (fun a (_ : Unit) => a = res) (fun _ t => (aR D cy ad0 ba0 z0) t.heap) ba0) args s 2798 16788 ba0) (F0 m 496 ls [.int y0, .int y1]) := by
  have hx := X.1
  have hb := X.2.1
  have hown := X.2.2.2.2.1
  intro v1 v3 v4 v5 v6 v7 v8 v9 v10 v11 v13 y0 y1 H locs ls ce sl hb1_ hb2_ hW0 hS hl hf
  unfold hL_sound_496 at hf
  refine lv_iadd hx hb dL_sound_496 ?_
  refine lv_istore_n (lv' := [(2, .int (y1 + y0)), (0, .ref (ad0 360)), (1, .int v1), (3, .int v3), (4, .int v4), (5, .int v5), (6, .int v6), (7, .int v7), (8, .int v8), (9, .int v9), (10, .int v10), (11, .int v11), (13, .int v13)]) hx hb dL_sound_497 rfl hl (by decide) rfl (fun ls hl => ?_)
  refine lv_iload hx hb dL_sound_498 (lv_at hl 5 rfl) ?_
  refine lv_iload hx hb dL_sound_500 (lv_at hl 8 rfl) ?_
  refine lv_iload hx hb dL_sound_502 (lv_at hl 10 rfl) ?_
  refine lv_icmp_ne (tgt := 519) hx hb dL_sound_504 (by decide) (fun c_59 => ?_) (fun c_59 => ?_)
  · replace hf := ite_f c_59 hf
    refine lv_iconst (v := (0 : Int32)) hx hb dL_sound_519 (by decide) ?_
    refine lv_iadd hx hb dL_sound_520 ?_
    refine lv_istore (lv' := [(5, .int (v5 + (0 : Int32))), (2, .int (y1 + y0)), (0, .ref (ad0 360)), (1, .int v1), (3, .int v3), (4, .int v4), (6, .int v6), (7, .int v7), (8, .int v8), (9, .int v9), (10, .int v10), (11, .int v11), (13, .int v13)]) hx hb dL_sound_521 hl (by decide) rfl (fun ls hl => ?_)
    refine lv_iload hx hb dL_sound_523 (lv_at hl 5 rfl) ?_
    refine lv_iload hx hb dL_sound_525 (lv_at hl 11 rfl) ?_
    refine lv_if_eq (tgt := 534) hx hb dL_sound_527 (by decide) (fun c_60 => ?_) (fun c_60 => ?_)
    · replace hf := ite_t c_60 hf
      refine lv_iconst (v := (0 : Int32)) hx hb dL_sound_534 (by decide) ?_
      exact bL_sound_535 (z0 := z0) X hl0 hq22 hq175 v1 (y1 + y0) v3 (v5 + (0 : Int32)) v6 v7 v8 v9 v10 v13 (0 : Int32) v4 _ _ _ _ _ (by omega) (by omega) hW0 hS (lv_sub hl [2, 3, 1, 4, 0, 6, 7, 8, 9, 10, 12] rfl) hf
    · replace hf := ite_f c_60 hf
      refine lv_iconst (v := (1 : Int32)) hx hb dL_sound_530 (by decide) ?_
      refine lv_goto (tgt := 535) hx hb dL_sound_531 (by decide) ?_
      exact bL_sound_535 (z0 := z0) X hl0 hq22 hq175 v1 (y1 + y0) v3 (v5 + (0 : Int32)) v6 v7 v8 v9 v10 v13 (1 : Int32) v4 _ _ _ _ _ (by omega) (by omega) hW0 hS (lv_sub hl [2, 3, 1, 4, 0, 6, 7, 8, 9, 10, 12] rfl) hf
  · replace hf := ite_t c_59 hf
    refine lv_aload_n hx hb dL_sound_507 rfl (lv_at hl 1 rfl) ?_
    refine lv_iload hx hb dL_sound_508 (lv_at hl 7 rfl) ?_
    refine lv_iload hx hb dL_sound_510 (lv_at hl 10 rfl) ?_
    refine lv_iconst (v := (1 : Int32)) hx hb dL_sound_512 (by decide) ?_
    refine kA (As := [.ref (ad0 360), .int v7, .int v10, .int (1 : Int32)]) (rest := [.int v5]) X (fun q h => h) hW0 hS (tI_tryBoth l D cy ad0 ba0 hl0 z0 v7 v10 (1 : Int32)) (vx_cwSW (hh := [(0, 7, 8, 30), (0, 7, 13, 13)]) 4 X.2.2.2.2.2.1 gL_sound_L_tryBoth rfl rfl rfl kdL_tryBoth.2 ⟨(Nat.le_of_ble_eq_true rfl), (Nat.le_of_ble_eq_true rfl)⟩) rfl rfl hl.1 (Nat.le_of_ble_eq_true rfl) ⟨by show _ ≤ 2798; omega, by show _ ≤ 16788; omega⟩ dL_sound_513 (fun H locs hW0 hS hz hk => ?_)
    clear hz hk
    refine lv_goto (tgt := 520) hx hb dL_sound_516 (by decide) ?_
    refine lv_iadd hx hb dL_sound_520 ?_
    refine lv_istore (lv' := [(5, .int (v5 + (A_tryBoth z0 v7 v10 (1 : Int32)))), (2, .int (y1 + y0)), (0, .ref (ad0 360)), (1, .int v1), (3, .int v3), (4, .int v4), (6, .int v6), (7, .int v7), (8, .int v8), (9, .int v9), (10, .int v10), (11, .int v11), (13, .int v13)]) hx hb dL_sound_521 hl (by decide) rfl (fun ls hl => ?_)
    refine lv_iload hx hb dL_sound_523 (lv_at hl 5 rfl) ?_
    refine lv_iload hx hb dL_sound_525 (lv_at hl 11 rfl) ?_
    refine lv_if_eq (tgt := 534) hx hb dL_sound_527 (by decide) (fun c_61 => ?_) (fun c_61 => ?_)
    · replace hf := ite_t c_61 hf
      refine lv_iconst (v := (0 : Int32)) hx hb dL_sound_534 (by decide) ?_
      exact bL_sound_535 (z0 := z0) X hl0 hq22 hq175 v1 (y1 + y0) v3 (v5 + (A_tryBoth z0 v7 v10 (1 : Int32))) v6 v7 v8 v9 v10 v13 (0 : Int32) v4 _ _ _ _ _ (by omega) (by omega) hW0 hS (lv_sub hl [2, 3, 1, 4, 0, 6, 7, 8, 9, 10, 12] rfl) hf
    · replace hf := ite_f c_61 hf
      refine lv_iconst (v := (1 : Int32)) hx hb dL_sound_530 (by decide) ?_
      refine lv_goto (tgt := 535) hx hb dL_sound_531 (by decide) ?_
      exact bL_sound_535 (z0 := z0) X hl0 hq22 hq175 v1 (y1 + y0) v3 (v5 + (A_tryBoth z0 v7 v10 (1 : Int32))) v6 v7 v8 v9 v10 v13 (1 : Int32) v4 _ _ _ _ _ (by omega) (by omega) hW0 hS (lv_sub hl [2, 3, 1, 4, 0, 6, 7, 8, 9, 10, 12] rfl) hf
set_option maxRecDepth 100000 in
set_option maxHeartbeats 4000000 in
theorem bL_sound_474 {p : Program} {l : Launch} {e : Env} {s : State} {m : MethodId} {args : Array Value} {below : List Frame} {meth : Method} {c : Code} {D : va_G} {cy : Nat → ClassId} {ad0 : Nat → Nat} {ba0 : Nat → Prop} {z0 : aS} {res : Int32} (X : teC wsL_sound RL cL_sound 14 (some .boolean) D cy ba0 p s m args meth c) (hl0 : l.stackTraces = false) {n22 : Nat} {q22 : Int32 → Int32 → Int32 → Int32 → Int32 → Int32 → Int32 → Option Int32} (hq22 : ∀ (v1 : Int32) (v2 : Int32) (v3 : Int32) (v4 : Int32) (v5 : Int32) (v6 : Int32) (v7 : Int32) (H : Heap) (locs : List Loc) (ls : Array Slot) (ce sl : Nat), ce + (279 * n22 + 7) ≤ 2798 → sl + (1674 * n22 + 42) ≤ 16788 → aR D cy ad0 ba0 z0 H → va_S ba0 s.heap H locs → lv_has ls 14 [(0, .ref (ad0 360)), (1, .int v1), (2, .int v2), (3, .int v3), (4, .int v4), (5, .int v5), (6, .int v6), (7, .int v7)] → q22 v1 v2 v3 v4 v5 v6 v7 = some res → W p l e (headSpec wsL_sound rmL_sound).room s m args below meth c H locs ce sl (MQ below (va_Qi (fun a (_ : Unit) => a = res) (fun _ t => (aR D cy ad0 ba0 z0) t.heap) ba0) args s 2798 16788 ba0) (F0 m 22 ls [])) {n175 : Nat} {q175 : Int32 → Int32 → Int32 → Int32 → Int32 → Int32 → Int32 → Int32 → Int32 → Int32 → Option Int32} (hq175 : ∀ (v1 : Int32) (v2 : Int32) (v3 : Int32) (v4 : Int32) (v5 : Int32) (v6 : Int32) (v7 : Int32) (v8 : Int32) (v9 : Int32) (v10 : Int32) (H : Heap) (locs : List Loc) (ls : Array Slot) (ce sl : Nat), ce + (279 * n22 + 27 * n175 + 8) ≤ 2798 → sl + (1674 * n22 + 162 * n175 + 48) ≤ 16788 → aR D cy ad0 ba0 z0 H → va_S ba0 s.heap H locs → lv_has ls 14 [(0, .ref (ad0 360)), (1, .int v1), (2, .int v2), (3, .int v3), (4, .int v4), (5, .int v5), (6, .int v6), (7, .int v7), (8, .int v8), (9, .int v9), (10, .int v10)] → q175 v1 v2 v3 v4 v5 v6 v7 v8 v9 v10 = some res → W p l e (headSpec wsL_sound rmL_sound).room s m args below meth c H locs ce sl (MQ below (va_Qi (fun a (_ : Unit) => a = res) (fun _ t => (aR D cy ad0 ba0 z0) t.heap) ba0) args s 2798 16788 ba0) (F0 m 175 ls [])) : ∀ (v1 : Int32) (v2 : Int32) (v3 : Int32) (v4 : Int32) (v5 : Int32) (v7 : Int32) (v8 : Int32) (v9 : Int32) (v10 : Int32) (v11 : Int32) (v13 : Int32) (y0 : Int32) (H : Heap) (locs : List Loc) (ls : Array Slot) (ce sl : Nat), ce + (279 * n22 + 27 * n175 + 11) ≤ 2798 → sl + (1674 * n22 + 162 * n175 + 66) ≤ 16788 → aR D cy ad0 ba0 z0 H → va_S ba0 s.heap H locs → lv_has ls 14 [(0, .ref (ad0 360)), (1, .int v1), (2, .int v2), (3, .int v3), (4, .int v4), (5, .int v5), (7, .int v7), (8, .int v8), (9, .int v9), (10, .int v10), (11, .int v11), (13, .int v13)] → hL_sound_474 z0 q22 q175 v1 v2 v3 v4 v5 v7 v8 v9 v10 v11 v13 y0 = some res → W p l e (headSpec wsL_sound rmL_sound).room s m args below meth c H locs ce sl (MQ below (va_Qi (fun a (_ : Unit) => a = res) (fun _ t => (aR D cy ad0 ba0 z0) t.heap) ba0) args s 2798 16788 ba0) (F0 m 474 ls [.int y0]) := by
  have hx := X.1
  have hb := X.2.1
  have hown := X.2.2.2.2.1
  intro v1 v2 v3 v4 v5 v7 v8 v9 v10 v11 v13 y0 H locs ls ce sl hb1_ hb2_ hW0 hS hl hf
  unfold hL_sound_474 at hf
  refine lv_istore (lv' := [(6, .int y0), (0, .ref (ad0 360)), (1, .int v1), (2, .int v2), (3, .int v3), (4, .int v4), (5, .int v5), (7, .int v7), (8, .int v8), (9, .int v9), (10, .int v10), (11, .int v11), (13, .int v13)]) hx hb dL_sound_474 hl (by decide) rfl (fun ls hl => ?_)
  refine lv_iload hx hb dL_sound_476 (lv_at hl 7 rfl) ?_
  refine lv_iload hx hb dL_sound_478 (lv_at hl 10 rfl) ?_
  refine lv_icmp_ge (tgt := 590) hx hb dL_sound_480 (by decide) (fun c_57 => ?_) (fun c_57 => ?_)
  · replace hf := ite_t c_57 hf
    refine lv_iinc (v := (v10 + (1 : Int32))) (lv' := [(10, .int (v10 + (1 : Int32))), (6, .int y0), (0, .ref (ad0 360)), (1, .int v1), (2, .int v2), (3, .int v3), (4, .int v4), (5, .int v5), (7, .int v7), (8, .int v8), (9, .int v9), (11, .int v11), (13, .int v13)]) hx hb dL_sound_590 hl (k := 10) rfl rfl (by decide) rfl (fun ls hl => ?_)
    refine lv_goto (tgt := 175) hx hb dL_sound_593 (by decide) ?_
    exact hq175 v1 v2 v3 v4 v5 y0 v7 v8 v9 (v10 + (1 : Int32)) _ _ _ _ _ (by omega) (by omega) hW0 hS (lv_sub hl [2, 3, 4, 5, 6, 7, 1, 8, 9, 10, 0] rfl) hf
  · replace hf := ite_f c_57 hf
    refine lv_iload_n hx hb dL_sound_483 rfl (lv_at hl 3 rfl) ?_
    refine lv_iload hx hb dL_sound_484 (lv_at hl 8 rfl) ?_
    refine lv_iload hx hb dL_sound_486 (lv_at hl 10 rfl) ?_
    refine lv_icmp_ne (tgt := 495) hx hb dL_sound_488 (by decide) (fun c_58 => ?_) (fun c_58 => ?_)
    · replace hf := ite_f c_58 hf
      refine lv_iconst (v := (0 : Int32)) hx hb dL_sound_495 (by decide) ?_
      exact bL_sound_496 (z0 := z0) X hl0 hq22 hq175 v1 v3 v4 v5 y0 v7 v8 v9 v10 v11 v13 (0 : Int32) v2 _ _ _ _ _ (by omega) (by omega) hW0 hS (lv_sub hl [1, 2, 4, 5, 6, 0, 7, 8, 9, 10, 11, 12] rfl) hf
    · replace hf := ite_t c_58 hf
      refine lv_iconst (v := (1 : Int32)) hx hb dL_sound_491 (by decide) ?_
      refine lv_goto (tgt := 496) hx hb dL_sound_492 (by decide) ?_
      exact bL_sound_496 (z0 := z0) X hl0 hq22 hq175 v1 v3 v4 v5 y0 v7 v8 v9 v10 v11 v13 (1 : Int32) v2 _ _ _ _ _ (by omega) (by omega) hW0 hS (lv_sub hl [1, 2, 4, 5, 6, 0, 7, 8, 9, 10, 11, 12] rfl) hf
set_option maxRecDepth 100000 in
set_option maxHeartbeats 4000000 in
theorem bL_sound_381 {p : Program} {l : Launch} {e : Env} {s : State} {m : MethodId} {args : Array Value} {below : List Frame} {meth : Method} {c : Code} {D : va_G} {cy : Nat → ClassId} {ad0 : Nat → Nat} {ba0 : Nat → Prop} {z0 : aS} {res : Int32} (X : teC wsL_sound RL cL_sound 14 (some .boolean) D cy ba0 p s m args meth c) (hl0 : l.stackTraces = false) {n22 : Nat} {q22 : Int32 → Int32 → Int32 → Int32 → Int32 → Int32 → Int32 → Option Int32} (hq22 : ∀ (v1 : Int32) (v2 : Int32) (v3 : Int32) (v4 : Int32) (v5 : Int32) (v6 : Int32) (v7 : Int32) (H : Heap) (locs : List Loc) (ls : Array Slot) (ce sl : Nat), ce + (279 * n22 + 7) ≤ 2798 → sl + (1674 * n22 + 42) ≤ 16788 → aR D cy ad0 ba0 z0 H → va_S ba0 s.heap H locs → lv_has ls 14 [(0, .ref (ad0 360)), (1, .int v1), (2, .int v2), (3, .int v3), (4, .int v4), (5, .int v5), (6, .int v6), (7, .int v7)] → q22 v1 v2 v3 v4 v5 v6 v7 = some res → W p l e (headSpec wsL_sound rmL_sound).room s m args below meth c H locs ce sl (MQ below (va_Qi (fun a (_ : Unit) => a = res) (fun _ t => (aR D cy ad0 ba0 z0) t.heap) ba0) args s 2798 16788 ba0) (F0 m 22 ls [])) {n175 : Nat} {q175 : Int32 → Int32 → Int32 → Int32 → Int32 → Int32 → Int32 → Int32 → Int32 → Int32 → Option Int32} (hq175 : ∀ (v1 : Int32) (v2 : Int32) (v3 : Int32) (v4 : Int32) (v5 : Int32) (v6 : Int32) (v7 : Int32) (v8 : Int32) (v9 : Int32) (v10 : Int32) (H : Heap) (locs : List Loc) (ls : Array Slot) (ce sl : Nat), ce + (279 * n22 + 27 * n175 + 8) ≤ 2798 → sl + (1674 * n22 + 162 * n175 + 48) ≤ 16788 → aR D cy ad0 ba0 z0 H → va_S ba0 s.heap H locs → lv_has ls 14 [(0, .ref (ad0 360)), (1, .int v1), (2, .int v2), (3, .int v3), (4, .int v4), (5, .int v5), (6, .int v6), (7, .int v7), (8, .int v8), (9, .int v9), (10, .int v10)] → q175 v1 v2 v3 v4 v5 v6 v7 v8 v9 v10 = some res → W p l e (headSpec wsL_sound rmL_sound).room s m args below meth c H locs ce sl (MQ below (va_Qi (fun a (_ : Unit) => a = res) (fun _ t => (aR D cy ad0 ba0 z0) t.heap) ba0) args s 2798 16788 ba0) (F0 m 175 ls [])) : ∀ (v1 : Int32) (v2 : Int32) (v3 : Int32) (v4 : Int32) (v5 : Int32) (v7 : Int32) (v8 : Int32) (v9 : Int32) (v10 : Int32) (v11 : Int32) (v12 : Int32) (v13 : Int32) (y0 : Int32) (y1 : Int32) (H : Heap) (locs : List Loc) (ls : Array Slot) (ce sl : Nat), ce + (279 * n22 + 27 * n175 + 17) ≤ 2798 → sl + (1674 * n22 + 162 * n175 + 102) ≤ 16788 → aR D cy ad0 ba0 z0 H → va_S ba0 s.heap H locs → lv_has ls 14 [(0, .ref (ad0 360)), (1, .int v1), (2, .int v2), (3, .int v3), (4, .int v4), (5, .int v5), (7, .int v7), (8, .int v8), (9, .int v9), (10, .int v10), (11, .int v11), (12, .int v12), (13, .int v13)] → hL_sound_381 z0 q22 q175 v1 v2 v3 v4 v5 v7 v8 v9 v10 v11 v12 v13 y0 y1 = some res → W p l e (headSpec wsL_sound rmL_sound).room s m args below meth c H locs ce sl (MQ below (va_Qi (fun a (_ : Unit) => a = res) (fun _ t => (aR D cy ad0 ba0 z0) t.heap) ba0) args s 2798 16788 ba0) (F0 m 381 ls [.int y0, .int y1]) := by
  have hx := X.1
  have hb := X.2.1
  have hown := X.2.2.2.2.1
  intro v1 v2 v3 v4 v5 v7 v8 v9 v10 v11 v12 v13 y0 y1 H locs ls ce sl hb1_ hb2_ hW0 hS hl hf
  unfold hL_sound_381 at hf
  refine lv_icmp_ne (tgt := 473) hx hb dL_sound_381 (by decide) (fun c_50 => ?_) (fun c_50 => ?_)
  · replace hf := ite_f c_50 hf
    refine lv_iconst (v := (0 : Int32)) hx hb dL_sound_473 (by decide) ?_
    exact bL_sound_474 (z0 := z0) X hl0 hq22 hq175 v1 v2 v3 v4 v5 v7 v8 v9 v10 v11 v13 (0 : Int32) _ _ _ _ _ (by omega) (by omega) hW0 hS (lv_sub hl [0, 1, 2, 3, 4, 5, 6, 7, 8, 9, 10, 12] rfl) hf
  · replace hf := ite_t c_50 hf
    refine lv_iconst (v := (4 : Int32)) hx hb dL_sound_384 (by decide) ?_
    refine lv_iload hx hb dL_sound_385 (lv_at hl 11 rfl) ?_
    refine lv_imul hx hb dL_sound_387 ?_
    refine lv_aload_n hx hb dL_sound_388 rfl (lv_at hl 0 rfl) ?_
    refine lv_iload hx hb dL_sound_389 (lv_at hl 9 rfl) ?_
    refine lv_bipush (v := (6 : Int32)) hx hb dL_sound_391 (by decide) ?_
    refine kA (As := [.ref (ad0 360), .int v10, .int (6 : Int32)]) (rest := [.int ((4 : Int32) * v12)]) X (fun q h => h) hW0 hS (tI_tryMember l D cy ad0 ba0 hl0 z0 v10 (6 : Int32)) (vx_cwSW (hh := [(0, 6, 7, 30), (0, 6, 11, 13)]) 3 X.2.2.2.2.2.1 gL_sound_L_tryMember rfl rfl rfl kdL_tryMember.2 ⟨(Nat.le_of_ble_eq_true rfl), (Nat.le_of_ble_eq_true rfl)⟩) rfl rfl hl.1 (Nat.le_of_ble_eq_true rfl) ⟨by show _ ≤ 2798; omega, by show _ ≤ 16788; omega⟩ dL_sound_393 (fun H locs hW0 hS hz hk => ?_)
    clear hz hk
    refine lv_icmp_gt (tgt := 473) hx hb dL_sound_396 (by decide) (fun c_51 => ?_) (fun c_51 => ?_)
    · replace hf := ite_t c_51 hf
      refine lv_iconst (v := (0 : Int32)) hx hb dL_sound_473 (by decide) ?_
      exact bL_sound_474 (z0 := z0) X hl0 hq22 hq175 v1 v2 v3 v4 v5 v7 v8 v9 v10 v11 v13 (0 : Int32) _ _ _ _ _ (by omega) (by omega) hW0 hS (lv_sub hl [0, 1, 2, 3, 4, 5, 6, 7, 8, 9, 10, 12] rfl) hf
    · replace hf := ite_f c_51 hf
      refine lv_iconst (v := (4 : Int32)) hx hb dL_sound_399 (by decide) ?_
      refine lv_iload hx hb dL_sound_400 (lv_at hl 11 rfl) ?_
      refine lv_imul hx hb dL_sound_402 ?_
      refine lv_iconst (v := (4 : Int32)) hx hb dL_sound_403 (by decide) ?_
      refine lv_iadd hx hb dL_sound_404 ?_
      refine lv_aload_n hx hb dL_sound_405 rfl (lv_at hl 0 rfl) ?_
      refine lv_iload hx hb dL_sound_406 (lv_at hl 9 rfl) ?_
      refine lv_bipush (v := (6 : Int32)) hx hb dL_sound_408 (by decide) ?_
      refine kA (As := [.ref (ad0 360), .int v10, .int (6 : Int32)]) (rest := [.int (((4 : Int32) * v12) + (4 : Int32))]) X (fun q h => h) hW0 hS (tI_tryMember l D cy ad0 ba0 hl0 z0 v10 (6 : Int32)) (vx_cwSW (hh := [(0, 6, 7, 30), (0, 6, 11, 13)]) 3 X.2.2.2.2.2.1 gL_sound_L_tryMember rfl rfl rfl kdL_tryMember.2 ⟨(Nat.le_of_ble_eq_true rfl), (Nat.le_of_ble_eq_true rfl)⟩) rfl rfl hl.1 (Nat.le_of_ble_eq_true rfl) ⟨by show _ ≤ 2798; omega, by show _ ≤ 16788; omega⟩ dL_sound_410 (fun H locs hW0 hS hz hk => ?_)
      clear hz hk
      refine lv_icmp_le (tgt := 473) hx hb dL_sound_413 (by decide) (fun c_52 => ?_) (fun c_52 => ?_)
      · replace hf := ite_t c_52 hf
        refine lv_iconst (v := (0 : Int32)) hx hb dL_sound_473 (by decide) ?_
        exact bL_sound_474 (z0 := z0) X hl0 hq22 hq175 v1 v2 v3 v4 v5 v7 v8 v9 v10 v11 v13 (0 : Int32) _ _ _ _ _ (by omega) (by omega) hW0 hS (lv_sub hl [0, 1, 2, 3, 4, 5, 6, 7, 8, 9, 10, 12] rfl) hf
      · replace hf := ite_f c_52 hf
        refine lv_aload_n hx hb dL_sound_416 rfl (lv_at hl 0 rfl) ?_
        refine lv_iload hx hb dL_sound_417 (lv_at hl 6 rfl) ?_
        refine lv_iload hx hb dL_sound_419 (lv_at hl 9 rfl) ?_
        refine lv_iconst (v := (1 : Int32)) hx hb dL_sound_421 (by decide) ?_
        refine kA (As := [.ref (ad0 360), .int v7, .int v10, .int (1 : Int32)]) (rest := []) X (fun q h => h) hW0 hS (tI_tryBoth l D cy ad0 ba0 hl0 z0 v7 v10 (1 : Int32)) (vx_cwSW (hh := [(0, 7, 8, 30), (0, 7, 13, 13)]) 4 X.2.2.2.2.2.1 gL_sound_L_tryBoth rfl rfl rfl kdL_tryBoth.2 ⟨(Nat.le_of_ble_eq_true rfl), (Nat.le_of_ble_eq_true rfl)⟩) rfl rfl hl.1 (Nat.le_of_ble_eq_true rfl) ⟨by show _ ≤ 2798; omega, by show _ ≤ 16788; omega⟩ dL_sound_422 (fun H locs hW0 hS hz hk => ?_)
        clear hz hk
        refine lv_aload_n hx hb dL_sound_425 rfl (lv_at hl 0 rfl) ?_
        refine lv_iload hx hb dL_sound_426 (lv_at hl 6 rfl) ?_
        refine lv_iload hx hb dL_sound_428 (lv_at hl 9 rfl) ?_
        refine lv_iconst (v := (0 : Int32)) hx hb dL_sound_430 (by decide) ?_
        refine kA (As := [.ref (ad0 360), .int v7, .int v10, .int (0 : Int32)]) (rest := [.int (A_tryBoth z0 v7 v10 (1 : Int32))]) X (fun q h => h) hW0 hS (tI_tryBoth l D cy ad0 ba0 hl0 z0 v7 v10 (0 : Int32)) (vx_cwSW (hh := [(0, 7, 8, 30), (0, 7, 13, 13)]) 4 X.2.2.2.2.2.1 gL_sound_L_tryBoth rfl rfl rfl kdL_tryBoth.2 ⟨(Nat.le_of_ble_eq_true rfl), (Nat.le_of_ble_eq_true rfl)⟩) rfl rfl hl.1 (Nat.le_of_ble_eq_true rfl) ⟨by show _ ≤ 2798; omega, by show _ ≤ 16788; omega⟩ dL_sound_431 (fun H locs hW0 hS hz hk => ?_)
        clear hz hk
        refine lv_aload_n hx hb dL_sound_434 rfl (lv_at hl 0 rfl) ?_
        refine lv_iload hx hb dL_sound_435 (lv_at hl 9 rfl) ?_
        refine lv_iload hx hb dL_sound_437 (lv_at hl 6 rfl) ?_
        refine lv_iconst (v := (0 : Int32)) hx hb dL_sound_439 (by decide) ?_
        refine kA (As := [.ref (ad0 360), .int v10, .int v7, .int (0 : Int32)]) (rest := [.int (A_tryBoth z0 v7 v10 (0 : Int32)), .int (A_tryBoth z0 v7 v10 (1 : Int32))]) X (fun q h => h) hW0 hS (tI_tryBoth l D cy ad0 ba0 hl0 z0 v10 v7 (0 : Int32)) (vx_cwSW (hh := [(0, 7, 8, 30), (0, 7, 13, 13)]) 4 X.2.2.2.2.2.1 gL_sound_L_tryBoth rfl rfl rfl kdL_tryBoth.2 ⟨(Nat.le_of_ble_eq_true rfl), (Nat.le_of_ble_eq_true rfl)⟩) rfl rfl hl.1 (Nat.le_of_ble_eq_true rfl) ⟨by show _ ≤ 2798; omega, by show _ ≤ 16788; omega⟩ dL_sound_440 (fun H locs hW0 hS hz hk => ?_)
        clear hz hk
        refine lv_iadd hx hb dL_sound_443 ?_
        refine lv_icmp_ne (tgt := 473) hx hb dL_sound_444 (by decide) (fun c_53 => ?_) (fun c_53 => ?_)
        · replace hf := ite_f c_53 hf
          refine lv_iconst (v := (0 : Int32)) hx hb dL_sound_473 (by decide) ?_
          exact bL_sound_474 (z0 := z0) X hl0 hq22 hq175 v1 v2 v3 v4 v5 v7 v8 v9 v10 v11 v13 (0 : Int32) _ _ _ _ _ (by omega) (by omega) hW0 hS (lv_sub hl [0, 1, 2, 3, 4, 5, 6, 7, 8, 9, 10, 12] rfl) hf
        · replace hf := ite_t c_53 hf
          refine lv_aload_n hx hb dL_sound_447 rfl (lv_at hl 0 rfl) ?_
          refine lv_iload hx hb dL_sound_448 (lv_at hl 6 rfl) ?_
          refine lv_iload hx hb dL_sound_450 (lv_at hl 9 rfl) ?_
          refine lv_iconst (v := (3 : Int32)) hx hb dL_sound_452 (by decide) ?_
          refine kA (As := [.ref (ad0 360), .int v7, .int v10, .int (3 : Int32)]) (rest := []) X (fun q h => h) hW0 hS (tI_tryBoth l D cy ad0 ba0 hl0 z0 v7 v10 (3 : Int32)) (vx_cwSW (hh := [(0, 7, 8, 30), (0, 7, 13, 13)]) 4 X.2.2.2.2.2.1 gL_sound_L_tryBoth rfl rfl rfl kdL_tryBoth.2 ⟨(Nat.le_of_ble_eq_true rfl), (Nat.le_of_ble_eq_true rfl)⟩) rfl rfl hl.1 (Nat.le_of_ble_eq_true rfl) ⟨by show _ ≤ 2798; omega, by show _ ≤ 16788; omega⟩ dL_sound_453 (fun H locs hW0 hS hz hk => ?_)
          clear hz hk
          refine lv_iload hx hb dL_sound_456 (lv_at hl 12 rfl) ?_
          refine lv_if_eq (tgt := 465) hx hb dL_sound_458 (by decide) (fun c_54 => ?_) (fun c_54 => ?_)
          · replace hf := ite_t c_54 hf
            refine lv_iconst (v := (0 : Int32)) hx hb dL_sound_465 (by decide) ?_
            refine lv_icmp_ne (tgt := 473) hx hb dL_sound_466 (by decide) (fun c_55 => ?_) (fun c_55 => ?_)
            · replace hf := ite_f c_55 hf
              refine lv_iconst (v := (0 : Int32)) hx hb dL_sound_473 (by decide) ?_
              exact bL_sound_474 (z0 := z0) X hl0 hq22 hq175 v1 v2 v3 v4 v5 v7 v8 v9 v10 v11 v13 (0 : Int32) _ _ _ _ _ (by omega) (by omega) hW0 hS (lv_sub hl [0, 1, 2, 3, 4, 5, 6, 7, 8, 9, 10, 12] rfl) hf
            · replace hf := ite_t c_55 hf
              refine lv_iconst (v := (1 : Int32)) hx hb dL_sound_469 (by decide) ?_
              refine lv_goto (tgt := 474) hx hb dL_sound_470 (by decide) ?_
              exact bL_sound_474 (z0 := z0) X hl0 hq22 hq175 v1 v2 v3 v4 v5 v7 v8 v9 v10 v11 v13 (1 : Int32) _ _ _ _ _ (by omega) (by omega) hW0 hS (lv_sub hl [0, 1, 2, 3, 4, 5, 6, 7, 8, 9, 10, 12] rfl) hf
          · replace hf := ite_f c_54 hf
            refine lv_iconst (v := (1 : Int32)) hx hb dL_sound_461 (by decide) ?_
            refine lv_goto (tgt := 466) hx hb dL_sound_462 (by decide) ?_
            refine lv_icmp_ne (tgt := 473) hx hb dL_sound_466 (by decide) (fun c_56 => ?_) (fun c_56 => ?_)
            · replace hf := ite_f c_56 hf
              refine lv_iconst (v := (0 : Int32)) hx hb dL_sound_473 (by decide) ?_
              exact bL_sound_474 (z0 := z0) X hl0 hq22 hq175 v1 v2 v3 v4 v5 v7 v8 v9 v10 v11 v13 (0 : Int32) _ _ _ _ _ (by omega) (by omega) hW0 hS (lv_sub hl [0, 1, 2, 3, 4, 5, 6, 7, 8, 9, 10, 12] rfl) hf
            · replace hf := ite_t c_56 hf
              refine lv_iconst (v := (1 : Int32)) hx hb dL_sound_469 (by decide) ?_
              refine lv_goto (tgt := 474) hx hb dL_sound_470 (by decide) ?_
              exact bL_sound_474 (z0 := z0) X hl0 hq22 hq175 v1 v2 v3 v4 v5 v7 v8 v9 v10 v11 v13 (1 : Int32) _ _ _ _ _ (by omega) (by omega) hW0 hS (lv_sub hl [0, 1, 2, 3, 4, 5, 6, 7, 8, 9, 10, 12] rfl) hf
set_option maxRecDepth 100000 in
set_option maxHeartbeats 4000000 in
theorem bL_sound_359 {p : Program} {l : Launch} {e : Env} {s : State} {m : MethodId} {args : Array Value} {below : List Frame} {meth : Method} {c : Code} {D : va_G} {cy : Nat → ClassId} {ad0 : Nat → Nat} {ba0 : Nat → Prop} {z0 : aS} {res : Int32} (X : teC wsL_sound RL cL_sound 14 (some .boolean) D cy ba0 p s m args meth c) (hl0 : l.stackTraces = false) {n22 : Nat} {q22 : Int32 → Int32 → Int32 → Int32 → Int32 → Int32 → Int32 → Option Int32} (hq22 : ∀ (v1 : Int32) (v2 : Int32) (v3 : Int32) (v4 : Int32) (v5 : Int32) (v6 : Int32) (v7 : Int32) (H : Heap) (locs : List Loc) (ls : Array Slot) (ce sl : Nat), ce + (279 * n22 + 7) ≤ 2798 → sl + (1674 * n22 + 42) ≤ 16788 → aR D cy ad0 ba0 z0 H → va_S ba0 s.heap H locs → lv_has ls 14 [(0, .ref (ad0 360)), (1, .int v1), (2, .int v2), (3, .int v3), (4, .int v4), (5, .int v5), (6, .int v6), (7, .int v7)] → q22 v1 v2 v3 v4 v5 v6 v7 = some res → W p l e (headSpec wsL_sound rmL_sound).room s m args below meth c H locs ce sl (MQ below (va_Qi (fun a (_ : Unit) => a = res) (fun _ t => (aR D cy ad0 ba0 z0) t.heap) ba0) args s 2798 16788 ba0) (F0 m 22 ls [])) {n175 : Nat} {q175 : Int32 → Int32 → Int32 → Int32 → Int32 → Int32 → Int32 → Int32 → Int32 → Int32 → Option Int32} (hq175 : ∀ (v1 : Int32) (v2 : Int32) (v3 : Int32) (v4 : Int32) (v5 : Int32) (v6 : Int32) (v7 : Int32) (v8 : Int32) (v9 : Int32) (v10 : Int32) (H : Heap) (locs : List Loc) (ls : Array Slot) (ce sl : Nat), ce + (279 * n22 + 27 * n175 + 8) ≤ 2798 → sl + (1674 * n22 + 162 * n175 + 48) ≤ 16788 → aR D cy ad0 ba0 z0 H → va_S ba0 s.heap H locs → lv_has ls 14 [(0, .ref (ad0 360)), (1, .int v1), (2, .int v2), (3, .int v3), (4, .int v4), (5, .int v5), (6, .int v6), (7, .int v7), (8, .int v8), (9, .int v9), (10, .int v10)] → q175 v1 v2 v3 v4 v5 v6 v7 v8 v9 v10 = some res → W p l e (headSpec wsL_sound rmL_sound).room s m args below meth c H locs ce sl (MQ below (va_Qi (fun a (_ : Unit) => a = res) (fun _ t => (aR D cy ad0 ba0 z0) t.heap) ba0) args s 2798 16788 ba0) (F0 m 175 ls [])) : ∀ (v1 : Int32) (v2 : Int32) (v3 : Int32) (v4 : Int32) (v5 : Int32) (v7 : Int32) (v8 : Int32) (v10 : Int32) (v11 : Int32) (v12 : Int32) (v13 : Int32) (y0 : Int32) (y1 : Int32) (H : Heap) (locs : List Loc) (ls : Array Slot) (ce sl : Nat), ce + (279 * n22 + 27 * n175 + 18) ≤ 2798 → sl + (1674 * n22 + 162 * n175 + 108) ≤ 16788 → aR D cy ad0 ba0 z0 H → va_S ba0 s.heap H locs → lv_has ls 14 [(0, .ref (ad0 360)), (1, .int v1), (2, .int v2), (3, .int v3), (4, .int v4), (5, .int v5), (7, .int v7), (8, .int v8), (10, .int v10), (11, .int v11), (12, .int v12), (13, .int v13)] → hL_sound_359 z0 q22 q175 v1 v2 v3 v4 v5 v7 v8 v10 v11 v12 v13 y0 y1 = some res → W p l e (headSpec wsL_sound rmL_sound).room s m args below meth c H locs ce sl (MQ below (va_Qi (fun a (_ : Unit) => a = res) (fun _ t => (aR D cy ad0 ba0 z0) t.heap) ba0) args s 2798 16788 ba0) (F0 m 359 ls [.int y0, .int y1]) := by
  have hx := X.1
  have hb := X.2.1
  have hown := X.2.2.2.2.1
  intro v1 v2 v3 v4 v5 v7 v8 v10 v11 v12 v13 y0 y1 H locs ls ce sl hb1_ hb2_ hW0 hS hl hf
  unfold hL_sound_359 at hf
  refine lv_iadd hx hb dL_sound_359 ?_
  refine lv_istore (lv' := [(9, .int (y1 + y0)), (0, .ref (ad0 360)), (1, .int v1), (2, .int v2), (3, .int v3), (4, .int v4), (5, .int v5), (7, .int v7), (8, .int v8), (10, .int v10), (11, .int v11), (12, .int v12), (13, .int v13)]) hx hb dL_sound_360 hl (by decide) rfl (fun ls hl => ?_)
  refine lv_aload_n hx hb dL_sound_362 rfl (lv_at hl 1 rfl) ?_
  refine lv_iload hx hb dL_sound_363 (lv_at hl 7 rfl) ?_
  refine lv_iload hx hb dL_sound_365 (lv_at hl 9 rfl) ?_
  refine lv_iconst (v := (2 : Int32)) hx hb dL_sound_367 (by decide) ?_
  refine kA (As := [.ref (ad0 360), .int v7, .int v10, .int (2 : Int32)]) (rest := []) X (fun q h => h) hW0 hS (tI_tryBoth l D cy ad0 ba0 hl0 z0 v7 v10 (2 : Int32)) (vx_cwSW (hh := [(0, 7, 8, 30), (0, 7, 13, 13)]) 4 X.2.2.2.2.2.1 gL_sound_L_tryBoth rfl rfl rfl kdL_tryBoth.2 ⟨(Nat.le_of_ble_eq_true rfl), (Nat.le_of_ble_eq_true rfl)⟩) rfl rfl hl.1 (Nat.le_of_ble_eq_true rfl) ⟨by show _ ≤ 2798; omega, by show _ ≤ 16788; omega⟩ dL_sound_368 (fun H locs hW0 hS hz hk => ?_)
  clear hz hk
  refine lv_iload hx hb dL_sound_371 (lv_at hl 10 rfl) ?_
  refine lv_if_eq (tgt := 380) hx hb dL_sound_373 (by decide) (fun c_48 => ?_) (fun c_48 => ?_)
  · replace hf := ite_t c_48 hf
    refine lv_iconst (v := (0 : Int32)) hx hb dL_sound_380 (by decide) ?_
    exact bL_sound_381 (z0 := z0) X hl0 hq22 hq175 v1 v2 v3 v4 v5 v7 v8 (y1 + y0) v10 v11 v12 v13 (0 : Int32) (A_tryBoth z0 v7 v10 (2 : Int32)) _ _ _ _ _ (by omega) (by omega) hW0 hS (lv_sub hl [1, 2, 3, 4, 5, 6, 7, 8, 0, 9, 10, 11, 12] rfl) hf
  · replace hf := ite_f c_48 hf
    refine lv_iconst (v := (1 : Int32)) hx hb dL_sound_376 (by decide) ?_
    refine lv_goto (tgt := 381) hx hb dL_sound_377 (by decide) ?_
    exact bL_sound_381 (z0 := z0) X hl0 hq22 hq175 v1 v2 v3 v4 v5 v7 v8 (y1 + y0) v10 v11 v12 v13 (1 : Int32) (A_tryBoth z0 v7 v10 (2 : Int32)) _ _ _ _ _ (by omega) (by omega) hW0 hS (lv_sub hl [1, 2, 3, 4, 5, 6, 7, 8, 0, 9, 10, 11, 12] rfl) hf
set_option maxRecDepth 100000 in
set_option maxHeartbeats 4000000 in
theorem bL_sound_344 {p : Program} {l : Launch} {e : Env} {s : State} {m : MethodId} {args : Array Value} {below : List Frame} {meth : Method} {c : Code} {D : va_G} {cy : Nat → ClassId} {ad0 : Nat → Nat} {ba0 : Nat → Prop} {z0 : aS} {res : Int32} (X : teC wsL_sound RL cL_sound 14 (some .boolean) D cy ba0 p s m args meth c) (hl0 : l.stackTraces = false) {n22 : Nat} {q22 : Int32 → Int32 → Int32 → Int32 → Int32 → Int32 → Int32 → Option Int32} (hq22 : ∀ (v1 : Int32) (v2 : Int32) (v3 : Int32) (v4 : Int32) (v5 : Int32) (v6 : Int32) (v7 : Int32) (H : Heap) (locs : List Loc) (ls : Array Slot) (ce sl : Nat), ce + (279 * n22 + 7) ≤ 2798 → sl + (1674 * n22 + 42) ≤ 16788 → aR D cy ad0 ba0 z0 H → va_S ba0 s.heap H locs → lv_has ls 14 [(0, .ref (ad0 360)), (1, .int v1), (2, .int v2), (3, .int v3), (4, .int v4), (5, .int v5), (6, .int v6), (7, .int v7)] → q22 v1 v2 v3 v4 v5 v6 v7 = some res → W p l e (headSpec wsL_sound rmL_sound).room s m args below meth c H locs ce sl (MQ below (va_Qi (fun a (_ : Unit) => a = res) (fun _ t => (aR D cy ad0 ba0 z0) t.heap) ba0) args s 2798 16788 ba0) (F0 m 22 ls [])) {n175 : Nat} {q175 : Int32 → Int32 → Int32 → Int32 → Int32 → Int32 → Int32 → Int32 → Int32 → Int32 → Option Int32} (hq175 : ∀ (v1 : Int32) (v2 : Int32) (v3 : Int32) (v4 : Int32) (v5 : Int32) (v6 : Int32) (v7 : Int32) (v8 : Int32) (v9 : Int32) (v10 : Int32) (H : Heap) (locs : List Loc) (ls : Array Slot) (ce sl : Nat), ce + (279 * n22 + 27 * n175 + 8) ≤ 2798 → sl + (1674 * n22 + 162 * n175 + 48) ≤ 16788 → aR D cy ad0 ba0 z0 H → va_S ba0 s.heap H locs → lv_has ls 14 [(0, .ref (ad0 360)), (1, .int v1), (2, .int v2), (3, .int v3), (4, .int v4), (5, .int v5), (6, .int v6), (7, .int v7), (8, .int v8), (9, .int v9), (10, .int v10)] → q175 v1 v2 v3 v4 v5 v6 v7 v8 v9 v10 = some res → W p l e (headSpec wsL_sound rmL_sound).room s m args below meth c H locs ce sl (MQ below (va_Qi (fun a (_ : Unit) => a = res) (fun _ t => (aR D cy ad0 ba0 z0) t.heap) ba0) args s 2798 16788 ba0) (F0 m 175 ls [])) : ∀ (v1 : Int32) (v2 : Int32) (v3 : Int32) (v4 : Int32) (v5 : Int32) (v7 : Int32) (v8 : Int32) (v9 : Int32) (v10 : Int32) (v11 : Int32) (v12 : Int32) (H : Heap) (locs : List Loc) (ls : Array Slot) (ce sl : Nat), ce + (279 * n22 + 27 * n175 + 18) ≤ 2798 → sl + (1674 * n22 + 162 * n175 + 108) ≤ 16788 → aR D cy ad0 ba0 z0 H → va_S ba0 s.heap H locs → lv_has ls 14 [(0, .ref (ad0 360)), (1, .int v1), (2, .int v2), (3, .int v3), (4, .int v4), (5, .int v5), (7, .int v7), (8, .int v8), (9, .int v9), (10, .int v10), (11, .int v11), (12, .int v12)] → hL_sound_344 z0 q22 q175 v1 v2 v3 v4 v5 v7 v8 v9 v10 v11 v12 = some res → W p l e (headSpec wsL_sound rmL_sound).room s m args below meth c H locs ce sl (MQ below (va_Qi (fun a (_ : Unit) => a = res) (fun _ t => (aR D cy ad0 ba0 z0) t.heap) ba0) args s 2798 16788 ba0) (F0 m 344 ls []) := by
  have hx := X.1
  have hb := X.2.1
  have hown := X.2.2.2.2.1
  intro v1 v2 v3 v4 v5 v7 v8 v9 v10 v11 v12 H locs ls ce sl hb1_ hb2_ hW0 hS hl hf
  unfold hL_sound_344 at hf
  refine lv_iconst (v := (0 : Int32)) hx hb dL_sound_344 (by decide) ?_
  refine lv_istore (lv' := [(13, .int (0 : Int32)), (0, .ref (ad0 360)), (1, .int v1), (2, .int v2), (3, .int v3), (4, .int v4), (5, .int v5), (7, .int v7), (8, .int v8), (9, .int v9), (10, .int v10), (11, .int v11), (12, .int v12)]) hx hb dL_sound_345 hl (by decide) rfl (fun ls hl => ?_)
  refine lv_iload hx hb dL_sound_347 (lv_at hl 9 rfl) ?_
  refine lv_iload hx hb dL_sound_349 (lv_at hl 11 rfl) ?_
  refine lv_if_eq (tgt := 358) hx hb dL_sound_351 (by decide) (fun c_45 => ?_) (fun c_45 => ?_)
  · replace hf := ite_t c_45 hf
    refine lv_iconst (v := (0 : Int32)) hx hb dL_sound_358 (by decide) ?_
    exact bL_sound_359 (z0 := z0) X hl0 hq22 hq175 v1 v2 v3 v4 v5 v7 v8 v10 v11 v12 (0 : Int32) (0 : Int32) v9 _ _ _ _ _ (by omega) (by omega) hW0 hS (lv_sub hl [1, 2, 3, 4, 5, 6, 7, 8, 10, 11, 12, 0] rfl) hf
  · replace hf := ite_f c_45 hf
    refine lv_iconst (v := (1 : Int32)) hx hb dL_sound_354 (by decide) ?_
    refine lv_goto (tgt := 359) hx hb dL_sound_355 (by decide) ?_
    exact bL_sound_359 (z0 := z0) X hl0 hq22 hq175 v1 v2 v3 v4 v5 v7 v8 v10 v11 v12 (0 : Int32) (1 : Int32) v9 _ _ _ _ _ (by omega) (by omega) hW0 hS (lv_sub hl [1, 2, 3, 4, 5, 6, 7, 8, 10, 11, 12, 0] rfl) hf
set_option maxRecDepth 100000 in
set_option maxHeartbeats 4000000 in
theorem bL_sound_340 {p : Program} {l : Launch} {e : Env} {s : State} {m : MethodId} {args : Array Value} {below : List Frame} {meth : Method} {c : Code} {D : va_G} {cy : Nat → ClassId} {ad0 : Nat → Nat} {ba0 : Nat → Prop} {z0 : aS} {res : Int32} (X : teC wsL_sound RL cL_sound 14 (some .boolean) D cy ba0 p s m args meth c) (hl0 : l.stackTraces = false) {n22 : Nat} {q22 : Int32 → Int32 → Int32 → Int32 → Int32 → Int32 → Int32 → Option Int32} (hq22 : ∀ (v1 : Int32) (v2 : Int32) (v3 : Int32) (v4 : Int32) (v5 : Int32) (v6 : Int32) (v7 : Int32) (H : Heap) (locs : List Loc) (ls : Array Slot) (ce sl : Nat), ce + (279 * n22 + 7) ≤ 2798 → sl + (1674 * n22 + 42) ≤ 16788 → aR D cy ad0 ba0 z0 H → va_S ba0 s.heap H locs → lv_has ls 14 [(0, .ref (ad0 360)), (1, .int v1), (2, .int v2), (3, .int v3), (4, .int v4), (5, .int v5), (6, .int v6), (7, .int v7)] → q22 v1 v2 v3 v4 v5 v6 v7 = some res → W p l e (headSpec wsL_sound rmL_sound).room s m args below meth c H locs ce sl (MQ below (va_Qi (fun a (_ : Unit) => a = res) (fun _ t => (aR D cy ad0 ba0 z0) t.heap) ba0) args s 2798 16788 ba0) (F0 m 22 ls [])) {n175 : Nat} {q175 : Int32 → Int32 → Int32 → Int32 → Int32 → Int32 → Int32 → Int32 → Int32 → Int32 → Option Int32} (hq175 : ∀ (v1 : Int32) (v2 : Int32) (v3 : Int32) (v4 : Int32) (v5 : Int32) (v6 : Int32) (v7 : Int32) (v8 : Int32) (v9 : Int32) (v10 : Int32) (H : Heap) (locs : List Loc) (ls : Array Slot) (ce sl : Nat), ce + (279 * n22 + 27 * n175 + 8) ≤ 2798 → sl + (1674 * n22 + 162 * n175 + 48) ≤ 16788 → aR D cy ad0 ba0 z0 H → va_S ba0 s.heap H locs → lv_has ls 14 [(0, .ref (ad0 360)), (1, .int v1), (2, .int v2), (3, .int v3), (4, .int v4), (5, .int v5), (6, .int v6), (7, .int v7), (8, .int v8), (9, .int v9), (10, .int v10)] → q175 v1 v2 v3 v4 v5 v6 v7 v8 v9 v10 = some res → W p l e (headSpec wsL_sound rmL_sound).room s m args below meth c H locs ce sl (MQ below (va_Qi (fun a (_ : Unit) => a = res) (fun _ t => (aR D cy ad0 ba0 z0) t.heap) ba0) args s 2798 16788 ba0) (F0 m 175 ls [])) : ∀ (v1 : Int32) (v2 : Int32) (v3 : Int32) (v4 : Int32) (v5 : Int32) (v7 : Int32) (v8 : Int32) (v9 : Int32) (v10 : Int32) (v11 : Int32) (v12 : Int32) (H : Heap) (locs : List Loc) (ls : Array Slot) (ce sl : Nat), ce + (279 * n22 + 27 * n175 + 18) ≤ 2798 → sl + (1674 * n22 + 162 * n175 + 108) ≤ 16788 → aR D cy ad0 ba0 z0 H → va_S ba0 s.heap H locs → lv_has ls 14 [(0, .ref (ad0 360)), (1, .int v1), (2, .int v2), (3, .int v3), (4, .int v4), (5, .int v5), (7, .int v7), (8, .int v8), (9, .int v9), (10, .int v10), (11, .int v11), (12, .int v12)] → hL_sound_340 z0 q22 q175 v1 v2 v3 v4 v5 v7 v8 v9 v10 v11 v12 = some res → W p l e (headSpec wsL_sound rmL_sound).room s m args below meth c H locs ce sl (MQ below (va_Qi (fun a (_ : Unit) => a = res) (fun _ t => (aR D cy ad0 ba0 z0) t.heap) ba0) args s 2798 16788 ba0) (F0 m 340 ls []) := by
  have hx := X.1
  have hb := X.2.1
  have hown := X.2.2.2.2.1
  intro v1 v2 v3 v4 v5 v7 v8 v9 v10 v11 v12 H locs ls ce sl hb1_ hb2_ hW0 hS hl hf
  unfold hL_sound_340 at hf
  refine lv_iconst (v := (1 : Int32)) hx hb dL_sound_340 (by decide) ?_
  refine lv_goto (tgt := 345) hx hb dL_sound_341 (by decide) ?_
  refine lv_istore (lv' := [(13, .int (1 : Int32)), (0, .ref (ad0 360)), (1, .int v1), (2, .int v2), (3, .int v3), (4, .int v4), (5, .int v5), (7, .int v7), (8, .int v8), (9, .int v9), (10, .int v10), (11, .int v11), (12, .int v12)]) hx hb dL_sound_345 hl (by decide) rfl (fun ls hl => ?_)
  refine lv_iload hx hb dL_sound_347 (lv_at hl 9 rfl) ?_
  refine lv_iload hx hb dL_sound_349 (lv_at hl 11 rfl) ?_
  refine lv_if_eq (tgt := 358) hx hb dL_sound_351 (by decide) (fun c_49 => ?_) (fun c_49 => ?_)
  · replace hf := ite_t c_49 hf
    refine lv_iconst (v := (0 : Int32)) hx hb dL_sound_358 (by decide) ?_
    exact bL_sound_359 (z0 := z0) X hl0 hq22 hq175 v1 v2 v3 v4 v5 v7 v8 v10 v11 v12 (1 : Int32) (0 : Int32) v9 _ _ _ _ _ (by omega) (by omega) hW0 hS (lv_sub hl [1, 2, 3, 4, 5, 6, 7, 8, 10, 11, 12, 0] rfl) hf
  · replace hf := ite_f c_49 hf
    refine lv_iconst (v := (1 : Int32)) hx hb dL_sound_354 (by decide) ?_
    refine lv_goto (tgt := 359) hx hb dL_sound_355 (by decide) ?_
    exact bL_sound_359 (z0 := z0) X hl0 hq22 hq175 v1 v2 v3 v4 v5 v7 v8 v10 v11 v12 (1 : Int32) (1 : Int32) v9 _ _ _ _ _ (by omega) (by omega) hW0 hS (lv_sub hl [1, 2, 3, 4, 5, 6, 7, 8, 10, 11, 12, 0] rfl) hf
set_option maxRecDepth 100000 in
set_option maxHeartbeats 4000000 in
theorem bL_sound_299 {p : Program} {l : Launch} {e : Env} {s : State} {m : MethodId} {args : Array Value} {below : List Frame} {meth : Method} {c : Code} {D : va_G} {cy : Nat → ClassId} {ad0 : Nat → Nat} {ba0 : Nat → Prop} {z0 : aS} {res : Int32} (X : teC wsL_sound RL cL_sound 14 (some .boolean) D cy ba0 p s m args meth c) (hl0 : l.stackTraces = false) {n22 : Nat} {q22 : Int32 → Int32 → Int32 → Int32 → Int32 → Int32 → Int32 → Option Int32} (hq22 : ∀ (v1 : Int32) (v2 : Int32) (v3 : Int32) (v4 : Int32) (v5 : Int32) (v6 : Int32) (v7 : Int32) (H : Heap) (locs : List Loc) (ls : Array Slot) (ce sl : Nat), ce + (279 * n22 + 7) ≤ 2798 → sl + (1674 * n22 + 42) ≤ 16788 → aR D cy ad0 ba0 z0 H → va_S ba0 s.heap H locs → lv_has ls 14 [(0, .ref (ad0 360)), (1, .int v1), (2, .int v2), (3, .int v3), (4, .int v4), (5, .int v5), (6, .int v6), (7, .int v7)] → q22 v1 v2 v3 v4 v5 v6 v7 = some res → W p l e (headSpec wsL_sound rmL_sound).room s m args below meth c H locs ce sl (MQ below (va_Qi (fun a (_ : Unit) => a = res) (fun _ t => (aR D cy ad0 ba0 z0) t.heap) ba0) args s 2798 16788 ba0) (F0 m 22 ls [])) {n175 : Nat} {q175 : Int32 → Int32 → Int32 → Int32 → Int32 → Int32 → Int32 → Int32 → Int32 → Int32 → Option Int32} (hq175 : ∀ (v1 : Int32) (v2 : Int32) (v3 : Int32) (v4 : Int32) (v5 : Int32) (v6 : Int32) (v7 : Int32) (v8 : Int32) (v9 : Int32) (v10 : Int32) (H : Heap) (locs : List Loc) (ls : Array Slot) (ce sl : Nat), ce + (279 * n22 + 27 * n175 + 8) ≤ 2798 → sl + (1674 * n22 + 162 * n175 + 48) ≤ 16788 → aR D cy ad0 ba0 z0 H → va_S ba0 s.heap H locs → lv_has ls 14 [(0, .ref (ad0 360)), (1, .int v1), (2, .int v2), (3, .int v3), (4, .int v4), (5, .int v5), (6, .int v6), (7, .int v7), (8, .int v8), (9, .int v9), (10, .int v10)] → q175 v1 v2 v3 v4 v5 v6 v7 v8 v9 v10 = some res → W p l e (headSpec wsL_sound rmL_sound).room s m args below meth c H locs ce sl (MQ below (va_Qi (fun a (_ : Unit) => a = res) (fun _ t => (aR D cy ad0 ba0 z0) t.heap) ba0) args s 2798 16788 ba0) (F0 m 175 ls [])) : ∀ (v1 : Int32) (v2 : Int32) (v3 : Int32) (v4 : Int32) (v5 : Int32) (v7 : Int32) (v8 : Int32) (v9 : Int32) (v10 : Int32) (v11 : Int32) (v12 : Int32) (H : Heap) (locs : List Loc) (ls : Array Slot) (ce sl : Nat), ce + (279 * n22 + 27 * n175 + 22) ≤ 2798 → sl + (1674 * n22 + 162 * n175 + 132) ≤ 16788 → aR D cy ad0 ba0 z0 H → va_S ba0 s.heap H locs → lv_has ls 14 [(0, .ref (ad0 360)), (1, .int v1), (2, .int v2), (3, .int v3), (4, .int v4), (5, .int v5), (7, .int v7), (8, .int v8), (9, .int v9), (10, .int v10), (11, .int v11), (12, .int v12)] → hL_sound_299 z0 q22 q175 v1 v2 v3 v4 v5 v7 v8 v9 v10 v11 v12 = some res → W p l e (headSpec wsL_sound rmL_sound).room s m args below meth c H locs ce sl (MQ below (va_Qi (fun a (_ : Unit) => a = res) (fun _ t => (aR D cy ad0 ba0 z0) t.heap) ba0) args s 2798 16788 ba0) (F0 m 299 ls []) := by
  have hx := X.1
  have hb := X.2.1
  have hown := X.2.2.2.2.1
  intro v1 v2 v3 v4 v5 v7 v8 v9 v10 v11 v12 H locs ls ce sl hb1_ hb2_ hW0 hS hl hf
  unfold hL_sound_299 at hf
  refine lv_aload_n hx hb dL_sound_299 rfl (lv_at hl 0 rfl) ?_
  refine lv_iload hx hb dL_sound_300 (lv_at hl 9 rfl) ?_
  refine lv_bipush (v := (8 : Int32)) hx hb dL_sound_302 (by decide) ?_
  refine kA (As := [.ref (ad0 360), .int v10, .int (8 : Int32)]) (rest := []) X (fun q h => h) hW0 hS (tI_tryMember l D cy ad0 ba0 hl0 z0 v10 (8 : Int32)) (vx_cwSW (hh := [(0, 6, 7, 30), (0, 6, 11, 13)]) 3 X.2.2.2.2.2.1 gL_sound_L_tryMember rfl rfl rfl kdL_tryMember.2 ⟨(Nat.le_of_ble_eq_true rfl), (Nat.le_of_ble_eq_true rfl)⟩) rfl rfl hl.1 (Nat.le_of_ble_eq_true rfl) ⟨by show _ ≤ 2798; omega, by show _ ≤ 16788; omega⟩ dL_sound_304 (fun H locs hW0 hS hz hk => ?_)
  clear hz hk
  refine lv_sipush (v := (-9999 : Int32)) hx hb dL_sound_307 (by decide) ?_
  refine lv_icmp_eq (tgt := 340) hx hb dL_sound_310 (by decide) (fun c_46 => ?_) (fun c_46 => ?_)
  · replace hf := ite_t c_46 hf
    exact bL_sound_340 (z0 := z0) X hl0 hq22 hq175 v1 v2 v3 v4 v5 v7 v8 v9 v10 v11 v12 _ _ _ _ _ (by omega) (by omega) hW0 hS (lv_sub hl [0, 1, 2, 3, 4, 5, 6, 7, 8, 9, 10, 11] rfl) hf
  · replace hf := ite_f c_46 hf
    refine lv_aload_n hx hb dL_sound_313 rfl (lv_at hl 0 rfl) ?_
    refine lv_iload hx hb dL_sound_314 (lv_at hl 9 rfl) ?_
    refine lv_aload_n hx hb dL_sound_316 rfl (lv_at hl 0 rfl) ?_
    refine lv_iload hx hb dL_sound_317 (lv_at hl 9 rfl) ?_
    refine lv_bipush (v := (8 : Int32)) hx hb dL_sound_319 (by decide) ?_
    refine kA (As := [.ref (ad0 360), .int v10, .int (8 : Int32)]) (rest := [.int v10, .ref (ad0 360)]) X (fun q h => h) hW0 hS (tI_tryMember l D cy ad0 ba0 hl0 z0 v10 (8 : Int32)) (vx_cwSW (hh := [(0, 6, 7, 30), (0, 6, 11, 13)]) 3 X.2.2.2.2.2.1 gL_sound_L_tryMember rfl rfl rfl kdL_tryMember.2 ⟨(Nat.le_of_ble_eq_true rfl), (Nat.le_of_ble_eq_true rfl)⟩) rfl rfl hl.1 (Nat.le_of_ble_eq_true rfl) ⟨by show _ ≤ 2798; omega, by show _ ≤ 16788; omega⟩ dL_sound_321 (fun H locs hW0 hS hz hk => ?_)
    clear hz hk
    refine lv_iconst (v := (0 : Int32)) hx hb dL_sound_324 (by decide) ?_
    refine kA (As := [.ref (ad0 360), .int v10, .int (A_tryMember z0 v10 (8 : Int32)), .int (0 : Int32)]) (rest := []) X (fun q h => h) hW0 hS (tI_tryBoth l D cy ad0 ba0 hl0 z0 v10 (A_tryMember z0 v10 (8 : Int32)) (0 : Int32)) (vx_cwSW (hh := [(0, 7, 8, 30), (0, 7, 13, 13)]) 4 X.2.2.2.2.2.1 gL_sound_L_tryBoth rfl rfl rfl kdL_tryBoth.2 ⟨(Nat.le_of_ble_eq_true rfl), (Nat.le_of_ble_eq_true rfl)⟩) rfl rfl hl.1 (Nat.le_of_ble_eq_true rfl) ⟨by show _ ≤ 2798; omega, by show _ ≤ 16788; omega⟩ dL_sound_325 (fun H locs hW0 hS hz hk => ?_)
    clear hz hk
    refine lv_aload_n hx hb dL_sound_328 rfl (lv_at hl 0 rfl) ?_
    refine lv_iload hx hb dL_sound_329 (lv_at hl 9 rfl) ?_
    refine lv_iload hx hb dL_sound_331 (lv_at hl 6 rfl) ?_
    refine lv_iconst (v := (0 : Int32)) hx hb dL_sound_333 (by decide) ?_
    refine kA (As := [.ref (ad0 360), .int v10, .int v7, .int (0 : Int32)]) (rest := [.int (A_tryBoth z0 v10 (A_tryMember z0 v10 (8 : Int32)) (0 : Int32))]) X (fun q h => h) hW0 hS (tI_tryBoth l D cy ad0 ba0 hl0 z0 v10 v7 (0 : Int32)) (vx_cwSW (hh := [(0, 7, 8, 30), (0, 7, 13, 13)]) 4 X.2.2.2.2.2.1 gL_sound_L_tryBoth rfl rfl rfl kdL_tryBoth.2 ⟨(Nat.le_of_ble_eq_true rfl), (Nat.le_of_ble_eq_true rfl)⟩) rfl rfl hl.1 (Nat.le_of_ble_eq_true rfl) ⟨by show _ ≤ 2798; omega, by show _ ≤ 16788; omega⟩ dL_sound_334 (fun H locs hW0 hS hz hk => ?_)
    clear hz hk
    refine lv_icmp_ge (tgt := 344) hx hb dL_sound_337 (by decide) (fun c_47 => ?_) (fun c_47 => ?_)
    · replace hf := ite_t c_47 hf
      exact bL_sound_344 (z0 := z0) X hl0 hq22 hq175 v1 v2 v3 v4 v5 v7 v8 v9 v10 v11 v12 _ _ _ _ _ (by omega) (by omega) hW0 hS (lv_sub hl [0, 1, 2, 3, 4, 5, 6, 7, 8, 9, 10, 11] rfl) hf
    · replace hf := ite_f c_47 hf
      exact bL_sound_340 (z0 := z0) X hl0 hq22 hq175 v1 v2 v3 v4 v5 v7 v8 v9 v10 v11 v12 _ _ _ _ _ (by omega) (by omega) hW0 hS (lv_sub hl [0, 1, 2, 3, 4, 5, 6, 7, 8, 9, 10, 11] rfl) hf
set_option maxRecDepth 100000 in
set_option maxHeartbeats 4000000 in
theorem bL_sound_222 {p : Program} {l : Launch} {e : Env} {s : State} {m : MethodId} {args : Array Value} {below : List Frame} {meth : Method} {c : Code} {D : va_G} {cy : Nat → ClassId} {ad0 : Nat → Nat} {ba0 : Nat → Prop} {z0 : aS} {res : Int32} (X : teC wsL_sound RL cL_sound 14 (some .boolean) D cy ba0 p s m args meth c) (hl0 : l.stackTraces = false) {n22 : Nat} {q22 : Int32 → Int32 → Int32 → Int32 → Int32 → Int32 → Int32 → Option Int32} (hq22 : ∀ (v1 : Int32) (v2 : Int32) (v3 : Int32) (v4 : Int32) (v5 : Int32) (v6 : Int32) (v7 : Int32) (H : Heap) (locs : List Loc) (ls : Array Slot) (ce sl : Nat), ce + (279 * n22 + 7) ≤ 2798 → sl + (1674 * n22 + 42) ≤ 16788 → aR D cy ad0 ba0 z0 H → va_S ba0 s.heap H locs → lv_has ls 14 [(0, .ref (ad0 360)), (1, .int v1), (2, .int v2), (3, .int v3), (4, .int v4), (5, .int v5), (6, .int v6), (7, .int v7)] → q22 v1 v2 v3 v4 v5 v6 v7 = some res → W p l e (headSpec wsL_sound rmL_sound).room s m args below meth c H locs ce sl (MQ below (va_Qi (fun a (_ : Unit) => a = res) (fun _ t => (aR D cy ad0 ba0 z0) t.heap) ba0) args s 2798 16788 ba0) (F0 m 22 ls [])) {n175 : Nat} {q175 : Int32 → Int32 → Int32 → Int32 → Int32 → Int32 → Int32 → Int32 → Int32 → Int32 → Option Int32} (hq175 : ∀ (v1 : Int32) (v2 : Int32) (v3 : Int32) (v4 : Int32) (v5 : Int32) (v6 : Int32) (v7 : Int32) (v8 : Int32) (v9 : Int32) (v10 : Int32) (H : Heap) (locs : List Loc) (ls : Array Slot) (ce sl : Nat), ce + (279 * n22 + 27 * n175 + 8) ≤ 2798 → sl + (1674 * n22 + 162 * n175 + 48) ≤ 16788 → aR D cy ad0 ba0 z0 H → va_S ba0 s.heap H locs → lv_has ls 14 [(0, .ref (ad0 360)), (1, .int v1), (2, .int v2), (3, .int v3), (4, .int v4), (5, .int v5), (6, .int v6), (7, .int v7), (8, .int v8), (9, .int v9), (10, .int v10)] → q175 v1 v2 v3 v4 v5 v6 v7 v8 v9 v10 = some res → W p l e (headSpec wsL_sound rmL_sound).room s m args below meth c H locs ce sl (MQ below (va_Qi (fun a (_ : Unit) => a = res) (fun _ t => (aR D cy ad0 ba0 z0) t.heap) ba0) args s 2798 16788 ba0) (F0 m 175 ls [])) : ∀ (v1 : Int32) (v2 : Int32) (v3 : Int32) (v4 : Int32) (v5 : Int32) (v7 : Int32) (v8 : Int32) (v9 : Int32) (v10 : Int32) (y0 : Int32) (H : Heap) (locs : List Loc) (ls : Array Slot) (ce sl : Nat), ce + (279 * n22 + 27 * n175 + 29) ≤ 2798 → sl + (1674 * n22 + 162 * n175 + 174) ≤ 16788 → aR D cy ad0 ba0 z0 H → va_S ba0 s.heap H locs → lv_has ls 14 [(0, .ref (ad0 360)), (1, .int v1), (2, .int v2), (3, .int v3), (4, .int v4), (5, .int v5), (7, .int v7), (8, .int v8), (9, .int v9), (10, .int v10)] → hL_sound_222 z0 q22 q175 v1 v2 v3 v4 v5 v7 v8 v9 v10 y0 = some res → W p l e (headSpec wsL_sound rmL_sound).room s m args below meth c H locs ce sl (MQ below (va_Qi (fun a (_ : Unit) => a = res) (fun _ t => (aR D cy ad0 ba0 z0) t.heap) ba0) args s 2798 16788 ba0) (F0 m 222 ls [.int y0]) := by
  have hx := X.1
  have hb := X.2.1
  have hown := X.2.2.2.2.1
  intro v1 v2 v3 v4 v5 v7 v8 v9 v10 y0 H locs ls ce sl hb1_ hb2_ hW0 hS hl hf
  unfold hL_sound_222 at hf
  refine lv_istore (lv' := [(11, .int y0), (0, .ref (ad0 360)), (1, .int v1), (2, .int v2), (3, .int v3), (4, .int v4), (5, .int v5), (7, .int v7), (8, .int v8), (9, .int v9), (10, .int v10)]) hx hb dL_sound_222 hl (by decide) rfl (fun ls hl => ?_)
  refine lv_aload_n hx hb dL_sound_224 rfl (lv_at hl 1 rfl) ?_
  refine lv_iload hx hb dL_sound_225 (lv_at hl 7 rfl) ?_
  refine lv_iload hx hb dL_sound_227 (lv_at hl 10 rfl) ?_
  refine lv_iconst (v := (0 : Int32)) hx hb dL_sound_229 (by decide) ?_
  refine kA (As := [.ref (ad0 360), .int v7, .int v10, .int (0 : Int32)]) (rest := []) X (fun q h => h) hW0 hS (tI_tryBoth l D cy ad0 ba0 hl0 z0 v7 v10 (0 : Int32)) (vx_cwSW (hh := [(0, 7, 8, 30), (0, 7, 13, 13)]) 4 X.2.2.2.2.2.1 gL_sound_L_tryBoth rfl rfl rfl kdL_tryBoth.2 ⟨(Nat.le_of_ble_eq_true rfl), (Nat.le_of_ble_eq_true rfl)⟩) rfl rfl hl.1 (Nat.le_of_ble_eq_true rfl) ⟨by show _ ≤ 2798; omega, by show _ ≤ 16788; omega⟩ dL_sound_230 (fun H locs hW0 hS hz hk => ?_)
  clear hz hk
  refine lv_bipush (v := (10 : Int32)) hx hb dL_sound_233 (by decide) ?_
  refine lv_aload_n hx hb dL_sound_235 rfl (lv_at hl 1 rfl) ?_
  refine lv_iload hx hb dL_sound_236 (lv_at hl 7 rfl) ?_
  refine lv_iload hx hb dL_sound_238 (lv_at hl 10 rfl) ?_
  obtain ⟨r_39, hq_40, hf⟩ := bd1_some hf
  refine kB (As := [.ref (ad0 360), .int v7, .int v10]) (rest := [.int (10 : Int32), .int (A_tryBoth z0 v7 v10 (0 : Int32))]) X (fun q h => h) hW0 aX_no hS (zcL_lead l D cy ad0 ba0 hl0 _ hq_40) (va_cwS 3 X.2.2.2.2.2.1 gL_sound_L_lead rfl rfl rfl kdL_lead.2 ⟨(Nat.le_of_ble_eq_true rfl), (Nat.le_of_ble_eq_true rfl)⟩) rfl rfl hl.1 (Nat.le_of_ble_eq_true rfl) ⟨by show _ ≤ 2798; omega, by show _ ≤ 16788; omega⟩ dL_sound_240 (fun H locs hW0 hS hz hk => ?_)
  clear hz hk
  refine lv_imul hx hb dL_sound_243 ?_
  refine lv_isub hx hb dL_sound_244 ?_
  refine lv_iconst (v := (5 : Int32)) hx hb dL_sound_245 (by decide) ?_
  refine lv_aload_n hx hb dL_sound_246 rfl (lv_at hl 1 rfl) ?_
  refine lv_iload hx hb dL_sound_247 (lv_at hl 10 rfl) ?_
  refine lv_bipush (v := (7 : Int32)) hx hb dL_sound_249 (by decide) ?_
  refine kA (As := [.ref (ad0 360), .int v10, .int (7 : Int32)]) (rest := [.int (5 : Int32), .int ((A_tryBoth z0 v7 v10 (0 : Int32)) - ((10 : Int32) * r_39))]) X (fun q h => h) hW0 hS (tI_tryMember l D cy ad0 ba0 hl0 z0 v10 (7 : Int32)) (vx_cwSW (hh := [(0, 6, 7, 30), (0, 6, 11, 13)]) 3 X.2.2.2.2.2.1 gL_sound_L_tryMember rfl rfl rfl kdL_tryMember.2 ⟨(Nat.le_of_ble_eq_true rfl), (Nat.le_of_ble_eq_true rfl)⟩) rfl rfl hl.1 (Nat.le_of_ble_eq_true rfl) ⟨by show _ ≤ 2798; omega, by show _ ≤ 16788; omega⟩ dL_sound_251 (fun H locs hW0 hS hz hk => ?_)
  clear hz hk
  refine lv_imul hx hb dL_sound_254 ?_
  refine lv_iadd hx hb dL_sound_255 ?_
  refine lv_istore (lv' := [(12, .int (((A_tryBoth z0 v7 v10 (0 : Int32)) - ((10 : Int32) * r_39)) + ((5 : Int32) * (A_tryMember z0 v10 (7 : Int32))))), (11, .int y0), (0, .ref (ad0 360)), (1, .int v1), (2, .int v2), (3, .int v3), (4, .int v4), (5, .int v5), (7, .int v7), (8, .int v8), (9, .int v9), (10, .int v10)]) hx hb dL_sound_256 hl (by decide) rfl (fun ls hl => ?_)
  refine lv_iload hx hb dL_sound_258 (lv_at hl 1 rfl) ?_
  refine lv_if_eq (tgt := 344) hx hb dL_sound_260 (by decide) (fun c_41 => ?_) (fun c_41 => ?_)
  · replace hf := ite_t c_41 hf
    exact bL_sound_344 (z0 := z0) X hl0 hq22 hq175 v1 v2 v3 v4 v5 v7 v8 v9 v10 y0 (((A_tryBoth z0 v7 v10 (0 : Int32)) - ((10 : Int32) * r_39)) + ((5 : Int32) * (A_tryMember z0 v10 (7 : Int32)))) _ _ _ _ _ (by omega) (by omega) hW0 hS (lv_sub hl [2, 3, 4, 5, 6, 7, 8, 9, 10, 11, 1, 0] rfl) hf
  · replace hf := ite_f c_41 hf
    refine lv_iload hx hb dL_sound_263 (lv_at hl 9 rfl) ?_
    refine lv_iload hx hb dL_sound_265 (lv_at hl 11 rfl) ?_
    refine lv_icmp_eq (tgt := 344) hx hb dL_sound_267 (by decide) (fun c_42 => ?_) (fun c_42 => ?_)
    · replace hf := ite_t c_42 hf
      exact bL_sound_344 (z0 := z0) X hl0 hq22 hq175 v1 v2 v3 v4 v5 v7 v8 v9 v10 y0 (((A_tryBoth z0 v7 v10 (0 : Int32)) - ((10 : Int32) * r_39)) + ((5 : Int32) * (A_tryMember z0 v10 (7 : Int32)))) _ _ _ _ _ (by omega) (by omega) hW0 hS (lv_sub hl [2, 3, 4, 5, 6, 7, 8, 9, 10, 11, 1, 0] rfl) hf
    · replace hf := ite_f c_42 hf
      refine lv_iload hx hb dL_sound_270 (lv_at hl 9 rfl) ?_
      refine lv_sipush (v := (-9999 : Int32)) hx hb dL_sound_272 (by decide) ?_
      refine lv_icmp_eq (tgt := 299) hx hb dL_sound_275 (by decide) (fun c_43 => ?_) (fun c_43 => ?_)
      · replace hf := ite_t c_43 hf
        exact bL_sound_299 (z0 := z0) X hl0 hq22 hq175 v1 v2 v3 v4 v5 v7 v8 v9 v10 y0 (((A_tryBoth z0 v7 v10 (0 : Int32)) - ((10 : Int32) * r_39)) + ((5 : Int32) * (A_tryMember z0 v10 (7 : Int32)))) _ _ _ _ _ (by omega) (by omega) hW0 hS (lv_sub hl [2, 3, 4, 5, 6, 7, 8, 9, 10, 11, 1, 0] rfl) hf
      · replace hf := ite_f c_43 hf
        refine lv_aload_n hx hb dL_sound_278 rfl (lv_at hl 2 rfl) ?_
        refine lv_iload hx hb dL_sound_279 (lv_at hl 8 rfl) ?_
        refine lv_iload hx hb dL_sound_281 (lv_at hl 9 rfl) ?_
        refine lv_iconst (v := (0 : Int32)) hx hb dL_sound_283 (by decide) ?_
        refine kA (As := [.ref (ad0 360), .int v7, .int v8, .int (0 : Int32)]) (rest := []) X (fun q h => h) hW0 hS (tI_tryBoth l D cy ad0 ba0 hl0 z0 v7 v8 (0 : Int32)) (vx_cwSW (hh := [(0, 7, 8, 30), (0, 7, 13, 13)]) 4 X.2.2.2.2.2.1 gL_sound_L_tryBoth rfl rfl rfl kdL_tryBoth.2 ⟨(Nat.le_of_ble_eq_true rfl), (Nat.le_of_ble_eq_true rfl)⟩) rfl rfl hl.1 (Nat.le_of_ble_eq_true rfl) ⟨by show _ ≤ 2798; omega, by show _ ≤ 16788; omega⟩ dL_sound_284 (fun H locs hW0 hS hz hk => ?_)
        clear hz hk
        refine lv_aload_n hx hb dL_sound_287 rfl (lv_at hl 2 rfl) ?_
        refine lv_iload hx hb dL_sound_288 (lv_at hl 8 rfl) ?_
        refine lv_iload hx hb dL_sound_290 (lv_at hl 11 rfl) ?_
        refine lv_iconst (v := (0 : Int32)) hx hb dL_sound_292 (by decide) ?_
        refine kA (As := [.ref (ad0 360), .int v7, .int v10, .int (0 : Int32)]) (rest := [.int (A_tryBoth z0 v7 v8 (0 : Int32))]) X (fun q h => h) hW0 hS (tI_tryBoth l D cy ad0 ba0 hl0 z0 v7 v10 (0 : Int32)) (vx_cwSW (hh := [(0, 7, 8, 30), (0, 7, 13, 13)]) 4 X.2.2.2.2.2.1 gL_sound_L_tryBoth rfl rfl rfl kdL_tryBoth.2 ⟨(Nat.le_of_ble_eq_true rfl), (Nat.le_of_ble_eq_true rfl)⟩) rfl rfl hl.1 (Nat.le_of_ble_eq_true rfl) ⟨by show _ ≤ 2798; omega, by show _ ≤ 16788; omega⟩ dL_sound_293 (fun H locs hW0 hS hz hk => ?_)
        clear hz hk
        refine lv_icmp_ge (tgt := 344) hx hb dL_sound_296 (by decide) (fun c_44 => ?_) (fun c_44 => ?_)
        · replace hf := ite_t c_44 hf
          exact bL_sound_344 (z0 := z0) X hl0 hq22 hq175 v1 v2 v3 v4 v5 v7 v8 v9 v10 y0 (((A_tryBoth z0 v7 v10 (0 : Int32)) - ((10 : Int32) * r_39)) + ((5 : Int32) * (A_tryMember z0 v10 (7 : Int32)))) _ _ _ _ _ (by omega) (by omega) hW0 hS (lv_sub hl [2, 3, 4, 5, 6, 7, 8, 9, 10, 11, 1, 0] rfl) hf
        · replace hf := ite_f c_44 hf
          exact bL_sound_299 (z0 := z0) X hl0 hq22 hq175 v1 v2 v3 v4 v5 v7 v8 v9 v10 y0 (((A_tryBoth z0 v7 v10 (0 : Int32)) - ((10 : Int32) * r_39)) + ((5 : Int32) * (A_tryMember z0 v10 (7 : Int32)))) _ _ _ _ _ (by omega) (by omega) hW0 hS (lv_sub hl [2, 3, 4, 5, 6, 7, 8, 9, 10, 11, 1, 0] rfl) hf
set_option maxRecDepth 100000 in
set_option maxHeartbeats 4000000 in
theorem bL_sound_175 {p : Program} {l : Launch} {e : Env} {s : State} {m : MethodId} {args : Array Value} {below : List Frame} {meth : Method} {c : Code} {D : va_G} {cy : Nat → ClassId} {ad0 : Nat → Nat} {ba0 : Nat → Prop} {z0 : aS} {res : Int32} (X : teC wsL_sound RL cL_sound 14 (some .boolean) D cy ba0 p s m args meth c) (hl0 : l.stackTraces = false) {n22 : Nat} {q22 : Int32 → Int32 → Int32 → Int32 → Int32 → Int32 → Int32 → Option Int32} (hq22 : ∀ (v1 : Int32) (v2 : Int32) (v3 : Int32) (v4 : Int32) (v5 : Int32) (v6 : Int32) (v7 : Int32) (H : Heap) (locs : List Loc) (ls : Array Slot) (ce sl : Nat), ce + (279 * n22 + 7) ≤ 2798 → sl + (1674 * n22 + 42) ≤ 16788 → aR D cy ad0 ba0 z0 H → va_S ba0 s.heap H locs → lv_has ls 14 [(0, .ref (ad0 360)), (1, .int v1), (2, .int v2), (3, .int v3), (4, .int v4), (5, .int v5), (6, .int v6), (7, .int v7)] → q22 v1 v2 v3 v4 v5 v6 v7 = some res → W p l e (headSpec wsL_sound rmL_sound).room s m args below meth c H locs ce sl (MQ below (va_Qi (fun a (_ : Unit) => a = res) (fun _ t => (aR D cy ad0 ba0 z0) t.heap) ba0) args s 2798 16788 ba0) (F0 m 22 ls [])) : ∀ (n : Nat), ∀ (v1 : Int32) (v2 : Int32) (v3 : Int32) (v4 : Int32) (v5 : Int32) (v6 : Int32) (v7 : Int32) (v8 : Int32) (v9 : Int32) (v10 : Int32) (H : Heap) (locs : List Loc) (ls : Array Slot) (ce sl : Nat), ce + (279 * n22 + 27 * n + 8) ≤ 2798 → sl + (1674 * n22 + 162 * n + 48) ≤ 16788 → aR D cy ad0 ba0 z0 H → va_S ba0 s.heap H locs → lv_has ls 14 [(0, .ref (ad0 360)), (1, .int v1), (2, .int v2), (3, .int v3), (4, .int v4), (5, .int v5), (6, .int v6), (7, .int v7), (8, .int v8), (9, .int v9), (10, .int v10)] → hL_sound_175 z0 q22 n v1 v2 v3 v4 v5 v6 v7 v8 v9 v10 = some res → W p l e (headSpec wsL_sound rmL_sound).room s m args below meth c H locs ce sl (MQ below (va_Qi (fun a (_ : Unit) => a = res) (fun _ t => (aR D cy ad0 ba0 z0) t.heap) ba0) args s 2798 16788 ba0) (F0 m 175 ls []) := by
  have hx := X.1
  have hb := X.2.1
  have hown := X.2.2.2.2.1
  intro n
  induction n with
  | zero =>
    intro v1 v2 v3 v4 v5 v6 v7 v8 v9 v10 H locs ls ce sl hb1_ hb2_ hW0 hS hl hf
    exact nomatch hf
  | succ n ih =>
    intro v1 v2 v3 v4 v5 v6 v7 v8 v9 v10 H locs ls ce sl hb1_ hb2_ hW0 hS hl hf
    unfold hL_sound_175 at hf
    refine lv_iload hx hb dL_sound_175 (lv_at hl 10 rfl) ?_
    refine lv_iload_n hx hb dL_sound_177 rfl (lv_at hl 1 rfl) ?_
    refine lv_icmp_ge (tgt := 596) hx hb dL_sound_178 (by decide) (fun c_28 => ?_) (fun c_28 => ?_)
    · replace hf := ite_t c_28 hf
      exact bL_sound_596 (z0 := z0) X hl0 hq22 v1 v2 v3 v4 v5 v6 v7 v9 _ _ _ _ _ (by omega) (by omega) hW0 hS (lv_sub hl [0, 1, 2, 3, 4, 5, 6, 7, 9] rfl) hf
    · replace hf := ite_f c_28 hf
      refine lv_iload hx hb dL_sound_181 (lv_at hl 6 rfl) ?_
      refine lv_if_eq (tgt := 596) hx hb dL_sound_183 (by decide) (fun c_29 => ?_) (fun c_29 => ?_)
      · replace hf := ite_t c_29 hf
        exact bL_sound_596 (z0 := z0) X hl0 hq22 v1 v2 v3 v4 v5 v6 v7 v9 _ _ _ _ _ (by omega) (by omega) hW0 hS (lv_sub hl [0, 1, 2, 3, 4, 5, 6, 7, 9] rfl) hf
      · replace hf := ite_f c_29 hf
        refine lv_iload hx hb dL_sound_186 (lv_at hl 7 rfl) ?_
        refine lv_iload hx hb dL_sound_188 (lv_at hl 10 rfl) ?_
        refine lv_icmp_eq (tgt := 590) hx hb dL_sound_190 (by decide) (fun c_30 => ?_) (fun c_30 => ?_)
        · replace hf := ite_t c_30 hf
          refine lv_iinc (v := (v10 + (1 : Int32))) (lv' := [(10, .int (v10 + (1 : Int32))), (0, .ref (ad0 360)), (1, .int v1), (2, .int v2), (3, .int v3), (4, .int v4), (5, .int v5), (6, .int v6), (7, .int v7), (8, .int v8), (9, .int v9)]) hx hb dL_sound_590 hl (k := 10) rfl rfl (by decide) rfl (fun ls hl => ?_)
          refine lv_goto (tgt := 175) hx hb dL_sound_593 (by decide) ?_
          exact ih v1 v2 v3 v4 v5 v6 v7 v8 v9 (v10 + (1 : Int32)) _ _ _ _ _ (by omega) (by omega) hW0 hS (lv_sub hl [1, 2, 3, 4, 5, 6, 7, 8, 9, 10, 0] rfl) hf
        · replace hf := ite_f c_30 hf
          refine lv_aload_n hx hb dL_sound_193 rfl (lv_at hl 0 rfl) ?_
          refine lv_iload hx hb dL_sound_194 (lv_at hl 7 rfl) ?_
          refine lv_iload hx hb dL_sound_196 (lv_at hl 10 rfl) ?_
          obtain ⟨r_31, hq_32, hf⟩ := bd1_some hf
          refine kB (As := [.ref (ad0 360), .int v7, .int v10]) (rest := []) X (fun q h => h) hW0 aX_no hS (zcL_lead l D cy ad0 ba0 hl0 _ hq_32) (va_cwS 3 X.2.2.2.2.2.1 gL_sound_L_lead rfl rfl rfl kdL_lead.2 ⟨(Nat.le_of_ble_eq_true rfl), (Nat.le_of_ble_eq_true rfl)⟩) rfl rfl hl.1 (Nat.le_of_ble_eq_true rfl) ⟨by show _ ≤ 2798; omega, by show _ ≤ 16788; omega⟩ dL_sound_198 (fun H locs hW0 hS hz hk => ?_)
          clear hz hk
          refine lv_iconst (v := (1 : Int32)) hx hb dL_sound_201 (by decide) ?_
          refine lv_icmp_le (tgt := 221) hx hb dL_sound_202 (by decide) (fun c_33 => ?_) (fun c_33 => ?_)
          · replace hf := ite_t c_33 hf
            refine lv_iconst (v := (0 : Int32)) hx hb dL_sound_221 (by decide) ?_
            exact bL_sound_222 (z0 := z0) X hl0 hq22 ih v1 v2 v3 v4 v5 v7 v8 v9 v10 (0 : Int32) _ _ _ _ _ (by omega) (by omega) hW0 hS (lv_sub hl [0, 1, 2, 3, 4, 5, 7, 8, 9, 10] rfl) hf
          · replace hf := ite_f c_33 hf
            refine lv_aload_n hx hb dL_sound_205 rfl (lv_at hl 0 rfl) ?_
            refine lv_iload hx hb dL_sound_206 (lv_at hl 10 rfl) ?_
            refine lv_iload hx hb dL_sound_208 (lv_at hl 7 rfl) ?_
            obtain ⟨r_34, hq_35, hf⟩ := bd1_some hf
            refine kB (As := [.ref (ad0 360), .int v10, .int v7]) (rest := []) X (fun q h => h) hW0 aX_no hS (zcL_lead l D cy ad0 ba0 hl0 _ hq_35) (va_cwS 3 X.2.2.2.2.2.1 gL_sound_L_lead rfl rfl rfl kdL_lead.2 ⟨(Nat.le_of_ble_eq_true rfl), (Nat.le_of_ble_eq_true rfl)⟩) rfl rfl hl.1 (Nat.le_of_ble_eq_true rfl) ⟨by show _ ≤ 2798; omega, by show _ ≤ 16788; omega⟩ dL_sound_210 (fun H locs hW0 hS hz hk => ?_)
            clear hz hk
            refine lv_iconst (v := (1 : Int32)) hx hb dL_sound_213 (by decide) ?_
            refine lv_icmp_le (tgt := 221) hx hb dL_sound_214 (by decide) (fun c_36 => ?_) (fun c_36 => ?_)
            · replace hf := ite_t c_36 hf
              refine lv_iconst (v := (0 : Int32)) hx hb dL_sound_221 (by decide) ?_
              exact bL_sound_222 (z0 := z0) X hl0 hq22 ih v1 v2 v3 v4 v5 v7 v8 v9 v10 (0 : Int32) _ _ _ _ _ (by omega) (by omega) hW0 hS (lv_sub hl [0, 1, 2, 3, 4, 5, 7, 8, 9, 10] rfl) hf
            · replace hf := ite_f c_36 hf
              refine lv_iconst (v := (1 : Int32)) hx hb dL_sound_217 (by decide) ?_
              refine lv_goto (tgt := 222) hx hb dL_sound_218 (by decide) ?_
              exact bL_sound_222 (z0 := z0) X hl0 hq22 ih v1 v2 v3 v4 v5 v7 v8 v9 v10 (1 : Int32) _ _ _ _ _ (by omega) (by omega) hW0 hS (lv_sub hl [0, 1, 2, 3, 4, 5, 7, 8, 9, 10] rfl) hf
set_option maxRecDepth 100000 in
set_option maxHeartbeats 4000000 in
theorem bL_sound_169 {p : Program} {l : Launch} {e : Env} {s : State} {m : MethodId} {args : Array Value} {below : List Frame} {meth : Method} {c : Code} {D : va_G} {cy : Nat → ClassId} {ad0 : Nat → Nat} {ba0 : Nat → Prop} {z0 : aS} {res : Int32} (X : teC wsL_sound RL cL_sound 14 (some .boolean) D cy ba0 p s m args meth c) (hl0 : l.stackTraces = false) {n22 : Nat} {q22 : Int32 → Int32 → Int32 → Int32 → Int32 → Int32 → Int32 → Option Int32} (hq22 : ∀ (v1 : Int32) (v2 : Int32) (v3 : Int32) (v4 : Int32) (v5 : Int32) (v6 : Int32) (v7 : Int32) (H : Heap) (locs : List Loc) (ls : Array Slot) (ce sl : Nat), ce + (279 * n22 + 7) ≤ 2798 → sl + (1674 * n22 + 42) ≤ 16788 → aR D cy ad0 ba0 z0 H → va_S ba0 s.heap H locs → lv_has ls 14 [(0, .ref (ad0 360)), (1, .int v1), (2, .int v2), (3, .int v3), (4, .int v4), (5, .int v5), (6, .int v6), (7, .int v7)] → q22 v1 v2 v3 v4 v5 v6 v7 = some res → W p l e (headSpec wsL_sound rmL_sound).room s m args below meth c H locs ce sl (MQ below (va_Qi (fun a (_ : Unit) => a = res) (fun _ t => (aR D cy ad0 ba0 z0) t.heap) ba0) args s 2798 16788 ba0) (F0 m 22 ls [])) : ∀ (v1 : Int32) (v2 : Int32) (v3 : Int32) (v4 : Int32) (v5 : Int32) (v7 : Int32) (v8 : Int32) (v9 : Int32) (H : Heap) (locs : List Loc) (ls : Array Slot) (ce sl : Nat), ce + (279 * n22 + 278) ≤ 2798 → sl + (1674 * n22 + 1668) ≤ 16788 → aR D cy ad0 ba0 z0 H → va_S ba0 s.heap H locs → lv_has ls 14 [(0, .ref (ad0 360)), (1, .int v1), (2, .int v2), (3, .int v3), (4, .int v4), (5, .int v5), (7, .int v7), (8, .int v8), (9, .int v9)] → hL_sound_169 z0 q22 v1 v2 v3 v4 v5 v7 v8 v9 = some res → W p l e (headSpec wsL_sound rmL_sound).room s m args below meth c H locs ce sl (MQ below (va_Qi (fun a (_ : Unit) => a = res) (fun _ t => (aR D cy ad0 ba0 z0) t.heap) ba0) args s 2798 16788 ba0) (F0 m 169 ls []) := by
  have hx := X.1
  have hb := X.2.1
  have hown := X.2.2.2.2.1
  intro v1 v2 v3 v4 v5 v7 v8 v9 H locs ls ce sl hb1_ hb2_ hW0 hS hl hf
  unfold hL_sound_169 at hf
  refine lv_iconst (v := (0 : Int32)) hx hb dL_sound_169 (by decide) ?_
  refine lv_istore (lv' := [(6, .int (0 : Int32)), (0, .ref (ad0 360)), (1, .int v1), (2, .int v2), (3, .int v3), (4, .int v4), (5, .int v5), (7, .int v7), (8, .int v8), (9, .int v9)]) hx hb dL_sound_170 hl (by decide) rfl (fun ls hl => ?_)
  refine lv_iconst (v := (0 : Int32)) hx hb dL_sound_172 (by decide) ?_
  refine lv_istore (lv' := [(10, .int (0 : Int32)), (6, .int (0 : Int32)), (0, .ref (ad0 360)), (1, .int v1), (2, .int v2), (3, .int v3), (4, .int v4), (5, .int v5), (7, .int v7), (8, .int v8), (9, .int v9)]) hx hb dL_sound_173 hl (by decide) rfl (fun ls hl => ?_)
  exact bL_sound_175 (z0 := z0) X hl0 hq22 10 v1 v2 v3 v4 v5 (0 : Int32) v7 v8 v9 (0 : Int32) _ _ _ _ _ (by omega) (by omega) hW0 hS (lv_sub hl [2, 3, 4, 5, 6, 7, 1, 8, 9, 10, 0] rfl) hf
set_option maxRecDepth 100000 in
set_option maxHeartbeats 4000000 in
theorem bL_sound_153 {p : Program} {l : Launch} {e : Env} {s : State} {m : MethodId} {args : Array Value} {below : List Frame} {meth : Method} {c : Code} {D : va_G} {cy : Nat → ClassId} {ad0 : Nat → Nat} {ba0 : Nat → Prop} {z0 : aS} {res : Int32} (X : teC wsL_sound RL cL_sound 14 (some .boolean) D cy ba0 p s m args meth c) (hl0 : l.stackTraces = false) {n22 : Nat} {q22 : Int32 → Int32 → Int32 → Int32 → Int32 → Int32 → Int32 → Option Int32} (hq22 : ∀ (v1 : Int32) (v2 : Int32) (v3 : Int32) (v4 : Int32) (v5 : Int32) (v6 : Int32) (v7 : Int32) (H : Heap) (locs : List Loc) (ls : Array Slot) (ce sl : Nat), ce + (279 * n22 + 7) ≤ 2798 → sl + (1674 * n22 + 42) ≤ 16788 → aR D cy ad0 ba0 z0 H → va_S ba0 s.heap H locs → lv_has ls 14 [(0, .ref (ad0 360)), (1, .int v1), (2, .int v2), (3, .int v3), (4, .int v4), (5, .int v5), (6, .int v6), (7, .int v7)] → q22 v1 v2 v3 v4 v5 v6 v7 = some res → W p l e (headSpec wsL_sound rmL_sound).room s m args below meth c H locs ce sl (MQ below (va_Qi (fun a (_ : Unit) => a = res) (fun _ t => (aR D cy ad0 ba0 z0) t.heap) ba0) args s 2798 16788 ba0) (F0 m 22 ls [])) : ∀ (v1 : Int32) (v2 : Int32) (v3 : Int32) (v4 : Int32) (v5 : Int32) (v7 : Int32) (v8 : Int32) (v9 : Int32) (H : Heap) (locs : List Loc) (ls : Array Slot) (ce sl : Nat), ce + (279 * n22 + 279) ≤ 2798 → sl + (1674 * n22 + 1674) ≤ 16788 → aR D cy ad0 ba0 z0 H → va_S ba0 s.heap H locs → lv_has ls 14 [(0, .ref (ad0 360)), (1, .int v1), (2, .int v2), (3, .int v3), (4, .int v4), (5, .int v5), (7, .int v7), (8, .int v8), (9, .int v9)] → hL_sound_153 z0 q22 v1 v2 v3 v4 v5 v7 v8 v9 = some res → W p l e (headSpec wsL_sound rmL_sound).room s m args below meth c H locs ce sl (MQ below (va_Qi (fun a (_ : Unit) => a = res) (fun _ t => (aR D cy ad0 ba0 z0) t.heap) ba0) args s 2798 16788 ba0) (F0 m 153 ls []) := by
  have hx := X.1
  have hb := X.2.1
  have hown := X.2.2.2.2.1
  intro v1 v2 v3 v4 v5 v7 v8 v9 H locs ls ce sl hb1_ hb2_ hW0 hS hl hf
  unfold hL_sound_153 at hf
  refine lv_aload_n hx hb dL_sound_153 rfl (lv_at hl 0 rfl) ?_
  refine lv_iload hx hb dL_sound_154 (lv_at hl 6 rfl) ?_
  refine lv_iconst (v := (5 : Int32)) hx hb dL_sound_156 (by decide) ?_
  refine kA (As := [.ref (ad0 360), .int v7, .int (5 : Int32)]) (rest := []) X (fun q h => h) hW0 hS (tI_tryMember l D cy ad0 ba0 hl0 z0 v7 (5 : Int32)) (vx_cwSW (hh := [(0, 6, 7, 30), (0, 6, 11, 13)]) 3 X.2.2.2.2.2.1 gL_sound_L_tryMember rfl rfl rfl kdL_tryMember.2 ⟨(Nat.le_of_ble_eq_true rfl), (Nat.le_of_ble_eq_true rfl)⟩) rfl rfl hl.1 (Nat.le_of_ble_eq_true rfl) ⟨by show _ ≤ 2798; omega, by show _ ≤ 16788; omega⟩ dL_sound_157 (fun H locs hW0 hS hz hk => ?_)
  clear hz hk
  refine lv_bipush (v := (20 : Int32)) hx hb dL_sound_160 (by decide) ?_
  refine lv_icmp_ge (tgt := 169) hx hb dL_sound_162 (by decide) (fun c_27 => ?_) (fun c_27 => ?_)
  · replace hf := ite_t c_27 hf
    exact bL_sound_169 (z0 := z0) X hl0 hq22 v1 v2 v3 v4 v5 v7 v8 v9 _ _ _ _ _ (by omega) (by omega) hW0 hS (lv_sub hl [0, 1, 2, 3, 4, 5, 6, 7, 8] rfl) hf
  · replace hf := ite_f c_27 hf
    refine lv_iconst (v := (1 : Int32)) hx hb dL_sound_165 (by decide) ?_
    refine lv_goto (tgt := 170) hx hb dL_sound_166 (by decide) ?_
    refine lv_istore (lv' := [(6, .int (1 : Int32)), (0, .ref (ad0 360)), (1, .int v1), (2, .int v2), (3, .int v3), (4, .int v4), (5, .int v5), (7, .int v7), (8, .int v8), (9, .int v9)]) hx hb dL_sound_170 hl (by decide) rfl (fun ls hl => ?_)
    refine lv_iconst (v := (0 : Int32)) hx hb dL_sound_172 (by decide) ?_
    refine lv_istore (lv' := [(10, .int (0 : Int32)), (6, .int (1 : Int32)), (0, .ref (ad0 360)), (1, .int v1), (2, .int v2), (3, .int v3), (4, .int v4), (5, .int v5), (7, .int v7), (8, .int v8), (9, .int v9)]) hx hb dL_sound_173 hl (by decide) rfl (fun ls hl => ?_)
    exact bL_sound_175 (z0 := z0) X hl0 hq22 10 v1 v2 v3 v4 v5 (1 : Int32) v7 v8 v9 (0 : Int32) _ _ _ _ _ (by omega) (by omega) hW0 hS (lv_sub hl [2, 3, 4, 5, 6, 7, 1, 8, 9, 10, 0] rfl) hf
set_option maxRecDepth 100000 in
set_option maxHeartbeats 4000000 in
theorem bL_sound_78 {p : Program} {l : Launch} {e : Env} {s : State} {m : MethodId} {args : Array Value} {below : List Frame} {meth : Method} {c : Code} {D : va_G} {cy : Nat → ClassId} {ad0 : Nat → Nat} {ba0 : Nat → Prop} {z0 : aS} {res : Int32} (X : teC wsL_sound RL cL_sound 14 (some .boolean) D cy ba0 p s m args meth c) (hl0 : l.stackTraces = false) {n22 : Nat} {q22 : Int32 → Int32 → Int32 → Int32 → Int32 → Int32 → Int32 → Option Int32} (hq22 : ∀ (v1 : Int32) (v2 : Int32) (v3 : Int32) (v4 : Int32) (v5 : Int32) (v6 : Int32) (v7 : Int32) (H : Heap) (locs : List Loc) (ls : Array Slot) (ce sl : Nat), ce + (279 * n22 + 7) ≤ 2798 → sl + (1674 * n22 + 42) ≤ 16788 → aR D cy ad0 ba0 z0 H → va_S ba0 s.heap H locs → lv_has ls 14 [(0, .ref (ad0 360)), (1, .int v1), (2, .int v2), (3, .int v3), (4, .int v4), (5, .int v5), (6, .int v6), (7, .int v7)] → q22 v1 v2 v3 v4 v5 v6 v7 = some res → W p l e (headSpec wsL_sound rmL_sound).room s m args below meth c H locs ce sl (MQ below (va_Qi (fun a (_ : Unit) => a = res) (fun _ t => (aR D cy ad0 ba0 z0) t.heap) ba0) args s 2798 16788 ba0) (F0 m 22 ls [])) : ∀ (v1 : Int32) (v2 : Int32) (v3 : Int32) (v4 : Int32) (v5 : Int32) (v7 : Int32) (v8 : Int32) (v9 : Int32) (y0 : Int32) (y1 : Int32) (H : Heap) (locs : List Loc) (ls : Array Slot) (ce sl : Nat), ce + (279 * n22 + 284) ≤ 2798 → sl + (1674 * n22 + 1704) ≤ 16788 → aR D cy ad0 ba0 z0 H → va_S ba0 s.heap H locs → lv_has ls 14 [(0, .ref (ad0 360)), (1, .int v1), (2, .int v2), (3, .int v3), (4, .int v4), (5, .int v5), (7, .int v7), (8, .int v8), (9, .int v9)] → hL_sound_78 z0 q22 v1 v2 v3 v4 v5 v7 v8 v9 y0 y1 = some res → W p l e (headSpec wsL_sound rmL_sound).room s m args below meth c H locs ce sl (MQ below (va_Qi (fun a (_ : Unit) => a = res) (fun _ t => (aR D cy ad0 ba0 z0) t.heap) ba0) args s 2798 16788 ba0) (F0 m 78 ls [.int y0, .int y1]) := by
  have hx := X.1
  have hb := X.2.1
  have hown := X.2.2.2.2.1
  intro v1 v2 v3 v4 v5 v7 v8 v9 y0 y1 H locs ls ce sl hb1_ hb2_ hW0 hS hl hf
  unfold hL_sound_78 at hf
  refine lv_icmp_ne (tgt := 169) hx hb dL_sound_78 (by decide) (fun c_18 => ?_) (fun c_18 => ?_)
  · replace hf := ite_f c_18 hf
    exact bL_sound_169 (z0 := z0) X hl0 hq22 v1 v2 v3 v4 v5 v7 v8 v9 _ _ _ _ _ (by omega) (by omega) hW0 hS (lv_sub hl [0, 1, 2, 3, 4, 5, 6, 7, 8] rfl) hf
  · replace hf := ite_t c_18 hf
    refine lv_iload hx hb dL_sound_81 (lv_at hl 7 rfl) ?_
    refine lv_sipush (v := (-9999 : Int32)) hx hb dL_sound_83 (by decide) ?_
    refine lv_icmp_eq (tgt := 153) hx hb dL_sound_86 (by decide) (fun c_19 => ?_) (fun c_19 => ?_)
    · replace hf := ite_t c_19 hf
      exact bL_sound_153 (z0 := z0) X hl0 hq22 v1 v2 v3 v4 v5 v7 v8 v9 _ _ _ _ _ (by omega) (by omega) hW0 hS (lv_sub hl [0, 1, 2, 3, 4, 5, 6, 7, 8] rfl) hf
    · replace hf := ite_f c_19 hf
      refine lv_iload hx hb dL_sound_89 (lv_at hl 7 rfl) ?_
      refine lv_iload hx hb dL_sound_91 (lv_at hl 6 rfl) ?_
      refine lv_icmp_eq (tgt := 169) hx hb dL_sound_93 (by decide) (fun c_20 => ?_) (fun c_20 => ?_)
      · replace hf := ite_t c_20 hf
        exact bL_sound_169 (z0 := z0) X hl0 hq22 v1 v2 v3 v4 v5 v7 v8 v9 _ _ _ _ _ (by omega) (by omega) hW0 hS (lv_sub hl [0, 1, 2, 3, 4, 5, 6, 7, 8] rfl) hf
      · replace hf := ite_f c_20 hf
        refine lv_aload_n hx hb dL_sound_96 rfl (lv_at hl 0 rfl) ?_
        refine lv_iload hx hb dL_sound_97 (lv_at hl 7 rfl) ?_
        refine lv_bipush (v := (8 : Int32)) hx hb dL_sound_99 (by decide) ?_
        refine kA (As := [.ref (ad0 360), .int v8, .int (8 : Int32)]) (rest := []) X (fun q h => h) hW0 hS (tI_tryMember l D cy ad0 ba0 hl0 z0 v8 (8 : Int32)) (vx_cwSW (hh := [(0, 6, 7, 30), (0, 6, 11, 13)]) 3 X.2.2.2.2.2.1 gL_sound_L_tryMember rfl rfl rfl kdL_tryMember.2 ⟨(Nat.le_of_ble_eq_true rfl), (Nat.le_of_ble_eq_true rfl)⟩) rfl rfl hl.1 (Nat.le_of_ble_eq_true rfl) ⟨by show _ ≤ 2798; omega, by show _ ≤ 16788; omega⟩ dL_sound_101 (fun H locs hW0 hS hz hk => ?_)
        clear hz hk
        refine lv_iload hx hb dL_sound_104 (lv_at hl 6 rfl) ?_
        refine lv_icmp_ne (tgt := 169) hx hb dL_sound_106 (by decide) (fun c_21 => ?_) (fun c_21 => ?_)
        · replace hf := ite_f c_21 hf
          exact bL_sound_169 (z0 := z0) X hl0 hq22 v1 v2 v3 v4 v5 v7 v8 v9 _ _ _ _ _ (by omega) (by omega) hW0 hS (lv_sub hl [0, 1, 2, 3, 4, 5, 6, 7, 8] rfl) hf
        · replace hf := ite_t c_21 hf
          refine lv_aload_n hx hb dL_sound_109 rfl (lv_at hl 0 rfl) ?_
          refine lv_iload hx hb dL_sound_110 (lv_at hl 7 rfl) ?_
          refine lv_bipush (v := (9 : Int32)) hx hb dL_sound_112 (by decide) ?_
          refine kA (As := [.ref (ad0 360), .int v8, .int (9 : Int32)]) (rest := []) X (fun q h => h) hW0 hS (tI_tryMember l D cy ad0 ba0 hl0 z0 v8 (9 : Int32)) (vx_cwSW (hh := [(0, 6, 7, 30), (0, 6, 11, 13)]) 3 X.2.2.2.2.2.1 gL_sound_L_tryMember rfl rfl rfl kdL_tryMember.2 ⟨(Nat.le_of_ble_eq_true rfl), (Nat.le_of_ble_eq_true rfl)⟩) rfl rfl hl.1 (Nat.le_of_ble_eq_true rfl) ⟨by show _ ≤ 2798; omega, by show _ ≤ 16788; omega⟩ dL_sound_114 (fun H locs hW0 hS hz hk => ?_)
          clear hz hk
          refine lv_aload_n hx hb dL_sound_117 rfl (lv_at hl 0 rfl) ?_
          refine lv_iload hx hb dL_sound_118 (lv_at hl 6 rfl) ?_
          refine lv_bipush (v := (9 : Int32)) hx hb dL_sound_120 (by decide) ?_
          refine kA (As := [.ref (ad0 360), .int v7, .int (9 : Int32)]) (rest := [.int (A_tryMember z0 v8 (9 : Int32))]) X (fun q h => h) hW0 hS (tI_tryMember l D cy ad0 ba0 hl0 z0 v7 (9 : Int32)) (vx_cwSW (hh := [(0, 6, 7, 30), (0, 6, 11, 13)]) 3 X.2.2.2.2.2.1 gL_sound_L_tryMember rfl rfl rfl kdL_tryMember.2 ⟨(Nat.le_of_ble_eq_true rfl), (Nat.le_of_ble_eq_true rfl)⟩) rfl rfl hl.1 (Nat.le_of_ble_eq_true rfl) ⟨by show _ ≤ 2798; omega, by show _ ≤ 16788; omega⟩ dL_sound_122 (fun H locs hW0 hS hz hk => ?_)
          clear hz hk
          refine lv_icmp_ne (tgt := 169) hx hb dL_sound_125 (by decide) (fun c_22 => ?_) (fun c_22 => ?_)
          · replace hf := ite_f c_22 hf
            exact bL_sound_169 (z0 := z0) X hl0 hq22 v1 v2 v3 v4 v5 v7 v8 v9 _ _ _ _ _ (by omega) (by omega) hW0 hS (lv_sub hl [0, 1, 2, 3, 4, 5, 6, 7, 8] rfl) hf
          · replace hf := ite_t c_22 hf
            refine lv_aload_n hx hb dL_sound_128 rfl (lv_at hl 0 rfl) ?_
            refine lv_iload hx hb dL_sound_129 (lv_at hl 6 rfl) ?_
            refine lv_bipush (v := (9 : Int32)) hx hb dL_sound_131 (by decide) ?_
            refine kA (As := [.ref (ad0 360), .int v7, .int (9 : Int32)]) (rest := []) X (fun q h => h) hW0 hS (tI_tryMember l D cy ad0 ba0 hl0 z0 v7 (9 : Int32)) (vx_cwSW (hh := [(0, 6, 7, 30), (0, 6, 11, 13)]) 3 X.2.2.2.2.2.1 gL_sound_L_tryMember rfl rfl rfl kdL_tryMember.2 ⟨(Nat.le_of_ble_eq_true rfl), (Nat.le_of_ble_eq_true rfl)⟩) rfl rfl hl.1 (Nat.le_of_ble_eq_true rfl) ⟨by show _ ≤ 2798; omega, by show _ ≤ 16788; omega⟩ dL_sound_133 (fun H locs hW0 hS hz hk => ?_)
            clear hz hk
            refine lv_iconst (v := (3 : Int32)) hx hb dL_sound_136 (by decide) ?_
            refine lv_icmp_ge (tgt := 169) hx hb dL_sound_137 (by decide) (fun c_23 => ?_) (fun c_23 => ?_)
            · replace hf := ite_t c_23 hf
              exact bL_sound_169 (z0 := z0) X hl0 hq22 v1 v2 v3 v4 v5 v7 v8 v9 _ _ _ _ _ (by omega) (by omega) hW0 hS (lv_sub hl [0, 1, 2, 3, 4, 5, 6, 7, 8] rfl) hf
            · replace hf := ite_f c_23 hf
              refine lv_aload_n hx hb dL_sound_140 rfl (lv_at hl 0 rfl) ?_
              refine lv_iload hx hb dL_sound_141 (lv_at hl 6 rfl) ?_
              refine lv_iload hx hb dL_sound_143 (lv_at hl 7 rfl) ?_
              refine lv_iconst (v := (2 : Int32)) hx hb dL_sound_145 (by decide) ?_
              refine kA (As := [.ref (ad0 360), .int v7, .int v8, .int (2 : Int32)]) (rest := []) X (fun q h => h) hW0 hS (tI_tryBoth l D cy ad0 ba0 hl0 z0 v7 v8 (2 : Int32)) (vx_cwSW (hh := [(0, 7, 8, 30), (0, 7, 13, 13)]) 4 X.2.2.2.2.2.1 gL_sound_L_tryBoth rfl rfl rfl kdL_tryBoth.2 ⟨(Nat.le_of_ble_eq_true rfl), (Nat.le_of_ble_eq_true rfl)⟩) rfl rfl hl.1 (Nat.le_of_ble_eq_true rfl) ⟨by show _ ≤ 2798; omega, by show _ ≤ 16788; omega⟩ dL_sound_146 (fun H locs hW0 hS hz hk => ?_)
              clear hz hk
              refine lv_iconst (v := (1 : Int32)) hx hb dL_sound_149 (by decide) ?_
              refine lv_icmp_ne (tgt := 169) hx hb dL_sound_150 (by decide) (fun c_24 => ?_) (fun c_24 => ?_)
              · replace hf := ite_f c_24 hf
                exact bL_sound_169 (z0 := z0) X hl0 hq22 v1 v2 v3 v4 v5 v7 v8 v9 _ _ _ _ _ (by omega) (by omega) hW0 hS (lv_sub hl [0, 1, 2, 3, 4, 5, 6, 7, 8] rfl) hf
              · replace hf := ite_t c_24 hf
                exact bL_sound_153 (z0 := z0) X hl0 hq22 v1 v2 v3 v4 v5 v7 v8 v9 _ _ _ _ _ (by omega) (by omega) hW0 hS (lv_sub hl [0, 1, 2, 3, 4, 5, 6, 7, 8] rfl) hf
set_option maxRecDepth 100000 in
set_option maxHeartbeats 4000000 in
theorem bL_sound_59 {p : Program} {l : Launch} {e : Env} {s : State} {m : MethodId} {args : Array Value} {below : List Frame} {meth : Method} {c : Code} {D : va_G} {cy : Nat → ClassId} {ad0 : Nat → Nat} {ba0 : Nat → Prop} {z0 : aS} {res : Int32} (X : teC wsL_sound RL cL_sound 14 (some .boolean) D cy ba0 p s m args meth c) (hl0 : l.stackTraces = false) {n22 : Nat} {q22 : Int32 → Int32 → Int32 → Int32 → Int32 → Int32 → Int32 → Option Int32} (hq22 : ∀ (v1 : Int32) (v2 : Int32) (v3 : Int32) (v4 : Int32) (v5 : Int32) (v6 : Int32) (v7 : Int32) (H : Heap) (locs : List Loc) (ls : Array Slot) (ce sl : Nat), ce + (279 * n22 + 7) ≤ 2798 → sl + (1674 * n22 + 42) ≤ 16788 → aR D cy ad0 ba0 z0 H → va_S ba0 s.heap H locs → lv_has ls 14 [(0, .ref (ad0 360)), (1, .int v1), (2, .int v2), (3, .int v3), (4, .int v4), (5, .int v5), (6, .int v6), (7, .int v7)] → q22 v1 v2 v3 v4 v5 v6 v7 = some res → W p l e (headSpec wsL_sound rmL_sound).room s m args below meth c H locs ce sl (MQ below (va_Qi (fun a (_ : Unit) => a = res) (fun _ t => (aR D cy ad0 ba0 z0) t.heap) ba0) args s 2798 16788 ba0) (F0 m 22 ls [])) : ∀ (v1 : Int32) (v2 : Int32) (v3 : Int32) (v4 : Int32) (v5 : Int32) (v7 : Int32) (v8 : Int32) (v9 : Int32) (y0 : Int32) (H : Heap) (locs : List Loc) (ls : Array Slot) (ce sl : Nat), ce + (279 * n22 + 285) ≤ 2798 → sl + (1674 * n22 + 1710) ≤ 16788 → aR D cy ad0 ba0 z0 H → va_S ba0 s.heap H locs → lv_has ls 14 [(0, .ref (ad0 360)), (1, .int v1), (2, .int v2), (3, .int v3), (4, .int v4), (5, .int v5), (7, .int v7), (8, .int v8), (9, .int v9)] → hL_sound_59 z0 q22 v1 v2 v3 v4 v5 v7 v8 v9 y0 = some res → W p l e (headSpec wsL_sound rmL_sound).room s m args below meth c H locs ce sl (MQ below (va_Qi (fun a (_ : Unit) => a = res) (fun _ t => (aR D cy ad0 ba0 z0) t.heap) ba0) args s 2798 16788 ba0) (F0 m 59 ls [.int y0]) := by
  have hx := X.1
  have hb := X.2.1
  have hown := X.2.2.2.2.1
  intro v1 v2 v3 v4 v5 v7 v8 v9 y0 H locs ls ce sl hb1_ hb2_ hW0 hS hl hf
  unfold hL_sound_59 at hf
  refine lv_aload_n hx hb dL_sound_59 rfl (lv_at hl 0 rfl) ?_
  refine lv_iload hx hb dL_sound_60 (lv_at hl 6 rfl) ?_
  refine lv_bipush (v := (9 : Int32)) hx hb dL_sound_62 (by decide) ?_
  refine kA (As := [.ref (ad0 360), .int v7, .int (9 : Int32)]) (rest := [.int y0]) X (fun q h => h) hW0 hS (tI_tryMember l D cy ad0 ba0 hl0 z0 v7 (9 : Int32)) (vx_cwSW (hh := [(0, 6, 7, 30), (0, 6, 11, 13)]) 3 X.2.2.2.2.2.1 gL_sound_L_tryMember rfl rfl rfl kdL_tryMember.2 ⟨(Nat.le_of_ble_eq_true rfl), (Nat.le_of_ble_eq_true rfl)⟩) rfl rfl hl.1 (Nat.le_of_ble_eq_true rfl) ⟨by show _ ≤ 2798; omega, by show _ ≤ 16788; omega⟩ dL_sound_64 (fun H locs hW0 hS hz hk => ?_)
  clear hz hk
  refine lv_sipush (v := (-9999 : Int32)) hx hb dL_sound_67 (by decide) ?_
  refine lv_icmp_ne (tgt := 77) hx hb dL_sound_70 (by decide) (fun c_14 => ?_) (fun c_14 => ?_)
  · replace hf := ite_f c_14 hf
    refine lv_iconst (v := (0 : Int32)) hx hb dL_sound_77 (by decide) ?_
    exact bL_sound_78 (z0 := z0) X hl0 hq22 v1 v2 v3 v4 v5 v7 v8 v9 (0 : Int32) y0 _ _ _ _ _ (by omega) (by omega) hW0 hS (lv_sub hl [0, 1, 2, 3, 4, 5, 6, 7, 8] rfl) hf
  · replace hf := ite_t c_14 hf
    refine lv_iconst (v := (1 : Int32)) hx hb dL_sound_73 (by decide) ?_
    refine lv_goto (tgt := 78) hx hb dL_sound_74 (by decide) ?_
    exact bL_sound_78 (z0 := z0) X hl0 hq22 v1 v2 v3 v4 v5 v7 v8 v9 (1 : Int32) y0 _ _ _ _ _ (by omega) (by omega) hW0 hS (lv_sub hl [0, 1, 2, 3, 4, 5, 6, 7, 8] rfl) hf
set_option maxRecDepth 100000 in
set_option maxHeartbeats 4000000 in
theorem bL_sound_754 {p : Program} {l : Launch} {e : Env} {s : State} {m : MethodId} {args : Array Value} {below : List Frame} {meth : Method} {c : Code} {D : va_G} {cy : Nat → ClassId} {ad0 : Nat → Nat} {ba0 : Nat → Prop} {z0 : aS} {res : Int32} (X : teC wsL_sound RL cL_sound 14 (some .boolean) D cy ba0 p s m args meth c) (hl0 : l.stackTraces = false) : ∀ (H : Heap) (locs : List Loc) (ls : Array Slot) (ce sl : Nat), ce + (0) ≤ 2798 → sl + (0) ≤ 16788 → aR D cy ad0 ba0 z0 H → va_S ba0 s.heap H locs → lv_has ls 14 [] → hL_sound_754 z0 = some res → W p l e (headSpec wsL_sound rmL_sound).room s m args below meth c H locs ce sl (MQ below (va_Qi (fun a (_ : Unit) => a = res) (fun _ t => (aR D cy ad0 ba0 z0) t.heap) ba0) args s 2798 16788 ba0) (F0 m 754 ls []) := by
  have hx := X.1
  have hb := X.2.1
  have hown := X.2.2.2.2.1
  intro H locs ls ce sl hb1_ hb2_ hW0 hS hl hf
  unfold hL_sound_754 at hf
  refine lv_iconst (v := (0 : Int32)) hx hb dL_sound_754 (by decide) ?_
  cases Option.some.inj hf
  exact eKz (v := (0 : Int32)) X hW0 hS (by decide) rfl (by omega) (by omega) dL_sound_755
set_option maxRecDepth 100000 in
set_option maxHeartbeats 4000000 in
theorem bL_sound_735 {p : Program} {l : Launch} {e : Env} {s : State} {m : MethodId} {args : Array Value} {below : List Frame} {meth : Method} {c : Code} {D : va_G} {cy : Nat → ClassId} {ad0 : Nat → Nat} {ba0 : Nat → Prop} {z0 : aS} {res : Int32} (X : teC wsL_sound RL cL_sound 14 (some .boolean) D cy ba0 p s m args meth c) (hl0 : l.stackTraces = false) : ∀ (v3 : Int32) (y0 : Int32) (y1 : Int32) (H : Heap) (locs : List Loc) (ls : Array Slot) (ce sl : Nat), ce + (1) ≤ 2798 → sl + (6) ≤ 16788 → aR D cy ad0 ba0 z0 H → va_S ba0 s.heap H locs → lv_has ls 14 [(0, .ref (ad0 360)), (3, .int v3)] → hL_sound_735 z0 v3 y0 y1 = some res → W p l e (headSpec wsL_sound rmL_sound).room s m args below meth c H locs ce sl (MQ below (va_Qi (fun a (_ : Unit) => a = res) (fun _ t => (aR D cy ad0 ba0 z0) t.heap) ba0) args s 2798 16788 ba0) (F0 m 735 ls [.int y0, .int y1]) := by
  have hx := X.1
  have hb := X.2.1
  have hown := X.2.2.2.2.1
  intro v3 y0 y1 H locs ls ce sl hb1_ hb2_ hW0 hS hl hf
  unfold hL_sound_735 at hf
  refine lv_icmp_ne (tgt := 754) hx hb dL_sound_735 (by decide) (fun c_25 => ?_) (fun c_25 => ?_)
  · replace hf := ite_f c_25 hf
    exact bL_sound_754 (z0 := z0) X hl0  _ _ _ _ _ (by omega) (by omega) hW0 hS (lv_sub hl [] rfl) hf
  · replace hf := ite_t c_25 hf
    refine lv_aload_n hx hb dL_sound_738 rfl (lv_at hl 0 rfl) ?_
    refine lv_iload_n hx hb dL_sound_739 rfl (lv_at hl 1 rfl) ?_
    refine lv_iconst (v := (0 : Int32)) hx hb dL_sound_740 (by decide) ?_
    refine kA (As := [.ref (ad0 360), .int v3, .int (0 : Int32)]) (rest := []) X (fun q h => h) hW0 hS (tI_tryBlocking l D cy ad0 ba0 hl0 z0 v3 (0 : Int32)) (vx_cwSW (hh := [(0, 6, 7, 13)]) 3 X.2.2.2.2.2.1 gL_sound_L_tryBlocking rfl rfl rfl kdL_tryBlocking.2 ⟨(Nat.le_of_ble_eq_true rfl), (Nat.le_of_ble_eq_true rfl)⟩) rfl rfl hl.1 (Nat.le_of_ble_eq_true rfl) ⟨by show _ ≤ 2798; omega, by show _ ≤ 16788; omega⟩ dL_sound_741 (fun H locs hW0 hS hz hk => ?_)
    clear hz hk
    refine lv_sipush (v := (-9999 : Int32)) hx hb dL_sound_744 (by decide) ?_
    refine lv_icmp_ne (tgt := 754) hx hb dL_sound_747 (by decide) (fun c_26 => ?_) (fun c_26 => ?_)
    · replace hf := ite_f c_26 hf
      exact bL_sound_754 (z0 := z0) X hl0  _ _ _ _ _ (by omega) (by omega) hW0 hS (lv_sub hl [] rfl) hf
    · replace hf := ite_t c_26 hf
      refine lv_iconst (v := (1 : Int32)) hx hb dL_sound_750 (by decide) ?_
      refine lv_goto (tgt := 755) hx hb dL_sound_751 (by decide) ?_
      cases Option.some.inj hf
      exact eKz (v := (1 : Int32)) X hW0 hS (by decide) rfl (by omega) (by omega) dL_sound_755
set_option maxRecDepth 100000 in
set_option maxHeartbeats 4000000 in
theorem bL_sound_715 {p : Program} {l : Launch} {e : Env} {s : State} {m : MethodId} {args : Array Value} {below : List Frame} {meth : Method} {c : Code} {D : va_G} {cy : Nat → ClassId} {ad0 : Nat → Nat} {ba0 : Nat → Prop} {z0 : aS} {res : Int32} (X : teC wsL_sound RL cL_sound 14 (some .boolean) D cy ba0 p s m args meth c) (hl0 : l.stackTraces = false) : ∀ (v3 : Int32) (v4 : Int32) (v7 : Int32) (H : Heap) (locs : List Loc) (ls : Array Slot) (ce sl : Nat), ce + (1) ≤ 2798 → sl + (6) ≤ 16788 → aR D cy ad0 ba0 z0 H → va_S ba0 s.heap H locs → lv_has ls 14 [(0, .ref (ad0 360)), (3, .int v3), (4, .int v4), (7, .int v7)] → hL_sound_715 z0 v3 v4 v7 = some res → W p l e (headSpec wsL_sound rmL_sound).room s m args below meth c H locs ce sl (MQ below (va_Qi (fun a (_ : Unit) => a = res) (fun _ t => (aR D cy ad0 ba0 z0) t.heap) ba0) args s 2798 16788 ba0) (F0 m 715 ls []) := by
  have hx := X.1
  have hb := X.2.1
  have hown := X.2.2.2.2.1
  intro v3 v4 v7 H locs ls ce sl hb1_ hb2_ hW0 hS hl hf
  unfold hL_sound_715 at hf
  refine lv_iload hx hb dL_sound_715 (lv_at hl 2 rfl) ?_
  refine lv_if_ne (tgt := 724) hx hb dL_sound_717 (by decide) (fun c_15 => ?_) (fun c_15 => ?_)
  · replace hf := ite_f c_15 hf
    refine lv_iconst (v := (0 : Int32)) hx hb dL_sound_724 (by decide) ?_
    refine lv_iload hx hb dL_sound_725 (lv_at hl 3 rfl) ?_
    refine lv_if_ne (tgt := 734) hx hb dL_sound_727 (by decide) (fun c_16 => ?_) (fun c_16 => ?_)
    · replace hf := ite_f c_16 hf
      refine lv_iconst (v := (0 : Int32)) hx hb dL_sound_734 (by decide) ?_
      exact bL_sound_735 (z0 := z0) X hl0 v3 (0 : Int32) (0 : Int32) _ _ _ _ _ (by omega) (by omega) hW0 hS (lv_sub hl [0, 1] rfl) hf
    · replace hf := ite_t c_16 hf
      refine lv_iconst (v := (1 : Int32)) hx hb dL_sound_730 (by decide) ?_
      refine lv_goto (tgt := 735) hx hb dL_sound_731 (by decide) ?_
      exact bL_sound_735 (z0 := z0) X hl0 v3 (1 : Int32) (0 : Int32) _ _ _ _ _ (by omega) (by omega) hW0 hS (lv_sub hl [0, 1] rfl) hf
  · replace hf := ite_t c_15 hf
    refine lv_iconst (v := (1 : Int32)) hx hb dL_sound_720 (by decide) ?_
    refine lv_goto (tgt := 725) hx hb dL_sound_721 (by decide) ?_
    refine lv_iload hx hb dL_sound_725 (lv_at hl 3 rfl) ?_
    refine lv_if_ne (tgt := 734) hx hb dL_sound_727 (by decide) (fun c_17 => ?_) (fun c_17 => ?_)
    · replace hf := ite_f c_17 hf
      refine lv_iconst (v := (0 : Int32)) hx hb dL_sound_734 (by decide) ?_
      exact bL_sound_735 (z0 := z0) X hl0 v3 (0 : Int32) (1 : Int32) _ _ _ _ _ (by omega) (by omega) hW0 hS (lv_sub hl [0, 1] rfl) hf
    · replace hf := ite_t c_17 hf
      refine lv_iconst (v := (1 : Int32)) hx hb dL_sound_730 (by decide) ?_
      refine lv_goto (tgt := 735) hx hb dL_sound_731 (by decide) ?_
      exact bL_sound_735 (z0 := z0) X hl0 v3 (1 : Int32) (1 : Int32) _ _ _ _ _ (by omega) (by omega) hW0 hS (lv_sub hl [0, 1] rfl) hf
set_option maxRecDepth 100000 in
set_option maxHeartbeats 4000000 in
theorem bL_sound_627 {p : Program} {l : Launch} {e : Env} {s : State} {m : MethodId} {args : Array Value} {below : List Frame} {meth : Method} {c : Code} {D : va_G} {cy : Nat → ClassId} {ad0 : Nat → Nat} {ba0 : Nat → Prop} {z0 : aS} {res : Int32} (X : teC wsL_sound RL cL_sound 14 (some .boolean) D cy ba0 p s m args meth c) (hl0 : l.stackTraces = false) : ∀ (v1 : Int32) (v2 : Int32) (v3 : Int32) (v4 : Int32) (v5 : Int32) (v6 : Int32) (H : Heap) (locs : List Loc) (ls : Array Slot) (ce sl : Nat), ce + (7) ≤ 2798 → sl + (42) ≤ 16788 → aR D cy ad0 ba0 z0 H → va_S ba0 s.heap H locs → lv_has ls 14 [(0, .ref (ad0 360)), (1, .int v1), (2, .int v2), (3, .int v3), (4, .int v4), (5, .int v5), (6, .int v6)] → hL_sound_627 z0 v1 v2 v3 v4 v5 v6 = some res → W p l e (headSpec wsL_sound rmL_sound).room s m args below meth c H locs ce sl (MQ below (va_Qi (fun a (_ : Unit) => a = res) (fun _ t => (aR D cy ad0 ba0 z0) t.heap) ba0) args s 2798 16788 ba0) (F0 m 627 ls []) := by
  have hx := X.1
  have hb := X.2.1
  have hown := X.2.2.2.2.1
  intro v1 v2 v3 v4 v5 v6 H locs ls ce sl hb1_ hb2_ hW0 hS hl hf
  unfold hL_sound_627 at hf
  refine lv_aload_n hx hb dL_sound_627 rfl (lv_at hl 0 rfl) ?_
  refine lv_iconst (v := (0 : Int32)) hx hb dL_sound_628 (by decide) ?_
  refine kA (As := [.ref (ad0 360), .int (0 : Int32)]) (rest := []) X (fun q h => h) hW0 hS (tI_tryBest l D cy ad0 ba0 hl0 z0 (0 : Int32)) (vx_cwSW (hh := [(0, 5, 6, 13)]) 2 X.2.2.2.2.2.1 gL_sound_L_tryBest rfl rfl rfl kdL_tryBest.2 ⟨(Nat.le_of_ble_eq_true rfl), (Nat.le_of_ble_eq_true rfl)⟩) rfl rfl hl.1 (Nat.le_of_ble_eq_true rfl) ⟨by show _ ≤ 2798; omega, by show _ ≤ 16788; omega⟩ dL_sound_629 (fun H locs hW0 hS hz hk => ?_)
  clear hz hk
  refine lv_istore (lv' := [(7, .int (A_tryBest z0 (0 : Int32))), (0, .ref (ad0 360)), (1, .int v1), (2, .int v2), (3, .int v3), (4, .int v4), (5, .int v5), (6, .int v6)]) hx hb dL_sound_632 hl (by decide) rfl (fun ls hl => ?_)
  refine lv_iload hx hb dL_sound_634 (lv_at hl 7 rfl) ?_
  refine lv_if_eq (tgt := 754) hx hb dL_sound_636 (by decide) (fun c_4 => ?_) (fun c_4 => ?_)
  · replace hf := ite_t c_4 hf
    exact bL_sound_754 (z0 := z0) X hl0  _ _ _ _ _ (by omega) (by omega) hW0 hS (lv_sub hl [] rfl) hf
  · replace hf := ite_f c_4 hf
    refine lv_aload_n hx hb dL_sound_639 rfl (lv_at hl 1 rfl) ?_
    refine lv_iconst (v := (1 : Int32)) hx hb dL_sound_640 (by decide) ?_
    refine kA (As := [.ref (ad0 360), .int (1 : Int32)]) (rest := []) X (fun q h => h) hW0 hS (tI_tryAbout l D cy ad0 ba0 hl0 z0 (1 : Int32)) (vx_cwSW (hh := [(0, 5, 6, 13)]) 2 X.2.2.2.2.2.1 gL_sound_L_tryAbout rfl rfl rfl kdL_tryAbout.2 ⟨(Nat.le_of_ble_eq_true rfl), (Nat.le_of_ble_eq_true rfl)⟩) rfl rfl hl.1 (Nat.le_of_ble_eq_true rfl) ⟨by show _ ≤ 2798; omega, by show _ ≤ 16788; omega⟩ dL_sound_641 (fun H locs hW0 hS hz hk => ?_)
    clear hz hk
    refine lv_iload_n hx hb dL_sound_644 rfl (lv_at hl 3 rfl) ?_
    refine lv_icmp_ne (tgt := 754) hx hb dL_sound_645 (by decide) (fun c_5 => ?_) (fun c_5 => ?_)
    · replace hf := ite_f c_5 hf
      exact bL_sound_754 (z0 := z0) X hl0  _ _ _ _ _ (by omega) (by omega) hW0 hS (lv_sub hl [] rfl) hf
    · replace hf := ite_t c_5 hf
      refine lv_aload_n hx hb dL_sound_648 rfl (lv_at hl 1 rfl) ?_
      refine lv_iconst (v := (3 : Int32)) hx hb dL_sound_649 (by decide) ?_
      refine kA (As := [.ref (ad0 360), .int (3 : Int32)]) (rest := []) X (fun q h => h) hW0 hS (tI_tryAbout l D cy ad0 ba0 hl0 z0 (3 : Int32)) (vx_cwSW (hh := [(0, 5, 6, 13)]) 2 X.2.2.2.2.2.1 gL_sound_L_tryAbout rfl rfl rfl kdL_tryAbout.2 ⟨(Nat.le_of_ble_eq_true rfl), (Nat.le_of_ble_eq_true rfl)⟩) rfl rfl hl.1 (Nat.le_of_ble_eq_true rfl) ⟨by show _ ≤ 2798; omega, by show _ ≤ 16788; omega⟩ dL_sound_650 (fun H locs hW0 hS hz hk => ?_)
      clear hz hk
      refine lv_iload hx hb dL_sound_653 (lv_at hl 6 rfl) ?_
      refine lv_icmp_ne (tgt := 754) hx hb dL_sound_655 (by decide) (fun c_6 => ?_) (fun c_6 => ?_)
      · replace hf := ite_f c_6 hf
        exact bL_sound_754 (z0 := z0) X hl0  _ _ _ _ _ (by omega) (by omega) hW0 hS (lv_sub hl [] rfl) hf
      · replace hf := ite_t c_6 hf
        refine lv_aload_n hx hb dL_sound_658 rfl (lv_at hl 1 rfl) ?_
        refine lv_iconst (v := (4 : Int32)) hx hb dL_sound_659 (by decide) ?_
        refine kA (As := [.ref (ad0 360), .int (4 : Int32)]) (rest := []) X (fun q h => h) hW0 hS (tI_tryAbout l D cy ad0 ba0 hl0 z0 (4 : Int32)) (vx_cwSW (hh := [(0, 5, 6, 13)]) 2 X.2.2.2.2.2.1 gL_sound_L_tryAbout rfl rfl rfl kdL_tryAbout.2 ⟨(Nat.le_of_ble_eq_true rfl), (Nat.le_of_ble_eq_true rfl)⟩) rfl rfl hl.1 (Nat.le_of_ble_eq_true rfl) ⟨by show _ ≤ 2798; omega, by show _ ≤ 16788; omega⟩ dL_sound_660 (fun H locs hW0 hS hz hk => ?_)
        clear hz hk
        refine lv_iload_n hx hb dL_sound_663 rfl (lv_at hl 4 rfl) ?_
        refine lv_icmp_ne (tgt := 754) hx hb dL_sound_664 (by decide) (fun c_7 => ?_) (fun c_7 => ?_)
        · replace hf := ite_f c_7 hf
          exact bL_sound_754 (z0 := z0) X hl0  _ _ _ _ _ (by omega) (by omega) hW0 hS (lv_sub hl [] rfl) hf
        · replace hf := ite_t c_7 hf
          refine lv_aload_n hx hb dL_sound_667 rfl (lv_at hl 1 rfl) ?_
          refine lv_bipush (v := (6 : Int32)) hx hb dL_sound_668 (by decide) ?_
          refine kA (As := [.ref (ad0 360), .int (6 : Int32)]) (rest := []) X (fun q h => h) hW0 hS (tI_tryAbout l D cy ad0 ba0 hl0 z0 (6 : Int32)) (vx_cwSW (hh := [(0, 5, 6, 13)]) 2 X.2.2.2.2.2.1 gL_sound_L_tryAbout rfl rfl rfl kdL_tryAbout.2 ⟨(Nat.le_of_ble_eq_true rfl), (Nat.le_of_ble_eq_true rfl)⟩) rfl rfl hl.1 (Nat.le_of_ble_eq_true rfl) ⟨by show _ ≤ 2798; omega, by show _ ≤ 16788; omega⟩ dL_sound_670 (fun H locs hW0 hS hz hk => ?_)
          clear hz hk
          refine lv_iload hx hb dL_sound_673 (lv_at hl 5 rfl) ?_
          refine lv_icmp_ne (tgt := 754) hx hb dL_sound_675 (by decide) (fun c_8 => ?_) (fun c_8 => ?_)
          · replace hf := ite_f c_8 hf
            exact bL_sound_754 (z0 := z0) X hl0  _ _ _ _ _ (by omega) (by omega) hW0 hS (lv_sub hl [] rfl) hf
          · replace hf := ite_t c_8 hf
            refine lv_iload hx hb dL_sound_678 (lv_at hl 0 rfl) ?_
            refine lv_iload_n hx hb dL_sound_680 rfl (lv_at hl 3 rfl) ?_
            refine lv_icmp_lt (tgt := 754) hx hb dL_sound_681 (by decide) (fun c_9 => ?_) (fun c_9 => ?_)
            · replace hf := ite_t c_9 hf
              exact bL_sound_754 (z0 := z0) X hl0  _ _ _ _ _ (by omega) (by omega) hW0 hS (lv_sub hl [] rfl) hf
            · replace hf := ite_f c_9 hf
              refine lv_iconst (v := (2 : Int32)) hx hb dL_sound_684 (by decide) ?_
              refine lv_iload hx hb dL_sound_685 (lv_at hl 0 rfl) ?_
              refine lv_imul hx hb dL_sound_687 ?_
              refine lv_iload_n hx hb dL_sound_688 rfl (lv_at hl 2 rfl) ?_
              refine lv_icmp_gt (tgt := 754) hx hb dL_sound_689 (by decide) (fun c_10 => ?_) (fun c_10 => ?_)
              · replace hf := ite_t c_10 hf
                exact bL_sound_754 (z0 := z0) X hl0  _ _ _ _ _ (by omega) (by omega) hW0 hS (lv_sub hl [] rfl) hf
              · replace hf := ite_f c_10 hf
                refine lv_iload hx hb dL_sound_692 (lv_at hl 0 rfl) ?_
                refine lv_iload hx hb dL_sound_694 (lv_at hl 5 rfl) ?_
                refine lv_icmp_gt (tgt := 754) hx hb dL_sound_696 (by decide) (fun c_11 => ?_) (fun c_11 => ?_)
                · replace hf := ite_t c_11 hf
                  exact bL_sound_754 (z0 := z0) X hl0  _ _ _ _ _ (by omega) (by omega) hW0 hS (lv_sub hl [] rfl) hf
                · replace hf := ite_f c_11 hf
                  refine lv_iload hx hb dL_sound_699 (lv_at hl 0 rfl) ?_
                  refine lv_iload_n hx hb dL_sound_701 rfl (lv_at hl 3 rfl) ?_
                  refine lv_icmp_ne (tgt := 715) hx hb dL_sound_702 (by decide) (fun c_12 => ?_) (fun c_12 => ?_)
                  · replace hf := ite_f c_12 hf
                    exact bL_sound_715 (z0 := z0) X hl0 v3 v4 (A_tryBest z0 (0 : Int32)) _ _ _ _ _ (by omega) (by omega) hW0 hS (lv_sub hl [1, 4, 5, 0] rfl) hf
                  · replace hf := ite_t c_12 hf
                    refine lv_aload_n hx hb dL_sound_705 rfl (lv_at hl 1 rfl) ?_
                    refine lv_iconst (v := (1 : Int32)) hx hb dL_sound_706 (by decide) ?_
                    refine kA (As := [.ref (ad0 360), .int (1 : Int32)]) (rest := []) X (fun q h => h) hW0 hS (tI_tryBest l D cy ad0 ba0 hl0 z0 (1 : Int32)) (vx_cwSW (hh := [(0, 5, 6, 13)]) 2 X.2.2.2.2.2.1 gL_sound_L_tryBest rfl rfl rfl kdL_tryBest.2 ⟨(Nat.le_of_ble_eq_true rfl), (Nat.le_of_ble_eq_true rfl)⟩) rfl rfl hl.1 (Nat.le_of_ble_eq_true rfl) ⟨by show _ ≤ 2798; omega, by show _ ≤ 16788; omega⟩ dL_sound_707 (fun H locs hW0 hS hz hk => ?_)
                    clear hz hk
                    refine lv_iload hx hb dL_sound_710 (lv_at hl 6 rfl) ?_
                    refine lv_icmp_lt (tgt := 754) hx hb dL_sound_712 (by decide) (fun c_13 => ?_) (fun c_13 => ?_)
                    · replace hf := ite_t c_13 hf
                      exact bL_sound_754 (z0 := z0) X hl0  _ _ _ _ _ (by omega) (by omega) hW0 hS (lv_sub hl [] rfl) hf
                    · replace hf := ite_f c_13 hf
                      exact bL_sound_715 (z0 := z0) X hl0 v3 v4 (A_tryBest z0 (0 : Int32)) _ _ _ _ _ (by omega) (by omega) hW0 hS (lv_sub hl [1, 4, 5, 0] rfl) hf
set_option maxRecDepth 100000 in
set_option maxHeartbeats 4000000 in
theorem bL_sound_22 {p : Program} {l : Launch} {e : Env} {s : State} {m : MethodId} {args : Array Value} {below : List Frame} {meth : Method} {c : Code} {D : va_G} {cy : Nat → ClassId} {ad0 : Nat → Nat} {ba0 : Nat → Prop} {z0 : aS} {res : Int32} (X : teC wsL_sound RL cL_sound 14 (some .boolean) D cy ba0 p s m args meth c) (hl0 : l.stackTraces = false) : ∀ (n : Nat), ∀ (v1 : Int32) (v2 : Int32) (v3 : Int32) (v4 : Int32) (v5 : Int32) (v6 : Int32) (v7 : Int32) (H : Heap) (locs : List Loc) (ls : Array Slot) (ce sl : Nat), ce + (279 * n + 7) ≤ 2798 → sl + (1674 * n + 42) ≤ 16788 → aR D cy ad0 ba0 z0 H → va_S ba0 s.heap H locs → lv_has ls 14 [(0, .ref (ad0 360)), (1, .int v1), (2, .int v2), (3, .int v3), (4, .int v4), (5, .int v5), (6, .int v6), (7, .int v7)] → hL_sound_22 z0 n v1 v2 v3 v4 v5 v6 v7 = some res → W p l e (headSpec wsL_sound rmL_sound).room s m args below meth c H locs ce sl (MQ below (va_Qi (fun a (_ : Unit) => a = res) (fun _ t => (aR D cy ad0 ba0 z0) t.heap) ba0) args s 2798 16788 ba0) (F0 m 22 ls []) := by
  have hx := X.1
  have hb := X.2.1
  have hown := X.2.2.2.2.1
  intro n
  induction n with
  | zero =>
    intro v1 v2 v3 v4 v5 v6 v7 H locs ls ce sl hb1_ hb2_ hW0 hS hl hf
    exact nomatch hf
  | succ n ih =>
    intro v1 v2 v3 v4 v5 v6 v7 H locs ls ce sl hb1_ hb2_ hW0 hS hl hf
    unfold hL_sound_22 at hf
    refine lv_iload hx hb dL_sound_22 (lv_at hl 7 rfl) ?_
    refine lv_iload_n hx hb dL_sound_24 rfl (lv_at hl 1 rfl) ?_
    refine lv_icmp_ge (tgt := 627) hx hb dL_sound_25 (by decide) (fun c_1 => ?_) (fun c_1 => ?_)
    · replace hf := ite_t c_1 hf
      exact bL_sound_627 (z0 := z0) X hl0 v1 v2 v3 v4 v5 v6 _ _ _ _ _ (by omega) (by omega) hW0 hS (lv_sub hl [0, 1, 2, 3, 4, 5, 6] rfl) hf
    · replace hf := ite_f c_1 hf
      refine lv_iload hx hb dL_sound_28 (lv_at hl 6 rfl) ?_
      refine lv_if_eq (tgt := 627) hx hb dL_sound_30 (by decide) (fun c_2 => ?_) (fun c_2 => ?_)
      · replace hf := ite_t c_2 hf
        exact bL_sound_627 (z0 := z0) X hl0 v1 v2 v3 v4 v5 v6 _ _ _ _ _ (by omega) (by omega) hW0 hS (lv_sub hl [0, 1, 2, 3, 4, 5, 6] rfl) hf
      · replace hf := ite_f c_2 hf
        refine lv_aload_n hx hb dL_sound_33 rfl (lv_at hl 0 rfl) ?_
        refine lv_iload hx hb dL_sound_34 (lv_at hl 7 rfl) ?_
        refine lv_bipush (v := (8 : Int32)) hx hb dL_sound_36 (by decide) ?_
        refine kA (As := [.ref (ad0 360), .int v7, .int (8 : Int32)]) (rest := []) X (fun q h => h) hW0 hS (tI_tryMember l D cy ad0 ba0 hl0 z0 v7 (8 : Int32)) (vx_cwSW (hh := [(0, 6, 7, 30), (0, 6, 11, 13)]) 3 X.2.2.2.2.2.1 gL_sound_L_tryMember rfl rfl rfl kdL_tryMember.2 ⟨(Nat.le_of_ble_eq_true rfl), (Nat.le_of_ble_eq_true rfl)⟩) rfl rfl hl.1 (Nat.le_of_ble_eq_true rfl) ⟨by show _ ≤ 2798; omega, by show _ ≤ 16788; omega⟩ dL_sound_38 (fun H locs hW0 hS hz hk => ?_)
        clear hz hk
        refine lv_istore (lv' := [(8, .int (A_tryMember z0 v7 (8 : Int32))), (0, .ref (ad0 360)), (1, .int v1), (2, .int v2), (3, .int v3), (4, .int v4), (5, .int v5), (6, .int v6), (7, .int v7)]) hx hb dL_sound_41 hl (by decide) rfl (fun ls hl => ?_)
        refine lv_iconst (v := (0 : Int32)) hx hb dL_sound_43 (by decide) ?_
        refine lv_istore (lv' := [(9, .int (0 : Int32)), (8, .int (A_tryMember z0 v7 (8 : Int32))), (0, .ref (ad0 360)), (1, .int v1), (2, .int v2), (3, .int v3), (4, .int v4), (5, .int v5), (6, .int v6), (7, .int v7)]) hx hb dL_sound_44 hl (by decide) rfl (fun ls hl => ?_)
        refine lv_iload hx hb dL_sound_46 (lv_at hl 1 rfl) ?_
        refine lv_sipush (v := (-9999 : Int32)) hx hb dL_sound_48 (by decide) ?_
        refine lv_icmp_ne (tgt := 58) hx hb dL_sound_51 (by decide) (fun c_3 => ?_) (fun c_3 => ?_)
        · replace hf := ite_f c_3 hf
          refine lv_iconst (v := (0 : Int32)) hx hb dL_sound_58 (by decide) ?_
          exact bL_sound_59 (z0 := z0) X hl0 ih v1 v2 v3 v4 v5 v7 (A_tryMember z0 v7 (8 : Int32)) (0 : Int32) (0 : Int32) _ _ _ _ _ (by omega) (by omega) hW0 hS (lv_sub hl [2, 3, 4, 5, 6, 7, 9, 1, 0] rfl) hf
        · replace hf := ite_t c_3 hf
          refine lv_iconst (v := (1 : Int32)) hx hb dL_sound_54 (by decide) ?_
          refine lv_goto (tgt := 59) hx hb dL_sound_55 (by decide) ?_
          exact bL_sound_59 (z0 := z0) X hl0 ih v1 v2 v3 v4 v5 v7 (A_tryMember z0 v7 (8 : Int32)) (0 : Int32) (1 : Int32) _ _ _ _ _ (by omega) (by omega) hW0 hS (lv_sub hl [2, 3, 4, 5, 6, 7, 9, 1, 0] rfl) hf
set_option maxRecDepth 100000 in
set_option maxHeartbeats 4000000 in
theorem bL_sound_0 {p : Program} {l : Launch} {e : Env} {s : State} {m : MethodId} {args : Array Value} {below : List Frame} {meth : Method} {c : Code} {D : va_G} {cy : Nat → ClassId} {ad0 : Nat → Nat} {ba0 : Nat → Prop} {z0 : aS} {res : Int32} (X : teC wsL_sound RL cL_sound 14 (some .boolean) D cy ba0 p s m args meth c) (hl0 : l.stackTraces = false) : ∀ (H : Heap) (locs : List Loc) (ls : Array Slot) (ce sl : Nat), ce + (2798) ≤ 2798 → sl + (16788) ≤ 16788 → aR D cy ad0 ba0 z0 H → va_S ba0 s.heap H locs → lv_has ls 14 [(0, .ref (ad0 360))] → hL_sound z0 = some res → W p l e (headSpec wsL_sound rmL_sound).room s m args below meth c H locs ce sl (MQ below (va_Qi (fun a (_ : Unit) => a = res) (fun _ t => (aR D cy ad0 ba0 z0) t.heap) ba0) args s 2798 16788 ba0) (F0 m 0 ls []) := by
  have hx := X.1
  have hb := X.2.1
  have hown := X.2.2.2.2.1
  intro H locs ls ce sl hb1_ hb2_ hW0 hS hl hf
  unfold hL_sound at hf
  refine lv_aload_n hx hb dL_sound_0 rfl (lv_at hl 0 rfl) ?_
  refine lv_iconst (v := (0 : Int32)) hx hb dL_sound_1 (by decide) ?_
  refine kA (As := [.ref (ad0 360), .int (0 : Int32)]) (rest := []) X (fun q h => h) hW0 hS (tI_tryAbout l D cy ad0 ba0 hl0 z0 (0 : Int32)) (vx_cwSW (hh := [(0, 5, 6, 13)]) 2 X.2.2.2.2.2.1 gL_sound_L_tryAbout rfl rfl rfl kdL_tryAbout.2 ⟨(Nat.le_of_ble_eq_true rfl), (Nat.le_of_ble_eq_true rfl)⟩) rfl rfl hl.1 (Nat.le_of_ble_eq_true rfl) ⟨by show _ ≤ 2798; omega, by show _ ≤ 16788; omega⟩ dL_sound_2 (fun H locs hW0 hS hz hk => ?_)
  clear hz hk
  refine lv_istore_n (lv' := [(1, .int (A_tryAbout z0 (0 : Int32))), (0, .ref (ad0 360))]) hx hb dL_sound_5 rfl hl (by decide) rfl (fun ls hl => ?_)
  refine lv_iconst (v := (0 : Int32)) hx hb dL_sound_6 (by decide) ?_
  refine lv_istore_n (lv' := [(2, .int (0 : Int32)), (1, .int (A_tryAbout z0 (0 : Int32))), (0, .ref (ad0 360))]) hx hb dL_sound_7 rfl hl (by decide) rfl (fun ls hl => ?_)
  refine lv_iconst (v := (0 : Int32)) hx hb dL_sound_8 (by decide) ?_
  refine lv_istore_n (lv' := [(3, .int (0 : Int32)), (2, .int (0 : Int32)), (1, .int (A_tryAbout z0 (0 : Int32))), (0, .ref (ad0 360))]) hx hb dL_sound_9 rfl hl (by decide) rfl (fun ls hl => ?_)
  refine lv_iconst (v := (0 : Int32)) hx hb dL_sound_10 (by decide) ?_
  refine lv_istore (lv' := [(4, .int (0 : Int32)), (3, .int (0 : Int32)), (2, .int (0 : Int32)), (1, .int (A_tryAbout z0 (0 : Int32))), (0, .ref (ad0 360))]) hx hb dL_sound_11 hl (by decide) rfl (fun ls hl => ?_)
  refine lv_iconst (v := (0 : Int32)) hx hb dL_sound_13 (by decide) ?_
  refine lv_istore (lv' := [(5, .int (0 : Int32)), (4, .int (0 : Int32)), (3, .int (0 : Int32)), (2, .int (0 : Int32)), (1, .int (A_tryAbout z0 (0 : Int32))), (0, .ref (ad0 360))]) hx hb dL_sound_14 hl (by decide) rfl (fun ls hl => ?_)
  refine lv_iconst (v := (1 : Int32)) hx hb dL_sound_16 (by decide) ?_
  refine lv_istore (lv' := [(6, .int (1 : Int32)), (5, .int (0 : Int32)), (4, .int (0 : Int32)), (3, .int (0 : Int32)), (2, .int (0 : Int32)), (1, .int (A_tryAbout z0 (0 : Int32))), (0, .ref (ad0 360))]) hx hb dL_sound_17 hl (by decide) rfl (fun ls hl => ?_)
  refine lv_iconst (v := (0 : Int32)) hx hb dL_sound_19 (by decide) ?_
  refine lv_istore (lv' := [(7, .int (0 : Int32)), (6, .int (1 : Int32)), (5, .int (0 : Int32)), (4, .int (0 : Int32)), (3, .int (0 : Int32)), (2, .int (0 : Int32)), (1, .int (A_tryAbout z0 (0 : Int32))), (0, .ref (ad0 360))]) hx hb dL_sound_20 hl (by decide) rfl (fun ls hl => ?_)
  exact bL_sound_22 (z0 := z0) X hl0 10 (A_tryAbout z0 (0 : Int32)) (0 : Int32) (0 : Int32) (0 : Int32) (0 : Int32) (1 : Int32) (0 : Int32) _ _ _ _ _ (by omega) (by omega) hW0 hS (lv_sub hl [7, 6, 5, 4, 3, 2, 1, 0] rfl) hf
theorem zcL_sound (l : Launch) (D : va_G) (cy : Nat → ClassId) (ad0 : Nat → Nat) (ba0 : Nat → Prop) (hl0 : l.stackTraces = false) {z0 : aS} (res : Int32) (hf : hL_sound z0 = some res) : aJ l yL_sound wsL_sound rmL_sound 2798 16788 D cy ba0 (aR D cy ad0 ba0 z0) false 0 0 (fun _ => 0) [.ref (ad0 360)] res (aR D cy ad0 ba0 z0) :=
  a_of (by decide) rfl (Nat.le_of_ble_eq_true rfl) (fun p e s m below meth c ls X hW hX hS hl => bL_sound_0 (z0 := z0) X hl0 _ _ _ 0 0 (Nat.le_of_ble_eq_true rfl) (Nat.le_of_ble_eq_true rfl) hW hS hl hf)
