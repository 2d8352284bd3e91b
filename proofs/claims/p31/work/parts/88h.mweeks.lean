abbrev rmL_weeks : Room := { frames := 10, cells := 216, slots := 1354, locals := 180 }
theorem kdL_weeks : yL_weeks.cls = RL ∧ yL_weeks.cls ≠ "java/lang/invoke/MethodHandle" ∧ yL_weeks.cls ≠ "java/lang/invoke/VarHandle" ∧ (parseMethodDescriptor yL_weeks.desc).map (fun d => d.parameters.length) = some 2 := by decide +kernel
theorem wL_weeks_ac : Cond.arrayClass .int ∈ wsL_weeks := by decide +kernel
set_option maxRecDepth 100000 in
set_option maxHeartbeats 4000000 in
theorem bL_weeks_185 {p : Program} {l : Launch} {e : Env} {s : State} {m : MethodId} {args : Array Value} {below : List Frame} {meth : Method} {c : Code} {D : va_G} {cy : Nat → ClassId} {ad0 : Nat → Nat} {ba0 : Nat → Prop} {x1 : Int32} {res : (Int32 × aS)} (X : teC wsL_weeks RL cL_weeks 19 (some .boolean) D cy ba0 p s m args meth c) (hl0 : l.stackTraces = false) {n34 : Nat} {q34 : aS → (Nat → Int32) → Int32 → Int32 → Int32 → Int32 → Option (Int32 × aS)} (hq34 : ∀ (z0 : aS) (w : Nat) (wf : Nat → Int32) (v2 : Int32) (v3 : Int32) (v4 : Int32) (v6 : Int32) (H : Heap) (locs : List Loc) (ls : Array Slot) (ce sl : Nat), ce + (11 * n34 + 103) ≤ 216 → sl + (66 * n34 + 618) ≤ 1354 → aR D cy ad0 ba0 z0 H → s.heap.size ≤ w → ¬ ba0 w → aW cy w 64 wf H → va_S ba0 s.heap H locs → lv_has ls 19 [(0, .ref (ad0 360)), (2, .int v2), (3, .int v3), (4, .int v4), (5, .ref w), (6, .int v6)] → q34 z0 wf v2 v3 v4 v6 = some res → W p l e (headSpec wsL_weeks rmL_weeks).room s m args below meth c H locs ce sl (MQ below (va_Qi (fun a (_ : Unit) => a = res.1) (fun _ t => (aR D cy ad0 ba0 res.2) t.heap) ba0) args s 216 1354 ba0) (F0 m 34 ls [])) : ∀ (z0 : aS) (w : Nat) (wf : Nat → Int32) (v2 : Int32) (v3 : Int32) (v4 : Int32) (v6 : Int32) (y0 : Int32) (y1 : Int32) (H : Heap) (locs : List Loc) (ls : Array Slot) (ce sl : Nat), ce + (11 * n34 + 104) ≤ 216 → sl + (66 * n34 + 624) ≤ 1354 → aR D cy ad0 ba0 z0 H → s.heap.size ≤ w → ¬ ba0 w → aW cy w 64 wf H → va_S ba0 s.heap H locs → lv_has ls 19 [(0, .ref (ad0 360)), (2, .int v2), (3, .int v3), (4, .int v4), (5, .ref w), (6, .int v6)] → hL_weeks_185 x1 q34 z0 wf v2 v3 v4 v6 y0 y1 = some res → W p l e (headSpec wsL_weeks rmL_weeks).room s m args below meth c H locs ce sl (MQ below (va_Qi (fun a (_ : Unit) => a = res.1) (fun _ t => (aR D cy ad0 ba0 res.2) t.heap) ba0) args s 216 1354 ba0) (F0 m 185 ls [.int y0, .int y1, .ref w]) := by
  have hx := X.1
  have hb := X.2.1
  have hown := X.2.2.2.2.1
  intro z0 w wf v2 v3 v4 v6 y0 y1 H locs ls ce sl hb1_ hb2_ hW0 hwo hwb hww hS hl hf
  unfold hL_weeks_185 at hf
  obtain ⟨h_20, hf⟩ := chk_some hf
  refine aw_st X hS hww hwo h_20 dL_weeks_185 (fun H1 hww oq hS => ?_)
  replace hW0 := aR_kept hW0 (fun q h1 h2 => oq q (fun e => hwb (e ▸ h2)))
  clear oq
  generalize upd wf y1.toNatClampNeg y0 = wf7 at hf hww
  replace hf := lt1_e hf
  refine lv_aload hx hb dL_weeks_186 (lv_at hl 4 rfl) ?_
  refine lv_bipush (v := (7 : Int32)) hx hb dL_weeks_188 (by decide) ?_
  refine lv_iload hx hb dL_weeks_190 (lv_at hl 5 rfl) ?_
  refine lv_imul hx hb dL_weeks_192 ?_
  refine lv_bipush (v := (6 : Int32)) hx hb dL_weeks_193 (by decide) ?_
  refine lv_iadd hx hb dL_weeks_195 ?_
  refine lv_aload_n hx hb dL_weeks_196 rfl (lv_at hl 0 rfl) ?_
  refine lv_iload hx hb dL_weeks_197 (lv_at hl 5 rfl) ?_
  refine lv_iconst (v := (1 : Int32)) hx hb dL_weeks_199 (by decide) ?_
  refine lv_iload_n hx hb dL_weeks_200 rfl (lv_at hl 2 rfl) ?_
  refine lv_bipush (v := (6 : Int32)) hx hb dL_weeks_201 (by decide) ?_
  refine kA (As := [.ref (ad0 360), .int v6, .int (1 : Int32), .int v3, .int (6 : Int32)]) (rest := [.int (((7 : Int32) * v6) + (6 : Int32)), .ref w]) X (fun q h => h) hW0 hS (tI_tryAhead l D cy ad0 ba0 hl0 z0 v6 (1 : Int32) v3 (6 : Int32)) (vx_cwSW (hh := [(0, 9, 10, 30), (0, 9, 15, 13)]) 5 X.2.2.2.2.2.1 gL_weeks_L_tryAhead rfl rfl rfl kdL_tryAhead.2 ⟨(Nat.le_of_ble_eq_true rfl), (Nat.le_of_ble_eq_true rfl)⟩) rfl rfl hl.1 (Nat.le_of_ble_eq_true rfl) ⟨by show _ ≤ 216; omega, by show _ ≤ 1354; omega⟩ dL_weeks_203 (fun H locs hW0 hS hz hk => ?_)
  replace hww := (hk w (aW_lt hww) hwb).trans hww
  clear hz hk
  obtain ⟨h_21, hf⟩ := chk_some hf
  refine aw_st X hS hww hwo h_21 dL_weeks_206 (fun H1 hww oq hS => ?_)
  replace hW0 := aR_kept hW0 (fun q h1 h2 => oq q (fun e => hwb (e ▸ h2)))
  clear oq
  generalize upd wf7 (((7 : Int32) * v6) + (6 : Int32)).toNatClampNeg (A_tryAhead z0 v6 (1 : Int32) v3 (6 : Int32)) = wf8 at hf hww
  replace hf := lt1_e hf
  refine lv_iinc (v := (v6 + (1 : Int32))) (lv' := [(6, .int (v6 + (1 : Int32))), (0, .ref (ad0 360)), (2, .int v2), (3, .int v3), (4, .int v4), (5, .ref w)]) hx hb dL_weeks_207 hl (k := 5) rfl rfl (by decide) rfl (fun ls hl => ?_)
  refine lv_goto (tgt := 34) hx hb dL_weeks_210 (by decide) ?_
  exact hq34 z0 w wf8 v2 v3 v4 (v6 + (1 : Int32)) _ _ _ _ _ (by omega) (by omega) hW0 hwo hwb hww hS (lv_sub hl [1, 2, 3, 4, 5, 0] rfl) hf
set_option maxRecDepth 100000 in
set_option maxHeartbeats 4000000 in
theorem bL_weeks_715 {p : Program} {l : Launch} {e : Env} {s : State} {m : MethodId} {args : Array Value} {below : List Frame} {meth : Method} {c : Code} {D : va_G} {cy : Nat → ClassId} {ad0 : Nat → Nat} {ba0 : Nat → Prop} {x1 : Int32} {res : (Int32 × aS)} (X : teC wsL_weeks RL cL_weeks 19 (some .boolean) D cy ba0 p s m args meth c) (hl0 : l.stackTraces = false) {n252 : Nat} {q252 : aS → (Nat → Int32) → Int32 → Int32 → Int32 → Int32 → Option (Int32 × aS)} (hq252 : ∀ (z0 : aS) (w : Nat) (wf : Nat → Int32) (v2 : Int32) (v3 : Int32) (v7 : Int32) (v8 : Int32) (H : Heap) (locs : List Loc) (ls : Array Slot) (ce sl : Nat), ce + (10 * n252 + 0) ≤ 216 → sl + (60 * n252 + 0) ≤ 1354 → aR D cy ad0 ba0 z0 H → s.heap.size ≤ w → ¬ ba0 w → aW cy w 64 wf H → va_S ba0 s.heap H locs → lv_has ls 19 [(0, .ref (ad0 360)), (2, .int v2), (3, .int v3), (5, .ref w), (7, .int v7), (8, .int v8)] → q252 z0 wf v2 v3 v7 v8 = some res → W p l e (headSpec wsL_weeks rmL_weeks).room s m args below meth c H locs ce sl (MQ below (va_Qi (fun a (_ : Unit) => a = res.1) (fun _ t => (aR D cy ad0 ba0 res.2) t.heap) ba0) args s 216 1354 ba0) (F0 m 252 ls [])) : ∀ (z0 : aS) (w : Nat) (wf : Nat → Int32) (v2 : Int32) (v3 : Int32) (v8 : Int32) (H : Heap) (locs : List Loc) (ls : Array Slot) (ce sl : Nat), ce + (10 * n252 + 0) ≤ 216 → sl + (60 * n252 + 0) ≤ 1354 → aR D cy ad0 ba0 z0 H → s.heap.size ≤ w → ¬ ba0 w → aW cy w 64 wf H → va_S ba0 s.heap H locs → lv_has ls 19 [(0, .ref (ad0 360)), (2, .int v2), (3, .int v3), (5, .ref w), (8, .int v8)] → hL_weeks_715 x1 q252 z0 wf v2 v3 v8 = some res → W p l e (headSpec wsL_weeks rmL_weeks).room s m args below meth c H locs ce sl (MQ below (va_Qi (fun a (_ : Unit) => a = res.1) (fun _ t => (aR D cy ad0 ba0 res.2) t.heap) ba0) args s 216 1354 ba0) (F0 m 715 ls []) := by
  have hx := X.1
  have hb := X.2.1
  have hown := X.2.2.2.2.1
  intro z0 w wf v2 v3 v8 H locs ls ce sl hb1_ hb2_ hW0 hwo hwb hww hS hl hf
  unfold hL_weeks_715 at hf
  refine lv_iconst (v := (0 : Int32)) hx hb dL_weeks_715 (by decide) ?_
  refine lv_istore (lv' := [(7, .int (0 : Int32)), (0, .ref (ad0 360)), (2, .int v2), (3, .int v3), (5, .ref w), (8, .int v8)]) hx hb dL_weeks_716 hl (by decide) rfl (fun ls hl => ?_)
  refine lv_iinc (v := (v8 + (1 : Int32))) (lv' := [(8, .int (v8 + (1 : Int32))), (7, .int (0 : Int32)), (0, .ref (ad0 360)), (2, .int v2), (3, .int v3), (5, .ref w)]) hx hb dL_weeks_718 hl (k := 5) rfl rfl (by decide) rfl (fun ls hl => ?_)
  refine lv_goto (tgt := 252) hx hb dL_weeks_721 (by decide) ?_
  exact hq252 z0 w wf v2 v3 (0 : Int32) (v8 + (1 : Int32)) _ _ _ _ _ (by omega) (by omega) hW0 hwo hwb hww hS (lv_sub hl [2, 3, 4, 5, 1, 0] rfl) hf
set_option maxRecDepth 100000 in
set_option maxHeartbeats 4000000 in
theorem bL_weeks_684 {p : Program} {l : Launch} {e : Env} {s : State} {m : MethodId} {args : Array Value} {below : List Frame} {meth : Method} {c : Code} {D : va_G} {cy : Nat → ClassId} {ad0 : Nat → Nat} {ba0 : Nat → Prop} {x1 : Int32} {res : (Int32 × aS)} (X : teC wsL_weeks RL cL_weeks 19 (some .boolean) D cy ba0 p s m args meth c) (hl0 : l.stackTraces = false) {n252 : Nat} {q252 : aS → (Nat → Int32) → Int32 → Int32 → Int32 → Int32 → Option (Int32 × aS)} (hq252 : ∀ (z0 : aS) (w : Nat) (wf : Nat → Int32) (v2 : Int32) (v3 : Int32) (v7 : Int32) (v8 : Int32) (H : Heap) (locs : List Loc) (ls : Array Slot) (ce sl : Nat), ce + (10 * n252 + 0) ≤ 216 → sl + (60 * n252 + 0) ≤ 1354 → aR D cy ad0 ba0 z0 H → s.heap.size ≤ w → ¬ ba0 w → aW cy w 64 wf H → va_S ba0 s.heap H locs → lv_has ls 19 [(0, .ref (ad0 360)), (2, .int v2), (3, .int v3), (5, .ref w), (7, .int v7), (8, .int v8)] → q252 z0 wf v2 v3 v7 v8 = some res → W p l e (headSpec wsL_weeks rmL_weeks).room s m args below meth c H locs ce sl (MQ below (va_Qi (fun a (_ : Unit) => a = res.1) (fun _ t => (aR D cy ad0 ba0 res.2) t.heap) ba0) args s 216 1354 ba0) (F0 m 252 ls [])) : ∀ (z0 : aS) (w : Nat) (wf : Nat → Int32) (v2 : Int32) (v3 : Int32) (v8 : Int32) (v17 : Int32) (v18 : Int32) (y0 : Int32) (y1 : Int32) (H : Heap) (locs : List Loc) (ls : Array Slot) (ce sl : Nat), ce + (10 * n252 + 1) ≤ 216 → sl + (60 * n252 + 6) ≤ 1354 → aR D cy ad0 ba0 z0 H → s.heap.size ≤ w → ¬ ba0 w → aW cy w 64 wf H → va_S ba0 s.heap H locs → lv_has ls 19 [(0, .ref (ad0 360)), (2, .int v2), (3, .int v3), (5, .ref w), (8, .int v8), (17, .int v17), (18, .int v18)] → hL_weeks_684 x1 q252 z0 wf v2 v3 v8 v17 v18 y0 y1 = some res → W p l e (headSpec wsL_weeks rmL_weeks).room s m args below meth c H locs ce sl (MQ below (va_Qi (fun a (_ : Unit) => a = res.1) (fun _ t => (aR D cy ad0 ba0 res.2) t.heap) ba0) args s 216 1354 ba0) (F0 m 684 ls [.int y0, .int y1]) := by
  have hx := X.1
  have hb := X.2.1
  have hown := X.2.2.2.2.1
  intro z0 w wf v2 v3 v8 v17 v18 y0 y1 H locs ls ce sl hb1_ hb2_ hW0 hwo hwb hww hS hl hf
  unfold hL_weeks_684 at hf
  refine lv_icmp_ne (tgt := 715) hx hb dL_weeks_684 (by decide) (fun c_57 => ?_) (fun c_57 => ?_)
  · replace hf := ite_f c_57 hf
    exact bL_weeks_715 (x1 := x1) X hl0 hq252 z0 w wf v2 v3 v8 _ _ _ _ _ (by omega) (by omega) hW0 hwo hwb hww hS (lv_sub hl [0, 1, 2, 3, 4] rfl) hf
  · replace hf := ite_t c_57 hf
    refine lv_aload_n hx hb dL_weeks_687 rfl (lv_at hl 0 rfl) ?_
    refine lv_iload hx hb dL_weeks_688 (lv_at hl 4 rfl) ?_
    refine lv_bipush (v := (9 : Int32)) hx hb dL_weeks_690 (by decide) ?_
    refine kA (As := [.ref (ad0 360), .int v8, .int (9 : Int32)]) (rest := []) X (fun q h => h) hW0 hS (tI_tryMember l D cy ad0 ba0 hl0 z0 v8 (9 : Int32)) (vx_cwSW (hh := [(0, 6, 7, 30), (0, 6, 11, 13)]) 3 X.2.2.2.2.2.1 gL_weeks_L_tryMember rfl rfl rfl kdL_tryMember.2 ⟨(Nat.le_of_ble_eq_true rfl), (Nat.le_of_ble_eq_true rfl)⟩) rfl rfl hl.1 (Nat.le_of_ble_eq_true rfl) ⟨by show _ ≤ 216; omega, by show _ ≤ 1354; omega⟩ dL_weeks_692 (fun H locs hW0 hS hz hk => ?_)
    replace hww := (hk w (aW_lt hww) hwb).trans hww
    clear hz hk
    refine lv_iload hx hb dL_weeks_695 (lv_at hl 6 rfl) ?_
    refine lv_if_eq (tgt := 705) hx hb dL_weeks_697 (by decide) (fun c_58 => ?_) (fun c_58 => ?_)
    · replace hf := ite_t c_58 hf
      refine lv_sipush (v := (-9999 : Int32)) hx hb dL_weeks_705 (by decide) ?_
      refine lv_icmp_ne (tgt := 715) hx hb dL_weeks_708 (by decide) (fun c_59 => ?_) (fun c_59 => ?_)
      · replace hf := ite_f c_59 hf
        exact bL_weeks_715 (x1 := x1) X hl0 hq252 z0 w wf v2 v3 v8 _ _ _ _ _ (by omega) (by omega) hW0 hwo hwb hww hS (lv_sub hl [0, 1, 2, 3, 4] rfl) hf
      · replace hf := ite_t c_59 hf
        refine lv_iconst (v := (1 : Int32)) hx hb dL_weeks_711 (by decide) ?_
        refine lv_goto (tgt := 716) hx hb dL_weeks_712 (by decide) ?_
        refine lv_istore (lv' := [(7, .int (1 : Int32)), (0, .ref (ad0 360)), (2, .int v2), (3, .int v3), (5, .ref w), (8, .int v8), (17, .int v17), (18, .int v18)]) hx hb dL_weeks_716 hl (by decide) rfl (fun ls hl => ?_)
        refine lv_iinc (v := (v8 + (1 : Int32))) (lv' := [(8, .int (v8 + (1 : Int32))), (7, .int (1 : Int32)), (0, .ref (ad0 360)), (2, .int v2), (3, .int v3), (5, .ref w), (17, .int v17), (18, .int v18)]) hx hb dL_weeks_718 hl (k := 5) rfl rfl (by decide) rfl (fun ls hl => ?_)
        refine lv_goto (tgt := 252) hx hb dL_weeks_721 (by decide) ?_
        exact hq252 z0 w wf v2 v3 (1 : Int32) (v8 + (1 : Int32)) _ _ _ _ _ (by omega) (by omega) hW0 hwo hwb hww hS (lv_sub hl [2, 3, 4, 5, 1, 0] rfl) hf
    · replace hf := ite_f c_58 hf
      refine lv_iload hx hb dL_weeks_700 (lv_at hl 5 rfl) ?_
      refine lv_goto (tgt := 708) hx hb dL_weeks_702 (by decide) ?_
      refine lv_icmp_ne (tgt := 715) hx hb dL_weeks_708 (by decide) (fun c_60 => ?_) (fun c_60 => ?_)
      · replace hf := ite_f c_60 hf
        exact bL_weeks_715 (x1 := x1) X hl0 hq252 z0 w wf v2 v3 v8 _ _ _ _ _ (by omega) (by omega) hW0 hwo hwb hww hS (lv_sub hl [0, 1, 2, 3, 4] rfl) hf
      · replace hf := ite_t c_60 hf
        refine lv_iconst (v := (1 : Int32)) hx hb dL_weeks_711 (by decide) ?_
        refine lv_goto (tgt := 716) hx hb dL_weeks_712 (by decide) ?_
        refine lv_istore (lv' := [(7, .int (1 : Int32)), (0, .ref (ad0 360)), (2, .int v2), (3, .int v3), (5, .ref w), (8, .int v8), (17, .int v17), (18, .int v18)]) hx hb dL_weeks_716 hl (by decide) rfl (fun ls hl => ?_)
        refine lv_iinc (v := (v8 + (1 : Int32))) (lv' := [(8, .int (v8 + (1 : Int32))), (7, .int (1 : Int32)), (0, .ref (ad0 360)), (2, .int v2), (3, .int v3), (5, .ref w), (17, .int v17), (18, .int v18)]) hx hb dL_weeks_718 hl (k := 5) rfl rfl (by decide) rfl (fun ls hl => ?_)
        refine lv_goto (tgt := 252) hx hb dL_weeks_721 (by decide) ?_
        exact hq252 z0 w wf v2 v3 (1 : Int32) (v8 + (1 : Int32)) _ _ _ _ _ (by omega) (by omega) hW0 hwo hwb hww hS (lv_sub hl [2, 3, 4, 5, 1, 0] rfl) hf
set_option maxRecDepth 100000 in
set_option maxHeartbeats 4000000 in
theorem bL_weeks_663 {p : Program} {l : Launch} {e : Env} {s : State} {m : MethodId} {args : Array Value} {below : List Frame} {meth : Method} {c : Code} {D : va_G} {cy : Nat → ClassId} {ad0 : Nat → Nat} {ba0 : Nat → Prop} {x1 : Int32} {res : (Int32 × aS)} (X : teC wsL_weeks RL cL_weeks 19 (some .boolean) D cy ba0 p s m args meth c) (hl0 : l.stackTraces = false) {n252 : Nat} {q252 : aS → (Nat → Int32) → Int32 → Int32 → Int32 → Int32 → Option (Int32 × aS)} (hq252 : ∀ (z0 : aS) (w : Nat) (wf : Nat → Int32) (v2 : Int32) (v3 : Int32) (v7 : Int32) (v8 : Int32) (H : Heap) (locs : List Loc) (ls : Array Slot) (ce sl : Nat), ce + (10 * n252 + 0) ≤ 216 → sl + (60 * n252 + 0) ≤ 1354 → aR D cy ad0 ba0 z0 H → s.heap.size ≤ w → ¬ ba0 w → aW cy w 64 wf H → va_S ba0 s.heap H locs → lv_has ls 19 [(0, .ref (ad0 360)), (2, .int v2), (3, .int v3), (5, .ref w), (7, .int v7), (8, .int v8)] → q252 z0 wf v2 v3 v7 v8 = some res → W p l e (headSpec wsL_weeks rmL_weeks).room s m args below meth c H locs ce sl (MQ below (va_Qi (fun a (_ : Unit) => a = res.1) (fun _ t => (aR D cy ad0 ba0 res.2) t.heap) ba0) args s 216 1354 ba0) (F0 m 252 ls [])) : ∀ (z0 : aS) (w : Nat) (wf : Nat → Int32) (v2 : Int32) (v3 : Int32) (v8 : Int32) (v9 : Int32) (v17 : Int32) (v18 : Int32) (H : Heap) (locs : List Loc) (ls : Array Slot) (ce sl : Nat), ce + (10 * n252 + 2) ≤ 216 → sl + (60 * n252 + 12) ≤ 1354 → aR D cy ad0 ba0 z0 H → s.heap.size ≤ w → ¬ ba0 w → aW cy w 64 wf H → va_S ba0 s.heap H locs → lv_has ls 19 [(0, .ref (ad0 360)), (2, .int v2), (3, .int v3), (5, .ref w), (8, .int v8), (9, .int v9), (17, .int v17), (18, .int v18)] → hL_weeks_663 x1 q252 z0 wf v2 v3 v8 v9 v17 v18 = some res → W p l e (headSpec wsL_weeks rmL_weeks).room s m args below meth c H locs ce sl (MQ below (va_Qi (fun a (_ : Unit) => a = res.1) (fun _ t => (aR D cy ad0 ba0 res.2) t.heap) ba0) args s 216 1354 ba0) (F0 m 663 ls []) := by
  have hx := X.1
  have hb := X.2.1
  have hown := X.2.2.2.2.1
  intro z0 w wf v2 v3 v8 v9 v17 v18 H locs ls ce sl hb1_ hb2_ hW0 hwo hwb hww hS hl hf
  unfold hL_weeks_663 at hf
  refine lv_aload_n hx hb dL_weeks_663 rfl (lv_at hl 0 rfl) ?_
  refine lv_iload hx hb dL_weeks_664 (lv_at hl 4 rfl) ?_
  refine lv_bipush (v := (8 : Int32)) hx hb dL_weeks_666 (by decide) ?_
  refine kA (As := [.ref (ad0 360), .int v8, .int (8 : Int32)]) (rest := []) X (fun q h => h) hW0 hS (tI_tryMember l D cy ad0 ba0 hl0 z0 v8 (8 : Int32)) (vx_cwSW (hh := [(0, 6, 7, 30), (0, 6, 11, 13)]) 3 X.2.2.2.2.2.1 gL_weeks_L_tryMember rfl rfl rfl kdL_tryMember.2 ⟨(Nat.le_of_ble_eq_true rfl), (Nat.le_of_ble_eq_true rfl)⟩) rfl rfl hl.1 (Nat.le_of_ble_eq_true rfl) ⟨by show _ ≤ 216; omega, by show _ ≤ 1354; omega⟩ dL_weeks_668 (fun H locs hW0 hS hz hk => ?_)
  replace hww := (hk w (aW_lt hww) hwb).trans hww
  clear hz hk
  refine lv_iload hx hb dL_weeks_671 (lv_at hl 7 rfl) ?_
  refine lv_if_eq (tgt := 681) hx hb dL_weeks_673 (by decide) (fun c_56 => ?_) (fun c_56 => ?_)
  · replace hf := ite_t c_56 hf
    refine lv_sipush (v := (-9999 : Int32)) hx hb dL_weeks_681 (by decide) ?_
    exact bL_weeks_684 (x1 := x1) X hl0 hq252 z0 w wf v2 v3 v8 v17 v18 (-9999 : Int32) (A_tryMember z0 v8 (8 : Int32)) _ _ _ _ _ (by omega) (by omega) hW0 hwo hwb hww hS (lv_sub hl [0, 1, 2, 3, 4, 6, 7] rfl) hf
  · replace hf := ite_f c_56 hf
    refine lv_iload hx hb dL_weeks_676 (lv_at hl 5 rfl) ?_
    refine lv_goto (tgt := 684) hx hb dL_weeks_678 (by decide) ?_
    exact bL_weeks_684 (x1 := x1) X hl0 hq252 z0 w wf v2 v3 v8 v17 v18 v9 (A_tryMember z0 v8 (8 : Int32)) _ _ _ _ _ (by omega) (by omega) hW0 hwo hwb hww hS (lv_sub hl [0, 1, 2, 3, 4, 6, 7] rfl) hf
set_option maxRecDepth 100000 in
set_option maxHeartbeats 4000000 in
theorem bL_weeks_640 {p : Program} {l : Launch} {e : Env} {s : State} {m : MethodId} {args : Array Value} {below : List Frame} {meth : Method} {c : Code} {D : va_G} {cy : Nat → ClassId} {ad0 : Nat → Nat} {ba0 : Nat → Prop} {x1 : Int32} {res : (Int32 × aS)} (X : teC wsL_weeks RL cL_weeks 19 (some .boolean) D cy ba0 p s m args meth c) (hl0 : l.stackTraces = false) {n252 : Nat} {q252 : aS → (Nat → Int32) → Int32 → Int32 → Int32 → Int32 → Option (Int32 × aS)} (hq252 : ∀ (z0 : aS) (w : Nat) (wf : Nat → Int32) (v2 : Int32) (v3 : Int32) (v7 : Int32) (v8 : Int32) (H : Heap) (locs : List Loc) (ls : Array Slot) (ce sl : Nat), ce + (10 * n252 + 0) ≤ 216 → sl + (60 * n252 + 0) ≤ 1354 → aR D cy ad0 ba0 z0 H → s.heap.size ≤ w → ¬ ba0 w → aW cy w 64 wf H → va_S ba0 s.heap H locs → lv_has ls 19 [(0, .ref (ad0 360)), (2, .int v2), (3, .int v3), (5, .ref w), (7, .int v7), (8, .int v8)] → q252 z0 wf v2 v3 v7 v8 = some res → W p l e (headSpec wsL_weeks rmL_weeks).room s m args below meth c H locs ce sl (MQ below (va_Qi (fun a (_ : Unit) => a = res.1) (fun _ t => (aR D cy ad0 ba0 res.2) t.heap) ba0) args s 216 1354 ba0) (F0 m 252 ls [])) : ∀ (z0 : aS) (w : Nat) (wf : Nat → Int32) (v2 : Int32) (v3 : Int32) (v8 : Int32) (v9 : Int32) (v14 : Int32) (v15 : Int32) (v16 : Int32) (v17 : Int32) (v18 : Int32) (y0 : Int32) (y1 : Int32) (y2 : Int32) (H : Heap) (locs : List Loc) (ls : Array Slot) (ce sl : Nat), ce + (10 * n252 + 2) ≤ 216 → sl + (60 * n252 + 12) ≤ 1354 → aR D cy ad0 ba0 z0 H → s.heap.size ≤ w → ¬ ba0 w → aW cy w 64 wf H → va_S ba0 s.heap H locs → lv_has ls 19 [(0, .ref (ad0 360)), (2, .int v2), (3, .int v3), (5, .ref w), (8, .int v8), (9, .int v9), (14, .int v14), (15, .int v15), (16, .int v16), (17, .int v17), (18, .int v18)] → hL_weeks_640 x1 q252 z0 wf v2 v3 v8 v9 v14 v15 v16 v17 v18 y0 y1 y2 = some res → W p l e (headSpec wsL_weeks rmL_weeks).room s m args below meth c H locs ce sl (MQ below (va_Qi (fun a (_ : Unit) => a = res.1) (fun _ t => (aR D cy ad0 ba0 res.2) t.heap) ba0) args s 216 1354 ba0) (F0 m 640 ls [.int y0, .int y1, .int y2]) := by
  have hx := X.1
  have hb := X.2.1
  have hown := X.2.2.2.2.1
  intro z0 w wf v2 v3 v8 v9 v14 v15 v16 v17 v18 y0 y1 y2 H locs ls ce sl hb1_ hb2_ hW0 hwo hwb hww hS hl hf
  unfold hL_weeks_640 at hf
  refine lv_iadd hx hb dL_weeks_640 ?_
  refine lv_icmp_ne (tgt := 715) hx hb dL_weeks_641 (by decide) (fun c_52 => ?_) (fun c_52 => ?_)
  · replace hf := ite_f c_52 hf
    exact bL_weeks_715 (x1 := x1) X hl0 hq252 z0 w wf v2 v3 v8 _ _ _ _ _ (by omega) (by omega) hW0 hwo hwb hww hS (lv_sub hl [0, 1, 2, 3, 4] rfl) hf
  · replace hf := ite_t c_52 hf
    refine lv_iload hx hb dL_weeks_644 (lv_at hl 6 rfl) ?_
    refine lv_iload hx hb dL_weeks_646 (lv_at hl 7 rfl) ?_
    refine lv_icmp_eq (tgt := 663) hx hb dL_weeks_648 (by decide) (fun c_53 => ?_) (fun c_53 => ?_)
    · replace hf := ite_t c_53 hf
      exact bL_weeks_663 (x1 := x1) X hl0 hq252 z0 w wf v2 v3 v8 v9 v17 v18 _ _ _ _ _ (by omega) (by omega) hW0 hwo hwb hww hS (lv_sub hl [0, 1, 2, 3, 4, 5, 9, 10] rfl) hf
    · replace hf := ite_f c_53 hf
      refine lv_iload hx hb dL_weeks_651 (lv_at hl 8 rfl) ?_
      refine lv_if_eq (tgt := 715) hx hb dL_weeks_653 (by decide) (fun c_54 => ?_) (fun c_54 => ?_)
      · replace hf := ite_t c_54 hf
        exact bL_weeks_715 (x1 := x1) X hl0 hq252 z0 w wf v2 v3 v8 _ _ _ _ _ (by omega) (by omega) hW0 hwo hwb hww hS (lv_sub hl [0, 1, 2, 3, 4] rfl) hf
      · replace hf := ite_f c_54 hf
        refine lv_iload hx hb dL_weeks_656 (lv_at hl 6 rfl) ?_
        refine lv_iload hx hb dL_weeks_658 (lv_at hl 7 rfl) ?_
        refine lv_icmp_gt (tgt := 715) hx hb dL_weeks_660 (by decide) (fun c_55 => ?_) (fun c_55 => ?_)
        · replace hf := ite_t c_55 hf
          exact bL_weeks_715 (x1 := x1) X hl0 hq252 z0 w wf v2 v3 v8 _ _ _ _ _ (by omega) (by omega) hW0 hwo hwb hww hS (lv_sub hl [0, 1, 2, 3, 4] rfl) hf
        · replace hf := ite_f c_55 hf
          exact bL_weeks_663 (x1 := x1) X hl0 hq252 z0 w wf v2 v3 v8 v9 v17 v18 _ _ _ _ _ (by omega) (by omega) hW0 hwo hwb hww hS (lv_sub hl [0, 1, 2, 3, 4, 5, 9, 10] rfl) hf
set_option maxRecDepth 100000 in
set_option maxHeartbeats 4000000 in
theorem bL_weeks_573 {p : Program} {l : Launch} {e : Env} {s : State} {m : MethodId} {args : Array Value} {below : List Frame} {meth : Method} {c : Code} {D : va_G} {cy : Nat → ClassId} {ad0 : Nat → Nat} {ba0 : Nat → Prop} {x1 : Int32} {res : (Int32 × aS)} (X : teC wsL_weeks RL cL_weeks 19 (some .boolean) D cy ba0 p s m args meth c) (hl0 : l.stackTraces = false) {n252 : Nat} {q252 : aS → (Nat → Int32) → Int32 → Int32 → Int32 → Int32 → Option (Int32 × aS)} (hq252 : ∀ (z0 : aS) (w : Nat) (wf : Nat → Int32) (v2 : Int32) (v3 : Int32) (v7 : Int32) (v8 : Int32) (H : Heap) (locs : List Loc) (ls : Array Slot) (ce sl : Nat), ce + (10 * n252 + 0) ≤ 216 → sl + (60 * n252 + 0) ≤ 1354 → aR D cy ad0 ba0 z0 H → s.heap.size ≤ w → ¬ ba0 w → aW cy w 64 wf H → va_S ba0 s.heap H locs → lv_has ls 19 [(0, .ref (ad0 360)), (2, .int v2), (3, .int v3), (5, .ref w), (7, .int v7), (8, .int v8)] → q252 z0 wf v2 v3 v7 v8 = some res → W p l e (headSpec wsL_weeks rmL_weeks).room s m args below meth c H locs ce sl (MQ below (va_Qi (fun a (_ : Unit) => a = res.1) (fun _ t => (aR D cy ad0 ba0 res.2) t.heap) ba0) args s 216 1354 ba0) (F0 m 252 ls [])) : ∀ (z0 : aS) (w : Nat) (wf : Nat → Int32) (v2 : Int32) (v3 : Int32) (v8 : Int32) (v9 : Int32) (v10 : Int32) (v13 : Int32) (v14 : Int32) (v15 : Int32) (v16 : Int32) (v17 : Int32) (y0 : Int32) (H : Heap) (locs : List Loc) (ls : Array Slot) (ce sl : Nat), ce + (10 * n252 + 4) ≤ 216 → sl + (60 * n252 + 24) ≤ 1354 → aR D cy ad0 ba0 z0 H → s.heap.size ≤ w → ¬ ba0 w → aW cy w 64 wf H → va_S ba0 s.heap H locs → lv_has ls 19 [(0, .ref (ad0 360)), (2, .int v2), (3, .int v3), (5, .ref w), (8, .int v8), (9, .int v9), (10, .int v10), (13, .int v13), (14, .int v14), (15, .int v15), (16, .int v16), (17, .int v17)] → hL_weeks_573 x1 q252 z0 wf v2 v3 v8 v9 v10 v13 v14 v15 v16 v17 y0 = some res → W p l e (headSpec wsL_weeks rmL_weeks).room s m args below meth c H locs ce sl (MQ below (va_Qi (fun a (_ : Unit) => a = res.1) (fun _ t => (aR D cy ad0 ba0 res.2) t.heap) ba0) args s 216 1354 ba0) (F0 m 573 ls [.int y0]) := by
  have hx := X.1
  have hb := X.2.1
  have hown := X.2.2.2.2.1
  intro z0 w wf v2 v3 v8 v9 v10 v13 v14 v15 v16 v17 y0 H locs ls ce sl hb1_ hb2_ hW0 hwo hwb hww hS hl hf
  unfold hL_weeks_573 at hf
  refine lv_istore (lv' := [(18, .int y0), (0, .ref (ad0 360)), (2, .int v2), (3, .int v3), (5, .ref w), (8, .int v8), (9, .int v9), (10, .int v10), (13, .int v13), (14, .int v14), (15, .int v15), (16, .int v16), (17, .int v17)]) hx hb dL_weeks_573 hl (by decide) rfl (fun ls hl => ?_)
  refine lv_aload_n hx hb dL_weeks_575 rfl (lv_at hl 1 rfl) ?_
  refine lv_iload hx hb dL_weeks_576 (lv_at hl 5 rfl) ?_
  refine lv_bipush (v := (6 : Int32)) hx hb dL_weeks_578 (by decide) ?_
  refine kA (As := [.ref (ad0 360), .int v8, .int (6 : Int32)]) (rest := []) X (fun q h => h) hW0 hS (tI_tryMember l D cy ad0 ba0 hl0 z0 v8 (6 : Int32)) (vx_cwSW (hh := [(0, 6, 7, 30), (0, 6, 11, 13)]) 3 X.2.2.2.2.2.1 gL_weeks_L_tryMember rfl rfl rfl kdL_tryMember.2 ⟨(Nat.le_of_ble_eq_true rfl), (Nat.le_of_ble_eq_true rfl)⟩) rfl rfl hl.1 (Nat.le_of_ble_eq_true rfl) ⟨by show _ ≤ 216; omega, by show _ ≤ 1354; omega⟩ dL_weeks_580 (fun H locs hW0 hS hz hk => ?_)
  replace hww := (hk w (aW_lt hww) hwb).trans hww
  clear hz hk
  refine lv_iload hx hb dL_weeks_583 (lv_at hl 8 rfl) ?_
  refine lv_icmp_ne (tgt := 715) hx hb dL_weeks_585 (by decide) (fun c_46 => ?_) (fun c_46 => ?_)
  · replace hf := ite_f c_46 hf
    exact bL_weeks_715 (x1 := x1) X hl0 hq252 z0 w wf v2 v3 v8 _ _ _ _ _ (by omega) (by omega) hW0 hwo hwb hww hS (lv_sub hl [1, 2, 3, 4, 5] rfl) hf
  · replace hf := ite_t c_46 hf
    refine lv_aload hx hb dL_weeks_588 (lv_at hl 4 rfl) ?_
    refine lv_bipush (v := (7 : Int32)) hx hb dL_weeks_590 (by decide) ?_
    refine lv_iload hx hb dL_weeks_592 (lv_at hl 5 rfl) ?_
    refine lv_imul hx hb dL_weeks_594 ?_
    refine lv_bipush (v := (6 : Int32)) hx hb dL_weeks_595 (by decide) ?_
    refine lv_iadd hx hb dL_weeks_597 ?_
    obtain ⟨h_47, hf⟩ := chk_some hf
    refine aw_ld X hww h_47 dL_weeks_598 ?_
    refine lv_iload hx hb dL_weeks_599 (lv_at hl 8 rfl) ?_
    refine lv_icmp_ne (tgt := 715) hx hb dL_weeks_601 (by decide) (fun c_48 => ?_) (fun c_48 => ?_)
    · replace hf := ite_f c_48 hf
      exact bL_weeks_715 (x1 := x1) X hl0 hq252 z0 w wf v2 v3 v8 _ _ _ _ _ (by omega) (by omega) hW0 hwo hwb hww hS (lv_sub hl [1, 2, 3, 4, 5] rfl) hf
    · replace hf := ite_t c_48 hf
      refine lv_aload_n hx hb dL_weeks_604 rfl (lv_at hl 1 rfl) ?_
      refine lv_iload hx hb dL_weeks_605 (lv_at hl 5 rfl) ?_
      refine lv_bipush (v := (7 : Int32)) hx hb dL_weeks_607 (by decide) ?_
      refine kA (As := [.ref (ad0 360), .int v8, .int (7 : Int32)]) (rest := []) X (fun q h => h) hW0 hS (tI_tryMember l D cy ad0 ba0 hl0 z0 v8 (7 : Int32)) (vx_cwSW (hh := [(0, 6, 7, 30), (0, 6, 11, 13)]) 3 X.2.2.2.2.2.1 gL_weeks_L_tryMember rfl rfl rfl kdL_tryMember.2 ⟨(Nat.le_of_ble_eq_true rfl), (Nat.le_of_ble_eq_true rfl)⟩) rfl rfl hl.1 (Nat.le_of_ble_eq_true rfl) ⟨by show _ ≤ 216; omega, by show _ ≤ 1354; omega⟩ dL_weeks_609 (fun H locs hW0 hS hz hk => ?_)
      replace hww := (hk w (aW_lt hww) hwb).trans hww
      clear hz hk
      refine lv_aload hx hb dL_weeks_612 (lv_at hl 4 rfl) ?_
      refine lv_bipush (v := (7 : Int32)) hx hb dL_weeks_614 (by decide) ?_
      refine lv_iload hx hb dL_weeks_616 (lv_at hl 5 rfl) ?_
      refine lv_imul hx hb dL_weeks_618 ?_
      refine lv_iconst (v := (2 : Int32)) hx hb dL_weeks_619 (by decide) ?_
      refine lv_iadd hx hb dL_weeks_620 ?_
      obtain ⟨h_49, hf⟩ := chk_some hf
      refine aw_ld X hww h_49 dL_weeks_621 ?_
      refine lv_iload hx hb dL_weeks_622 (lv_at hl 6 rfl) ?_
      refine lv_sipush (v := (-9999 : Int32)) hx hb dL_weeks_624 (by decide) ?_
      refine lv_icmp_eq (tgt := 639) hx hb dL_weeks_627 (by decide) (fun c_50 => ?_) (fun c_50 => ?_)
      · replace hf := ite_t c_50 hf
        refine lv_iconst (v := (0 : Int32)) hx hb dL_weeks_639 (by decide) ?_
        exact bL_weeks_640 (x1 := x1) X hl0 hq252 z0 w wf v2 v3 v8 v9 v14 v15 v16 v17 y0 (0 : Int32) (wf (((7 : Int32) * v8) + (2 : Int32)).toNatClampNeg) (A_tryMember z0 v8 (7 : Int32)) _ _ _ _ _ (by omega) (by omega) hW0 hwo hwb hww hS (lv_sub hl [1, 2, 3, 4, 5, 6, 9, 10, 11, 12, 0] rfl) hf
      · replace hf := ite_f c_50 hf
        refine lv_iload hx hb dL_weeks_630 (lv_at hl 7 rfl) ?_
        refine lv_if_eq (tgt := 639) hx hb dL_weeks_632 (by decide) (fun c_51 => ?_) (fun c_51 => ?_)
        · replace hf := ite_t c_51 hf
          refine lv_iconst (v := (0 : Int32)) hx hb dL_weeks_639 (by decide) ?_
          exact bL_weeks_640 (x1 := x1) X hl0 hq252 z0 w wf v2 v3 v8 v9 v14 v15 v16 v17 y0 (0 : Int32) (wf (((7 : Int32) * v8) + (2 : Int32)).toNatClampNeg) (A_tryMember z0 v8 (7 : Int32)) _ _ _ _ _ (by omega) (by omega) hW0 hwo hwb hww hS (lv_sub hl [1, 2, 3, 4, 5, 6, 9, 10, 11, 12, 0] rfl) hf
        · replace hf := ite_f c_51 hf
          refine lv_iconst (v := (1 : Int32)) hx hb dL_weeks_635 (by decide) ?_
          refine lv_goto (tgt := 640) hx hb dL_weeks_636 (by decide) ?_
          exact bL_weeks_640 (x1 := x1) X hl0 hq252 z0 w wf v2 v3 v8 v9 v14 v15 v16 v17 y0 (1 : Int32) (wf (((7 : Int32) * v8) + (2 : Int32)).toNatClampNeg) (A_tryMember z0 v8 (7 : Int32)) _ _ _ _ _ (by omega) (by omega) hW0 hwo hwb hww hS (lv_sub hl [1, 2, 3, 4, 5, 6, 9, 10, 11, 12, 0] rfl) hf
set_option maxRecDepth 100000 in
set_option maxHeartbeats 4000000 in
theorem bL_weeks_539 {p : Program} {l : Launch} {e : Env} {s : State} {m : MethodId} {args : Array Value} {below : List Frame} {meth : Method} {c : Code} {D : va_G} {cy : Nat → ClassId} {ad0 : Nat → Nat} {ba0 : Nat → Prop} {x1 : Int32} {res : (Int32 × aS)} (X : teC wsL_weeks RL cL_weeks 19 (some .boolean) D cy ba0 p s m args meth c) (hl0 : l.stackTraces = false) {n252 : Nat} {q252 : aS → (Nat → Int32) → Int32 → Int32 → Int32 → Int32 → Option (Int32 × aS)} (hq252 : ∀ (z0 : aS) (w : Nat) (wf : Nat → Int32) (v2 : Int32) (v3 : Int32) (v7 : Int32) (v8 : Int32) (H : Heap) (locs : List Loc) (ls : Array Slot) (ce sl : Nat), ce + (10 * n252 + 0) ≤ 216 → sl + (60 * n252 + 0) ≤ 1354 → aR D cy ad0 ba0 z0 H → s.heap.size ≤ w → ¬ ba0 w → aW cy w 64 wf H → va_S ba0 s.heap H locs → lv_has ls 19 [(0, .ref (ad0 360)), (2, .int v2), (3, .int v3), (5, .ref w), (7, .int v7), (8, .int v8)] → q252 z0 wf v2 v3 v7 v8 = some res → W p l e (headSpec wsL_weeks rmL_weeks).room s m args below meth c H locs ce sl (MQ below (va_Qi (fun a (_ : Unit) => a = res.1) (fun _ t => (aR D cy ad0 ba0 res.2) t.heap) ba0) args s 216 1354 ba0) (F0 m 252 ls [])) : ∀ (z0 : aS) (w : Nat) (wf : Nat → Int32) (v2 : Int32) (v3 : Int32) (v8 : Int32) (v9 : Int32) (v10 : Int32) (v13 : Int32) (v14 : Int32) (v15 : Int32) (v16 : Int32) (y0 : Int32) (H : Heap) (locs : List Loc) (ls : Array Slot) (ce sl : Nat), ce + (10 * n252 + 5) ≤ 216 → sl + (60 * n252 + 30) ≤ 1354 → aR D cy ad0 ba0 z0 H → s.heap.size ≤ w → ¬ ba0 w → aW cy w 64 wf H → va_S ba0 s.heap H locs → lv_has ls 19 [(0, .ref (ad0 360)), (2, .int v2), (3, .int v3), (5, .ref w), (8, .int v8), (9, .int v9), (10, .int v10), (13, .int v13), (14, .int v14), (15, .int v15), (16, .int v16)] → hL_weeks_539 x1 q252 z0 wf v2 v3 v8 v9 v10 v13 v14 v15 v16 y0 = some res → W p l e (headSpec wsL_weeks rmL_weeks).room s m args below meth c H locs ce sl (MQ below (va_Qi (fun a (_ : Unit) => a = res.1) (fun _ t => (aR D cy ad0 ba0 res.2) t.heap) ba0) args s 216 1354 ba0) (F0 m 539 ls [.int y0]) := by
  have hx := X.1
  have hb := X.2.1
  have hown := X.2.2.2.2.1
  intro z0 w wf v2 v3 v8 v9 v10 v13 v14 v15 v16 y0 H locs ls ce sl hb1_ hb2_ hW0 hwo hwb hww hS hl hf
  unfold hL_weeks_539 at hf
  refine lv_istore (lv' := [(17, .int y0), (0, .ref (ad0 360)), (2, .int v2), (3, .int v3), (5, .ref w), (8, .int v8), (9, .int v9), (10, .int v10), (13, .int v13), (14, .int v14), (15, .int v15), (16, .int v16)]) hx hb dL_weeks_539 hl (by decide) rfl (fun ls hl => ?_)
  refine lv_iload hx hb dL_weeks_541 (lv_at hl 6 rfl) ?_
  refine lv_sipush (v := (-9999 : Int32)) hx hb dL_weeks_543 (by decide) ?_
  refine lv_icmp_eq (tgt := 572) hx hb dL_weeks_546 (by decide) (fun c_43 => ?_) (fun c_43 => ?_)
  · replace hf := ite_t c_43 hf
    refine lv_iconst (v := (0 : Int32)) hx hb dL_weeks_572 (by decide) ?_
    exact bL_weeks_573 (x1 := x1) X hl0 hq252 z0 w wf v2 v3 v8 v9 v10 v13 v14 v15 v16 y0 (0 : Int32) _ _ _ _ _ (by omega) (by omega) hW0 hwo hwb hww hS (lv_sub hl [1, 2, 3, 4, 5, 6, 7, 8, 9, 10, 11, 0] rfl) hf
  · replace hf := ite_f c_43 hf
    refine lv_iload hx hb dL_weeks_549 (lv_at hl 0 rfl) ?_
    refine lv_iconst (v := (3 : Int32)) hx hb dL_weeks_551 (by decide) ?_
    refine lv_icmp_ge (tgt := 572) hx hb dL_weeks_552 (by decide) (fun c_44 => ?_) (fun c_44 => ?_)
    · replace hf := ite_t c_44 hf
      refine lv_iconst (v := (0 : Int32)) hx hb dL_weeks_572 (by decide) ?_
      exact bL_weeks_573 (x1 := x1) X hl0 hq252 z0 w wf v2 v3 v8 v9 v10 v13 v14 v15 v16 y0 (0 : Int32) _ _ _ _ _ (by omega) (by omega) hW0 hwo hwb hww hS (lv_sub hl [1, 2, 3, 4, 5, 6, 7, 8, 9, 10, 11, 0] rfl) hf
    · replace hf := ite_f c_44 hf
      refine lv_aload_n hx hb dL_weeks_555 rfl (lv_at hl 1 rfl) ?_
      refine lv_iload hx hb dL_weeks_556 (lv_at hl 5 rfl) ?_
      refine lv_iload hx hb dL_weeks_558 (lv_at hl 6 rfl) ?_
      refine lv_iconst (v := (2 : Int32)) hx hb dL_weeks_560 (by decide) ?_
      refine kA (As := [.ref (ad0 360), .int v8, .int v9, .int (2 : Int32)]) (rest := []) X (fun q h => h) hW0 hS (tI_tryBoth l D cy ad0 ba0 hl0 z0 v8 v9 (2 : Int32)) (vx_cwSW (hh := [(0, 7, 8, 30), (0, 7, 13, 13)]) 4 X.2.2.2.2.2.1 gL_weeks_L_tryBoth rfl rfl rfl kdL_tryBoth.2 ⟨(Nat.le_of_ble_eq_true rfl), (Nat.le_of_ble_eq_true rfl)⟩) rfl rfl hl.1 (Nat.le_of_ble_eq_true rfl) ⟨by show _ ≤ 216; omega, by show _ ≤ 1354; omega⟩ dL_weeks_561 (fun H locs hW0 hS hz hk => ?_)
      replace hww := (hk w (aW_lt hww) hwb).trans hww
      clear hz hk
      refine lv_iconst (v := (1 : Int32)) hx hb dL_weeks_564 (by decide) ?_
      refine lv_icmp_ne (tgt := 572) hx hb dL_weeks_565 (by decide) (fun c_45 => ?_) (fun c_45 => ?_)
      · replace hf := ite_f c_45 hf
        refine lv_iconst (v := (0 : Int32)) hx hb dL_weeks_572 (by decide) ?_
        exact bL_weeks_573 (x1 := x1) X hl0 hq252 z0 w wf v2 v3 v8 v9 v10 v13 v14 v15 v16 y0 (0 : Int32) _ _ _ _ _ (by omega) (by omega) hW0 hwo hwb hww hS (lv_sub hl [1, 2, 3, 4, 5, 6, 7, 8, 9, 10, 11, 0] rfl) hf
      · replace hf := ite_t c_45 hf
        refine lv_iconst (v := (1 : Int32)) hx hb dL_weeks_568 (by decide) ?_
        refine lv_goto (tgt := 573) hx hb dL_weeks_569 (by decide) ?_
        exact bL_weeks_573 (x1 := x1) X hl0 hq252 z0 w wf v2 v3 v8 v9 v10 v13 v14 v15 v16 y0 (1 : Int32) _ _ _ _ _ (by omega) (by omega) hW0 hwo hwb hww hS (lv_sub hl [1, 2, 3, 4, 5, 6, 7, 8, 9, 10, 11, 0] rfl) hf
set_option maxRecDepth 100000 in
set_option maxHeartbeats 4000000 in
theorem bL_weeks_523 {p : Program} {l : Launch} {e : Env} {s : State} {m : MethodId} {args : Array Value} {below : List Frame} {meth : Method} {c : Code} {D : va_G} {cy : Nat → ClassId} {ad0 : Nat → Nat} {ba0 : Nat → Prop} {x1 : Int32} {res : (Int32 × aS)} (X : teC wsL_weeks RL cL_weeks 19 (some .boolean) D cy ba0 p s m args meth c) (hl0 : l.stackTraces = false) {n252 : Nat} {q252 : aS → (Nat → Int32) → Int32 → Int32 → Int32 → Int32 → Option (Int32 × aS)} (hq252 : ∀ (z0 : aS) (w : Nat) (wf : Nat → Int32) (v2 : Int32) (v3 : Int32) (v7 : Int32) (v8 : Int32) (H : Heap) (locs : List Loc) (ls : Array Slot) (ce sl : Nat), ce + (10 * n252 + 0) ≤ 216 → sl + (60 * n252 + 0) ≤ 1354 → aR D cy ad0 ba0 z0 H → s.heap.size ≤ w → ¬ ba0 w → aW cy w 64 wf H → va_S ba0 s.heap H locs → lv_has ls 19 [(0, .ref (ad0 360)), (2, .int v2), (3, .int v3), (5, .ref w), (7, .int v7), (8, .int v8)] → q252 z0 wf v2 v3 v7 v8 = some res → W p l e (headSpec wsL_weeks rmL_weeks).room s m args below meth c H locs ce sl (MQ below (va_Qi (fun a (_ : Unit) => a = res.1) (fun _ t => (aR D cy ad0 ba0 res.2) t.heap) ba0) args s 216 1354 ba0) (F0 m 252 ls [])) : ∀ (z0 : aS) (w : Nat) (wf : Nat → Int32) (v2 : Int32) (v3 : Int32) (v8 : Int32) (v9 : Int32) (v10 : Int32) (v13 : Int32) (v14 : Int32) (v15 : Int32) (v16 : Int32) (H : Heap) (locs : List Loc) (ls : Array Slot) (ce sl : Nat), ce + (10 * n252 + 5) ≤ 216 → sl + (60 * n252 + 30) ≤ 1354 → aR D cy ad0 ba0 z0 H → s.heap.size ≤ w → ¬ ba0 w → aW cy w 64 wf H → va_S ba0 s.heap H locs → lv_has ls 19 [(0, .ref (ad0 360)), (2, .int v2), (3, .int v3), (5, .ref w), (8, .int v8), (9, .int v9), (10, .int v10), (13, .int v13), (14, .int v14), (15, .int v15), (16, .int v16)] → hL_weeks_523 x1 q252 z0 wf v2 v3 v8 v9 v10 v13 v14 v15 v16 = some res → W p l e (headSpec wsL_weeks rmL_weeks).room s m args below meth c H locs ce sl (MQ below (va_Qi (fun a (_ : Unit) => a = res.1) (fun _ t => (aR D cy ad0 ba0 res.2) t.heap) ba0) args s 216 1354 ba0) (F0 m 523 ls []) := by
  have hx := X.1
  have hb := X.2.1
  have hown := X.2.2.2.2.1
  intro z0 w wf v2 v3 v8 v9 v10 v13 v14 v15 v16 H locs ls ce sl hb1_ hb2_ hW0 hwo hwb hww hS hl hf
  unfold hL_weeks_523 at hf
  refine lv_aload hx hb dL_weeks_523 (lv_at hl 3 rfl) ?_
  refine lv_bipush (v := (7 : Int32)) hx hb dL_weeks_525 (by decide) ?_
  refine lv_iload hx hb dL_weeks_527 (lv_at hl 4 rfl) ?_
  refine lv_imul hx hb dL_weeks_529 ?_
  refine lv_iconst (v := (3 : Int32)) hx hb dL_weeks_530 (by decide) ?_
  refine lv_iadd hx hb dL_weeks_531 ?_
  obtain ⟨h_42, hf⟩ := chk_some hf
  refine aw_ld X hww h_42 dL_weeks_532 ?_
  refine lv_iconst (v := (1 : Int32)) hx hb dL_weeks_533 (by decide) ?_
  refine lv_iadd hx hb dL_weeks_534 ?_
  refine lv_goto (tgt := 539) hx hb dL_weeks_535 (by decide) ?_
  exact bL_weeks_539 (x1 := x1) X hl0 hq252 z0 w wf v2 v3 v8 v9 v10 v13 v14 v15 v16 ((wf (((7 : Int32) * v8) + (3 : Int32)).toNatClampNeg) + (1 : Int32)) _ _ _ _ _ (by omega) (by omega) hW0 hwo hwb hww hS (lv_sub hl [0, 1, 2, 3, 4, 5, 6, 7, 8, 9, 10] rfl) hf
set_option maxRecDepth 100000 in
set_option maxHeartbeats 4000000 in
theorem bL_weeks_486 {p : Program} {l : Launch} {e : Env} {s : State} {m : MethodId} {args : Array Value} {below : List Frame} {meth : Method} {c : Code} {D : va_G} {cy : Nat → ClassId} {ad0 : Nat → Nat} {ba0 : Nat → Prop} {x1 : Int32} {res : (Int32 × aS)} (X : teC wsL_weeks RL cL_weeks 19 (some .boolean) D cy ba0 p s m args meth c) (hl0 : l.stackTraces = false) {n252 : Nat} {q252 : aS → (Nat → Int32) → Int32 → Int32 → Int32 → Int32 → Option (Int32 × aS)} (hq252 : ∀ (z0 : aS) (w : Nat) (wf : Nat → Int32) (v2 : Int32) (v3 : Int32) (v7 : Int32) (v8 : Int32) (H : Heap) (locs : List Loc) (ls : Array Slot) (ce sl : Nat), ce + (10 * n252 + 0) ≤ 216 → sl + (60 * n252 + 0) ≤ 1354 → aR D cy ad0 ba0 z0 H → s.heap.size ≤ w → ¬ ba0 w → aW cy w 64 wf H → va_S ba0 s.heap H locs → lv_has ls 19 [(0, .ref (ad0 360)), (2, .int v2), (3, .int v3), (5, .ref w), (7, .int v7), (8, .int v8)] → q252 z0 wf v2 v3 v7 v8 = some res → W p l e (headSpec wsL_weeks rmL_weeks).room s m args below meth c H locs ce sl (MQ below (va_Qi (fun a (_ : Unit) => a = res.1) (fun _ t => (aR D cy ad0 ba0 res.2) t.heap) ba0) args s 216 1354 ba0) (F0 m 252 ls [])) : ∀ (z0 : aS) (w : Nat) (wf : Nat → Int32) (v2 : Int32) (v3 : Int32) (v8 : Int32) (v9 : Int32) (v10 : Int32) (v11 : Int32) (v13 : Int32) (v14 : Int32) (y0 : Int32) (H : Heap) (locs : List Loc) (ls : Array Slot) (ce sl : Nat), ce + (10 * n252 + 7) ≤ 216 → sl + (60 * n252 + 42) ≤ 1354 → aR D cy ad0 ba0 z0 H → s.heap.size ≤ w → ¬ ba0 w → aW cy w 64 wf H → va_S ba0 s.heap H locs → lv_has ls 19 [(0, .ref (ad0 360)), (2, .int v2), (3, .int v3), (5, .ref w), (8, .int v8), (9, .int v9), (10, .int v10), (11, .int v11), (13, .int v13), (14, .int v14)] → hL_weeks_486 x1 q252 z0 wf v2 v3 v8 v9 v10 v11 v13 v14 y0 = some res → W p l e (headSpec wsL_weeks rmL_weeks).room s m args below meth c H locs ce sl (MQ below (va_Qi (fun a (_ : Unit) => a = res.1) (fun _ t => (aR D cy ad0 ba0 res.2) t.heap) ba0) args s 216 1354 ba0) (F0 m 486 ls [.int y0]) := by
  have hx := X.1
  have hb := X.2.1
  have hown := X.2.2.2.2.1
  intro z0 w wf v2 v3 v8 v9 v10 v11 v13 v14 y0 H locs ls ce sl hb1_ hb2_ hW0 hwo hwb hww hS hl hf
  unfold hL_weeks_486 at hf
  refine lv_istore (lv' := [(15, .int y0), (0, .ref (ad0 360)), (2, .int v2), (3, .int v3), (5, .ref w), (8, .int v8), (9, .int v9), (10, .int v10), (11, .int v11), (13, .int v13), (14, .int v14)]) hx hb dL_weeks_486 hl (by decide) rfl (fun ls hl => ?_)
  refine lv_aload_n hx hb dL_weeks_488 rfl (lv_at hl 1 rfl) ?_
  refine lv_iload hx hb dL_weeks_489 (lv_at hl 5 rfl) ?_
  refine lv_aload_n hx hb dL_weeks_491 rfl (lv_at hl 1 rfl) ?_
  refine lv_iload hx hb dL_weeks_492 (lv_at hl 5 rfl) ?_
  refine lv_iconst (v := (4 : Int32)) hx hb dL_weeks_494 (by decide) ?_
  refine kA (As := [.ref (ad0 360), .int v8, .int (4 : Int32)]) (rest := [.int v8, .ref (ad0 360)]) X (fun q h => h) hW0 hS (tI_tryMember l D cy ad0 ba0 hl0 z0 v8 (4 : Int32)) (vx_cwSW (hh := [(0, 6, 7, 30), (0, 6, 11, 13)]) 3 X.2.2.2.2.2.1 gL_weeks_L_tryMember rfl rfl rfl kdL_tryMember.2 ⟨(Nat.le_of_ble_eq_true rfl), (Nat.le_of_ble_eq_true rfl)⟩) rfl rfl hl.1 (Nat.le_of_ble_eq_true rfl) ⟨by show _ ≤ 216; omega, by show _ ≤ 1354; omega⟩ dL_weeks_495 (fun H locs hW0 hS hz hk => ?_)
  replace hww := (hk w (aW_lt hww) hwb).trans hww
  clear hz hk
  refine kA (As := [.ref (ad0 360), .int v8, .int (A_tryMember z0 v8 (4 : Int32))]) (rest := []) X (fun q h => h) hW0 hS (tI_tryMember l D cy ad0 ba0 hl0 z0 v8 (A_tryMember z0 v8 (4 : Int32))) (vx_cwSW (hh := [(0, 6, 7, 30), (0, 6, 11, 13)]) 3 X.2.2.2.2.2.1 gL_weeks_L_tryMember rfl rfl rfl kdL_tryMember.2 ⟨(Nat.le_of_ble_eq_true rfl), (Nat.le_of_ble_eq_true rfl)⟩) rfl rfl hl.1 (Nat.le_of_ble_eq_true rfl) ⟨by show _ ≤ 216; omega, by show _ ≤ 1354; omega⟩ dL_weeks_498 (fun H locs hW0 hS hz hk => ?_)
  replace hww := (hk w (aW_lt hww) hwb).trans hww
  clear hz hk
  refine lv_bipush (v := (9 : Int32)) hx hb dL_weeks_501 (by decide) ?_
  refine lv_icmp_ne (tgt := 510) hx hb dL_weeks_503 (by decide) (fun c_37 => ?_) (fun c_37 => ?_)
  · replace hf := ite_f c_37 hf
    refine lv_iconst (v := (0 : Int32)) hx hb dL_weeks_510 (by decide) ?_
    refine lv_istore (lv' := [(16, .int (0 : Int32)), (15, .int y0), (0, .ref (ad0 360)), (2, .int v2), (3, .int v3), (5, .ref w), (8, .int v8), (9, .int v9), (10, .int v10), (11, .int v11), (13, .int v13), (14, .int v14)]) hx hb dL_weeks_511 hl (by decide) rfl (fun ls hl => ?_)
    refine lv_iload hx hb dL_weeks_513 (lv_at hl 8 rfl) ?_
    refine lv_if_ne (tgt := 523) hx hb dL_weeks_515 (by decide) (fun c_38 => ?_) (fun c_38 => ?_)
    · replace hf := ite_f c_38 hf
      exact bL_weeks_523 (x1 := x1) X hl0 hq252 z0 w wf v2 v3 v8 v9 v10 v13 v14 y0 (0 : Int32) _ _ _ _ _ (by omega) (by omega) hW0 hwo hwb hww hS (lv_sub hl [2, 3, 4, 5, 6, 7, 8, 10, 11, 1, 0] rfl) hf
    · replace hf := ite_t c_38 hf
      refine lv_iload hx hb dL_weeks_518 (lv_at hl 9 rfl) ?_
      refine lv_if_eq (tgt := 538) hx hb dL_weeks_520 (by decide) (fun c_39 => ?_) (fun c_39 => ?_)
      · replace hf := ite_t c_39 hf
        refine lv_iconst (v := (0 : Int32)) hx hb dL_weeks_538 (by decide) ?_
        exact bL_weeks_539 (x1 := x1) X hl0 hq252 z0 w wf v2 v3 v8 v9 v10 v13 v14 y0 (0 : Int32) (0 : Int32) _ _ _ _ _ (by omega) (by omega) hW0 hwo hwb hww hS (lv_sub hl [2, 3, 4, 5, 6, 7, 8, 10, 11, 1, 0] rfl) hf
      · replace hf := ite_f c_39 hf
        exact bL_weeks_523 (x1 := x1) X hl0 hq252 z0 w wf v2 v3 v8 v9 v10 v13 v14 y0 (0 : Int32) _ _ _ _ _ (by omega) (by omega) hW0 hwo hwb hww hS (lv_sub hl [2, 3, 4, 5, 6, 7, 8, 10, 11, 1, 0] rfl) hf
  · replace hf := ite_t c_37 hf
    refine lv_iconst (v := (1 : Int32)) hx hb dL_weeks_506 (by decide) ?_
    refine lv_goto (tgt := 511) hx hb dL_weeks_507 (by decide) ?_
    refine lv_istore (lv' := [(16, .int (1 : Int32)), (15, .int y0), (0, .ref (ad0 360)), (2, .int v2), (3, .int v3), (5, .ref w), (8, .int v8), (9, .int v9), (10, .int v10), (11, .int v11), (13, .int v13), (14, .int v14)]) hx hb dL_weeks_511 hl (by decide) rfl (fun ls hl => ?_)
    refine lv_iload hx hb dL_weeks_513 (lv_at hl 8 rfl) ?_
    refine lv_if_ne (tgt := 523) hx hb dL_weeks_515 (by decide) (fun c_40 => ?_) (fun c_40 => ?_)
    · replace hf := ite_f c_40 hf
      exact bL_weeks_523 (x1 := x1) X hl0 hq252 z0 w wf v2 v3 v8 v9 v10 v13 v14 y0 (1 : Int32) _ _ _ _ _ (by omega) (by omega) hW0 hwo hwb hww hS (lv_sub hl [2, 3, 4, 5, 6, 7, 8, 10, 11, 1, 0] rfl) hf
    · replace hf := ite_t c_40 hf
      refine lv_iload hx hb dL_weeks_518 (lv_at hl 9 rfl) ?_
      refine lv_if_eq (tgt := 538) hx hb dL_weeks_520 (by decide) (fun c_41 => ?_) (fun c_41 => ?_)
      · replace hf := ite_t c_41 hf
        refine lv_iconst (v := (0 : Int32)) hx hb dL_weeks_538 (by decide) ?_
        exact bL_weeks_539 (x1 := x1) X hl0 hq252 z0 w wf v2 v3 v8 v9 v10 v13 v14 y0 (1 : Int32) (0 : Int32) _ _ _ _ _ (by omega) (by omega) hW0 hwo hwb hww hS (lv_sub hl [2, 3, 4, 5, 6, 7, 8, 10, 11, 1, 0] rfl) hf
      · replace hf := ite_f c_41 hf
        exact bL_weeks_523 (x1 := x1) X hl0 hq252 z0 w wf v2 v3 v8 v9 v10 v13 v14 y0 (1 : Int32) _ _ _ _ _ (by omega) (by omega) hW0 hwo hwb hww hS (lv_sub hl [2, 3, 4, 5, 6, 7, 8, 10, 11, 1, 0] rfl) hf
set_option maxRecDepth 100000 in
set_option maxHeartbeats 4000000 in
theorem bL_weeks_413 {p : Program} {l : Launch} {e : Env} {s : State} {m : MethodId} {args : Array Value} {below : List Frame} {meth : Method} {c : Code} {D : va_G} {cy : Nat → ClassId} {ad0 : Nat → Nat} {ba0 : Nat → Prop} {x1 : Int32} {res : (Int32 × aS)} (X : teC wsL_weeks RL cL_weeks 19 (some .boolean) D cy ba0 p s m args meth c) (hl0 : l.stackTraces = false) {n252 : Nat} {q252 : aS → (Nat → Int32) → Int32 → Int32 → Int32 → Int32 → Option (Int32 × aS)} (hq252 : ∀ (z0 : aS) (w : Nat) (wf : Nat → Int32) (v2 : Int32) (v3 : Int32) (v7 : Int32) (v8 : Int32) (H : Heap) (locs : List Loc) (ls : Array Slot) (ce sl : Nat), ce + (10 * n252 + 0) ≤ 216 → sl + (60 * n252 + 0) ≤ 1354 → aR D cy ad0 ba0 z0 H → s.heap.size ≤ w → ¬ ba0 w → aW cy w 64 wf H → va_S ba0 s.heap H locs → lv_has ls 19 [(0, .ref (ad0 360)), (2, .int v2), (3, .int v3), (5, .ref w), (7, .int v7), (8, .int v8)] → q252 z0 wf v2 v3 v7 v8 = some res → W p l e (headSpec wsL_weeks rmL_weeks).room s m args below meth c H locs ce sl (MQ below (va_Qi (fun a (_ : Unit) => a = res.1) (fun _ t => (aR D cy ad0 ba0 res.2) t.heap) ba0) args s 216 1354 ba0) (F0 m 252 ls [])) : ∀ (z0 : aS) (w : Nat) (wf : Nat → Int32) (v2 : Int32) (v3 : Int32) (v8 : Int32) (v9 : Int32) (v10 : Int32) (v11 : Int32) (y0 : Int32) (H : Heap) (locs : List Loc) (ls : Array Slot) (ce sl : Nat), ce + (10 * n252 + 10) ≤ 216 → sl + (60 * n252 + 60) ≤ 1354 → aR D cy ad0 ba0 z0 H → s.heap.size ≤ w → ¬ ba0 w → aW cy w 64 wf H → va_S ba0 s.heap H locs → lv_has ls 19 [(0, .ref (ad0 360)), (2, .int v2), (3, .int v3), (5, .ref w), (8, .int v8), (9, .int v9), (10, .int v10), (11, .int v11)] → hL_weeks_413 x1 q252 z0 wf v2 v3 v8 v9 v10 v11 y0 = some res → W p l e (headSpec wsL_weeks rmL_weeks).room s m args below meth c H locs ce sl (MQ below (va_Qi (fun a (_ : Unit) => a = res.1) (fun _ t => (aR D cy ad0 ba0 res.2) t.heap) ba0) args s 216 1354 ba0) (F0 m 413 ls [.int y0]) := by
  have hx := X.1
  have hb := X.2.1
  have hown := X.2.2.2.2.1
  intro z0 w wf v2 v3 v8 v9 v10 v11 y0 H locs ls ce sl hb1_ hb2_ hW0 hwo hwb hww hS hl hf
  unfold hL_weeks_413 at hf
  refine lv_istore (lv' := [(13, .int y0), (0, .ref (ad0 360)), (2, .int v2), (3, .int v3), (5, .ref w), (8, .int v8), (9, .int v9), (10, .int v10), (11, .int v11)]) hx hb dL_weeks_413 hl (by decide) rfl (fun ls hl => ?_)
  refine lv_aload_n hx hb dL_weeks_415 rfl (lv_at hl 1 rfl) ?_
  refine lv_iload hx hb dL_weeks_416 (lv_at hl 5 rfl) ?_
  refine lv_iconst (v := (5 : Int32)) hx hb dL_weeks_418 (by decide) ?_
  refine kA (As := [.ref (ad0 360), .int v8, .int (5 : Int32)]) (rest := []) X (fun q h => h) hW0 hS (tI_tryMember l D cy ad0 ba0 hl0 z0 v8 (5 : Int32)) (vx_cwSW (hh := [(0, 6, 7, 30), (0, 6, 11, 13)]) 3 X.2.2.2.2.2.1 gL_weeks_L_tryMember rfl rfl rfl kdL_tryMember.2 ⟨(Nat.le_of_ble_eq_true rfl), (Nat.le_of_ble_eq_true rfl)⟩) rfl rfl hl.1 (Nat.le_of_ble_eq_true rfl) ⟨by show _ ≤ 216; omega, by show _ ≤ 1354; omega⟩ dL_weeks_419 (fun H locs hW0 hS hz hk => ?_)
  replace hww := (hk w (aW_lt hww) hwb).trans hww
  clear hz hk
  refine lv_bipush (v := (20 : Int32)) hx hb dL_weeks_422 (by decide) ?_
  refine lv_aload_n hx hb dL_weeks_424 rfl (lv_at hl 1 rfl) ?_
  refine lv_iload hx hb dL_weeks_425 (lv_at hl 5 rfl) ?_
  refine lv_aload_n hx hb dL_weeks_427 rfl (lv_at hl 1 rfl) ?_
  refine lv_iload hx hb dL_weeks_428 (lv_at hl 5 rfl) ?_
  refine lv_iconst (v := (4 : Int32)) hx hb dL_weeks_430 (by decide) ?_
  refine kA (As := [.ref (ad0 360), .int v8, .int (4 : Int32)]) (rest := [.int v8, .ref (ad0 360), .int (20 : Int32), .int (A_tryMember z0 v8 (5 : Int32))]) X (fun q h => h) hW0 hS (tI_tryMember l D cy ad0 ba0 hl0 z0 v8 (4 : Int32)) (vx_cwSW (hh := [(0, 6, 7, 30), (0, 6, 11, 13)]) 3 X.2.2.2.2.2.1 gL_weeks_L_tryMember rfl rfl rfl kdL_tryMember.2 ⟨(Nat.le_of_ble_eq_true rfl), (Nat.le_of_ble_eq_true rfl)⟩) rfl rfl hl.1 (Nat.le_of_ble_eq_true rfl) ⟨by show _ ≤ 216; omega, by show _ ≤ 1354; omega⟩ dL_weeks_431 (fun H locs hW0 hS hz hk => ?_)
  replace hww := (hk w (aW_lt hww) hwb).trans hww
  clear hz hk
  refine kA (As := [.ref (ad0 360), .int v8, .int (A_tryMember z0 v8 (4 : Int32))]) (rest := [.int (20 : Int32), .int (A_tryMember z0 v8 (5 : Int32))]) X (fun q h => h) hW0 hS (tI_tryMember l D cy ad0 ba0 hl0 z0 v8 (A_tryMember z0 v8 (4 : Int32))) (vx_cwSW (hh := [(0, 6, 7, 30), (0, 6, 11, 13)]) 3 X.2.2.2.2.2.1 gL_weeks_L_tryMember rfl rfl rfl kdL_tryMember.2 ⟨(Nat.le_of_ble_eq_true rfl), (Nat.le_of_ble_eq_true rfl)⟩) rfl rfl hl.1 (Nat.le_of_ble_eq_true rfl) ⟨by show _ ≤ 216; omega, by show _ ≤ 1354; omega⟩ dL_weeks_434 (fun H locs hW0 hS hz hk => ?_)
  replace hww := (hk w (aW_lt hww) hwb).trans hww
  clear hz hk
  refine lv_imul hx hb dL_weeks_437 ?_
  refine lv_iadd hx hb dL_weeks_438 ?_
  refine lv_aload hx hb dL_weeks_439 (lv_at hl 4 rfl) ?_
  refine lv_bipush (v := (7 : Int32)) hx hb dL_weeks_441 (by decide) ?_
  refine lv_iload hx hb dL_weeks_443 (lv_at hl 5 rfl) ?_
  refine lv_imul hx hb dL_weeks_445 ?_
  refine lv_iconst (v := (4 : Int32)) hx hb dL_weeks_446 (by decide) ?_
  refine lv_iadd hx hb dL_weeks_447 ?_
  obtain ⟨h_32, hf⟩ := chk_some hf
  refine aw_ld X hww h_32 dL_weeks_448 ?_
  refine lv_isub hx hb dL_weeks_449 ?_
  refine lv_istore (lv' := [(14, .int (((A_tryMember z0 v8 (5 : Int32)) + ((20 : Int32) * (A_tryMember z0 v8 (A_tryMember z0 v8 (4 : Int32))))) - (wf (((7 : Int32) * v8) + (4 : Int32)).toNatClampNeg))), (13, .int y0), (0, .ref (ad0 360)), (2, .int v2), (3, .int v3), (5, .ref w), (8, .int v8), (9, .int v9), (10, .int v10), (11, .int v11)]) hx hb dL_weeks_450 hl (by decide) rfl (fun ls hl => ?_)
  refine lv_iload hx hb dL_weeks_452 (lv_at hl 7 rfl) ?_
  refine lv_sipush (v := (-9999 : Int32)) hx hb dL_weeks_454 (by decide) ?_
  refine lv_icmp_eq (tgt := 470) hx hb dL_weeks_457 (by decide) (fun c_33 => ?_) (fun c_33 => ?_)
  · replace hf := ite_t c_33 hf
    refine lv_iconst (v := (0 : Int32)) hx hb dL_weeks_470 (by decide) ?_
    refine lv_goto (tgt := 486) hx hb dL_weeks_471 (by decide) ?_
    exact bL_weeks_486 (x1 := x1) X hl0 hq252 z0 w wf v2 v3 v8 v9 v10 v11 y0 (((A_tryMember z0 v8 (5 : Int32)) + ((20 : Int32) * (A_tryMember z0 v8 (A_tryMember z0 v8 (4 : Int32))))) - (wf (((7 : Int32) * v8) + (4 : Int32)).toNatClampNeg)) (0 : Int32) _ _ _ _ _ (by omega) (by omega) hW0 hwo hwb hww hS (lv_sub hl [2, 3, 4, 5, 6, 7, 8, 9, 1, 0] rfl) hf
  · replace hf := ite_f c_33 hf
    refine lv_iload hx hb dL_weeks_460 (lv_at hl 8 rfl) ?_
    refine lv_if_ne (tgt := 470) hx hb dL_weeks_462 (by decide) (fun c_34 => ?_) (fun c_34 => ?_)
    · replace hf := ite_f c_34 hf
      refine lv_iconst (v := (0 : Int32)) hx hb dL_weeks_470 (by decide) ?_
      refine lv_goto (tgt := 486) hx hb dL_weeks_471 (by decide) ?_
      exact bL_weeks_486 (x1 := x1) X hl0 hq252 z0 w wf v2 v3 v8 v9 v10 v11 y0 (((A_tryMember z0 v8 (5 : Int32)) + ((20 : Int32) * (A_tryMember z0 v8 (A_tryMember z0 v8 (4 : Int32))))) - (wf (((7 : Int32) * v8) + (4 : Int32)).toNatClampNeg)) (0 : Int32) _ _ _ _ _ (by omega) (by omega) hW0 hwo hwb hww hS (lv_sub hl [2, 3, 4, 5, 6, 7, 8, 9, 1, 0] rfl) hf
    · replace hf := ite_t c_34 hf
      refine lv_iload hx hb dL_weeks_465 (lv_at hl 9 rfl) ?_
      refine lv_if_eq (tgt := 474) hx hb dL_weeks_467 (by decide) (fun c_35 => ?_) (fun c_35 => ?_)
      · replace hf := ite_t c_35 hf
        refine lv_iconst (v := (4 : Int32)) hx hb dL_weeks_474 (by decide) ?_
        refine lv_aload hx hb dL_weeks_475 (lv_at hl 5 rfl) ?_
        refine lv_bipush (v := (7 : Int32)) hx hb dL_weeks_477 (by decide) ?_
        refine lv_iload hx hb dL_weeks_479 (lv_at hl 6 rfl) ?_
        refine lv_imul hx hb dL_weeks_481 ?_
        refine lv_iconst (v := (5 : Int32)) hx hb dL_weeks_482 (by decide) ?_
        refine lv_iadd hx hb dL_weeks_483 ?_
        obtain ⟨h_36, hf⟩ := chk_some hf
        refine aw_ld X hww h_36 dL_weeks_484 ?_
        refine lv_iadd hx hb dL_weeks_485 ?_
        exact bL_weeks_486 (x1 := x1) X hl0 hq252 z0 w wf v2 v3 v8 v9 v10 v11 y0 (((A_tryMember z0 v8 (5 : Int32)) + ((20 : Int32) * (A_tryMember z0 v8 (A_tryMember z0 v8 (4 : Int32))))) - (wf (((7 : Int32) * v8) + (4 : Int32)).toNatClampNeg)) ((4 : Int32) + (wf (((7 : Int32) * v8) + (5 : Int32)).toNatClampNeg)) _ _ _ _ _ (by omega) (by omega) hW0 hwo hwb hww hS (lv_sub hl [2, 3, 4, 5, 6, 7, 8, 9, 1, 0] rfl) hf
      · replace hf := ite_f c_35 hf
        refine lv_iconst (v := (0 : Int32)) hx hb dL_weeks_470 (by decide) ?_
        refine lv_goto (tgt := 486) hx hb dL_weeks_471 (by decide) ?_
        exact bL_weeks_486 (x1 := x1) X hl0 hq252 z0 w wf v2 v3 v8 v9 v10 v11 y0 (((A_tryMember z0 v8 (5 : Int32)) + ((20 : Int32) * (A_tryMember z0 v8 (A_tryMember z0 v8 (4 : Int32))))) - (wf (((7 : Int32) * v8) + (4 : Int32)).toNatClampNeg)) (0 : Int32) _ _ _ _ _ (by omega) (by omega) hW0 hwo hwb hww hS (lv_sub hl [2, 3, 4, 5, 6, 7, 8, 9, 1, 0] rfl) hf
set_option maxRecDepth 100000 in
set_option maxHeartbeats 4000000 in
theorem bL_weeks_352 {p : Program} {l : Launch} {e : Env} {s : State} {m : MethodId} {args : Array Value} {below : List Frame} {meth : Method} {c : Code} {D : va_G} {cy : Nat → ClassId} {ad0 : Nat → Nat} {ba0 : Nat → Prop} {x1 : Int32} {res : (Int32 × aS)} (X : teC wsL_weeks RL cL_weeks 19 (some .boolean) D cy ba0 p s m args meth c) (hl0 : l.stackTraces = false) {n252 : Nat} {q252 : aS → (Nat → Int32) → Int32 → Int32 → Int32 → Int32 → Option (Int32 × aS)} (hq252 : ∀ (z0 : aS) (w : Nat) (wf : Nat → Int32) (v2 : Int32) (v3 : Int32) (v7 : Int32) (v8 : Int32) (H : Heap) (locs : List Loc) (ls : Array Slot) (ce sl : Nat), ce + (10 * n252 + 0) ≤ 216 → sl + (60 * n252 + 0) ≤ 1354 → aR D cy ad0 ba0 z0 H → s.heap.size ≤ w → ¬ ba0 w → aW cy w 64 wf H → va_S ba0 s.heap H locs → lv_has ls 19 [(0, .ref (ad0 360)), (2, .int v2), (3, .int v3), (5, .ref w), (7, .int v7), (8, .int v8)] → q252 z0 wf v2 v3 v7 v8 = some res → W p l e (headSpec wsL_weeks rmL_weeks).room s m args below meth c H locs ce sl (MQ below (va_Qi (fun a (_ : Unit) => a = res.1) (fun _ t => (aR D cy ad0 ba0 res.2) t.heap) ba0) args s 216 1354 ba0) (F0 m 252 ls [])) : ∀ (z0 : aS) (w : Nat) (wf : Nat → Int32) (v2 : Int32) (v3 : Int32) (v8 : Int32) (v9 : Int32) (v10 : Int32) (v11 : Int32) (y0 : Int32) (H : Heap) (locs : List Loc) (ls : Array Slot) (ce sl : Nat), ce + (10 * n252 + 10) ≤ 216 → sl + (60 * n252 + 60) ≤ 1354 → aR D cy ad0 ba0 z0 H → s.heap.size ≤ w → ¬ ba0 w → aW cy w 64 wf H → va_S ba0 s.heap H locs → lv_has ls 19 [(0, .ref (ad0 360)), (2, .int v2), (3, .int v3), (5, .ref w), (8, .int v8), (9, .int v9), (10, .int v10), (11, .int v11)] → hL_weeks_352 x1 q252 z0 wf v2 v3 v8 v9 v10 v11 y0 = some res → W p l e (headSpec wsL_weeks rmL_weeks).room s m args below meth c H locs ce sl (MQ below (va_Qi (fun a (_ : Unit) => a = res.1) (fun _ t => (aR D cy ad0 ba0 res.2) t.heap) ba0) args s 216 1354 ba0) (F0 m 352 ls [.int y0]) := by
  have hx := X.1
  have hb := X.2.1
  have hown := X.2.2.2.2.1
  intro z0 w wf v2 v3 v8 v9 v10 v11 y0 H locs ls ce sl hb1_ hb2_ hW0 hwo hwb hww hS hl hf
  unfold hL_weeks_352 at hf
  refine lv_istore (lv' := [(12, .int y0), (0, .ref (ad0 360)), (2, .int v2), (3, .int v3), (5, .ref w), (8, .int v8), (9, .int v9), (10, .int v10), (11, .int v11)]) hx hb dL_weeks_352 hl (by decide) rfl (fun ls hl => ?_)
  refine lv_aload hx hb dL_weeks_354 (lv_at hl 4 rfl) ?_
  refine lv_bipush (v := (7 : Int32)) hx hb dL_weeks_356 (by decide) ?_
  refine lv_iload hx hb dL_weeks_358 (lv_at hl 5 rfl) ?_
  refine lv_imul hx hb dL_weeks_360 ?_
  refine lv_iconst (v := (1 : Int32)) hx hb dL_weeks_361 (by decide) ?_
  refine lv_iadd hx hb dL_weeks_362 ?_
  obtain ⟨h_29, hf⟩ := chk_some hf
  refine aw_ld X hww h_29 dL_weeks_363 ?_
  refine lv_iload hx hb dL_weeks_364 (lv_at hl 0 rfl) ?_
  refine lv_iadd hx hb dL_weeks_366 ?_
  refine lv_bipush (v := (99 : Int32)) hx hb dL_weeks_367 (by decide) ?_
  refine lv_icmp_le (tgt := 377) hx hb dL_weeks_369 (by decide) (fun c_30 => ?_) (fun c_30 => ?_)
  · replace hf := ite_t c_30 hf
    refine lv_aload hx hb dL_weeks_377 (lv_at hl 4 rfl) ?_
    refine lv_bipush (v := (7 : Int32)) hx hb dL_weeks_379 (by decide) ?_
    refine lv_iload hx hb dL_weeks_381 (lv_at hl 5 rfl) ?_
    refine lv_imul hx hb dL_weeks_383 ?_
    refine lv_iconst (v := (1 : Int32)) hx hb dL_weeks_384 (by decide) ?_
    refine lv_iadd hx hb dL_weeks_385 ?_
    refine aw_ld X hww h_29 dL_weeks_386 ?_
    refine lv_iload hx hb dL_weeks_387 (lv_at hl 0 rfl) ?_
    refine lv_iadd hx hb dL_weeks_389 ?_
    refine lv_bipush (v := (-99 : Int32)) hx hb dL_weeks_390 (by decide) ?_
    refine lv_icmp_ge (tgt := 400) hx hb dL_weeks_392 (by decide) (fun c_31 => ?_) (fun c_31 => ?_)
    · replace hf := ite_t c_31 hf
      refine lv_aload hx hb dL_weeks_400 (lv_at hl 4 rfl) ?_
      refine lv_bipush (v := (7 : Int32)) hx hb dL_weeks_402 (by decide) ?_
      refine lv_iload hx hb dL_weeks_404 (lv_at hl 5 rfl) ?_
      refine lv_imul hx hb dL_weeks_406 ?_
      refine lv_iconst (v := (1 : Int32)) hx hb dL_weeks_407 (by decide) ?_
      refine lv_iadd hx hb dL_weeks_408 ?_
      refine aw_ld X hww h_29 dL_weeks_409 ?_
      refine lv_iload hx hb dL_weeks_410 (lv_at hl 0 rfl) ?_
      refine lv_iadd hx hb dL_weeks_412 ?_
      exact bL_weeks_413 (x1 := x1) X hl0 hq252 z0 w wf v2 v3 v8 v9 v10 v11 ((wf (((7 : Int32) * v8) + (1 : Int32)).toNatClampNeg) + y0) _ _ _ _ _ (by omega) (by omega) hW0 hwo hwb hww hS (lv_sub hl [1, 2, 3, 4, 5, 6, 7, 8] rfl) hf
    · replace hf := ite_f c_31 hf
      refine lv_bipush (v := (-99 : Int32)) hx hb dL_weeks_395 (by decide) ?_
      refine lv_goto (tgt := 413) hx hb dL_weeks_397 (by decide) ?_
      exact bL_weeks_413 (x1 := x1) X hl0 hq252 z0 w wf v2 v3 v8 v9 v10 v11 (-99 : Int32) _ _ _ _ _ (by omega) (by omega) hW0 hwo hwb hww hS (lv_sub hl [1, 2, 3, 4, 5, 6, 7, 8] rfl) hf
  · replace hf := ite_f c_30 hf
    refine lv_bipush (v := (99 : Int32)) hx hb dL_weeks_372 (by decide) ?_
    refine lv_goto (tgt := 413) hx hb dL_weeks_374 (by decide) ?_
    exact bL_weeks_413 (x1 := x1) X hl0 hq252 z0 w wf v2 v3 v8 v9 v10 v11 (99 : Int32) _ _ _ _ _ (by omega) (by omega) hW0 hwo hwb hww hS (lv_sub hl [1, 2, 3, 4, 5, 6, 7, 8] rfl) hf
set_option maxRecDepth 100000 in
set_option maxHeartbeats 4000000 in
theorem bL_weeks_313 {p : Program} {l : Launch} {e : Env} {s : State} {m : MethodId} {args : Array Value} {below : List Frame} {meth : Method} {c : Code} {D : va_G} {cy : Nat → ClassId} {ad0 : Nat → Nat} {ba0 : Nat → Prop} {x1 : Int32} {res : (Int32 × aS)} (X : teC wsL_weeks RL cL_weeks 19 (some .boolean) D cy ba0 p s m args meth c) (hl0 : l.stackTraces = false) {n252 : Nat} {q252 : aS → (Nat → Int32) → Int32 → Int32 → Int32 → Int32 → Option (Int32 × aS)} (hq252 : ∀ (z0 : aS) (w : Nat) (wf : Nat → Int32) (v2 : Int32) (v3 : Int32) (v7 : Int32) (v8 : Int32) (H : Heap) (locs : List Loc) (ls : Array Slot) (ce sl : Nat), ce + (10 * n252 + 0) ≤ 216 → sl + (60 * n252 + 0) ≤ 1354 → aR D cy ad0 ba0 z0 H → s.heap.size ≤ w → ¬ ba0 w → aW cy w 64 wf H → va_S ba0 s.heap H locs → lv_has ls 19 [(0, .ref (ad0 360)), (2, .int v2), (3, .int v3), (5, .ref w), (7, .int v7), (8, .int v8)] → q252 z0 wf v2 v3 v7 v8 = some res → W p l e (headSpec wsL_weeks rmL_weeks).room s m args below meth c H locs ce sl (MQ below (va_Qi (fun a (_ : Unit) => a = res.1) (fun _ t => (aR D cy ad0 ba0 res.2) t.heap) ba0) args s 216 1354 ba0) (F0 m 252 ls [])) : ∀ (z0 : aS) (w : Nat) (wf : Nat → Int32) (v2 : Int32) (v3 : Int32) (v8 : Int32) (v9 : Int32) (v10 : Int32) (y0 : Int32) (H : Heap) (locs : List Loc) (ls : Array Slot) (ce sl : Nat), ce + (10 * n252 + 10) ≤ 216 → sl + (60 * n252 + 60) ≤ 1354 → aR D cy ad0 ba0 z0 H → s.heap.size ≤ w → ¬ ba0 w → aW cy w 64 wf H → va_S ba0 s.heap H locs → lv_has ls 19 [(0, .ref (ad0 360)), (2, .int v2), (3, .int v3), (5, .ref w), (8, .int v8), (9, .int v9), (10, .int v10)] → hL_weeks_313 x1 q252 z0 wf v2 v3 v8 v9 v10 y0 = some res → W p l e (headSpec wsL_weeks rmL_weeks).room s m args below meth c H locs ce sl (MQ below (va_Qi (fun a (_ : Unit) => a = res.1) (fun _ t => (aR D cy ad0 ba0 res.2) t.heap) ba0) args s 216 1354 ba0) (F0 m 313 ls [.int y0]) := by
  have hx := X.1
  have hb := X.2.1
  have hown := X.2.2.2.2.1
  intro z0 w wf v2 v3 v8 v9 v10 y0 H locs ls ce sl hb1_ hb2_ hW0 hwo hwb hww hS hl hf
  unfold hL_weeks_313 at hf
  refine lv_istore (lv' := [(11, .int y0), (0, .ref (ad0 360)), (2, .int v2), (3, .int v3), (5, .ref w), (8, .int v8), (9, .int v9), (10, .int v10)]) hx hb dL_weeks_313 hl (by decide) rfl (fun ls hl => ?_)
  refine lv_iload hx hb dL_weeks_315 (lv_at hl 6 rfl) ?_
  refine lv_sipush (v := (-9999 : Int32)) hx hb dL_weeks_317 (by decide) ?_
  refine lv_icmp_ne (tgt := 327) hx hb dL_weeks_320 (by decide) (fun c_24 => ?_) (fun c_24 => ?_)
  · replace hf := ite_f c_24 hf
    refine lv_iload hx hb dL_weeks_327 (lv_at hl 7 rfl) ?_
    refine lv_if_ne (tgt := 341) hx hb dL_weeks_329 (by decide) (fun c_25 => ?_) (fun c_25 => ?_)
    · replace hf := ite_f c_25 hf
      refine lv_iload hx hb dL_weeks_341 (lv_at hl 7 rfl) ?_
      refine lv_if_eq (tgt := 351) hx hb dL_weeks_343 (by decide) (fun c_26 => ?_) (fun c_26 => ?_)
      · replace hf := ite_t c_26 hf
        refine lv_iconst (v := (2 : Int32)) hx hb dL_weeks_351 (by decide) ?_
        exact bL_weeks_352 (x1 := x1) X hl0 hq252 z0 w wf v2 v3 v8 v9 v10 y0 (2 : Int32) _ _ _ _ _ (by omega) (by omega) hW0 hwo hwb hww hS (lv_sub hl [1, 2, 3, 4, 5, 6, 7, 0] rfl) hf
      · replace hf := ite_f c_26 hf
        refine lv_bipush (v := (-3 : Int32)) hx hb dL_weeks_346 (by decide) ?_
        refine lv_goto (tgt := 352) hx hb dL_weeks_348 (by decide) ?_
        exact bL_weeks_352 (x1 := x1) X hl0 hq252 z0 w wf v2 v3 v8 v9 v10 y0 (-3 : Int32) _ _ _ _ _ (by omega) (by omega) hW0 hwo hwb hww hS (lv_sub hl [1, 2, 3, 4, 5, 6, 7, 0] rfl) hf
    · replace hf := ite_t c_25 hf
      refine lv_iload hx hb dL_weeks_332 (lv_at hl 0 rfl) ?_
      refine lv_if_ne (tgt := 341) hx hb dL_weeks_334 (by decide) (fun c_27 => ?_) (fun c_27 => ?_)
      · replace hf := ite_f c_27 hf
        refine lv_iload hx hb dL_weeks_341 (lv_at hl 7 rfl) ?_
        refine lv_if_eq (tgt := 351) hx hb dL_weeks_343 (by decide) (fun c_28 => ?_) (fun c_28 => ?_)
        · replace hf := ite_t c_28 hf
          refine lv_iconst (v := (2 : Int32)) hx hb dL_weeks_351 (by decide) ?_
          exact bL_weeks_352 (x1 := x1) X hl0 hq252 z0 w wf v2 v3 v8 v9 v10 y0 (2 : Int32) _ _ _ _ _ (by omega) (by omega) hW0 hwo hwb hww hS (lv_sub hl [1, 2, 3, 4, 5, 6, 7, 0] rfl) hf
        · replace hf := ite_f c_28 hf
          refine lv_bipush (v := (-3 : Int32)) hx hb dL_weeks_346 (by decide) ?_
          refine lv_goto (tgt := 352) hx hb dL_weeks_348 (by decide) ?_
          exact bL_weeks_352 (x1 := x1) X hl0 hq252 z0 w wf v2 v3 v8 v9 v10 y0 (-3 : Int32) _ _ _ _ _ (by omega) (by omega) hW0 hwo hwb hww hS (lv_sub hl [1, 2, 3, 4, 5, 6, 7, 0] rfl) hf
      · replace hf := ite_t c_27 hf
        refine lv_iconst (v := (1 : Int32)) hx hb dL_weeks_337 (by decide) ?_
        refine lv_goto (tgt := 352) hx hb dL_weeks_338 (by decide) ?_
        exact bL_weeks_352 (x1 := x1) X hl0 hq252 z0 w wf v2 v3 v8 v9 v10 y0 (1 : Int32) _ _ _ _ _ (by omega) (by omega) hW0 hwo hwb hww hS (lv_sub hl [1, 2, 3, 4, 5, 6, 7, 0] rfl) hf
  · replace hf := ite_t c_24 hf
    refine lv_iconst (v := (0 : Int32)) hx hb dL_weeks_323 (by decide) ?_
    refine lv_goto (tgt := 352) hx hb dL_weeks_324 (by decide) ?_
    exact bL_weeks_352 (x1 := x1) X hl0 hq252 z0 w wf v2 v3 v8 v9 v10 y0 (0 : Int32) _ _ _ _ _ (by omega) (by omega) hW0 hwo hwb hww hS (lv_sub hl [1, 2, 3, 4, 5, 6, 7, 0] rfl) hf
set_option maxRecDepth 100000 in
set_option maxHeartbeats 4000000 in
theorem bL_weeks_288 {p : Program} {l : Launch} {e : Env} {s : State} {m : MethodId} {args : Array Value} {below : List Frame} {meth : Method} {c : Code} {D : va_G} {cy : Nat → ClassId} {ad0 : Nat → Nat} {ba0 : Nat → Prop} {x1 : Int32} {res : (Int32 × aS)} (X : teC wsL_weeks RL cL_weeks 19 (some .boolean) D cy ba0 p s m args meth c) (hl0 : l.stackTraces = false) {n252 : Nat} {q252 : aS → (Nat → Int32) → Int32 → Int32 → Int32 → Int32 → Option (Int32 × aS)} (hq252 : ∀ (z0 : aS) (w : Nat) (wf : Nat → Int32) (v2 : Int32) (v3 : Int32) (v7 : Int32) (v8 : Int32) (H : Heap) (locs : List Loc) (ls : Array Slot) (ce sl : Nat), ce + (10 * n252 + 0) ≤ 216 → sl + (60 * n252 + 0) ≤ 1354 → aR D cy ad0 ba0 z0 H → s.heap.size ≤ w → ¬ ba0 w → aW cy w 64 wf H → va_S ba0 s.heap H locs → lv_has ls 19 [(0, .ref (ad0 360)), (2, .int v2), (3, .int v3), (5, .ref w), (7, .int v7), (8, .int v8)] → q252 z0 wf v2 v3 v7 v8 = some res → W p l e (headSpec wsL_weeks rmL_weeks).room s m args below meth c H locs ce sl (MQ below (va_Qi (fun a (_ : Unit) => a = res.1) (fun _ t => (aR D cy ad0 ba0 res.2) t.heap) ba0) args s 216 1354 ba0) (F0 m 252 ls [])) : ∀ (z0 : aS) (w : Nat) (wf : Nat → Int32) (v2 : Int32) (v3 : Int32) (v8 : Int32) (v9 : Int32) (y0 : Int32) (H : Heap) (locs : List Loc) (ls : Array Slot) (ce sl : Nat), ce + (10 * n252 + 10) ≤ 216 → sl + (60 * n252 + 60) ≤ 1354 → aR D cy ad0 ba0 z0 H → s.heap.size ≤ w → ¬ ba0 w → aW cy w 64 wf H → va_S ba0 s.heap H locs → lv_has ls 19 [(0, .ref (ad0 360)), (2, .int v2), (3, .int v3), (5, .ref w), (8, .int v8), (9, .int v9)] → hL_weeks_288 x1 q252 z0 wf v2 v3 v8 v9 y0 = some res → W p l e (headSpec wsL_weeks rmL_weeks).room s m args below meth c H locs ce sl (MQ below (va_Qi (fun a (_ : Unit) => a = res.1) (fun _ t => (aR D cy ad0 ba0 res.2) t.heap) ba0) args s 216 1354 ba0) (F0 m 288 ls [.int y0]) := by
  have hx := X.1
  have hb := X.2.1
  have hown := X.2.2.2.2.1
  intro z0 w wf v2 v3 v8 v9 y0 H locs ls ce sl hb1_ hb2_ hW0 hwo hwb hww hS hl hf
  unfold hL_weeks_288 at hf
  refine lv_istore (lv' := [(10, .int y0), (0, .ref (ad0 360)), (2, .int v2), (3, .int v3), (5, .ref w), (8, .int v8), (9, .int v9)]) hx hb dL_weeks_288 hl (by decide) rfl (fun ls hl => ?_)
  refine lv_iload hx hb dL_weeks_290 (lv_at hl 6 rfl) ?_
  refine lv_sipush (v := (-9999 : Int32)) hx hb dL_weeks_292 (by decide) ?_
  refine lv_icmp_eq (tgt := 312) hx hb dL_weeks_295 (by decide) (fun c_22 => ?_) (fun c_22 => ?_)
  · replace hf := ite_t c_22 hf
    refine lv_iconst (v := (0 : Int32)) hx hb dL_weeks_312 (by decide) ?_
    exact bL_weeks_313 (x1 := x1) X hl0 hq252 z0 w wf v2 v3 v8 v9 y0 (0 : Int32) _ _ _ _ _ (by omega) (by omega) hW0 hwo hwb hww hS (lv_sub hl [1, 2, 3, 4, 5, 6, 0] rfl) hf
  · replace hf := ite_f c_22 hf
    refine lv_iload_n hx hb dL_weeks_298 rfl (lv_at hl 3 rfl) ?_
    refine lv_iload hx hb dL_weeks_299 (lv_at hl 6 rfl) ?_
    refine lv_ishr hx hb dL_weeks_301 ?_
    refine lv_iconst (v := (1 : Int32)) hx hb dL_weeks_302 (by decide) ?_
    refine lv_iand hx hb dL_weeks_303 ?_
    refine lv_iconst (v := (1 : Int32)) hx hb dL_weeks_304 (by decide) ?_
    refine lv_icmp_ne (tgt := 312) hx hb dL_weeks_305 (by decide) (fun c_23 => ?_) (fun c_23 => ?_)
    · replace hf := ite_f c_23 hf
      refine lv_iconst (v := (0 : Int32)) hx hb dL_weeks_312 (by decide) ?_
      exact bL_weeks_313 (x1 := x1) X hl0 hq252 z0 w wf v2 v3 v8 v9 y0 (0 : Int32) _ _ _ _ _ (by omega) (by omega) hW0 hwo hwb hww hS (lv_sub hl [1, 2, 3, 4, 5, 6, 0] rfl) hf
    · replace hf := ite_t c_23 hf
      refine lv_iconst (v := (1 : Int32)) hx hb dL_weeks_308 (by decide) ?_
      refine lv_goto (tgt := 313) hx hb dL_weeks_309 (by decide) ?_
      exact bL_weeks_313 (x1 := x1) X hl0 hq252 z0 w wf v2 v3 v8 v9 y0 (1 : Int32) _ _ _ _ _ (by omega) (by omega) hW0 hwo hwb hww hS (lv_sub hl [1, 2, 3, 4, 5, 6, 0] rfl) hf
set_option maxRecDepth 100000 in
set_option maxHeartbeats 4000000 in
theorem bL_weeks_252 {p : Program} {l : Launch} {e : Env} {s : State} {m : MethodId} {args : Array Value} {below : List Frame} {meth : Method} {c : Code} {D : va_G} {cy : Nat → ClassId} {ad0 : Nat → Nat} {ba0 : Nat → Prop} {x1 : Int32} {res : (Int32 × aS)} (X : teC wsL_weeks RL cL_weeks 19 (some .boolean) D cy ba0 p s m args meth c) (hl0 : l.stackTraces = false) : ∀ (n : Nat), ∀ (z0 : aS) (w : Nat) (wf : Nat → Int32) (v2 : Int32) (v3 : Int32) (v7 : Int32) (v8 : Int32) (H : Heap) (locs : List Loc) (ls : Array Slot) (ce sl : Nat), ce + (10 * n + 0) ≤ 216 → sl + (60 * n + 0) ≤ 1354 → aR D cy ad0 ba0 z0 H → s.heap.size ≤ w → ¬ ba0 w → aW cy w 64 wf H → va_S ba0 s.heap H locs → lv_has ls 19 [(0, .ref (ad0 360)), (2, .int v2), (3, .int v3), (5, .ref w), (7, .int v7), (8, .int v8)] → hL_weeks_252 x1 n z0 wf v2 v3 v7 v8 = some res → W p l e (headSpec wsL_weeks rmL_weeks).room s m args below meth c H locs ce sl (MQ below (va_Qi (fun a (_ : Unit) => a = res.1) (fun _ t => (aR D cy ad0 ba0 res.2) t.heap) ba0) args s 216 1354 ba0) (F0 m 252 ls []) := by
  have hx := X.1
  have hb := X.2.1
  have hown := X.2.2.2.2.1
  intro n
  induction n with
  | zero =>
    intro z0 w wf v2 v3 v7 v8 H locs ls ce sl hb1_ hb2_ hW0 hwo hwb hww hS hl hf
    exact nomatch hf
  | succ n ih =>
    intro z0 w wf v2 v3 v7 v8 H locs ls ce sl hb1_ hb2_ hW0 hwo hwb hww hS hl hf
    unfold hL_weeks_252 at hf
    refine lv_iload hx hb dL_weeks_252 (lv_at hl 5 rfl) ?_
    refine lv_iload_n hx hb dL_weeks_254 rfl (lv_at hl 1 rfl) ?_
    refine lv_icmp_ge (tgt := 724) hx hb dL_weeks_255 (by decide) (fun c_14 => ?_) (fun c_14 => ?_)
    · replace hf := ite_t c_14 hf
      refine lv_iload hx hb dL_weeks_724 (lv_at hl 4 rfl) ?_
      obtain ⟨h_15, hf⟩ := chk_some hf
      cases Option.some.inj hf
      exact eKz X hW0 hS (of_decide_eq_true h_15) rfl (by omega) (by omega) dL_weeks_726
    · replace hf := ite_f c_14 hf
      refine lv_iload hx hb dL_weeks_258 (lv_at hl 4 rfl) ?_
      refine lv_if_eq (tgt := 724) hx hb dL_weeks_260 (by decide) (fun c_16 => ?_) (fun c_16 => ?_)
      · replace hf := ite_t c_16 hf
        refine lv_iload hx hb dL_weeks_724 (lv_at hl 4 rfl) ?_
        obtain ⟨h_17, hf⟩ := chk_some hf
        cases Option.some.inj hf
        exact eKz X hW0 hS (of_decide_eq_true h_17) rfl (by omega) (by omega) dL_weeks_726
      · replace hf := ite_f c_16 hf
        refine lv_aload hx hb dL_weeks_263 (lv_at hl 3 rfl) ?_
        refine lv_bipush (v := (7 : Int32)) hx hb dL_weeks_265 (by decide) ?_
        refine lv_iload hx hb dL_weeks_267 (lv_at hl 5 rfl) ?_
        refine lv_imul hx hb dL_weeks_269 ?_
        obtain ⟨h_18, hf⟩ := chk_some hf
        refine aw_ld X hww h_18 dL_weeks_270 ?_
        refine lv_istore (lv' := [(9, .int (wf ((7 : Int32) * v8).toNatClampNeg)), (0, .ref (ad0 360)), (2, .int v2), (3, .int v3), (5, .ref w), (7, .int v7), (8, .int v8)]) hx hb dL_weeks_271 hl (by decide) rfl (fun ls hl => ?_)
        refine lv_iload_n hx hb dL_weeks_273 rfl (lv_at hl 3 rfl) ?_
        refine lv_iload hx hb dL_weeks_274 (lv_at hl 6 rfl) ?_
        refine lv_ishr hx hb dL_weeks_276 ?_
        refine lv_iconst (v := (1 : Int32)) hx hb dL_weeks_277 (by decide) ?_
        refine lv_iand hx hb dL_weeks_278 ?_
        refine lv_iconst (v := (1 : Int32)) hx hb dL_weeks_279 (by decide) ?_
        refine lv_icmp_ne (tgt := 287) hx hb dL_weeks_280 (by decide) (fun c_19 => ?_) (fun c_19 => ?_)
        · replace hf := ite_f c_19 hf
          refine lv_iconst (v := (0 : Int32)) hx hb dL_weeks_287 (by decide) ?_
          exact bL_weeks_288 (x1 := x1) X hl0 ih z0 w wf v2 v3 v8 (wf ((7 : Int32) * v8).toNatClampNeg) (0 : Int32) _ _ _ _ _ (by omega) (by omega) hW0 hwo hwb hww hS (lv_sub hl [1, 2, 3, 4, 6, 0] rfl) hf
        · replace hf := ite_t c_19 hf
          refine lv_iconst (v := (1 : Int32)) hx hb dL_weeks_283 (by decide) ?_
          refine lv_goto (tgt := 288) hx hb dL_weeks_284 (by decide) ?_
          exact bL_weeks_288 (x1 := x1) X hl0 ih z0 w wf v2 v3 v8 (wf ((7 : Int32) * v8).toNatClampNeg) (1 : Int32) _ _ _ _ _ (by omega) (by omega) hW0 hwo hwb hww hS (lv_sub hl [1, 2, 3, 4, 6, 0] rfl) hf
set_option maxRecDepth 100000 in
set_option maxHeartbeats 4000000 in
theorem bL_weeks_34 {p : Program} {l : Launch} {e : Env} {s : State} {m : MethodId} {args : Array Value} {below : List Frame} {meth : Method} {c : Code} {D : va_G} {cy : Nat → ClassId} {ad0 : Nat → Nat} {ba0 : Nat → Prop} {x1 : Int32} {res : (Int32 × aS)} (X : teC wsL_weeks RL cL_weeks 19 (some .boolean) D cy ba0 p s m args meth c) (hl0 : l.stackTraces = false) : ∀ (n : Nat), ∀ (z0 : aS) (w : Nat) (wf : Nat → Int32) (v2 : Int32) (v3 : Int32) (v4 : Int32) (v6 : Int32) (H : Heap) (locs : List Loc) (ls : Array Slot) (ce sl : Nat), ce + (11 * n + 103) ≤ 216 → sl + (66 * n + 618) ≤ 1354 → aR D cy ad0 ba0 z0 H → s.heap.size ≤ w → ¬ ba0 w → aW cy w 64 wf H → va_S ba0 s.heap H locs → lv_has ls 19 [(0, .ref (ad0 360)), (2, .int v2), (3, .int v3), (4, .int v4), (5, .ref w), (6, .int v6)] → hL_weeks_34 x1 n z0 wf v2 v3 v4 v6 = some res → W p l e (headSpec wsL_weeks rmL_weeks).room s m args below meth c H locs ce sl (MQ below (va_Qi (fun a (_ : Unit) => a = res.1) (fun _ t => (aR D cy ad0 ba0 res.2) t.heap) ba0) args s 216 1354 ba0) (F0 m 34 ls []) := by
  have hx := X.1
  have hb := X.2.1
  have hown := X.2.2.2.2.1
  intro n
  induction n with
  | zero =>
    intro z0 w wf v2 v3 v4 v6 H locs ls ce sl hb1_ hb2_ hW0 hwo hwb hww hS hl hf
    exact nomatch hf
  | succ n ih =>
    intro z0 w wf v2 v3 v4 v6 H locs ls ce sl hb1_ hb2_ hW0 hwo hwb hww hS hl hf
    unfold hL_weeks_34 at hf
    refine lv_iload hx hb dL_weeks_34 (lv_at hl 5 rfl) ?_
    refine lv_iload_n hx hb dL_weeks_36 rfl (lv_at hl 1 rfl) ?_
    refine lv_icmp_ge (tgt := 213) hx hb dL_weeks_37 (by decide) (fun c_1 => ?_) (fun c_1 => ?_)
    · replace hf := ite_t c_1 hf
      refine lv_aload_n hx hb dL_weeks_213 rfl (lv_at hl 0 rfl) ?_
      refine lv_iload_n hx hb dL_weeks_214 rfl (lv_at hl 2 rfl) ?_
      obtain ⟨r_2, z0_1, hq_3, hf⟩ := bd2_some hf
      refine kA (As := [.ref (ad0 360), .int v3]) (rest := []) X (fun q h => h) hW0 hS (tI_tryWeek l D cy ad0 ba0 hl0 hq_3) (vx_cwSW (hh := [(0, 5, 6, 13)]) 2 X.2.2.2.2.2.1 gL_weeks_L_tryWeek rfl rfl rfl kdL_tryWeek.2 ⟨(Nat.le_of_ble_eq_true rfl), (Nat.le_of_ble_eq_true rfl)⟩) rfl rfl hl.1 (Nat.le_of_ble_eq_true rfl) ⟨by show _ ≤ 216; omega, by show _ ≤ 1354; omega⟩ dL_weeks_215 (fun H locs hW0 hS hz hk => ?_)
      replace hww := (hk w (aW_lt hww) hwb).trans hww
      clear hz hk
      refine lv_istore (lv' := [(6, .int r_2), (0, .ref (ad0 360)), (2, .int v2), (3, .int v3), (4, .int v4), (5, .ref w)]) hx hb dL_weeks_218 hl (by decide) rfl (fun ls hl => ?_)
      refine lv_iload hx hb dL_weeks_220 (lv_at hl 0 rfl) ?_
      refine lv_aload_n hx hb dL_weeks_222 rfl (lv_at hl 1 rfl) ?_
      refine lv_iconst (v := (1 : Int32)) hx hb dL_weeks_223 (by decide) ?_
      refine kA (As := [.ref (ad0 360), .int (1 : Int32)]) (rest := [.int r_2]) X (fun q h => h) hW0 hS (tI_tryAbout l D cy ad0 ba0 hl0 z0_1 (1 : Int32)) (vx_cwSW (hh := [(0, 5, 6, 13)]) 2 X.2.2.2.2.2.1 gL_weeks_L_tryAbout rfl rfl rfl kdL_tryAbout.2 ⟨(Nat.le_of_ble_eq_true rfl), (Nat.le_of_ble_eq_true rfl)⟩) rfl rfl hl.1 (Nat.le_of_ble_eq_true rfl) ⟨by show _ ≤ 216; omega, by show _ ≤ 1354; omega⟩ dL_weeks_224 (fun H locs hW0 hS hz hk => ?_)
      replace hww := (hk w (aW_lt hww) hwb).trans hww
      clear hz hk
      refine lv_icmp_ne (tgt := 246) hx hb dL_weeks_227 (by decide) (fun c_4 => ?_) (fun c_4 => ?_)
      · replace hf := ite_f c_4 hf
        refine lv_iconst (v := (0 : Int32)) hx hb dL_weeks_246 (by decide) ?_
        refine lv_istore (lv' := [(7, .int (0 : Int32)), (6, .int r_2), (0, .ref (ad0 360)), (2, .int v2), (3, .int v3), (4, .int v4), (5, .ref w)]) hx hb dL_weeks_247 hl (by decide) rfl (fun ls hl => ?_)
        refine lv_iconst (v := (0 : Int32)) hx hb dL_weeks_249 (by decide) ?_
        refine lv_istore (lv' := [(8, .int (0 : Int32)), (7, .int (0 : Int32)), (6, .int r_2), (0, .ref (ad0 360)), (2, .int v2), (3, .int v3), (4, .int v4), (5, .ref w)]) hx hb dL_weeks_250 hl (by decide) rfl (fun ls hl => ?_)
        exact bL_weeks_252 (x1 := x1) X hl0 10 z0_1 w wf v2 v3 (0 : Int32) (0 : Int32) _ _ _ _ _ (by omega) (by omega) hW0 hwo hwb hww hS (lv_sub hl [3, 4, 5, 7, 1, 0] rfl) hf
      · replace hf := ite_t c_4 hf
        refine lv_aload_n hx hb dL_weeks_230 rfl (lv_at hl 1 rfl) ?_
        refine lv_iconst (v := (2 : Int32)) hx hb dL_weeks_231 (by decide) ?_
        refine kA (As := [.ref (ad0 360), .int (2 : Int32)]) (rest := []) X (fun q h => h) hW0 hS (tI_tryAbout l D cy ad0 ba0 hl0 z0_1 (2 : Int32)) (vx_cwSW (hh := [(0, 5, 6, 13)]) 2 X.2.2.2.2.2.1 gL_weeks_L_tryAbout rfl rfl rfl kdL_tryAbout.2 ⟨(Nat.le_of_ble_eq_true rfl), (Nat.le_of_ble_eq_true rfl)⟩) rfl rfl hl.1 (Nat.le_of_ble_eq_true rfl) ⟨by show _ ≤ 216; omega, by show _ ≤ 1354; omega⟩ dL_weeks_232 (fun H locs hW0 hS hz hk => ?_)
        replace hww := (hk w (aW_lt hww) hwb).trans hww
        clear hz hk
        refine lv_iload hx hb dL_weeks_235 (lv_at hl 4 rfl) ?_
        refine lv_iconst (v := (1 : Int32)) hx hb dL_weeks_237 (by decide) ?_
        refine lv_iadd hx hb dL_weeks_238 ?_
        refine lv_icmp_ne (tgt := 246) hx hb dL_weeks_239 (by decide) (fun c_5 => ?_) (fun c_5 => ?_)
        · replace hf := ite_f c_5 hf
          refine lv_iconst (v := (0 : Int32)) hx hb dL_weeks_246 (by decide) ?_
          refine lv_istore (lv' := [(7, .int (0 : Int32)), (6, .int r_2), (0, .ref (ad0 360)), (2, .int v2), (3, .int v3), (4, .int v4), (5, .ref w)]) hx hb dL_weeks_247 hl (by decide) rfl (fun ls hl => ?_)
          refine lv_iconst (v := (0 : Int32)) hx hb dL_weeks_249 (by decide) ?_
          refine lv_istore (lv' := [(8, .int (0 : Int32)), (7, .int (0 : Int32)), (6, .int r_2), (0, .ref (ad0 360)), (2, .int v2), (3, .int v3), (4, .int v4), (5, .ref w)]) hx hb dL_weeks_250 hl (by decide) rfl (fun ls hl => ?_)
          exact bL_weeks_252 (x1 := x1) X hl0 10 z0_1 w wf v2 v3 (0 : Int32) (0 : Int32) _ _ _ _ _ (by omega) (by omega) hW0 hwo hwb hww hS (lv_sub hl [3, 4, 5, 7, 1, 0] rfl) hf
        · replace hf := ite_t c_5 hf
          refine lv_iconst (v := (1 : Int32)) hx hb dL_weeks_242 (by decide) ?_
          refine lv_goto (tgt := 247) hx hb dL_weeks_243 (by decide) ?_
          refine lv_istore (lv' := [(7, .int (1 : Int32)), (6, .int r_2), (0, .ref (ad0 360)), (2, .int v2), (3, .int v3), (4, .int v4), (5, .ref w)]) hx hb dL_weeks_247 hl (by decide) rfl (fun ls hl => ?_)
          refine lv_iconst (v := (0 : Int32)) hx hb dL_weeks_249 (by decide) ?_
          refine lv_istore (lv' := [(8, .int (0 : Int32)), (7, .int (1 : Int32)), (6, .int r_2), (0, .ref (ad0 360)), (2, .int v2), (3, .int v3), (4, .int v4), (5, .ref w)]) hx hb dL_weeks_250 hl (by decide) rfl (fun ls hl => ?_)
          exact bL_weeks_252 (x1 := x1) X hl0 10 z0_1 w wf v2 v3 (1 : Int32) (0 : Int32) _ _ _ _ _ (by omega) (by omega) hW0 hwo hwb hww hS (lv_sub hl [3, 4, 5, 7, 1, 0] rfl) hf
    · replace hf := ite_f c_1 hf
      refine lv_aload hx hb dL_weeks_40 (lv_at hl 4 rfl) ?_
      refine lv_bipush (v := (7 : Int32)) hx hb dL_weeks_42 (by decide) ?_
      refine lv_iload hx hb dL_weeks_44 (lv_at hl 5 rfl) ?_
      refine lv_imul hx hb dL_weeks_46 ?_
      refine lv_aload_n hx hb dL_weeks_47 rfl (lv_at hl 0 rfl) ?_
      refine lv_iload hx hb dL_weeks_48 (lv_at hl 5 rfl) ?_
      refine lv_bipush (v := (8 : Int32)) hx hb dL_weeks_50 (by decide) ?_
      refine kA (As := [.ref (ad0 360), .int v6, .int (8 : Int32)]) (rest := [.int ((7 : Int32) * v6), .ref w]) X (fun q h => h) hW0 hS (tI_tryMember l D cy ad0 ba0 hl0 z0 v6 (8 : Int32)) (vx_cwSW (hh := [(0, 6, 7, 30), (0, 6, 11, 13)]) 3 X.2.2.2.2.2.1 gL_weeks_L_tryMember rfl rfl rfl kdL_tryMember.2 ⟨(Nat.le_of_ble_eq_true rfl), (Nat.le_of_ble_eq_true rfl)⟩) rfl rfl hl.1 (Nat.le_of_ble_eq_true rfl) ⟨by show _ ≤ 216; omega, by show _ ≤ 1354; omega⟩ dL_weeks_52 (fun H locs hW0 hS hz hk => ?_)
      replace hww := (hk w (aW_lt hww) hwb).trans hww
      clear hz hk
      obtain ⟨h_6, hf⟩ := chk_some hf
      refine aw_st X hS hww hwo h_6 dL_weeks_55 (fun H1 hww oq hS => ?_)
      replace hW0 := aR_kept hW0 (fun q h1 h2 => oq q (fun e => hwb (e ▸ h2)))
      clear oq
      generalize upd wf ((7 : Int32) * v6).toNatClampNeg (A_tryMember z0 v6 (8 : Int32)) = wf2 at hf hww
      replace hf := lt1_e hf
      refine lv_aload hx hb dL_weeks_56 (lv_at hl 4 rfl) ?_
      refine lv_bipush (v := (7 : Int32)) hx hb dL_weeks_58 (by decide) ?_
      refine lv_iload hx hb dL_weeks_60 (lv_at hl 5 rfl) ?_
      refine lv_imul hx hb dL_weeks_62 ?_
      refine lv_iconst (v := (1 : Int32)) hx hb dL_weeks_63 (by decide) ?_
      refine lv_iadd hx hb dL_weeks_64 ?_
      refine lv_aload_n hx hb dL_weeks_65 rfl (lv_at hl 0 rfl) ?_
      refine lv_iload hx hb dL_weeks_66 (lv_at hl 5 rfl) ?_
      refine lv_bipush (v := (6 : Int32)) hx hb dL_weeks_68 (by decide) ?_
      refine kA (As := [.ref (ad0 360), .int v6, .int (6 : Int32)]) (rest := [.int (((7 : Int32) * v6) + (1 : Int32)), .ref w]) X (fun q h => h) hW0 hS (tI_tryMember l D cy ad0 ba0 hl0 z0 v6 (6 : Int32)) (vx_cwSW (hh := [(0, 6, 7, 30), (0, 6, 11, 13)]) 3 X.2.2.2.2.2.1 gL_weeks_L_tryMember rfl rfl rfl kdL_tryMember.2 ⟨(Nat.le_of_ble_eq_true rfl), (Nat.le_of_ble_eq_true rfl)⟩) rfl rfl hl.1 (Nat.le_of_ble_eq_true rfl) ⟨by show _ ≤ 216; omega, by show _ ≤ 1354; omega⟩ dL_weeks_70 (fun H locs hW0 hS hz hk => ?_)
      replace hww := (hk w (aW_lt hww) hwb).trans hww
      clear hz hk
      obtain ⟨h_7, hf⟩ := chk_some hf
      refine aw_st X hS hww hwo h_7 dL_weeks_73 (fun H1 hww oq hS => ?_)
      replace hW0 := aR_kept hW0 (fun q h1 h2 => oq q (fun e => hwb (e ▸ h2)))
      clear oq
      generalize upd wf2 (((7 : Int32) * v6) + (1 : Int32)).toNatClampNeg (A_tryMember z0 v6 (6 : Int32)) = wf3 at hf hww
      replace hf := lt1_e hf
      refine lv_aload hx hb dL_weeks_74 (lv_at hl 4 rfl) ?_
      refine lv_bipush (v := (7 : Int32)) hx hb dL_weeks_76 (by decide) ?_
      refine lv_iload hx hb dL_weeks_78 (lv_at hl 5 rfl) ?_
      refine lv_imul hx hb dL_weeks_80 ?_
      refine lv_iconst (v := (2 : Int32)) hx hb dL_weeks_81 (by decide) ?_
      refine lv_iadd hx hb dL_weeks_82 ?_
      refine lv_aload_n hx hb dL_weeks_83 rfl (lv_at hl 0 rfl) ?_
      refine lv_iload hx hb dL_weeks_84 (lv_at hl 5 rfl) ?_
      refine lv_bipush (v := (7 : Int32)) hx hb dL_weeks_86 (by decide) ?_
      refine kA (As := [.ref (ad0 360), .int v6, .int (7 : Int32)]) (rest := [.int (((7 : Int32) * v6) + (2 : Int32)), .ref w]) X (fun q h => h) hW0 hS (tI_tryMember l D cy ad0 ba0 hl0 z0 v6 (7 : Int32)) (vx_cwSW (hh := [(0, 6, 7, 30), (0, 6, 11, 13)]) 3 X.2.2.2.2.2.1 gL_weeks_L_tryMember rfl rfl rfl kdL_tryMember.2 ⟨(Nat.le_of_ble_eq_true rfl), (Nat.le_of_ble_eq_true rfl)⟩) rfl rfl hl.1 (Nat.le_of_ble_eq_true rfl) ⟨by show _ ≤ 216; omega, by show _ ≤ 1354; omega⟩ dL_weeks_88 (fun H locs hW0 hS hz hk => ?_)
      replace hww := (hk w (aW_lt hww) hwb).trans hww
      clear hz hk
      obtain ⟨h_8, hf⟩ := chk_some hf
      refine aw_st X hS hww hwo h_8 dL_weeks_91 (fun H1 hww oq hS => ?_)
      replace hW0 := aR_kept hW0 (fun q h1 h2 => oq q (fun e => hwb (e ▸ h2)))
      clear oq
      generalize upd wf3 (((7 : Int32) * v6) + (2 : Int32)).toNatClampNeg (A_tryMember z0 v6 (7 : Int32)) = wf4 at hf hww
      replace hf := lt1_e hf
      refine lv_aload hx hb dL_weeks_92 (lv_at hl 4 rfl) ?_
      refine lv_bipush (v := (7 : Int32)) hx hb dL_weeks_94 (by decide) ?_
      refine lv_iload hx hb dL_weeks_96 (lv_at hl 5 rfl) ?_
      refine lv_imul hx hb dL_weeks_98 ?_
      refine lv_iconst (v := (3 : Int32)) hx hb dL_weeks_99 (by decide) ?_
      refine lv_iadd hx hb dL_weeks_100 ?_
      refine lv_aload_n hx hb dL_weeks_101 rfl (lv_at hl 0 rfl) ?_
      refine lv_iload hx hb dL_weeks_102 (lv_at hl 5 rfl) ?_
      refine lv_bipush (v := (9 : Int32)) hx hb dL_weeks_104 (by decide) ?_
      refine kA (As := [.ref (ad0 360), .int v6, .int (9 : Int32)]) (rest := [.int (((7 : Int32) * v6) + (3 : Int32)), .ref w]) X (fun q h => h) hW0 hS (tI_tryMember l D cy ad0 ba0 hl0 z0 v6 (9 : Int32)) (vx_cwSW (hh := [(0, 6, 7, 30), (0, 6, 11, 13)]) 3 X.2.2.2.2.2.1 gL_weeks_L_tryMember rfl rfl rfl kdL_tryMember.2 ⟨(Nat.le_of_ble_eq_true rfl), (Nat.le_of_ble_eq_true rfl)⟩) rfl rfl hl.1 (Nat.le_of_ble_eq_true rfl) ⟨by show _ ≤ 216; omega, by show _ ≤ 1354; omega⟩ dL_weeks_106 (fun H locs hW0 hS hz hk => ?_)
      replace hww := (hk w (aW_lt hww) hwb).trans hww
      clear hz hk
      obtain ⟨h_9, hf⟩ := chk_some hf
      refine aw_st X hS hww hwo h_9 dL_weeks_109 (fun H1 hww oq hS => ?_)
      replace hW0 := aR_kept hW0 (fun q h1 h2 => oq q (fun e => hwb (e ▸ h2)))
      clear oq
      generalize upd wf4 (((7 : Int32) * v6) + (3 : Int32)).toNatClampNeg (A_tryMember z0 v6 (9 : Int32)) = wf5 at hf hww
      replace hf := lt1_e hf
      refine lv_aload hx hb dL_weeks_110 (lv_at hl 4 rfl) ?_
      refine lv_bipush (v := (7 : Int32)) hx hb dL_weeks_112 (by decide) ?_
      refine lv_iload hx hb dL_weeks_114 (lv_at hl 5 rfl) ?_
      refine lv_imul hx hb dL_weeks_116 ?_
      refine lv_iconst (v := (4 : Int32)) hx hb dL_weeks_117 (by decide) ?_
      refine lv_iadd hx hb dL_weeks_118 ?_
      refine lv_aload_n hx hb dL_weeks_119 rfl (lv_at hl 0 rfl) ?_
      refine lv_iload hx hb dL_weeks_120 (lv_at hl 5 rfl) ?_
      refine lv_iconst (v := (5 : Int32)) hx hb dL_weeks_122 (by decide) ?_
      refine kA (As := [.ref (ad0 360), .int v6, .int (5 : Int32)]) (rest := [.int (((7 : Int32) * v6) + (4 : Int32)), .ref w]) X (fun q h => h) hW0 hS (tI_tryMember l D cy ad0 ba0 hl0 z0 v6 (5 : Int32)) (vx_cwSW (hh := [(0, 6, 7, 30), (0, 6, 11, 13)]) 3 X.2.2.2.2.2.1 gL_weeks_L_tryMember rfl rfl rfl kdL_tryMember.2 ⟨(Nat.le_of_ble_eq_true rfl), (Nat.le_of_ble_eq_true rfl)⟩) rfl rfl hl.1 (Nat.le_of_ble_eq_true rfl) ⟨by show _ ≤ 216; omega, by show _ ≤ 1354; omega⟩ dL_weeks_123 (fun H locs hW0 hS hz hk => ?_)
      replace hww := (hk w (aW_lt hww) hwb).trans hww
      clear hz hk
      refine lv_bipush (v := (20 : Int32)) hx hb dL_weeks_126 (by decide) ?_
      refine lv_aload_n hx hb dL_weeks_128 rfl (lv_at hl 0 rfl) ?_
      refine lv_iload hx hb dL_weeks_129 (lv_at hl 5 rfl) ?_
      refine lv_aload_n hx hb dL_weeks_131 rfl (lv_at hl 0 rfl) ?_
      refine lv_iload hx hb dL_weeks_132 (lv_at hl 5 rfl) ?_
      refine lv_iconst (v := (4 : Int32)) hx hb dL_weeks_134 (by decide) ?_
      refine kA (As := [.ref (ad0 360), .int v6, .int (4 : Int32)]) (rest := [.int v6, .ref (ad0 360), .int (20 : Int32), .int (A_tryMember z0 v6 (5 : Int32)), .int (((7 : Int32) * v6) + (4 : Int32)), .ref w]) X (fun q h => h) hW0 hS (tI_tryMember l D cy ad0 ba0 hl0 z0 v6 (4 : Int32)) (vx_cwSW (hh := [(0, 6, 7, 30), (0, 6, 11, 13)]) 3 X.2.2.2.2.2.1 gL_weeks_L_tryMember rfl rfl rfl kdL_tryMember.2 ⟨(Nat.le_of_ble_eq_true rfl), (Nat.le_of_ble_eq_true rfl)⟩) rfl rfl hl.1 (Nat.le_of_ble_eq_true rfl) ⟨by show _ ≤ 216; omega, by show _ ≤ 1354; omega⟩ dL_weeks_135 (fun H locs hW0 hS hz hk => ?_)
      replace hww := (hk w (aW_lt hww) hwb).trans hww
      clear hz hk
      refine kA (As := [.ref (ad0 360), .int v6, .int (A_tryMember z0 v6 (4 : Int32))]) (rest := [.int (20 : Int32), .int (A_tryMember z0 v6 (5 : Int32)), .int (((7 : Int32) * v6) + (4 : Int32)), .ref w]) X (fun q h => h) hW0 hS (tI_tryMember l D cy ad0 ba0 hl0 z0 v6 (A_tryMember z0 v6 (4 : Int32))) (vx_cwSW (hh := [(0, 6, 7, 30), (0, 6, 11, 13)]) 3 X.2.2.2.2.2.1 gL_weeks_L_tryMember rfl rfl rfl kdL_tryMember.2 ⟨(Nat.le_of_ble_eq_true rfl), (Nat.le_of_ble_eq_true rfl)⟩) rfl rfl hl.1 (Nat.le_of_ble_eq_true rfl) ⟨by show _ ≤ 216; omega, by show _ ≤ 1354; omega⟩ dL_weeks_138 (fun H locs hW0 hS hz hk => ?_)
      replace hww := (hk w (aW_lt hww) hwb).trans hww
      clear hz hk
      refine lv_imul hx hb dL_weeks_141 ?_
      refine lv_iadd hx hb dL_weeks_142 ?_
      obtain ⟨h_10, hf⟩ := chk_some hf
      refine aw_st X hS hww hwo h_10 dL_weeks_143 (fun H1 hww oq hS => ?_)
      replace hW0 := aR_kept hW0 (fun q h1 h2 => oq q (fun e => hwb (e ▸ h2)))
      clear oq
      generalize upd wf5 (((7 : Int32) * v6) + (4 : Int32)).toNatClampNeg ((A_tryMember z0 v6 (5 : Int32)) + ((20 : Int32) * (A_tryMember z0 v6 (A_tryMember z0 v6 (4 : Int32))))) = wf6 at hf hww
      replace hf := lt1_e hf
      refine lv_aload hx hb dL_weeks_144 (lv_at hl 4 rfl) ?_
      refine lv_bipush (v := (7 : Int32)) hx hb dL_weeks_146 (by decide) ?_
      refine lv_iload hx hb dL_weeks_148 (lv_at hl 5 rfl) ?_
      refine lv_imul hx hb dL_weeks_150 ?_
      refine lv_iconst (v := (5 : Int32)) hx hb dL_weeks_151 (by decide) ?_
      refine lv_iadd hx hb dL_weeks_152 ?_
      refine lv_aload hx hb dL_weeks_153 (lv_at hl 4 rfl) ?_
      refine lv_bipush (v := (7 : Int32)) hx hb dL_weeks_155 (by decide) ?_
      refine lv_iload hx hb dL_weeks_157 (lv_at hl 5 rfl) ?_
      refine lv_imul hx hb dL_weeks_159 ?_
      refine aw_ld X hww h_6 dL_weeks_160 ?_
      refine lv_sipush (v := (-9999 : Int32)) hx hb dL_weeks_161 (by decide) ?_
      refine lv_icmp_ne (tgt := 171) hx hb dL_weeks_164 (by decide) (fun c_11 => ?_) (fun c_11 => ?_)
      · replace hf := ite_f c_11 hf
        refine lv_aload_n hx hb dL_weeks_171 rfl (lv_at hl 0 rfl) ?_
        refine lv_iload hx hb dL_weeks_172 (lv_at hl 5 rfl) ?_
        refine lv_aload hx hb dL_weeks_174 (lv_at hl 4 rfl) ?_
        refine lv_bipush (v := (7 : Int32)) hx hb dL_weeks_176 (by decide) ?_
        refine lv_iload hx hb dL_weeks_178 (lv_at hl 5 rfl) ?_
        refine lv_imul hx hb dL_weeks_180 ?_
        refine aw_ld X hww h_6 dL_weeks_181 ?_
        obtain ⟨r_12, hq_13, hf⟩ := bd1_some hf
        refine kB (As := [.ref (ad0 360), .int v6, .int (wf6 ((7 : Int32) * v6).toNatClampNeg)]) (rest := [.int (((7 : Int32) * v6) + (5 : Int32)), .ref w]) X (fun q h => h) hW0 aX_no hS (zcL_lead l D cy ad0 ba0 hl0 _ hq_13) (va_cwS 3 X.2.2.2.2.2.1 gL_weeks_L_lead rfl rfl rfl kdL_lead.2 ⟨(Nat.le_of_ble_eq_true rfl), (Nat.le_of_ble_eq_true rfl)⟩) rfl rfl hl.1 (Nat.le_of_ble_eq_true rfl) ⟨by show _ ≤ 216; omega, by show _ ≤ 1354; omega⟩ dL_weeks_182 (fun H locs hW0 hS hz hk => ?_)
        replace hww := (hk w (aW_lt hww) hwb).trans hww
        clear hz hk
        exact bL_weeks_185 (x1 := x1) X hl0 ih z0 w wf6 v2 v3 v4 v6 r_12 (((7 : Int32) * v6) + (5 : Int32)) _ _ _ _ _ (by omega) (by omega) hW0 hwo hwb hww hS (lv_sub hl [0, 1, 2, 3, 4, 5] rfl) hf
      · replace hf := ite_t c_11 hf
        refine lv_iconst (v := (0 : Int32)) hx hb dL_weeks_167 (by decide) ?_
        refine lv_goto (tgt := 185) hx hb dL_weeks_168 (by decide) ?_
        exact bL_weeks_185 (x1 := x1) X hl0 ih z0 w wf6 v2 v3 v4 v6 (0 : Int32) (((7 : Int32) * v6) + (5 : Int32)) _ _ _ _ _ (by omega) (by omega) hW0 hwo hwb hww hS (lv_sub hl [0, 1, 2, 3, 4, 5] rfl) hf
set_option maxRecDepth 100000 in
set_option maxHeartbeats 4000000 in
theorem bL_weeks_0 {p : Program} {l : Launch} {e : Env} {s : State} {m : MethodId} {args : Array Value} {below : List Frame} {meth : Method} {c : Code} {D : va_G} {cy : Nat → ClassId} {ad0 : Nat → Nat} {ba0 : Nat → Prop} {x1 : Int32} {res : (Int32 × aS)} (X : teC wsL_weeks RL cL_weeks 19 (some .boolean) D cy ba0 p s m args meth c) (hl0 : l.stackTraces = false) : ∀ (z0 : aS) (H : Heap) (locs : List Loc) (ls : Array Slot) (ce sl : Nat), ce + (216) ≤ 216 → sl + (1354) ≤ 1354 → aR D cy ad0 ba0 z0 H → va_S ba0 s.heap H locs → lv_has ls 19 [(0, .ref (ad0 360)), (1, .int x1)] → hL_weeks x1 z0 = some res → W p l e (headSpec wsL_weeks rmL_weeks).room s m args below meth c H locs ce sl (MQ below (va_Qi (fun a (_ : Unit) => a = res.1) (fun _ t => (aR D cy ad0 ba0 res.2) t.heap) ba0) args s 216 1354 ba0) (F0 m 0 ls []) := by
  have hx := X.1
  have hb := X.2.1
  have hown := X.2.2.2.2.1
  intro z0 H locs ls ce sl hb1_ hb2_ hW0 hS hl hf
  unfold hL_weeks at hf
  refine lv_aload_n hx hb dL_weeks_0 rfl (lv_at hl 0 rfl) ?_
  refine lv_iconst (v := (0 : Int32)) hx hb dL_weeks_1 (by decide) ?_
  refine kA (As := [.ref (ad0 360), .int (0 : Int32)]) (rest := []) X (fun q h => h) hW0 hS (tI_tryAbout l D cy ad0 ba0 hl0 z0 (0 : Int32)) (vx_cwSW (hh := [(0, 5, 6, 13)]) 2 X.2.2.2.2.2.1 gL_weeks_L_tryAbout rfl rfl rfl kdL_tryAbout.2 ⟨(Nat.le_of_ble_eq_true rfl), (Nat.le_of_ble_eq_true rfl)⟩) rfl rfl hl.1 (Nat.le_of_ble_eq_true rfl) ⟨by show _ ≤ 216; omega, by show _ ≤ 1354; omega⟩ dL_weeks_2 (fun H locs hW0 hS hz hk => ?_)
  clear hz hk
  refine lv_istore_n (lv' := [(2, .int (A_tryAbout z0 (0 : Int32))), (0, .ref (ad0 360)), (1, .int x1)]) hx hb dL_weeks_5 rfl hl (by decide) rfl (fun ls hl => ?_)
  refine lv_iload_n hx hb dL_weeks_6 rfl (lv_at hl 2 rfl) ?_
  refine lv_sipush (v := (512 : Int32)) hx hb dL_weeks_7 (by decide) ?_
  refine lv_irem hx hb dL_weeks_10 (by decide) ?_
  refine lv_iload_n hx hb dL_weeks_11 rfl (lv_at hl 2 rfl) ?_
  refine lv_sipush (v := (512 : Int32)) hx hb dL_weeks_12 (by decide) ?_
  refine lv_idiv hx hb dL_weeks_15 (by decide) ?_
  refine lv_iand hx hb dL_weeks_16 ?_
  refine lv_istore_n (lv' := [(3, .int ((x1 - x1 / (512 : Int32) * (512 : Int32)) &&& (x1 / (512 : Int32)))), (2, .int (A_tryAbout z0 (0 : Int32))), (0, .ref (ad0 360)), (1, .int x1)]) hx hb dL_weeks_17 rfl hl (by decide) rfl (fun ls hl => ?_)
  refine lv_aload_n hx hb dL_weeks_18 rfl (lv_at hl 2 rfl) ?_
  refine lv_iconst (v := (2 : Int32)) hx hb dL_weeks_19 (by decide) ?_
  refine kA (As := [.ref (ad0 360), .int (2 : Int32)]) (rest := []) X (fun q h => h) hW0 hS (tI_tryAbout l D cy ad0 ba0 hl0 z0 (2 : Int32)) (vx_cwSW (hh := [(0, 5, 6, 13)]) 2 X.2.2.2.2.2.1 gL_weeks_L_tryAbout rfl rfl rfl kdL_tryAbout.2 ⟨(Nat.le_of_ble_eq_true rfl), (Nat.le_of_ble_eq_true rfl)⟩) rfl rfl hl.1 (Nat.le_of_ble_eq_true rfl) ⟨by show _ ≤ 216; omega, by show _ ≤ 1354; omega⟩ dL_weeks_20 (fun H locs hW0 hS hz hk => ?_)
  clear hz hk
  refine lv_istore (lv' := [(4, .int (A_tryAbout z0 (2 : Int32))), (3, .int ((x1 - x1 / (512 : Int32) * (512 : Int32)) &&& (x1 / (512 : Int32)))), (2, .int (A_tryAbout z0 (0 : Int32))), (0, .ref (ad0 360)), (1, .int x1)]) hx hb dL_weeks_23 hl (by decide) rfl (fun ls hl => ?_)
  refine lv_bipush (v := (64 : Int32)) hx hb dL_weeks_25 (by decide) ?_
  replace hf := lt1_e hf
  refine aw_new (N := 64) X wL_weeks_ac hS (by decide) rfl (Nat.le_of_ble_eq_true rfl) (by show _ ≤ 216; omega) (by show _ ≤ 1354; omega) dL_weeks_27 (fun w H1 hwo hwH hk hww hS => ?_)
  have hwb : ¬ ba0 w := fun h => by rw [hwH] at h; exact aR_in hW0 h (Nat.le_refl _)
  replace hW0 := aR_kept hW0 (fun q h1 _ => hk q h1)
  clear hwH hk
  generalize hwf : (fun _ => (0 : Int32)) = wf0 at hf hww
  clear hwf
  refine lv_astore (lv' := [(5, .ref w), (4, .int (A_tryAbout z0 (2 : Int32))), (3, .int ((x1 - x1 / (512 : Int32) * (512 : Int32)) &&& (x1 / (512 : Int32)))), (2, .int (A_tryAbout z0 (0 : Int32))), (0, .ref (ad0 360)), (1, .int x1)]) hx hb dL_weeks_29 hl (by decide) rfl (fun ls hl => ?_)
  refine lv_iconst (v := (0 : Int32)) hx hb dL_weeks_31 (by decide) ?_
  refine lv_istore (lv' := [(6, .int (0 : Int32)), (5, .ref w), (4, .int (A_tryAbout z0 (2 : Int32))), (3, .int ((x1 - x1 / (512 : Int32) * (512 : Int32)) &&& (x1 / (512 : Int32)))), (2, .int (A_tryAbout z0 (0 : Int32))), (0, .ref (ad0 360)), (1, .int x1)]) hx hb dL_weeks_32 hl (by decide) rfl (fun ls hl => ?_)
  exact bL_weeks_34 (x1 := x1) X hl0 10 z0 w wf0 (A_tryAbout z0 (0 : Int32)) ((x1 - x1 / (512 : Int32) * (512 : Int32)) &&& (x1 / (512 : Int32))) (A_tryAbout z0 (2 : Int32)) (0 : Int32) _ _ _ _ _ (by omega) (by omega) hW0 hwo hwb hww hS (lv_sub hl [5, 4, 3, 2, 1, 0] rfl) hf
theorem zcL_weeks (l : Launch) (D : va_G) (cy : Nat → ClassId) (ad0 : Nat → Nat) (ba0 : Nat → Prop) (hl0 : l.stackTraces = false) {z0 : aS} {x1 : Int32} (res : (Int32 × aS)) (hf : hL_weeks x1 z0 = some res) : aJ l yL_weeks wsL_weeks rmL_weeks 216 1354 D cy ba0 (aR D cy ad0 ba0 z0) false 0 0 (fun _ => 0) [.ref (ad0 360), .int x1] res.1 (aR D cy ad0 ba0 res.2) :=
  a_of (by decide) rfl (Nat.le_of_ble_eq_true rfl) (fun p e s m below meth c ls X hW hX hS hl => bL_weeks_0 (x1 := x1) X hl0 z0 _ _ _ 0 0 (Nat.le_of_ble_eq_true rfl) (Nat.le_of_ble_eq_true rfl) hW hS hl hf)
